set_option maxRecDepth 100000 in
theorem W_c1 (w : am_W) {d : Nat} {P : Option am_V → am_G → Prop} (hd : 1 ≤ d) (G0 : am_G) (h g p : Nat) (M C : mT) (h8 : h + 8 ≤ 102) (g8 : g + 8 ≤ 102) (hp : p < mN M) (hP : ilP C) (hfl : (gLx M true (mN M)) + gLx C true (mN C) ≤ 8) (hN : mN M + iN C - 1 ≤ 60) (hM0 : hldM G0 h M) (hC0 : hldM G0 g C) (K : ∀ (G : am_G) l6 l7 l8, St0 G → spI p (iN C) M G → dI G (mNew M p (iN C) (iC C p (gLx M true (mN M)) (iN C)) (iRR M C p)) (fun i => lay2 p (iN C) (mN M) i ∨ (p ≤ i ∧ i < p + mG C)) → oD G0 G → am_Go w jW_writeOutCall d (0, 0) 76 [some (.inr (some 150)), some (.inr (some h)), some (.inl (nI p)), some (.inr (some g)), some (.inl (nI (mG C))), some (.inl (nI (gLx M true (mN M)))), l6, l7, l8] [] G P) :
    ∀ (r k : Nat) (G : am_G) (l7 l8 : Option am_V), k + r = mG C → St0 G → spI p (iN C) M G → dI G (mNew M p (iN C) (iC C p (gLx M true (mN M)) (iN C)) (iRR M C p)) (fun i => lay2 p (iN C) (mN M) i ∨ (p ≤ i ∧ i < p + k)) → oD G0 G → am_Go w jW_writeOutCall d (0, 0) 40 [some (.inr (some 150)), some (.inr (some h)), some (.inl (nI p)), some (.inr (some g)), some (.inl (nI (mG C))), some (.inl (nI (gLx M true (mN M)))), some (.inl (nI k)), l7, l8] [] G P := by
  intro r
  induction r with
  | zero =>
    intro k G l7 l8 hk hS hs1 hI ho
    have hM := hM0.d h8 ho
    have hC := hC0.d g8 ho
    obtain ⟨xs, ⟨x0, x1, x2, x3, x4, x5, x6⟩, y1, y2, y3, y4, y5, y6, y7⟩ := id hC.1
    have hCv := hC.2.2.1
    have cn6 := hCv.1
    have cr8 := hCv.2.1
    have cg3 := hCv.2.2.1
    have eN : iN C = mG C + mN C := rfl
    have f8 := gLx_8 (r := true) hM.2.2.1 (mN M) (Nat.le_refl _)
    refine go_iload dW_writeOutCall_40 rfl ?_
    refine go_iload dW_writeOutCall_42 rfl ?_
    refine go_icmp_geN (by omega) (by omega) dW_writeOutCall_44 (tgt := 76) (by decide) (fun c1 => ?_) (fun c1 => absurd c1 (by omega))
    rw [show k = mG C by omega] at hI
    exact K G _ _ _ hS hs1 hI ho
  | succ r ih =>
    intro k G l7 l8 hk hS hs1 hI ho
    have hM := hM0.d h8 ho
    have hC := hC0.d g8 ho
    obtain ⟨xs, ⟨x0, x1, x2, x3, x4, x5, x6⟩, y1, y2, y3, y4, y5, y6, y7⟩ := id hC.1
    have hCv := hC.2.2.1
    have cn6 := hCv.1
    have cr8 := hCv.2.1
    have cg3 := hCv.2.2.1
    have eN : iN C = mG C + mN C := rfl
    have f8 := gLx_8 (r := true) hM.2.2.1 (mN M) (Nat.le_refl _)
    have hn6 := hM.2.2.1.1
    have k50 := hS.s sh_150
    have g50 := hS.r rt_150
    obtain ⟨ds, ⟨dr0, dr1, dr2, dr3, dr4, dr5, dr6⟩, ds1, ds2, ds3, ds4, ds5, ds6, ds7⟩ := hS.m dr_l
    obtain ⟨T1, T2, T3⟩ := mNew_in (M := M) (p := p) (n := iN C) (C := iC C p (gLx M true (mN M)) (iN C)) (R := (iRR M C p)) (show k < iN C by omega)
    rw [iC_s (show k < mG C by omega)] at T1 T2 T3
    refine go_iload dW_writeOutCall_40 rfl ?_
    refine go_iload dW_writeOutCall_42 rfl ?_
    refine go_icmp_geN (by omega) (by omega) dW_writeOutCall_44 (tgt := 76) (by decide) (fun c1 => absurd c1 (by omega)) (fun c1 => ?_)
    refine go_aload_n dW_writeOutCall_47 rfl rfl ?_
    refine go_getO dW_writeOutCall_48 flW_12 rfl (by assumption) (by assumption) ?_
    refine go_iload_n dW_writeOutCall_51 rfl rfl ?_
    refine go_iload dW_writeOutCall_52 rfl ?_
    first | refine go_iaddN dW_writeOutCall_54 ?_ | refine go_iadd dW_writeOutCall_54 ?_
    refine go_iconst (nI 3) (by decide) dW_writeOutCall_55 ?_
    refine go_iload dW_writeOutCall_56 rfl ?_
    refine go_iload dW_writeOutCall_58 rfl ?_
    first | refine go_iaddN dW_writeOutCall_60 ?_ | refine go_iadd dW_writeOutCall_60 ?_
    refine go_iconst (nI 1) (by decide) dW_writeOutCall_61 ?_
    refine go_isubN (by omega) dW_writeOutCall_62 ?_
    refine go_iload dW_writeOutCall_63 rfl ?_
    refine go_isubN (by omega) dW_writeOutCall_65 ?_
    refine go_iconst (nI 0) (by decide) dW_writeOutCall_66 ?_
    refine go_cV (k' := (0, 0)) dW_writeOutCall_67 _ csW_48 (by assumption) rfl imE_put seE_put rfl (okE_put (d := 0) w G 151 (p + k) 3 (nI ((gLx M true (mN M)) + mG C - 1 - k)) (nI 0) (by omega) (by decide) (hS.m dr_l)) (by omega) (by decide) (Nat.le_of_ble_eq_true rfl) (fun r G1 hr hn => ?_)
    obtain ⟨rfl, hG⟩ := hr
    rw [hG]
    clear hG hn
    refine go_inc dW_writeOutCall_70 rfl ?_
    refine go_goto dW_writeOutCall_73 (tgt := 40) (by decide) ?_
    refine ih (k + 1) _ _ _ (by omega) hS (spI_p hs1) (hI.put T1.symm T2.symm T3.symm (fun q => absurd q (by decide +kernel)) (fun _ => rfl) (fun i hi => ?_)) (ho.tr (oD.h8 E_putF_o))
    rcases hi with q | q
    · exact Or.inr (Or.inl q)
    · by_cases e : i = p + k
      · exact Or.inl e
      · exact Or.inr (Or.inr ⟨q.1, by omega⟩)
set_option maxRecDepth 100000 in
theorem W_c2 (w : am_W) {d : Nat} {P : Option am_V → am_G → Prop} (hd : 2 ≤ d) (G0 : am_G) (h g p : Nat) (M C : mT) (h8 : h + 8 ≤ 102) (g8 : g + 8 ≤ 102) (hp : p < mN M) (hP : ilP C) (hfl : (gLx M true (mN M)) + gLx C true (mN C) ≤ 8) (hN : mN M + iN C - 1 ≤ 60) (hM0 : hldM G0 h M) (hC0 : hldM G0 g C) (K : ∀ (G : am_G) l7 l8, St0 G → spI p (iN C) M G → dI G (mNew M p (iN C) (iC C p (gLx M true (mN M)) (iN C)) (iRR M C p)) (fun i => i < mN M + iN C - 1) → oD G0 G → am_Go w jW_writeOutCall d (0, 0) 111 [some (.inr (some 150)), some (.inr (some h)), some (.inl (nI p)), some (.inr (some g)), some (.inl (nI (mG C))), some (.inl (nI (gLx M true (mN M)))), some (.inl (nI (p + mG C))), l7, l8] [] G P) :
    ∀ (r k : Nat) (G : am_G) (l8 : Option am_V), k + r = mN C → St0 G → spI p (iN C) M G → dI G (mNew M p (iN C) (iC C p (gLx M true (mN M)) (iN C)) (iRR M C p)) (fun i => lay2 p (iN C) (mN M) i ∨ (p ≤ i ∧ i < p + (mG C + k))) → oD G0 G → am_Go w jW_writeOutCall d (0, 0) 85 [some (.inr (some 150)), some (.inr (some h)), some (.inl (nI p)), some (.inr (some g)), some (.inl (nI (mG C))), some (.inl (nI (gLx M true (mN M)))), some (.inl (nI (p + mG C))), some (.inl (nI k)), l8] [] G P := by
  intro r
  induction r with
  | zero =>
    intro k G l8 hk hS hs1 hI ho
    have hM := hM0.d h8 ho
    have hC := hC0.d g8 ho
    have mc := hC.2.1.1.1
    have hn6 := hM.2.2.1.1
    obtain ⟨xs, ⟨x0, x1, x2, x3, x4, x5, x6⟩, y1, y2, y3, y4, y5, y6, y7⟩ := id hC.1
    have hCv := hC.2.2.1
    have cn6 := hCv.1
    have cr8 := hCv.2.1
    have cg3 := hCv.2.2.1
    have eN : iN C = mG C + mN C := rfl
    have f8 := gLx_8 (r := true) hM.2.2.1 (mN M) (Nat.le_refl _)
    refine go_iload dW_writeOutCall_85 rfl ?_
    refine go_aload_n dW_writeOutCall_87 rfl rfl ?_
    refine go_getV dW_writeOutCall_88 flW_67 rfl (by assumption) (by first | assumption | (simp (disch := omega) only [wi_I, ro_I, wi_In, wi_Is]; done) | (simp (disch := omega) only [wi_I, ro_I, wi_In, wi_Is]; first | assumption | rfl) | rfl) ?_
    refine go_icmp_geN (by omega) (by omega) dW_writeOutCall_91 (tgt := 111) (by decide) (fun c1 => ?_) (fun c1 => absurd c1 (by omega))
    exact K G _ _ hS hs1 (fun i hi => hI i (by unfold lay2; have hi : i < mN M + iN C - 1 := hi; omega)) ho
  | succ r ih =>
    intro k G l8 hk hS hs1 hI ho
    have hM := hM0.d h8 ho
    have hC := hC0.d g8 ho
    have mc := hC.2.1.1.1
    have k50 := hS.s sh_150
    obtain ⟨xs, ⟨x0, x1, x2, x3, x4, x5, x6⟩, y1, y2, y3, y4, y5, y6, y7⟩ := id hC.1
    have hCv := hC.2.2.1
    have cn6 := hCv.1
    have cr8 := hCv.2.1
    have cg3 := hCv.2.2.1
    have eN : iN C = mG C + mN C := rfl
    have f8 := gLx_8 (r := true) hM.2.2.1 (mN M) (Nat.le_refl _)
    refine go_iload dW_writeOutCall_85 rfl ?_
    refine go_aload_n dW_writeOutCall_87 rfl rfl ?_
    refine go_getV dW_writeOutCall_88 flW_67 rfl (by assumption) (by first | assumption | (simp (disch := omega) only [wi_I, ro_I, wi_In, wi_Is]; done) | (simp (disch := omega) only [wi_I, ro_I, wi_In, wi_Is]; first | assumption | rfl) | rfl) ?_
    refine go_icmp_geN (by omega) (by omega) dW_writeOutCall_91 (tgt := 111) (by decide) (fun c1 => absurd c1 (by omega)) (fun c1 => ?_)
    refine go_aload_n dW_writeOutCall_94 rfl rfl ?_
    refine go_aload_n dW_writeOutCall_95 rfl rfl ?_
    refine go_iload dW_writeOutCall_96 rfl ?_
    refine go_iload dW_writeOutCall_98 rfl ?_
    refine go_iload dW_writeOutCall_100 rfl ?_
    refine go_cV (k' := (0, 0)) dW_writeOutCall_102 _ csW_74 (by assumption) rfl imW_putCalled seW_putCalled rfl (okW_putCalled (d := 1) w (by decide) G g p (gLx M true (mN M)) k M C (iRR M C p) g8 (by omega) f8 hp hN hM.2.2.1.1 hP hS hC hs1 hI) (by omega) (by decide) (Nat.le_of_ble_eq_true rfl) (fun r G1 hr hn => ?_)
    obtain ⟨rfl, z1, z2, o1⟩ := hr
    refine go_inc dW_writeOutCall_105 rfl ?_
    refine go_goto dW_writeOutCall_108 (tgt := 85) (by decide) ?_
    exact ih (k + 1) G1 _ (by omega) (o1.St hS) z1 z2 (ho.tr o1)
set_option maxRecDepth 100000 in
theorem W_c3 (w : am_W) {d : Nat} {P : Option am_V → am_G → Prop} (hd : 2 ≤ d) (G0 : am_G) (h g p : Nat) (M C : mT) (h8 : h + 8 ≤ 102) (g8 : g + 8 ≤ 102) (hp : p < mN M) (hP : ilP C) (hfl : (gLx M true (mN M)) + gLx C true (mN C) ≤ 8) (hN : mN M + iN C - 1 ≤ 60) (hM0 : hldM G0 h M) (hC0 : hldM G0 g C) (hg1 : G0.2.1 150 1 = nI p) (hg2 : G0.2.1 150 2 = nI (iN C) - nI 1) (K : ∀ (G : am_G) l7 l8, St0 G → cWw G (iR1 C (p + mG C) (mR C)) → oDr G0 G → am_Go w jW_writeOutCall d (0, 0) 181 [some (.inr (some 150)), some (.inr (some h)), some (.inl (nI p)), some (.inr (some g)), some (.inl (nI (mG C))), some (.inl (nI (gLx M true (mN M)))), some (.inl (nI (p + mG C))), l7, l8] [] G P) :
    ∀ (r k : Nat) (G : am_G) (l8 : Option am_V), k + r = mR C → St0 G → cWw G (iR1 C (p + mG C) k) → oDr G0 G → am_Go w jW_writeOutCall d (0, 0) 114 [some (.inr (some 150)), some (.inr (some h)), some (.inl (nI p)), some (.inr (some g)), some (.inl (nI (mG C))), some (.inl (nI (gLx M true (mN M)))), some (.inl (nI (p + mG C))), some (.inl (nI k)), l8] [] G P := by
  intro r
  induction r with
  | zero =>
    intro k G l8 hk hS hW ho
    have hM := hM0.d h8 ho.1
    have hC := hC0.d g8 ho.1
    have mr := hC.2.1.1.2.1
    obtain ⟨xs, ⟨x0, x1, x2, x3, x4, x5, x6⟩, y1, y2, y3, y4, y5, y6, y7⟩ := id hC.1
    have hCv := hC.2.2.1
    have cn6 := hCv.1
    have cr8 := hCv.2.1
    have cg3 := hCv.2.2.1
    have eN : iN C = mG C + mN C := rfl
    have f8 := gLx_8 (r := true) hM.2.2.1 (mN M) (Nat.le_refl _)
    refine go_iload dW_writeOutCall_114 rfl ?_
    refine go_aload_n dW_writeOutCall_116 rfl rfl ?_
    refine go_getV dW_writeOutCall_117 flW_52 rfl (by assumption) (by first | assumption | (simp (disch := omega) only [wi_I, ro_I, wi_In, wi_Is]; done) | (simp (disch := omega) only [wi_I, ro_I, wi_In, wi_Is]; first | assumption | rfl) | rfl) ?_
    refine go_icmp_geN (by omega) (by omega) dW_writeOutCall_120 (tgt := 181) (by decide) (fun c1 => ?_) (fun c1 => absurd c1 (by omega))
    rw [show k = mR C by omega] at hW
    exact K G _ _ hS hW ho
  | succ r ih =>
    intro k G l8 hk hS hW ho
    have hM := hM0.d h8 ho.1
    have hC := hC0.d g8 ho.1
    have mr := hC.2.1.1.2.1
    have mc := hC.2.1.1.1
    have hkr : k < mR C := by omega
    have k50 := hS.s sh_150
    have hn6 := hM.2.2.1.1
    obtain ⟨xs, ⟨x0, x1, x2, x3, x4, x5, x6⟩, y1, y2, y3, y4, y5, y6, y7⟩ := id hC.1
    have hCv := hC.2.2.1
    have cn6 := hCv.1
    have cr8 := hCv.2.1
    have cg3 := hCv.2.2.1
    have eN : iN C = mG C + mN C := rfl
    have f8 := gLx_8 (r := true) hM.2.2.1 (mN M) (Nat.le_refl _)
    obtain ⟨e1, e2, e3, e4⟩ := hC.2.1.2.2 k hkr
    obtain ⟨b1, b2, b3, b4⟩ := hCv.2.2.2.2 k hkr
    refine go_iload dW_writeOutCall_114 rfl ?_
    refine go_aload_n dW_writeOutCall_116 rfl rfl ?_
    refine go_getV dW_writeOutCall_117 flW_52 rfl (by assumption) (by first | assumption | (simp (disch := omega) only [wi_I, ro_I, wi_In, wi_Is]; done) | (simp (disch := omega) only [wi_I, ro_I, wi_In, wi_Is]; first | assumption | rfl) | rfl) ?_
    refine go_icmp_geN (by omega) (by omega) dW_writeOutCall_120 (tgt := 181) (by decide) (fun c1 => absurd c1 (by omega)) (fun c1 => ?_)
    refine go_aload_n dW_writeOutCall_123 rfl rfl ?_
    refine go_getO dW_writeOutCall_124 flW_77 rfl (by assumption) (by assumption) ?_
    refine go_iload dW_writeOutCall_127 rfl ?_
    refine go_ialV y5 (by omega) (by decide) e2 dW_writeOutCall_129 ?_
    refine go_aload_n dW_writeOutCall_130 rfl rfl ?_
    refine go_getV dW_writeOutCall_131 flW_67 rfl (by assumption) (by first | assumption | (simp (disch := omega) only [wi_I, ro_I, wi_In, wi_Is]; done) | (simp (disch := omega) only [wi_I, ro_I, wi_In, wi_Is]; first | assumption | rfl) | rfl) ?_
    refine go_min (by omega) (Nat.le_of_ble_eq_true rfl) lkW_80 min_st math_in min_co dW_writeOutCall_134 ?_
    rw [mn_n (by omega) (by omega)]
    refine go_istore dW_writeOutCall_137 (Nat.le_of_ble_eq_true rfl) ?_
    refine go_aload_n dW_writeOutCall_139 rfl rfl ?_
    refine go_iload dW_writeOutCall_140 rfl ?_
    refine go_aload_n dW_writeOutCall_142 rfl rfl ?_
    refine go_getO dW_writeOutCall_143 flW_86 rfl (by assumption) (by assumption) ?_
    refine go_iload dW_writeOutCall_146 rfl ?_
    refine go_ialV y4 (by omega) (by decide) e1 dW_writeOutCall_148 ?_
    refine go_iaddN dW_writeOutCall_149 ?_
    rw [Nat.add_comm (p + mG C) (mF C k)]
    refine go_iload dW_writeOutCall_150 rfl ?_
    refine go_iload dW_writeOutCall_152 rfl ?_
    refine go_iaddN dW_writeOutCall_154 ?_
    rw [Nat.add_comm (p + mG C) (min (mE C k) (mN C))]
    refine go_iload dW_writeOutCall_155 rfl ?_
    refine go_aload_n dW_writeOutCall_157 rfl rfl ?_
    refine go_getO dW_writeOutCall_158 flW_89 rfl (by assumption) (by assumption) ?_
    refine go_iload dW_writeOutCall_161 rfl ?_
    refine go_ialV y6 (by omega) (by decide) e3 dW_writeOutCall_163 ?_
    refine go_iaddN dW_writeOutCall_164 ?_
    rw [Nat.add_comm (p + mG C) (mP C k)]
    refine go_aload_n dW_writeOutCall_165 rfl rfl ?_
    refine go_getO dW_writeOutCall_166 flW_92 rfl (by assumption) (by assumption) ?_
    refine go_iload dW_writeOutCall_169 rfl ?_
    refine go_ialV y7 (by omega) (by decide) e4 dW_writeOutCall_171 ?_
    refine go_cV (k' := (0, 0)) dW_writeOutCall_172 _ csW_95 (by assumption) rfl imW_draftRow seW_draftRow rfl (okW_draftRow (d := 1) w (by decide) G (iR1 C (p + mG C) k) (mF C k + (p + mG C)) (min (mE C k) (mN C) + (p + mG C)) (mP C k + (p + mG C)) (mY C k) (nI (min (mE C k) (mN C) + (p + mG C))) hS hW (nI_ltI (by omega) (by omega)) (fun _ => rfl)) (by omega) (by decide) (Nat.le_of_ble_eq_true rfl) (fun r G1 hr hn => ?_)
    obtain ⟨rfl, Y1, o1⟩ := hr
    refine go_inc dW_writeOutCall_175 rfl ?_
    refine go_goto dW_writeOutCall_178 (tgt := 114) (by decide) ?_
    exact ih (k + 1) G1 _ (by omega) (o1.1.St hS) Y1 (ho.tr o1)
set_option maxRecDepth 100000 in
theorem W_c4 (w : am_W) {d : Nat} {P : Option am_V → am_G → Prop} (hd : 2 ≤ d) (G0 : am_G) (h g p : Nat) (M C : mT) (h8 : h + 8 ≤ 102) (g8 : g + 8 ≤ 102) (hp : p < mN M) (hP : ilP C) (hfl : (gLx M true (mN M)) + gLx C true (mN C) ≤ 8) (hN : mN M + iN C - 1 ≤ 60) (hM0 : hldM G0 h M) (hC0 : hldM G0 g C) (hg1 : G0.2.1 150 1 = nI p) (hg2 : G0.2.1 150 2 = nI (iN C) - nI 1) (K : ∀ (G : am_G) l7 l8, St0 G → cWw G (iRR M C p) → oDr G0 G → am_Go w jW_writeOutCall d (0, 0) 243 [some (.inr (some 150)), some (.inr (some h)), some (.inl (nI p)), some (.inr (some g)), some (.inl (nI (mG C))), some (.inl (nI (gLx M true (mN M)))), some (.inl (nI (p + mG C))), l7, l8] [] G P) :
    ∀ (r k : Nat) (G : am_G) (l8 : Option am_V), k + r = mR M → St0 G → cWw G (iR2 M p (iN C) (iR1 C (p + mG C) (mR C)) k) → oDr G0 G → am_Go w jW_writeOutCall d (0, 0) 184 [some (.inr (some 150)), some (.inr (some h)), some (.inl (nI p)), some (.inr (some g)), some (.inl (nI (mG C))), some (.inl (nI (gLx M true (mN M)))), some (.inl (nI (p + mG C))), some (.inl (nI k)), l8] [] G P := by
  intro r
  induction r with
  | zero =>
    intro k G l8 hk hS hW ho
    have hM := hM0.d h8 ho.1
    have mr := hM.2.1.1.2.1
    obtain ⟨hs, ⟨r0, r1, r2, r3, r4, r5, r6⟩, s1, s2, s3, s4, s5, s6, s7⟩ := id hM.1
    have hV := hM.2.2.1
    have hn6 := hV.1
    have hr8 := hV.2.1
    refine go_iload dW_writeOutCall_184 rfl ?_
    refine go_aload_n dW_writeOutCall_186 rfl rfl ?_
    refine go_getV dW_writeOutCall_187 flW_52 rfl (by assumption) (by first | assumption | (simp (disch := omega) only [wi_I, ro_I, wi_In, wi_Is]; done) | (simp (disch := omega) only [wi_I, ro_I, wi_In, wi_Is]; first | assumption | rfl) | rfl) ?_
    refine go_icmp_geN (by omega) (by omega) dW_writeOutCall_190 (tgt := 243) (by decide) (fun c1 => ?_) (fun c1 => absurd c1 (by omega))
    rw [show k = mR M by omega] at hW
    exact K G _ _ hS hW ho
  | succ r ih =>
    intro k G l8 hk hS hW ho
    have hM := hM0.d h8 ho.1
    have hC := hC0.d g8 ho.1
    have mr := hM.2.1.1.2.1
    have hkr : k < mR M := by omega
    have k50 := hS.s sh_150
    obtain ⟨hg1, hg2⟩ := ho.spI (M := M) hg1 hg2
    have bm : ∀ x, x ≤ mN M + 60 → mvd p (iN C) x < 1000 := fun x hx => by have := hC.2.2.1.1; have := hC.2.2.1.2.2.1; have := hM.2.2.1.1; have eN : iN C = mG C + mN C := rfl; unfold mvd; split <;> omega
    obtain ⟨hs, ⟨r0, r1, r2, r3, r4, r5, r6⟩, s1, s2, s3, s4, s5, s6, s7⟩ := id hM.1
    have hV := hM.2.2.1
    have hn6 := hV.1
    have hr8 := hV.2.1
    obtain ⟨xs, ⟨x0, x1, x2, x3, x4, x5, x6⟩, y1, y2, y3, y4, y5, y6, y7⟩ := id hC.1
    have hCv := hC.2.2.1
    have cn6 := hCv.1
    have cr8 := hCv.2.1
    have cg3 := hCv.2.2.1
    have eN : iN C = mG C + mN C := rfl
    have f8 := gLx_8 (r := true) hM.2.2.1 (mN M) (Nat.le_refl _)
    obtain ⟨e1, e2, e3, e4⟩ := hM.2.1.2.2 k hkr
    obtain ⟨b1, b2, b3, b4⟩ := hV.2.2.2.2 k hkr
    have bm1 := bm _ b1
    have bm2 := bm _ b2
    refine go_iload dW_writeOutCall_184 rfl ?_
    refine go_aload_n dW_writeOutCall_186 rfl rfl ?_
    refine go_getV dW_writeOutCall_187 flW_52 rfl (by assumption) (by first | assumption | (simp (disch := omega) only [wi_I, ro_I, wi_In, wi_Is]; done) | (simp (disch := omega) only [wi_I, ro_I, wi_In, wi_Is]; first | assumption | rfl) | rfl) ?_
    refine go_icmp_geN (by omega) (by omega) dW_writeOutCall_190 (tgt := 243) (by decide) (fun c1 => absurd c1 (by omega)) (fun c1 => ?_)
    refine go_aload_n dW_writeOutCall_193 rfl rfl ?_
    refine go_aload_n dW_writeOutCall_194 rfl rfl ?_
    refine go_aload_n dW_writeOutCall_195 rfl rfl ?_
    refine go_getO dW_writeOutCall_196 flW_86 rfl (by assumption) (by assumption) ?_
    refine go_iload dW_writeOutCall_199 rfl ?_
    refine go_ialV s4 (by omega) (by decide) e1 dW_writeOutCall_201 ?_
    refine go_cV (k' := (0, 0)) dW_writeOutCall_202 _ csW_98 (by assumption) rfl imW_moved seW_moved rfl (okW_moved (d := 0) w G p (iN C) (mF M k) hS hg1 hg2 (by omega) (by omega) (by omega)) (by omega) (by decide) (Nat.le_of_ble_eq_true rfl) (fun r G1 hr hn => ?_)
    obtain ⟨rfl, hG⟩ := hr
    rw [hG]
    clear hG hn
    refine go_aload_n dW_writeOutCall_205 rfl rfl ?_
    refine go_aload_n dW_writeOutCall_206 rfl rfl ?_
    refine go_getO dW_writeOutCall_207 flW_77 rfl (by assumption) (by assumption) ?_
    refine go_iload dW_writeOutCall_210 rfl ?_
    refine go_ialV s5 (by omega) (by decide) e2 dW_writeOutCall_212 ?_
    refine go_cV (k' := (0, 0)) dW_writeOutCall_213 _ csW_98 (by assumption) rfl imW_moved seW_moved rfl (okW_moved (d := 0) w G p (iN C) (mE M k) hS hg1 hg2 (by omega) (by omega) (by omega)) (by omega) (by decide) (Nat.le_of_ble_eq_true rfl) (fun r G1 hr hn => ?_)
    obtain ⟨rfl, hG⟩ := hr
    rw [hG]
    clear hG hn
    refine go_aload_n dW_writeOutCall_216 rfl rfl ?_
    refine go_aload_n dW_writeOutCall_217 rfl rfl ?_
    refine go_getO dW_writeOutCall_218 flW_89 rfl (by assumption) (by assumption) ?_
    refine go_iload dW_writeOutCall_221 rfl ?_
    refine go_ialV s6 (by omega) (by decide) e3 dW_writeOutCall_223 ?_
    refine go_cV (k' := (0, 0)) dW_writeOutCall_224 _ csW_98 (by assumption) rfl imW_moved seW_moved rfl (okW_moved (d := 0) w G p (iN C) (mP M k) hS hg1 hg2 (by omega) (by omega) (by omega)) (by omega) (by decide) (Nat.le_of_ble_eq_true rfl) (fun r G1 hr hn => ?_)
    obtain ⟨rfl, hG⟩ := hr
    rw [hG]
    clear hG hn
    refine go_aload_n dW_writeOutCall_227 rfl rfl ?_
    refine go_getO dW_writeOutCall_228 flW_92 rfl (by assumption) (by assumption) ?_
    refine go_iload dW_writeOutCall_231 rfl ?_
    refine go_ialV s7 (by omega) (by decide) e4 dW_writeOutCall_233 ?_
    refine go_cV (k' := (0, 0)) dW_writeOutCall_234 _ csW_95 (by assumption) rfl imW_draftRow seW_draftRow rfl (okW_draftRow (d := 1) w (by decide) G (iR2 M p (iN C) (iR1 C (p + mG C) (mR C)) k) (mvd p (iN C) (mF M k)) (mvd p (iN C) (mE M k)) (mvd p (iN C) (mP M k)) (mY M k) (nI (mvd p (iN C) (mE M k))) hS hW (nI_ltI (by omega) (by omega)) (fun _ => rfl)) (by omega) (by decide) (Nat.le_of_ble_eq_true rfl) (fun r G1 hr hn => ?_)
    obtain ⟨rfl, Y1, o1⟩ := hr
    refine go_inc dW_writeOutCall_237 rfl ?_
    refine go_goto dW_writeOutCall_240 (tgt := 184) (by decide) ?_
    exact ih (k + 1) G1 _ (by omega) (o1.1.St hS) Y1 (ho.tr o1)
set_option maxRecDepth 100000 in
theorem okW_writeOutCall (w : am_W) {d : Nat} (hd : 3 ≤ d) (G : am_G) (h g p : Nat) (M C : mT) (h8 : h + 8 ≤ 102) (g8 : g + 8 ≤ 102) (hp : p < mN M) (hP : ilP C) (hfl : (gLx M true (mN M)) + gLx C true (mN C) ≤ 8) (hS : St0 G) (hM : hldM G h M) (hC : hldM G g C) : am_Ok w jW_writeOutCall d (0, 0) [.inr (some 150), .inr (some h), .inl (nI p), .inr (some g)] G (fun r G' => (r = some (.inl (-3)) ∧ (60 < mN M + iN C - 1 ∨ 8 < (iRR M C p).1) ∧ oD G G') ∨ (r = some (.inl (nI (mN M + iN C - 1))) ∧ mN M + iN C - 1 ≤ 60 ∧ (iRR M C p).1 ≤ 8 ∧ ∃ G1, oD G G1 ∧ oR (hR8 h) G1 G' ∧ cM G' h (mNew M p (iN C) (iC C p (gLx M true (mN M)) (iN C)) (iRR M C p)))) := by
  refine am_ok_of rfl (Nat.le_of_ble_eq_true rfl) ?_
  show am_Go w jW_writeOutCall d (0, 0) 0 [some (.inr (some 150)), some (.inr (some h)), some (.inl (nI p)), some (.inr (some g)), none, none, none, none, none] [] G _
  obtain ⟨hs, ⟨r0, r1, r2, r3, r4, r5, r6⟩, s1, s2, s3, s4, s5, s6, s7⟩ := id hM.1
  have hV := hM.2.2.1
  have hn6 := hV.1
  have hr8 := hV.2.1
  obtain ⟨xs, ⟨x0, x1, x2, x3, x4, x5, x6⟩, y1, y2, y3, y4, y5, y6, y7⟩ := id hC.1
  have hCv := hC.2.2.1
  have cn6 := hCv.1
  have cr8 := hCv.2.1
  have cg3 := hCv.2.2.1
  have eN : iN C = mG C + mN C := rfl
  have f8 := gLx_8 (r := true) hM.2.2.1 (mN M) (Nat.le_refl _)
  have k50 := hS.s sh_150
  have ag := hC.2.1.1.2.2.1
  have mc := hC.2.1.1.1
  refine go_aload_n dW_writeOutCall_0 rfl rfl ?_
  refine go_getV dW_writeOutCall_1 flW_64 rfl (by assumption) (by first | assumption | (simp (disch := omega) only [wi_I, ro_I, wi_In, wi_Is]; done) | (simp (disch := omega) only [wi_I, ro_I, wi_In, wi_Is]; first | assumption | rfl) | rfl) ?_
  refine go_istore dW_writeOutCall_4 (Nat.le_of_ble_eq_true rfl) ?_
  refine go_aload_n dW_writeOutCall_6 rfl rfl ?_
  refine go_aload_n dW_writeOutCall_7 rfl rfl ?_
  refine go_iload_n dW_writeOutCall_8 rfl rfl ?_
  refine go_iload dW_writeOutCall_9 rfl ?_
  refine go_aload_n dW_writeOutCall_11 rfl rfl ?_
  refine go_getV dW_writeOutCall_12 flW_67 rfl (by assumption) (by first | assumption | (simp (disch := omega) only [wi_I, ro_I, wi_In, wi_Is]; done) | (simp (disch := omega) only [wi_I, ro_I, wi_In, wi_Is]; first | assumption | rfl) | rfl) ?_
  refine go_iaddN dW_writeOutCall_15 ?_
  refine go_cV (k' := (0, 0)) dW_writeOutCall_16 _ csW_30 (by assumption) rfl imW_spread seW_spread rfl (okW_spread (d := 1) w (by decide) G h p (iN C) M (iC C p (gLx M true (mN M)) (iN C)) (iRR M C p) h8 hp (by omega) hS hM) (by omega) (by decide) (Nat.le_of_ble_eq_true rfl) (fun r G1 hr hn => ?_)
  obtain ⟨rfl, hz⟩ := hr
  have hS : St0 G1 := by
    rcases hz with ⟨-, -, z3⟩ | ⟨-, -, -, z4⟩
    · exact z3.St hS
    · exact z4.St hS
  have k50 := hS.s sh_150
  obtain ⟨Ga, ea⟩ : ∃ Ga, Ga = G1 := ⟨_, rfl⟩
  subst ea
  rcases hz with ⟨z1, z2, z3⟩ | ⟨z1, z2, z3, z4⟩
  · refine go_aload_n dW_writeOutCall_19 rfl rfl ?_
    refine go_getV dW_writeOutCall_20 flW_34 rfl (by assumption) (by first | assumption | (simp (disch := omega) only [wi_I, ro_I, wi_In, wi_Is]; done) | (simp (disch := omega) only [wi_I, ro_I, wi_In, wi_Is]; first | assumption | rfl) | rfl) ?_
    refine go_if_eqB dW_writeOutCall_23 (tgt := 29) (by decide) (fun c1 => absurd c1 (by decide)) (fun c1 => ?_)
    refine go_bipush (-3) (by decide) dW_writeOutCall_26 ?_
    refine go_ireturn rfl dW_writeOutCall_28 ?_
    exact Or.inl ⟨rfl, Or.inl z1, z3⟩
  · have fl := z2.2.2.1
    have hs := (hM.d h8 z4).1.1
    refine go_aload_n dW_writeOutCall_19 rfl rfl ?_
    refine go_getV dW_writeOutCall_20 flW_34 rfl (by assumption) (by first | assumption | (simp (disch := omega) only [wi_I, ro_I, wi_In, wi_Is]; done) | (simp (disch := omega) only [wi_I, ro_I, wi_In, wi_Is]; first | assumption | rfl) | rfl) ?_
    refine go_if_eqB dW_writeOutCall_23 (tgt := 29) (by decide) (fun c1 => ?_) (fun c1 => absurd c1 (by decide))
    refine go_aload_n dW_writeOutCall_29 rfl rfl ?_
    refine go_cV (k' := (0, 0)) dW_writeOutCall_30 _ csW_70 (by assumption) rfl imE_greatestLocal seE_greatestLocal rfl (okE_greatestLocal (d := 1) w (by decide) Ga h M (hM.d h8 z4)) (by omega) (by decide) (Nat.le_of_ble_eq_true rfl) (fun r G1 hr hn => ?_)
    obtain ⟨rfl, hG⟩ := hr
    rw [hG]
    clear hG hn
    refine go_iconst (nI 1) (by decide) dW_writeOutCall_33 ?_
    refine (go_iadd dW_writeOutCall_34 ?_)
    rw [nM_p]
    refine go_istore dW_writeOutCall_35 (Nat.le_of_ble_eq_true rfl) ?_
    refine go_iconst (nI 0) (by decide) dW_writeOutCall_37 ?_
    refine go_istore dW_writeOutCall_38 (Nat.le_of_ble_eq_true rfl) ?_
    refine W_c1 w (by omega) Ga h g p M C h8 g8 hp hP hfl z1 (hM.d h8 z4) (hC.d g8 z4) (fun X j6 j7 j8 SX PX IX oA => ?_) (mG C) 0 Ga _ _ (by omega) hS z2 (fun i hi => z3 i (hi.resolve_right (by omega))) oD.rf
    refine go_iload_n dW_writeOutCall_76 rfl rfl ?_
    refine go_iload dW_writeOutCall_77 rfl ?_
    refine go_iaddN dW_writeOutCall_79 ?_
    refine go_istore dW_writeOutCall_80 (Nat.le_of_ble_eq_true rfl) ?_
    refine go_iconst (nI 0) (by decide) dW_writeOutCall_82 ?_
    refine go_istore dW_writeOutCall_83 (Nat.le_of_ble_eq_true rfl) ?_
    refine W_c2 w (by omega) X h g p M C h8 g8 hp hP hfl z1 ((hM.d h8 z4).d h8 oA) ((hC.d g8 z4).d g8 oA) (fun Y i7 i8 SY PY IY oB => ?_) (mN C) 0 X _ (by omega) SX PX (fun i hi => IX i (by rcases hi with q | q; exact Or.inl q; exact Or.inr ⟨q.1, by omega⟩)) oD.rf
    refine go_iconst (nI 0) (by decide) dW_writeOutCall_111 ?_
    refine go_istore dW_writeOutCall_112 (Nat.le_of_ble_eq_true rfl) ?_
    refine W_c3 w (by omega) Y h g p M C h8 g8 hp hP hfl z1 (((hM.d h8 z4).d h8 oA).d h8 oB) (((hC.d g8 z4).d g8 oA).d g8 oB) PY.1 PY.2.1 (fun U a7 a8 SU WU oC => ?_) (mR C) 0 Y _ (by omega) SY (cWw.z PY) oDr.rf
    refine go_iconst (nI 0) (by decide) dW_writeOutCall_181 ?_
    refine go_istore dW_writeOutCall_182 (Nat.le_of_ble_eq_true rfl) ?_
    obtain ⟨PU1, PU2⟩ := oC.spI (M := M) PY.1 PY.2.1
    refine W_c4 w (by omega) U h g p M C h8 g8 hp hP hfl z1 ((((hM.d h8 z4).d h8 oA).d h8 oB).d h8 oC.1) ((((hC.d g8 z4).d g8 oA).d g8 oB).d g8 oC.1) PU1 PU2 (fun V b7 b8 SV WV oE => ?_) (mR M) 0 U _ (by omega) SU WU oDr.rf
    have k50 := SV.s sh_150
    have oF := oC.tr oE
    by_cases c8 : 8 < (iRR M C p).1
    · refine go_aload_n dW_writeOutCall_243 rfl rfl ?_
      refine go_aload_n dW_writeOutCall_244 rfl rfl ?_
      refine go_cV (k' := (0, 0)) dW_writeOutCall_245 _ csW_60 (by assumption) rfl imW_takeOver seW_takeOver rfl (okW_toA (d := 0) w V h (iRR M C p) SV WV c8) (by omega) (by decide) (Nat.le_of_ble_eq_true rfl) (fun r G1 hr hn => ?_)
      obtain ⟨rfl, hG⟩ := hr
      rw [hG]
      clear hG hn
      refine go_ireturn rfl dW_writeOutCall_248 ?_
      exact Or.inl ⟨rfl, Or.inr c8, (((z4.tr oA).tr oB).tr oC.1).tr oE.1⟩
    · have flV : V.2.1 150 3 = am_b false := by rw [WV.2.1, decide_eq_false c8]
      have CV : cM V 151 (mNew M p (iN C) (iC C p (gLx M true (mN M)) (iN C)) (iRR M C p)) := cM.dr (N := mN M + iN C - 1) rfl (by rw [oF.2.2.1 7 (by decide)]; exact PY.2.2.2.1) (by rw [oF.2.2.1 9 (by decide)]; exact PY.2.2.2.2.2.1) (by rw [oF.2.2.1 10 (by decide)]; exact PY.2.2.2.2.2.2) (IY.same (fun i i1 i2 => oF.2.1 i i1 i2)) WV (by show (iRR M C p).1 ≤ 8; omega)
      refine go_aload_n dW_writeOutCall_243 rfl rfl ?_
      refine go_aload_n dW_writeOutCall_244 rfl rfl ?_
      refine go_cV (k' := (0, 0)) dW_writeOutCall_245 _ csW_60 (by assumption) rfl imW_takeOver seW_takeOver rfl (okW_toB (d := 2) w (by decide) V h (mNew M p (iN C) (iC C p (gLx M true (mN M)) (iN C)) (iRR M C p)) h8 SV (hM.d h8 ((((z4.tr oA).tr oB).tr oC.1).tr oE.1)).1 flV CV z1 (by show (iRR M C p).1 ≤ 8; omega)) (by omega) (by decide) (Nat.le_of_ble_eq_true rfl) (fun r G1 hr hn => ?_)
      obtain ⟨rfl, B9, o9⟩ := hr
      refine go_ireturn rfl dW_writeOutCall_248 ?_
      exact Or.inr ⟨rfl, z1, (by omega), V, (((z4.tr oA).tr oB).tr oC.1).tr oE.1, o9, B9⟩
