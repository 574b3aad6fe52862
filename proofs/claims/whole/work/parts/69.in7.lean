theorem plE.n23 {M : mT} {b e i : Nat} (h : plE M b e) (h1 : b < i) (h2 : i < e) : mO M i ≠ 23 := by
  have := h.2.1 i (by have := h.1.1; omega)
  unfold plI at this
  rw [if_pos ⟨h1, h2⟩] at this
  exact this.1
theorem cWw.z {p n : Nat} {M : mT} {G : am_G} (h : spI p n M G) : cWw G wZ := ⟨h.2.2.2.2.1, by rw [h.2.2.1]; rfl, fun i hi => absurd hi (Nat.not_lt_zero i)⟩
theorem uC_0 {M : mT} {p b k : Nat} (hV : mV M) (hk : b + 1 + k < mN M) (h : am_sf 1 (mO M (b + 1 + k)) = -1) : (uC M p b k).2.2 = 0 := by
  obtain ⟨h1, -, -, h4⟩ := hV.2.2.2.1 _ hk
  rw [uC_n (fun q => sf_59 _ h1 q h)]
  exact h4 h
theorem hasT {y : Int32} {n : Nat} {x : Int32} {f : Nat → Int32} (hn : n ≤ 60) (h : (bel y n && decide (f y.toNatClampNeg = x)) = true) : ∃ p, p < n ∧ y = nI p ∧ f p = x := by
  rw [Bool.and_eq_true] at h
  obtain ⟨p, hp, rfl⟩ := bel_of h.1 (by omega)
  have h2 := of_decide_eq_true h.2
  rw [nI_clamp (by omega)] at h2
  exact ⟨p, hp, rfl, h2⟩
theorem hasF {y : Int32} {n : Nat} {x : Int32} {f : Nat → Int32} (h : (bel y n && decide (f y.toNatClampNeg = x)) = false) : bel y n = false ∨ (bel y n = true ∧ ¬ f y.toNatClampNeg = x) := by
  cases hb : bel y n with
  | false => exact Or.inl rfl
  | true => rw [hb, Bool.true_and] at h; exact Or.inr ⟨rfl, of_decide_eq_false h⟩
theorem uU_h {s : sT} {m : Nat} {y : Int32} {f : Nat → Int32} (hV : mV (zM s m)) (hf : ∀ i, i < mN (zM s m) → f i = nI (mO (zM s m) i)) (h : (bel y (mN (zM s m)) && decide (f y.toNatClampNeg = nI 23)) = false) : uU s m y = (-2, s) := by
  have hn6 := hV.1
  rcases hasF h with q | ⟨q1, q2⟩
  · exact uU_o q
  · obtain ⟨p, hp, rfl⟩ := bel_of q1 (by omega)
    rw [nI_clamp (by omega)] at q2
    exact uU_g (by omega) (fun e => q2 (by rw [hf p hp, e]))

set_option maxRecDepth 100000 in
theorem W_w1 (w : am_W) {d : Nat} {P : Option am_V → am_G → Prop} (hd : 1 ≤ d) (G0 : am_G) (h p b e n : Nat) (M : mT) (h8 : h + 8 ≤ 102) (hp : p < mN M) (hb : b < mN M) (he : e < mN M) (hbe : b < e) (hne : n = e - b - 1) (hN : mN M + n - 1 ≤ 60) (hE : plE M b e) (hM0 : hldM G0 h M) (K : ∀ (G : am_G) l6 l7 l8, St0 G → spI p n M G → dI G (mNew M p n (uC M p b) (uRows M p b e n (mR M))) (fun i => i < mN M + n - 1) → oD G0 G → am_Go w jW_writeOutSubroutine d (0, 0) 157 [some (.inr (some 150)), some (.inr (some h)), some (.inl (nI p)), some (.inl (nI b)), some (.inl (nI e)), some (.inl (nI p - nI b - nI 1)), l6, l7, l8] [] G P) :
    ∀ (r k : Nat) (G : am_G) (l7 l8 : Option am_V), k + r = n → St0 G → spI p n M G → dI G (mNew M p n (uC M p b) (uRows M p b e n (mR M))) (fun i => lay2 p n (mN M) i ∨ (p ≤ i ∧ i < p + k)) → oD G0 G → am_Go w jW_writeOutSubroutine d (0, 0) 82 [some (.inr (some 150)), some (.inr (some h)), some (.inl (nI p)), some (.inl (nI b)), some (.inl (nI e)), some (.inl (nI p - nI b - nI 1)), some (.inl (nI (b + 1 + k))), l7, l8] [] G P := by
  intro r
  induction r with
  | zero =>
    intro k G l7 l8 hk hS hP hI ho
    have hn6 := hM0.2.2.1.1
    refine go_iload dW_writeOutSubroutine_82 rfl ?_
    refine go_iload dW_writeOutSubroutine_84 rfl ?_
    refine go_icmp_geN (by omega) (by omega) dW_writeOutSubroutine_86 (tgt := 157) (by decide) (fun c1 => ?_) (fun c1 => absurd c1 (by omega))
    exact K G _ _ _ hS hP (fun i hi => hI i (by unfold lay2; have hi : i < mN M + n - 1 := hi; omega)) ho
  | succ r ih =>
    intro k G l7 l8 hk hS hP hI ho
    have hM := hM0.d h8 ho
    have hj : b + 1 + k < mN M := by omega
    obtain ⟨hs, ⟨r0, r1, r2, r3, r4, r5, r6⟩, s1, s2, s3, s4, s5, s6, s7⟩ := id hM.1
    have hV := hM.2.2.1
    have hn6 := hV.1
    have k50 := hS.s sh_150
    have g50 := hS.r rt_150
    obtain ⟨ds, ⟨dr0, dr1, dr2, dr3, dr4, dr5, dr6⟩, ds1, ds2, ds3, ds4, ds5, ds6, ds7⟩ := hS.m dr_l
    obtain ⟨m1, m2, m3⟩ := hM.2.1.2.1 _ hj
    obtain ⟨h28, -, a0, b0⟩ := hV.2.2.2.1 _ hj
    have n23 := hE.n23 (show b < b + 1 + k by omega) (by omega)
    obtain ⟨T1, T2, T3⟩ := mNew_in (M := M) (p := p) (n := n) (C := uC M p b) (R := (uRows M p b e n (mR M))) (show k < n by omega)
    refine go_iload dW_writeOutSubroutine_82 rfl ?_
    refine go_iload dW_writeOutSubroutine_84 rfl ?_
    refine go_icmp_geN (by omega) (by omega) dW_writeOutSubroutine_86 (tgt := 157) (by decide) (fun c1 => absurd c1 (by omega)) (fun c1 => ?_)
    refine go_aload_n dW_writeOutSubroutine_89 rfl rfl ?_
    refine go_getO dW_writeOutSubroutine_90 flW_38 rfl (by assumption) (by assumption) ?_
    refine go_iload dW_writeOutSubroutine_93 rfl ?_
    refine go_ialV s1 (by omega) (by decide) m1 dW_writeOutSubroutine_95 ?_
    refine go_istore dW_writeOutSubroutine_96 (Nat.le_of_ble_eq_true rfl) ?_
    refine go_iload dW_writeOutSubroutine_98 rfl ?_
    refine go_cS (k' := (0, 0)) dW_writeOutSubroutine_100 _ csW_41 stF_isJump rfl (okF_isJump (d := 0) w G (nI (mO M (b + 1 + k)))) (by omega) (by decide) (Nat.le_of_ble_eq_true rfl) (fun r G1 hr hn => ?_)
    obtain ⟨rfl, hG⟩ := hr
    rw [hG]
    clear hG hn
    refine go_if_eqB dW_writeOutSubroutine_103 (tgt := 119) (by decide) (fun c103 => ?_) (fun c103 => ?_)
    · refine go_aload_n dW_writeOutSubroutine_119 rfl rfl ?_
      refine go_getO dW_writeOutSubroutine_120 flW_22 rfl (by assumption) (by assumption) ?_
      refine go_iload dW_writeOutSubroutine_123 rfl ?_
      refine go_ialV s3 (by omega) (by decide) m3 dW_writeOutSubroutine_125 ?_
      have hB : mB M (b + 1 + k) = (uC M p b k).2.2 := (uC_n (fun q => jm3F c103 (jm4_3 q n23))).symm
      rw [hB]
      refine go_istore dW_writeOutSubroutine_126 (Nat.le_of_ble_eq_true rfl) ?_
      refine go_aload_n dW_writeOutSubroutine_128 rfl rfl ?_
      refine go_getO dW_writeOutSubroutine_129 flW_12 rfl (by assumption) (by assumption) ?_
      refine go_iload dW_writeOutSubroutine_132 rfl ?_
      refine go_iload dW_writeOutSubroutine_134 rfl ?_
      refine (go_iadd dW_writeOutSubroutine_136 ?_)
      rw [sp_e (by omega) (by omega) (by omega) (by omega), show b + 1 + k + p - (b + 1) = p + k by omega]
      refine go_iload dW_writeOutSubroutine_137 rfl ?_
      refine go_aload_n dW_writeOutSubroutine_139 rfl rfl ?_
      refine go_getO dW_writeOutSubroutine_140 flW_45 rfl (by assumption) (by assumption) ?_
      refine go_iload dW_writeOutSubroutine_143 rfl ?_
      refine go_ialV s2 (by omega) (by decide) m2 dW_writeOutSubroutine_145 ?_
      refine go_iload dW_writeOutSubroutine_146 rfl ?_
      refine go_cV (k' := (0, 0)) dW_writeOutSubroutine_148 _ csW_48 (by assumption) rfl imE_put seE_put rfl (okE_put (d := 0) w G 151 (p + k) (mO M (b + 1 + k)) (mA M (b + 1 + k)) (uC M p b k).2.2 (by omega) h28 (hS.m dr_l)) (by omega) (by decide) (Nat.le_of_ble_eq_true rfl) (fun r G1 hr hn => ?_)
      obtain ⟨rfl, hG⟩ := hr
      rw [hG]
      clear hG hn
      refine go_inc dW_writeOutSubroutine_151 rfl ?_
      refine go_goto dW_writeOutSubroutine_154 (tgt := 82) (by decide) ?_
      refine ih (k + 1) _ _ _ (by omega) hS (spI_p hP) (hI.put T1.symm T2.symm T3.symm a0 (uC_0 hV hj) (fun i hi => ?_)) (ho.tr (oD.h8 E_putF_o))
      rcases hi with q | q
      · exact Or.inr (Or.inl q)
      · by_cases e0 : i = p + k
        · exact Or.inl e0
        · exact Or.inr (Or.inr ⟨q.1, by omega⟩)
    · refine go_aload_n dW_writeOutSubroutine_106 rfl rfl ?_
      refine go_getO dW_writeOutSubroutine_107 flW_22 rfl (by assumption) (by assumption) ?_
      refine go_iload dW_writeOutSubroutine_110 rfl ?_
      have hj4 := jm3_4 (jm3T c103 h28)
      obtain ⟨q1, q2⟩ := hV.jm hj hj4
      obtain ⟨q3, q4, -⟩ := hE.jmp (show b < b + 1 + k by omega) (by omega) hj4
      rw [q1] at m3
      refine go_ialV s3 (by omega) (by decide) m3 dW_writeOutSubroutine_112 ?_
      refine go_iload dW_writeOutSubroutine_113 rfl ?_
      refine (go_iadd dW_writeOutSubroutine_115 ?_)
      rw [sp_e (by omega) (by omega) (by omega) (by omega)]
      have hB : nI (bN M (b + 1 + k) + p - (b + 1)) = (uC M p b k).2.2 := by rw [uC_y hj4, Nat.add_comm p]
      rw [hB]
      refine go_goto dW_writeOutSubroutine_116 (tgt := 126) (by decide) ?_
      refine go_istore dW_writeOutSubroutine_126 (Nat.le_of_ble_eq_true rfl) ?_
      refine go_aload_n dW_writeOutSubroutine_128 rfl rfl ?_
      refine go_getO dW_writeOutSubroutine_129 flW_12 rfl (by assumption) (by assumption) ?_
      refine go_iload dW_writeOutSubroutine_132 rfl ?_
      refine go_iload dW_writeOutSubroutine_134 rfl ?_
      refine (go_iadd dW_writeOutSubroutine_136 ?_)
      rw [sp_e (by omega) (by omega) (by omega) (by omega), show b + 1 + k + p - (b + 1) = p + k by omega]
      refine go_iload dW_writeOutSubroutine_137 rfl ?_
      refine go_aload_n dW_writeOutSubroutine_139 rfl rfl ?_
      refine go_getO dW_writeOutSubroutine_140 flW_45 rfl (by assumption) (by assumption) ?_
      refine go_iload dW_writeOutSubroutine_143 rfl ?_
      refine go_ialV s2 (by omega) (by decide) m2 dW_writeOutSubroutine_145 ?_
      refine go_iload dW_writeOutSubroutine_146 rfl ?_
      refine go_cV (k' := (0, 0)) dW_writeOutSubroutine_148 _ csW_48 (by assumption) rfl imE_put seE_put rfl (okE_put (d := 0) w G 151 (p + k) (mO M (b + 1 + k)) (mA M (b + 1 + k)) (uC M p b k).2.2 (by omega) h28 (hS.m dr_l)) (by omega) (by decide) (Nat.le_of_ble_eq_true rfl) (fun r G1 hr hn => ?_)
      obtain ⟨rfl, hG⟩ := hr
      rw [hG]
      clear hG hn
      refine go_inc dW_writeOutSubroutine_151 rfl ?_
      refine go_goto dW_writeOutSubroutine_154 (tgt := 82) (by decide) ?_
      refine ih (k + 1) _ _ _ (by omega) hS (spI_p hP) (hI.put T1.symm T2.symm T3.symm a0 (uC_0 hV hj) (fun i hi => ?_)) (ho.tr (oD.h8 E_putF_o))
      rcases hi with q | q
      · exact Or.inr (Or.inl q)
      · by_cases e0 : i = p + k
        · exact Or.inl e0
        · exact Or.inr (Or.inr ⟨q.1, by omega⟩)
set_option maxRecDepth 100000 in
theorem W_w2 (w : am_W) {d : Nat} {P : Option am_V → am_G → Prop} (hd : 3 ≤ d) (G0 : am_G) (h p b e n : Nat) (M : mT) (h8 : h + 8 ≤ 102) (hp : p < mN M) (hb : b < mN M) (he : e < mN M) (hbe : b < e) (hne : n = e - b - 1) (hn2 : n < 200) (hM0 : hldM G0 h M) (hg1 : G0.2.1 150 1 = nI p) (hg2 : G0.2.1 150 2 = nI n - nI 1) (K : ∀ (G : am_G) l6 l7 l8, St0 G → cWw G (uRows M p b e n (mR M)) → oDr G0 G → am_Go w jW_writeOutSubroutine d (0, 0) 185 [some (.inr (some 150)), some (.inr (some h)), some (.inl (nI p)), some (.inl (nI b)), some (.inl (nI e)), some (.inl (nI p - nI b - nI 1)), l6, l7, l8] [] G P) :
    ∀ (r k : Nat) (G : am_G) (l7 l8 : Option am_V), k + r = mR M → St0 G → cWw G (uRows M p b e n k) → oDr G0 G → am_Go w jW_writeOutSubroutine d (0, 0) 160 [some (.inr (some 150)), some (.inr (some h)), some (.inl (nI p)), some (.inl (nI b)), some (.inl (nI e)), some (.inl (nI p - nI b - nI 1)), some (.inl (nI k)), l7, l8] [] G P := by
  intro r
  induction r with
  | zero =>
    intro k G l7 l8 hk hS hW ho
    have hM := hM0.d h8 ho.1
    have mr := hM.2.1.1.2.1
    have hr8 := hM.2.2.1.2.1
    obtain ⟨hs, ⟨r0, r1, r2, r3, r4, r5, r6⟩, s1, s2, s3, s4, s5, s6, s7⟩ := id hM.1
    have hV := hM.2.2.1
    have hn6 := hV.1
    refine go_iload dW_writeOutSubroutine_160 rfl ?_
    refine go_aload_n dW_writeOutSubroutine_162 rfl rfl ?_
    refine go_getV dW_writeOutSubroutine_163 flW_52 rfl (by assumption) (by first | assumption | (simp (disch := omega) only [wi_I, ro_I, wi_In, wi_Is]; done) | (simp (disch := omega) only [wi_I, ro_I, wi_In, wi_Is]; first | assumption | rfl) | rfl) ?_
    refine go_icmp_geN (by omega) (by omega) dW_writeOutSubroutine_166 (tgt := 185) (by decide) (fun c1 => ?_) (fun c1 => absurd c1 (by omega))
    rw [show k = mR M by omega] at hW
    exact K G _ _ _ hS hW ho
  | succ r ih =>
    intro k G l7 l8 hk hS hW ho
    have hM := hM0.d h8 ho.1
    have mr := hM.2.1.1.2.1
    have hr8 := hM.2.2.1.2.1
    have k50 := hS.s sh_150
    obtain ⟨hs, ⟨r0, r1, r2, r3, r4, r5, r6⟩, s1, s2, s3, s4, s5, s6, s7⟩ := id hM.1
    have hV := hM.2.2.1
    have hn6 := hV.1
    refine go_iload dW_writeOutSubroutine_160 rfl ?_
    refine go_aload_n dW_writeOutSubroutine_162 rfl rfl ?_
    refine go_getV dW_writeOutSubroutine_163 flW_52 rfl (by assumption) (by first | assumption | (simp (disch := omega) only [wi_I, ro_I, wi_In, wi_Is]; done) | (simp (disch := omega) only [wi_I, ro_I, wi_In, wi_Is]; first | assumption | rfl) | rfl) ?_
    refine go_icmp_geN (by omega) (by omega) dW_writeOutSubroutine_166 (tgt := 185) (by decide) (fun c1 => absurd c1 (by omega)) (fun c1 => ?_)
    refine go_aload_n dW_writeOutSubroutine_169 rfl rfl ?_
    refine go_aload_n dW_writeOutSubroutine_170 rfl rfl ?_
    refine go_iload dW_writeOutSubroutine_171 rfl ?_
    refine go_iload_n dW_writeOutSubroutine_173 rfl rfl ?_
    refine go_iload dW_writeOutSubroutine_174 rfl ?_
    refine go_cV (k' := (0, 0)) dW_writeOutSubroutine_176 _ csW_56 (by assumption) rfl imW_splitRow seW_splitRow rfl (okW_splitRow (d := 2) w (by decide) G h k b e p n M (uRows M p b e n k) (by omega) (by omega) (by omega) (by omega) hn2 hS hM (by rw [ho.2.2.2 1 (by decide)]; exact hg1) (by rw [ho.2.2.2 2 (by decide)]; exact hg2) hW) (by omega) (by decide) (Nat.le_of_ble_eq_true rfl) (fun r G1 hr hn => ?_)
    obtain ⟨rfl, Y1, o1⟩ := hr
    refine go_inc dW_writeOutSubroutine_179 rfl ?_
    refine go_goto dW_writeOutSubroutine_182 (tgt := 160) (by decide) ?_
    exact ih (k + 1) G1 _ _ (by omega) (o1.1.St hS) Y1 (ho.tr o1)
set_option maxRecDepth 100000 in
theorem W_w0 (w : am_W) {d : Nat} (hd : 3 ≤ d) (G : am_G) (h p b e n : Nat) (M : mT) (h8 : h + 8 ≤ 102) (hp : p < mN M) (hb : b < mN M) (he : e < mN M) (hbe : b < e) (hne : n = e - b - 1) (l5 l6 l7 l8 : Option am_V) (hE : plE M b e) (hS : St0 G) (hM : hldM G h M) : am_Go w jW_writeOutSubroutine d (0, 0) 48 [some (.inr (some 150)), some (.inr (some h)), some (.inl (nI p)), some (.inl (nI b)), some (.inl (nI e)), l5, l6, l7, l8] [] G (fun r G' => (r = some (.inl (-3)) ∧ (60 < mN M + n - 1 ∨ 8 < (uRows M p b e n (mR M)).1) ∧ oD G G') ∨ (r = some (.inl (nI (mN M + n - 1))) ∧ mN M + n - 1 ≤ 60 ∧ (uRows M p b e n (mR M)).1 ≤ 8 ∧ ∃ G1, oD G G1 ∧ oR (hR8 h) G1 G' ∧ cM G' h (mNew M p n (uC M p b) (uRows M p b e n (mR M))))) := by
  obtain ⟨hs, ⟨r0, r1, r2, r3, r4, r5, r6⟩, s1, s2, s3, s4, s5, s6, s7⟩ := id hM.1
  have hV := hM.2.2.1
  have hn6 := hV.1
  have k50 := hS.s sh_150
  have g50 := hS.r rt_150
  obtain ⟨ds, ⟨dr0, dr1, dr2, dr3, dr4, dr5, dr6⟩, ds1, ds2, ds3, ds4, ds5, ds6, ds7⟩ := hS.m dr_l
  refine go_aload_n dW_writeOutSubroutine_48 rfl rfl ?_
  refine go_aload_n dW_writeOutSubroutine_49 rfl rfl ?_
  refine go_iload_n dW_writeOutSubroutine_50 rfl rfl ?_
  refine go_iload dW_writeOutSubroutine_51 rfl ?_
  refine go_iload_n dW_writeOutSubroutine_53 rfl rfl ?_
  refine go_isubN (by omega) dW_writeOutSubroutine_54 ?_
  refine go_iconst (nI 1) (by decide) dW_writeOutSubroutine_55 ?_
  refine go_isubN (by omega) dW_writeOutSubroutine_56 ?_
  rw [← hne]
  refine go_cV (k' := (0, 0)) dW_writeOutSubroutine_57 _ csW_30 (by assumption) rfl imW_spread seW_spread rfl (okW_spread (d := 1) w (by decide) G h p n M (uC M p b) (uRows M p b e n (mR M)) h8 hp (by omega) hS hM) (by omega) (by decide) (Nat.le_of_ble_eq_true rfl) (fun r G1 hr hn => ?_)
  obtain ⟨rfl, hz⟩ := hr
  have hS : St0 G1 := by
    rcases hz with ⟨-, -, z3⟩ | ⟨-, -, -, z4⟩
    · exact z3.St hS
    · exact z4.St hS
  have k50 := hS.s sh_150
  rcases hz with ⟨z1, z2, z3⟩ | ⟨z1, z2, z3, z4⟩
  · refine go_aload_n dW_writeOutSubroutine_60 rfl rfl ?_
    refine go_getV dW_writeOutSubroutine_61 flW_34 rfl (by assumption) (by first | assumption | (simp (disch := omega) only [wi_I, ro_I, wi_In, wi_Is]; done) | (simp (disch := omega) only [wi_I, ro_I, wi_In, wi_Is]; first | assumption | rfl) | rfl) ?_
    refine go_if_eqB dW_writeOutSubroutine_64 (tgt := 70) (by decide) (fun c1 => absurd c1 (by decide)) (fun c1 => ?_)
    refine go_bipush (-3) (by decide) dW_writeOutSubroutine_67 ?_
    refine go_ireturn rfl dW_writeOutSubroutine_69 ?_
    exact Or.inl ⟨rfl, Or.inl z1, z3⟩
  · have fl := z2.2.2.1
    refine go_aload_n dW_writeOutSubroutine_60 rfl rfl ?_
    refine go_getV dW_writeOutSubroutine_61 flW_34 rfl (by assumption) (by first | assumption | (simp (disch := omega) only [wi_I, ro_I, wi_In, wi_Is]; done) | (simp (disch := omega) only [wi_I, ro_I, wi_In, wi_Is]; first | assumption | rfl) | rfl) ?_
    refine go_if_eqB dW_writeOutSubroutine_64 (tgt := 70) (by decide) (fun c1 => ?_) (fun c1 => absurd c1 (by decide))
    refine go_iload_n dW_writeOutSubroutine_70 rfl rfl ?_
    refine go_iload_n dW_writeOutSubroutine_71 rfl rfl ?_
    refine (go_isub dW_writeOutSubroutine_72 ?_)
    refine go_iconst (nI 1) (by decide) dW_writeOutSubroutine_73 ?_
    refine (go_isub dW_writeOutSubroutine_74 ?_)
    refine go_istore dW_writeOutSubroutine_75 (Nat.le_of_ble_eq_true rfl) ?_
    refine go_iload_n dW_writeOutSubroutine_77 rfl rfl ?_
    refine go_iconst (nI 1) (by decide) dW_writeOutSubroutine_78 ?_
    refine go_iaddN dW_writeOutSubroutine_79 ?_
    refine go_istore dW_writeOutSubroutine_80 (Nat.le_of_ble_eq_true rfl) ?_
    refine W_w1 w (by omega) G1 h p b e n M h8 hp hb he hbe hne z1 hE (hM.d h8 z4) (fun X j6 j7 j8 SX PX IX oA => ?_) n 0 G1 _ _ (by omega) hS z2 (fun i hi => z3 i (hi.resolve_right (by omega))) oD.rf
    refine go_iconst (nI 0) (by decide) dW_writeOutSubroutine_157 ?_
    refine go_istore dW_writeOutSubroutine_158 (Nat.le_of_ble_eq_true rfl) ?_
    refine W_w2 w (by omega) X h p b e n M h8 hp hb he hbe hne (by omega) ((hM.d h8 z4).d h8 oA) PX.1 PX.2.1 (fun Y i6 i7 i8 SY WY oB => ?_) (mR M) 0 X _ _ (by omega) SX (cWw.z PX) oDr.rf
    have k50 := SY.s sh_150
    by_cases c8 : 8 < (uRows M p b e n (mR M)).1
    · refine go_aload_n dW_writeOutSubroutine_185 rfl rfl ?_
      refine go_aload_n dW_writeOutSubroutine_186 rfl rfl ?_
      refine go_cV (k' := (0, 0)) dW_writeOutSubroutine_187 _ csW_60 (by assumption) rfl imW_takeOver seW_takeOver rfl (okW_toA (d := 0) w Y h (uRows M p b e n (mR M)) SY WY c8) (by omega) (by decide) (Nat.le_of_ble_eq_true rfl) (fun r G1 hr hn => ?_)
      obtain ⟨rfl, hG⟩ := hr
      rw [hG]
      clear hG hn
      refine go_ireturn rfl dW_writeOutSubroutine_190 ?_
      exact Or.inl ⟨rfl, Or.inr c8, (z4.tr oA).tr oB.1⟩
    · have flY : Y.2.1 150 3 = am_b false := by rw [WY.2.1, decide_eq_false c8]
      have CY : cM Y 151 (mNew M p n (uC M p b) (uRows M p b e n (mR M))) := cM.dr (N := mN M + n - 1) rfl (by rw [oB.2.2.1 7 (by decide)]; exact PX.2.2.2.1) (by rw [oB.2.2.1 9 (by decide)]; exact PX.2.2.2.2.2.1) (by rw [oB.2.2.1 10 (by decide)]; exact PX.2.2.2.2.2.2) (IX.same (fun i i1 i2 => oB.2.1 i i1 i2)) WY (by show (uRows M p b e n (mR M)).1 ≤ 8; omega)
      refine go_aload_n dW_writeOutSubroutine_185 rfl rfl ?_
      refine go_aload_n dW_writeOutSubroutine_186 rfl rfl ?_
      refine go_cV (k' := (0, 0)) dW_writeOutSubroutine_187 _ csW_60 (by assumption) rfl imW_takeOver seW_takeOver rfl (okW_toB (d := 2) w (by decide) Y h (mNew M p n (uC M p b) (uRows M p b e n (mR M))) h8 SY (hM.d h8 ((z4.tr oA).tr oB.1)).1 flY CY z1 (by show (uRows M p b e n (mR M)).1 ≤ 8; omega)) (by omega) (by decide) (Nat.le_of_ble_eq_true rfl) (fun r G1 hr hn => ?_)
      obtain ⟨rfl, B9, o9⟩ := hr
      refine go_ireturn rfl dW_writeOutSubroutine_190 ?_
      exact Or.inr ⟨rfl, z1, (by omega), Y, (z4.tr oA).tr oB.1, o9, B9⟩
set_option maxRecDepth 100000 in
theorem okW_writeOutSubroutine (w : am_W) {d : Nat} (hd : 3 ≤ d) (G : am_G) (s : sT) (m : Nat) (y : Int32) (hm : m < 6) (hS : St0 G) (hc : cS G s) (hv : sV s) : am_Ok w jW_writeOutSubroutine d (0, 0) [.inr (some 150), .inr (some (mo s.1 m)), .inl y] G (fun r G' => r = some (.inl (uU s m y).1) ∧ cEnd G G' (uU s m y).2) := by
  refine am_ok_of rfl (Nat.le_of_ble_eq_true rfl) ?_
  show am_Go w jW_writeOutSubroutine d (0, 0) 0 [some (.inr (some 150)), some (.inr (some (mo s.1 m))), some (.inl y), none, none, none, none, none, none] [] G _
  have hv1 := hv.1
  have hM : hldM G (mo s.1 m) (zM s m) := cS.hP hS hc hv hv1 m hm
  obtain ⟨hs, ⟨r0, r1, r2, r3, r4, r5, r6⟩, s1, s2, s3, s4, s5, s6, s7⟩ := id hM.1
  have hV := hM.2.2.1
  have hn6 := hV.1
  have mn := hM.2.1.1.1
  have h8 : mo s.1 m + 8 ≤ 102 := by unfold mo; omega
  refine go_aload_n dW_writeOutSubroutine_0 rfl rfl ?_
  refine go_iload_n dW_writeOutSubroutine_1 rfl rfl ?_
  refine go_bipush (nI 23) (by decide) dW_writeOutSubroutine_2 ?_
  refine go_cV (k' := (0, 0)) dW_writeOutSubroutine_4 _ csW_18 (by assumption) rfl imE_hasAt seE_hasAt rfl (okE_hasAt (d := 1) w (by decide) G (mo s.1 m) (mN (zM s m)) y (nI 23) hn6 mn hM.1) (by omega) (by decide) (Nat.le_of_ble_eq_true rfl) (fun r G1 hr hn => ?_)
  obtain ⟨rfl, hG⟩ := hr
  rw [hG]
  clear hG hn
  refine go_if_neB dW_writeOutSubroutine_7 (tgt := 13) (by decide) (fun c7 => ?_) (fun c7 => ?_)
  · obtain ⟨p, hp, rfl, hop⟩ := hasT (f := G.2.1 (mo s.1 m + 1)) hn6 c7
    obtain ⟨m1, m2, m3⟩ := hM.2.1.2.1 p hp
    have h28 := (hV.2.2.2.1 p hp).1
    have h23 : mO (zM s m) p = 23 := (nI_eq (by omega) (by decide)).mp (m1.symm.trans hop)
    obtain ⟨b1, b2⟩ := hV.jm hp (Or.inr (Or.inr (Or.inr h23)))
    rw [b1] at m3
    refine go_aload_n dW_writeOutSubroutine_13 rfl rfl ?_
    refine go_getO dW_writeOutSubroutine_14 flW_22 rfl (by assumption) (by assumption) ?_
    refine go_iload_n dW_writeOutSubroutine_17 rfl rfl ?_
    refine go_ialV s3 (by omega) (by decide) m3 dW_writeOutSubroutine_18 ?_
    refine go_istore_n dW_writeOutSubroutine_19 rfl (Nat.le_of_ble_eq_true rfl) ?_
    refine go_aload_n dW_writeOutSubroutine_20 rfl rfl ?_
    refine go_iload_n dW_writeOutSubroutine_21 rfl rfl ?_
    refine go_cV (k' := (0, 0)) dW_writeOutSubroutine_22 _ csW_26 (by assumption) rfl imE_plainEnd seE_plainEnd rfl (okE_plainEnd (d := 2) w (by decide) G (mo s.1 m) (bN (zM s m) p) (zM s m) (by omega) hM) (by omega) (by decide) (Nat.le_of_ble_eq_true rfl) (fun r G1 hr hn => ?_)
    obtain ⟨rfl, hG⟩ := hr
    rw [hG]
    clear hG hn
    cases hE : pE (zM s m) (bN (zM s m) p) with
    | none =>
      rw [show rRes none = -2 from rfl]
      refine go_istore dW_writeOutSubroutine_25 (Nat.le_of_ble_eq_true rfl) ?_
      refine go_iload dW_writeOutSubroutine_27 rfl ?_
      refine go_bipush (-2) (by decide) dW_writeOutSubroutine_29 ?_
      refine go_icmp_eq dW_writeOutSubroutine_31 (tgt := 45) (by decide) (fun c1 => ?_) (fun c1 => absurd rfl c1)
      refine go_bipush (-2) (by decide) dW_writeOutSubroutine_45 ?_
      refine go_ireturn rfl dW_writeOutSubroutine_47 ?_
      rw [uU_n hn6 hp h23 hE]
      exact ⟨rfl, cEnd.rf hc⟩
    | some e =>
      rw [show rRes (some e) = nI e from rfl]
      obtain ⟨⟨hbN, -⟩, hPE, hbe⟩ := pE_s hE
      have he := hPE.1.1
      refine go_istore dW_writeOutSubroutine_25 (Nat.le_of_ble_eq_true rfl) ?_
      refine go_iload dW_writeOutSubroutine_27 rfl ?_
      refine go_bipush (-2) (by decide) dW_writeOutSubroutine_29 ?_
      refine go_icmp_eq dW_writeOutSubroutine_31 (tgt := 45) (by decide) (fun c1 => absurd c1 (nI_m2 (by omega))) (fun c1 => ?_)
      refine go_iload_n dW_writeOutSubroutine_34 rfl rfl ?_
      refine go_iload_n dW_writeOutSubroutine_35 rfl rfl ?_
      refine go_icmp_ltN (by omega) (by omega) dW_writeOutSubroutine_36 (tgt := 48) (by decide) (fun c36 => ?_) (fun c36 => ?_)
      · have hnb : ¬ (bN (zM s m) p ≤ p ∧ p ≤ e) := by omega
        refine go_post (W_w0 w hd G (mo s.1 m) p (bN (zM s m) p) e (e - bN (zM s m) p - 1) (zM s m) h8 hp hbN he hbe rfl _ _ _ _ hPE hS hM) (fun r9 G9 q => ?_)
        rcases q with ⟨q1, q2, q3⟩ | ⟨q1, q2, q3, Gy, q4, q5, q6⟩
        · rw [uU_f hn6 hp h23 hE hnb q2]
          exact ⟨q1, hc.d q3, q3.cl⟩
        · rw [uU_y hn6 hp h23 hE hnb q2 q3]
          have E1 := cEnd.put hv1 hm (hc.d q4) q5 q6
          exact ⟨q1, E1.1, q4.cl.tr E1.2⟩
      · refine go_iload_n dW_writeOutSubroutine_39 rfl rfl ?_
        refine go_iload dW_writeOutSubroutine_40 rfl ?_
        refine go_icmp_gtN (by omega) (by omega) dW_writeOutSubroutine_42 (tgt := 48) (by decide) (fun c42 => ?_) (fun c42 => ?_)
        · have hnb : ¬ (bN (zM s m) p ≤ p ∧ p ≤ e) := by omega
          refine go_post (W_w0 w hd G (mo s.1 m) p (bN (zM s m) p) e (e - bN (zM s m) p - 1) (zM s m) h8 hp hbN he hbe rfl _ _ _ _ hPE hS hM) (fun r9 G9 q => ?_)
          rcases q with ⟨q1, q2, q3⟩ | ⟨q1, q2, q3, Gy, q4, q5, q6⟩
          · rw [uU_f hn6 hp h23 hE hnb q2]
            exact ⟨q1, hc.d q3, q3.cl⟩
          · rw [uU_y hn6 hp h23 hE hnb q2 q3]
            have E1 := cEnd.put hv1 hm (hc.d q4) q5 q6
            exact ⟨q1, E1.1, q4.cl.tr E1.2⟩
        · refine go_bipush (-2) (by decide) dW_writeOutSubroutine_45 ?_
          refine go_ireturn rfl dW_writeOutSubroutine_47 ?_
          rw [uU_b hn6 hp h23 hE c36 c42]
          exact ⟨rfl, cEnd.rf hc⟩
  · refine go_bipush (-2) (by decide) dW_writeOutSubroutine_10 ?_
    refine go_ireturn rfl dW_writeOutSubroutine_12 ?_
    rw [uU_h (f := G.2.1 (mo s.1 m + 1)) hV (fun i hi => (hM.2.1.2.1 i hi).1) c7]
    exact ⟨rfl, cEnd.rf hc⟩
set_option maxRecDepth 100000 in
theorem okF_unfold (w : am_W) {d : Nat} (hd : 6 ≤ d) (G : am_G) (s : sT) (x y : Int32) (hS : St0 G) (hc : cS G s) (hv : sV s) : am_Ok w jF_unfold d (0, 0) [.inr (some 0), .inl x, .inl y] G (fun r G' => r = some (.inl (aUnf s x y).1) ∧ cEnd G G' (aUnf s x y).2) := by
  refine am_ok_of rfl (Nat.le_of_ble_eq_true rfl) ?_
  show am_Go w jF_unfold d (0, 0) 0 [some (.inr (some 0)), some (.inl x), some (.inl y)] [] G _
  have hv1 := hv.1
  have wr := hc.1
  have q6 : G.1[0]? = some (0, 0) := hS.s rfl
  have q7 : G.1[1]? = some (3, 2) := hS.s rfl
  have q8 : G.2.2 0 0 = some 1 := hS.r (by decide +kernel)
  have q9 : G.2.2 0 1 = some 102 := hS.r (by decide +kernel)
  have q10 : G.2.2 0 3 = some 150 := hS.r (by decide +kernel)
  have q11 : G.1[102]? = some (0, 3) := hS.s rfl
  have q12 : G.1[150]? = some (0, 7) := hS.s rfl
  have qp := hS.r (pr_l s.1 hv1).2.2.2
  refine go_iload_n dF_unfold_0 rfl rfl ?_
  refine go_bipush (nI 6) (by decide) dF_unfold_1 ?_
  refine go_cS (k' := (0, 0)) dF_unfold_3 _ csF_51 stF_isBelow rfl (okF_below (d := 0) w G x 6 (by decide)) (by omega) (by decide) (Nat.le_of_ble_eq_true rfl) (fun r G1 hr hn => ?_)
  obtain ⟨rfl, hG⟩ := hr
  rw [hG]
  clear hG hn
  refine go_if_neB dF_unfold_6 (tgt := 11) (by decide) (fun c6 => ?_) (fun c6 => ?_)
  · obtain ⟨m, hm, rfl⟩ := bel_of c6 (by decide)
    refine go_aload_n dF_unfold_11 rfl rfl ?_
    refine go_getO dF_unfold_12 flF_19 rfl (by assumption) (by assumption) ?_
    refine go_aload_n dF_unfold_15 rfl rfl ?_
    refine go_getO dF_unfold_16 flF_11 rfl (by assumption) (by assumption) ?_
    refine go_aload_n dF_unfold_19 rfl rfl ?_
    refine go_getV dF_unfold_20 flF_47 rfl (by assumption) (by first | assumption | (simp (disch := omega) only [wi_I, ro_I, wi_In, wi_Is]; done) | (simp (disch := omega) only [wi_I, ro_I, wi_In, wi_Is]; first | assumption | rfl) | rfl) ?_
    refine go_aaO (t := 0) (by decide) q7 hv1 (by decide) qp dF_unfold_23 ?_
    refine go_iload_n dF_unfold_24 rfl rfl ?_
    refine go_cV (k' := (0, 0)) dF_unfold_25 _ csF_91 (by assumption) rfl imC_follow seC_follow rfl (okC_follow (d := 5) w (by decide) G s.1 m (zQ s s.1) hv1 hm hS (cS.hP hS hc hv hv1)) (by omega) (by decide) (Nat.le_of_ble_eq_true rfl) (fun r G1 hr hn => ?_)
    obtain ⟨t, rfl, I1, o1, L1, N1⟩ := hr
    have hS := o1.St hS
    have hc1 := hc.ck o1
    have wr := hc1.1
    have q6 : G1.1[0]? = some (0, 0) := hS.s rfl
    have q7 : G1.1[1]? = some (3, 2) := hS.s rfl
    have q8 : G1.2.2 0 0 = some 1 := hS.r (by decide +kernel)
    have q9 : G1.2.2 0 1 = some 102 := hS.r (by decide +kernel)
    have q10 : G1.2.2 0 3 = some 150 := hS.r (by decide +kernel)
    have q11 : G1.1[102]? = some (0, 3) := hS.s rfl
    have q12 : G1.1[150]? = some (0, 7) := hS.s rfl
    have qp := hS.r (pr_l s.1 hv1).2.2.2
    refine go_if_neB dF_unfold_28 (tgt := 34) (by decide) (fun c28 => ?_) (fun c28 => ?_)
    · rw [aUnf_y hm (L1 (nbT c28))]
      refine go_aload_n dF_unfold_34 rfl rfl ?_
      refine go_getO dF_unfold_35 flF_33 rfl (by assumption) (by assumption) ?_
      refine go_aload_n dF_unfold_38 rfl rfl ?_
      refine go_iload_n dF_unfold_39 rfl rfl ?_
      refine go_cV (k' := (0, 0)) dF_unfold_40 _ csF_63 (by assumption) rfl imF_writtenMethod seF_writtenMethod rfl (okF_writtenMethod (d := 0) w G1 s.1 m hv1 hm wr hS) (by omega) (by decide) (Nat.le_of_ble_eq_true rfl) (fun r G1 hr hn => ?_)
      obtain ⟨rfl, hG⟩ := hr
      subst hG
      clear hn
      refine go_iload_n dF_unfold_43 rfl rfl ?_
      refine go_cV (k' := (0, 0)) dF_unfold_44 _ csF_151 (by assumption) rfl imW_writeOutSubroutine seW_writeOutSubroutine rfl (okW_writeOutSubroutine (d := 3) w (by decide) G1 s m y hm hS hc1 hv) (by omega) (by decide) (Nat.le_of_ble_eq_true rfl) (fun r G1 hr hn => ?_)
      obtain ⟨rfl, E2⟩ := hr
      refine go_ireturn rfl dF_unfold_47 ?_
      exact ⟨rfl, E2.1, o1.cl.tr E2.2⟩
    · refine go_bipush (-4) (by decide) dF_unfold_31 ?_
      refine go_ireturn rfl dF_unfold_33 ?_
      rw [aUnf_w hm (N1 (nbF c28))]
      exact ⟨rfl, hc.ck o1, o1.cl⟩
  · refine go_iconst (-1) (by decide) dF_unfold_9 ?_
    refine go_ireturn rfl dF_unfold_10 ?_
    rw [aUnf_o c6]
    exact ⟨rfl, cEnd.rf hc⟩
