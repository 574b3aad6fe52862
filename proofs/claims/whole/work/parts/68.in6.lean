def spI (p n : Nat) (M : mT) (G : am_G) : Prop := G.2.1 150 1 = nI p ∧ G.2.1 150 2 = nI n - nI 1 ∧ G.2.1 150 3 = am_b false ∧ G.2.1 151 7 = nI (mN M + n - 1) ∧ G.2.1 151 8 = nI 0 ∧ G.2.1 151 9 = nI (mG M) ∧ G.2.1 151 10 = am_b (mL M)
def lay2 (p n k i : Nat) : Prop := (i < p ∧ i < k) ∨ (p + n ≤ i ∧ i + 1 < k + n)
theorem mvd_I {p n k : Nat} (h : k ≠ p) : mvd p n k = mvI p n k := by
  unfold mvd mvI
  by_cases e : p < k
  · rw [if_pos e, if_neg (by omega)]
  · rw [if_neg e, if_pos (by omega)]
theorem sf_59 : ∀ o, o < 28 → jm4 o → ¬ am_sf 1 o = -1 := by
  intro o _ h
  rcases h with e | e | e | e <;> subst e <;> decide +kernel
theorem shB_0 {M : mT} {p n k : Nat} (hV : mV M) (hk : k < mN M) (h : am_sf 1 (mO M k) = -1) : shB M p n k = 0 := by
  obtain ⟨h1, -, -, h4⟩ := hV.2.2.2.1 k hk
  rw [shB_n (fun q => sf_59 _ h1 q h)]
  exact h4 h
/-- only the draft's rows, and whether they are too many, have changed -/
def oDr (G G' : am_G) : Prop := oD G G' ∧ (∀ i, 152 ≤ i → i ≤ 154 → G'.2.1 i = G.2.1 i) ∧ (∀ k, k ≠ 8 → G'.2.1 151 k = G.2.1 151 k) ∧ ∀ k, k ≠ 3 → G'.2.1 150 k = G.2.1 150 k
theorem oDr.rf {G : am_G} : oDr G G := ⟨oD.rf, fun _ _ _ => rfl, fun _ _ => rfl, fun _ _ => rfl⟩
theorem oDr.tr {G G1 G2 : am_G} (h1 : oDr G G1) (h2 : oDr G1 G2) : oDr G G2 := ⟨h1.1.tr h2.1, fun i a b => (h2.2.1 i a b).trans (h1.2.1 i a b), fun k a => (h2.2.2.1 k a).trans (h1.2.2.1 k a), fun k a => (h2.2.2.2 k a).trans (h1.2.2.2 k a)⟩
theorem oDr.row {G : am_G} {n : Nat} {f t a y : Int32} : oDr G (E_row G 151 n f t a y) := by
  refine ⟨oD.h8 E_row_o, fun i h1 h2 => ?_, fun k hk => ?_, fun k hk => ?_⟩
  all_goals unfold E_row
  all_goals simp (disch := omega) only [wi_I, wi_In]
theorem oDr.fl {G : am_G} {x : Int32} : oDr G (am_wi G 150 3 x) := ⟨oD.w ⟨by decide, by decide⟩, fun i h1 h2 => wi_I (by omega), fun k _ => by rw [wi_I (by decide)], fun k hk => wi_In hk⟩
theorem cS.d {G G' : am_G} {s : sT} (h : cS G s) (ho : oD G G') : cS G' s := ⟨by rw [ho.2.2 0 (by omega)]; exact h.1, fun p hp m hm => (h.2.1 p hp m hm).same (fun i h1 h2 => ho.2.2 i (by unfold mo at h1 h2; omega)), h.2.2.same (ho.2.2 159 (by omega)) (ho.2.2 160 (by omega))⟩
theorem oD.cl {G G' : am_G} (h : oD G G') : oR clR G G' := h.up (fun i hi => by unfold clR; omega)
/-- the draft is M -/
theorem cM.dr {G : am_G} {M : mT} {N : Nat} (hN : N = mN M) (h7 : G.2.1 151 7 = nI N) (h9 : G.2.1 151 9 = nI (mG M)) (h10 : G.2.1 151 10 = am_b (mL M)) (hI : dI G M (fun i => i < mN M)) (hW : cWw G M.2.1) (h8 : mR M ≤ 8) : cM G 151 M := by
  have e8 : min (mR M) 8 = mR M := by omega
  refine ⟨⟨by rw [h7, hN], ?_, h9, h10⟩, hI, fun i hi => hW.2.2 i hi (by omega)⟩
  rw [hW.1]
  exact congrArg nI e8
theorem mvI_60 {p n k N : Nat} (hk : k < N) (h : ¬ k = p) (hp : p < N) (hN : N + n - 1 ≤ 60) : mvI p n k < 60 := by
  unfold mvI
  split <;> omega

set_option maxRecDepth 100000 in
theorem okW_moved (w : am_W) {d : Nat} (G : am_G) (p n x : Nat) (hS : St0 G) (h1 : G.2.1 150 1 = nI p) (h2 : G.2.1 150 2 = nI n - nI 1) (hp : p < 1000) (hn0 : n < 1000) (hx : x < 1000) : am_Ok w jW_moved d (0, 0) [.inr (some 150), .inl (nI x)] G (fun r G' => r = some (.inl (nI (mvd p n x))) ∧ G' = G) := by
  refine am_ok_of rfl (Nat.le_of_ble_eq_true rfl) ?_
  show am_Go w jW_moved d (0, 0) 0 [some (.inr (some 150)), some (.inl (nI x))] [] G _
  have k50 := hS.s sh_150
  refine go_iload_n dW_moved_0 rfl rfl ?_
  refine go_aload_n dW_moved_1 rfl rfl ?_
  refine go_getV dW_moved_2 flW_101 rfl (by assumption) (by first | assumption | (simp (disch := omega) only [wi_I, ro_I, wi_In, wi_Is]; done) | (simp (disch := omega) only [wi_I, ro_I, wi_In, wi_Is]; first | assumption | rfl) | rfl) ?_
  refine go_icmp_leN (by omega) (by omega) dW_moved_5 (tgt := 17) (by decide) (fun c5 => ?_) (fun c5 => ?_)
  · refine go_iload_n dW_moved_17 rfl rfl ?_
    refine go_ireturn rfl dW_moved_18 ?_
    unfold mvd
    first | (have q : ¬ p < x := Nat.not_lt.mpr c5; rw [if_neg q]; exact ⟨rfl, rfl⟩) | (have q : p < x := c5; rw [if_pos q]; exact ⟨rfl, rfl⟩)
  · refine go_iload_n dW_moved_8 rfl rfl ?_
    refine go_aload_n dW_moved_9 rfl rfl ?_
    refine go_getV dW_moved_10 flW_104 rfl (by assumption) (by first | assumption | (simp (disch := omega) only [wi_I, ro_I, wi_In, wi_Is]; done) | (simp (disch := omega) only [wi_I, ro_I, wi_In, wi_Is]; first | assumption | rfl) | rfl) ?_
    refine (go_iadd dW_moved_13 ?_)
    rw [mv_e (by omega) (by omega) (by omega)]
    refine go_goto dW_moved_14 (tgt := 18) (by decide) ?_
    refine go_ireturn rfl dW_moved_18 ?_
    unfold mvd
    first | (have q : ¬ p < x := Nat.not_lt.mpr c5; rw [if_neg q]; exact ⟨rfl, rfl⟩) | (have q : p < x := c5; rw [if_pos q]; exact ⟨rfl, rfl⟩)
set_option maxRecDepth 100000 in
theorem okW_draftRow (w : am_W) {d : Nat} (hd : 1 ≤ d) (G : am_G) (R : wT) (f t a y : Nat) (v : Int32) (hS : St0 G) (h : cWw G R) (h1 : nI f < v ↔ f < t) (h2 : f < t → v = nI t) : am_Ok w jW_draftRow d (0, 0) [.inr (some 150), .inl (nI f), .inl v, .inl (nI a), .inl (nI y)] G (fun r G' => r = none ∧ cWw G' (wAdd R f t a y) ∧ oDr G G') := by
  refine am_ok_of rfl (Nat.le_of_ble_eq_true rfl) ?_
  show am_Go w jW_draftRow d (0, 0) 0 [some (.inr (some 150)), some (.inl (nI f)), some (.inl v), some (.inl (nI a)), some (.inl (nI y))] [] G _
  have k50 := hS.s sh_150
  have g50 := hS.r rt_150
  obtain ⟨ds, ⟨dr0, dr1, dr2, dr3, dr4, dr5, dr6⟩, ds1, ds2, ds3, ds4, ds5, ds6, ds7⟩ := hS.m dr_l
  refine go_iload_n dW_draftRow_0 rfl rfl ?_
  refine go_iload_n dW_draftRow_1 rfl rfl ?_
  refine go_icmp_ge dW_draftRow_2 (tgt := 25) (by decide) (fun c2 => ?_) (fun c2 => ?_)
  · refine go_return rfl dW_draftRow_25 ?_
    first | exact ⟨rfl, h.fl hf (of_decide_eq_false c17), oDr.fl⟩ | (rw [if_pos (of_decide_eq_true c17)] at hG; rw [hG]; exact ⟨rfl, h.add hf (of_decide_eq_true c17), oDr.row⟩) | (have q : ¬ f < t := fun q => absurd (h1.mpr q) (i_nlt.mpr c2); exact ⟨rfl, h.no q, oDr.rf⟩)
  · have hf : f < t := h1.mp (i_nle.mp c2)
    rw [h2 hf]
    refine go_aload_n dW_draftRow_5 rfl rfl ?_
    refine go_getO dW_draftRow_6 flW_12 rfl (by assumption) (by assumption) ?_
    refine go_iload_n dW_draftRow_9 rfl rfl ?_
    refine go_iload_n dW_draftRow_10 rfl rfl ?_
    refine go_iload_n dW_draftRow_11 rfl rfl ?_
    refine go_iload dW_draftRow_12 rfl ?_
    refine go_cV (k' := (0, 0)) dW_draftRow_14 _ csW_117 (by assumption) rfl imE_addRow seE_addRow rfl (okE_addRow (d := 0) w G 151 (min R.1 8) (nI f) (nI t) (nI a) (nI y) (by omega) h.1 (hS.m dr_l)) (by omega) (by decide) (Nat.le_of_ble_eq_true rfl) (fun r G1 hr hn => ?_)
    obtain ⟨rfl, hG⟩ := hr
    refine go_if_neB dW_draftRow_17 (tgt := 25) (by decide) (fun c17 => ?_) (fun c17 => ?_)
    · refine go_return rfl dW_draftRow_25 ?_
      first | exact ⟨rfl, h.fl hf (of_decide_eq_false c17), oDr.fl⟩ | (rw [if_pos (of_decide_eq_true c17)] at hG; rw [hG]; exact ⟨rfl, h.add hf (of_decide_eq_true c17), oDr.row⟩) | (have q : ¬ f < t := fun q => absurd (h1.mpr q) (i_nlt.mpr c2); exact ⟨rfl, h.no q, oDr.rf⟩)
    · rw [if_neg (of_decide_eq_false c17)] at hG
      rw [hG]
      refine go_aload_n dW_draftRow_20 rfl rfl ?_
      refine go_iconst (am_b true) (by decide) dW_draftRow_21 ?_
      refine go_putZ (am_b_01 _) dW_draftRow_22 fpW_34 rfl (by assumption) ?_
      refine go_return rfl dW_draftRow_25 ?_
      first | exact ⟨rfl, h.fl hf (of_decide_eq_false c17), oDr.fl⟩ | (rw [if_pos (of_decide_eq_true c17)] at hG; rw [hG]; exact ⟨rfl, h.add hf (of_decide_eq_true c17), oDr.row⟩) | (have q : ¬ f < t := fun q => absurd (h1.mpr q) (i_nlt.mpr c2); exact ⟨rfl, h.no q, oDr.rf⟩)
set_option maxRecDepth 100000 in
theorem okW_splitRow (w : am_W) {d : Nat} (hd : 2 ≤ d) (G : am_G) (h k b e p n : Nat) (M : mT) (R : wT) (hk : k < mR M) (hb : b < 200) (he : e < 200) (hp : p < 200) (hn0 : n < 200) (hS : St0 G) (hM : hldM G h M) (hg1 : G.2.1 150 1 = nI p) (hg2 : G.2.1 150 2 = nI n - nI 1) (hW : cWw G R) : am_Ok w jW_splitRow d (0, 0) [.inr (some 150), .inr (some h), .inl (nI k), .inl (nI b), .inl (nI e)] G (fun r G' => r = none ∧ cWw G' (uRow M p b e n R k) ∧ oDr G G') := by
  refine am_ok_of rfl (Nat.le_of_ble_eq_true rfl) ?_
  show am_Go w jW_splitRow d (0, 0) 0 [some (.inr (some 150)), some (.inr (some h)), some (.inl (nI k)), some (.inl (nI b)), some (.inl (nI e)), none, none, none, none, none] [] G _
  obtain ⟨hs, ⟨r0, r1, r2, r3, r4, r5, r6⟩, s1, s2, s3, s4, s5, s6, s7⟩ := id hM.1
  have hV := hM.2.2.1
  have hn6 := hV.1
  have k50 := hS.s sh_150
  obtain ⟨e1, e2, e3, e4⟩ := hM.2.1.2.2 k hk
  obtain ⟨b1, b2, b3, b4⟩ := hV.2.2.2.2 k hk
  have hr8 := hV.2.1
  refine go_aload_n dW_splitRow_0 rfl rfl ?_
  refine go_getO dW_splitRow_1 flW_86 rfl (by assumption) (by assumption) ?_
  refine go_iload_n dW_splitRow_4 rfl rfl ?_
  refine go_ialV s4 (by omega) (by decide) e1 dW_splitRow_5 ?_
  refine go_istore dW_splitRow_6 (Nat.le_of_ble_eq_true rfl) ?_
  refine go_aload_n dW_splitRow_8 rfl rfl ?_
  refine go_getO dW_splitRow_9 flW_77 rfl (by assumption) (by assumption) ?_
  refine go_iload_n dW_splitRow_12 rfl rfl ?_
  refine go_ialV s5 (by omega) (by decide) e2 dW_splitRow_13 ?_
  refine go_istore dW_splitRow_14 (Nat.le_of_ble_eq_true rfl) ?_
  refine go_aload_n dW_splitRow_16 rfl rfl ?_
  refine go_aload_n dW_splitRow_17 rfl rfl ?_
  refine go_getO dW_splitRow_18 flW_89 rfl (by assumption) (by assumption) ?_
  refine go_iload_n dW_splitRow_21 rfl rfl ?_
  refine go_ialV s6 (by omega) (by decide) e3 dW_splitRow_22 ?_
  refine go_cV (k' := (0, 0)) dW_splitRow_23 _ csW_98 (by assumption) rfl imW_moved seW_moved rfl (okW_moved (d := 0) w G p n (mP M k) hS hg1 hg2 (by omega) (by omega) (by omega)) (by omega) (by decide) (Nat.le_of_ble_eq_true rfl) (fun r G1 hr hn => ?_)
  obtain ⟨rfl, hG⟩ := hr
  rw [hG]
  clear hG hn
  refine go_istore dW_splitRow_26 (Nat.le_of_ble_eq_true rfl) ?_
  refine go_aload_n dW_splitRow_28 rfl rfl ?_
  refine go_getO dW_splitRow_29 flW_92 rfl (by assumption) (by assumption) ?_
  refine go_iload_n dW_splitRow_32 rfl rfl ?_
  refine go_ialV s7 (by omega) (by decide) e4 dW_splitRow_33 ?_
  refine go_istore dW_splitRow_34 (Nat.le_of_ble_eq_true rfl) ?_
  refine go_aload_n dW_splitRow_36 rfl rfl ?_
  refine go_iload dW_splitRow_37 rfl ?_
  refine go_iload dW_splitRow_39 rfl ?_
  refine go_aload_n dW_splitRow_41 rfl rfl ?_
  refine go_getV dW_splitRow_42 flW_101 rfl (by assumption) (by first | assumption | (simp (disch := omega) only [wi_I, ro_I, wi_In, wi_Is]; done) | (simp (disch := omega) only [wi_I, ro_I, wi_In, wi_Is]; first | assumption | rfl) | rfl) ?_
  refine go_min (by omega) (Nat.le_of_ble_eq_true rfl) lkW_80 min_st math_in min_co dW_splitRow_45 ?_
  rw [mn_n (by omega) (by omega)]
  refine go_iload dW_splitRow_48 rfl ?_
  refine go_iload dW_splitRow_50 rfl ?_
  refine go_cV (k' := (0, 0)) dW_splitRow_52 _ csW_95 (by assumption) rfl imW_draftRow seW_draftRow rfl (okW_draftRow (d := 1) w (by decide) G (R) (mF M k) (min (mE M k) p) (mvd p n (mP M k)) (mY M k) (nI (min (mE M k) p)) hS hW (nI_ltI (by omega) (by omega)) (fun _ => rfl)) (by omega) (by decide) (Nat.le_of_ble_eq_true rfl) (fun r G1 hr hn => ?_)
  obtain ⟨rfl, Y1, o1⟩ := hr
  have hS := o1.1.St hS
  have k50 := hS.s sh_150
  have hg1 : G1.2.1 150 1 = nI p := by rw [o1.2.2.2 1 (by decide)]; exact hg1
  have hg2 : G1.2.1 150 2 = nI n - nI 1 := by rw [o1.2.2.2 2 (by decide)]; exact hg2
  refine go_aload_n dW_splitRow_55 rfl rfl ?_
  refine go_getV dW_splitRow_56 flW_101 rfl (by assumption) (by first | assumption | (simp (disch := omega) only [wi_I, ro_I, wi_In, wi_Is]; done) | (simp (disch := omega) only [wi_I, ro_I, wi_In, wi_Is]; first | assumption | rfl) | rfl) ?_
  refine go_iload_n dW_splitRow_59 rfl rfl ?_
  refine (go_isub dW_splitRow_60 ?_)
  refine go_iconst (nI 1) (by decide) dW_splitRow_61 ?_
  refine (go_isub dW_splitRow_62 ?_)
  refine go_istore dW_splitRow_63 (Nat.le_of_ble_eq_true rfl) ?_
  refine go_aload_n dW_splitRow_65 rfl rfl ?_
  refine go_iload dW_splitRow_66 rfl ?_
  refine go_iload_n dW_splitRow_68 rfl rfl ?_
  refine go_iconst (nI 1) (by decide) dW_splitRow_69 ?_
  first | refine go_iaddN dW_splitRow_70 ?_ | refine go_iadd dW_splitRow_70 ?_
  refine go_max (by omega) (Nat.le_of_ble_eq_true rfl) lkW_114 max_st math_in max_co dW_splitRow_71 ?_
  rw [mx_m (by omega) (by omega)]
  refine go_iload dW_splitRow_74 rfl ?_
  refine (go_iadd dW_splitRow_76 ?_)
  rw [sp_e (by omega) (by omega) (by omega) (by omega)]
  refine go_iload dW_splitRow_77 rfl ?_
  refine go_iload dW_splitRow_79 rfl ?_
  refine go_min (by omega) (Nat.le_of_ble_eq_true rfl) lkW_80 min_st math_in min_co dW_splitRow_81 ?_
  rw [mn_n (by omega) (by omega)]
  refine go_iload dW_splitRow_84 rfl ?_
  refine (go_iadd dW_splitRow_86 ?_)
  refine go_iload dW_splitRow_87 rfl ?_
  refine go_iload dW_splitRow_89 rfl ?_
  refine go_cV (k' := (0, 0)) dW_splitRow_91 _ csW_95 (by assumption) rfl imW_draftRow seW_draftRow rfl (okW_draftRow (d := 1) w (by decide) G1 (wAdd R (mF M k) (min (mE M k) p) (mvd p n (mP M k)) (mY M k)) (max (mF M k) (b + 1) + p - (b + 1)) (min (mE M k) e + p - (b + 1)) (mvd p n (mP M k)) (mY M k) (nI (min (mE M k) e) + (nI p - nI b - nI 1)) hS Y1 (sp_lt (by omega) (by omega) (by omega) (by omega)) (fun q => sp_e (by omega) (by omega) (by omega) (by omega))) (by omega) (by decide) (Nat.le_of_ble_eq_true rfl) (fun r G1 hr hn => ?_)
  obtain ⟨rfl, Y2, o2⟩ := hr
  have hS := o2.1.St hS
  have k50 := hS.s sh_150
  have hg1 : G1.2.1 150 1 = nI p := by rw [o2.2.2.2 1 (by decide)]; exact hg1
  have hg2 : G1.2.1 150 2 = nI n - nI 1 := by rw [o2.2.2.2 2 (by decide)]; exact hg2
  refine go_aload_n dW_splitRow_94 rfl rfl ?_
  refine go_iload dW_splitRow_95 rfl ?_
  refine go_aload_n dW_splitRow_97 rfl rfl ?_
  refine go_getV dW_splitRow_98 flW_101 rfl (by assumption) (by first | assumption | (simp (disch := omega) only [wi_I, ro_I, wi_In, wi_Is]; done) | (simp (disch := omega) only [wi_I, ro_I, wi_In, wi_Is]; first | assumption | rfl) | rfl) ?_
  refine go_iconst (nI 1) (by decide) dW_splitRow_101 ?_
  first | refine go_iaddN dW_splitRow_102 ?_ | refine go_iadd dW_splitRow_102 ?_
  refine go_max (by omega) (Nat.le_of_ble_eq_true rfl) lkW_114 max_st math_in max_co dW_splitRow_103 ?_
  rw [mx_m (by omega) (by omega)]
  refine go_aload_n dW_splitRow_106 rfl rfl ?_
  refine go_getV dW_splitRow_107 flW_104 rfl (by assumption) (by first | assumption | (simp (disch := omega) only [wi_I, ro_I, wi_In, wi_Is]; done) | (simp (disch := omega) only [wi_I, ro_I, wi_In, wi_Is]; first | assumption | rfl) | rfl) ?_
  refine (go_iadd dW_splitRow_110 ?_)
  rw [mv_e (by omega) (by omega) (by omega)]
  refine go_iload dW_splitRow_111 rfl ?_
  refine go_aload_n dW_splitRow_113 rfl rfl ?_
  refine go_getV dW_splitRow_114 flW_104 rfl (by assumption) (by first | assumption | (simp (disch := omega) only [wi_I, ro_I, wi_In, wi_Is]; done) | (simp (disch := omega) only [wi_I, ro_I, wi_In, wi_Is]; first | assumption | rfl) | rfl) ?_
  refine (go_iadd dW_splitRow_117 ?_)
  refine go_iload dW_splitRow_118 rfl ?_
  refine go_iload dW_splitRow_120 rfl ?_
  refine go_cV (k' := (0, 0)) dW_splitRow_122 _ csW_95 (by assumption) rfl imW_draftRow seW_draftRow rfl (okW_draftRow (d := 1) w (by decide) G1 (wAdd (wAdd R (mF M k) (min (mE M k) p) (mvd p n (mP M k)) (mY M k)) (max (mF M k) (b + 1) + p - (b + 1)) (min (mE M k) e + p - (b + 1)) (mvd p n (mP M k)) (mY M k)) (max (mF M k) (p + 1) + n - 1) (mE M k + n - 1) (mvd p n (mP M k)) (mY M k) (nI (mE M k) + (nI n - nI 1)) hS Y2 (mv_lt (by omega) (by omega) (by omega)) (fun q => mv_e (by omega) (by omega) (by omega))) (by omega) (by decide) (Nat.le_of_ble_eq_true rfl) (fun r G1 hr hn => ?_)
  obtain ⟨rfl, Y3, o3⟩ := hr
  have hS := o3.1.St hS
  have k50 := hS.s sh_150
  refine go_return rfl dW_splitRow_125 ?_
  exact ⟨rfl, Y3, (o1.tr o2).tr o3⟩
theorem lay2_s {p n k i : Nat} (e : k = p) (h : lay2 p n (k + 1) i) : lay2 p n k i := by unfold lay2 at h ⊢; omega
theorem lay2_n {p n k i : Nat} (e : ¬ k = p) (h : lay2 p n (k + 1) i) : i = mvI p n k ∨ lay2 p n k i := by
  unfold lay2 at h ⊢
  unfold mvI
  by_cases e2 : k < p
  · rw [if_pos e2]; omega
  · rw [if_neg e2]; omega
theorem spI_p {p n : Nat} {M : mT} {G : am_G} {i o : Nat} {x z : Int32} (h : spI p n M G) : spI p n M (E_putF G 151 i o x z) := by
  unfold spI E_putF
  simp (disch := omega) only [wi_I]
  exact h
set_option maxRecDepth 100000 in
theorem W_sp (w : am_W) {d : Nat} (hd : 1 ≤ d) (G0 : am_G) (h p n : Nat) (M : mT) (C : iT) (R : wT) (h8 : h + 8 ≤ 102) (hp : p < mN M) (hn0 : n < 200) (hN : mN M + n - 1 ≤ 60) (hM0 : hldM G0 h M) : ∀ (r k : Nat) (G : am_G) (l5 l6 : Option am_V), k + r = mN M → St0 G → spI p n M G → dI G (mNew M p n C R) (lay2 p n k) → oD G0 G → am_Go w jW_spread d (0, 0) 77 [some (.inr (some 150)), some (.inr (some h)), some (.inl (nI p)), some (.inl (nI n)), some (.inl (nI k)), l5, l6] [] G (fun r G' => r = none ∧ spI p n M G' ∧ dI G' (mNew M p n C R) (lay2 p n (mN M)) ∧ oD G0 G') := by
  intro r
  induction r with
  | zero =>
    intro k G l5 l6 hk hS hP hI ho
    have hM := hM0.d h8 ho
    have mn := hM.2.1.1.1
    obtain ⟨hs, ⟨r0, r1, r2, r3, r4, r5, r6⟩, s1, s2, s3, s4, s5, s6, s7⟩ := id hM.1
    have hV := hM.2.2.1
    have hn6 := hV.1
    refine go_iload dW_spread_77 rfl ?_
    refine go_aload_n dW_spread_79 rfl rfl ?_
    refine go_getV dW_spread_80 flW_67 rfl (by assumption) (by first | assumption | (simp (disch := omega) only [wi_I, ro_I, wi_In, wi_Is]; done) | (simp (disch := omega) only [wi_I, ro_I, wi_In, wi_Is]; first | assumption | rfl) | rfl) ?_
    refine go_icmp_geN (by omega) (by omega) dW_spread_83 (tgt := 169) (by decide) (fun c1 => ?_) (fun c1 => absurd c1 (by omega))
    refine go_return rfl dW_spread_169 ?_
    rw [show k = mN M by omega] at hI
    exact ⟨rfl, hP, hI, ho⟩
  | succ r ih =>
    intro k G l5 l6 hk hS hP hI ho
    have hM := hM0.d h8 ho
    have mn := hM.2.1.1.1
    obtain ⟨hg1, hg2, -⟩ := id hP
    have hkn : k < mN M := by omega
    obtain ⟨hs, ⟨r0, r1, r2, r3, r4, r5, r6⟩, s1, s2, s3, s4, s5, s6, s7⟩ := id hM.1
    have hV := hM.2.2.1
    have hn6 := hV.1
    have k50 := hS.s sh_150
    have g50 := hS.r rt_150
    obtain ⟨ds, ⟨dr0, dr1, dr2, dr3, dr4, dr5, dr6⟩, ds1, ds2, ds3, ds4, ds5, ds6, ds7⟩ := hS.m dr_l
    obtain ⟨m1, m2, m3⟩ := hM.2.1.2.1 k hkn
    obtain ⟨h28, -, a0, b0⟩ := hV.2.2.2.1 k hkn
    refine go_iload dW_spread_77 rfl ?_
    refine go_aload_n dW_spread_79 rfl rfl ?_
    refine go_getV dW_spread_80 flW_67 rfl (by assumption) (by first | assumption | (simp (disch := omega) only [wi_I, ro_I, wi_In, wi_Is]; done) | (simp (disch := omega) only [wi_I, ro_I, wi_In, wi_Is]; first | assumption | rfl) | rfl) ?_
    refine go_icmp_geN (by omega) (by omega) dW_spread_83 (tgt := 169) (by decide) (fun c1 => absurd c1 (by omega)) (fun c1 => ?_)
    refine go_aload_n dW_spread_86 rfl rfl ?_
    refine go_getO dW_spread_87 flW_38 rfl (by assumption) (by assumption) ?_
    refine go_iload dW_spread_90 rfl ?_
    refine go_ialV s1 (by omega) (by decide) m1 dW_spread_92 ?_
    refine go_istore dW_spread_93 (Nat.le_of_ble_eq_true rfl) ?_
    refine go_iload dW_spread_95 rfl ?_
    refine go_cS (k' := (0, 0)) dW_spread_97 _ csW_41 stF_isJump rfl (okF_isJump (d := 0) w G (nI (mO M k))) (by omega) (by decide) (Nat.le_of_ble_eq_true rfl) (fun r G1 hr hn => ?_)
    obtain ⟨rfl, hG⟩ := hr
    rw [hG]
    clear hG hn
    refine go_if_neB dW_spread_100 (tgt := 110) (by decide) (fun c100 => ?_) (fun c100 => ?_)
    · have hj4 : jm4 (mO M k) := by first | exact jm3_4 (jm3T c100 h28) | exact Or.inr (Or.inr (Or.inr c107))
      obtain ⟨q1, q2⟩ := hV.jm hkn hj4
      rw [q1] at m3
      refine go_aload_n dW_spread_110 rfl rfl ?_
      refine go_aload_n dW_spread_111 rfl rfl ?_
      refine go_getO dW_spread_112 flW_22 rfl (by assumption) (by assumption) ?_
      refine go_iload dW_spread_115 rfl ?_
      refine go_ialV s3 (by omega) (by decide) m3 dW_spread_117 ?_
      refine go_cV (k' := (0, 0)) dW_spread_118 _ csW_98 (by assumption) rfl imW_moved seW_moved rfl (okW_moved (d := 0) w G p n (bN M k) hS hg1 hg2 (by omega) (by omega) (by omega)) (by omega) (by decide) (Nat.le_of_ble_eq_true rfl) (fun r G1 hr hn => ?_)
      obtain ⟨rfl, hG⟩ := hr
      rw [hG]
      clear hG hn
      have hB : nI (mvd p n (bN M k)) = shB M p n k := (shB_y hj4).symm
      rw [hB]
      refine go_goto dW_spread_121 (tgt := 131) (by decide) ?_
      refine go_istore dW_spread_131 (Nat.le_of_ble_eq_true rfl) ?_
      refine go_iload dW_spread_133 rfl ?_
      refine go_iload_n dW_spread_135 rfl rfl ?_
      refine go_icmp_eqN (by omega) (by omega) dW_spread_136 (tgt := 163) (by decide) (fun c136 => ?_) (fun c136 => ?_)
      · refine go_inc dW_spread_163 rfl ?_
        refine go_goto dW_spread_166 (tgt := 77) (by decide) ?_
        first | exact ih (k + 1) G _ _ (by omega) hS hP (fun i hi => hI i (lay2_s c136 hi)) ho | (have hT := mNew_mv (M := M) (p := p) (n := n) (C := C) (R := R) c136; exact ih (k + 1) _ _ _ (by omega) hS (spI_p hP) (hI.put hT.1.symm hT.2.1.symm hT.2.2.symm a0 (shB_0 hV hkn) (fun i hi => lay2_n c136 hi)) (ho.tr (oD.h8 E_putF_o)))
      · refine go_aload_n dW_spread_139 rfl rfl ?_
        refine go_getO dW_spread_140 flW_12 rfl (by assumption) (by assumption) ?_
        refine go_aload_n dW_spread_143 rfl rfl ?_
        refine go_iload dW_spread_144 rfl ?_
        refine go_cV (k' := (0, 0)) dW_spread_146 _ csW_98 (by assumption) rfl imW_moved seW_moved rfl (okW_moved (d := 0) w G p n (k) hS hg1 hg2 (by omega) (by omega) (by omega)) (by omega) (by decide) (Nat.le_of_ble_eq_true rfl) (fun r G1 hr hn => ?_)
        obtain ⟨rfl, hG⟩ := hr
        rw [hG]
        clear hG hn
        rw [mvd_I c136]
        refine go_iload dW_spread_149 rfl ?_
        refine go_aload_n dW_spread_151 rfl rfl ?_
        refine go_getO dW_spread_152 flW_45 rfl (by assumption) (by assumption) ?_
        refine go_iload dW_spread_155 rfl ?_
        refine go_ialV s2 (by omega) (by decide) m2 dW_spread_157 ?_
        refine go_iload dW_spread_158 rfl ?_
        refine go_cV (k' := (0, 0)) dW_spread_160 _ csW_48 (by assumption) rfl imE_put seE_put rfl (okE_put (d := 0) w G 151 (mvI p n k) (mO M k) (mA M k) (shB M p n k) (mvI_60 hkn c136 hp hN) h28 (hS.m dr_l)) (by omega) (by decide) (Nat.le_of_ble_eq_true rfl) (fun r G1 hr hn => ?_)
        obtain ⟨rfl, hG⟩ := hr
        rw [hG]
        clear hG hn
        refine go_inc dW_spread_163 rfl ?_
        refine go_goto dW_spread_166 (tgt := 77) (by decide) ?_
        first | exact ih (k + 1) G _ _ (by omega) hS hP (fun i hi => hI i (lay2_s c136 hi)) ho | (have hT := mNew_mv (M := M) (p := p) (n := n) (C := C) (R := R) c136; exact ih (k + 1) _ _ _ (by omega) hS (spI_p hP) (hI.put hT.1.symm hT.2.1.symm hT.2.2.symm a0 (shB_0 hV hkn) (fun i hi => lay2_n c136 hi)) (ho.tr (oD.h8 E_putF_o)))
    · refine go_iload dW_spread_103 rfl ?_
      refine go_bipush (nI 23) (by decide) dW_spread_105 ?_
      refine go_icmp_neN (by omega) (by decide) dW_spread_107 (tgt := 124) (by decide) (fun c107 => ?_) (fun c107 => ?_)
      · refine go_aload_n dW_spread_124 rfl rfl ?_
        refine go_getO dW_spread_125 flW_22 rfl (by assumption) (by assumption) ?_
        refine go_iload dW_spread_128 rfl ?_
        refine go_ialV s3 (by omega) (by decide) m3 dW_spread_130 ?_
        have hB : mB M k = shB M p n k := (shB_n (fun q => by rcases q with q | q | q | q; exact jm3F c100 (Or.inl q); exact jm3F c100 (Or.inr (Or.inl q)); exact jm3F c100 (Or.inr (Or.inr q)); exact c107 q)).symm
        rw [hB]
        refine go_istore dW_spread_131 (Nat.le_of_ble_eq_true rfl) ?_
        refine go_iload dW_spread_133 rfl ?_
        refine go_iload_n dW_spread_135 rfl rfl ?_
        refine go_icmp_eqN (by omega) (by omega) dW_spread_136 (tgt := 163) (by decide) (fun c136 => ?_) (fun c136 => ?_)
        · refine go_inc dW_spread_163 rfl ?_
          refine go_goto dW_spread_166 (tgt := 77) (by decide) ?_
          first | exact ih (k + 1) G _ _ (by omega) hS hP (fun i hi => hI i (lay2_s c136 hi)) ho | (have hT := mNew_mv (M := M) (p := p) (n := n) (C := C) (R := R) c136; exact ih (k + 1) _ _ _ (by omega) hS (spI_p hP) (hI.put hT.1.symm hT.2.1.symm hT.2.2.symm a0 (shB_0 hV hkn) (fun i hi => lay2_n c136 hi)) (ho.tr (oD.h8 E_putF_o)))
        · refine go_aload_n dW_spread_139 rfl rfl ?_
          refine go_getO dW_spread_140 flW_12 rfl (by assumption) (by assumption) ?_
          refine go_aload_n dW_spread_143 rfl rfl ?_
          refine go_iload dW_spread_144 rfl ?_
          refine go_cV (k' := (0, 0)) dW_spread_146 _ csW_98 (by assumption) rfl imW_moved seW_moved rfl (okW_moved (d := 0) w G p n (k) hS hg1 hg2 (by omega) (by omega) (by omega)) (by omega) (by decide) (Nat.le_of_ble_eq_true rfl) (fun r G1 hr hn => ?_)
          obtain ⟨rfl, hG⟩ := hr
          rw [hG]
          clear hG hn
          rw [mvd_I c136]
          refine go_iload dW_spread_149 rfl ?_
          refine go_aload_n dW_spread_151 rfl rfl ?_
          refine go_getO dW_spread_152 flW_45 rfl (by assumption) (by assumption) ?_
          refine go_iload dW_spread_155 rfl ?_
          refine go_ialV s2 (by omega) (by decide) m2 dW_spread_157 ?_
          refine go_iload dW_spread_158 rfl ?_
          refine go_cV (k' := (0, 0)) dW_spread_160 _ csW_48 (by assumption) rfl imE_put seE_put rfl (okE_put (d := 0) w G 151 (mvI p n k) (mO M k) (mA M k) (shB M p n k) (mvI_60 hkn c136 hp hN) h28 (hS.m dr_l)) (by omega) (by decide) (Nat.le_of_ble_eq_true rfl) (fun r G1 hr hn => ?_)
          obtain ⟨rfl, hG⟩ := hr
          rw [hG]
          clear hG hn
          refine go_inc dW_spread_163 rfl ?_
          refine go_goto dW_spread_166 (tgt := 77) (by decide) ?_
          first | exact ih (k + 1) G _ _ (by omega) hS hP (fun i hi => hI i (lay2_s c136 hi)) ho | (have hT := mNew_mv (M := M) (p := p) (n := n) (C := C) (R := R) c136; exact ih (k + 1) _ _ _ (by omega) hS (spI_p hP) (hI.put hT.1.symm hT.2.1.symm hT.2.2.symm a0 (shB_0 hV hkn) (fun i hi => lay2_n c136 hi)) (ho.tr (oD.h8 E_putF_o)))
      · have hj4 : jm4 (mO M k) := by first | exact jm3_4 (jm3T c100 h28) | exact Or.inr (Or.inr (Or.inr c107))
        obtain ⟨q1, q2⟩ := hV.jm hkn hj4
        rw [q1] at m3
        refine go_aload_n dW_spread_110 rfl rfl ?_
        refine go_aload_n dW_spread_111 rfl rfl ?_
        refine go_getO dW_spread_112 flW_22 rfl (by assumption) (by assumption) ?_
        refine go_iload dW_spread_115 rfl ?_
        refine go_ialV s3 (by omega) (by decide) m3 dW_spread_117 ?_
        refine go_cV (k' := (0, 0)) dW_spread_118 _ csW_98 (by assumption) rfl imW_moved seW_moved rfl (okW_moved (d := 0) w G p n (bN M k) hS hg1 hg2 (by omega) (by omega) (by omega)) (by omega) (by decide) (Nat.le_of_ble_eq_true rfl) (fun r G1 hr hn => ?_)
        obtain ⟨rfl, hG⟩ := hr
        rw [hG]
        clear hG hn
        have hB : nI (mvd p n (bN M k)) = shB M p n k := (shB_y hj4).symm
        rw [hB]
        refine go_goto dW_spread_121 (tgt := 131) (by decide) ?_
        refine go_istore dW_spread_131 (Nat.le_of_ble_eq_true rfl) ?_
        refine go_iload dW_spread_133 rfl ?_
        refine go_iload_n dW_spread_135 rfl rfl ?_
        refine go_icmp_eqN (by omega) (by omega) dW_spread_136 (tgt := 163) (by decide) (fun c136 => ?_) (fun c136 => ?_)
        · refine go_inc dW_spread_163 rfl ?_
          refine go_goto dW_spread_166 (tgt := 77) (by decide) ?_
          first | exact ih (k + 1) G _ _ (by omega) hS hP (fun i hi => hI i (lay2_s c136 hi)) ho | (have hT := mNew_mv (M := M) (p := p) (n := n) (C := C) (R := R) c136; exact ih (k + 1) _ _ _ (by omega) hS (spI_p hP) (hI.put hT.1.symm hT.2.1.symm hT.2.2.symm a0 (shB_0 hV hkn) (fun i hi => lay2_n c136 hi)) (ho.tr (oD.h8 E_putF_o)))
        · refine go_aload_n dW_spread_139 rfl rfl ?_
          refine go_getO dW_spread_140 flW_12 rfl (by assumption) (by assumption) ?_
          refine go_aload_n dW_spread_143 rfl rfl ?_
          refine go_iload dW_spread_144 rfl ?_
          refine go_cV (k' := (0, 0)) dW_spread_146 _ csW_98 (by assumption) rfl imW_moved seW_moved rfl (okW_moved (d := 0) w G p n (k) hS hg1 hg2 (by omega) (by omega) (by omega)) (by omega) (by decide) (Nat.le_of_ble_eq_true rfl) (fun r G1 hr hn => ?_)
          obtain ⟨rfl, hG⟩ := hr
          rw [hG]
          clear hG hn
          rw [mvd_I c136]
          refine go_iload dW_spread_149 rfl ?_
          refine go_aload_n dW_spread_151 rfl rfl ?_
          refine go_getO dW_spread_152 flW_45 rfl (by assumption) (by assumption) ?_
          refine go_iload dW_spread_155 rfl ?_
          refine go_ialV s2 (by omega) (by decide) m2 dW_spread_157 ?_
          refine go_iload dW_spread_158 rfl ?_
          refine go_cV (k' := (0, 0)) dW_spread_160 _ csW_48 (by assumption) rfl imE_put seE_put rfl (okE_put (d := 0) w G 151 (mvI p n k) (mO M k) (mA M k) (shB M p n k) (mvI_60 hkn c136 hp hN) h28 (hS.m dr_l)) (by omega) (by decide) (Nat.le_of_ble_eq_true rfl) (fun r G1 hr hn => ?_)
          obtain ⟨rfl, hG⟩ := hr
          rw [hG]
          clear hG hn
          refine go_inc dW_spread_163 rfl ?_
          refine go_goto dW_spread_166 (tgt := 77) (by decide) ?_
          first | exact ih (k + 1) G _ _ (by omega) hS hP (fun i hi => hI i (lay2_s c136 hi)) ho | (have hT := mNew_mv (M := M) (p := p) (n := n) (C := C) (R := R) c136; exact ih (k + 1) _ _ _ (by omega) hS (spI_p hP) (hI.put hT.1.symm hT.2.1.symm hT.2.2.symm a0 (shB_0 hV hkn) (fun i hi => lay2_n c136 hi)) (ho.tr (oD.h8 E_putF_o)))
set_option maxRecDepth 100000 in
theorem okW_spread (w : am_W) {d : Nat} (hd : 1 ≤ d) (G : am_G) (h p n : Nat) (M : mT) (C : iT) (R : wT) (h8 : h + 8 ≤ 102) (hp : p < mN M) (hn0 : n < 200) (hS : St0 G) (hM : hldM G h M) : am_Ok w jW_spread d (0, 0) [.inr (some 150), .inr (some h), .inl (nI p), .inl (nI n)] G (fun r G' => r = none ∧ ((60 < mN M + n - 1 ∧ G'.2.1 150 3 = am_b true ∧ oD G G') ∨ (mN M + n - 1 ≤ 60 ∧ spI p n M G' ∧ dI G' (mNew M p n C R) (lay2 p n (mN M)) ∧ oD G G'))) := by
  refine am_ok_of rfl (Nat.le_of_ble_eq_true rfl) ?_
  show am_Go w jW_spread d (0, 0) 0 [some (.inr (some 150)), some (.inr (some h)), some (.inl (nI p)), some (.inl (nI n)), none, none, none] [] G _
  obtain ⟨hs, ⟨r0, r1, r2, r3, r4, r5, r6⟩, s1, s2, s3, s4, s5, s6, s7⟩ := id hM.1
  have hV := hM.2.2.1
  have hn6 := hV.1
  have k50 := hS.s sh_150
  have g50 := hS.r rt_150
  obtain ⟨ds, ⟨dr0, dr1, dr2, dr3, dr4, dr5, dr6⟩, ds1, ds2, ds3, ds4, ds5, ds6, ds7⟩ := hS.m dr_l
  have mn := hM.2.1.1.1
  refine go_aload_n dW_spread_0 rfl rfl ?_
  refine go_iload_n dW_spread_1 rfl rfl ?_
  refine go_putI dW_spread_2 fpW_101 rfl (by assumption) ?_
  refine go_aload_n dW_spread_5 rfl rfl ?_
  refine go_iload_n dW_spread_6 rfl rfl ?_
  refine go_iconst (nI 1) (by decide) dW_spread_7 ?_
  refine (go_isub dW_spread_8 ?_)
  refine go_putI dW_spread_9 fpW_104 rfl (by assumption) ?_
  refine go_aload_n dW_spread_12 rfl rfl ?_
  refine go_aload_n dW_spread_13 rfl rfl ?_
  refine go_getV dW_spread_14 flW_67 rfl (by assumption) (by first | assumption | (simp (disch := omega) only [wi_I, ro_I, wi_In, wi_Is]; done) | (simp (disch := omega) only [wi_I, ro_I, wi_In, wi_Is]; first | assumption | rfl) | rfl) ?_
  refine go_aload_n dW_spread_17 rfl rfl ?_
  refine go_getV dW_spread_18 flW_104 rfl (by assumption) (by first | assumption | (simp (disch := omega) only [wi_I, ro_I, wi_In, wi_Is]; done) | (simp (disch := omega) only [wi_I, ro_I, wi_In, wi_Is]; first | assumption | rfl) | rfl) ?_
  refine (go_iadd dW_spread_21 ?_)
  rw [mv_e (by omega) (by omega) (by omega)]
  refine go_bipush (nI 60) (by decide) dW_spread_22 ?_
  refine go_icmp_leN (by omega) (by omega) dW_spread_24 (tgt := 31) (by decide) (fun c24 => ?_) (fun c24 => ?_)
  · refine go_iconst (am_b false) (by decide) dW_spread_31 ?_
    refine go_putZ (am_b_01 _) dW_spread_32 fpW_34 rfl (by assumption) ?_
    refine go_aload_n dW_spread_35 rfl rfl ?_
    refine go_getV dW_spread_36 flW_34 rfl (by assumption) wi_Is ?_
    refine go_if_eqB dW_spread_39 (tgt := 43) (by decide) (fun c1 => ?_) (fun c1 => absurd c1 (by decide))
    have o2 : oD G (am_wi (am_wi (am_wi G 150 1 (nI p)) 150 2 (nI n - nI 1)) 150 3 (am_b false)) := ((oD.w ⟨by decide, by decide⟩).tr (oD.w ⟨by decide, by decide⟩)).tr (oD.w ⟨by decide, by decide⟩)
    have f1 : (am_wi (am_wi (am_wi G 150 1 (nI p)) 150 2 (nI n - nI 1)) 150 3 (am_b false)).2.1 150 1 = nI p := by simp (disch := omega) only [wi_In, wi_Is]
    have f2 : (am_wi (am_wi (am_wi G 150 1 (nI p)) 150 2 (nI n - nI 1)) 150 3 (am_b false)).2.1 150 2 = nI n - nI 1 := by simp (disch := omega) only [wi_In, wi_Is]
    have f3 : (am_wi (am_wi (am_wi G 150 1 (nI p)) 150 2 (nI n - nI 1)) 150 3 (am_b false)).2.1 150 3 = am_b false := wi_Is
    refine go_gen (fun G2 hG2 => ?_)
    rw [← hG2] at o2 f1 f2 f3
    clear hG2
    have hS2 := o2.St hS
    have hS := hS2
    have k50 := hS.s sh_150
    have g50 := hS.r rt_150
    obtain ⟨ds, ⟨dr0, dr1, dr2, dr3, dr4, dr5, dr6⟩, ds1, ds2, ds3, ds4, ds5, ds6, ds7⟩ := hS.m dr_l
    have hM2 := hM.d h8 o2
    obtain ⟨hs, ⟨r0, r1, r2, r3, r4, r5, r6⟩, s1, s2, s3, s4, s5, s6, s7⟩ := id hM2.1
    obtain ⟨⟨mn2, -, ag, lk⟩, -⟩ := hM2.2.1
    refine go_aload_n dW_spread_43 rfl rfl ?_
    refine go_getO dW_spread_44 flW_12 rfl (by assumption) (by assumption) ?_
    refine go_aload_n dW_spread_47 rfl rfl ?_
    refine go_getV dW_spread_48 flW_64 rfl (by assumption) (by first | assumption | (simp (disch := omega) only [wi_I, ro_I, wi_In, wi_Is]; done) | (simp (disch := omega) only [wi_I, ro_I, wi_In, wi_Is]; first | assumption | rfl) | rfl) ?_
    refine go_aload_n dW_spread_51 rfl rfl ?_
    refine go_getV dW_spread_52 flW_107 rfl (by assumption) (by first | assumption | (simp (disch := omega) only [wi_I, ro_I, wi_In, wi_Is]; done) | (simp (disch := omega) only [wi_I, ro_I, wi_In, wi_Is]; first | assumption | rfl) | rfl) ?_
    refine go_cV (k' := (0, 0)) dW_spread_55 _ csW_110 (by assumption) rfl imE_begin seE_begin rfl (okE_begin (d := 0) w G2 151 (nI (mG M)) (mL M) (hS.m dr_l)) (by omega) (by decide) (Nat.le_of_ble_eq_true rfl) (fun r G1 hr hn => ?_)
    obtain ⟨rfl, hG⟩ := hr
    rw [hG]
    clear hG hn
    have mn3 : (E_beg G2 151 (nI (mG M)) (am_b (mL M))).2.1 h 7 = nI (mN M) := by rw [E_beg_o.2.2 h (by unfold hR8; omega)]; exact mn2
    have f23 : (E_beg G2 151 (nI (mG M)) (am_b (mL M))).2.1 150 2 = nI n - nI 1 := by rw [E_beg_o.2.2 150 (by unfold hR8; omega)]; exact f2
    refine go_aload_n dW_spread_58 rfl rfl ?_
    refine go_getO dW_spread_59 flW_12 rfl (by assumption) (by assumption) ?_
    refine go_aload_n dW_spread_62 rfl rfl ?_
    refine go_getV dW_spread_63 flW_67 rfl (by assumption) (by first | assumption | (simp (disch := omega) only [wi_I, ro_I, wi_In, wi_Is]; done) | (simp (disch := omega) only [wi_I, ro_I, wi_In, wi_Is]; first | assumption | rfl) | rfl) ?_
    refine go_aload_n dW_spread_66 rfl rfl ?_
    refine go_getV dW_spread_67 flW_104 rfl (by assumption) (by first | assumption | (simp (disch := omega) only [wi_I, ro_I, wi_In, wi_Is]; done) | (simp (disch := omega) only [wi_I, ro_I, wi_In, wi_Is]; first | assumption | rfl) | rfl) ?_
    refine (go_iadd dW_spread_70 ?_)
    rw [mv_e (by omega) (by omega) (by omega)]
    refine go_putI dW_spread_71 fpW_67 rfl (by assumption) ?_
    refine go_iconst (nI 0) (by decide) dW_spread_74 ?_
    refine go_istore dW_spread_75 (Nat.le_of_ble_eq_true rfl) ?_
    have o3 : oD G (am_wi (E_beg G2 151 (nI (mG M)) (am_b (mL M))) 151 7 (nI (mN M + n - 1))) := (o2.tr (oD.h8 E_beg_o)).tr (oD.w ⟨by decide, by decide⟩)
    have P3 : spI p n M (am_wi (E_beg G2 151 (nI (mG M)) (am_b (mL M))) 151 7 (nI (mN M + n - 1))) := by
      unfold spI E_beg
      simp (disch := omega) only [wi_I, wi_In, wi_Is]
      exact ⟨f1, f2, f3, trivial, trivial, trivial, trivial⟩
    refine go_post (W_sp w hd G h p n M C R h8 hp hn0 (by omega) hM (mN M) 0 _ _ _ (by omega) hS P3 (fun i hi => absurd hi (by unfold lay2; omega)) o3) (fun r9 G9 q => ?_)
    obtain ⟨q1, q2, q3, q4⟩ := q
    exact ⟨q1, Or.inr ⟨c24, q2, q3, q4⟩⟩
  · refine go_iconst (am_b true) (by decide) dW_spread_27 ?_
    refine go_goto dW_spread_28 (tgt := 32) (by decide) ?_
    refine go_putZ (am_b_01 _) dW_spread_32 fpW_34 rfl (by assumption) ?_
    refine go_aload_n dW_spread_35 rfl rfl ?_
    refine go_getV dW_spread_36 flW_34 rfl (by assumption) wi_Is ?_
    refine go_if_eqB dW_spread_39 (tgt := 43) (by decide) (fun c1 => absurd c1 (by decide)) (fun c1 => ?_)
    refine go_return rfl dW_spread_42 ?_
    exact ⟨rfl, Or.inl ⟨c24, wi_Is, ((oD.w ⟨by decide, by decide⟩).tr (oD.w ⟨by decide, by decide⟩)).tr (oD.w ⟨by decide, by decide⟩)⟩⟩
set_option maxRecDepth 100000 in
theorem okW_toA (w : am_W) {d : Nat} (G : am_G) (h : Nat) (R : wT) (hS : St0 G) (hW : cWw G R) (hR : 8 < R.1) : am_Ok w jW_takeOver d (0, 0) [.inr (some 150), .inr (some h)] G (fun r G' => r = some (.inl (-3)) ∧ G' = G) := by
  refine am_ok_of rfl (Nat.le_of_ble_eq_true rfl) ?_
  show am_Go w jW_takeOver d (0, 0) 0 [some (.inr (some 150)), some (.inr (some h))] [] G _
  have k50 := hS.s sh_150
  have fl := hW.2.1
  rw [decide_eq_true hR] at fl
  refine go_aload_n dW_takeOver_0 rfl rfl ?_
  refine go_getV dW_takeOver_1 flW_34 rfl (by assumption) (by first | assumption | (simp (disch := omega) only [wi_I, ro_I, wi_In, wi_Is]; done) | (simp (disch := omega) only [wi_I, ro_I, wi_In, wi_Is]; first | assumption | rfl) | rfl) ?_
  refine go_if_eqB dW_takeOver_4 (tgt := 10) (by decide) (fun c1 => absurd c1 (by decide)) (fun c1 => ?_)
  refine go_bipush (-3) (by decide) dW_takeOver_7 ?_
  refine go_ireturn rfl dW_takeOver_9 ?_
  exact ⟨rfl, rfl⟩
set_option maxRecDepth 100000 in
theorem okW_toB (w : am_W) {d : Nat} (hd : 2 ≤ d) (G : am_G) (h : Nat) (M : mT) (h8 : h + 8 ≤ 102) (hS : St0 G) (hi : isM G h) (fl : G.2.1 150 3 = am_b false) (hM : cM G 151 M) (hn6 : mN M ≤ 60) (hr8 : mR M ≤ 8) : am_Ok w jW_takeOver d (0, 0) [.inr (some 150), .inr (some h)] G (fun r G' => r = some (.inl (nI (mN M))) ∧ cM G' h M ∧ oR (hR8 h) G G') := by
  refine am_ok_of rfl (Nat.le_of_ble_eq_true rfl) ?_
  show am_Go w jW_takeOver d (0, 0) 0 [some (.inr (some 150)), some (.inr (some h))] [] G _
  have k50 := hS.s sh_150
  have g50 := hS.r rt_150
  have hd2 := hS.m dr_l
  have d0 := hd2.1
  have h0 := hi.1
  refine go_aload_n dW_takeOver_0 rfl rfl ?_
  refine go_getV dW_takeOver_1 flW_34 rfl (by assumption) (by first | assumption | (simp (disch := omega) only [wi_I, ro_I, wi_In, wi_Is]; done) | (simp (disch := omega) only [wi_I, ro_I, wi_In, wi_Is]; first | assumption | rfl) | rfl) ?_
  refine go_if_eqB dW_takeOver_4 (tgt := 10) (by decide) (fun c1 => ?_) (fun c1 => absurd c1 (by decide))
  refine go_aload_n dW_takeOver_10 rfl rfl ?_
  refine go_aload_n dW_takeOver_11 rfl rfl ?_
  refine go_getO dW_takeOver_12 flW_12 rfl (by assumption) (by assumption) ?_
  refine go_cV (k' := (0, 0)) dW_takeOver_15 _ csW_121 (by assumption) rfl imE_become seE_become rfl (okE_become (d := 1) w (by decide) G h 151 M (Or.inr (by omega)) hn6 hr8 hi (hS.m dr_l) hM) (by omega) (by decide) (Nat.le_of_ble_eq_true rfl) (fun r G1 hr hn => ?_)
  obtain ⟨rfl, hG⟩ := hr
  have B1 : cM G1 h M := by rw [hG]; exact E_bec_M (Or.inr (by omega)) hM
  have o1 : oR (hR8 h) G G1 := by rw [hG]; exact E_bec_o
  have h0 : G1.1[h]? = some (0, 1) := by rw [o1.1]; exact hi.1
  have mn := B1.1.1
  refine go_aload_n dW_takeOver_18 rfl rfl ?_
  refine go_getV dW_takeOver_19 flW_67 rfl (by assumption) (by first | assumption | (simp (disch := omega) only [wi_I, ro_I, wi_In, wi_Is]; done) | (simp (disch := omega) only [wi_I, ro_I, wi_In, wi_Is]; first | assumption | rfl) | rfl) ?_
  refine go_ireturn rfl dW_takeOver_22 ?_
  exact ⟨rfl, B1, o1⟩
