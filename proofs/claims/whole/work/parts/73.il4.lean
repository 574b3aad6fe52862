theorem mxM {g a : Nat} (hg : g < 1000) (ha : a < 1000) : (if nM g < nI a then nI a else nM g) = nM (max g (a + 1)) := by
  by_cases q : g ≤ a
  · rw [if_pos ((nM_ltb (by omega) (by omega)).mpr q), show max g (a + 1) = a + 1 by omega, nM_1]
  · rw [if_neg (fun e => q ((nM_ltb (by omega) (by omega)).mp e)), show max g (a + 1) = g by omega]
theorem mv_l8 {f g : Nat} (hf : f < 1000) (hg : g < 1000) : nI f + nM g < nI 8 ↔ f + g ≤ 8 := by
  rw [Int32.lt_iff_toInt_lt, show nI f + nM g = nI f + (nI g - nI 1) from rfl, mv_t (by omega) (by omega), nI_toInt (by decide)]
  omega
theorem locO_n3 {o : Nat} (h1 : ¬ o = 2) (h2 : ¬ o = 3) (h4 : ¬ o = 24) (h3 : ¬ o = 27) : ¬ locO true o := locO_n2 h1 h2 h3 h4
def ilB (T : fM) (C : mT) : Prop := ∀ k x, k < mN C → T k = some x → mO C k = 22 → x.1 ≤ 1
theorem ilB.a {g : Nat → Nat} {T : fM} {C : mT} (h : ilB T C) (hT : fLeast g C T) : ilA T C := fun k x hk hx ho => by
  have h1 := h k x hk hx ho
  have h2 := hT.1.ret hk hx ho
  omega
theorem ilA.b {T : fM} {C : mT} (h : ilA T C) : ilB T C := fun k x hk hx ho => Nat.le_of_eq (h k x hk hx ho)
theorem aInl_h {s : sT} {m : Nat} {S : fM} {y : Int32} {f : Nat → Int32} (hm : m < 6) (hL : fLeast (gP (zQ s s.1)) (zM s m) S) (hV : mV (zM s m)) (hf : ∀ i, i < mN (zM s m) → f i = nI (mO (zM s m) i)) (h : (bel y (mN (zM s m)) && decide (f y.toNatClampNeg = nI 21)) = false) : aInl s (nI m) y = (-2, s) := by
  have hn6 := hV.1
  rcases hasF h with q | ⟨q1, q2⟩
  · exact aInl_n1 hm hL q
  · obtain ⟨p, hp, rfl⟩ := bel_of q1 (by omega)
    rw [nI_clamp (by omega)] at q2
    exact aInl_n2 hm hL (by omega) (fun e => q2 (by rw [hf p hp, e]))
/-- the sizes of the values that inline puts -/
theorem iC_0 {C : mT} {p f n k : Nat} (hC : mV C) (hk : k < mN C) (h22 : ¬ mO C k = 22) : (am_sf 0 (mO C k) = -1 → (iC C p f n (mG C + k)).2.1 = 0) ∧ (am_sf 1 (mO C k) = -1 → (iC C p f n (mG C + k)).2.2 = 0) := by
  obtain ⟨h1, -, h3, h4⟩ := hC.2.2.2.1 k hk
  refine ⟨fun q => ?_, fun q => ?_⟩
  · by_cases hl : mO C k = 2 ∨ mO C k = 3 ∨ mO C k = 27
    · rcases hl with e | e | e <;> rw [e] at q <;> exact absurd q (by decide +kernel)
    · rw [iC_a2 h22 hl]; exact h3 q
  · rw [iC_b2 h22 (fun z => sf_59 _ h1 z q)]; exact h4 q
theorem oDr.spI {p n : Nat} {M : mT} {G G' : am_G} (ho : oDr G G') (h1 : G.2.1 150 1 = nI p) (h2 : G.2.1 150 2 = nI n - nI 1) : G'.2.1 150 1 = nI p ∧ G'.2.1 150 2 = nI n - nI 1 := ⟨by rw [ho.2.2.2 1 (by decide)]; exact h1, by rw [ho.2.2.2 2 (by decide)]; exact h2⟩

set_option maxRecDepth 100000 in
theorem E_gl (w : am_W) {d : Nat} (hd : 1 ≤ d) (G : am_G) (h : Nat) (M : mT) (hM : hldM G h M) : ∀ (r k : Nat), k + r = mN M → am_Go w jE_greatestLocal d (0, 0) 9 [some (.inr (some h)), some (.inl (nM (gLx M true k))), some (.inl (nI k))] [] G (fun r' G' => r' = some (.inl (nM (gLx M true (mN M)))) ∧ G' = G) := by
  obtain ⟨hs, ⟨r0, r1, r2, r3, r4, r5, r6⟩, s1, s2, s3, s4, s5, s6, s7⟩ := id hM.1
  have hV := hM.2.2.1
  have hn6 := hV.1
  have mn := hM.2.1.1.1
  intro r
  induction r with
  | zero =>
    intro k hk
    refine go_iload_n dE_greatestLocal_9 rfl rfl ?_
    refine go_aload_n dE_greatestLocal_10 rfl rfl ?_
    refine go_getV dE_greatestLocal_11 flE_33 rfl (by assumption) (by first | assumption | (simp (disch := omega) only [wi_I, ro_I, wi_In, wi_Is]; done) | (simp (disch := omega) only [wi_I, ro_I, wi_In, wi_Is]; first | assumption | rfl) | rfl) ?_
    refine go_icmp_geN (by omega) (by omega) dE_greatestLocal_14 (tgt := 76) (by decide) (fun c1 => ?_) (fun c1 => absurd c1 (by omega))
    refine go_iload_n dE_greatestLocal_76 rfl rfl ?_
    refine go_ireturn rfl dE_greatestLocal_77 ?_
    exact ⟨by rw [show k = mN M by omega], rfl⟩
  | succ r ih =>
    intro k hk
    have hkn : k < mN M := by omega
    obtain ⟨m1, m2, m3⟩ := hM.2.1.2.1 k hkn
    have h28 := (hV.2.2.2.1 k hkn).1
    have g8 := gLx_8 (r := true) hV k (by omega)
    have i1 := ih (k + 1) (by omega)
    refine go_iload_n dE_greatestLocal_9 rfl rfl ?_
    refine go_aload_n dE_greatestLocal_10 rfl rfl ?_
    refine go_getV dE_greatestLocal_11 flE_33 rfl (by assumption) (by first | assumption | (simp (disch := omega) only [wi_I, ro_I, wi_In, wi_Is]; done) | (simp (disch := omega) only [wi_I, ro_I, wi_In, wi_Is]; first | assumption | rfl) | rfl) ?_
    refine go_icmp_geN (by omega) (by omega) dE_greatestLocal_14 (tgt := 76) (by decide) (fun c1 => absurd c1 (by omega)) (fun c1 => ?_)
    refine go_aload_n dE_greatestLocal_17 rfl rfl ?_
    refine go_getO dE_greatestLocal_18 flE_9 rfl (by assumption) (by assumption) ?_
    refine go_iload_n dE_greatestLocal_21 rfl rfl ?_
    refine go_ialV s1 (by omega) (by decide) m1 dE_greatestLocal_22 ?_
    refine go_iconst (nI 2) (by decide) dE_greatestLocal_23 ?_
    refine go_icmp_eqN (by omega) (by decide) dE_greatestLocal_24 (tgt := 59) (by decide) (fun c24 => ?_) (fun c24 => ?_)
    · have hl : locO true (mO M k) := by first | exact Or.inl c24 | exact Or.inr (Or.inl c34) | exact Or.inr (Or.inr (Or.inr ⟨rfl, c45⟩)) | exact Or.inr (Or.inr (Or.inl c56))
      obtain ⟨a1, a2⟩ := locO_V hV hkn hl
      rw [a1] at m2
      refine go_iload_n dE_greatestLocal_59 rfl rfl ?_
      refine go_aload_n dE_greatestLocal_60 rfl rfl ?_
      refine go_getO dE_greatestLocal_61 flE_15 rfl (by assumption) (by assumption) ?_
      refine go_iload_n dE_greatestLocal_64 rfl rfl ?_
      refine go_ialV s2 (by omega) (by decide) m2 dE_greatestLocal_65 ?_
      refine go_max (by omega) (Nat.le_of_ble_eq_true rfl) lkE_76 max_st math_in max_co dE_greatestLocal_66 ?_
      rw [mxM (by omega) (by omega), ← gLx_y hl]
      refine go_istore_n dE_greatestLocal_69 rfl (Nat.le_of_ble_eq_true rfl) ?_
      refine go_inc dE_greatestLocal_70 rfl ?_
      refine go_goto dE_greatestLocal_73 (tgt := 9) (by decide) ?_
      first | exact i1 | (have ee := gLx_n (M := M) (locO_n3 c24 c34 c45 c56); rw [ee] at i1; exact i1)
    · refine go_aload_n dE_greatestLocal_27 rfl rfl ?_
      refine go_getO dE_greatestLocal_28 flE_9 rfl (by assumption) (by assumption) ?_
      refine go_iload_n dE_greatestLocal_31 rfl rfl ?_
      refine go_ialV s1 (by omega) (by decide) m1 dE_greatestLocal_32 ?_
      refine go_iconst (nI 3) (by decide) dE_greatestLocal_33 ?_
      refine go_icmp_eqN (by omega) (by decide) dE_greatestLocal_34 (tgt := 59) (by decide) (fun c34 => ?_) (fun c34 => ?_)
      · have hl : locO true (mO M k) := by first | exact Or.inl c24 | exact Or.inr (Or.inl c34) | exact Or.inr (Or.inr (Or.inr ⟨rfl, c45⟩)) | exact Or.inr (Or.inr (Or.inl c56))
        obtain ⟨a1, a2⟩ := locO_V hV hkn hl
        rw [a1] at m2
        refine go_iload_n dE_greatestLocal_59 rfl rfl ?_
        refine go_aload_n dE_greatestLocal_60 rfl rfl ?_
        refine go_getO dE_greatestLocal_61 flE_15 rfl (by assumption) (by assumption) ?_
        refine go_iload_n dE_greatestLocal_64 rfl rfl ?_
        refine go_ialV s2 (by omega) (by decide) m2 dE_greatestLocal_65 ?_
        refine go_max (by omega) (Nat.le_of_ble_eq_true rfl) lkE_76 max_st math_in max_co dE_greatestLocal_66 ?_
        rw [mxM (by omega) (by omega), ← gLx_y hl]
        refine go_istore_n dE_greatestLocal_69 rfl (Nat.le_of_ble_eq_true rfl) ?_
        refine go_inc dE_greatestLocal_70 rfl ?_
        refine go_goto dE_greatestLocal_73 (tgt := 9) (by decide) ?_
        first | exact i1 | (have ee := gLx_n (M := M) (locO_n3 c24 c34 c45 c56); rw [ee] at i1; exact i1)
      · refine go_aload_n dE_greatestLocal_37 rfl rfl ?_
        refine go_getO dE_greatestLocal_38 flE_9 rfl (by assumption) (by assumption) ?_
        refine go_iload_n dE_greatestLocal_41 rfl rfl ?_
        refine go_ialV s1 (by omega) (by decide) m1 dE_greatestLocal_42 ?_
        refine go_bipush (nI 24) (by decide) dE_greatestLocal_43 ?_
        refine go_icmp_eqN (by omega) (by decide) dE_greatestLocal_45 (tgt := 59) (by decide) (fun c45 => ?_) (fun c45 => ?_)
        · have hl : locO true (mO M k) := by first | exact Or.inl c24 | exact Or.inr (Or.inl c34) | exact Or.inr (Or.inr (Or.inr ⟨rfl, c45⟩)) | exact Or.inr (Or.inr (Or.inl c56))
          obtain ⟨a1, a2⟩ := locO_V hV hkn hl
          rw [a1] at m2
          refine go_iload_n dE_greatestLocal_59 rfl rfl ?_
          refine go_aload_n dE_greatestLocal_60 rfl rfl ?_
          refine go_getO dE_greatestLocal_61 flE_15 rfl (by assumption) (by assumption) ?_
          refine go_iload_n dE_greatestLocal_64 rfl rfl ?_
          refine go_ialV s2 (by omega) (by decide) m2 dE_greatestLocal_65 ?_
          refine go_max (by omega) (Nat.le_of_ble_eq_true rfl) lkE_76 max_st math_in max_co dE_greatestLocal_66 ?_
          rw [mxM (by omega) (by omega), ← gLx_y hl]
          refine go_istore_n dE_greatestLocal_69 rfl (Nat.le_of_ble_eq_true rfl) ?_
          refine go_inc dE_greatestLocal_70 rfl ?_
          refine go_goto dE_greatestLocal_73 (tgt := 9) (by decide) ?_
          first | exact i1 | (have ee := gLx_n (M := M) (locO_n3 c24 c34 c45 c56); rw [ee] at i1; exact i1)
        · refine go_aload_n dE_greatestLocal_48 rfl rfl ?_
          refine go_getO dE_greatestLocal_49 flE_9 rfl (by assumption) (by assumption) ?_
          refine go_iload_n dE_greatestLocal_52 rfl rfl ?_
          refine go_ialV s1 (by omega) (by decide) m1 dE_greatestLocal_53 ?_
          refine go_bipush (nI 27) (by decide) dE_greatestLocal_54 ?_
          refine go_icmp_neN (by omega) (by decide) dE_greatestLocal_56 (tgt := 70) (by decide) (fun c56 => ?_) (fun c56 => ?_)
          · refine go_inc dE_greatestLocal_70 rfl ?_
            refine go_goto dE_greatestLocal_73 (tgt := 9) (by decide) ?_
            first | exact i1 | (have ee := gLx_n (M := M) (locO_n3 c24 c34 c45 c56); rw [ee] at i1; exact i1)
          · have hl : locO true (mO M k) := by first | exact Or.inl c24 | exact Or.inr (Or.inl c34) | exact Or.inr (Or.inr (Or.inr ⟨rfl, c45⟩)) | exact Or.inr (Or.inr (Or.inl c56))
            obtain ⟨a1, a2⟩ := locO_V hV hkn hl
            rw [a1] at m2
            refine go_iload_n dE_greatestLocal_59 rfl rfl ?_
            refine go_aload_n dE_greatestLocal_60 rfl rfl ?_
            refine go_getO dE_greatestLocal_61 flE_15 rfl (by assumption) (by assumption) ?_
            refine go_iload_n dE_greatestLocal_64 rfl rfl ?_
            refine go_ialV s2 (by omega) (by decide) m2 dE_greatestLocal_65 ?_
            refine go_max (by omega) (Nat.le_of_ble_eq_true rfl) lkE_76 max_st math_in max_co dE_greatestLocal_66 ?_
            rw [mxM (by omega) (by omega), ← gLx_y hl]
            refine go_istore_n dE_greatestLocal_69 rfl (Nat.le_of_ble_eq_true rfl) ?_
            refine go_inc dE_greatestLocal_70 rfl ?_
            refine go_goto dE_greatestLocal_73 (tgt := 9) (by decide) ?_
            first | exact i1 | (have ee := gLx_n (M := M) (locO_n3 c24 c34 c45 c56); rw [ee] at i1; exact i1)
set_option maxRecDepth 100000 in
theorem okE_greatestLocal (w : am_W) {d : Nat} (hd : 1 ≤ d) (G : am_G) (h : Nat) (M : mT) (hM : hldM G h M) : am_Ok w jE_greatestLocal d (0, 0) [.inr (some h)] G (fun r G' => r = some (.inl (nM (gLx M true (mN M)))) ∧ G' = G) := by
  refine am_ok_of rfl (Nat.le_of_ble_eq_true rfl) ?_
  show am_Go w jE_greatestLocal d (0, 0) 0 [some (.inr (some h)), none, none] [] G _
  obtain ⟨hs, ⟨r0, r1, r2, r3, r4, r5, r6⟩, s1, s2, s3, s4, s5, s6, s7⟩ := id hM.1
  have hV := hM.2.2.1
  have hn6 := hV.1
  have ag := hM.2.1.1.2.2.1
  refine go_aload_n dE_greatestLocal_0 rfl rfl ?_
  refine go_getV dE_greatestLocal_1 flE_40 rfl (by assumption) (by first | assumption | (simp (disch := omega) only [wi_I, ro_I, wi_In, wi_Is]; done) | (simp (disch := omega) only [wi_I, ro_I, wi_In, wi_Is]; first | assumption | rfl) | rfl) ?_
  refine go_iconst (nI 1) (by decide) dE_greatestLocal_4 ?_
  refine (go_isub dE_greatestLocal_5 ?_)
  change am_Go w jE_greatestLocal d (0, 0) 6 _ [.inl (nM (mG M))] _ _
  refine go_istore_n dE_greatestLocal_6 rfl (Nat.le_of_ble_eq_true rfl) ?_
  refine go_iconst (nI 0) (by decide) dE_greatestLocal_7 ?_
  refine go_istore_n dE_greatestLocal_8 rfl (Nat.le_of_ble_eq_true rfl) ?_
  exact E_gl w hd G h M hM (mN M) 0 (by omega)
set_option maxRecDepth 100000 in
theorem E_hl (w : am_W) {d : Nat} (G : am_G) (h : Nat) (M : mT) (hM : hldM G h M) : ∀ (r k : Nat), k + r = mN M → (∀ i, i < k → mO M i ≠ 18 ∧ mO M i ≠ 19 ∧ mO M i ≠ 23 ∧ mO M i ≠ 24) → am_Go w jE_hasLocksOrSubroutines d (0, 0) 2 [some (.inr (some h)), some (.inl (nI k))] [] G (fun r G' => ∃ c : Bool, r = some (.inl (am_b c)) ∧ (c = true ↔ ¬ ilP M) ∧ G' = G) := by
  obtain ⟨hs, ⟨r0, r1, r2, r3, r4, r5, r6⟩, s1, s2, s3, s4, s5, s6, s7⟩ := id hM.1
  have hV := hM.2.2.1
  have hn6 := hV.1
  have mn := hM.2.1.1.1
  intro r
  induction r with
  | zero =>
    intro k hk h1
    refine go_iload_n dE_hasLocksOrSubroutines_2 rfl rfl ?_
    refine go_aload_n dE_hasLocksOrSubroutines_3 rfl rfl ?_
    refine go_getV dE_hasLocksOrSubroutines_4 flE_33 rfl (by assumption) (by first | assumption | (simp (disch := omega) only [wi_I, ro_I, wi_In, wi_Is]; done) | (simp (disch := omega) only [wi_I, ro_I, wi_In, wi_Is]; first | assumption | rfl) | rfl) ?_
    refine go_icmp_geN (by omega) (by omega) dE_hasLocksOrSubroutines_7 (tgt := 62) (by decide) (fun c1 => ?_) (fun c1 => absurd c1 (by omega))
    refine go_iconst (am_b false) (by decide) dE_hasLocksOrSubroutines_62 ?_
    refine go_zreturn rfl (by first | exact Or.inl rfl | exact Or.inr rfl | exact am_b_01 _) dE_hasLocksOrSubroutines_63 ?_
    exact ⟨false, rfl, iffF (fun q => q (fun i hi => h1 i (by omega))), rfl⟩
  | succ r ih =>
    intro k hk h1
    have hkn : k < mN M := by omega
    obtain ⟨m1, m2, m3⟩ := hM.2.1.2.1 k hkn
    have h28 := (hV.2.2.2.1 k hkn).1
    refine go_iload_n dE_hasLocksOrSubroutines_2 rfl rfl ?_
    refine go_aload_n dE_hasLocksOrSubroutines_3 rfl rfl ?_
    refine go_getV dE_hasLocksOrSubroutines_4 flE_33 rfl (by assumption) (by first | assumption | (simp (disch := omega) only [wi_I, ro_I, wi_In, wi_Is]; done) | (simp (disch := omega) only [wi_I, ro_I, wi_In, wi_Is]; first | assumption | rfl) | rfl) ?_
    refine go_icmp_geN (by omega) (by omega) dE_hasLocksOrSubroutines_7 (tgt := 62) (by decide) (fun c1 => absurd c1 (by omega)) (fun c1 => ?_)
    refine go_aload_n dE_hasLocksOrSubroutines_10 rfl rfl ?_
    refine go_getO dE_hasLocksOrSubroutines_11 flE_9 rfl (by assumption) (by assumption) ?_
    refine go_iload_n dE_hasLocksOrSubroutines_14 rfl rfl ?_
    refine go_ialV s1 (by omega) (by decide) m1 dE_hasLocksOrSubroutines_15 ?_
    refine go_bipush (nI 18) (by decide) dE_hasLocksOrSubroutines_16 ?_
    refine go_icmp_eqN (by omega) (by decide) dE_hasLocksOrSubroutines_18 (tgt := 54) (by decide) (fun c18 => ?_) (fun c18 => ?_)
    · refine go_iconst (am_b true) (by decide) dE_hasLocksOrSubroutines_54 ?_
      refine go_zreturn rfl (am_b_01 _) dE_hasLocksOrSubroutines_55 ?_
      first | exact ⟨true, rfl, iffT (fun q => (q k hkn).1 c18), rfl⟩ | exact ⟨true, rfl, iffT (fun q => (q k hkn).2.1 c29), rfl⟩ | exact ⟨true, rfl, iffT (fun q => (q k hkn).2.2.1 c40), rfl⟩ | exact ⟨true, rfl, iffT (fun q => (q k hkn).2.2.2 c51), rfl⟩
    · refine go_aload_n dE_hasLocksOrSubroutines_21 rfl rfl ?_
      refine go_getO dE_hasLocksOrSubroutines_22 flE_9 rfl (by assumption) (by assumption) ?_
      refine go_iload_n dE_hasLocksOrSubroutines_25 rfl rfl ?_
      refine go_ialV s1 (by omega) (by decide) m1 dE_hasLocksOrSubroutines_26 ?_
      refine go_bipush (nI 19) (by decide) dE_hasLocksOrSubroutines_27 ?_
      refine go_icmp_eqN (by omega) (by decide) dE_hasLocksOrSubroutines_29 (tgt := 54) (by decide) (fun c29 => ?_) (fun c29 => ?_)
      · refine go_iconst (am_b true) (by decide) dE_hasLocksOrSubroutines_54 ?_
        refine go_zreturn rfl (am_b_01 _) dE_hasLocksOrSubroutines_55 ?_
        first | exact ⟨true, rfl, iffT (fun q => (q k hkn).1 c18), rfl⟩ | exact ⟨true, rfl, iffT (fun q => (q k hkn).2.1 c29), rfl⟩ | exact ⟨true, rfl, iffT (fun q => (q k hkn).2.2.1 c40), rfl⟩ | exact ⟨true, rfl, iffT (fun q => (q k hkn).2.2.2 c51), rfl⟩
      · refine go_aload_n dE_hasLocksOrSubroutines_32 rfl rfl ?_
        refine go_getO dE_hasLocksOrSubroutines_33 flE_9 rfl (by assumption) (by assumption) ?_
        refine go_iload_n dE_hasLocksOrSubroutines_36 rfl rfl ?_
        refine go_ialV s1 (by omega) (by decide) m1 dE_hasLocksOrSubroutines_37 ?_
        refine go_bipush (nI 23) (by decide) dE_hasLocksOrSubroutines_38 ?_
        refine go_icmp_eqN (by omega) (by decide) dE_hasLocksOrSubroutines_40 (tgt := 54) (by decide) (fun c40 => ?_) (fun c40 => ?_)
        · refine go_iconst (am_b true) (by decide) dE_hasLocksOrSubroutines_54 ?_
          refine go_zreturn rfl (am_b_01 _) dE_hasLocksOrSubroutines_55 ?_
          first | exact ⟨true, rfl, iffT (fun q => (q k hkn).1 c18), rfl⟩ | exact ⟨true, rfl, iffT (fun q => (q k hkn).2.1 c29), rfl⟩ | exact ⟨true, rfl, iffT (fun q => (q k hkn).2.2.1 c40), rfl⟩ | exact ⟨true, rfl, iffT (fun q => (q k hkn).2.2.2 c51), rfl⟩
        · refine go_aload_n dE_hasLocksOrSubroutines_43 rfl rfl ?_
          refine go_getO dE_hasLocksOrSubroutines_44 flE_9 rfl (by assumption) (by assumption) ?_
          refine go_iload_n dE_hasLocksOrSubroutines_47 rfl rfl ?_
          refine go_ialV s1 (by omega) (by decide) m1 dE_hasLocksOrSubroutines_48 ?_
          refine go_bipush (nI 24) (by decide) dE_hasLocksOrSubroutines_49 ?_
          refine go_icmp_neN (by omega) (by decide) dE_hasLocksOrSubroutines_51 (tgt := 56) (by decide) (fun c51 => ?_) (fun c51 => ?_)
          · refine go_inc dE_hasLocksOrSubroutines_56 rfl ?_
            refine go_goto dE_hasLocksOrSubroutines_59 (tgt := 2) (by decide) ?_
            refine ih (k + 1) (by omega) (fun i hi => ?_)
            by_cases e : i = k
            · rw [e]; exact ⟨c18, c29, c40, c51⟩
            · exact h1 i (by omega)
          · refine go_iconst (am_b true) (by decide) dE_hasLocksOrSubroutines_54 ?_
            refine go_zreturn rfl (am_b_01 _) dE_hasLocksOrSubroutines_55 ?_
            first | exact ⟨true, rfl, iffT (fun q => (q k hkn).1 c18), rfl⟩ | exact ⟨true, rfl, iffT (fun q => (q k hkn).2.1 c29), rfl⟩ | exact ⟨true, rfl, iffT (fun q => (q k hkn).2.2.1 c40), rfl⟩ | exact ⟨true, rfl, iffT (fun q => (q k hkn).2.2.2 c51), rfl⟩
set_option maxRecDepth 100000 in
theorem okE_hasLocksOrSubroutines (w : am_W) {d : Nat} (G : am_G) (h : Nat) (M : mT) (hM : hldM G h M) : am_Ok w jE_hasLocksOrSubroutines d (0, 0) [.inr (some h)] G (fun r G' => ∃ c : Bool, r = some (.inl (am_b c)) ∧ (c = true ↔ ¬ ilP M) ∧ G' = G) := by
  refine am_ok_of rfl (Nat.le_of_ble_eq_true rfl) ?_
  show am_Go w jE_hasLocksOrSubroutines d (0, 0) 0 [some (.inr (some h)), none] [] G _
  refine go_iconst (nI 0) (by decide) dE_hasLocksOrSubroutines_0 ?_
  refine go_istore_n dE_hasLocksOrSubroutines_1 rfl (Nat.le_of_ble_eq_true rfl) ?_
  exact E_hl w G h M hM (mN M) 0 (by omega) (fun i hi => absurd hi (Nat.not_lt_zero i))
set_option maxRecDepth 100000 in
theorem C_ra (w : am_W) {d : Nat} (hd : 2 ≤ d) (G : am_G) (h : Nat) (M : mT) (t : cT) (hS : St0 G) (hM : hldM G h M) (hI : ckT G M t) : ∀ (r k : Nat), k + r = mN M → (∀ i x, i < k → t.1 i = some x → mO M i = 22 → x.1 ≤ 1) → am_Go w jC_returnsAlone d (0, 0) 2 [some (.inr (some 102)), some (.inr (some h)), some (.inl (nI k))] [] G (fun r G' => ∃ c : Bool, r = some (.inl (am_b c)) ∧ (c = true ↔ ilB t.1 M) ∧ G' = G) := by
  obtain ⟨hs, ⟨r0, r1, r2, r3, r4, r5, r6⟩, s1, s2, s3, s4, s5, s6, s7⟩ := id hM.1
  have hV := hM.2.2.1
  have hn6 := hV.1
  have q1 : G.1[102]? = some (0, 3) := hS.s rfl
  have q2 : G.1[103]? = some (1, 60) := hS.s rfl
  have q3 : G.1[104]? = some (1, 960) := hS.s rfl
  have q4 : G.1[105]? = some (2, 60) := hS.s rfl
  have q5 : G.1[106]? = some (2, 60) := hS.s rfl
  have q6 : G.2.2 102 0 = some 103 := hS.r ck_r0
  have q7 : G.2.2 102 2 = some 104 := hS.r ck_r2
  have q8 : G.2.2 102 3 = some 105 := hS.r ck_r3
  have q9 : G.2.2 102 4 = some 106 := hS.r ck_r4
  have q11 : G.1[107]? = some (1, 16) := hS.s rfl
  have q12 : G.1[108]? = some (1, 16) := hS.s rfl
  have q13 : G.2.2 102 5 = some 107 := hS.r ck_r5
  have q14 : G.2.2 102 6 = some 108 := hS.r ck_r6
  have mn := hM.2.1.1.1
  have sz := hI.1
  intro r
  induction r with
  | zero =>
    intro k hk h1
    refine go_iload_n dC_returnsAlone_2 rfl rfl ?_
    refine go_aload_n dC_returnsAlone_3 rfl rfl ?_
    refine go_getV dC_returnsAlone_4 flC_45 rfl (by assumption) (by first | assumption | (simp (disch := omega) only [wi_I, ro_I, wi_In, wi_Is]; done) | (simp (disch := omega) only [wi_I, ro_I, wi_In, wi_Is]; first | assumption | rfl) | rfl) ?_
    refine go_icmp_geN (by omega) (by omega) dC_returnsAlone_7 (tgt := 47) (by decide) (fun c1 => ?_) (fun c1 => absurd c1 (by omega))
    refine go_iconst (am_b true) (by decide) dC_returnsAlone_47 ?_
    refine go_zreturn rfl (by first | exact Or.inl rfl | exact Or.inr rfl | exact am_b_01 _) dC_returnsAlone_48 ?_
    exact ⟨true, rfl, iffT (fun i x hi hx ho => h1 i x (by omega) hx ho), rfl⟩
  | succ r ih =>
    intro k hk h1
    have hkn : k < mN M := by omega
    obtain ⟨m1, m2, m3⟩ := hM.2.1.2.1 k hkn
    have h28 := (hV.2.2.2.1 k hkn).1
    obtain ⟨cm, -, dp⟩ := hI.2.2.2 k hkn
    have i1 := fun (hp : ∀ x, t.1 k = some x → mO M k = 22 → x.1 ≤ 1) => ih (k + 1) (by omega) (fun i x hi hx ho => by
      by_cases e : i = k
      · rw [e] at hx ho; exact hp x hx ho
      · exact h1 i x (by omega) hx ho)
    refine go_iload_n dC_returnsAlone_2 rfl rfl ?_
    refine go_aload_n dC_returnsAlone_3 rfl rfl ?_
    refine go_getV dC_returnsAlone_4 flC_45 rfl (by assumption) (by first | assumption | (simp (disch := omega) only [wi_I, ro_I, wi_In, wi_Is]; done) | (simp (disch := omega) only [wi_I, ro_I, wi_In, wi_Is]; first | assumption | rfl) | rfl) ?_
    refine go_icmp_geN (by omega) (by omega) dC_returnsAlone_7 (tgt := 47) (by decide) (fun c1 => absurd c1 (by omega)) (fun c1 => ?_)
    refine go_aload_n dC_returnsAlone_10 rfl rfl ?_
    refine go_getO dC_returnsAlone_11 flC_18 rfl (by assumption) (by assumption) ?_
    refine go_iload_n dC_returnsAlone_14 rfl rfl ?_
    refine go_balV q4 (by omega) (by decide) cm dC_returnsAlone_15 ?_
    refine go_if_eqB dC_returnsAlone_16 (tgt := 41) (by decide) (fun c16 => ?_) (fun c16 => ?_)
    · refine go_inc dC_returnsAlone_41 rfl ?_
      refine go_goto dC_returnsAlone_44 (tgt := 2) (by decide) ?_
      first | exact i1 (fun z hz _ => by rw [hx] at hz; cases hz; exact c36) | exact i1 (fun z _ ho => absurd (show nI (mO M k) = nI 22 by rw [ho]) (of_decide_eq_false c26)) | exact i1 (fun z hz _ => absurd (show (t.1 k).isSome = true by rw [hz]; rfl) (by rw [c16]; decide))
    · obtain ⟨x, hx⟩ := Option.isSome_iff_exists.mp c16
      have dx := (dp x hx).1
      have x8 := (dp x hx).2.2.2.1
      refine go_aload_n dC_returnsAlone_19 rfl rfl ?_
      refine go_iload_n dC_returnsAlone_20 rfl rfl ?_
      refine go_bipush (nI 22) (by decide) dC_returnsAlone_21 ?_
      refine go_cV (k' := (0, 0)) dC_returnsAlone_23 _ csC_57 (by assumption) rfl imE_hasAt seE_hasAt rfl (okE_hasAt (d := 1) w (by decide) G h (mN M) (nI k) (nI 22) (by omega) mn hM.1) (by omega) (by decide) (Nat.le_of_ble_eq_true rfl) (fun r G1 hr hn => ?_)
      obtain ⟨rfl, hG⟩ := hr
      rw [hG]
      clear hG hn
      rw [bel_nI (by omega), decide_eq_true hkn, Bool.true_and, nI_clamp (by omega), m1]
      refine go_if_eqB dC_returnsAlone_26 (tgt := 41) (by decide) (fun c26 => ?_) (fun c26 => ?_)
      · refine go_inc dC_returnsAlone_41 rfl ?_
        refine go_goto dC_returnsAlone_44 (tgt := 2) (by decide) ?_
        first | exact i1 (fun z hz _ => by rw [hx] at hz; cases hz; exact c36) | exact i1 (fun z _ ho => absurd (show nI (mO M k) = nI 22 by rw [ho]) (of_decide_eq_false c26)) | exact i1 (fun z hz _ => absurd (show (t.1 k).isSome = true by rw [hz]; rfl) (by rw [c16]; decide))
      · have ho : mO M k = 22 := (nI_eq (by omega) (by decide)).mp (of_decide_eq_true c26)
        refine go_aload_n dC_returnsAlone_29 rfl rfl ?_
        refine go_getO dC_returnsAlone_30 flC_9 rfl (by assumption) (by assumption) ?_
        refine go_iload_n dC_returnsAlone_33 rfl rfl ?_
        refine go_ialV q2 (by omega) (by decide) dx dC_returnsAlone_34 ?_
        refine go_iconst (nI 1) (by decide) dC_returnsAlone_35 ?_
        refine go_icmp_leN (by omega) (by decide) dC_returnsAlone_36 (tgt := 41) (by decide) (fun c36 => ?_) (fun c36 => ?_)
        · refine go_inc dC_returnsAlone_41 rfl ?_
          refine go_goto dC_returnsAlone_44 (tgt := 2) (by decide) ?_
          first | exact i1 (fun z hz _ => by rw [hx] at hz; cases hz; exact c36) | exact i1 (fun z _ ho => absurd (show nI (mO M k) = nI 22 by rw [ho]) (of_decide_eq_false c26)) | exact i1 (fun z hz _ => absurd (show (t.1 k).isSome = true by rw [hz]; rfl) (by rw [c16]; decide))
        · refine go_iconst (am_b false) (by decide) dC_returnsAlone_39 ?_
          refine go_zreturn rfl (am_b_01 _) dC_returnsAlone_40 ?_
          exact ⟨false, rfl, iffF (fun q => absurd (q k x hkn hx ho) (by omega)), rfl⟩
set_option maxRecDepth 100000 in
theorem okC_returnsAlone (w : am_W) {d : Nat} (hd : 2 ≤ d) (G : am_G) (h : Nat) (M : mT) (t : cT) (hS : St0 G) (hM : hldM G h M) (hI : ckT G M t) : am_Ok w jC_returnsAlone d (0, 0) [.inr (some 102), .inr (some h)] G (fun r G' => ∃ c : Bool, r = some (.inl (am_b c)) ∧ (c = true ↔ ilB t.1 M) ∧ G' = G) := by
  refine am_ok_of rfl (Nat.le_of_ble_eq_true rfl) ?_
  show am_Go w jC_returnsAlone d (0, 0) 0 [some (.inr (some 102)), some (.inr (some h)), none] [] G _
  refine go_iconst (nI 0) (by decide) dC_returnsAlone_0 ?_
  refine go_istore_n dC_returnsAlone_1 rfl (Nat.le_of_ble_eq_true rfl) ?_
  exact C_ra w hd G h M t hS hM hI (mN M) 0 (by omega) (fun i x hi => absurd hi (Nat.not_lt_zero i))
set_option maxRecDepth 100000 in
theorem W_pc (w : am_W) {d : Nat} (hd : 1 ≤ d) (G : am_G) (g p f k : Nat) (M C : mT) (R : wT) (h8 : g + 8 ≤ 102) (hk : k < mN C) (hf : f ≤ 8) (hp : p < mN M) (hN : mN M + iN C - 1 ≤ 60) (hMn : mN M ≤ 60) (hP : ilP C) (l6 l8 : Option am_V) (h22 : ¬ mO C k = 22) (hS : St0 G) (hC : hldM G g C) (hs1 : spI p (iN C) M G) (hI : dI G (mNew M p (iN C) (iC C p f (iN C)) R) (fun i => lay2 p (iN C) (mN M) i ∨ (p ≤ i ∧ i < p + (mG C + k)))) : am_Go w jW_putCalled d (0, 0) 86 [some (.inr (some 150)), some (.inr (some g)), some (.inl (nI k)), some (.inl (nI (p + mG C))), some (.inl (nI f)), some (.inl (nI (mO C k))), l6, some (.inl (iC C p f (iN C) (mG C + k)).2.1), l8] [] G (fun r G' => r = none ∧ spI p (iN C) M G' ∧ dI G' (mNew M p (iN C) (iC C p f (iN C)) R) (fun i => lay2 p (iN C) (mN M) i ∨ (p ≤ i ∧ i < p + (mG C + (k + 1)))) ∧ oD G G') := by
  obtain ⟨hs, ⟨r0, r1, r2, r3, r4, r5, r6⟩, s1, s2, s3, s4, s5, s6, s7⟩ := id hC.1
  have hCv := hC.2.2.1
  have cn6 := hCv.1
  have cg3 := hCv.2.2.1
  have eN : iN C = mG C + mN C := rfl
  have k50 := hS.s sh_150
  have g50 := hS.r rt_150
  obtain ⟨ds, ⟨dr0, dr1, dr2, dr3, dr4, dr5, dr6⟩, ds1, ds2, ds3, ds4, ds5, ds6, ds7⟩ := hS.m dr_l
  obtain ⟨m1, m2, m3⟩ := hC.2.1.2.1 k hk
  have h28 := (hCv.2.2.2.1 k hk).1
  obtain ⟨T1, T2, T3⟩ := mNew_in (M := M) (p := p) (n := iN C) (C := iC C p f (iN C)) (R := R) (show mG C + k < iN C by omega)
  have mc := hC.2.1.1.1
  have LY : ∀ i, lay2 p (iN C) (mN M) i ∨ (p ≤ i ∧ i < p + (mG C + (k + 1))) → i = p + (mG C + k) ∨ (lay2 p (iN C) (mN M) i ∨ (p ≤ i ∧ i < p + (mG C + k))) := fun i hi => by
    rcases hi with q | q
    · exact Or.inr (Or.inl q)
    · by_cases e : i = p + (mG C + k)
      · exact Or.inl e
      · exact Or.inr (Or.inr ⟨q.1, by omega⟩)
  rw [iC_c h22] at T1
  obtain ⟨z1, z2⟩ := iC_0 (p := p) (f := f) (n := iN C) hCv hk h22
  have n23 := (hP k hk).2.2.1
  refine go_iload dW_putCalled_86 rfl ?_
  refine go_cS (k' := (0, 0)) dW_putCalled_88 _ csW_41 stF_isJump rfl (okF_isJump (d := 0) w G (nI (mO C k))) (by omega) (by decide) (Nat.le_of_ble_eq_true rfl) (fun r G1 hr hn => ?_)
  obtain ⟨rfl, hG⟩ := hr
  rw [hG]
  clear hG hn
  refine go_if_eqB dW_putCalled_91 (tgt := 105) (by decide) (fun c91 => ?_) (fun c91 => ?_)
  · refine go_aload_n dW_putCalled_105 rfl rfl ?_
    refine go_getO dW_putCalled_106 flW_22 rfl (by assumption) (by assumption) ?_
    refine go_iload_n dW_putCalled_109 rfl rfl ?_
    refine go_ialV s3 (by omega) (by decide) m3 dW_putCalled_110 ?_
    rw [← iC_b2 (p := p) (f := f) (n := iN C) h22 (fun q => jm3F c91 (jm4_3 q n23))]
    refine go_istore dW_putCalled_111 (Nat.le_of_ble_eq_true rfl) ?_
    refine go_aload_n dW_putCalled_113 rfl rfl ?_
    refine go_getO dW_putCalled_114 flW_12 rfl (by assumption) (by assumption) ?_
    refine go_iload_n dW_putCalled_117 rfl rfl ?_
    refine go_iload_n dW_putCalled_118 rfl rfl ?_
    refine go_iaddN dW_putCalled_119 ?_
    rw [show p + mG C + k = p + (mG C + k) by omega]
    refine go_iload dW_putCalled_120 rfl ?_
    refine go_iload dW_putCalled_122 rfl ?_
    refine go_iload dW_putCalled_124 rfl ?_
    refine go_cV (k' := (0, 0)) dW_putCalled_126 _ csW_48 (by assumption) rfl imE_put seE_put rfl (okE_put (d := 0) w G 151 (p + (mG C + k)) (mO C k) (iC C p f (iN C) (mG C + k)).2.1 (iC C p f (iN C) (mG C + k)).2.2 (by omega) h28 (hS.m dr_l)) (by omega) (by decide) (Nat.le_of_ble_eq_true rfl) (fun r G1 hr hn => ?_)
    obtain ⟨rfl, hG⟩ := hr
    rw [hG]
    clear hG hn
    refine go_return rfl dW_putCalled_129 ?_
    exact ⟨rfl, spI_p hs1, hI.put T1.symm T2.symm T3.symm z1 z2 LY, oD.h8 E_putF_o⟩
  · refine go_aload_n dW_putCalled_94 rfl rfl ?_
    refine go_getO dW_putCalled_95 flW_22 rfl (by assumption) (by assumption) ?_
    refine go_iload_n dW_putCalled_98 rfl rfl ?_
    have hj4 := jm3_4 (jm3T c91 h28)
    obtain ⟨q1, q2⟩ := hCv.jm hk hj4
    rw [q1] at m3
    refine go_ialV s3 (by omega) (by decide) m3 dW_putCalled_99 ?_
    refine go_iload_n dW_putCalled_100 rfl rfl ?_
    refine go_iaddN dW_putCalled_101 ?_
    rw [← iC_b1 (p := p) (f := f) (n := iN C) h22 hj4]
    refine go_goto dW_putCalled_102 (tgt := 111) (by decide) ?_
    refine go_istore dW_putCalled_111 (Nat.le_of_ble_eq_true rfl) ?_
    refine go_aload_n dW_putCalled_113 rfl rfl ?_
    refine go_getO dW_putCalled_114 flW_12 rfl (by assumption) (by assumption) ?_
    refine go_iload_n dW_putCalled_117 rfl rfl ?_
    refine go_iload_n dW_putCalled_118 rfl rfl ?_
    refine go_iaddN dW_putCalled_119 ?_
    rw [show p + mG C + k = p + (mG C + k) by omega]
    refine go_iload dW_putCalled_120 rfl ?_
    refine go_iload dW_putCalled_122 rfl ?_
    refine go_iload dW_putCalled_124 rfl ?_
    refine go_cV (k' := (0, 0)) dW_putCalled_126 _ csW_48 (by assumption) rfl imE_put seE_put rfl (okE_put (d := 0) w G 151 (p + (mG C + k)) (mO C k) (iC C p f (iN C) (mG C + k)).2.1 (iC C p f (iN C) (mG C + k)).2.2 (by omega) h28 (hS.m dr_l)) (by omega) (by decide) (Nat.le_of_ble_eq_true rfl) (fun r G1 hr hn => ?_)
    obtain ⟨rfl, hG⟩ := hr
    rw [hG]
    clear hG hn
    refine go_return rfl dW_putCalled_129 ?_
    exact ⟨rfl, spI_p hs1, hI.put T1.symm T2.symm T3.symm z1 z2 LY, oD.h8 E_putF_o⟩
set_option maxRecDepth 100000 in
theorem okW_putCalled (w : am_W) {d : Nat} (hd : 1 ≤ d) (G : am_G) (g p f k : Nat) (M C : mT) (R : wT) (h8 : g + 8 ≤ 102) (hk : k < mN C) (hf : f ≤ 8) (hp : p < mN M) (hN : mN M + iN C - 1 ≤ 60) (hMn : mN M ≤ 60) (hP : ilP C) (hS : St0 G) (hC : hldM G g C) (hs1 : spI p (iN C) M G) (hI : dI G (mNew M p (iN C) (iC C p f (iN C)) R) (fun i => lay2 p (iN C) (mN M) i ∨ (p ≤ i ∧ i < p + (mG C + k)))) : am_Ok w jW_putCalled d (0, 0) [.inr (some 150), .inr (some g), .inl (nI k), .inl (nI (p + mG C)), .inl (nI f)] G (fun r G' => r = none ∧ spI p (iN C) M G' ∧ dI G' (mNew M p (iN C) (iC C p f (iN C)) R) (fun i => lay2 p (iN C) (mN M) i ∨ (p ≤ i ∧ i < p + (mG C + (k + 1)))) ∧ oD G G') := by
  refine am_ok_of rfl (Nat.le_of_ble_eq_true rfl) ?_
  show am_Go w jW_putCalled d (0, 0) 0 [some (.inr (some 150)), some (.inr (some g)), some (.inl (nI k)), some (.inl (nI (p + mG C))), some (.inl (nI f)), none, none, none, none] [] G _
  obtain ⟨hs, ⟨r0, r1, r2, r3, r4, r5, r6⟩, s1, s2, s3, s4, s5, s6, s7⟩ := id hC.1
  have hCv := hC.2.2.1
  have cn6 := hCv.1
  have cg3 := hCv.2.2.1
  have eN : iN C = mG C + mN C := rfl
  have k50 := hS.s sh_150
  have g50 := hS.r rt_150
  obtain ⟨ds, ⟨dr0, dr1, dr2, dr3, dr4, dr5, dr6⟩, ds1, ds2, ds3, ds4, ds5, ds6, ds7⟩ := hS.m dr_l
  obtain ⟨m1, m2, m3⟩ := hC.2.1.2.1 k hk
  have h28 := (hCv.2.2.2.1 k hk).1
  obtain ⟨T1, T2, T3⟩ := mNew_in (M := M) (p := p) (n := iN C) (C := iC C p f (iN C)) (R := R) (show mG C + k < iN C by omega)
  have mc := hC.2.1.1.1
  have LY : ∀ i, lay2 p (iN C) (mN M) i ∨ (p ≤ i ∧ i < p + (mG C + (k + 1))) → i = p + (mG C + k) ∨ (lay2 p (iN C) (mN M) i ∨ (p ≤ i ∧ i < p + (mG C + k))) := fun i hi => by
    rcases hi with q | q
    · exact Or.inr (Or.inl q)
    · by_cases e : i = p + (mG C + k)
      · exact Or.inl e
      · exact Or.inr (Or.inr ⟨q.1, by omega⟩)
  refine go_aload_n dW_putCalled_0 rfl rfl ?_
  refine go_getO dW_putCalled_1 flW_38 rfl (by assumption) (by assumption) ?_
  refine go_iload_n dW_putCalled_4 rfl rfl ?_
  refine go_ialV s1 (by omega) (by decide) m1 dW_putCalled_5 ?_
  refine go_istore dW_putCalled_6 (Nat.le_of_ble_eq_true rfl) ?_
  refine go_iload dW_putCalled_8 rfl ?_
  refine go_bipush (nI 22) (by decide) dW_putCalled_10 ?_
  refine go_icmp_neN (by omega) (by decide) dW_putCalled_12 (tgt := 35) (by decide) (fun c12 => ?_) (fun c12 => ?_)
  · refine go_iload dW_putCalled_35 rfl ?_
    refine go_iconst (nI 2) (by decide) dW_putCalled_37 ?_
    refine go_icmp_eqN (by omega) (by decide) dW_putCalled_38 (tgt := 54) (by decide) (fun c38 => ?_) (fun c38 => ?_)
    · refine go_iconst (am_b true) (by decide) dW_putCalled_54 ?_
      refine go_goto dW_putCalled_55 (tgt := 59) (by decide) ?_
      refine go_istore dW_putCalled_59 (Nat.le_of_ble_eq_true rfl) ?_
      refine go_iload dW_putCalled_61 rfl ?_
      refine go_if_eqB dW_putCalled_63 (tgt := 78) (by decide) (fun c1 => absurd c1 (by decide)) (fun c1 => ?_)
      have hl : mO C k = 2 ∨ mO C k = 3 ∨ mO C k = 27 := by first | exact Or.inl c38 | exact Or.inr (Or.inl c44) | exact Or.inr (Or.inr c51)
      obtain ⟨a1, a2⟩ := locO_V (r := false) hCv hk (by rcases hl with q | q | q; exact Or.inl q; exact Or.inr (Or.inl q); exact Or.inr (Or.inr (Or.inl q)))
      rw [a1] at m2
      refine go_aload_n dW_putCalled_66 rfl rfl ?_
      refine go_getO dW_putCalled_67 flW_45 rfl (by assumption) (by assumption) ?_
      refine go_iload_n dW_putCalled_70 rfl rfl ?_
      refine go_ialV s2 (by omega) (by decide) m2 dW_putCalled_71 ?_
      refine go_iload dW_putCalled_72 rfl ?_
      refine go_iaddN dW_putCalled_74 ?_
      rw [← iC_a1 (p := p) (f := f) (n := iN C) c12 hl]
      refine go_goto dW_putCalled_75 (tgt := 84) (by decide) ?_
      refine go_istore dW_putCalled_84 (Nat.le_of_ble_eq_true rfl) ?_
      exact W_pc w hd G g p f k M C R h8 hk hf hp hN hMn hP _ _ c12 hS hC hs1 hI
    · refine go_iload dW_putCalled_41 rfl ?_
      refine go_iconst (nI 3) (by decide) dW_putCalled_43 ?_
      refine go_icmp_eqN (by omega) (by decide) dW_putCalled_44 (tgt := 54) (by decide) (fun c44 => ?_) (fun c44 => ?_)
      · refine go_iconst (am_b true) (by decide) dW_putCalled_54 ?_
        refine go_goto dW_putCalled_55 (tgt := 59) (by decide) ?_
        refine go_istore dW_putCalled_59 (Nat.le_of_ble_eq_true rfl) ?_
        refine go_iload dW_putCalled_61 rfl ?_
        refine go_if_eqB dW_putCalled_63 (tgt := 78) (by decide) (fun c1 => absurd c1 (by decide)) (fun c1 => ?_)
        have hl : mO C k = 2 ∨ mO C k = 3 ∨ mO C k = 27 := by first | exact Or.inl c38 | exact Or.inr (Or.inl c44) | exact Or.inr (Or.inr c51)
        obtain ⟨a1, a2⟩ := locO_V (r := false) hCv hk (by rcases hl with q | q | q; exact Or.inl q; exact Or.inr (Or.inl q); exact Or.inr (Or.inr (Or.inl q)))
        rw [a1] at m2
        refine go_aload_n dW_putCalled_66 rfl rfl ?_
        refine go_getO dW_putCalled_67 flW_45 rfl (by assumption) (by assumption) ?_
        refine go_iload_n dW_putCalled_70 rfl rfl ?_
        refine go_ialV s2 (by omega) (by decide) m2 dW_putCalled_71 ?_
        refine go_iload dW_putCalled_72 rfl ?_
        refine go_iaddN dW_putCalled_74 ?_
        rw [← iC_a1 (p := p) (f := f) (n := iN C) c12 hl]
        refine go_goto dW_putCalled_75 (tgt := 84) (by decide) ?_
        refine go_istore dW_putCalled_84 (Nat.le_of_ble_eq_true rfl) ?_
        exact W_pc w hd G g p f k M C R h8 hk hf hp hN hMn hP _ _ c12 hS hC hs1 hI
      · refine go_iload dW_putCalled_47 rfl ?_
        refine go_bipush (nI 27) (by decide) dW_putCalled_49 ?_
        refine go_icmp_neN (by omega) (by decide) dW_putCalled_51 (tgt := 58) (by decide) (fun c51 => ?_) (fun c51 => ?_)
        · refine go_iconst (am_b false) (by decide) dW_putCalled_58 ?_
          refine go_istore dW_putCalled_59 (Nat.le_of_ble_eq_true rfl) ?_
          refine go_iload dW_putCalled_61 rfl ?_
          refine go_if_eqB dW_putCalled_63 (tgt := 78) (by decide) (fun c1 => ?_) (fun c1 => absurd c1 (by decide))
          refine go_aload_n dW_putCalled_78 rfl rfl ?_
          refine go_getO dW_putCalled_79 flW_45 rfl (by assumption) (by assumption) ?_
          refine go_iload_n dW_putCalled_82 rfl rfl ?_
          refine go_ialV s2 (by omega) (by decide) m2 dW_putCalled_83 ?_
          rw [← iC_a2 (p := p) (f := f) (n := iN C) c12 (fun q => nL c38 c44 c51 ⟨q, trivial⟩)]
          refine go_istore dW_putCalled_84 (Nat.le_of_ble_eq_true rfl) ?_
          exact W_pc w hd G g p f k M C R h8 hk hf hp hN hMn hP _ _ c12 hS hC hs1 hI
        · refine go_iconst (am_b true) (by decide) dW_putCalled_54 ?_
          refine go_goto dW_putCalled_55 (tgt := 59) (by decide) ?_
          refine go_istore dW_putCalled_59 (Nat.le_of_ble_eq_true rfl) ?_
          refine go_iload dW_putCalled_61 rfl ?_
          refine go_if_eqB dW_putCalled_63 (tgt := 78) (by decide) (fun c1 => absurd c1 (by decide)) (fun c1 => ?_)
          have hl : mO C k = 2 ∨ mO C k = 3 ∨ mO C k = 27 := by first | exact Or.inl c38 | exact Or.inr (Or.inl c44) | exact Or.inr (Or.inr c51)
          obtain ⟨a1, a2⟩ := locO_V (r := false) hCv hk (by rcases hl with q | q | q; exact Or.inl q; exact Or.inr (Or.inl q); exact Or.inr (Or.inr (Or.inl q)))
          rw [a1] at m2
          refine go_aload_n dW_putCalled_66 rfl rfl ?_
          refine go_getO dW_putCalled_67 flW_45 rfl (by assumption) (by assumption) ?_
          refine go_iload_n dW_putCalled_70 rfl rfl ?_
          refine go_ialV s2 (by omega) (by decide) m2 dW_putCalled_71 ?_
          refine go_iload dW_putCalled_72 rfl ?_
          refine go_iaddN dW_putCalled_74 ?_
          rw [← iC_a1 (p := p) (f := f) (n := iN C) c12 hl]
          refine go_goto dW_putCalled_75 (tgt := 84) (by decide) ?_
          refine go_istore dW_putCalled_84 (Nat.le_of_ble_eq_true rfl) ?_
          exact W_pc w hd G g p f k M C R h8 hk hf hp hN hMn hP _ _ c12 hS hC hs1 hI
  · refine go_aload_n dW_putCalled_15 rfl rfl ?_
    refine go_getO dW_putCalled_16 flW_12 rfl (by assumption) (by assumption) ?_
    refine go_iload_n dW_putCalled_19 rfl rfl ?_
    refine go_iload_n dW_putCalled_20 rfl rfl ?_
    refine go_iaddN dW_putCalled_21 ?_
    rw [show p + mG C + k = p + (mG C + k) by omega]
    refine go_bipush (nI 11) (by decide) dW_putCalled_22 ?_
    refine go_iconst (nI 0) (by decide) dW_putCalled_24 ?_
    refine go_iload_n dW_putCalled_25 rfl rfl ?_
    refine go_aload_n dW_putCalled_26 rfl rfl ?_
    refine go_getV dW_putCalled_27 flW_67 rfl (by assumption) (by first | assumption | (simp (disch := omega) only [wi_I, ro_I, wi_In, wi_Is]; done) | (simp (disch := omega) only [wi_I, ro_I, wi_In, wi_Is]; first | assumption | rfl) | rfl) ?_
    refine go_iaddN dW_putCalled_30 ?_
    rw [show p + mG C + mN C = p + iN C by omega]
    refine go_cV (k' := (0, 0)) dW_putCalled_31 _ csW_48 (by assumption) rfl imE_put seE_put rfl (okE_put (d := 0) w G 151 (p + (mG C + k)) 11 (nI 0) (nI (p + iN C)) (by omega) (by decide) (hS.m dr_l)) (by omega) (by decide) (Nat.le_of_ble_eq_true rfl) (fun r G1 hr hn => ?_)
    obtain ⟨rfl, hG⟩ := hr
    rw [hG]
    clear hG hn
    refine go_return rfl dW_putCalled_34 ?_
    rw [iC_r c12] at T1 T2 T3
    exact ⟨rfl, spI_p hs1, hI.put T1.symm T2.symm T3.symm (fun _ => rfl) (fun q => absurd q (by decide +kernel)) LY, oD.h8 E_putF_o⟩
