theorem nM_p {r : Nat} : nM r + nI 1 = nI r := by
  unfold nM
  rw [Int32.sub_add_cancel]
theorem mv_le {f g : Nat} (hf : f < 1000) (hg : g < 1000) : nI f + nM g ≤ nI 7 ↔ f + g ≤ 8 := by
  rw [Int32.le_iff_toInt_le, show nI f + nM g = nI f + (nI g - nI 1) from rfl, mv_t (by omega) (by omega), nI_toInt (by decide)]
  omega
section Gr
variable {M : mT} {r : Bool} {k : Nat}
theorem gLx_a (h : locO r (mO M k)) (hg : gLx M r k < 1000) (ha : aN M k < 1000) (c : nI (aN M k) ≤ nM (gLx M r k)) : gLx M r (k + 1) = gLx M r k := by
  have := (nM_le (by omega) (by omega)).mp c
  rw [gLx_y h]; omega
theorem gLx_b (h : locO r (mO M k)) (hg : gLx M r k < 1000) (ha : aN M k < 1000) (c : ¬ nI (aN M k) ≤ nM (gLx M r k)) : gLx M r (k + 1) = aN M k + 1 := by
  have : ¬ aN M k < gLx M r k := fun q => c ((nM_le (by omega) (by omega)).mpr q)
  rw [gLx_y h]; omega
theorem locO_n1 {o : Nat} (h1 : ¬ o = 2) (h2 : ¬ o = 3) (h3 : ¬ o = 27) (h4 : r = false) : ¬ locO r o := fun q => by
  rcases q with q | q | q | q
  · exact h1 q
  · exact h2 q
  · exact h3 q
  · rw [h4] at q; exact absurd q.1 (by decide)
theorem locO_n2 {o : Nat} (h1 : ¬ o = 2) (h2 : ¬ o = 3) (h3 : ¬ o = 27) (h4 : ¬ o = 24) : ¬ locO r o := fun q => by
  rcases q with q | q | q | q
  · exact h1 q
  · exact h2 q
  · exact h3 q
  · exact h4 q.2
end Gr
section Mi
variable {g : Nat → Nat} {M C : mT} {p : Nat} {sm : Bool} {S T : fM}
theorem mayI.y (h1 : fLeast g M S) (h2 : fLeast g C T) (h3 : sm = false) (h4 : mL C = false) (h5 : ilP C) (h6 : gLx M true (mN M) + gLx C false (mN C) ≤ 8) (h7 : ilF S p (mG C)) (h8 : ilA T C) : mayI g M C p sm := ⟨S, T, h1, h2, h3, h4, h5, by rw [← gLx_eq C (mN C) (fun i hi => (h5 i hi).2.2.2)]; exact h6, h7, h8⟩
theorem mayI.n1 (h : sm = true) : ¬ mayI g M C p sm := fun ⟨_, _, _, _, q, _⟩ => by rw [h] at q; cases q
theorem mayI.n2 (h : mL C = true) : ¬ mayI g M C p sm := fun ⟨_, _, _, _, _, q, _⟩ => by rw [h] at q; cases q
theorem mayI.n3 (h : 8 < gLx M true (mN M) + gLx C false (mN C)) : ¬ mayI g M C p sm := fun ⟨_, _, _, _, _, _, _, q, _⟩ => by have := gLx_le C (mN C); omega
theorem mayI.n4 (h : ¬ ilP C) : ¬ mayI g M C p sm := fun ⟨_, _, _, _, _, _, q, _⟩ => h q
theorem mayI.n5 (hp : p < mN M) (h1 : fLeast g M S) (h : ¬ ilF S p (mG C)) : ¬ mayI g M C p sm := fun ⟨S', _, q1, _, _, _, _, _, q, _⟩ => h (q.eq q1 h1 hp)
theorem mayI.n6 (h1 : fLeast g C T) (h : ¬ ilA T C) : ¬ mayI g M C p sm := fun ⟨_, T', _, q1, _, _, _, _, _, q⟩ => h (q.eq q1 h1)
theorem mayI.n7 (h : 8 < gLx M true (mN M) + gLx C true (mN C)) : ¬ mayI g M C p sm := fun ⟨_, _, _, _, _, _, _, q, _⟩ => by omega
end Mi
theorem ilF_n1 {S : fM} {p g : Nat} (h : (S p).isSome = false) : ¬ ilF S p g := fun ⟨x, hx, _⟩ => by rw [hx] at h; cases h
theorem ilF_n2 {S : fM} {p g : Nat} {x : fS} (hx : S p = some x) (h : ¬ x.1 = g) : ¬ ilF S p g := fun ⟨y, hy, e⟩ => by rw [hx] at hy; cases hy; exact h e
theorem iC_a1 {C : mT} {p f n k : Nat} (h : ¬ mO C k = 22) (h2 : mO C k = 2 ∨ mO C k = 3 ∨ mO C k = 27) : (iC C p f n (mG C + k)).2.1 = nI (aN C k + f) := by rw [iC_c h]; exact if_pos h2
theorem iC_a2 {C : mT} {p f n k : Nat} (h : ¬ mO C k = 22) (h2 : ¬ (mO C k = 2 ∨ mO C k = 3 ∨ mO C k = 27)) : (iC C p f n (mG C + k)).2.1 = mA C k := by rw [iC_c h]; exact if_neg h2
theorem iC_b1 {C : mT} {p f n k : Nat} (h : ¬ mO C k = 22) (h2 : jm4 (mO C k)) : (iC C p f n (mG C + k)).2.2 = nI (bN C k + (p + mG C)) := by rw [iC_c h]; exact if_pos h2
theorem iC_b2 {C : mT} {p f n k : Nat} (h : ¬ mO C k = 22) (h2 : ¬ jm4 (mO C k)) : (iC C p f n (mG C + k)).2.2 = mB C k := by rw [iC_c h]; exact if_neg h2

set_option maxRecDepth 100000 in
theorem R_gr (w : am_W) {d : Nat} (G : am_G) (v m : Nat) (M : mT) (r : Bool) (hv : v < 2) (hm : m < 6) (hV : mV M) (hS : St0 G) (hM : rM G (6 * v + m) M) : ∀ (rr k : Nat) (l5 l6 : Option am_V), k + rr = mN M → am_Go w jR_greatest d (0, 0) 12 [some (.inr (some 163)), some (.inl (nI (6 * v + m))), some (.inl (am_b r)), some (.inl (nM (gLx M r k))), some (.inl (nI k)), l5, l6] [] G (fun r' G' => r' = some (.inl (nM (gLx M r (mN M)))) ∧ G' = G) := by
  have hn6 := hV.1
  have mn := hM.1.1
  intro rr
  induction rr with
  | zero =>
    intro k l5 l6 hk
    refine go_iload dR_greatest_12 rfl ?_
    refine go_aload_n dR_greatest_14 rfl rfl ?_
    refine go_getO (a := 167) dR_greatest_15 flR_19 rfl (hS.s sh_163) (hS.r rt_many) ?_
    refine go_iload_n dR_greatest_18 rfl rfl ?_
    first | refine go_ialV (hS.s sh_167) (by omega) (by decide) (by assumption) dR_greatest_19 ?_ | refine go_ialoadN (hS.s sh_167) (by omega) (by decide) dR_greatest_19 ?_
    refine go_icmp_geN (by omega) (by omega) dR_greatest_20 (tgt := 96) (by decide) (fun c1 => ?_) (fun c1 => absurd c1 (by omega))
    refine go_iload_n dR_greatest_96 rfl rfl ?_
    refine go_ireturn rfl dR_greatest_97 ?_
    exact ⟨by rw [show k = mN M by omega], rfl⟩
  | succ rr ih =>
    intro k l5 l6 hk
    have hkn : k < mN M := by omega
    obtain ⟨m1, m2, m3⟩ := hM.2.1 k hkn
    have h28 := (hV.2.2.2.1 k hkn).1
    have g8 := gLx_8 (r := r) hV k (by omega)
    refine go_iload dR_greatest_12 rfl ?_
    refine go_aload_n dR_greatest_14 rfl rfl ?_
    refine go_getO (a := 167) dR_greatest_15 flR_19 rfl (hS.s sh_163) (hS.r rt_many) ?_
    refine go_iload_n dR_greatest_18 rfl rfl ?_
    first | refine go_ialV (hS.s sh_167) (by omega) (by decide) (by assumption) dR_greatest_19 ?_ | refine go_ialoadN (hS.s sh_167) (by omega) (by decide) dR_greatest_19 ?_
    refine go_icmp_geN (by omega) (by omega) dR_greatest_20 (tgt := 96) (by decide) (fun c1 => absurd c1 (by omega)) (fun c1 => ?_)
    refine go_aload_n dR_greatest_23 rfl rfl ?_
    refine go_getO (a := 164) dR_greatest_24 flR_7 rfl (hS.s sh_163) (hS.r rt_op) ?_
    refine go_bipush (nI 60) (by decide) dR_greatest_27 ?_
    refine go_iload_n dR_greatest_29 rfl rfl ?_
    first | refine go_imulN dR_greatest_30 ?_ | refine go_imul dR_greatest_30 ?_
    refine go_iload dR_greatest_31 rfl ?_
    first | refine go_iaddN dR_greatest_33 ?_ | refine go_iadd dR_greatest_33 ?_
    refine go_ialV (hS.s sh_164) (by omega) (by decide) m1 dR_greatest_34 ?_
    refine go_istore dR_greatest_35 (Nat.le_of_ble_eq_true rfl) ?_
    refine go_aload_n dR_greatest_37 rfl rfl ?_
    refine go_getO (a := 165) dR_greatest_38 flR_13 rfl (hS.s sh_163) (hS.r rt_one) ?_
    refine go_bipush (nI 60) (by decide) dR_greatest_41 ?_
    refine go_iload_n dR_greatest_43 rfl rfl ?_
    first | refine go_imulN dR_greatest_44 ?_ | refine go_imul dR_greatest_44 ?_
    refine go_iload dR_greatest_45 rfl ?_
    first | refine go_iaddN dR_greatest_47 ?_ | refine go_iadd dR_greatest_47 ?_
    refine go_ialV (hS.s sh_165) (by omega) (by decide) m2 dR_greatest_48 ?_
    refine go_istore dR_greatest_49 (Nat.le_of_ble_eq_true rfl) ?_
    refine go_iload dR_greatest_51 rfl ?_
    refine go_iconst (nI 2) (by decide) dR_greatest_53 ?_
    refine go_icmp_eqN (by omega) (by decide) dR_greatest_54 (tgt := 81) (by decide) (fun c54 => ?_) (fun c54 => ?_)
    · have hl : locO r (mO M k) := by first | exact Or.inl c54 | exact Or.inr (Or.inl c60) | exact Or.inr (Or.inr (Or.inl c67)) | exact Or.inr (Or.inr (Or.inr ⟨c71, c78⟩))
      obtain ⟨a1, a2⟩ := locO_V hV hkn hl
      rw [a1]
      refine go_iload dR_greatest_81 rfl ?_
      refine go_iload_n dR_greatest_83 rfl rfl ?_
      refine go_icmp_le dR_greatest_84 (tgt := 90) (by decide) (fun c84 => ?_) (fun c84 => ?_)
      · refine go_inc dR_greatest_90 rfl ?_
        refine go_goto dR_greatest_93 (tgt := 12) (by decide) ?_
        have i1 := fun l5 l6 => ih (k + 1) l5 l6 (by omega)
        first | (have ee := gLx_a hl (by omega) (by omega) c84; rw [ee] at i1; exact i1 _ _) | (have ee := gLx_b hl (by omega) (by omega) c84; rw [ee, nM_1] at i1; exact i1 _ _) | (have ee := gLx_n (M := M) (locO_n1 c54 c60 c67 c71); rw [ee] at i1; exact i1 _ _) | (have ee := gLx_n (M := M) (r := r) (locO_n2 c54 c60 c67 c78); rw [ee] at i1; exact i1 _ _)
      · refine go_iload dR_greatest_87 rfl ?_
        refine go_istore_n dR_greatest_89 rfl (Nat.le_of_ble_eq_true rfl) ?_
        refine go_inc dR_greatest_90 rfl ?_
        refine go_goto dR_greatest_93 (tgt := 12) (by decide) ?_
        have i1 := fun l5 l6 => ih (k + 1) l5 l6 (by omega)
        first | (have ee := gLx_a hl (by omega) (by omega) c84; rw [ee] at i1; exact i1 _ _) | (have ee := gLx_b hl (by omega) (by omega) c84; rw [ee, nM_1] at i1; exact i1 _ _) | (have ee := gLx_n (M := M) (locO_n1 c54 c60 c67 c71); rw [ee] at i1; exact i1 _ _) | (have ee := gLx_n (M := M) (r := r) (locO_n2 c54 c60 c67 c78); rw [ee] at i1; exact i1 _ _)
    · refine go_iload dR_greatest_57 rfl ?_
      refine go_iconst (nI 3) (by decide) dR_greatest_59 ?_
      refine go_icmp_eqN (by omega) (by decide) dR_greatest_60 (tgt := 81) (by decide) (fun c60 => ?_) (fun c60 => ?_)
      · have hl : locO r (mO M k) := by first | exact Or.inl c54 | exact Or.inr (Or.inl c60) | exact Or.inr (Or.inr (Or.inl c67)) | exact Or.inr (Or.inr (Or.inr ⟨c71, c78⟩))
        obtain ⟨a1, a2⟩ := locO_V hV hkn hl
        rw [a1]
        refine go_iload dR_greatest_81 rfl ?_
        refine go_iload_n dR_greatest_83 rfl rfl ?_
        refine go_icmp_le dR_greatest_84 (tgt := 90) (by decide) (fun c84 => ?_) (fun c84 => ?_)
        · refine go_inc dR_greatest_90 rfl ?_
          refine go_goto dR_greatest_93 (tgt := 12) (by decide) ?_
          have i1 := fun l5 l6 => ih (k + 1) l5 l6 (by omega)
          first | (have ee := gLx_a hl (by omega) (by omega) c84; rw [ee] at i1; exact i1 _ _) | (have ee := gLx_b hl (by omega) (by omega) c84; rw [ee, nM_1] at i1; exact i1 _ _) | (have ee := gLx_n (M := M) (locO_n1 c54 c60 c67 c71); rw [ee] at i1; exact i1 _ _) | (have ee := gLx_n (M := M) (r := r) (locO_n2 c54 c60 c67 c78); rw [ee] at i1; exact i1 _ _)
        · refine go_iload dR_greatest_87 rfl ?_
          refine go_istore_n dR_greatest_89 rfl (Nat.le_of_ble_eq_true rfl) ?_
          refine go_inc dR_greatest_90 rfl ?_
          refine go_goto dR_greatest_93 (tgt := 12) (by decide) ?_
          have i1 := fun l5 l6 => ih (k + 1) l5 l6 (by omega)
          first | (have ee := gLx_a hl (by omega) (by omega) c84; rw [ee] at i1; exact i1 _ _) | (have ee := gLx_b hl (by omega) (by omega) c84; rw [ee, nM_1] at i1; exact i1 _ _) | (have ee := gLx_n (M := M) (locO_n1 c54 c60 c67 c71); rw [ee] at i1; exact i1 _ _) | (have ee := gLx_n (M := M) (r := r) (locO_n2 c54 c60 c67 c78); rw [ee] at i1; exact i1 _ _)
      · refine go_iload dR_greatest_63 rfl ?_
        refine go_bipush (nI 27) (by decide) dR_greatest_65 ?_
        refine go_icmp_eqN (by omega) (by decide) dR_greatest_67 (tgt := 81) (by decide) (fun c67 => ?_) (fun c67 => ?_)
        · have hl : locO r (mO M k) := by first | exact Or.inl c54 | exact Or.inr (Or.inl c60) | exact Or.inr (Or.inr (Or.inl c67)) | exact Or.inr (Or.inr (Or.inr ⟨c71, c78⟩))
          obtain ⟨a1, a2⟩ := locO_V hV hkn hl
          rw [a1]
          refine go_iload dR_greatest_81 rfl ?_
          refine go_iload_n dR_greatest_83 rfl rfl ?_
          refine go_icmp_le dR_greatest_84 (tgt := 90) (by decide) (fun c84 => ?_) (fun c84 => ?_)
          · refine go_inc dR_greatest_90 rfl ?_
            refine go_goto dR_greatest_93 (tgt := 12) (by decide) ?_
            have i1 := fun l5 l6 => ih (k + 1) l5 l6 (by omega)
            first | (have ee := gLx_a hl (by omega) (by omega) c84; rw [ee] at i1; exact i1 _ _) | (have ee := gLx_b hl (by omega) (by omega) c84; rw [ee, nM_1] at i1; exact i1 _ _) | (have ee := gLx_n (M := M) (locO_n1 c54 c60 c67 c71); rw [ee] at i1; exact i1 _ _) | (have ee := gLx_n (M := M) (r := r) (locO_n2 c54 c60 c67 c78); rw [ee] at i1; exact i1 _ _)
          · refine go_iload dR_greatest_87 rfl ?_
            refine go_istore_n dR_greatest_89 rfl (Nat.le_of_ble_eq_true rfl) ?_
            refine go_inc dR_greatest_90 rfl ?_
            refine go_goto dR_greatest_93 (tgt := 12) (by decide) ?_
            have i1 := fun l5 l6 => ih (k + 1) l5 l6 (by omega)
            first | (have ee := gLx_a hl (by omega) (by omega) c84; rw [ee] at i1; exact i1 _ _) | (have ee := gLx_b hl (by omega) (by omega) c84; rw [ee, nM_1] at i1; exact i1 _ _) | (have ee := gLx_n (M := M) (locO_n1 c54 c60 c67 c71); rw [ee] at i1; exact i1 _ _) | (have ee := gLx_n (M := M) (r := r) (locO_n2 c54 c60 c67 c78); rw [ee] at i1; exact i1 _ _)
        · refine go_iload_n dR_greatest_70 rfl rfl ?_
          refine go_if_eqB dR_greatest_71 (tgt := 90) (by decide) (fun c71 => ?_) (fun c71 => ?_)
          · refine go_inc dR_greatest_90 rfl ?_
            refine go_goto dR_greatest_93 (tgt := 12) (by decide) ?_
            have i1 := fun l5 l6 => ih (k + 1) l5 l6 (by omega)
            first | (have ee := gLx_a hl (by omega) (by omega) c84; rw [ee] at i1; exact i1 _ _) | (have ee := gLx_b hl (by omega) (by omega) c84; rw [ee, nM_1] at i1; exact i1 _ _) | (have ee := gLx_n (M := M) (locO_n1 c54 c60 c67 c71); rw [ee] at i1; exact i1 _ _) | (have ee := gLx_n (M := M) (r := r) (locO_n2 c54 c60 c67 c78); rw [ee] at i1; exact i1 _ _)
          · refine go_iload dR_greatest_74 rfl ?_
            refine go_bipush (nI 24) (by decide) dR_greatest_76 ?_
            refine go_icmp_neN (by omega) (by decide) dR_greatest_78 (tgt := 90) (by decide) (fun c78 => ?_) (fun c78 => ?_)
            · refine go_inc dR_greatest_90 rfl ?_
              refine go_goto dR_greatest_93 (tgt := 12) (by decide) ?_
              have i1 := fun l5 l6 => ih (k + 1) l5 l6 (by omega)
              first | (have ee := gLx_a hl (by omega) (by omega) c84; rw [ee] at i1; exact i1 _ _) | (have ee := gLx_b hl (by omega) (by omega) c84; rw [ee, nM_1] at i1; exact i1 _ _) | (have ee := gLx_n (M := M) (locO_n1 c54 c60 c67 c71); rw [ee] at i1; exact i1 _ _) | (have ee := gLx_n (M := M) (r := r) (locO_n2 c54 c60 c67 c78); rw [ee] at i1; exact i1 _ _)
            · have hl : locO r (mO M k) := by first | exact Or.inl c54 | exact Or.inr (Or.inl c60) | exact Or.inr (Or.inr (Or.inl c67)) | exact Or.inr (Or.inr (Or.inr ⟨c71, c78⟩))
              obtain ⟨a1, a2⟩ := locO_V hV hkn hl
              rw [a1]
              refine go_iload dR_greatest_81 rfl ?_
              refine go_iload_n dR_greatest_83 rfl rfl ?_
              refine go_icmp_le dR_greatest_84 (tgt := 90) (by decide) (fun c84 => ?_) (fun c84 => ?_)
              · refine go_inc dR_greatest_90 rfl ?_
                refine go_goto dR_greatest_93 (tgt := 12) (by decide) ?_
                have i1 := fun l5 l6 => ih (k + 1) l5 l6 (by omega)
                first | (have ee := gLx_a hl (by omega) (by omega) c84; rw [ee] at i1; exact i1 _ _) | (have ee := gLx_b hl (by omega) (by omega) c84; rw [ee, nM_1] at i1; exact i1 _ _) | (have ee := gLx_n (M := M) (locO_n1 c54 c60 c67 c71); rw [ee] at i1; exact i1 _ _) | (have ee := gLx_n (M := M) (r := r) (locO_n2 c54 c60 c67 c78); rw [ee] at i1; exact i1 _ _)
              · refine go_iload dR_greatest_87 rfl ?_
                refine go_istore_n dR_greatest_89 rfl (Nat.le_of_ble_eq_true rfl) ?_
                refine go_inc dR_greatest_90 rfl ?_
                refine go_goto dR_greatest_93 (tgt := 12) (by decide) ?_
                have i1 := fun l5 l6 => ih (k + 1) l5 l6 (by omega)
                first | (have ee := gLx_a hl (by omega) (by omega) c84; rw [ee] at i1; exact i1 _ _) | (have ee := gLx_b hl (by omega) (by omega) c84; rw [ee, nM_1] at i1; exact i1 _ _) | (have ee := gLx_n (M := M) (locO_n1 c54 c60 c67 c71); rw [ee] at i1; exact i1 _ _) | (have ee := gLx_n (M := M) (r := r) (locO_n2 c54 c60 c67 c78); rw [ee] at i1; exact i1 _ _)
set_option maxRecDepth 100000 in
theorem okR_greatest (w : am_W) {d : Nat} (G : am_G) (v m : Nat) (M : mT) (r : Bool) (hv : v < 2) (hm : m < 6) (hV : mV M) (hS : St0 G) (hM : rM G (6 * v + m) M) : am_Ok w jR_greatest d (0, 0) [.inr (some 163), .inl (nI (6 * v + m)), .inl (am_b r)] G (fun rx G' => rx = some (.inl (nM (gLx M r (mN M)))) ∧ G' = G) := by
  refine am_ok_of rfl (Nat.le_of_ble_eq_true rfl) ?_
  show am_Go w jR_greatest d (0, 0) 0 [some (.inr (some 163)), some (.inl (nI (6 * v + m))), some (.inl (am_b r)), none, none, none, none] [] G _
  have hn6 := hV.1
  have tk := hM.1.2.2.1
  refine go_aload_n dR_greatest_0 rfl rfl ?_
  refine go_getO (a := 168) dR_greatest_1 flR_22 rfl (hS.s sh_163) (hS.r rt_takes) ?_
  refine go_iload_n dR_greatest_4 rfl rfl ?_
  first | refine go_ialV (hS.s sh_168) (by omega) (by decide) (by assumption) dR_greatest_5 ?_ | refine go_ialoadN (hS.s sh_168) (by omega) (by decide) dR_greatest_5 ?_
  refine go_iconst (nI 1) (by decide) dR_greatest_6 ?_
  refine go_isub dR_greatest_7 ?_
  change am_Go w jR_greatest d (0, 0) 8 _ [.inl (nM (mG M))] _ _
  refine go_istore_n dR_greatest_8 rfl (Nat.le_of_ble_eq_true rfl) ?_
  refine go_iconst (nI 0) (by decide) dR_greatest_9 ?_
  refine go_istore dR_greatest_10 (Nat.le_of_ble_eq_true rfl) ?_
  exact R_gr w G v m M r hv hm hV hS hM (mN M) 0 _ _ (by omega)
set_option maxRecDepth 100000 in
theorem R_mi1 (w : am_W) {d : Nat} {P : Option am_V → am_G → Prop} (G : am_G) (v m c p : Nat) (Q : Nat → mT) (hv : v < 2) (hm : m < 6) (hc6 : c < 6) (hp : p < mN (Q m)) (l5 : Option am_V) (hS : St0 G) (hR : hldR G v Q) (K : ilP (Q c) → ∀ l6 l7, am_Go w jR_mayInline d (0, 0) 98 [some (.inr (some 163)), some (.inl (nI (6 * v + m))), some (.inl (nI (6 * v + c))), some (.inl (nI p)), some (.inl (nI (gLx (Q m) true (mN (Q m))))), l5, l6, l7] [] G P) (F : ¬ ilP (Q c) → P (some (.inl (am_b false))) G) : ∀ (r k : Nat) (l7 : Option am_V), k + r = mN (Q c) → (∀ i, i < k → mO (Q c) i ≠ 18 ∧ mO (Q c) i ≠ 19 ∧ mO (Q c) i ≠ 23 ∧ mO (Q c) i ≠ 24) → am_Go w jR_mayInline d (0, 0) 37 [some (.inr (some 163)), some (.inl (nI (6 * v + m))), some (.inl (nI (6 * v + c))), some (.inl (nI p)), some (.inl (nI (gLx (Q m) true (mN (Q m))))), l5, some (.inl (nI k)), l7] [] G P := by
  have hV := (hR c hc6).2
  have hn6 := hV.1
  have mn := (hR c hc6).1.1.1
  intro r
  induction r with
  | zero =>
    intro k l7 hk h1
    refine go_iload dR_mayInline_37 rfl ?_
    refine go_aload_n dR_mayInline_39 rfl rfl ?_
    refine go_getO (a := 167) dR_mayInline_40 flR_19 rfl (hS.s sh_163) (hS.r rt_many) ?_
    refine go_iload_n dR_mayInline_43 rfl rfl ?_
    first | refine go_ialV (hS.s sh_167) (by omega) (by decide) (by assumption) dR_mayInline_44 ?_ | refine go_ialoadN (hS.s sh_167) (by omega) (by decide) dR_mayInline_44 ?_
    refine go_icmp_geN (by omega) (by omega) dR_mayInline_45 (tgt := 98) (by decide) (fun c1 => ?_) (fun c1 => absurd c1 (by omega))
    exact K (fun i hi => h1 i (by omega)) _ _
  | succ r ih =>
    intro k l7 hk h1
    have hkn : k < mN (Q c) := by omega
    obtain ⟨m1, m2, m3⟩ := (hR c hc6).1.2.1 k hkn
    have h28 := (hV.2.2.2.1 k hkn).1
    refine go_iload dR_mayInline_37 rfl ?_
    refine go_aload_n dR_mayInline_39 rfl rfl ?_
    refine go_getO (a := 167) dR_mayInline_40 flR_19 rfl (hS.s sh_163) (hS.r rt_many) ?_
    refine go_iload_n dR_mayInline_43 rfl rfl ?_
    first | refine go_ialV (hS.s sh_167) (by omega) (by decide) (by assumption) dR_mayInline_44 ?_ | refine go_ialoadN (hS.s sh_167) (by omega) (by decide) dR_mayInline_44 ?_
    refine go_icmp_geN (by omega) (by omega) dR_mayInline_45 (tgt := 98) (by decide) (fun c1 => absurd c1 (by omega)) (fun c1 => ?_)
    refine go_aload_n dR_mayInline_48 rfl rfl ?_
    refine go_getO (a := 164) dR_mayInline_49 flR_7 rfl (hS.s sh_163) (hS.r rt_op) ?_
    refine go_bipush (nI 60) (by decide) dR_mayInline_52 ?_
    refine go_iload_n dR_mayInline_54 rfl rfl ?_
    first | refine go_imulN dR_mayInline_55 ?_ | refine go_imul dR_mayInline_55 ?_
    refine go_iload dR_mayInline_56 rfl ?_
    first | refine go_iaddN dR_mayInline_58 ?_ | refine go_iadd dR_mayInline_58 ?_
    refine go_ialV (hS.s sh_164) (by omega) (by decide) m1 dR_mayInline_59 ?_
    refine go_istore dR_mayInline_60 (Nat.le_of_ble_eq_true rfl) ?_
    refine go_iload dR_mayInline_62 rfl ?_
    refine go_bipush (nI 18) (by decide) dR_mayInline_64 ?_
    refine go_icmp_eqN (by omega) (by decide) dR_mayInline_66 (tgt := 90) (by decide) (fun c66 => ?_) (fun c66 => ?_)
    · refine go_iconst (am_b false) (by decide) dR_mayInline_90 ?_
      refine go_zreturn rfl (am_b_01 _) dR_mayInline_91 ?_
      first | exact F (fun q => (q k hkn).1 c66) | exact F (fun q => (q k hkn).2.1 c73) | exact F (fun q => (q k hkn).2.2.1 c80) | exact F (fun q => (q k hkn).2.2.2 c87)
    · refine go_iload dR_mayInline_69 rfl ?_
      refine go_bipush (nI 19) (by decide) dR_mayInline_71 ?_
      refine go_icmp_eqN (by omega) (by decide) dR_mayInline_73 (tgt := 90) (by decide) (fun c73 => ?_) (fun c73 => ?_)
      · refine go_iconst (am_b false) (by decide) dR_mayInline_90 ?_
        refine go_zreturn rfl (am_b_01 _) dR_mayInline_91 ?_
        first | exact F (fun q => (q k hkn).1 c66) | exact F (fun q => (q k hkn).2.1 c73) | exact F (fun q => (q k hkn).2.2.1 c80) | exact F (fun q => (q k hkn).2.2.2 c87)
      · refine go_iload dR_mayInline_76 rfl ?_
        refine go_bipush (nI 23) (by decide) dR_mayInline_78 ?_
        refine go_icmp_eqN (by omega) (by decide) dR_mayInline_80 (tgt := 90) (by decide) (fun c80 => ?_) (fun c80 => ?_)
        · refine go_iconst (am_b false) (by decide) dR_mayInline_90 ?_
          refine go_zreturn rfl (am_b_01 _) dR_mayInline_91 ?_
          first | exact F (fun q => (q k hkn).1 c66) | exact F (fun q => (q k hkn).2.1 c73) | exact F (fun q => (q k hkn).2.2.1 c80) | exact F (fun q => (q k hkn).2.2.2 c87)
        · refine go_iload dR_mayInline_83 rfl ?_
          refine go_bipush (nI 24) (by decide) dR_mayInline_85 ?_
          refine go_icmp_neN (by omega) (by decide) dR_mayInline_87 (tgt := 92) (by decide) (fun c87 => ?_) (fun c87 => ?_)
          · refine go_inc dR_mayInline_92 rfl ?_
            refine go_goto dR_mayInline_95 (tgt := 37) (by decide) ?_
            refine ih (k + 1) _ (by omega) (fun i hi => ?_)
            by_cases e : i = k
            · rw [e]; exact ⟨c66, c73, c80, c87⟩
            · exact h1 i (by omega)
          · refine go_iconst (am_b false) (by decide) dR_mayInline_90 ?_
            refine go_zreturn rfl (am_b_01 _) dR_mayInline_91 ?_
            first | exact F (fun q => (q k hkn).1 c66) | exact F (fun q => (q k hkn).2.1 c73) | exact F (fun q => (q k hkn).2.2.1 c80) | exact F (fun q => (q k hkn).2.2.2 c87)
set_option maxRecDepth 100000 in
theorem R_mi2 (w : am_W) {d : Nat} {P : Option am_V → am_G → Prop} (G : am_G) (v m c p : Nat) (Q : Nat → mT) (hv : v < 2) (hm : m < 6) (hc6 : c < 6) (hp : p < mN (Q m)) (l5 : Option am_V) (T : fM) (hS : St0 G) (hR : hldR G v Q) (hT : ∀ k, k < 60 → plR G k (T k)) (K : ilA T (Q c) → P (some (.inl (am_b true))) G) (F : ¬ ilA T (Q c) → P (some (.inl (am_b false))) G) : ∀ (r k : Nat) (l7 : Option am_V), k + r = mN (Q c) → (∀ i x, i < k → T i = some x → mO (Q c) i = 22 → x.1 = 1) → am_Go w jR_mayInline d (0, 0) 139 [some (.inr (some 163)), some (.inl (nI (6 * v + m))), some (.inl (nI (6 * v + c))), some (.inl (nI p)), some (.inl (nI (gLx (Q m) true (mN (Q m))))), l5, some (.inl (nI k)), l7] [] G P := by
  have hV := (hR c hc6).2
  have hn6 := hV.1
  have mn := (hR c hc6).1.1.1
  intro r
  induction r with
  | zero =>
    intro k l7 hk h1
    refine go_iload dR_mayInline_139 rfl ?_
    refine go_aload_n dR_mayInline_141 rfl rfl ?_
    refine go_getO (a := 167) dR_mayInline_142 flR_19 rfl (hS.s sh_163) (hS.r rt_many) ?_
    refine go_iload_n dR_mayInline_145 rfl rfl ?_
    first | refine go_ialV (hS.s sh_167) (by omega) (by decide) (by assumption) dR_mayInline_146 ?_ | refine go_ialoadN (hS.s sh_167) (by omega) (by decide) dR_mayInline_146 ?_
    refine go_icmp_geN (by omega) (by omega) dR_mayInline_147 (tgt := 196) (by decide) (fun c1 => ?_) (fun c1 => absurd c1 (by omega))
    refine go_iconst (am_b true) (by decide) dR_mayInline_196 ?_
    refine go_zreturn rfl (by first | exact Or.inl rfl | exact Or.inr rfl | exact am_b_01 _) dR_mayInline_197 ?_
    exact K (fun i x hi hx ho => h1 i x (by omega) hx ho)
  | succ r ih =>
    intro k l7 hk h1
    have hkn : k < mN (Q c) := by omega
    obtain ⟨m1, m2, m3⟩ := (hR c hc6).1.2.1 k hkn
    have h28 := (hV.2.2.2.1 k hkn).1
    obtain ⟨cm, dp⟩ := hT k (by omega)
    have i1 := fun (hp : ∀ x, T k = some x → mO (Q c) k = 22 → x.1 = 1) => ih (k + 1) l7 (by omega) (fun i x hi hx ho => by
      by_cases e : i = k
      · rw [e] at hx ho; exact hp x hx ho
      · exact h1 i x (by omega) hx ho)
    refine go_iload dR_mayInline_139 rfl ?_
    refine go_aload_n dR_mayInline_141 rfl rfl ?_
    refine go_getO (a := 167) dR_mayInline_142 flR_19 rfl (hS.s sh_163) (hS.r rt_many) ?_
    refine go_iload_n dR_mayInline_145 rfl rfl ?_
    first | refine go_ialV (hS.s sh_167) (by omega) (by decide) (by assumption) dR_mayInline_146 ?_ | refine go_ialoadN (hS.s sh_167) (by omega) (by decide) dR_mayInline_146 ?_
    refine go_icmp_geN (by omega) (by omega) dR_mayInline_147 (tgt := 196) (by decide) (fun c1 => absurd c1 (by omega)) (fun c1 => ?_)
    refine go_aload_n dR_mayInline_150 rfl rfl ?_
    refine go_getO (a := 175) dR_mayInline_151 flR_44 rfl (hS.s sh_163) (hS.r rt_come) ?_
    refine go_iload dR_mayInline_154 rfl ?_
    refine go_balV (hS.s sh_175) (by omega) (by decide) cm dR_mayInline_156 ?_
    refine go_if_eqB dR_mayInline_157 (tgt := 190) (by decide) (fun c157 => ?_) (fun c157 => ?_)
    · refine go_inc dR_mayInline_190 rfl ?_
      refine go_goto dR_mayInline_193 (tgt := 139) (by decide) ?_
      first | exact i1 (fun z hz _ => by rw [hx] at hz; cases hz; exact c185) | exact i1 (fun z _ ho => absurd ho c174) | exact i1 (fun z hz _ => absurd (show (T k).isSome = true by rw [hz]; rfl) (by rw [c157]; decide))
    · obtain ⟨x, hx⟩ := Option.isSome_iff_exists.mp c157
      have dx := (dp x hx).1
      have x8 := (dp x hx).2.2.2.1.1
      refine go_aload_n dR_mayInline_160 rfl rfl ?_
      refine go_getO (a := 164) dR_mayInline_161 flR_7 rfl (hS.s sh_163) (hS.r rt_op) ?_
      refine go_bipush (nI 60) (by decide) dR_mayInline_164 ?_
      refine go_iload_n dR_mayInline_166 rfl rfl ?_
      first | refine go_imulN dR_mayInline_167 ?_ | refine go_imul dR_mayInline_167 ?_
      refine go_iload dR_mayInline_168 rfl ?_
      first | refine go_iaddN dR_mayInline_170 ?_ | refine go_iadd dR_mayInline_170 ?_
      refine go_ialV (hS.s sh_164) (by omega) (by decide) m1 dR_mayInline_171 ?_
      refine go_bipush (nI 22) (by decide) dR_mayInline_172 ?_
      refine go_icmp_neN (by omega) (by decide) dR_mayInline_174 (tgt := 190) (by decide) (fun c174 => ?_) (fun c174 => ?_)
      · refine go_inc dR_mayInline_190 rfl ?_
        refine go_goto dR_mayInline_193 (tgt := 139) (by decide) ?_
        first | exact i1 (fun z hz _ => by rw [hx] at hz; cases hz; exact c185) | exact i1 (fun z _ ho => absurd ho c174) | exact i1 (fun z hz _ => absurd (show (T k).isSome = true by rw [hz]; rfl) (by rw [c157]; decide))
      · refine go_aload_n dR_mayInline_177 rfl rfl ?_
        refine go_getO (a := 176) dR_mayInline_178 flR_47 rfl (hS.s sh_163) (hS.r rt_deep) ?_
        refine go_iload dR_mayInline_181 rfl ?_
        refine go_ialV (hS.s sh_176) (by omega) (by decide) dx dR_mayInline_183 ?_
        refine go_iconst (nI 1) (by decide) dR_mayInline_184 ?_
        refine go_icmp_eqN (by omega) (by decide) dR_mayInline_185 (tgt := 190) (by decide) (fun c185 => ?_) (fun c185 => ?_)
        · refine go_inc dR_mayInline_190 rfl ?_
          refine go_goto dR_mayInline_193 (tgt := 139) (by decide) ?_
          first | exact i1 (fun z hz _ => by rw [hx] at hz; cases hz; exact c185) | exact i1 (fun z _ ho => absurd ho c174) | exact i1 (fun z hz _ => absurd (show (T k).isSome = true by rw [hz]; rfl) (by rw [c157]; decide))
        · refine go_iconst (am_b false) (by decide) dR_mayInline_188 ?_
          refine go_zreturn rfl (am_b_01 _) dR_mayInline_189 ?_
          exact F (fun q => c185 (q k x hkn hx c174))
set_option maxRecDepth 100000 in
theorem R_mi0 (w : am_W) {d : Nat} (hd : 4 ≤ d) (G : am_G) (v m c p : Nat) (Q : Nat → mT) (hv : v < 2) (hm : m < 6) (hc6 : c < 6) (hp : p < mN (Q m)) (l5 l6 l7 : Option am_V) (S T : fM) (hL : fLeast (gP Q) (Q m) S) (hT : fLeast (gP Q) (Q c) T) (h3 : decide (c = m) = false) (h4 : mL (Q c) = false) (h5 : ilP (Q c)) (h6 : (gLx (Q m) true (mN (Q m))) + gLx (Q c) false (mN (Q c)) ≤ 8) (hS : St0 G) (hR : hldR G v Q) : am_Go w jR_mayInline d (0, 0) 98 [some (.inr (some 163)), some (.inl (nI (6 * v + m))), some (.inl (nI (6 * v + c))), some (.inl (nI p)), some (.inl (nI (gLx (Q m) true (mN (Q m))))), l5, l6, l7] [] G (fun r G' => ∃ b : Bool, r = some (.inl (am_b b)) ∧ (b = true ↔ mayI (gP Q) (Q m) (Q c) p (decide (c = m))) ∧ oJ G G') := by
  have hn6 := (hR m hm).2.1
  have hg3 := (hR c hc6).2.2.2.1
  refine go_aload_n dR_mayInline_98 rfl rfl ?_
  refine go_iload_n dR_mayInline_99 rfl rfl ?_
  refine go_cV (k' := (0, 0)) dR_mayInline_100 _ csR_188 (hS.s sh_163) rfl imR_isRight seR_isRight rfl (okR_isRight (d := 3) w (by decide) G v m Q hv hm hS hR) (by omega) (by decide) (Nat.le_of_ble_eq_true rfl) (fun r G1 hr hn => ?_)
  obtain ⟨t, rfl, I1, o1, L1, N1⟩ := hr
  have hS := o1.St hS
  have h0 : t.2.2 = false := by
    cases q : t.2.2 with
    | false => rfl
    | true => exact absurd hL.1 (N1 q _)
  refine go_pop dR_mayInline_103 ?_
  obtain ⟨Ga, ea⟩ : ∃ Ga, Ga = G1 := ⟨_, rfl⟩
  subst ea
  have pp := (I1.2 h0).2 p (by omega)
  obtain ⟨cm, dp⟩ := pp
  have L2 := (L1 h0).1
  have hR1 := hR.j o1
  have tk := (hR1 c hc6).1.1.2.2.1
  refine go_aload_n dR_mayInline_104 rfl rfl ?_
  refine go_getO (a := 175) dR_mayInline_105 flR_44 rfl (hS.s sh_163) (hS.r rt_come) ?_
  refine go_iload_n dR_mayInline_108 rfl rfl ?_
  refine go_balV (hS.s sh_175) (by omega) (by decide) cm dR_mayInline_109 ?_
  refine go_if_eqB dR_mayInline_110 (tgt := 128) (by decide) (fun c110 => ?_) (fun c110 => ?_)
  · refine go_iconst (am_b false) (by decide) dR_mayInline_128 ?_
    refine go_zreturn rfl (am_b_01 _) dR_mayInline_129 ?_
    first | exact ⟨false, rfl, iffF (mayI.n5 hp L2 (ilF_n2 hx c125)), o1⟩ | exact ⟨false, rfl, iffF (mayI.n5 hp L2 (ilF_n1 c110)), o1⟩
  · obtain ⟨x, hx⟩ := Option.isSome_iff_exists.mp c110
    have dx := (dp x hx).1
    have x8 := (dp x hx).2.2.2.1.1
    refine go_aload_n dR_mayInline_113 rfl rfl ?_
    refine go_getO (a := 176) dR_mayInline_114 flR_47 rfl (hS.s sh_163) (hS.r rt_deep) ?_
    refine go_iload_n dR_mayInline_117 rfl rfl ?_
    refine go_ialV (hS.s sh_176) (by omega) (by decide) dx dR_mayInline_118 ?_
    refine go_aload_n dR_mayInline_119 rfl rfl ?_
    refine go_getO (a := 168) dR_mayInline_120 flR_22 rfl (hS.s sh_163) (hS.r rt_takes) ?_
    refine go_iload_n dR_mayInline_123 rfl rfl ?_
    refine go_ialV (hS.s sh_168) (by omega) (by decide) tk dR_mayInline_124 ?_
    refine go_icmp_eqN (by omega) (by omega) dR_mayInline_125 (tgt := 130) (by decide) (fun c125 => ?_) (fun c125 => ?_)
    · refine go_aload_n dR_mayInline_130 rfl rfl ?_
      refine go_iload_n dR_mayInline_131 rfl rfl ?_
      refine go_cV (k' := (0, 0)) dR_mayInline_132 _ csR_188 (hS.s sh_163) rfl imR_isRight seR_isRight rfl (okR_isRight (d := 3) w (by decide) Ga v c Q hv hc6 hS hR1) (by omega) (by decide) (Nat.le_of_ble_eq_true rfl) (fun r G1 hr hn => ?_)
      obtain ⟨t2, rfl, I2, o2, L3, N3⟩ := hr
      have hS := o2.St hS
      have g0 : t2.2.2 = false := by
        cases q : t2.2.2 with
        | false => rfl
        | true => exact absurd hT.1 (N3 q _)
      refine go_pop dR_mayInline_135 ?_
      refine go_iconst (nI 0) (by decide) dR_mayInline_136 ?_
      refine go_istore dR_mayInline_137 (Nat.le_of_ble_eq_true rfl) ?_
      refine R_mi2 w G1 v m c p Q hv hm hc6 hp _ t2.1 hS (hR1.j o2) (I2.2 g0).2 (fun q => ?_) (fun q => ?_) (mN (Q c)) 0 _ (by omega) (fun i x hi => absurd hi (Nat.not_lt_zero i))
      · exact ⟨true, rfl, iffT (mayI.y L2 (L3 g0).1 h3 h4 h5 h6 ⟨x, hx, c125⟩ q), o1.tr o2⟩
      · exact ⟨false, rfl, iffF (mayI.n6 (L3 g0).1 q), o1.tr o2⟩
    · refine go_iconst (am_b false) (by decide) dR_mayInline_128 ?_
      refine go_zreturn rfl (am_b_01 _) dR_mayInline_129 ?_
      first | exact ⟨false, rfl, iffF (mayI.n5 hp L2 (ilF_n2 hx c125)), o1⟩ | exact ⟨false, rfl, iffF (mayI.n5 hp L2 (ilF_n1 c110)), o1⟩
set_option maxRecDepth 100000 in
theorem okR_mayInline (w : am_W) {d : Nat} (hd : 4 ≤ d) (G : am_G) (v m c p : Nat) (Q : Nat → mT) (hv : v < 2) (hm : m < 6) (hc6 : c < 6) (hp : p < mN (Q m)) (S T : fM) (hL : fLeast (gP Q) (Q m) S) (hT : fLeast (gP Q) (Q c) T) (hS : St0 G) (hR : hldR G v Q) : am_Ok w jR_mayInline d (0, 0) [.inr (some 163), .inl (nI (6 * v + m)), .inl (nI (6 * v + c)), .inl (nI p), .inl (nI (gLx (Q m) true (mN (Q m))))] G (fun r G' => ∃ b : Bool, r = some (.inl (am_b b)) ∧ (b = true ↔ mayI (gP Q) (Q m) (Q c) p (decide (c = m))) ∧ oJ G G') := by
  refine am_ok_of rfl (Nat.le_of_ble_eq_true rfl) ?_
  show am_Go w jR_mayInline d (0, 0) 0 [some (.inr (some 163)), some (.inl (nI (6 * v + m))), some (.inl (nI (6 * v + c))), some (.inl (nI p)), some (.inl (nI (gLx (Q m) true (mN (Q m))))), none, none, none] [] G _
  have hV := (hR c hc6).2
  have g8 := gLx_8 (r := true) (hR m hm).2 (mN (Q m)) (Nat.le_refl _)
  have g9 := gLx_8 (r := false) hV (mN (Q c)) (Nat.le_refl _)
  have lk := (hR c hc6).1.1.2.2.2
  refine go_aload_n dR_mayInline_0 rfl rfl ?_
  refine go_iload_n dR_mayInline_1 rfl rfl ?_
  refine go_iconst (am_b false) (by decide) dR_mayInline_2 ?_
  refine go_cV (k' := (0, 0)) dR_mayInline_3 _ csR_298 (hS.s sh_163) rfl imR_greatest seR_greatest rfl (okR_greatest (d := 0) w G v c (Q c) false hv hc6 hV hS (hR c hc6).1) (by omega) (by decide) (Nat.le_of_ble_eq_true rfl) (fun r G1 hr hn => ?_)
  obtain ⟨rfl, hG⟩ := hr
  rw [hG]
  clear hG hn
  refine go_istore dR_mayInline_6 (Nat.le_of_ble_eq_true rfl) ?_
  refine go_iload_n dR_mayInline_8 rfl rfl ?_
  refine go_iload_n dR_mayInline_9 rfl rfl ?_
  refine go_icmp_eqN (by omega) (by omega) dR_mayInline_10 (tgt := 32) (by decide) (fun c10 => ?_) (fun c10 => ?_)
  · refine go_iconst (am_b false) (by decide) dR_mayInline_32 ?_
    refine go_zreturn rfl (am_b_01 _) dR_mayInline_33 ?_
    first | exact ⟨false, rfl, iffF (mayI.n1 (decide_eq_true (show c = m by omega))), oJ.rf⟩ | exact ⟨false, rfl, iffF (mayI.n2 c19), oJ.rf⟩ | (have q : ¬ (gLx (Q m) true (mN (Q m))) + gLx (Q c) false (mN (Q c)) ≤ 8 := fun q => c29 ((mv_le (by omega) (by omega)).mpr q); exact ⟨false, rfl, iffF (mayI.n3 (by omega)), oJ.rf⟩)
  · refine go_aload_n dR_mayInline_13 rfl rfl ?_
    refine go_getO (a := 174) dR_mayInline_14 flR_40 rfl (hS.s sh_163) (hS.r rt_locked) ?_
    refine go_iload_n dR_mayInline_17 rfl rfl ?_
    refine go_balV (hS.s sh_174) (by omega) (by decide) lk dR_mayInline_18 ?_
    refine go_if_neB dR_mayInline_19 (tgt := 32) (by decide) (fun c19 => ?_) (fun c19 => ?_)
    · refine go_iconst (am_b false) (by decide) dR_mayInline_32 ?_
      refine go_zreturn rfl (am_b_01 _) dR_mayInline_33 ?_
      first | exact ⟨false, rfl, iffF (mayI.n1 (decide_eq_true (show c = m by omega))), oJ.rf⟩ | exact ⟨false, rfl, iffF (mayI.n2 c19), oJ.rf⟩ | (have q : ¬ (gLx (Q m) true (mN (Q m))) + gLx (Q c) false (mN (Q c)) ≤ 8 := fun q => c29 ((mv_le (by omega) (by omega)).mpr q); exact ⟨false, rfl, iffF (mayI.n3 (by omega)), oJ.rf⟩)
    · refine go_iload dR_mayInline_22 rfl ?_
      refine go_iload dR_mayInline_24 rfl ?_
      refine go_iadd dR_mayInline_26 ?_
      refine go_bipush (nI 7) (by decide) dR_mayInline_27 ?_
      refine go_icmp_le dR_mayInline_29 (tgt := 34) (by decide) (fun c29 => ?_) (fun c29 => ?_)
      · refine go_iconst (nI 0) (by decide) dR_mayInline_34 ?_
        refine go_istore dR_mayInline_35 (Nat.le_of_ble_eq_true rfl) ?_
        have h6 := (mv_le (by omega) (by omega)).mp c29
        refine R_mi1 w G v m c p Q hv hm hc6 hp _ hS hR (fun h5 l6 l7 => ?_) (fun q => ⟨false, rfl, iffF (mayI.n4 q), oJ.rf⟩) (mN (Q c)) 0 _ (by omega) (fun i hi => absurd hi (Nat.not_lt_zero i))
        exact R_mi0 w hd G v m c p Q hv hm hc6 hp _ _ _ S T hL hT (decide_eq_false (by omega)) c19 h5 h6 hS hR
      · refine go_iconst (am_b false) (by decide) dR_mayInline_32 ?_
        refine go_zreturn rfl (am_b_01 _) dR_mayInline_33 ?_
        first | exact ⟨false, rfl, iffF (mayI.n1 (decide_eq_true (show c = m by omega))), oJ.rf⟩ | exact ⟨false, rfl, iffF (mayI.n2 c19), oJ.rf⟩ | (have q : ¬ (gLx (Q m) true (mN (Q m))) + gLx (Q c) false (mN (Q c)) ≤ 8 := fun q => c29 ((mv_le (by omega) (by omega)).mpr q); exact ⟨false, rfl, iffF (mayI.n3 (by omega)), oJ.rf⟩)
