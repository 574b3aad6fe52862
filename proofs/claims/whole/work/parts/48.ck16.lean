theorem fCnt_far {S : fM} {n : Nat} (h : ∀ p, n ≤ p → S p = none) : ∀ k, fCnt S (n + k) = fCnt S n
  | 0 => rfl
  | k + 1 => by
    show fCnt S (n + k) + (if (S (n + k)).isSome = true then 1 else 0) = fCnt S n
    rw [fCnt_far h k, h (n + k) (by omega)]; rfl
theorem kA_60 {S : fM} {n : Nat} (hn : n ≤ 60) (h : ∀ p, n ≤ p → S p = none) {p k : Int32} : kA S n p k = kA S 60 p k := by
  cases hb : bel p n with
  | true =>
    obtain ⟨a, ha, rfl⟩ := bel_of hb (by omega)
    unfold kA
    rw [hb, if_pos rfl, if_pos (by rw [bel_nI (by omega)]; exact decide_eq_true (by omega))]
  | false =>
    rw [kA_b hb]
    cases hc : bel p 60 with
    | false => rw [kA_b hc]
    | true =>
      obtain ⟨a, ha, rfl⟩ := bel_of hc (by decide)
      rw [bel_nI (by omega)] at hb
      have := of_decide_eq_false hb
      rw [kA_n (Nat.le_refl 60) ha (h a (by omega))]
theorem kR_ge {k : Option Nat} (hk : ∀ q, k = some q → q < 200) (h : 0 ≤ kR k) : kR k = kO k := by
  cases k with
  | none => exact absurd h (by decide)
  | some q => rfl
theorem kR_lt {k : Option Nat} (hk : ∀ q, k = some q → q < 200) (h : ¬ 0 ≤ kR k) : kO k = -2 := by
  cases k with
  | none => rfl
  | some q => exact absurd (nI_pos' (by have := hk q rfl; omega)) h
set_option maxRecDepth 100000 in
theorem R_ck1 (w : am_W) {d : Nat} (G : am_G) (m : Nat) (t : rT) (hS : St0 G) (h5 : ∀ i, i < 60 → G.2.1 175 i = am_b (t.1 i).isSome) : ∀ (r k : Nat), k + r = 60 → am_Go w jR_check d (0, 0) 33 [some (.inr (some 163)), some (.inl (nI m)), some (.inl (am_b true)), some (.inl (nI (fCnt t.1 k))), some (.inl (nI k))] [] G (fun r G' => r = some (.inl (nI (fCnt t.1 60))) ∧ G' = G) := by
  intro r
  induction r with
  | zero =>
    intro k hk
    refine go_iload dR_check_33 rfl ?_
    refine go_bipush (nI 60) (by decide) dR_check_35 ?_
    refine go_icmp_geN (by omega) (by omega) dR_check_37 (tgt := 59) (by decide) (fun c1 => ?_) (fun c1 => absurd c1 (by omega))
    refine go_iload_n dR_check_59 rfl rfl ?_
    refine go_ireturn rfl dR_check_60 ?_
    exact ⟨by rw [show k = 60 by omega], rfl⟩
  | succ r ih =>
    intro k hk
    have h5k := h5 k (by omega)
    refine go_iload dR_check_33 rfl ?_
    refine go_bipush (nI 60) (by decide) dR_check_35 ?_
    refine go_icmp_geN (by omega) (by omega) dR_check_37 (tgt := 59) (by decide) (fun c1 => absurd c1 (by omega)) (fun c1 => ?_)
    refine go_aload_n dR_check_40 rfl rfl ?_
    refine go_getO (a := 175) dR_check_41 flR_44 rfl (hS.s sh_163) (hS.r rt_come) ?_
    refine go_iload dR_check_44 rfl ?_
    refine go_balV (hS.s sh_175) (by omega) (by decide) h5k dR_check_46 ?_
    refine go_if_eqB dR_check_47 (tgt := 53) (by decide) (fun c47 => ?_) (fun c47 => ?_)
    · first | refine go_inc dR_check_53 rfl ?_ | refine go_iinc dR_check_53 rfl ?_
      refine go_goto dR_check_56 (tgt := 33) (by decide) ?_
      have i1 := ih (k + 1) (by omega)
      have e1 : fCnt t.1 (k + 1) = fCnt t.1 k + if (t.1 k).isSome = true then 1 else 0 := rfl
      rw [e1, c47] at i1
      exact i1
    · first | refine go_inc dR_check_50 rfl ?_ | refine go_iinc dR_check_50 rfl ?_
      first | refine go_inc dR_check_53 rfl ?_ | refine go_iinc dR_check_53 rfl ?_
      refine go_goto dR_check_56 (tgt := 33) (by decide) ?_
      have i1 := ih (k + 1) (by omega)
      have e1 : fCnt t.1 (k + 1) = fCnt t.1 k + if (t.1 k).isSome = true then 1 else 0 := rfl
      rw [e1, c47] at i1
      exact i1
set_option maxRecDepth 100000 in
theorem okR_check (w : am_W) {d : Nat} (hd : 4 ≤ d) (G : am_G) (s : sT) (x : Int32) (hS : St0 G) (hc : rS G s) (hv : sV s) : am_Ok w jR_check d (0, 0) [.inr (some 163), .inl x] G (fun r G' => r = some (.inl (aCheck s x)) ∧ rEnd G G' s) := by
  refine am_ok_of rfl (Nat.le_of_ble_eq_true rfl) ?_
  show am_Go w jR_check d (0, 0) 0 [some (.inr (some 163)), some (.inl x), none, none, none] [] G _
  refine go_iload_n dR_check_0 rfl rfl ?_
  refine go_iconst (nI 0) (by decide) dR_check_1 ?_
  refine go_iconst (nI 5) (by decide) dR_check_2 ?_
  refine go_cS (k' := (0, 0)) dR_check_3 _ csR_123 stR_in rfl (okR_in0 (d := 0) w G x 5 (by decide)) (by omega) (by decide) (Nat.le_of_ble_eq_true rfl) (fun r G1 hr hn => ?_)
  obtain ⟨rfl, hG⟩ := hr
  rw [hG]
  clear hG hn
  refine go_if_neB dR_check_6 (tgt := 11) (by decide) (fun c6 => ?_) (fun c6 => ?_)
  · obtain ⟨m, hm, rfl⟩ := bel_of c6 (by decide)
    refine go_aload_n dR_check_11 rfl rfl ?_
    refine go_aload_n dR_check_12 rfl rfl ?_
    refine go_iload_n dR_check_13 rfl rfl ?_
    refine go_cV (k' := (0, 0)) dR_check_14 _ csR_135 (hS.s sh_163) rfl imR_own seR_own rfl (okR_own (d := 0) w G s.1 m hc.1 hS) (by omega) (by decide) (Nat.le_of_ble_eq_true rfl) (fun r G1 hr hn => ?_)
    obtain ⟨rfl, hG⟩ := hr
    rw [hG]
    clear hG hn
    refine go_cV (k' := (0, 0)) dR_check_17 _ csR_188 (hS.s sh_163) rfl imR_isRight seR_isRight rfl (okR_isRight (d := 3) w (by decide) G s.1 m (zQ s s.1) hv.1 hm hS (rS.hR hc hv hv.1)) (by omega) (by decide) (Nat.le_of_ble_eq_true rfl) (fun r1 Z1 hr1 hn1 => ?_)
    obtain ⟨t, rfl, I1, o1, L1, N1⟩ := hr1
    have S1 := o1.St hS
    have hn6 : mN (zM s m) ≤ 60 := (hv.2.1 (6 * s.1 + m) (by have := hv.1; omega)).1
    refine go_istore_n dR_check_20 rfl (Nat.le_of_ble_eq_true rfl) ?_
    refine go_iload_n dR_check_21 rfl rfl ?_
    refine go_if_neB dR_check_22 (tgt := 28) (by decide) (fun c22 => ?_) (fun c22 => ?_)
    · have h0 := nbT c22
      obtain ⟨hL, hno⟩ := L1 h0
      refine go_iconst (nI 0) (by decide) dR_check_28 ?_
      refine go_istore_n dR_check_29 rfl (Nat.le_of_ble_eq_true rfl) ?_
      refine go_iconst (nI 0) (by decide) dR_check_30 ?_
      refine go_istore dR_check_31 (Nat.le_of_ble_eq_true rfl) ?_
      rw [c22]
      refine go_post (R_ck1 w Z1 m t S1 (fun i hi => ((I1.2 h0).2 i hi).1) 60 0 rfl) (fun r2 G2 q => ?_)
      obtain ⟨q1, q2⟩ := q
      rw [q2]
      have e1 : fCnt t.1 (mN (zM s m) + (60 - mN (zM s m))) = fCnt t.1 (mN (zM s m)) := fCnt_far hno _
      have e2 : mN (zM s m) + (60 - mN (zM s m)) = 60 := by omega
      have e3 : fCnt t.1 60 = fCnt t.1 (mN (zM s m)) := by rw [← e1]; exact congrArg (fCnt t.1) e2.symm
      exact ⟨by rw [q1, aCheck_s hm hL, e3], ⟨hc.j o1, o1.rf2⟩⟩
    · refine go_bipush (-4) (by decide) dR_check_25 ?_
      refine go_ireturn rfl dR_check_27 ?_
      first | exact ⟨by rw [aCheck_o c6], rEnd.rf hc⟩ | exact ⟨by rw [aCheck_n hm (N1 (nbF c22))], ⟨hc.j o1, o1.rf2⟩⟩
  · refine go_iconst (-1) (by decide) dR_check_9 ?_
    refine go_ireturn rfl dR_check_10 ?_
    first | exact ⟨by rw [aCheck_o c6], rEnd.rf hc⟩ | exact ⟨by rw [aCheck_n hm (N1 (nbF c22))], ⟨hc.j o1, o1.rf2⟩⟩
theorem kL_8 {k : Int32} (h : kL k = true) : nI 8 ≤ k := by
  obtain ⟨j, hj, rfl⟩ := kL_n h
  exact nI_le (by omega) (by omega)
theorem kS_8 {k : Int32} (h : kS k = true) : ¬ nI 8 ≤ k := by
  rw [← kS_c] at h
  exact (of_decide_eq_true h).2
set_option maxRecDepth 100000 in
theorem R_kA (w : am_W) {d : Nat} (hd : 4 ≤ d) (G : am_G) (s : sT) (m : Nat) (p k : Int32) (hm : m < 6) (hk : kS k = true ∨ kL k = true) (hS : St0 G) (hc : rS G s) (hv : sV s) : am_Go w jR_kindAt d (0, 0) 32 [some (.inr (some 163)), some (.inl (nI m)), some (.inl p), some (.inl k), none] [] G (fun r G' => r = some (.inl (aKind s (nI m) p k)) ∧ rEnd G G' s) := by
  refine go_aload_n dR_kindAt_32 rfl rfl ?_
  refine go_aload_n dR_kindAt_33 rfl rfl ?_
  refine go_iload_n dR_kindAt_34 rfl rfl ?_
  refine go_cV (k' := (0, 0)) dR_kindAt_35 _ csR_135 (hS.s sh_163) rfl imR_own seR_own rfl (okR_own (d := 0) w G s.1 m hc.1 hS) (by omega) (by decide) (Nat.le_of_ble_eq_true rfl) (fun r G1 hr hn => ?_)
  obtain ⟨rfl, hG⟩ := hr
  rw [hG]
  clear hG hn
  refine go_cV (k' := (0, 0)) dR_kindAt_38 _ csR_188 (hS.s sh_163) rfl imR_isRight seR_isRight rfl (okR_isRight (d := 3) w (by decide) G s.1 m (zQ s s.1) hv.1 hm hS (rS.hR hc hv hv.1)) (by omega) (by decide) (Nat.le_of_ble_eq_true rfl) (fun r1 Z1 hr1 hn1 => ?_)
  obtain ⟨t, rfl, I1, o1, L1, N1⟩ := hr1
  have S1 := o1.St hS
  have hn6 : mN (zM s m) ≤ 60 := (hv.2.1 (6 * s.1 + m) (by have := hv.1; omega)).1
  refine go_istore dR_kindAt_41 (Nat.le_of_ble_eq_true rfl) ?_
  refine go_iload dR_kindAt_43 rfl ?_
  refine go_if_eqB dR_kindAt_45 (tgt := 67) (by decide) (fun c45 => ?_) (fun c45 => ?_)
  · first | rw [aKind_n hm hk (N1 (nbF c45))] | rw [kA_n (Nat.le_refl 60) ha0 (a1n c64)] | rw [kA_b c55]
    refine go_bipush (-2) (by decide) dR_kindAt_67 ?_
    refine go_ireturn rfl dR_kindAt_69 ?_
    first | exact ⟨by rw [c72, kX_d], ⟨hc.j o1, o1.rf2⟩⟩ | exact ⟨by rw [kX_t hj (by omega)], ⟨hc.j o1, o1.rf2⟩⟩ | exact ⟨by rw [kX_f hj (by omega)], ⟨hc.j o1, o1.rf2⟩⟩ | exact ⟨by rw [kR_ge lb c129], ⟨hc.j o1, o1.rf2⟩⟩ | exact ⟨by rw [kR_lt lb c129], ⟨hc.j o1, o1.rf2⟩⟩ | exact ⟨rfl, ⟨hc.j o1, o1.rf2⟩⟩
  · have h0 := nbT c45
    obtain ⟨hL, hno⟩ := L1 h0
    rw [aKind_s hm hn6 hk hL, kA_60 hn6 hno]
    refine go_iload_n dR_kindAt_48 rfl rfl ?_
    refine go_iconst (nI 0) (by decide) dR_kindAt_49 ?_
    refine go_bipush (nI 59) (by decide) dR_kindAt_50 ?_
    refine go_cS (k' := (0, 0)) dR_kindAt_52 _ csR_123 stR_in rfl (okR_in0 (d := 0) w Z1 p 59 (by decide)) (by omega) (by decide) (Nat.le_of_ble_eq_true rfl) (fun r G1 hr hn => ?_)
    obtain ⟨rfl, hG⟩ := hr
    rw [hG]
    clear hG hn
    refine go_if_eqB dR_kindAt_55 (tgt := 67) (by decide) (fun c55 => ?_) (fun c55 => ?_)
    · first | rw [aKind_n hm hk (N1 (nbF c45))] | rw [kA_n (Nat.le_refl 60) ha0 (a1n c64)] | rw [kA_b c55]
      refine go_bipush (-2) (by decide) dR_kindAt_67 ?_
      refine go_ireturn rfl dR_kindAt_69 ?_
      first | exact ⟨by rw [c72, kX_d], ⟨hc.j o1, o1.rf2⟩⟩ | exact ⟨by rw [kX_t hj (by omega)], ⟨hc.j o1, o1.rf2⟩⟩ | exact ⟨by rw [kX_f hj (by omega)], ⟨hc.j o1, o1.rf2⟩⟩ | exact ⟨by rw [kR_ge lb c129], ⟨hc.j o1, o1.rf2⟩⟩ | exact ⟨by rw [kR_lt lb c129], ⟨hc.j o1, o1.rf2⟩⟩ | exact ⟨rfl, ⟨hc.j o1, o1.rf2⟩⟩
    · obtain ⟨a0, ha0, rfl⟩ := bel_of c55 (by decide)
      have h75 := ((I1.2 h0).2 a0 ha0).1
      refine go_aload_n dR_kindAt_58 rfl rfl ?_
      refine go_getO (a := 175) dR_kindAt_59 flR_44 rfl (S1.s sh_163) (S1.r rt_come) ?_
      refine go_iload_n dR_kindAt_62 rfl rfl ?_
      refine go_balV (S1.s sh_175) (by omega) (by decide) h75 dR_kindAt_63 ?_
      refine go_if_neB dR_kindAt_64 (tgt := 70) (by decide) (fun c64 => ?_) (fun c64 => ?_)
      · obtain ⟨xx, hx⟩ := Option.isSome_iff_exists.mp c64
        have hst := ((I1.2 h0).2 a0 ha0).2 xx hx
        have hst1 := hst.1
        have hx8 := hst.2.2.2.1.1
        rw [kA_s (Nat.le_refl 60) ha0 hx]
        refine go_iload_n dR_kindAt_70 rfl rfl ?_
        refine go_iconst (-1) (by decide) dR_kindAt_71 ?_
        refine go_icmp_ne dR_kindAt_72 (tgt := 82) (by decide) (fun c72 => ?_) (fun c72 => ?_)
        · refine go_iload_n dR_kindAt_82 rfl rfl ?_
          refine go_bipush (nI 8) (by decide) dR_kindAt_83 ?_
          refine go_icmp_ge dR_kindAt_85 (tgt := 115) (by decide) (fun c85 => ?_) (fun c85 => ?_)
          · obtain ⟨j, hj, rfl⟩ : ∃ j, j < 8 ∧ k = nI (10 + j) := by rcases hk with q | q; exact absurd c85 (kS_8 q); exact kL_n q
            have l3 : Z1.2.1 178 (8 * a0 + (10 + j) - 10) = kR (xx.2.2 j) := by rw [show 8 * a0 + (10 + j) - 10 = 8 * a0 + j by omega]; exact hst.2.2.1 j hj
            have lb := hst.2.2.2.1.2.2 j hj
            rw [kX_l hj]
            refine go_aload_n dR_kindAt_115 rfl rfl ?_
            refine go_getO (a := 178) dR_kindAt_116 flR_53 rfl (S1.s sh_163) (S1.r rt_lKind) ?_
            refine go_bipush (nI 8) (by decide) dR_kindAt_119 ?_
            refine go_iload_n dR_kindAt_121 rfl rfl ?_
            first | refine go_imulN dR_kindAt_122 ?_ | refine go_imul dR_kindAt_122 ?_
            refine go_iload_n dR_kindAt_123 rfl rfl ?_
            first | refine go_iaddN dR_kindAt_124 ?_ | refine go_iadd dR_kindAt_124 ?_
            refine go_bipush (nI 10) (by decide) dR_kindAt_125 ?_
            first | refine go_isubN (by omega) dR_kindAt_127 ?_ | refine go_isub dR_kindAt_127 ?_
            refine go_ialV (S1.s sh_178) (by omega) (by decide) l3 dR_kindAt_128 ?_
            refine go_if_ge dR_kindAt_129 (tgt := 137) (by decide) (fun c129 => ?_) (fun c129 => ?_)
            · refine go_aload_n dR_kindAt_137 rfl rfl ?_
              refine go_getO (a := 178) dR_kindAt_138 flR_53 rfl (S1.s sh_163) (S1.r rt_lKind) ?_
              refine go_bipush (nI 8) (by decide) dR_kindAt_141 ?_
              refine go_iload_n dR_kindAt_143 rfl rfl ?_
              first | refine go_imulN dR_kindAt_144 ?_ | refine go_imul dR_kindAt_144 ?_
              refine go_iload_n dR_kindAt_145 rfl rfl ?_
              first | refine go_iaddN dR_kindAt_146 ?_ | refine go_iadd dR_kindAt_146 ?_
              refine go_bipush (nI 10) (by decide) dR_kindAt_147 ?_
              first | refine go_isubN (by omega) dR_kindAt_149 ?_ | refine go_isub dR_kindAt_149 ?_
              refine go_ialV (S1.s sh_178) (by omega) (by decide) l3 dR_kindAt_150 ?_
              refine go_ireturn rfl dR_kindAt_151 ?_
              first | exact ⟨by rw [c72, kX_d], ⟨hc.j o1, o1.rf2⟩⟩ | exact ⟨by rw [kX_t hj (by omega)], ⟨hc.j o1, o1.rf2⟩⟩ | exact ⟨by rw [kX_f hj (by omega)], ⟨hc.j o1, o1.rf2⟩⟩ | exact ⟨by rw [kR_ge lb c129], ⟨hc.j o1, o1.rf2⟩⟩ | exact ⟨by rw [kR_lt lb c129], ⟨hc.j o1, o1.rf2⟩⟩ | exact ⟨rfl, ⟨hc.j o1, o1.rf2⟩⟩
            · refine go_bipush (-2) (by decide) dR_kindAt_132 ?_
              refine go_goto dR_kindAt_134 (tgt := 151) (by decide) ?_
              refine go_ireturn rfl dR_kindAt_151 ?_
              first | exact ⟨by rw [c72, kX_d], ⟨hc.j o1, o1.rf2⟩⟩ | exact ⟨by rw [kX_t hj (by omega)], ⟨hc.j o1, o1.rf2⟩⟩ | exact ⟨by rw [kX_f hj (by omega)], ⟨hc.j o1, o1.rf2⟩⟩ | exact ⟨by rw [kR_ge lb c129], ⟨hc.j o1, o1.rf2⟩⟩ | exact ⟨by rw [kR_lt lb c129], ⟨hc.j o1, o1.rf2⟩⟩ | exact ⟨rfl, ⟨hc.j o1, o1.rf2⟩⟩
          · obtain ⟨j, hj, rfl⟩ : ∃ j, j < 8 ∧ k = nI j := by rcases hk with q | q; exact kS_n q c72; exact absurd (kL_8 q) c85
            refine go_iload_n dR_kindAt_88 rfl rfl ?_
            refine go_aload_n dR_kindAt_89 rfl rfl ?_
            refine go_getO (a := 176) dR_kindAt_90 flR_47 rfl (S1.s sh_163) (S1.r rt_deep) ?_
            refine go_iload_n dR_kindAt_93 rfl rfl ?_
            refine go_ialV (S1.s sh_176) (by omega) (by decide) hst1 dR_kindAt_94 ?_
            refine go_icmp_geN (by omega) (by omega) dR_kindAt_95 (tgt := 112) (by decide) (fun c95 => ?_) (fun c95 => ?_)
            · refine go_bipush (-2) (by decide) dR_kindAt_112 ?_
              refine go_ireturn rfl dR_kindAt_114 ?_
              first | exact ⟨by rw [c72, kX_d], ⟨hc.j o1, o1.rf2⟩⟩ | exact ⟨by rw [kX_t hj (by omega)], ⟨hc.j o1, o1.rf2⟩⟩ | exact ⟨by rw [kX_f hj (by omega)], ⟨hc.j o1, o1.rf2⟩⟩ | exact ⟨by rw [kR_ge lb c129], ⟨hc.j o1, o1.rf2⟩⟩ | exact ⟨by rw [kR_lt lb c129], ⟨hc.j o1, o1.rf2⟩⟩ | exact ⟨rfl, ⟨hc.j o1, o1.rf2⟩⟩
            · have s2 := hst.2.1 j (by omega)
              refine go_aload_n dR_kindAt_98 rfl rfl ?_
              refine go_getO (a := 177) dR_kindAt_99 flR_50 rfl (S1.s sh_163) (S1.r rt_sKind) ?_
              refine go_bipush (nI 8) (by decide) dR_kindAt_102 ?_
              refine go_iload_n dR_kindAt_104 rfl rfl ?_
              first | refine go_imulN dR_kindAt_105 ?_ | refine go_imul dR_kindAt_105 ?_
              refine go_iload_n dR_kindAt_106 rfl rfl ?_
              first | refine go_iaddN dR_kindAt_107 ?_ | refine go_iadd dR_kindAt_107 ?_
              refine go_ialV (S1.s sh_177) (by omega) (by decide) s2 dR_kindAt_108 ?_
              refine go_goto dR_kindAt_109 (tgt := 114) (by decide) ?_
              refine go_ireturn rfl dR_kindAt_114 ?_
              first | exact ⟨by rw [c72, kX_d], ⟨hc.j o1, o1.rf2⟩⟩ | exact ⟨by rw [kX_t hj (by omega)], ⟨hc.j o1, o1.rf2⟩⟩ | exact ⟨by rw [kX_f hj (by omega)], ⟨hc.j o1, o1.rf2⟩⟩ | exact ⟨by rw [kR_ge lb c129], ⟨hc.j o1, o1.rf2⟩⟩ | exact ⟨by rw [kR_lt lb c129], ⟨hc.j o1, o1.rf2⟩⟩ | exact ⟨rfl, ⟨hc.j o1, o1.rf2⟩⟩
        · refine go_aload_n dR_kindAt_75 rfl rfl ?_
          refine go_getO (a := 176) dR_kindAt_76 flR_47 rfl (S1.s sh_163) (S1.r rt_deep) ?_
          refine go_iload_n dR_kindAt_79 rfl rfl ?_
          refine go_ialV (S1.s sh_176) (by omega) (by decide) hst1 dR_kindAt_80 ?_
          refine go_ireturn rfl dR_kindAt_81 ?_
          first | exact ⟨by rw [c72, kX_d], ⟨hc.j o1, o1.rf2⟩⟩ | exact ⟨by rw [kX_t hj (by omega)], ⟨hc.j o1, o1.rf2⟩⟩ | exact ⟨by rw [kX_f hj (by omega)], ⟨hc.j o1, o1.rf2⟩⟩ | exact ⟨by rw [kR_ge lb c129], ⟨hc.j o1, o1.rf2⟩⟩ | exact ⟨by rw [kR_lt lb c129], ⟨hc.j o1, o1.rf2⟩⟩ | exact ⟨rfl, ⟨hc.j o1, o1.rf2⟩⟩
      · first | rw [aKind_n hm hk (N1 (nbF c45))] | rw [kA_n (Nat.le_refl 60) ha0 (a1n c64)] | rw [kA_b c55]
        refine go_bipush (-2) (by decide) dR_kindAt_67 ?_
        refine go_ireturn rfl dR_kindAt_69 ?_
        first | exact ⟨by rw [c72, kX_d], ⟨hc.j o1, o1.rf2⟩⟩ | exact ⟨by rw [kX_t hj (by omega)], ⟨hc.j o1, o1.rf2⟩⟩ | exact ⟨by rw [kX_f hj (by omega)], ⟨hc.j o1, o1.rf2⟩⟩ | exact ⟨by rw [kR_ge lb c129], ⟨hc.j o1, o1.rf2⟩⟩ | exact ⟨by rw [kR_lt lb c129], ⟨hc.j o1, o1.rf2⟩⟩ | exact ⟨rfl, ⟨hc.j o1, o1.rf2⟩⟩
set_option maxRecDepth 100000 in
theorem okR_kindAt (w : am_W) {d : Nat} (hd : 4 ≤ d) (G : am_G) (s : sT) (x p k : Int32) (hS : St0 G) (hc : rS G s) (hv : sV s) : am_Ok w jR_kindAt d (0, 0) [.inr (some 163), .inl x, .inl p, .inl k] G (fun r G' => r = some (.inl (aKind s x p k)) ∧ rEnd G G' s) := by
  refine am_ok_of rfl (Nat.le_of_ble_eq_true rfl) ?_
  show am_Go w jR_kindAt d (0, 0) 0 [some (.inr (some 163)), some (.inl x), some (.inl p), some (.inl k), none] [] G _
  refine go_iload_n dR_kindAt_0 rfl rfl ?_
  refine go_iconst (nI 0) (by decide) dR_kindAt_1 ?_
  refine go_iconst (nI 5) (by decide) dR_kindAt_2 ?_
  refine go_cS (k' := (0, 0)) dR_kindAt_3 _ csR_123 stR_in rfl (okR_in0 (d := 0) w G x 5 (by decide)) (by omega) (by decide) (Nat.le_of_ble_eq_true rfl) (fun r G1 hr hn => ?_)
  obtain ⟨rfl, hG⟩ := hr
  rw [hG]
  clear hG hn
  refine go_if_eqB dR_kindAt_6 (tgt := 30) (by decide) (fun c6 => ?_) (fun c6 => ?_)
  · refine go_iconst (-1) (by decide) dR_kindAt_30 ?_
    refine go_ireturn rfl dR_kindAt_31 ?_
    first | exact ⟨by rw [aKind_o (Or.inl c6)], rEnd.rf hc⟩ | exact ⟨by rw [aKind_o (Or.inr ⟨c16, c27⟩)], rEnd.rf hc⟩
  · refine go_iload_n dR_kindAt_9 rfl rfl ?_
    refine go_iconst (-1) (by decide) dR_kindAt_10 ?_
    refine go_bipush (nI 7) (by decide) dR_kindAt_11 ?_
    refine go_cS (k' := (0, 0)) dR_kindAt_13 _ csR_123 stR_in rfl (okR_in (d := 0) w G k (-1) (nI 7)) (by omega) (by decide) (Nat.le_of_ble_eq_true rfl) (fun r G1 hr hn => ?_)
    obtain ⟨rfl, hG⟩ := hr
    rw [hG]
    clear hG hn
    refine go_if_neB dR_kindAt_16 (tgt := 32) (by decide) (fun c16 => ?_) (fun c16 => ?_)
    · obtain ⟨m, hm, rfl⟩ := bel_of c6 (by decide)
      first | exact R_kA w hd G s m p k hm (Or.inl c16) hS hc hv | exact R_kA w hd G s m p k hm (Or.inr c27) hS hc hv
    · refine go_iload_n dR_kindAt_19 rfl rfl ?_
      refine go_bipush (nI 10) (by decide) dR_kindAt_20 ?_
      refine go_bipush (nI 17) (by decide) dR_kindAt_22 ?_
      refine go_cS (k' := (0, 0)) dR_kindAt_24 _ csR_123 stR_in rfl (okR_in (d := 0) w G k (nI 10) (nI 17)) (by omega) (by decide) (Nat.le_of_ble_eq_true rfl) (fun r G1 hr hn => ?_)
      obtain ⟨rfl, hG⟩ := hr
      rw [hG]
      clear hG hn
      refine go_if_neB dR_kindAt_27 (tgt := 32) (by decide) (fun c27 => ?_) (fun c27 => ?_)
      · obtain ⟨m, hm, rfl⟩ := bel_of c6 (by decide)
        first | exact R_kA w hd G s m p k hm (Or.inl c16) hS hc hv | exact R_kA w hd G s m p k hm (Or.inr c27) hS hc hv
      · refine go_iconst (-1) (by decide) dR_kindAt_30 ?_
        refine go_ireturn rfl dR_kindAt_31 ?_
        first | exact ⟨by rw [aKind_o (Or.inl c6)], rEnd.rf hc⟩ | exact ⟨by rw [aKind_o (Or.inr ⟨c16, c27⟩)], rEnd.rf hc⟩
