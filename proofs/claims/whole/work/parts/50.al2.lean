theorem q_rem : ∀ q, q < 12 → nI q - nI q / nI 6 * nI 6 = nI (q % 6) := by decide +kernel
def oB (G G' : am_G) : Prop := oR (fun i => i = 163 ∨ (175 ≤ i ∧ i ≤ 181)) G G' ∧ ∀ k, k ≠ 18 → k ≠ 20 → k ≠ 21 → G'.2.1 163 k = G.2.1 163 k
theorem oB.rf {G : am_G} : oB G G := ⟨oR.rf, fun _ _ _ _ => rfl⟩
theorem oB.tr {G G1 G2 : am_G} (h1 : oB G G1) (h2 : oB G1 G2) : oB G G2 := ⟨h1.1.tr h2.1, fun k a b c => (h2.2 k a b c).trans (h1.2 k a b c)⟩
theorem oB.St {G G1 : am_G} (h : oB G G1) (hs : St0 G) : St0 G1 := h.1.St hs
theorem oJ.b {G G' : am_G} (h : oJ G G') : oB G G' := ⟨h.1.up (fun i hi => by omega), h.2⟩
theorem oB.s {G : am_G} {k : Nat} {x : Int32} : oB G (am_wi G 181 k x) := ⟨oR.wi (Or.inr ⟨by omega, by omega⟩), fun _ _ _ _ => by rw [wi_I (by decide)]⟩
theorem hldR.b {G G' : am_G} {v : Nat} {Q : Nat → mT} (h : hldR G v Q) (ho : oB G G') : hldR G' v Q := fun a ha => ⟨(h a ha).1.j (fun i h1 h2 => ho.1.2.2 i (by omega)), (h a ha).2⟩
theorem rS.b {G G' : am_G} {s : sT} (hs : rS G s) (ho : oB G G') : rS G' s := by
  refine ⟨by rw [ho.2 11 (by decide) (by decide) (by decide)]; exact hs.1, fun q hq => (hs.2.1 q hq).j (fun i h1 h2 => ho.1.2.2 i (by omega)), ?_⟩
  unfold rL
  rw [ho.2 41 (by decide) (by decide) (by decide), ho.2 38 (by decide) (by decide) (by decide), ho.2 34 (by decide) (by decide) (by decide), ho.2 37 (by decide) (by decide) (by decide), ho.2 39 (by decide) (by decide) (by decide), ho.2 40 (by decide) (by decide) (by decide), ho.1.2.2 191 (by omega)]
  exact hs.2.2
def cn6 (B : Nat → Bool) : Nat := (B 0).toNat + (B 1).toNat + (B 2).toNat + (B 3).toNat + (B 4).toNat + (B 5).toNat
theorem cn6_le {B : Nat → Bool} : cn6 B ≤ 6 := by
  have key : ∀ b : Bool, b.toNat ≤ 1 := fun b => by cases b <;> decide
  have k0 := key (B 0)
  have k1 := key (B 1)
  have k2 := key (B 2)
  have k3 := key (B 3)
  have k4 := key (B 4)
  have k5 := key (B 5)
  unfold cn6
  omega
theorem cn6_up {B : Nat → Bool} {c : Nat} (hc : c < 6) (h : B c = false) : cn6 (va_up B c true) = cn6 B + 1 := by
  unfold cn6
  rcases (show c = 0 ∨ c = 1 ∨ c = 2 ∨ c = 3 ∨ c = 4 ∨ c = 5 by omega) with e | e | e | e | e | e <;> subst e <;> rw [am_up_eq] <;> repeat rw [am_up_ne (by decide)]
  all_goals rw [h]
  all_goals simp only [Bool.toNat_true, Bool.toNat_false]
  all_goals omega
def srR (G : am_G) (B : Nat → Bool) : Prop := ∀ c, c < 6 → G.2.1 181 c = am_b (B c)
/-- what a sweep keeps: closed below a, and in a below k -/
def arI (Q : Nat → mT) (m a k c0 : Nat) (B : Nat → Bool) (mo : Bool) : Prop := B m = true ∧ (∀ c, c < 6 → B c = true → rch Q m c) ∧ c0 ≤ cn6 B ∧ (mo = true → c0 + 1 ≤ cn6 B) ∧ (mo = false → (∀ a', a' < a → B a' = true → ∀ b, clS Q a' b → B b = true) ∧ (B a = true → ∀ i, i < k → mO (Q a) i = 21 → B (aN (Q a) i) = true))
section Ar
variable {Q : Nat → mT} {m a k c0 : Nat} {B : Nat → Bool} {mo : Bool}
theorem arI.skip (h : arI Q m a k c0 B mo) (hs : mO (Q a) k = 21 → B (aN (Q a) k) = true) : arI Q m a (k + 1) c0 B mo :=
  ⟨h.1, h.2.1, h.2.2.1, h.2.2.2.1, fun e => ⟨(h.2.2.2.2 e).1, fun hb i hi ho => by
    by_cases e2 : i = k
    · rw [e2]; exact hs (e2 ▸ ho)
    · exact (h.2.2.2.2 e).2 hb i (by omega) ho⟩⟩
theorem arI.see (h : arI Q m a k c0 B mo) (ha : a < 6) (hk : k < mN (Q a)) (hb : B a = true) (ho : mO (Q a) k = 21) (h6 : aN (Q a) k < 6) (hn : B (aN (Q a) k) = false) : arI Q m a (k + 1) c0 (va_up B (aN (Q a) k) true) true := by
  obtain ⟨h1, h2, h3, h4, h5⟩ := h
  have hu := cn6_up h6 hn
  refine ⟨?_, fun c hc hB => ?_, by omega, fun _ => by omega, (fun e => by cases e)⟩
  · by_cases e : m = aN (Q a) k
    · rw [e, am_up_eq]
    · rw [am_up_ne e]; exact h1
  · by_cases e : c = aN (Q a) k
    · rw [e]; exact (h2 a ha hb).st ha ⟨k, hk, ho, rfl⟩
    · rw [am_up_ne e] at hB; exact h2 c hc hB
theorem arI.next (h : arI Q m a k c0 B mo) (hk : B a = true → k = mN (Q a)) : arI Q m (a + 1) 0 c0 B mo :=
  ⟨h.1, h.2.1, h.2.2.1, h.2.2.2.1, fun e => ⟨fun a' ha' hb b hc => by
    by_cases e2 : a' = a
    · subst e2
      obtain ⟨i, hi, ho, hb2⟩ := hc
      rw [← hb2]
      exact (h.2.2.2.2 e).2 hb i (by rw [hk hb]; exact hi) ho
    · exact (h.2.2.2.2 e).1 a' (by omega) hb b hc, fun _ i hi => absurd hi (Nat.not_lt_zero i)⟩⟩
theorem arI.done (h : arI Q m 6 k c0 B false) {c : Nat} (hc : c < 6) : B c = true ↔ rch Q m c :=
  ⟨h.2.1 c hc, fun hr => hr (fun c => B c = true) h.1 (fun a b ha hx hcl => (h.2.2.2.2 rfl).1 a ha hx b hcl)⟩
theorem arI.again (h : arI Q m a k c0 B mo) : arI Q m 0 0 (cn6 B) B false := ⟨h.1, h.2.1, Nat.le_refl _, (fun e => by cases e), fun _ => ⟨fun a' ha' => absurd ha' (Nat.not_lt_zero a'), fun _ i hi => absurd hi (Nat.not_lt_zero i)⟩⟩
end Ar
theorem srR.up {G : am_G} {B : Nat → Bool} {c : Nat} (h : srR G B) : srR (am_wi G 181 c (am_b true)) (va_up B c true) := fun q hq => by
  rw [wi_at]
  by_cases e : q = c
  · rw [if_pos e, e, am_up_eq]
  · rw [if_neg e, am_up_ne e]; exact h q hq

set_option maxRecDepth 100000 in
theorem R_arA (w : am_W) {d : Nat} {P : Option am_V → am_G → Prop} (G0 : am_G) (v m : Nat) (Q : Nat → mT) (hv : v < 2) (hm : m < 6) (K : ∀ (G : am_G) lk, St0 G → oB G0 G → srR G (fun c => decide (c = m)) → am_Go w jR_allRight d (0, 0) 33 [some (.inr (some 163)), some (.inl (nI (6 * v + m))), lk, none, none, none] [] G P) :
    ∀ (r k : Nat) (G : am_G), k + r = 6 → St0 G → oB G0 G → (∀ c, c < k → G.2.1 181 c = am_b (decide (c = m))) → am_Go w jR_allRight d (0, 0) 2 [some (.inr (some 163)), some (.inl (nI (6 * v + m))), some (.inl (nI k)), none, none, none] [] G P := by
  intro r
  induction r with
  | zero =>
    intro k G hk hS ho h1
    refine go_iload_n dR_allRight_2 rfl rfl ?_
    refine go_bipush (nI 6) (by decide) dR_allRight_3 ?_
    refine go_icmp_geN (by omega) (by omega) dR_allRight_5 (tgt := 33) (by decide) (fun c1 => ?_) (fun c1 => absurd c1 (by omega))
    exact K G _ hS ho (fun c hc => h1 c (by omega))
  | succ r ih =>
    intro k G hk hS ho h1
    refine go_iload_n dR_allRight_2 rfl rfl ?_
    refine go_bipush (nI 6) (by decide) dR_allRight_3 ?_
    refine go_icmp_geN (by omega) (by omega) dR_allRight_5 (tgt := 33) (by decide) (fun c1 => absurd c1 (by omega)) (fun c1 => ?_)
    refine go_aload_n dR_allRight_8 rfl rfl ?_
    refine go_getO (a := 181) dR_allRight_9 flR_62 rfl (hS.s sh_163) (hS.r rt_seen) ?_
    refine go_iload_n dR_allRight_12 rfl rfl ?_
    refine go_iload_n dR_allRight_13 rfl rfl ?_
    refine go_iload_n dR_allRight_14 rfl rfl ?_
    refine go_bipush (nI 6) (by decide) dR_allRight_15 ?_
    refine go_irem (by decide) dR_allRight_17 ?_
    rw [q_rem _ (by omega), show (6 * v + m) % 6 = m by omega]
    refine go_icmp_neN (by omega) (by omega) dR_allRight_18 (tgt := 25) (by decide) (fun c18 => ?_) (fun c18 => ?_)
    · refine go_iconst (am_b false) (by decide) dR_allRight_25 ?_
      refine go_bastoreN (am_b_and1 _) (hS.s sh_181) (by omega) (by decide) dR_allRight_26 ?_
      first | refine go_inc dR_allRight_27 rfl ?_ | refine go_iinc dR_allRight_27 rfl ?_
      refine go_goto dR_allRight_30 (tgt := 2) (by decide) ?_
      refine ih (k + 1) _ (by omega) hS (ho.tr oB.s) (fun c hc => ?_)
      rw [wi_at]
      by_cases e : c = k
      · rw [if_pos e, e]; first | rw [decide_eq_true c18] | rw [decide_eq_false c18]
      · rw [if_neg e]; exact h1 c (by omega)
    · refine go_iconst (am_b true) (by decide) dR_allRight_21 ?_
      refine go_goto dR_allRight_22 (tgt := 26) (by decide) ?_
      refine go_bastoreN (am_b_and1 _) (hS.s sh_181) (by omega) (by decide) dR_allRight_26 ?_
      first | refine go_inc dR_allRight_27 rfl ?_ | refine go_iinc dR_allRight_27 rfl ?_
      refine go_goto dR_allRight_30 (tgt := 2) (by decide) ?_
      refine ih (k + 1) _ (by omega) hS (ho.tr oB.s) (fun c hc => ?_)
      rw [wi_at]
      by_cases e : c = k
      · rw [if_pos e, e]; first | rw [decide_eq_true c18] | rw [decide_eq_false c18]
      · rw [if_neg e]; exact h1 c (by omega)
set_option maxRecDepth 100000 in
theorem R_ar3 (w : am_W) {d : Nat} {P : Option am_V → am_G → Prop} (G0 : am_G) (v m : Nat) (Q : Nat → mT) (hv : v < 2) (hm : m < 6) (a c0 : Nat) (ha : a < 6) (K : ∀ (G : am_G) (B : Nat → Bool) (mo : Bool) lk, St0 G → oB G0 G → hldR G v Q → srR G B → arI Q m (a + 1) 0 c0 B mo → am_Go w jR_allRight d (0, 0) 153 [some (.inr (some 163)), some (.inl (nI (6 * v + m))), some (.inl (am_b mo)), some (.inl (nI a)), some (.inl (nI (6 * v + a))), lk] [] G P) :
    ∀ (r k : Nat) (G : am_G) (B : Nat → Bool) (mo : Bool), k + r = mN (Q a) → St0 G → oB G0 G → hldR G v Q → srR G B → arI Q m a k c0 B mo → am_Go w jR_allRight d (0, 0) 63 [some (.inr (some 163)), some (.inl (nI (6 * v + m))), some (.inl (am_b mo)), some (.inl (nI a)), some (.inl (nI (6 * v + a))), some (.inl (nI k))] [] G P := by
  intro r
  induction r with
  | zero =>
    intro k G B mo hk hS ho hR hB hI
    have hN := (hR a ha).1.1.1
    have hn6 := (hR a ha).2.1
    refine go_iload dR_allRight_63 rfl ?_
    refine go_aload_n dR_allRight_65 rfl rfl ?_
    refine go_getO (a := 167) dR_allRight_66 flR_19 rfl (hS.s sh_163) (hS.r rt_many) ?_
    refine go_iload dR_allRight_69 rfl ?_
    refine go_ialV (hS.s sh_167) (by omega) (by decide) hN dR_allRight_71 ?_
    refine go_icmp_geN (by omega) (by omega) dR_allRight_72 (tgt := 153) (by decide) (fun c1 => ?_) (fun c1 => absurd c1 (by omega))
    exact K G B mo _ hS ho hR hB (hI.next (fun _ => by omega))
  | succ r ih =>
    intro k G B mo hk hS ho hR hB hI
    have hN := (hR a ha).1.1.1
    have hmv := (hR a ha).2
    have hn6 := hmv.1
    have hkn : k < mN (Q a) := by omega
    have hBa := hB a ha
    obtain ⟨m1, m2, m3⟩ := (hR a ha).1.2.1 k hkn
    have hop := (hmv.2.2.2.1 k hkn).1
    refine go_iload dR_allRight_63 rfl ?_
    refine go_aload_n dR_allRight_65 rfl rfl ?_
    refine go_getO (a := 167) dR_allRight_66 flR_19 rfl (hS.s sh_163) (hS.r rt_many) ?_
    refine go_iload dR_allRight_69 rfl ?_
    refine go_ialV (hS.s sh_167) (by omega) (by decide) hN dR_allRight_71 ?_
    refine go_icmp_geN (by omega) (by omega) dR_allRight_72 (tgt := 153) (by decide) (fun c1 => absurd c1 (by omega)) (fun c1 => ?_)
    refine go_aload_n dR_allRight_75 rfl rfl ?_
    refine go_getO (a := 181) dR_allRight_76 flR_62 rfl (hS.s sh_163) (hS.r rt_seen) ?_
    refine go_iload_n dR_allRight_79 rfl rfl ?_
    refine go_balV (hS.s sh_181) (by omega) (by decide) hBa dR_allRight_80 ?_
    refine go_if_eqB dR_allRight_81 (tgt := 153) (by decide) (fun c81 => ?_) (fun c81 => ?_)
    · exact K G B mo _ hS ho hR hB (hI.next (fun e => by rw [c81] at e; cases e))
    · refine go_aload_n dR_allRight_84 rfl rfl ?_
      refine go_getO (a := 164) dR_allRight_85 flR_7 rfl (hS.s sh_163) (hS.r rt_op) ?_
      refine go_bipush (nI 60) (by decide) dR_allRight_88 ?_
      refine go_iload dR_allRight_90 rfl ?_
      first | refine go_imulN dR_allRight_92 ?_ | refine go_imul dR_allRight_92 ?_
      refine go_iload dR_allRight_93 rfl ?_
      first | refine go_iaddN dR_allRight_95 ?_ | refine go_iadd dR_allRight_95 ?_
      refine go_ialV (hS.s sh_164) (by omega) (by decide) m1 dR_allRight_96 ?_
      refine go_bipush (nI 21) (by decide) dR_allRight_97 ?_
      refine go_icmp_neN (by omega) (by decide) dR_allRight_99 (tgt := 147) (by decide) (fun c99 => ?_) (fun c99 => ?_)
      · refine go_inc dR_allRight_147 rfl ?_
        refine go_goto dR_allRight_150 (tgt := 63) (by decide) ?_
        first | exact ih (k + 1) G B mo (by omega) hS ho hR hB (hI.skip (fun e => absurd e c99)) | exact ih (k + 1) G B mo (by omega) hS ho hR hB (hI.skip (fun _ => c120)) | exact ih (k + 1) _ _ true (by omega) hS (ho.tr oB.s) (hR.b oB.s) hB.up (hI.see ha hkn c81 c99 e2 c120)
      · obtain ⟨e1, e2⟩ := hmv.call hkn c99
        have hBc := hB _ e2
        refine go_aload_n dR_allRight_102 rfl rfl ?_
        refine go_getO (a := 181) dR_allRight_103 flR_62 rfl (hS.s sh_163) (hS.r rt_seen) ?_
        refine go_aload_n dR_allRight_106 rfl rfl ?_
        refine go_getO (a := 165) dR_allRight_107 flR_13 rfl (hS.s sh_163) (hS.r rt_one) ?_
        refine go_bipush (nI 60) (by decide) dR_allRight_110 ?_
        refine go_iload dR_allRight_112 rfl ?_
        first | refine go_imulN dR_allRight_114 ?_ | refine go_imul dR_allRight_114 ?_
        refine go_iload dR_allRight_115 rfl ?_
        first | refine go_iaddN dR_allRight_117 ?_ | refine go_iadd dR_allRight_117 ?_
        refine go_ialV (hS.s sh_165) (by omega) (by decide) (m2.trans e1) dR_allRight_118 ?_
        refine go_balV (hS.s sh_181) (by omega) (by decide) hBc dR_allRight_119 ?_
        refine go_if_eqB dR_allRight_120 (tgt := 126) (by decide) (fun c120 => ?_) (fun c120 => ?_)
        · refine go_aload_n dR_allRight_126 rfl rfl ?_
          refine go_getO (a := 181) dR_allRight_127 flR_62 rfl (hS.s sh_163) (hS.r rt_seen) ?_
          refine go_aload_n dR_allRight_130 rfl rfl ?_
          refine go_getO (a := 165) dR_allRight_131 flR_13 rfl (hS.s sh_163) (hS.r rt_one) ?_
          refine go_bipush (nI 60) (by decide) dR_allRight_134 ?_
          refine go_iload dR_allRight_136 rfl ?_
          first | refine go_imulN dR_allRight_138 ?_ | refine go_imul dR_allRight_138 ?_
          refine go_iload dR_allRight_139 rfl ?_
          first | refine go_iaddN dR_allRight_141 ?_ | refine go_iadd dR_allRight_141 ?_
          refine go_ialV (hS.s sh_165) (by omega) (by decide) (m2.trans e1) dR_allRight_142 ?_
          refine go_iconst (am_b true) (by decide) dR_allRight_143 ?_
          refine go_bastoreN (am_b_and1 true) (hS.s sh_181) (by omega) (by decide) dR_allRight_144 ?_
          refine go_iconst (am_b true) (by decide) dR_allRight_145 ?_
          refine go_istore_n dR_allRight_146 rfl (Nat.le_of_ble_eq_true rfl) ?_
          refine go_inc dR_allRight_147 rfl ?_
          refine go_goto dR_allRight_150 (tgt := 63) (by decide) ?_
          first | exact ih (k + 1) G B mo (by omega) hS ho hR hB (hI.skip (fun e => absurd e c99)) | exact ih (k + 1) G B mo (by omega) hS ho hR hB (hI.skip (fun _ => c120)) | exact ih (k + 1) _ _ true (by omega) hS (ho.tr oB.s) (hR.b oB.s) hB.up (hI.see ha hkn c81 c99 e2 c120)
        · refine go_goto dR_allRight_123 (tgt := 147) (by decide) ?_
          refine go_inc dR_allRight_147 rfl ?_
          refine go_goto dR_allRight_150 (tgt := 63) (by decide) ?_
          first | exact ih (k + 1) G B mo (by omega) hS ho hR hB (hI.skip (fun e => absurd e c99)) | exact ih (k + 1) G B mo (by omega) hS ho hR hB (hI.skip (fun _ => c120)) | exact ih (k + 1) _ _ true (by omega) hS (ho.tr oB.s) (hR.b oB.s) hB.up (hI.see ha hkn c81 c99 e2 c120)
set_option maxRecDepth 100000 in
theorem R_ar2 (w : am_W) {d : Nat} {P : Option am_V → am_G → Prop} (G0 : am_G) (v m : Nat) (Q : Nat → mT) (hv : v < 2) (hm : m < 6) (c0 : Nat) (K : ∀ (G : am_G) (B : Nat → Bool) (mo : Bool) l3 l4 l5, St0 G → oB G0 G → hldR G v Q → srR G B → arI Q m 6 0 c0 B mo → am_Go w jR_allRight d (0, 0) 159 [some (.inr (some 163)), some (.inl (nI (6 * v + m))), some (.inl (am_b mo)), l3, l4, l5] [] G P) :
    ∀ (r a : Nat) (G : am_G) (B : Nat → Bool) (mo : Bool) (l4 l5 : Option am_V), a + r = 6 → St0 G → oB G0 G → hldR G v Q → srR G B → arI Q m a 0 c0 B mo → am_Go w jR_allRight d (0, 0) 43 [some (.inr (some 163)), some (.inl (nI (6 * v + m))), some (.inl (am_b mo)), some (.inl (nI a)), l4, l5] [] G P := by
  intro r
  induction r with
  | zero =>
    intro a G B mo l4 l5 hk hS ho hR hB hI
    refine go_iload_n dR_allRight_43 rfl rfl ?_
    refine go_bipush (nI 6) (by decide) dR_allRight_44 ?_
    refine go_icmp_geN (by omega) (by omega) dR_allRight_46 (tgt := 159) (by decide) (fun c1 => ?_) (fun c1 => absurd c1 (by omega))
    rw [show a = 6 by omega] at hI
    exact K G B mo _ _ _ hS ho hR hB hI
  | succ r ih =>
    intro a G B mo l4 l5 hk hS ho hR hB hI
    have ha : a < 6 := by omega
    refine go_iload_n dR_allRight_43 rfl rfl ?_
    refine go_bipush (nI 6) (by decide) dR_allRight_44 ?_
    refine go_icmp_geN (by omega) (by omega) dR_allRight_46 (tgt := 159) (by decide) (fun c1 => absurd c1 (by omega)) (fun c1 => ?_)
    refine go_iload_n dR_allRight_49 rfl rfl ?_
    refine go_bipush (nI 6) (by decide) dR_allRight_50 ?_
    refine go_idiv (by decide) dR_allRight_52 ?_
    rw [q_div _ (by omega)]
    refine go_bipush (nI 6) (by decide) dR_allRight_53 ?_
    first | refine go_imulN dR_allRight_55 ?_ | refine go_imul dR_allRight_55 ?_
    refine go_iload_n dR_allRight_56 rfl rfl ?_
    refine go_iaddN dR_allRight_57 ?_
    rw [show (6 * v + m) / 6 * 6 + a = 6 * v + a by omega]
    refine go_istore dR_allRight_58 (Nat.le_of_ble_eq_true rfl) ?_
    refine go_iconst (nI 0) (by decide) dR_allRight_60 ?_
    refine go_istore dR_allRight_61 (Nat.le_of_ble_eq_true rfl) ?_
    refine R_ar3 w G0 v m Q hv hm a c0 ha (fun X B2 mo2 lk2 SX oX RX BX IX => ?_) (mN (Q a)) 0 G B mo (by omega) hS ho hR hB hI
    refine go_inc dR_allRight_153 rfl ?_
    refine go_goto dR_allRight_156 (tgt := 43) (by decide) ?_
    exact ih (a + 1) X B2 mo2 _ _ (by omega) SX oX RX BX IX
set_option maxRecDepth 100000 in
theorem R_ar1 (w : am_W) {d : Nat} {P : Option am_V → am_G → Prop} (G0 : am_G) (v m : Nat) (Q : Nat → mT) (hv : v < 2) (hm : m < 6) (K : ∀ (G : am_G) (B : Nat → Bool) l2 l3 l4 l5, St0 G → oB G0 G → hldR G v Q → srR G B → (∀ c, c < 6 → (B c = true ↔ rch Q m c)) → am_Go w jR_allRight d (0, 0) 162 [some (.inr (some 163)), some (.inl (nI (6 * v + m))), l2, l3, l4, l5] [] G P) :
    ∀ (n : Nat) (G : am_G) (B : Nat → Bool) (c0 a k : Nat) (l3 l4 l5 : Option am_V), 6 ≤ cn6 B + n → St0 G → oB G0 G → hldR G v Q → srR G B → arI Q m a k c0 B true → am_Go w jR_allRight d (0, 0) 35 [some (.inr (some 163)), some (.inl (nI (6 * v + m))), some (.inl (am_b true)), l3, l4, l5] [] G P := by
  intro n
  induction n with
  | zero =>
    intro G B c0 a k l3 l4 l5 hn hS ho hR hB hI
    refine go_iload_n dR_allRight_35 rfl rfl ?_
    refine go_if_eqB dR_allRight_36 (tgt := 162) (by decide) (fun c1 => absurd c1 (by decide)) (fun c1 => ?_)
    refine go_iconst (am_b false) (by decide) dR_allRight_39 ?_
    refine go_istore_n dR_allRight_40 rfl (Nat.le_of_ble_eq_true rfl) ?_
    refine go_iconst (nI 0) (by decide) dR_allRight_41 ?_
    refine go_istore_n dR_allRight_42 rfl (Nat.le_of_ble_eq_true rfl) ?_
    refine R_ar2 w G0 v m Q hv hm (cn6 B) (fun X B2 mo2 k3 k4 k5 SX oX RX BX IX => ?_) 6 0 G B false _ _ rfl hS ho hR hB hI.again
    refine go_goto dR_allRight_159 (tgt := 35) (by decide) ?_
    cases mo2 with
    | true => exact absurd (IX.2.2.2.1 rfl) (by have := cn6_le (B := B2); omega)
    | false =>
      refine go_iload_n dR_allRight_35 rfl rfl ?_
      refine go_if_eqB dR_allRight_36 (tgt := 162) (by decide) (fun c1 => ?_) (fun c1 => absurd c1 (by decide))
      exact K X B2 _ _ _ _ SX oX RX BX (fun c hc => IX.done hc)
  | succ n ih =>
    intro G B c0 a k l3 l4 l5 hn hS ho hR hB hI
    refine go_iload_n dR_allRight_35 rfl rfl ?_
    refine go_if_eqB dR_allRight_36 (tgt := 162) (by decide) (fun c1 => absurd c1 (by decide)) (fun c1 => ?_)
    refine go_iconst (am_b false) (by decide) dR_allRight_39 ?_
    refine go_istore_n dR_allRight_40 rfl (Nat.le_of_ble_eq_true rfl) ?_
    refine go_iconst (nI 0) (by decide) dR_allRight_41 ?_
    refine go_istore_n dR_allRight_42 rfl (Nat.le_of_ble_eq_true rfl) ?_
    refine R_ar2 w G0 v m Q hv hm (cn6 B) (fun X B2 mo2 k3 k4 k5 SX oX RX BX IX => ?_) 6 0 G B false _ _ rfl hS ho hR hB hI.again
    refine go_goto dR_allRight_159 (tgt := 35) (by decide) ?_
    cases mo2 with
    | true => exact ih X B2 (cn6 B) 6 0 _ _ _ (by have := IX.2.2.2.1 rfl; omega) SX oX RX BX IX
    | false =>
      refine go_iload_n dR_allRight_35 rfl rfl ?_
      refine go_if_eqB dR_allRight_36 (tgt := 162) (by decide) (fun c1 => ?_) (fun c1 => absurd c1 (by decide))
      exact K X B2 _ _ _ _ SX oX RX BX (fun c hc => IX.done hc)
set_option maxRecDepth 100000 in
theorem R_ar4 (w : am_W) {d : Nat} (hd : 4 ≤ d) (G0 : am_G) (v m : Nat) (Q : Nat → mT) (hv : v < 2) (hm : m < 6) (B : Nat → Bool) (hB0 : ∀ c, c < 6 → (B c = true ↔ rch Q m c)) : ∀ (r k : Nat) (G : am_G) (l2 l4 l5 : Option am_V), k + r = 6 → St0 G → oB G0 G → hldR G v Q → srR G B → (∀ c, c < k → rch Q m c → ∃ S, fLeast (gP Q) (Q c) S) → am_Go w jR_allRight d (0, 0) 164 [some (.inr (some 163)), some (.inl (nI (6 * v + m))), l2, some (.inl (nI k)), l4, l5] [] G (fun r G' => ∃ b : Bool, r = some (.inl (am_b b)) ∧ (b = true ↔ sndP Q m) ∧ oB G0 G') := by
  intro r
  induction r with
  | zero =>
    intro k G l2 l4 l5 hk hS ho hR hB hs
    refine go_iload_n dR_allRight_164 rfl rfl ?_
    refine go_bipush (nI 6) (by decide) dR_allRight_165 ?_
    refine go_icmp_geN (by omega) (by omega) dR_allRight_167 (tgt := 215) (by decide) (fun c1 => ?_) (fun c1 => absurd c1 (by omega))
    refine go_iconst (nI 1) (by decide) dR_allRight_215 ?_
    refine go_zreturn rfl (by first | exact Or.inl rfl | exact Or.inr rfl | exact am_b_01 _) dR_allRight_216 ?_
    exact ⟨true, rfl, ⟨fun _ c hc => hs c (by omega), fun _ => rfl⟩, ho⟩
  | succ r ih =>
    intro k G l2 l4 l5 hk hS ho hR hB hs
    have hk6 : k < 6 := by omega
    have hBk := hB k hk6
    refine go_iload_n dR_allRight_164 rfl rfl ?_
    refine go_bipush (nI 6) (by decide) dR_allRight_165 ?_
    refine go_icmp_geN (by omega) (by omega) dR_allRight_167 (tgt := 215) (by decide) (fun c1 => absurd c1 (by omega)) (fun c1 => ?_)
    refine go_aload_n dR_allRight_170 rfl rfl ?_
    refine go_getO (a := 181) dR_allRight_171 flR_62 rfl (hS.s sh_163) (hS.r rt_seen) ?_
    refine go_iload_n dR_allRight_174 rfl rfl ?_
    refine go_balV (hS.s sh_181) (by omega) (by decide) hBk dR_allRight_175 ?_
    refine go_if_eqB dR_allRight_176 (tgt := 195) (by decide) (fun c176 => ?_) (fun c176 => ?_)
    · refine go_iconst (am_b true) (by decide) dR_allRight_195 ?_
      refine go_goto dR_allRight_196 (tgt := 200) (by decide) ?_
      refine go_istore dR_allRight_200 (Nat.le_of_ble_eq_true rfl) ?_
      refine go_iload dR_allRight_202 rfl ?_
      refine go_if_neB dR_allRight_204 (tgt := 209) (by decide) (fun c1 => ?_) (fun c1 => absurd c1 (by decide))
      refine go_inc dR_allRight_209 rfl ?_
      refine go_goto dR_allRight_212 (tgt := 164) (by decide) ?_
      first | exact ih (k + 1) G _ _ _ (by omega) hS ho hR hB (as_n hs (fun h => absurd ((hB0 k hk6).mpr h) (by rw [c176]; decide))) | exact ih (k + 1) X _ _ _ (by omega) (o1.St hS) (ho.tr o1.b) (hR.j o1) (fun c hc => by rw [o1.1.2.2 181 (by omega)]; exact hB c hc) (as_n hs (fun _ => ⟨_, (L1 (nbT c192)).1⟩))
    · refine go_aload_n dR_allRight_179 rfl rfl ?_
      refine go_iload_n dR_allRight_180 rfl rfl ?_
      refine go_bipush (nI 6) (by decide) dR_allRight_181 ?_
      refine go_idiv (by decide) dR_allRight_183 ?_
      rw [q_div _ (by omega)]
      refine go_bipush (nI 6) (by decide) dR_allRight_184 ?_
      first | refine go_imulN dR_allRight_186 ?_ | refine go_imul dR_allRight_186 ?_
      refine go_iload_n dR_allRight_187 rfl rfl ?_
      refine go_iaddN dR_allRight_188 ?_
      rw [show (6 * v + m) / 6 * 6 + k = 6 * v + k by omega]
      refine go_cV (k' := (0, 0)) dR_allRight_189 _ csR_188 (hS.s sh_163) rfl imR_isRight seR_isRight rfl (okR_isRight (d := 3) w (by decide) G v k Q hv hk6 hS hR) (by omega) (by decide) (Nat.le_of_ble_eq_true rfl) (fun r1 X hr1 hn1 => ?_)
      obtain ⟨t, rfl, I1, o1, L1, N1⟩ := hr1
      refine go_if_eqB dR_allRight_192 (tgt := 199) (by decide) (fun c192 => ?_) (fun c192 => ?_)
      · refine go_iconst (am_b false) (by decide) dR_allRight_199 ?_
        refine go_istore dR_allRight_200 (Nat.le_of_ble_eq_true rfl) ?_
        refine go_iload dR_allRight_202 rfl ?_
        refine go_if_neB dR_allRight_204 (tgt := 209) (by decide) (fun c1 => absurd c1 (by decide)) (fun c1 => ?_)
        refine go_iconst (am_b false) (by decide) dR_allRight_207 ?_
        refine go_zreturn rfl (am_b_01 _) dR_allRight_208 ?_
        exact ⟨false, rfl, ⟨fun h => (by cases h), fun h => absurd (h k hk6 ((hB0 k hk6).mp c176)) (fun ⟨S, hS⟩ => N1 (nbF c192) S hS.1)⟩, ho.tr o1.b⟩
      · refine go_iconst (am_b true) (by decide) dR_allRight_195 ?_
        refine go_goto dR_allRight_196 (tgt := 200) (by decide) ?_
        refine go_istore dR_allRight_200 (Nat.le_of_ble_eq_true rfl) ?_
        refine go_iload dR_allRight_202 rfl ?_
        refine go_if_neB dR_allRight_204 (tgt := 209) (by decide) (fun c1 => ?_) (fun c1 => absurd c1 (by decide))
        refine go_inc dR_allRight_209 rfl ?_
        refine go_goto dR_allRight_212 (tgt := 164) (by decide) ?_
        first | exact ih (k + 1) G _ _ _ (by omega) hS ho hR hB (as_n hs (fun h => absurd ((hB0 k hk6).mpr h) (by rw [c176]; decide))) | exact ih (k + 1) X _ _ _ (by omega) (o1.St hS) (ho.tr o1.b) (hR.j o1) (fun c hc => by rw [o1.1.2.2 181 (by omega)]; exact hB c hc) (as_n hs (fun _ => ⟨_, (L1 (nbT c192)).1⟩))
set_option maxRecDepth 100000 in
theorem okR_allRight (w : am_W) {d : Nat} (hd : 4 ≤ d) (G : am_G) (v m : Nat) (Q : Nat → mT) (hv : v < 2) (hm : m < 6) (hS : St0 G) (hR : hldR G v Q) : am_Ok w jR_allRight d (0, 0) [.inr (some 163), .inl (nI (6 * v + m))] G (fun r G' => ∃ b : Bool, r = some (.inl (am_b b)) ∧ (b = true ↔ sndP Q m) ∧ oB G G') := by
  refine am_ok_of rfl (Nat.le_of_ble_eq_true rfl) ?_
  show am_Go w jR_allRight d (0, 0) 0 [some (.inr (some 163)), some (.inl (nI (6 * v + m))), none, none, none, none] [] G _
  refine go_iconst (nI 0) (by decide) dR_allRight_0 ?_
  refine go_istore_n dR_allRight_1 rfl (Nat.le_of_ble_eq_true rfl) ?_
  refine R_arA w G v m Q hv hm (fun X lk SX oX BX => ?_) 6 0 G rfl hS oB.rf (fun c hc => absurd hc (by omega))
  have RX := hR.b oX
  refine go_iconst (am_b true) (by decide) dR_allRight_33 ?_
  refine go_istore_n dR_allRight_34 rfl (Nat.le_of_ble_eq_true rfl) ?_
  refine R_ar1 w G v m Q hv hm (fun Y B l2 l3 l4 l5 SY oY RY BY IY => ?_) 6 X (fun c => decide (c = m)) 0 0 0 _ _ _ (by omega) SX oX RX BX ⟨decide_eq_true rfl, fun c _ h => (by rw [of_decide_eq_true h]; exact rch.rf), Nat.zero_le _, fun _ => ?_, (fun e => by cases e)⟩
  · refine go_iconst (nI 0) (by decide) dR_allRight_162 ?_
    refine go_istore_n dR_allRight_163 rfl (Nat.le_of_ble_eq_true rfl) ?_
    exact R_ar4 w hd G v m Q hv hm B IY 6 0 Y _ _ _ rfl SY oY RY BY (fun c hc => absurd hc (by omega))
  · rcases (show m = 0 ∨ m = 1 ∨ m = 2 ∨ m = 3 ∨ m = 4 ∨ m = 5 by omega) with e | e | e | e | e | e <;> rw [e] <;> decide
