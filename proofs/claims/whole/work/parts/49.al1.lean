theorem go_irem {w : am_W} {j d : Nat} {k : Nat × Nat} {pc : Nat} {L : List (Option am_V)} {st : List am_V} {G : am_G} {P : Option am_V → am_G → Prop} {x y : Int32} (hne : ¬ y = 0) (h : decode (am_by j) pc = .ok (.irem, 1)) (kk : am_Go w j d k (pc + 1) L (.inl (x - x / y * y) :: st) G P) : am_Go w j d k pc L (.inl y :: .inl x :: st) G P :=
  go_pure (fun _ _ _ _ _ _ _ _ _ _ _ _ _ _ _ _ _ hx hb q => lv_irem hx hb h hne q) (fun _ v => v.tl.tl.i) kk
/-- method a has a CALL of b -/
def clS (Q : Nat → mT) (a b : Nat) : Prop := ∃ i, i < mN (Q a) ∧ mO (Q a) i = 21 ∧ aN (Q a) i = b
def rch (Q : Nat → mT) (m c : Nat) : Prop := ∀ X : Nat → Prop, X m → (∀ a b, a < 6 → X a → clS Q a b → X b) → X c
theorem rch.rf {Q : Nat → mT} {m : Nat} : rch Q m m := fun _ h _ => h
theorem rch.st {Q : Nat → mT} {m a b : Nat} (h : rch Q m a) (ha : a < 6) (hc : clS Q a b) : rch Q m b := fun X h1 h2 => h2 a b ha (h X h1 h2) hc
/-- every method that is called from m is right -/
def sndP (Q : Nat → mT) (m : Nat) : Prop := ∀ c, c < 6 → rch Q m c → ∃ S, fLeast (gP Q) (Q c) S
set_option maxRecDepth 100000 in
theorem b_has : ∀ w, w < 64 → ∀ c, c < 6 → decide (¬ ((nI w >>> (nI c &&& 31)) &&& nI 1 = 0)) = w.testBit c := by decide +kernel
theorem b_shl : ∀ c, c < 6 → nI 1 <<< (nI c &&& 31) = nI (2 ^ c) := by decide +kernel
set_option maxRecDepth 100000 in
theorem b_or : ∀ x, x < 64 → ∀ y, y < 64 → nI x ||| nI y = nI (x ||| y) := by decide +kernel
theorem or_64 {x y : Nat} (hx : x < 64) (hy : y < 64) : x ||| y < 64 := Nat.or_lt_two_pow (n := 6) hx hy
theorem pw_64 {c : Nat} (hc : c < 6) : 2 ^ c < 64 := by
  show 2 ^ c < 2 ^ 6
  exact Nat.pow_lt_pow_right (show 1 < 2 by decide) hc
def clB (M : mT) : Nat → Nat
  | 0 => 0
  | n + 1 => if mO M n = 21 then clB M n ||| 2 ^ aN M n else clB M n
theorem clB_64 {M : mT} (hv : mV M) : ∀ n, n ≤ mN M → clB M n < 64
  | 0 => fun _ => by show 0 < 64; decide
  | n + 1 => fun hn => by
    have ih := clB_64 hv n (by omega)
    show (if mO M n = 21 then clB M n ||| 2 ^ aN M n else clB M n) < 64
    split
    · rename_i h; exact or_64 ih (pw_64 (hv.call (by omega) h).2)
    · exact ih
theorem clB_bit {M : mT} {b : Nat} : ∀ n, (clB M n).testBit b = true ↔ ∃ i, i < n ∧ mO M i = 21 ∧ aN M i = b
  | 0 => by
    constructor
    · intro h; rw [show clB M 0 = 0 from rfl, Nat.zero_testBit] at h; cases h
    · rintro ⟨i, hi, -⟩; omega
  | n + 1 => by
    have ih := clB_bit (M := M) (b := b) n
    by_cases h : mO M n = 21
    · have e : clB M (n + 1) = clB M n ||| 2 ^ aN M n := if_pos h
      rw [e, Nat.testBit_or, Bool.or_eq_true, ih, Nat.testBit_two_pow]
      constructor
      · rintro (⟨i, hi, h1, h2⟩ | h2)
        · exact ⟨i, by omega, h1, h2⟩
        · exact ⟨n, by omega, h, of_decide_eq_true h2⟩
      · rintro ⟨i, hi, h1, h2⟩
        by_cases e2 : i = n
        · subst e2; exact Or.inr (decide_eq_true h2)
        · exact Or.inl ⟨i, by omega, h1, h2⟩
    · have e : clB M (n + 1) = clB M n := if_neg h
      rw [e, ih]
      constructor
      · rintro ⟨i, hi, h1, h2⟩; exact ⟨i, by omega, h1, h2⟩
      · rintro ⟨i, hi, h1, h2⟩
        by_cases e2 : i = n
        · subst e2; exact absurd h1 h
        · exact ⟨i, by omega, h1, h2⟩
/-- one round: from what is known -/
def clR2 (Q : Nat → mT) (kn w : Nat) : Nat → Nat
  | 0 => w
  | c + 1 => if kn.testBit c = true then clR2 Q kn w c ||| clB (Q c) (mN (Q c)) else clR2 Q kn w c
theorem clR2_64 {Q : Nat → mT} {kn w : Nat} (hw : w < 64) (hv : ∀ c, c < 6 → mV (Q c)) : ∀ n, n ≤ 6 → clR2 Q kn w n < 64
  | 0 => fun _ => hw
  | n + 1 => fun hn => by
    have ih := clR2_64 (kn := kn) hw hv n (by omega)
    show (if kn.testBit n = true then clR2 Q kn w n ||| clB (Q n) (mN (Q n)) else clR2 Q kn w n) < 64
    split
    · exact or_64 ih (clB_64 (hv n (by omega)) _ (Nat.le_refl _))
    · exact ih
theorem clR2_bit {Q : Nat → mT} {kn w b : Nat} : ∀ n, (clR2 Q kn w n).testBit b = true ↔ (w.testBit b = true ∨ ∃ c, c < n ∧ kn.testBit c = true ∧ clS Q c b)
  | 0 => by
    constructor
    · exact Or.inl
    · rintro (h | ⟨c, hc, -⟩)
      · exact h
      · omega
  | n + 1 => by
    have ih := clR2_bit (Q := Q) (kn := kn) (w := w) (b := b) n
    by_cases h : kn.testBit n = true
    · have e : clR2 Q kn w (n + 1) = clR2 Q kn w n ||| clB (Q n) (mN (Q n)) := if_pos h
      rw [e, Nat.testBit_or, Bool.or_eq_true, ih, clB_bit]
      constructor
      · rintro ((h1 | ⟨c, hc, h1, h2⟩) | h2)
        · exact Or.inl h1
        · exact Or.inr ⟨c, by omega, h1, h2⟩
        · exact Or.inr ⟨n, by omega, h, h2⟩
      · rintro (h1 | ⟨c, hc, h1, h2⟩)
        · exact Or.inl (Or.inl h1)
        · by_cases e2 : c = n
          · subst e2; exact Or.inr h2
          · exact Or.inl (Or.inr ⟨c, by omega, h1, h2⟩)
    · have e : clR2 Q kn w (n + 1) = clR2 Q kn w n := if_neg h
      rw [e, ih]
      constructor
      · rintro (h1 | ⟨c, hc, h1, h2⟩)
        · exact Or.inl h1
        · exact Or.inr ⟨c, by omega, h1, h2⟩
      · rintro (h1 | ⟨c, hc, h1, h2⟩)
        · exact Or.inl h1
        · by_cases e2 : c = n
          · subst e2; exact absurd h1 h
          · exact Or.inr ⟨c, by omega, h1, h2⟩
/-- how many of six -/
def bc6 (w : Nat) : Nat := (w.testBit 0).toNat + (w.testBit 1).toNat + (w.testBit 2).toNat + (w.testBit 3).toNat + (w.testBit 4).toNat + (w.testBit 5).toNat
theorem tb_le {a b : Bool} (h : a = true → b = true) : a.toNat ≤ b.toNat := by cases a <;> cases b <;> simp_all
theorem tb_eq {a b : Bool} (h : a = true → b = true) (hl : b.toNat ≤ a.toNat) : a = b := by cases a <;> cases b <;> simp_all
theorem bc_lt {x y : Nat} (hx : x < 64) (hy : y < 64) (h : ∀ c, x.testBit c = true → y.testBit c = true) (hne : ¬ x = y) : bc6 x + 1 ≤ bc6 y := by
  have l0 := tb_le (h 0)
  have l1 := tb_le (h 1)
  have l2 := tb_le (h 2)
  have l3 := tb_le (h 3)
  have l4 := tb_le (h 4)
  have l5 := tb_le (h 5)
  refine Classical.byContradiction (fun hn => hne ?_)
  unfold bc6 at hn
  have e0 := tb_eq (h 0) (by omega)
  have e1 := tb_eq (h 1) (by omega)
  have e2 := tb_eq (h 2) (by omega)
  have e3 := tb_eq (h 3) (by omega)
  have e4 := tb_eq (h 4) (by omega)
  have e5 := tb_eq (h 5) (by omega)
  refine Nat.eq_of_testBit_eq (fun i => ?_)
  by_cases hi : i < 6
  · rcases (show i = 0 ∨ i = 1 ∨ i = 2 ∨ i = 3 ∨ i = 4 ∨ i = 5 by omega) with e | e | e | e | e | e <;> rw [e] <;> assumption
  · rw [Nat.testBit_lt_two_pow (Nat.lt_of_lt_of_le hx (Nat.pow_le_pow_right (show 0 < 2 by decide) (by omega : 6 ≤ i))), Nat.testBit_lt_two_pow (Nat.lt_of_lt_of_le hy (Nat.pow_le_pow_right (show 0 < 2 by decide) (by omega : 6 ≤ i)))]
theorem bc_6 {w : Nat} (h : 6 ≤ bc6 w) : ∀ c, c < 6 → w.testBit c = true := by
  have key : ∀ b : Bool, b.toNat ≤ 1 := fun b => by cases b <;> decide
  have k0 := key (w.testBit 0)
  have k1 := key (w.testBit 1)
  have k2 := key (w.testBit 2)
  have k3 := key (w.testBit 3)
  have k4 := key (w.testBit 4)
  have k5 := key (w.testBit 5)
  unfold bc6 at h
  have on : ∀ b : Bool, 1 ≤ b.toNat → b = true := fun b hb => by cases b; exact absurd hb (by decide); rfl
  intro c hc
  rcases (show c = 0 ∨ c = 1 ∨ c = 2 ∨ c = 3 ∨ c = 4 ∨ c = 5 by omega) with e | e | e | e | e | e <;> rw [e] <;> refine on _ ?_ <;> omega
/-- what calledFrom keeps: all is called, and what is known is followed -/
def cfI (Q : Nat → mT) (m kn w : Nat) : Prop := w < 64 ∧ kn < 64 ∧ w.testBit m = true ∧ (∀ c, w.testBit c = true → rch Q m c) ∧ (∀ c, kn.testBit c = true → w.testBit c = true) ∧ ∀ a b, a < 6 → kn.testBit a = true → clS Q a b → w.testBit b = true
theorem cfI.rnd {Q : Nat → mT} {m kn w : Nat} (hv : ∀ c, c < 6 → mV (Q c)) (h : cfI Q m kn w) : cfI Q m w (clR2 Q w w 6) := by
  obtain ⟨h1, h2, h3, h4, h5, h6⟩ := h
  refine ⟨clR2_64 h1 hv 6 (Nat.le_refl _), h1, (clR2_bit 6).mpr (Or.inl h3), fun c hc => ?_, fun c hc => (clR2_bit 6).mpr (Or.inl hc), fun a b ha hb hc => (clR2_bit 6).mpr (Or.inr ⟨a, ha, hb, hc⟩)⟩
  rcases (clR2_bit 6).mp hc with a | ⟨a, ha, hb, hc⟩
  · exact h4 c a
  · exact (h4 a hb).st ha hc
theorem cfI.done {Q : Nat → mT} {m kn w : Nat} (h : cfI Q m kn w) (hk : kn = w ∨ ∀ c, c < 6 → w.testBit c = true) (hv : ∀ c, c < 6 → mV (Q c)) {c : Nat} (hc : c < 6) : w.testBit c = true ↔ rch Q m c := by
  obtain ⟨h1, h2, h3, h4, h5, h6⟩ := h
  refine ⟨h4 c, fun hr => ?_⟩
  rcases hk with e | e
  · exact hr (fun c => w.testBit c = true) h3 (fun a b ha hx hc => h6 a b ha (by rw [e]; exact hx) hc)
  · exact e c hc

set_option maxRecDepth 100000 in
theorem E_cl (w : am_W) {d : Nat} (G : am_G) (h : Nat) (M : mT) (hv : mV M) (hM : isM G h) (hc : cM G h M) : ∀ (r k : Nat), k + r = mN M → am_Go w jE_calls d (0, 0) 4 [some (.inr (some h)), some (.inl (nI (clB M k))), some (.inl (nI k))] [] G (fun r G' => r = some (.inl (nI (clB M (mN M)))) ∧ G' = G) := by
  have hn6 := hv.1
  have hsz := hc.1.1
  obtain ⟨hs, ⟨r0, r1, r2, r3, r4, r5, r6⟩, s1, s2, s3, s4, s5, s6, s7⟩ := hM
  intro r
  induction r with
  | zero =>
    intro k hk
    refine go_iload_n dE_calls_4 rfl rfl ?_
    refine go_aload_n dE_calls_5 rfl rfl ?_
    refine go_getV dE_calls_6 flE_33 rfl (by assumption) (by first | assumption | (simp (disch := omega) only [wi_I, ro_I, wi_In, wi_Is]; done) | (simp (disch := omega) only [wi_I, ro_I, wi_In, wi_Is]; first | assumption | rfl) | rfl) ?_
    refine go_icmp_geN (by omega) (by omega) dE_calls_9 (tgt := 40) (by decide) (fun c1 => ?_) (fun c1 => absurd c1 (by omega))
    refine go_iload_n dE_calls_40 rfl rfl ?_
    refine go_ireturn rfl dE_calls_41 ?_
    exact ⟨by rw [show k = mN M by omega], rfl⟩
  | succ r ih =>
    intro k hk
    have hkn : k < mN M := by omega
    obtain ⟨m1, m2, m3⟩ := hc.2.1 k hkn
    have ho := (hv.2.2.2.1 k hkn).1
    have h64 := clB_64 hv k (by omega)
    have i1 := ih (k + 1) (by omega)
    refine go_iload_n dE_calls_4 rfl rfl ?_
    refine go_aload_n dE_calls_5 rfl rfl ?_
    refine go_getV dE_calls_6 flE_33 rfl (by assumption) (by first | assumption | (simp (disch := omega) only [wi_I, ro_I, wi_In, wi_Is]; done) | (simp (disch := omega) only [wi_I, ro_I, wi_In, wi_Is]; first | assumption | rfl) | rfl) ?_
    refine go_icmp_geN (by omega) (by omega) dE_calls_9 (tgt := 40) (by decide) (fun c1 => absurd c1 (by omega)) (fun c1 => ?_)
    refine go_aload_n dE_calls_12 rfl rfl ?_
    refine go_getO dE_calls_13 flE_9 rfl (by assumption) (by assumption) ?_
    refine go_iload_n dE_calls_16 rfl rfl ?_
    refine go_ialV s1 (by omega) (by decide) m1 dE_calls_17 ?_
    refine go_bipush (nI 21) (by decide) dE_calls_18 ?_
    refine go_icmp_neN (by omega) (by decide) dE_calls_20 (tgt := 34) (by decide) (fun c20 => ?_) (fun c20 => ?_)
    · refine go_inc dE_calls_34 rfl ?_
      refine go_goto dE_calls_37 (tgt := 4) (by decide) ?_
      first | (have ee : clB M (k + 1) = clB M k ||| 2 ^ aN M k := if_pos c20) | (have ee : clB M (k + 1) = clB M k := if_neg c20)
      rw [ee] at i1
      exact i1
    · obtain ⟨e1, e2⟩ := hv.call hkn c20
      refine go_iload_n dE_calls_23 rfl rfl ?_
      refine go_iconst (nI 1) (by decide) dE_calls_24 ?_
      refine go_aload_n dE_calls_25 rfl rfl ?_
      refine go_getO dE_calls_26 flE_15 rfl (by assumption) (by assumption) ?_
      refine go_iload_n dE_calls_29 rfl rfl ?_
      refine go_ialV s2 (by omega) (by decide) (m2.trans e1) dE_calls_30 ?_
      refine go_ishl dE_calls_31 ?_
      rw [b_shl _ e2]
      refine go_ior dE_calls_32 ?_
      rw [b_or _ h64 _ (pw_64 e2)]
      refine go_istore_n dE_calls_33 rfl (Nat.le_of_ble_eq_true rfl) ?_
      refine go_inc dE_calls_34 rfl ?_
      refine go_goto dE_calls_37 (tgt := 4) (by decide) ?_
      first | (have ee : clB M (k + 1) = clB M k ||| 2 ^ aN M k := if_pos c20) | (have ee : clB M (k + 1) = clB M k := if_neg c20)
      rw [ee] at i1
      exact i1
set_option maxRecDepth 100000 in
theorem okE_calls (w : am_W) {d : Nat} (G : am_G) (h : Nat) (M : mT) (hv : mV M) (hM : isM G h) (hc : cM G h M) : am_Ok w jE_calls d (0, 0) [.inr (some h)] G (fun r G' => r = some (.inl (nI (clB M (mN M)))) ∧ G' = G) := by
  refine am_ok_of rfl (Nat.le_of_ble_eq_true rfl) ?_
  show am_Go w jE_calls d (0, 0) 0 [some (.inr (some h)), none, none] [] G _
  refine go_iconst (nI 0) (by decide) dE_calls_0 ?_
  refine go_istore_n dE_calls_1 rfl (Nat.le_of_ble_eq_true rfl) ?_
  refine go_iconst (nI 0) (by decide) dE_calls_2 ?_
  refine go_istore_n dE_calls_3 rfl (Nat.le_of_ble_eq_true rfl) ?_
  exact E_cl w G h M hv hM hc (mN M) 0 (by omega)
set_option maxRecDepth 100000 in
theorem P_cf1 (w : am_W) {d : Nat} {P : Option am_V → am_G → Prop} (hd : 1 ≤ d) (G : am_G) (v m : Nat) (Q : Nat → mT) (hv : v < 2) (hS : St0 G) (hP : hldP G v Q) (kn w0 rd : Nat) (hkn : kn < 64) (hw0 : w0 < 64) (K : ∀ lk, am_Go w jP_calledFrom d (0, 0) 61 [some (.inr (some (2 + 50 * v))), some (.inl (nI m)), some (.inl (nI kn)), some (.inl (nI (clR2 Q kn w0 6))), some (.inl (nI rd)), lk] [] G P) : ∀ (r k : Nat), k + r = 6 → am_Go w jP_calledFrom d (0, 0) 26 [some (.inr (some (2 + 50 * v))), some (.inl (nI m)), some (.inl (nI kn)), some (.inl (nI (clR2 Q kn w0 k))), some (.inl (nI rd)), some (.inl (nI k))] [] G P := by
  obtain ⟨p1, p2, p3, p4⟩ := pr_l v hv
  have u1 := hS.s p1
  have u2 := hS.s p2
  have u3 := hS.r p3
  have hmv : ∀ c, c < 6 → mV (Q c) := fun c hc => (hP c hc).2.2.1
  intro r
  induction r with
  | zero =>
    intro k hk
    refine go_iload dP_calledFrom_26 rfl ?_
    refine go_bipush (nI 6) (by decide) dP_calledFrom_28 ?_
    refine go_icmp_geN (by omega) (by omega) dP_calledFrom_30 (tgt := 61) (by decide) (fun c1 => ?_) (fun c1 => absurd c1 (by omega))
    rw [show k = 6 by omega]
    exact K _
  | succ r ih =>
    intro k hk
    have hk6 : k < 6 := by omega
    have i1 := ih (k + 1) (by omega)
    have h64 := clR2_64 (kn := kn) hw0 hmv k (by omega)
    have u4 := hS.r (pm_l v hv k hk6)
    have hs2 := (hP k hk6).1.1
    have c64 := clB_64 (hmv k hk6) _ (Nat.le_refl _)
    refine go_iload dP_calledFrom_26 rfl ?_
    refine go_bipush (nI 6) (by decide) dP_calledFrom_28 ?_
    refine go_icmp_geN (by omega) (by omega) dP_calledFrom_30 (tgt := 61) (by decide) (fun c1 => absurd c1 (by omega)) (fun c1 => ?_)
    refine go_iload_n dP_calledFrom_33 rfl rfl ?_
    refine go_iload dP_calledFrom_34 rfl ?_
    refine go_cS (k' := (0, 0)) dP_calledFrom_36 _ csP_26 stF_hasBit rfl (okF_hasBit (d := 0) w G (nI kn) (nI k)) (by omega) (by decide) (Nat.le_of_ble_eq_true rfl) (fun r G1 hr hn => ?_)
    obtain ⟨rfl, hG⟩ := hr
    rw [hG]
    clear hG hn
    rw [b_has _ hkn _ hk6]
    refine go_if_eqB dP_calledFrom_39 (tgt := 55) (by decide) (fun c39 => ?_) (fun c39 => ?_)
    · refine go_inc dP_calledFrom_55 rfl ?_
      refine go_goto dP_calledFrom_58 (tgt := 26) (by decide) ?_
      first | (have ee : clR2 Q kn w0 (k + 1) = clR2 Q kn w0 k ||| clB (Q k) (mN (Q k)) := if_pos c39) | (have ee : clR2 Q kn w0 (k + 1) = clR2 Q kn w0 k := if_neg (by rw [c39]; decide))
      rw [ee] at i1
      exact i1
    · refine go_iload_n dP_calledFrom_42 rfl rfl ?_
      refine go_aload_n dP_calledFrom_43 rfl rfl ?_
      refine go_getO dP_calledFrom_44 flP_11 rfl (by assumption) (by assumption) ?_
      refine go_iload dP_calledFrom_47 rfl ?_
      refine go_aaO (t := 1) (by decide) u2 hk6 (by decide) u4 dP_calledFrom_49 ?_
      refine go_cV (k' := (0, 0)) dP_calledFrom_50 _ csP_30 (by assumption) rfl imE_calls seE_calls rfl (okE_calls (d := 0) w G (mo v k) (Q k) (hmv k hk6) (hP k hk6).1 (hP k hk6).2.1) (by omega) (by decide) (Nat.le_of_ble_eq_true rfl) (fun r G1 hr hn => ?_)
      obtain ⟨rfl, hG⟩ := hr
      rw [hG]
      clear hG hn
      refine go_ior dP_calledFrom_53 ?_
      rw [b_or _ h64 _ c64]
      refine go_istore_n dP_calledFrom_54 rfl (Nat.le_of_ble_eq_true rfl) ?_
      refine go_inc dP_calledFrom_55 rfl ?_
      refine go_goto dP_calledFrom_58 (tgt := 26) (by decide) ?_
      first | (have ee : clR2 Q kn w0 (k + 1) = clR2 Q kn w0 k ||| clB (Q k) (mN (Q k)) := if_pos c39) | (have ee : clR2 Q kn w0 (k + 1) = clR2 Q kn w0 k := if_neg (by rw [c39]; decide))
      rw [ee] at i1
      exact i1
set_option maxRecDepth 100000 in
theorem P_cf2 (w : am_W) {d : Nat} (hd : 1 ≤ d) (G : am_G) (v m : Nat) (Q : Nat → mT) (hv : v < 2) (hS : St0 G) (hP : hldP G v Q) : ∀ (r rd kn w0 : Nat) (lk : Option am_V), rd + r = 6 → cfI Q m kn w0 → (kn = w0 ∨ rd + 1 ≤ bc6 w0) → am_Go w jP_calledFrom d (0, 0) 9 [some (.inr (some (2 + 50 * v))), some (.inl (nI m)), some (.inl (nI kn)), some (.inl (nI w0)), some (.inl (nI rd)), lk] [] G (fun r G' => ∃ b, b < 64 ∧ r = some (.inl (nI b)) ∧ (∀ c, c < 6 → (b.testBit c = true ↔ rch Q m c)) ∧ G' = G) := by
  obtain ⟨p1, p2, p3, p4⟩ := pr_l v hv
  have u1 := hS.s p1
  have u2 := hS.s p2
  have u3 := hS.r p3
  have hmv : ∀ c, c < 6 → mV (Q c) := fun c hc => (hP c hc).2.2.1
  intro r
  induction r with
  | zero =>
    intro rd kn w0 lk hk hI hb
    refine go_iload dP_calledFrom_9 rfl ?_
    refine go_bipush (nI 6) (by decide) dP_calledFrom_11 ?_
    refine go_icmp_geN (by omega) (by omega) dP_calledFrom_13 (tgt := 67) (by decide) (fun c1 => ?_) (fun c1 => absurd c1 (by omega))
    refine go_iload_n dP_calledFrom_67 rfl rfl ?_
    refine go_ireturn rfl dP_calledFrom_68 ?_
    exact ⟨w0, hI.1, rfl, fun c hc => hI.done (by rcases hb with e | e; exact Or.inl e; exact Or.inr (bc_6 (by omega))) hmv hc, rfl⟩
  | succ r ih =>
    intro rd kn w0 lk hk hI hb
    have hkn := hI.2.1
    have hw0 := hI.1
    refine go_iload dP_calledFrom_9 rfl ?_
    refine go_bipush (nI 6) (by decide) dP_calledFrom_11 ?_
    refine go_icmp_geN (by omega) (by omega) dP_calledFrom_13 (tgt := 67) (by decide) (fun c1 => absurd c1 (by omega)) (fun c1 => ?_)
    refine go_iload_n dP_calledFrom_16 rfl rfl ?_
    refine go_iload_n dP_calledFrom_17 rfl rfl ?_
    refine go_icmp_eqN (by omega) (by omega) dP_calledFrom_18 (tgt := 67) (by decide) (fun c18 => ?_) (fun c18 => ?_)
    · refine go_iload_n dP_calledFrom_67 rfl rfl ?_
      refine go_ireturn rfl dP_calledFrom_68 ?_
      exact ⟨w0, hI.1, rfl, fun c hc => hI.done (Or.inl c18) hmv hc, rfl⟩
    · refine go_iload_n dP_calledFrom_21 rfl rfl ?_
      refine go_istore_n dP_calledFrom_22 rfl (Nat.le_of_ble_eq_true rfl) ?_
      refine go_iconst (nI 0) (by decide) dP_calledFrom_23 ?_
      refine go_istore dP_calledFrom_24 (Nat.le_of_ble_eq_true rfl) ?_
      refine P_cf1 w hd G v m Q hv hS hP w0 w0 rd hw0 hw0 (fun lk2 => ?_) 6 0 rfl
      refine go_inc dP_calledFrom_61 rfl ?_
      refine go_goto dP_calledFrom_64 (tgt := 9) (by decide) ?_
      have hI2 := hI.rnd hmv
      refine ih (rd + 1) w0 (clR2 Q w0 w0 6) lk2 (by omega) hI2 ?_
      by_cases e : w0 = clR2 Q w0 w0 6
      · exact Or.inl e
      · have := bc_lt hw0 hI2.1 hI2.2.2.2.2.1 e
        exact Or.inr (by rcases hb with q | q; exact absurd q c18; omega)
set_option maxRecDepth 100000 in
theorem okP_calledFrom (w : am_W) {d : Nat} (hd : 1 ≤ d) (G : am_G) (v m : Nat) (Q : Nat → mT) (hv : v < 2) (hS : St0 G) (hP : hldP G v Q) (hm : m < 6) : am_Ok w jP_calledFrom d (0, 0) [.inr (some (2 + 50 * v)), .inl (nI m)] G (fun r G' => ∃ b, b < 64 ∧ r = some (.inl (nI b)) ∧ (∀ c, c < 6 → (b.testBit c = true ↔ rch Q m c)) ∧ G' = G) := by
  refine am_ok_of rfl (Nat.le_of_ble_eq_true rfl) ?_
  show am_Go w jP_calledFrom d (0, 0) 0 [some (.inr (some (2 + 50 * v))), some (.inl (nI m)), none, none, none, none] [] G _
  have hmv : ∀ c, c < 6 → mV (Q c) := fun c hc => (hP c hc).2.2.1
  refine go_iconst (nI 0) (by decide) dP_calledFrom_0 ?_
  refine go_istore_n dP_calledFrom_1 rfl (Nat.le_of_ble_eq_true rfl) ?_
  refine go_iconst (nI 1) (by decide) dP_calledFrom_2 ?_
  refine go_iload_n dP_calledFrom_3 rfl rfl ?_
  refine go_ishl dP_calledFrom_4 ?_
  rw [b_shl _ hm]
  refine go_istore_n dP_calledFrom_5 rfl (Nat.le_of_ble_eq_true rfl) ?_
  refine go_iconst (nI 0) (by decide) dP_calledFrom_6 ?_
  refine go_istore dP_calledFrom_7 (Nat.le_of_ble_eq_true rfl) ?_
  refine P_cf2 w hd G v m Q hv hS hP 6 0 0 (2 ^ m) _ rfl ⟨pw_64 hm, by decide, by rw [Nat.testBit_two_pow]; exact decide_eq_true rfl, fun c hc => by rw [Nat.testBit_two_pow] at hc; rw [← of_decide_eq_true hc]; exact rch.rf, (fun c hc => by rw [Nat.zero_testBit] at hc; cases hc), fun a b _ hc => by rw [Nat.zero_testBit] at hc; cases hc⟩ (Or.inr ?_)
  rcases (show m = 0 ∨ m = 1 ∨ m = 2 ∨ m = 3 ∨ m = 4 ∨ m = 5 by omega) with e | e | e | e | e | e <;> rw [e] <;> decide
theorem as_n {Q : Nat → mT} {m k : Nat} (hs : ∀ c, c < k → rch Q m c → ∃ S, fLeast (gP Q) (Q c) S) (h : rch Q m k → ∃ S, fLeast (gP Q) (Q k) S) : ∀ c, c < k + 1 → rch Q m c → ∃ S, fLeast (gP Q) (Q c) S := fun c hc => by
  by_cases e : c = k
  · rw [e]; exact h
  · exact hs c (by omega)
set_option maxRecDepth 100000 in
theorem F_as1 (w : am_W) {d : Nat} (hd : 6 ≤ d) (G0 : am_G) (v m b : Nat) (Q : Nat → mT) (hv : v < 2) (hb : b < 64) (hr0 : ∀ c, c < 6 → (b.testBit c = true ↔ rch Q m c)) : ∀ (r k : Nat) (G : am_G), k + r = 6 → St0 G → oR aR G0 G → hldP G v Q → (∀ c, c < k → rch Q m c → ∃ S, fLeast (gP Q) (Q c) S) → am_Go w jF_allSound d (0, 0) 9 [some (.inr (some 0)), some (.inr (some (2 + 50 * v))), some (.inl (nI m)), some (.inl (nI b)), some (.inl (nI k))] [] G (fun r G' => ∃ b : Bool, r = some (.inl (am_b b)) ∧ (b = true ↔ sndP Q m) ∧ oR aR G0 G') := by
  intro r
  induction r with
  | zero =>
    intro k G hk hS ho hP hs
    refine go_iload dF_allSound_9 rfl ?_
    refine go_bipush (nI 6) (by decide) dF_allSound_11 ?_
    refine go_icmp_geN (by omega) (by omega) dF_allSound_13 (tgt := 46) (by decide) (fun c1 => ?_) (fun c1 => absurd c1 (by omega))
    refine go_iconst (nI 1) (by decide) dF_allSound_46 ?_
    refine go_zreturn rfl (by first | exact Or.inl rfl | exact Or.inr rfl | exact am_b_01 _) dF_allSound_47 ?_
    exact ⟨true, rfl, ⟨fun _ c hc => hs c (by omega), fun _ => rfl⟩, ho⟩
  | succ r ih =>
    intro k G hk hS ho hP hs
    have hk6 : k < 6 := by omega
    have q6 : G.1[0]? = some (0, 0) := hS.s rfl
    have q9 : G.2.2 0 1 = some 102 := hS.r (by decide +kernel)
    have u0 : G.1[102]? = some (0, 3) := hS.s rfl
    refine go_iload dF_allSound_9 rfl ?_
    refine go_bipush (nI 6) (by decide) dF_allSound_11 ?_
    refine go_icmp_geN (by omega) (by omega) dF_allSound_13 (tgt := 46) (by decide) (fun c1 => absurd c1 (by omega)) (fun c1 => ?_)
    refine go_iload_n dF_allSound_16 rfl rfl ?_
    refine go_iload dF_allSound_17 rfl ?_
    refine go_cS (k' := (0, 0)) dF_allSound_19 _ csF_203 stF_hasBit rfl (okF_hasBit (d := 0) w G (nI b) (nI k)) (by omega) (by decide) (Nat.le_of_ble_eq_true rfl) (fun r G1 hr hn => ?_)
    obtain ⟨rfl, hG⟩ := hr
    rw [hG]
    clear hG hn
    rw [b_has _ hb _ hk6]
    refine go_if_eqB dF_allSound_22 (tgt := 40) (by decide) (fun c22 => ?_) (fun c22 => ?_)
    · refine go_inc dF_allSound_40 rfl ?_
      refine go_goto dF_allSound_43 (tgt := 9) (by decide) ?_
      first | exact ih (k + 1) G (by omega) hS ho hP (as_n hs (fun h => absurd ((hr0 k hk6).mpr h) (by rw [c22]; decide))) | exact ih (k + 1) X (by omega) (o1.St hS) (ho.tr o1) (hP.same o1) (as_n hs (fun _ => ⟨_, L1 (nbT c35)⟩))
    · refine go_aload_n dF_allSound_25 rfl rfl ?_
      refine go_getO dF_allSound_26 flF_19 rfl (by assumption) (by assumption) ?_
      refine go_aload_n dF_allSound_29 rfl rfl ?_
      refine go_iload dF_allSound_30 rfl ?_
      refine go_cV (k' := (0, 0)) dF_allSound_32 _ csF_91 u0 rfl imC_follow seC_follow rfl (okC_follow (d := 5) w (by decide) G v k Q hv hk6 hS hP) (by omega) (by decide) (Nat.le_of_ble_eq_true rfl) (fun r1 X hr1 hn1 => ?_)
      obtain ⟨t, rfl, I1, o1, L1, N1⟩ := hr1
      refine go_if_neB dF_allSound_35 (tgt := 40) (by decide) (fun c35 => ?_) (fun c35 => ?_)
      · refine go_inc dF_allSound_40 rfl ?_
        refine go_goto dF_allSound_43 (tgt := 9) (by decide) ?_
        first | exact ih (k + 1) G (by omega) hS ho hP (as_n hs (fun h => absurd ((hr0 k hk6).mpr h) (by rw [c22]; decide))) | exact ih (k + 1) X (by omega) (o1.St hS) (ho.tr o1) (hP.same o1) (as_n hs (fun _ => ⟨_, L1 (nbT c35)⟩))
      · refine go_iconst (nI 0) (by decide) dF_allSound_38 ?_
        refine go_zreturn rfl (by first | exact Or.inl rfl | exact Or.inr rfl | exact am_b_01 _) dF_allSound_39 ?_
        exact ⟨false, rfl, ⟨fun h => (by cases h), fun h => absurd (h k hk6 ((hr0 k hk6).mp c22)) (fun ⟨S, hS⟩ => N1 (nbF c35) S hS.1)⟩, ho.tr o1⟩
set_option maxRecDepth 100000 in
theorem okF_allSound (w : am_W) {d : Nat} (hd : 6 ≤ d) (G : am_G) (v m : Nat) (Q : Nat → mT) (hv : v < 2) (hS : St0 G) (hP : hldP G v Q) (hm : m < 6) : am_Ok w jF_allSound d (0, 0) [.inr (some 0), .inr (some (2 + 50 * v)), .inl (nI m)] G (fun r G' => ∃ b : Bool, r = some (.inl (am_b b)) ∧ (b = true ↔ sndP Q m) ∧ oR aR G G') := by
  refine am_ok_of rfl (Nat.le_of_ble_eq_true rfl) ?_
  show am_Go w jF_allSound d (0, 0) 0 [some (.inr (some 0)), some (.inr (some (2 + 50 * v))), some (.inl (nI m)), none, none] [] G _
  obtain ⟨p1, -, -, -⟩ := pr_l v hv
  have u1 := hS.s p1
  refine go_aload_n dF_allSound_0 rfl rfl ?_
  refine go_iload_n dF_allSound_1 rfl rfl ?_
  refine go_cV (k' := (0, 0)) dF_allSound_2 _ csF_200 u1 rfl imP_calledFrom seP_calledFrom rfl (okP_calledFrom (d := 1) w (by decide) G v m Q hv hS hP hm) (by omega) (by decide) (Nat.le_of_ble_eq_true rfl) (fun r1 X hr1 hn1 => ?_)
  obtain ⟨b, hb, rfl, hr0, hX⟩ := hr1
  rw [hX]
  clear hX hn1
  refine go_istore_n dF_allSound_5 rfl (Nat.le_of_ble_eq_true rfl) ?_
  refine go_iconst (nI 0) (by decide) dF_allSound_6 ?_
  refine go_istore dF_allSound_7 (Nat.le_of_ble_eq_true rfl) ?_
  exact F_as1 w hd G v m b Q hv hb hr0 6 0 G rfl hS oR.rf hP (fun c hc => absurd hc (by omega))
