def stc (G : am_G) (p : Nat) (x : fS) : Prop := G.2.1 103 p = nI x.1 ∧ (∀ i, i < x.1 → G.2.1 104 (16 * p + i) = nI (x.2.1 i)) ∧ (∀ i, i < 8 → G.2.1 104 (16 * p + (8 + i)) = kO (x.2.2 i)) ∧ fB x
def plc (G : am_G) (p : Nat) (s : Option fS) (b : Bool) : Prop := G.2.1 105 p = am_b s.isSome ∧ G.2.1 106 p = am_b b ∧ ∀ x, s = some x → stc G p x
def fCnt (S : fM) : Nat → Nat
  | 0 => 0
  | n + 1 => fCnt S n + if (S n).isSome = true then 1 else 0
def ckI (G : am_G) (M : mT) (S : fM) (Wt : Nat → Bool) (c : Bool) : Prop := G.2.1 102 8 = nI (mN M) ∧ G.2.1 102 9 = am_b c ∧ G.2.1 102 1 = nI (fCnt S (mN M)) ∧ ∀ p, p < mN M → plc G p (S p) (Wt p)
def oK (G G' : am_G) : Prop := oR (fun i => 102 ≤ i ∧ i ≤ 106) G G' ∧ ∀ k, k ≠ 1 → k ≠ 9 → G'.2.1 102 k = G.2.1 102 k
theorem oK.rf {G : am_G} : oK G G := ⟨oR.rf, fun _ _ _ => rfl⟩
theorem oK.tr {G G1 G2 : am_G} (h1 : oK G G1) (h2 : oK G1 G2) : oK G G2 := ⟨h1.1.tr h2.1, fun k a b => (h2.2 k a b).trans (h1.2 k a b)⟩
theorem oK.wi {G : am_G} {a k : Nat} {x : Int32} (h : 103 ≤ a ∧ a ≤ 106) : oK G (am_wi G a k x) := ⟨oR.wi ⟨by omega, h.2⟩, fun _ _ _ => by rw [wi_I (by omega)]⟩
theorem oK.w {G : am_G} {x : Int32} : oK G (am_wi G 102 9 x) := ⟨oR.wi ⟨by omega, by omega⟩, fun _ _ h => wi_In h⟩
theorem oK.p {G : am_G} {x : Int32} : oK G (am_wi G 102 1 x) := ⟨oR.wi ⟨by omega, by omega⟩, fun _ h _ => wi_In h⟩
theorem oK.ro {G : am_G} {a : Nat} {f : Nat → Int32} (h : 103 ≤ a ∧ a ≤ 106) : oK G (am_ro G a f) := ⟨oR.ro ⟨by omega, h.2⟩, fun _ _ _ => by rw [ro_I (by omega)]⟩
theorem oK.St {G G1 : am_G} (h : oK G G1) (hs : St0 G) : St0 G1 := h.1.St hs
def wayC (G : am_G) (wa : Nat) (y : fS) : Prop := (∀ i, i < y.1 → G.2.1 wa i = nI (y.2.1 i)) ∧ ∀ i, i < 8 → G.2.1 wa (8 + i) = kO (y.2.2 i)
theorem oK.way {G G1 : am_G} {wa : Nat} {y : fS} (h : oK G G1) (hw : 107 ≤ wa) (hy : wayC G wa y) : wayC G1 wa y := by
  unfold wayC
  rw [h.1.2.2 wa (by omega)]
  exact hy
/-- place q's own cells, and no others' -/
theorem plc.same {G G' : am_G} {p : Nat} {s : Option fS} {b : Bool} (h : plc G p s b) (h1 : G'.2.1 103 p = G.2.1 103 p) (h2 : ∀ i, i < 16 → G'.2.1 104 (16 * p + i) = G.2.1 104 (16 * p + i)) (h3 : G'.2.1 105 p = G.2.1 105 p) (h4 : G'.2.1 106 p = G.2.1 106 p) : plc G' p s b := by
  refine ⟨h3.trans h.1, h4.trans h.2.1, fun x hx => ?_⟩
  obtain ⟨a1, a2, a3, a4⟩ := h.2.2 x hx
  exact ⟨h1.trans a1, fun i hi => (h2 i (by have := a4.1; omega)).trans (a2 i hi), fun i hi => (h2 (8 + i) (by omega)).trans (a3 i hi), a4⟩
def cBk (M : mT) (S : fM) (Wt : Nat → Bool) : Nat → Bool := fun p => Wt p || ((S p).isSome && decide (mO M p = 24))
def cMeetL (z y : fS) : Nat → Option Nat := fun i => if z.2.2 i ≠ none ∧ z.2.2 i ≠ y.2.2 i then none else z.2.2 i
def cDf (z y : fS) : Nat → Bool
  | 0 => false
  | k + 1 => cDf z y k || decide (z.2.2 k ≠ none ∧ z.2.2 k ≠ y.2.2 k)
def cSm (z y : fS) : Nat → Bool
  | 0 => true
  | k + 1 => cSm z y k && decide (z.2.1 k = y.2.1 k)
abbrev cT : Type := fM × (Nat → Bool) × Bool
/-- a way comes to place q with y -/
def cCome (M : mT) (t : cT) (q : Nat) (y : fS) : cT := if q < mN M then (match t.1 q with
  | some z => (va_up t.1 q (some (z.1, z.2.1, cMeetL z y)), (fun p => t.2.1 p || (decide (p = q) && cDf z y 8)), t.2.2 || !(decide (z.1 = y.1) && cSm z y y.1))
  | none => (va_up t.1 q (some y), (if mO M q = 23 then cBk M (va_up t.1 q (some y)) (va_up t.2.1 q true) else va_up t.2.1 q true), t.2.2)) else (t.1, t.2.1, true)
theorem kO_inj {a b : Option Nat} (ha : ∀ q, a = some q → q < 200) (hb : ∀ q, b = some q → q < 200) : kO a = kO b ↔ a = b := by
  constructor
  · intro h
    cases a with
    | none =>
      exact ((kO_2 hb).1.mp h.symm).symm
    | some x =>
      cases b with
      | none => exact (kO_2 ha).1.mp h
      | some y => rw [(nI_eq (by have := ha x rfl; omega) (by have := hb y rfl; omega)).mp h]
  · intro h; rw [h]
theorem ckI.flag {G : am_G} {M : mT} {S : fM} {Wt : Nat → Bool} {c c' : Bool} (h : ckI G M S Wt c) : ckI (am_wi G 102 9 (am_b c')) M S Wt c' :=
  ⟨by rw [wi_In (by decide)]; exact h.1, wi_Is, by rw [wi_In (by decide)]; exact h.2.2.1, fun p hp => (h.2.2.2 p hp).same (by rw [wi_I (by decide)]) (fun i _ => by rw [wi_I (by decide)]) (by rw [wi_I (by decide)]) (by rw [wi_I (by decide)])⟩
theorem ckI.wait {G : am_G} {M : mT} {S : fM} {Wt : Nat → Bool} {c b : Bool} {q : Nat} (h : ckI G M S Wt c) : ckI (am_wi G 106 q (am_b b)) M S (va_up Wt q b) c := by
  refine ⟨by rw [wi_I (by decide)]; exact h.1, by rw [wi_I (by decide)]; exact h.2.1, by rw [wi_I (by decide)]; exact h.2.2.1, fun p hp => ?_⟩
  obtain ⟨a1, a2, a3⟩ := h.2.2.2 p hp
  refine ⟨by rw [wi_I (by decide)]; exact a1, ?_, fun x hx => ?_⟩
  · by_cases e : p = q
    · rw [e, wi_Is, am_up_eq]
    · rw [wi_In e, am_up_ne e]; exact a2
  · obtain ⟨b1, b2, b3, b4⟩ := a3 x hx
    exact ⟨by rw [wi_I (by decide)]; exact b1, fun i hi => by rw [wi_I (by decide)]; exact b2 i hi, fun i hi => by rw [wi_I (by decide)]; exact b3 i hi, b4⟩
theorem ckI.congr {G : am_G} {M : mT} {S S' : fM} {Wt Wt' : Nat → Bool} {c : Bool} (h : ckI G M S Wt c) (h1 : ∀ p, p < mN M → S' p = S p) (h2 : ∀ p, p < mN M → Wt' p = Wt p) : ckI G M S' Wt' c := by
  refine ⟨h.1, h.2.1, ?_, fun p hp => by rw [h1 p hp, h2 p hp]; exact h.2.2.2 p hp⟩
  have e : ∀ n, n ≤ mN M → fCnt S' n = fCnt S n := by
    intro n
    induction n with
    | zero => intro _; rfl
    | succ n ih => intro hn; show fCnt S' n + _ = fCnt S n + _; rw [ih (by omega), h1 n (by omega)]
  rw [e _ (Nat.le_refl _)]; exact h.2.2.1
/-- the local k of place q becomes none -/
theorem ckI.drop {G : am_G} {M : mT} {S : fM} {Wt : Nat → Bool} {c : Bool} {q k : Nat} {z : fS} (h : ckI G M S Wt c) (hk : k < 8) (hz : S q = some z) : ckI (am_wi G 104 (16 * q + (8 + k)) (-2)) M (va_up S q (some (z.1, z.2.1, va_up z.2.2 k none))) Wt c := by
  refine ⟨by rw [wi_I (by decide)]; exact h.1, by rw [wi_I (by decide)]; exact h.2.1, ?_, fun p hp => ?_⟩
  · rw [wi_I (by decide), h.2.2.1]
    have e : ∀ n, fCnt (va_up S q (some (z.1, z.2.1, va_up z.2.2 k none))) n = fCnt S n := by
      intro n
      induction n with
      | zero => rfl
      | succ n ih =>
        show fCnt _ n + _ = fCnt S n + _
        rw [ih]
        by_cases e : n = q
        · rw [e, am_up_eq, hz]; rfl
        · rw [am_up_ne e]
    rw [e]
  · by_cases e : p = q
    · subst e
      obtain ⟨a1, a2, a3⟩ := h.2.2.2 p hp
      obtain ⟨b1, b2, b3, b4, b5, b6⟩ := a3 z hz
      rw [am_up_eq]
      refine ⟨by rw [wi_I (by decide), a1, hz]; rfl, by rw [wi_I (by decide)]; exact a2, fun x hx => ?_⟩
      cases hx
      refine ⟨by rw [wi_I (by decide)]; exact b1, fun i hi => ?_, fun i hi => ?_, b4, b5, fun i hi q hq => ?_⟩
      · have hi : i < z.1 := hi
        rw [wi_In (by omega)]; exact b2 i hi
      · show _ = kO (va_up z.2.2 k none i)
        by_cases e : i = k
        · rw [e, am_up_eq, wi_Is]; rfl
        · rw [am_up_ne e, wi_In (by omega)]; exact b3 i hi
      · have hq : va_up z.2.2 k none i = some q := hq
        by_cases e : i = k
        · rw [e, am_up_eq] at hq; cases hq
        · rw [am_up_ne e] at hq; exact b6 i hi q hq
    · rw [am_up_ne e]
      exact (h.2.2.2 p hp).same (by rw [wi_I (by decide)]) (fun i hi => wi_In (by omega)) (by rw [wi_I (by decide)]) (by rw [wi_I (by decide)])

theorem ck_r0 : (102, 0, 103) ∈ RT := by decide +kernel
theorem ck_r2 : (102, 2, 104) ∈ RT := by decide +kernel
theorem ck_r3 : (102, 3, 105) ∈ RT := by decide +kernel
theorem ck_r4 : (102, 4, 106) ∈ RT := by decide +kernel
theorem ck_r5 : (102, 5, 107) ∈ RT := by decide +kernel
theorem ck_r6 : (102, 6, 108) ∈ RT := by decide +kernel
section Fb
variable {M : mT} {S : fM} {Wt : Nat → Bool} {k : Nat}
theorem fb_1 (h : (S k).isSome = false) : ∀ p, p < mN M → (if p < k + 1 then cBk M S Wt p else Wt p) = if p < k then cBk M S Wt p else Wt p := fun p _ => by
  by_cases e : p = k
  · rw [if_pos (by omega), if_neg (by omega)]; unfold cBk; rw [e, h]; simp
  · by_cases e2 : p < k
    · rw [if_pos (by omega), if_pos e2]
    · rw [if_neg (by omega), if_neg e2]
theorem fb_2 (h : ¬ mO M k = 24) : ∀ p, p < mN M → (if p < k + 1 then cBk M S Wt p else Wt p) = if p < k then cBk M S Wt p else Wt p := fun p _ => by
  by_cases e : p = k
  · rw [if_pos (by omega), if_neg (by omega)]; unfold cBk; rw [e]; simp [h]
  · by_cases e2 : p < k
    · rw [if_pos (by omega), if_pos e2]
    · rw [if_neg (by omega), if_neg e2]
theorem fb_3 (h1 : (S k).isSome = true) (h : mO M k = 24) : ∀ p, p < mN M → (if p < k + 1 then cBk M S Wt p else Wt p) = va_up (fun p => if p < k then cBk M S Wt p else Wt p) k true p := fun p _ => by
  by_cases e : p = k
  · rw [e, am_up_eq, if_pos (by omega)]; unfold cBk; rw [h1]; simp [h]
  · rw [am_up_ne e]
    by_cases e2 : p < k
    · rw [if_pos (by omega), if_pos e2]
    · rw [if_neg (by omega), if_neg e2]
end Fb
set_option maxRecDepth 100000 in
theorem C_fbloop (w : am_W) {d : Nat} (G0 : am_G) (m : Nat) (M : mT) (S : fM) (Wt : Nat → Bool) (c : Bool) (hn6 : mN M ≤ 60) (hv : ∀ i, i < mN M → mO M i < 28) : ∀ (r k : Nat) (G : am_G), k + r = mN M → St0 G → oK G0 G → isM G m → (∀ i, i < mN M → G.2.1 (m + 1) i = nI (mO M i)) → ¬ (102 ≤ m + 1 ∧ m + 1 ≤ 106) → ckI G M S (fun p => if p < k then cBk M S Wt p else Wt p) c →
    am_Go w jC_followBacksAgain d (0, 0) 2 [some (.inr (some 102)), some (.inr (some m)), some (.inl (nI k))] [] G (fun rr G' => rr = none ∧ ckI G' M S (cBk M S Wt) c ∧ oK G0 G') := by
  intro r
  induction r with
  | zero =>
    intro k G hk hS ho hM hc hm hI
    have hsz := hI.1
    have q1 : G.1[102]? = some (0, 3) := hS.s rfl
    have q2 : G.1[103]? = some (1, 60) := hS.s rfl
    have q3 : G.1[104]? = some (1, 960) := hS.s rfl
    have q4 : G.1[105]? = some (2, 60) := hS.s rfl
    have q5 : G.1[106]? = some (2, 60) := hS.s rfl
    have q6 : G.2.2 102 0 = some 103 := hS.r ck_r0
    have q7 : G.2.2 102 2 = some 104 := hS.r ck_r2
    have q8 : G.2.2 102 3 = some 105 := hS.r ck_r3
    have q9 : G.2.2 102 4 = some 106 := hS.r ck_r4
    refine go_iload_n dC_followBacksAgain_2 rfl rfl ?_
    refine go_aload_n dC_followBacksAgain_3 rfl rfl ?_
    refine go_getV dC_followBacksAgain_4 flC_45 rfl (by assumption) (by first | assumption | (simp (disch := omega) only [wi_I, ro_I, wi_In, wi_Is]; done) | (simp (disch := omega) only [wi_I, ro_I, wi_In, wi_Is]; first | assumption | rfl) | rfl) ?_
    refine go_icmp_geN (by omega) (by omega) dC_followBacksAgain_7 (tgt := 43) (by decide) (fun c1 => ?_) (fun c1 => absurd c1 (by omega))
    refine go_return rfl dC_followBacksAgain_43 ?_
    refine ⟨rfl, hI.congr (fun _ _ => rfl) (fun p hp => ?_), ho⟩
    show cBk M S Wt p = if p < k then cBk M S Wt p else Wt p
    rw [if_pos (by omega)]
  | succ r ih =>
    intro k G hk hS ho hM hc hm hI
    have hM0 := hM
    have hsz := hI.1
    have hck := hc k (by omega)
    obtain ⟨a1, a2, a3⟩ := hI.2.2.2 k (by omega)
    have q1 : G.1[102]? = some (0, 3) := hS.s rfl
    have q2 : G.1[103]? = some (1, 60) := hS.s rfl
    have q3 : G.1[104]? = some (1, 960) := hS.s rfl
    have q4 : G.1[105]? = some (2, 60) := hS.s rfl
    have q5 : G.1[106]? = some (2, 60) := hS.s rfl
    have q6 : G.2.2 102 0 = some 103 := hS.r ck_r0
    have q7 : G.2.2 102 2 = some 104 := hS.r ck_r2
    have q8 : G.2.2 102 3 = some 105 := hS.r ck_r3
    have q9 : G.2.2 102 4 = some 106 := hS.r ck_r4
    obtain ⟨hs, ⟨r0, r1, r2, r3, r4, r5, r6⟩, s1, s2, s3, s4, s5, s6, s7⟩ := hM
    refine go_iload_n dC_followBacksAgain_2 rfl rfl ?_
    refine go_aload_n dC_followBacksAgain_3 rfl rfl ?_
    refine go_getV dC_followBacksAgain_4 flC_45 rfl (by assumption) (by first | assumption | (simp (disch := omega) only [wi_I, ro_I, wi_In, wi_Is]; done) | (simp (disch := omega) only [wi_I, ro_I, wi_In, wi_Is]; first | assumption | rfl) | rfl) ?_
    refine go_icmp_geN (by omega) (by omega) dC_followBacksAgain_7 (tgt := 43) (by decide) (fun c1 => absurd c1 (by omega)) (fun c1 => ?_)
    refine go_aload_n dC_followBacksAgain_10 rfl rfl ?_
    refine go_getO dC_followBacksAgain_11 flC_18 rfl (by assumption) (by assumption) ?_
    refine go_iload_n dC_followBacksAgain_14 rfl rfl ?_
    refine go_balV q4 (by omega) (by decide) a1 dC_followBacksAgain_15 ?_
    refine go_if_eqB dC_followBacksAgain_16 (tgt := 37) (by decide) (fun c16 => ?_) (fun c16 => ?_)
    · refine go_inc dC_followBacksAgain_37 rfl ?_
      refine go_goto dC_followBacksAgain_40 (tgt := 2) (by decide) ?_
      first | exact ih (k + 1) _ (by omega) hS ho hM0 hc hm (hI.congr (fun _ _ => rfl) (fb_1 c16)) | exact ih (k + 1) _ (by omega) hS ho hM0 hc hm (hI.congr (fun _ _ => rfl) (fb_2 c27)) | exact ih (k + 1) _ (by omega) hS (ho.tr (oK.wi ⟨by omega, by omega⟩)) hM0 (fun i hi => by rw [wi_I (by omega)]; exact hc i hi) hm (hI.wait.congr (fun _ _ => rfl) (fb_3 c16 c27))
    · refine go_aload_n dC_followBacksAgain_19 rfl rfl ?_
      refine go_getO dC_followBacksAgain_20 flC_91 rfl (by assumption) (by assumption) ?_
      refine go_iload_n dC_followBacksAgain_23 rfl rfl ?_
      refine go_ialV s1 (by omega) (by decide) hck dC_followBacksAgain_24 ?_
      refine go_bipush (nI 24) (by decide) dC_followBacksAgain_25 ?_
      refine go_icmp_neN (by have := hv k (by omega); omega) (by decide) dC_followBacksAgain_27 (tgt := 37) (by decide) (fun c27 => ?_) (fun c27 => ?_)
      · refine go_inc dC_followBacksAgain_37 rfl ?_
        refine go_goto dC_followBacksAgain_40 (tgt := 2) (by decide) ?_
        first | exact ih (k + 1) _ (by omega) hS ho hM0 hc hm (hI.congr (fun _ _ => rfl) (fb_1 c16)) | exact ih (k + 1) _ (by omega) hS ho hM0 hc hm (hI.congr (fun _ _ => rfl) (fb_2 c27)) | exact ih (k + 1) _ (by omega) hS (ho.tr (oK.wi ⟨by omega, by omega⟩)) hM0 (fun i hi => by rw [wi_I (by omega)]; exact hc i hi) hm (hI.wait.congr (fun _ _ => rfl) (fb_3 c16 c27))
      · refine go_aload_n dC_followBacksAgain_30 rfl rfl ?_
        refine go_getO dC_followBacksAgain_31 flC_22 rfl (by assumption) (by assumption) ?_
        refine go_iload_n dC_followBacksAgain_34 rfl rfl ?_
        refine go_iconst (am_b true) (by decide) dC_followBacksAgain_35 ?_
        refine go_bastoreN (am_b_and1 true) q5 (by omega) (by decide) dC_followBacksAgain_36 ?_
        refine go_inc dC_followBacksAgain_37 rfl ?_
        refine go_goto dC_followBacksAgain_40 (tgt := 2) (by decide) ?_
        first | exact ih (k + 1) _ (by omega) hS ho hM0 hc hm (hI.congr (fun _ _ => rfl) (fb_1 c16)) | exact ih (k + 1) _ (by omega) hS ho hM0 hc hm (hI.congr (fun _ _ => rfl) (fb_2 c27)) | exact ih (k + 1) _ (by omega) hS (ho.tr (oK.wi ⟨by omega, by omega⟩)) hM0 (fun i hi => by rw [wi_I (by omega)]; exact hc i hi) hm (hI.wait.congr (fun _ _ => rfl) (fb_3 c16 c27))
theorem okC_followBacksAgain (w : am_W) {d : Nat} (G : am_G) (m : Nat) (M : mT) (S : fM) (Wt : Nat → Bool) (c : Bool) (hn6 : mN M ≤ 60) (hv : ∀ i, i < mN M → mO M i < 28) (hS : St0 G) (hM : isM G m) (hc : ∀ i, i < mN M → G.2.1 (m + 1) i = nI (mO M i)) (hm : ¬ (102 ≤ m + 1 ∧ m + 1 ≤ 106)) (hI : ckI G M S Wt c) : am_Ok w jC_followBacksAgain d (0, 0) [.inr (some 102), .inr (some m)] G (fun rr G' => rr = none ∧ ckI G' M S (cBk M S Wt) c ∧ oK G G') := by
  refine am_ok_of rfl (Nat.le_of_ble_eq_true rfl) ?_
  show am_Go w jC_followBacksAgain d (0, 0) 0 [some (.inr (some 102)), some (.inr (some m)), none] [] G _
  refine go_iconst (nI 0) (by decide) dC_followBacksAgain_0 ?_
  refine go_istore_n dC_followBacksAgain_1 rfl (Nat.le_of_ble_eq_true rfl) ?_
  exact C_fbloop w G m M S Wt c hn6 hv (mN M) 0 G (by omega) hS oK.rf hM hc hm hI
