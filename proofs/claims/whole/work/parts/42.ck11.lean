def stR (G : am_G) (p : Nat) (x : fS) : Prop := G.2.1 176 p = nI x.1 ∧ (∀ i, i < x.1 → G.2.1 177 (8 * p + i) = nI (x.2.1 i)) ∧ (∀ i, i < 8 → G.2.1 178 (8 * p + i) = kR (x.2.2 i)) ∧ fB x ∧ fK x
def plR (G : am_G) (p : Nat) (s : Option fS) : Prop := G.2.1 175 p = am_b s.isSome ∧ ∀ x, s = some x → stR G p x
abbrev rT : Type := fM × Bool × Bool
/-- the reference's checker holds t: (what is come to, changed, wrong) -/
def rkT (G : am_G) (t : rT) : Prop := G.2.1 163 20 = am_b (!t.2.2) ∧ (t.2.2 = false → G.2.1 163 21 = am_b t.2.1 ∧ ∀ p, p < 60 → plR G p (t.1 p))
def oV (G G' : am_G) : Prop := oR (fun i => i = 163 ∨ (175 ≤ i ∧ i ≤ 178)) G G' ∧ ∀ k, k ≠ 20 → k ≠ 21 → G'.2.1 163 k = G.2.1 163 k
theorem oV.rf {G : am_G} : oV G G := ⟨oR.rf, fun _ _ _ => rfl⟩
theorem oV.tr {G G1 G2 : am_G} (h1 : oV G G1) (h2 : oV G1 G2) : oV G G2 := ⟨h1.1.tr h2.1, fun k a b => (h2.2 k a b).trans (h1.2 k a b)⟩
theorem oV.wi {G : am_G} {a k : Nat} {x : Int32} (h : 175 ≤ a ∧ a ≤ 178) : oV G (am_wi G a k x) := ⟨oR.wi (Or.inr h), fun _ _ _ => by rw [wi_I (by omega)]⟩
theorem oV.w {G : am_G} {x : Int32} : oV G (am_wi G 163 20 x) := ⟨oR.wi (Or.inl rfl), fun _ h _ => wi_In h⟩
theorem oV.c {G : am_G} {x : Int32} : oV G (am_wi G 163 21 x) := ⟨oR.wi (Or.inl rfl), fun _ _ h => wi_In h⟩
theorem oV.St {G G1 : am_G} (h : oV G G1) (hs : St0 G) : St0 G1 := h.1.St hs
theorem nowR.v {G G' : am_G} {y : fS} (h : nowR G y) (ho : oV G G') : nowR G' y := by
  unfold nowR
  rw [ho.2 18 (by decide) (by decide), ho.1.2.2 179 (by omega), ho.1.2.2 180 (by omega)]
  exact h
theorem plR.same {G G' : am_G} {p : Nat} {s : Option fS} (h : plR G p s) (h1 : G'.2.1 175 p = G.2.1 175 p) (h2 : G'.2.1 176 p = G.2.1 176 p) (h3 : ∀ i, i < 8 → G'.2.1 177 (8 * p + i) = G.2.1 177 (8 * p + i)) (h4 : ∀ i, i < 8 → G'.2.1 178 (8 * p + i) = G.2.1 178 (8 * p + i)) : plR G' p s := by
  refine ⟨h1.trans h.1, fun x hx => ?_⟩
  obtain ⟨a1, a2, a3, a4, a5⟩ := h.2 x hx
  exact ⟨h2.trans a1, fun i hi => (h3 i (by have := a4.1; omega)).trans (a2 i hi), fun i hi => (h4 i hi).trans (a3 i hi), a4, a5⟩
def vL (c : Bool) (o l : Int32) : Int32 := if c = true ∧ ¬ o = l then -1 else l
def dL (c : Bool) (o l : Int32) : Bool := c && decide (¬ o = vL c o l)
def chL (c ch : Bool) (o l : Nat → Int32) : Nat → Bool
  | 0 => ch
  | k + 1 => chL c ch o l k || dL c (o k) (l k)
theorem chL_or {c ch : Bool} {o l : Nat → Int32} : ∀ k, chL c ch o l k = (ch || chL c false o l k)
  | 0 => by show ch = (ch || false); rw [Bool.or_false]
  | k + 1 => by
    show (chL c ch o l k || dL c (o k) (l k)) = (ch || (chL c false o l k || dL c (o k) (l k)))
    rw [chL_or k, Bool.or_assoc]
def chI (c : Bool) (cv : Int32) (o l : Nat → Int32) (k : Nat) : Int32 := if chL c false o l k = true then am_b true else cv
theorem chI_b {c ch : Bool} {o l : Nat → Int32} {k : Nat} : chI c (am_b ch) o l k = am_b (chL c ch o l k) := by
  unfold chI
  rw [chL_or (ch := ch)]
  cases chL c false o l k
  · rw [if_neg (by decide), Bool.or_false]
  · rw [if_pos rfl, Bool.or_true]
theorem vL_0 {o l : Int32} : vL false o l = l := if_neg (fun h => by cases h.1)
theorem vL_1 {c : Bool} {o l : Int32} (h : o = l) : vL c o l = l := if_neg (fun q => q.2 h)
theorem vL_2 {o l : Int32} (h : ¬ o = l) : vL true o l = -1 := if_pos ⟨rfl, h⟩
/-- a way comes to place q with y -/
def rCome (M : mT) (t : rT) (q : Nat) (y : fS) : rT := if q < mN M then (match t.1 q with
  | some z => (va_up t.1 q (some (z.1, z.2.1, cMeetL z y)), t.2.1 || cDf z y 8, t.2.2 || !(decide (z.1 = y.1) && cSm z y y.1))
  | none => (va_up t.1 q (some y), true, t.2.2)) else (t.1, t.2.1, true)
section Rc
variable {M : mT} {t : rT} {q : Nat} {y z : fS}
theorem rCome_out (h : ¬ q < mN M) : rCome M t q y = (t.1, t.2.1, true) := by unfold rCome; rw [if_neg h]
theorem rCome_met (h : q < mN M) (hz : t.1 q = some z) : rCome M t q y = (va_up t.1 q (some (z.1, z.2.1, cMeetL z y)), t.2.1 || cDf z y 8, t.2.2 || !(decide (z.1 = y.1) && cSm z y y.1)) := by
  unfold rCome; rw [if_pos h, hz]
theorem rCome_new (h : q < mN M) (hz : t.1 q = none) : rCome M t q y = (va_up t.1 q (some y), true, t.2.2) := by
  unfold rCome; rw [if_pos h, hz]
end Rc
theorem vL_meet {z y : Option Nat} (hz : ∀ q, z = some q → q < 200) (hy : ∀ q, y = some q → q < 200) : vL true (kR z) (kR y) = kR (if z ≠ none ∧ z ≠ y then none else z) := by
  by_cases e : z = y
  · rw [vL_1 (by rw [e]), if_neg (fun q => q.2 e), e]
  · rw [vL_2 (fun q => e ((kR_inj hz hy).mp q))]
    by_cases e2 : z = none
    · rw [if_neg (fun q => q.1 e2), e2]; rfl
    · rw [if_pos ⟨e2, e⟩]; rfl
theorem dL_meet {z y : Option Nat} (hz : ∀ q, z = some q → q < 200) (hy : ∀ q, y = some q → q < 200) : dL true (kR z) (kR y) = decide (z ≠ none ∧ z ≠ y) := by
  unfold dL
  rw [vL_meet hz hy, Bool.true_and]
  refine decide_eq_decide.mpr ?_
  by_cases e : z ≠ none ∧ z ≠ y
  · rw [if_pos e]
    exact ⟨fun _ => e, fun _ q => e.1 ((kR_m hz).mp q)⟩
  · rw [if_neg e]
    exact ⟨fun q => absurd rfl q, fun q => absurd q e⟩
theorem chL_meet {z y : fS} {ch : Bool} {o l : Nat → Int32} (hz : ∀ i, i < 8 → ∀ q, z.2.2 i = some q → q < 200) (hy : ∀ i, i < 8 → ∀ q, y.2.2 i = some q → q < 200) (ho : ∀ i, i < 8 → o i = kR (z.2.2 i)) (hl : ∀ i, i < 8 → l i = kR (y.2.2 i)) : ∀ k, k ≤ 8 → chL true ch o l k = (ch || cDf z y k)
  | 0 => fun _ => by show ch = (ch || false); rw [Bool.or_false]
  | k + 1 => fun hk => by
    show (chL true ch o l k || dL true (o k) (l k)) = (ch || (cDf z y k || decide (z.2.2 k ≠ none ∧ z.2.2 k ≠ y.2.2 k)))
    rw [chL_meet hz hy ho hl k (by omega), ho k (by omega), hl k (by omega), dL_meet (hz k (by omega)) (hy k (by omega)), Bool.or_assoc]
/-- the end of a way: what is written -/
theorem rkT.come {G G' : am_G} {M : mT} {t : rT} {q : Nat} {y : fS} {c ch : Bool} (i3 : ∀ p, p < 60 → plR G p (t.1 p)) (h0 : t.2.2 = false) (hn6 : mN M ≤ 60) (hq : q < mN M) (hnw : nowR G y) (hb : fB y) (hk : fK y) (ho : oV G G')
    (hc : G'.2.1 163 20 = am_b c) (hch : G'.2.1 163 21 = am_b (ch || !(t.1 q).isSome)) (hch2 : ch = chL (t.1 q).isSome t.2.1 (fun i => G.2.1 178 (8 * q + i)) (fun i => G.2.1 180 i) 8)
    (hw : c = false → ∃ z, t.1 q = some z ∧ (decide (z.1 = y.1) && cSm z y y.1) = false)
    (hr : c = true → (∀ z, t.1 q = some z → z.1 = y.1 ∧ ∀ i, i < y.1 → z.2.1 i = y.2.1 i) ∧ (∀ i, i < y.1 → G'.2.1 177 (8 * q + i) = nI (y.2.1 i)) ∧ ∀ j, (j < 8 * q ∨ 8 * q + 8 ≤ j) → G'.2.1 177 j = G.2.1 177 j)
    (h5 : ∀ j, G'.2.1 175 j = if j = q then am_b true else G.2.1 175 j) (h6 : ∀ j, G'.2.1 176 j = if j = q then nI y.1 else G.2.1 176 j)
    (h8 : ∀ j, G'.2.1 178 j = if 8 * q ≤ j ∧ j < 8 * q + 8 then vL (t.1 q).isSome (G.2.1 178 j) (G.2.1 180 (j - 8 * q)) else G.2.1 178 j) : rkT G' (rCome M t q y) := by
  have oth : c = true → ∀ p, p < 60 → p ≠ q → plR G' p (t.1 p) := fun e p hp hne => (i3 p hp).same (by rw [h5, if_neg hne]) (by rw [h6, if_neg hne]) (fun i hi => (hr e).2.2 _ (by omega)) (fun i hi => by rw [h8, if_neg (by omega)])
  have l8 : ∀ i, i < 8 → G'.2.1 178 (8 * q + i) = vL (t.1 q).isSome (G.2.1 178 (8 * q + i)) (kR (y.2.2 i)) := fun i hi => by
    rw [h8, if_pos (by omega), show 8 * q + i - 8 * q = i by omega, hnw.2.2 i hi]
  cases hz : t.1 q with
  | none =>
    have ec : c = true := by cases c with | true => rfl | false => obtain ⟨z, e, -⟩ := hw rfl; rw [hz] at e; cases e
    rw [rCome_new hq hz]
    refine ⟨by rw [hc, ec, h0]; rfl, fun _ => ⟨?_, fun p hp => ?_⟩⟩
    · rw [hch, hz]; show am_b (ch || true) = am_b true; rw [Bool.or_true]
    · show plR G' p (va_up t.1 q (some y) p)
      by_cases e : p = q
      · subst e
        rw [am_up_eq]
        refine ⟨by rw [h5, if_pos rfl]; rfl, fun x hx => ?_⟩
        cases hx
        exact ⟨by rw [h6, if_pos rfl], (hr ec).2.1, fun i hi => by rw [l8 i hi, hz]; exact vL_0, hb, hk⟩
      · rw [am_up_ne e]; exact oth ec p hp e
  | some z =>
    rw [rCome_met hq hz]
    obtain ⟨a1, a2, a3, a4, a5⟩ := (i3 q (by omega)).2 z hz
    cases c with
    | false =>
      obtain ⟨z', e, e2⟩ := hw rfl
      rw [hz] at e; cases e
      refine ⟨?_, fun h => ?_⟩
      · rw [hc]
        show am_b false = am_b (!(t.2.2 || !(decide (z.1 = y.1) && cSm z y y.1)))
        rw [h0, e2]; rfl
      · have h : (t.2.2 || !(decide (z.1 = y.1) && cSm z y y.1)) = false := h
        rw [h0, e2] at h; cases h
    | true =>
      obtain ⟨b1, b2, b3⟩ := hr rfl
      obtain ⟨b5, b4⟩ := b1 z hz
      have e2 : (decide (z.1 = y.1) && cSm z y y.1) = true := by rw [decide_eq_true b5, cSm_i b4]; rfl
      refine ⟨?_, fun _ => ⟨?_, fun p hp => ?_⟩⟩
      · rw [hc]
        show am_b true = am_b (!(t.2.2 || !(decide (z.1 = y.1) && cSm z y y.1)))
        rw [h0, e2]; rfl
      · show _ = am_b (t.2.1 || cDf z y 8)
        rw [hch, hch2, hz]
        show am_b (chL true t.2.1 _ _ 8 || false) = _
        rw [Bool.or_false, chL_meet a4.2.2 hb.2.2 (fun i hi => a3 i hi) (fun i hi => hnw.2.2 i hi) 8 (Nat.le_refl 8)]
      · show plR G' p (va_up t.1 q (some (z.1, z.2.1, cMeetL z y)) p)
        by_cases e : p = q
        · subst e
          rw [am_up_eq]
          refine ⟨by rw [h5, if_pos rfl]; rfl, fun x hx => ?_⟩
          cases hx
          have sub : ∀ i, i < 8 → ∀ k, cMeetL z y i = some k → z.2.2 i = some k := fun i hi k hk => by
            unfold cMeetL at hk
            split at hk
            · cases hk
            · exact hk
          refine ⟨by rw [h6, if_pos rfl]; exact congrArg nI b5.symm, fun i hi => ?_, fun i hi => ?_, ⟨a4.1, a4.2.1, fun i hi k hk => a4.2.2 i hi k (sub i hi k hk)⟩, ⟨a5.1, fun i hi k hk => a5.2 i hi k (sub i hi k hk)⟩⟩
          · have hi : i < z.1 := hi
            rw [b2 i (by omega)]; exact congrArg nI (b4 i (by omega)).symm
          · rw [l8 i hi, hz, a3 i hi]
            show vL true _ _ = kR (cMeetL z y i)
            rw [vL_meet (a4.2.2 i hi) (hb.2.2 i hi)]; rfl
        · rw [am_up_ne e]; exact oth rfl p hp e

set_option maxRecDepth 100000 in
theorem R_ft (w : am_W) {d : Nat} (G0 : am_G) (p : Nat) (hp : p < 60) : ∀ (r k : Nat) (G : am_G), k + r = 8 → St0 G → (∀ i, i < k → G.2.1 179 i = G0.2.1 177 (8 * p + i) ∧ G.2.1 180 i = G0.2.1 178 (8 * p + i)) → G.2.1 163 18 = G0.2.1 176 p → oN G0 G → G.2.1 163 20 = G0.2.1 163 20 →
    am_Go w jR_fetch d (0, 0) 12 [some (.inr (some 163)), some (.inl (nI p)), some (.inl (nI k))] [] G (fun rr G' => rr = none ∧ (∀ i, i < 8 → G'.2.1 179 i = G0.2.1 177 (8 * p + i) ∧ G'.2.1 180 i = G0.2.1 178 (8 * p + i)) ∧ G'.2.1 163 18 = G0.2.1 176 p ∧ oN G0 G' ∧ G'.2.1 163 20 = G0.2.1 163 20) := by
  intro r
  induction r with
  | zero =>
    intro k G hk hS h1 h2 ho h20
    refine go_iload_n dR_fetch_12 rfl rfl ?_
    refine go_bipush (nI 8) (by decide) dR_fetch_13 ?_
    refine go_icmp_geN (by omega) (by omega) dR_fetch_15 (tgt := 58) (by decide) (fun c1 => ?_) (fun c1 => absurd c1 (by omega))
    refine go_return rfl dR_fetch_58 ?_
    exact ⟨rfl, by rw [show (8 : Nat) = k by omega]; rw [show k = 8 by omega] at h1 ⊢; exact h1, h2, ho, h20⟩
  | succ r ih =>
    intro k G hk hS h1 h2 ho h20
    have e7 : G.2.1 177 (8 * p + k) = G0.2.1 177 (8 * p + k) := by rw [ho.1.2.2 177 (by omega)]
    have e8 : G.2.1 178 (8 * p + k) = G0.2.1 178 (8 * p + k) := by rw [ho.1.2.2 178 (by omega)]
    refine go_iload_n dR_fetch_12 rfl rfl ?_
    refine go_bipush (nI 8) (by decide) dR_fetch_13 ?_
    refine go_icmp_geN (by omega) (by omega) dR_fetch_15 (tgt := 58) (by decide) (fun c1 => absurd c1 (by omega)) (fun c1 => ?_)
    refine go_aload_n dR_fetch_18 rfl rfl ?_
    refine go_getO (a := 179) dR_fetch_19 flR_56 rfl (hS.s sh_163) (hS.r rt_kind) ?_
    refine go_iload_n dR_fetch_22 rfl rfl ?_
    refine go_aload_n dR_fetch_23 rfl rfl ?_
    refine go_getO (a := 177) dR_fetch_24 flR_50 rfl (hS.s sh_163) (hS.r rt_sKind) ?_
    refine go_bipush (nI 8) (by decide) dR_fetch_27 ?_
    refine go_iload_n dR_fetch_29 rfl rfl ?_
    first | refine go_imulN dR_fetch_30 ?_ | refine go_imul dR_fetch_30 ?_
    refine go_iload_n dR_fetch_31 rfl rfl ?_
    first | refine go_iaddN dR_fetch_32 ?_ | refine go_iadd dR_fetch_32 ?_
    refine go_ialV (hS.s sh_177) (by omega) (by decide) e7 dR_fetch_33 ?_
    refine go_iastoreN (hS.s sh_179) (by omega) (by decide) dR_fetch_34 ?_
    refine go_aload_n dR_fetch_35 rfl rfl ?_
    refine go_getO (a := 180) dR_fetch_36 flR_59 rfl (hS.s sh_163) (hS.r rt_local) ?_
    refine go_iload_n dR_fetch_39 rfl rfl ?_
    refine go_aload_n dR_fetch_40 rfl rfl ?_
    refine go_getO (a := 178) dR_fetch_41 flR_53 rfl (hS.s sh_163) (hS.r rt_lKind) ?_
    refine go_bipush (nI 8) (by decide) dR_fetch_44 ?_
    refine go_iload_n dR_fetch_46 rfl rfl ?_
    first | refine go_imulN dR_fetch_47 ?_ | refine go_imul dR_fetch_47 ?_
    refine go_iload_n dR_fetch_48 rfl rfl ?_
    first | refine go_iaddN dR_fetch_49 ?_ | refine go_iadd dR_fetch_49 ?_
    refine go_ialV (v := G0.2.1 178 (8 * p + k)) (hS.s sh_178) (by omega) (by decide) (by rw [wi_I (by decide)]; exact e8) dR_fetch_50 ?_
    refine go_iastoreN (hS.s sh_180) (by omega) (by decide) dR_fetch_51 ?_
    first | refine go_inc dR_fetch_52 rfl ?_ | refine go_iinc dR_fetch_52 rfl ?_
    refine go_goto dR_fetch_55 (tgt := 12) (by decide) ?_
    refine ih (k + 1) _ (by omega) hS (fun i hi => ?_) (by rw [wi_I (by decide), wi_I (by decide)]; exact h2) ((ho.tr oN.n).tr oN.l) (by rw [wi_I (by decide), wi_I (by decide)]; exact h20)
    rw [wi_at, wi_I (by decide), wi_at, wi_I (by decide)]
    by_cases e : i = k
    · rw [if_pos e, if_pos e, e]; exact ⟨rfl, rfl⟩
    · rw [if_neg e, if_neg e]; exact h1 i (by omega)
set_option maxRecDepth 100000 in
theorem okR_fetch (w : am_W) {d : Nat} (G : am_G) (p : Nat) (x : fS) (hp : p < 60) (hS : St0 G) (h : stR G p x) (hf : G.2.1 163 20 = am_b true) : am_Ok w jR_fetch d (0, 0) [.inr (some 163), .inl (nI p)] G (fun r G' => r = none ∧ nowR G' x ∧ oN G G' ∧ wR G' (some x)) := by
  refine am_ok_of rfl (Nat.le_of_ble_eq_true rfl) ?_
  show am_Go w jR_fetch d (0, 0) 0 [some (.inr (some 163)), some (.inl (nI p)), none] [] G _
  refine go_aload_n dR_fetch_0 rfl rfl ?_
  refine go_aload_n dR_fetch_1 rfl rfl ?_
  refine go_getO (a := 176) dR_fetch_2 flR_47 rfl (hS.s sh_163) (hS.r rt_deep) ?_
  refine go_iload_n dR_fetch_5 rfl rfl ?_
  first | refine go_ialV (hS.s sh_176) (by omega) (by decide) (by assumption) dR_fetch_6 ?_ | refine go_ialoadN (hS.s sh_176) (by omega) (by decide) dR_fetch_6 ?_
  refine go_putI dR_fetch_7 fpR_152 rfl (hS.s sh_163) ?_
  refine go_iconst (nI 0) (by decide) dR_fetch_10 ?_
  refine go_istore_n dR_fetch_11 rfl (Nat.le_of_ble_eq_true rfl) ?_
  have a1 := h.1
  refine go_post (R_ft w G p hp 8 0 _ rfl hS (fun i hi => absurd hi (by omega)) wi_Is oN.d (wi_In (by decide))) (fun rr G2 q => ?_)
  obtain ⟨q1, q2, q3, q4, q5⟩ := q
  have nw : nowR G2 x := ⟨q3.trans a1, fun i hi => (q2 i (by have := h.2.2.2.1.1; omega)).1.trans (h.2.1 i hi), fun i hi => (q2 i hi).2.trans (h.2.2.1 i hi)⟩
  exact ⟨q1, nw, q4, nw, h.2.2.2.1, h.2.2.2.2, q5.trans hf⟩
section L2
variable {cm : Bool} {cv : Int32} {o l : Nat → Int32} {k : Nat} {v : Int32}
theorem l2v1 {o l : Int32} (h : cm = false) : l = vL cm o l := by rw [h, vL_0]
theorem l2v2 {o l : Int32} (h : o = l) : l = vL cm o l := (vL_1 h).symm
theorem l2v3 {o l : Int32} (h : cm = true) (h2 : ¬ o = l) : -1 = vL cm o l := by rw [h, vL_2 h2]
theorem chI_n (h : dL cm (o k) (l k) = false) (hv : v = chI cm cv o l k) : v = chI cm cv o l (k + 1) := by
  rw [hv]; unfold chI
  have e : chL cm false o l (k + 1) = chL cm false o l k := by show (chL cm false o l k || dL cm (o k) (l k)) = _; rw [h, Bool.or_false]
  rw [e]
theorem l2c1 (h : cm = false) (hv : v = chI cm cv o l k) : v = chI cm cv o l (k + 1) := chI_n (by unfold dL; rw [h, Bool.false_and]) hv
theorem l2c2 (h : o k = l k) (hv : v = chI cm cv o l k) : v = chI cm cv o l (k + 1) := chI_n (by unfold dL; rw [vL_1 h, decide_eq_false (fun q => q h), Bool.and_false]) hv
theorem l2c3 (h1 : cm = true) (h2 : ¬ o k = l k) (h3 : o k = -1) (hv : v = chI cm cv o l k) : v = chI cm cv o l (k + 1) := chI_n (by unfold dL; rw [h1, vL_2 h2, decide_eq_false (fun q => q h3), Bool.and_false]) hv
theorem l2c4 {X : am_G} (h1 : cm = true) (h2 : ¬ o k = l k) (h3 : ¬ o k = -1) : (am_wi X 163 21 (am_b true)).2.1 163 21 = chI cm cv o l (k + 1) := by
  rw [wi_Is]
  have e : chL cm false o l (k + 1) = true := by show (chL cm false o l k || dL cm (o k) (l k)) = true; unfold dL; rw [h1, vL_2 h2, decide_eq_true h3, Bool.and_true, Bool.or_true]
  unfold chI
  rw [if_pos e]
end L2
set_option maxRecDepth 100000 in
theorem R_a2 (w : am_W) {d : Nat} {P : Option am_V → am_G → Prop} (G1 : am_G) (q p : Nat) (cm : Bool) (cv : Int32) (hp : p < 60) (hcm : G1.2.1 175 p = am_b cm)
    (K : ∀ (G : am_G) lk ll, St0 G → oR (fun i => i = 163 ∨ i = 178) G1 G ∧ (∀ k, k ≠ 21 → G.2.1 163 k = G1.2.1 163 k) → G.2.1 163 21 = chI cm cv (fun i => G1.2.1 178 (8 * p + i)) (fun i => G1.2.1 180 i) 8 → (∀ j, G.2.1 178 j = if 8 * p ≤ j ∧ j < 8 * p + 8 then vL cm (G1.2.1 178 j) (G1.2.1 180 (j - 8 * p)) else G1.2.1 178 j) → am_Go w jR_arrive d (0, 0) 215 [some (.inr (some 163)), some (.inl (nI q)), some (.inl (nI p)), lk, ll] [] G P) :
    ∀ (r k : Nat) (G : am_G) (ll : Option am_V), k + r = 8 → St0 G → oR (fun i => i = 163 ∨ i = 178) G1 G ∧ (∀ k, k ≠ 21 → G.2.1 163 k = G1.2.1 163 k) → G.2.1 163 21 = chI cm cv (fun i => G1.2.1 178 (8 * p + i)) (fun i => G1.2.1 180 i) k → (∀ j, G.2.1 178 j = if 8 * p ≤ j ∧ j < 8 * p + k then vL cm (G1.2.1 178 j) (G1.2.1 180 (j - 8 * p)) else G1.2.1 178 j) → am_Go w jR_arrive d (0, 0) 119 [some (.inr (some 163)), some (.inl (nI q)), some (.inl (nI p)), some (.inl (nI k)), ll] [] G P := by
  intro r
  induction r with
  | zero =>
    intro k G ll hk hS hf h21 h8
    refine go_iload_n dR_arrive_119 rfl rfl ?_
    refine go_bipush (nI 8) (by decide) dR_arrive_120 ?_
    refine go_icmp_geN (by omega) (by omega) dR_arrive_122 (tgt := 215) (by decide) (fun c1 => ?_) (fun c1 => absurd c1 (by omega))
    rw [show k = 8 by omega] at h21 h8
    exact K G _ _ hS hf h21 h8
  | succ r ih =>
    intro k G ll hk hS hf h21 h8
    have e5 : G.2.1 175 p = am_b cm := by rw [hf.1.2.2 175 (by omega)]; exact hcm
    have e0 : G.2.1 180 k = G1.2.1 180 k := by rw [hf.1.2.2 180 (by omega)]
    have e8 : G.2.1 178 (8 * p + k) = G1.2.1 178 (8 * p + k) := by rw [h8, if_neg (by omega)]
    have key : ∀ (X : am_G) (v : Int32), (X = G ∨ X = am_wi G 163 21 (am_b true)) → v = vL cm (G1.2.1 178 (8 * p + k)) (G1.2.1 180 k) → X.2.1 163 21 = chI cm cv (fun i => G1.2.1 178 (8 * p + i)) (fun i => G1.2.1 180 i) (k + 1) → am_Go w jR_arrive d (0, 0) 119 [some (.inr (some 163)), some (.inl (nI q)), some (.inl (nI p)), some (.inl (nI (k + 1))), some (.inl v)] [] (am_wi X 178 (8 * p + k) v) P := by
      intro X v hX hv hX21
      have oX : oR (fun i => i = 163 ∨ i = 178) G X := by rcases hX with e | e <;> rw [e]; exact oR.rf; exact oR.wi (Or.inl rfl)
      have o3 : ∀ k, k ≠ 21 → X.2.1 163 k = G.2.1 163 k := fun k hk => by rcases hX with e | e <;> rw [e]; exact wi_In hk
      have o8 : X.2.1 178 = G.2.1 178 := by rcases hX with e | e <;> rw [e]; exact wi_I (by decide)
      refine ih (k + 1) _ _ (by omega) ((oX.tr (oR.wi (Or.inr rfl))).St hS) ⟨(hf.1.tr oX).tr (oR.wi (Or.inr rfl)), fun i hi => by rw [wi_I (by decide), o3 i hi]; exact hf.2 i hi⟩ (by rw [wi_I (by decide)]; exact hX21) (fun j => ?_)
      rw [wi_at, o8, h8]
      by_cases e : j = 8 * p + k
      · rw [if_pos e, if_pos (by omega), e, show 8 * p + k - 8 * p = k by omega]; exact hv
      · rw [if_neg e]
        by_cases e2 : 8 * p ≤ j ∧ j < 8 * p + k
        · rw [if_pos e2, if_pos (by omega)]
        · rw [if_neg e2, if_neg (by omega)]
    refine go_iload_n dR_arrive_119 rfl rfl ?_
    refine go_bipush (nI 8) (by decide) dR_arrive_120 ?_
    refine go_icmp_geN (by omega) (by omega) dR_arrive_122 (tgt := 215) (by decide) (fun c1 => absurd c1 (by omega)) (fun c1 => ?_)
    refine go_aload_n dR_arrive_125 rfl rfl ?_
    refine go_getO (a := 175) dR_arrive_126 flR_44 rfl (hS.s sh_163) (hS.r rt_come) ?_
    refine go_iload_n dR_arrive_129 rfl rfl ?_
    refine go_balV (hS.s sh_175) (by omega) (by decide) e5 dR_arrive_130 ?_
    refine go_if_eqB dR_arrive_131 (tgt := 154) (by decide) (fun c131 => ?_) (fun c131 => ?_)
    · refine go_aload_n dR_arrive_154 rfl rfl ?_
      refine go_getO (a := 180) dR_arrive_155 flR_59 rfl (hS.s sh_163) (hS.r rt_local) ?_
      refine go_iload_n dR_arrive_158 rfl rfl ?_
      refine go_ialV (hS.s sh_180) (by omega) (by decide) e0 dR_arrive_159 ?_
      refine go_goto dR_arrive_160 (tgt := 164) (by decide) ?_
      refine go_istore dR_arrive_164 (Nat.le_of_ble_eq_true rfl) ?_
      refine go_aload_n dR_arrive_166 rfl rfl ?_
      refine go_getO (a := 175) dR_arrive_167 flR_44 rfl (hS.s sh_163) (hS.r rt_come) ?_
      refine go_iload_n dR_arrive_170 rfl rfl ?_
      refine go_balV (hS.s sh_175) (by omega) (by decide) e5 dR_arrive_171 ?_
      refine go_if_eqB dR_arrive_172 (tgt := 196) (by decide) (fun c172 => ?_) (fun c172 => ?_)
      · refine go_aload_n dR_arrive_196 rfl rfl ?_
        refine go_getO (a := 178) dR_arrive_197 flR_53 rfl (hS.s sh_163) (hS.r rt_lKind) ?_
        refine go_bipush (nI 8) (by decide) dR_arrive_200 ?_
        refine go_iload_n dR_arrive_202 rfl rfl ?_
        first | refine go_imulN dR_arrive_203 ?_ | refine go_imul dR_arrive_203 ?_
        refine go_iload_n dR_arrive_204 rfl rfl ?_
        first | refine go_iaddN dR_arrive_205 ?_ | refine go_iadd dR_arrive_205 ?_
        refine go_iload dR_arrive_206 rfl ?_
        refine go_iastoreN (hS.s sh_178) (by omega) (by decide) dR_arrive_208 ?_
        first | refine go_inc dR_arrive_209 rfl ?_ | refine go_iinc dR_arrive_209 rfl ?_
        refine go_goto dR_arrive_212 (tgt := 119) (by decide) ?_
        first | exact key _ _ (Or.inl rfl) (l2v1 c131) (l2c1 c131 h21) | exact absurd (c131.symm.trans c172) (by decide) | exact absurd (c172.symm.trans c131) (by decide) | exact key _ _ (Or.inl rfl) (l2v2 c151) (l2c2 c151 h21) | exact absurd c151 (l2x c188) | exact key _ _ (Or.inl rfl) (l2v3 c131 c151) (l2c3 c131 c151 c188 h21) | exact key _ _ (Or.inr rfl) (l2v3 c131 c151) (l2c4 c131 c151 c188) | exact absurd c151 c188
      · refine go_aload_n dR_arrive_175 rfl rfl ?_
        refine go_getO (a := 178) dR_arrive_176 flR_53 rfl (hS.s sh_163) (hS.r rt_lKind) ?_
        refine go_bipush (nI 8) (by decide) dR_arrive_179 ?_
        refine go_iload_n dR_arrive_181 rfl rfl ?_
        first | refine go_imulN dR_arrive_182 ?_ | refine go_imul dR_arrive_182 ?_
        refine go_iload_n dR_arrive_183 rfl rfl ?_
        first | refine go_iaddN dR_arrive_184 ?_ | refine go_iadd dR_arrive_184 ?_
        refine go_ialV (hS.s sh_178) (by omega) (by decide) e8 dR_arrive_185 ?_
        refine go_iload dR_arrive_186 rfl ?_
        refine go_icmp_eq dR_arrive_188 (tgt := 196) (by decide) (fun c188 => ?_) (fun c188 => ?_)
        · refine go_aload_n dR_arrive_196 rfl rfl ?_
          refine go_getO (a := 178) dR_arrive_197 flR_53 rfl (hS.s sh_163) (hS.r rt_lKind) ?_
          refine go_bipush (nI 8) (by decide) dR_arrive_200 ?_
          refine go_iload_n dR_arrive_202 rfl rfl ?_
          first | refine go_imulN dR_arrive_203 ?_ | refine go_imul dR_arrive_203 ?_
          refine go_iload_n dR_arrive_204 rfl rfl ?_
          first | refine go_iaddN dR_arrive_205 ?_ | refine go_iadd dR_arrive_205 ?_
          refine go_iload dR_arrive_206 rfl ?_
          refine go_iastoreN (hS.s sh_178) (by omega) (by decide) dR_arrive_208 ?_
          first | refine go_inc dR_arrive_209 rfl ?_ | refine go_iinc dR_arrive_209 rfl ?_
          refine go_goto dR_arrive_212 (tgt := 119) (by decide) ?_
          first | exact key _ _ (Or.inl rfl) (l2v1 c131) (l2c1 c131 h21) | exact absurd (c131.symm.trans c172) (by decide) | exact absurd (c172.symm.trans c131) (by decide) | exact key _ _ (Or.inl rfl) (l2v2 c151) (l2c2 c151 h21) | exact absurd c151 (l2x c188) | exact key _ _ (Or.inl rfl) (l2v3 c131 c151) (l2c3 c131 c151 c188 h21) | exact key _ _ (Or.inr rfl) (l2v3 c131 c151) (l2c4 c131 c151 c188) | exact absurd c151 c188
        · refine go_aload_n dR_arrive_191 rfl rfl ?_
          refine go_iconst (am_b true) (by decide) dR_arrive_192 ?_
          refine go_putZ (am_b_01 _) dR_arrive_193 fpR_159 rfl (hS.s sh_163) ?_
          refine go_aload_n dR_arrive_196 rfl rfl ?_
          refine go_getO (a := 178) dR_arrive_197 flR_53 rfl (hS.s sh_163) (hS.r rt_lKind) ?_
          refine go_bipush (nI 8) (by decide) dR_arrive_200 ?_
          refine go_iload_n dR_arrive_202 rfl rfl ?_
          first | refine go_imulN dR_arrive_203 ?_ | refine go_imul dR_arrive_203 ?_
          refine go_iload_n dR_arrive_204 rfl rfl ?_
          first | refine go_iaddN dR_arrive_205 ?_ | refine go_iadd dR_arrive_205 ?_
          refine go_iload dR_arrive_206 rfl ?_
          refine go_iastoreN (hS.s sh_178) (by omega) (by decide) dR_arrive_208 ?_
          first | refine go_inc dR_arrive_209 rfl ?_ | refine go_iinc dR_arrive_209 rfl ?_
          refine go_goto dR_arrive_212 (tgt := 119) (by decide) ?_
          first | exact key _ _ (Or.inl rfl) (l2v1 c131) (l2c1 c131 h21) | exact absurd (c131.symm.trans c172) (by decide) | exact absurd (c172.symm.trans c131) (by decide) | exact key _ _ (Or.inl rfl) (l2v2 c151) (l2c2 c151 h21) | exact absurd c151 (l2x c188) | exact key _ _ (Or.inl rfl) (l2v3 c131 c151) (l2c3 c131 c151 c188 h21) | exact key _ _ (Or.inr rfl) (l2v3 c131 c151) (l2c4 c131 c151 c188) | exact absurd c151 c188
    · refine go_aload_n dR_arrive_134 rfl rfl ?_
      refine go_getO (a := 178) dR_arrive_135 flR_53 rfl (hS.s sh_163) (hS.r rt_lKind) ?_
      refine go_bipush (nI 8) (by decide) dR_arrive_138 ?_
      refine go_iload_n dR_arrive_140 rfl rfl ?_
      first | refine go_imulN dR_arrive_141 ?_ | refine go_imul dR_arrive_141 ?_
      refine go_iload_n dR_arrive_142 rfl rfl ?_
      first | refine go_iaddN dR_arrive_143 ?_ | refine go_iadd dR_arrive_143 ?_
      refine go_ialV (hS.s sh_178) (by omega) (by decide) e8 dR_arrive_144 ?_
      refine go_aload_n dR_arrive_145 rfl rfl ?_
      refine go_getO (a := 180) dR_arrive_146 flR_59 rfl (hS.s sh_163) (hS.r rt_local) ?_
      refine go_iload_n dR_arrive_149 rfl rfl ?_
      refine go_ialV (hS.s sh_180) (by omega) (by decide) e0 dR_arrive_150 ?_
      refine go_icmp_ne dR_arrive_151 (tgt := 163) (by decide) (fun c151 => ?_) (fun c151 => ?_)
      · refine go_iconst (-1) (by decide) dR_arrive_163 ?_
        refine go_istore dR_arrive_164 (Nat.le_of_ble_eq_true rfl) ?_
        refine go_aload_n dR_arrive_166 rfl rfl ?_
        refine go_getO (a := 175) dR_arrive_167 flR_44 rfl (hS.s sh_163) (hS.r rt_come) ?_
        refine go_iload_n dR_arrive_170 rfl rfl ?_
        refine go_balV (hS.s sh_175) (by omega) (by decide) e5 dR_arrive_171 ?_
        refine go_if_eqB dR_arrive_172 (tgt := 196) (by decide) (fun c172 => ?_) (fun c172 => ?_)
        · refine go_aload_n dR_arrive_196 rfl rfl ?_
          refine go_getO (a := 178) dR_arrive_197 flR_53 rfl (hS.s sh_163) (hS.r rt_lKind) ?_
          refine go_bipush (nI 8) (by decide) dR_arrive_200 ?_
          refine go_iload_n dR_arrive_202 rfl rfl ?_
          first | refine go_imulN dR_arrive_203 ?_ | refine go_imul dR_arrive_203 ?_
          refine go_iload_n dR_arrive_204 rfl rfl ?_
          first | refine go_iaddN dR_arrive_205 ?_ | refine go_iadd dR_arrive_205 ?_
          refine go_iload dR_arrive_206 rfl ?_
          refine go_iastoreN (hS.s sh_178) (by omega) (by decide) dR_arrive_208 ?_
          first | refine go_inc dR_arrive_209 rfl ?_ | refine go_iinc dR_arrive_209 rfl ?_
          refine go_goto dR_arrive_212 (tgt := 119) (by decide) ?_
          first | exact key _ _ (Or.inl rfl) (l2v1 c131) (l2c1 c131 h21) | exact absurd (c131.symm.trans c172) (by decide) | exact absurd (c172.symm.trans c131) (by decide) | exact key _ _ (Or.inl rfl) (l2v2 c151) (l2c2 c151 h21) | exact absurd c151 (l2x c188) | exact key _ _ (Or.inl rfl) (l2v3 c131 c151) (l2c3 c131 c151 c188 h21) | exact key _ _ (Or.inr rfl) (l2v3 c131 c151) (l2c4 c131 c151 c188) | exact absurd c151 c188
        · refine go_aload_n dR_arrive_175 rfl rfl ?_
          refine go_getO (a := 178) dR_arrive_176 flR_53 rfl (hS.s sh_163) (hS.r rt_lKind) ?_
          refine go_bipush (nI 8) (by decide) dR_arrive_179 ?_
          refine go_iload_n dR_arrive_181 rfl rfl ?_
          first | refine go_imulN dR_arrive_182 ?_ | refine go_imul dR_arrive_182 ?_
          refine go_iload_n dR_arrive_183 rfl rfl ?_
          first | refine go_iaddN dR_arrive_184 ?_ | refine go_iadd dR_arrive_184 ?_
          refine go_ialV (hS.s sh_178) (by omega) (by decide) e8 dR_arrive_185 ?_
          refine go_iload dR_arrive_186 rfl ?_
          refine go_icmp_eq dR_arrive_188 (tgt := 196) (by decide) (fun c188 => ?_) (fun c188 => ?_)
          · refine go_aload_n dR_arrive_196 rfl rfl ?_
            refine go_getO (a := 178) dR_arrive_197 flR_53 rfl (hS.s sh_163) (hS.r rt_lKind) ?_
            refine go_bipush (nI 8) (by decide) dR_arrive_200 ?_
            refine go_iload_n dR_arrive_202 rfl rfl ?_
            first | refine go_imulN dR_arrive_203 ?_ | refine go_imul dR_arrive_203 ?_
            refine go_iload_n dR_arrive_204 rfl rfl ?_
            first | refine go_iaddN dR_arrive_205 ?_ | refine go_iadd dR_arrive_205 ?_
            refine go_iload dR_arrive_206 rfl ?_
            refine go_iastoreN (hS.s sh_178) (by omega) (by decide) dR_arrive_208 ?_
            first | refine go_inc dR_arrive_209 rfl ?_ | refine go_iinc dR_arrive_209 rfl ?_
            refine go_goto dR_arrive_212 (tgt := 119) (by decide) ?_
            first | exact key _ _ (Or.inl rfl) (l2v1 c131) (l2c1 c131 h21) | exact absurd (c131.symm.trans c172) (by decide) | exact absurd (c172.symm.trans c131) (by decide) | exact key _ _ (Or.inl rfl) (l2v2 c151) (l2c2 c151 h21) | exact absurd c151 (l2x c188) | exact key _ _ (Or.inl rfl) (l2v3 c131 c151) (l2c3 c131 c151 c188 h21) | exact key _ _ (Or.inr rfl) (l2v3 c131 c151) (l2c4 c131 c151 c188) | exact absurd c151 c188
          · refine go_aload_n dR_arrive_191 rfl rfl ?_
            refine go_iconst (am_b true) (by decide) dR_arrive_192 ?_
            refine go_putZ (am_b_01 _) dR_arrive_193 fpR_159 rfl (hS.s sh_163) ?_
            refine go_aload_n dR_arrive_196 rfl rfl ?_
            refine go_getO (a := 178) dR_arrive_197 flR_53 rfl (hS.s sh_163) (hS.r rt_lKind) ?_
            refine go_bipush (nI 8) (by decide) dR_arrive_200 ?_
            refine go_iload_n dR_arrive_202 rfl rfl ?_
            first | refine go_imulN dR_arrive_203 ?_ | refine go_imul dR_arrive_203 ?_
            refine go_iload_n dR_arrive_204 rfl rfl ?_
            first | refine go_iaddN dR_arrive_205 ?_ | refine go_iadd dR_arrive_205 ?_
            refine go_iload dR_arrive_206 rfl ?_
            refine go_iastoreN (hS.s sh_178) (by omega) (by decide) dR_arrive_208 ?_
            first | refine go_inc dR_arrive_209 rfl ?_ | refine go_iinc dR_arrive_209 rfl ?_
            refine go_goto dR_arrive_212 (tgt := 119) (by decide) ?_
            first | exact key _ _ (Or.inl rfl) (l2v1 c131) (l2c1 c131 h21) | exact absurd (c131.symm.trans c172) (by decide) | exact absurd (c172.symm.trans c131) (by decide) | exact key _ _ (Or.inl rfl) (l2v2 c151) (l2c2 c151 h21) | exact absurd c151 (l2x c188) | exact key _ _ (Or.inl rfl) (l2v3 c131 c151) (l2c3 c131 c151 c188 h21) | exact key _ _ (Or.inr rfl) (l2v3 c131 c151) (l2c4 c131 c151 c188) | exact absurd c151 c188
      · refine go_aload_n dR_arrive_154 rfl rfl ?_
        refine go_getO (a := 180) dR_arrive_155 flR_59 rfl (hS.s sh_163) (hS.r rt_local) ?_
        refine go_iload_n dR_arrive_158 rfl rfl ?_
        refine go_ialV (hS.s sh_180) (by omega) (by decide) e0 dR_arrive_159 ?_
        refine go_goto dR_arrive_160 (tgt := 164) (by decide) ?_
        refine go_istore dR_arrive_164 (Nat.le_of_ble_eq_true rfl) ?_
        refine go_aload_n dR_arrive_166 rfl rfl ?_
        refine go_getO (a := 175) dR_arrive_167 flR_44 rfl (hS.s sh_163) (hS.r rt_come) ?_
        refine go_iload_n dR_arrive_170 rfl rfl ?_
        refine go_balV (hS.s sh_175) (by omega) (by decide) e5 dR_arrive_171 ?_
        refine go_if_eqB dR_arrive_172 (tgt := 196) (by decide) (fun c172 => ?_) (fun c172 => ?_)
        · refine go_aload_n dR_arrive_196 rfl rfl ?_
          refine go_getO (a := 178) dR_arrive_197 flR_53 rfl (hS.s sh_163) (hS.r rt_lKind) ?_
          refine go_bipush (nI 8) (by decide) dR_arrive_200 ?_
          refine go_iload_n dR_arrive_202 rfl rfl ?_
          first | refine go_imulN dR_arrive_203 ?_ | refine go_imul dR_arrive_203 ?_
          refine go_iload_n dR_arrive_204 rfl rfl ?_
          first | refine go_iaddN dR_arrive_205 ?_ | refine go_iadd dR_arrive_205 ?_
          refine go_iload dR_arrive_206 rfl ?_
          refine go_iastoreN (hS.s sh_178) (by omega) (by decide) dR_arrive_208 ?_
          first | refine go_inc dR_arrive_209 rfl ?_ | refine go_iinc dR_arrive_209 rfl ?_
          refine go_goto dR_arrive_212 (tgt := 119) (by decide) ?_
          first | exact key _ _ (Or.inl rfl) (l2v1 c131) (l2c1 c131 h21) | exact absurd (c131.symm.trans c172) (by decide) | exact absurd (c172.symm.trans c131) (by decide) | exact key _ _ (Or.inl rfl) (l2v2 c151) (l2c2 c151 h21) | exact absurd c151 (l2x c188) | exact key _ _ (Or.inl rfl) (l2v3 c131 c151) (l2c3 c131 c151 c188 h21) | exact key _ _ (Or.inr rfl) (l2v3 c131 c151) (l2c4 c131 c151 c188) | exact absurd c151 c188
        · refine go_aload_n dR_arrive_175 rfl rfl ?_
          refine go_getO (a := 178) dR_arrive_176 flR_53 rfl (hS.s sh_163) (hS.r rt_lKind) ?_
          refine go_bipush (nI 8) (by decide) dR_arrive_179 ?_
          refine go_iload_n dR_arrive_181 rfl rfl ?_
          first | refine go_imulN dR_arrive_182 ?_ | refine go_imul dR_arrive_182 ?_
          refine go_iload_n dR_arrive_183 rfl rfl ?_
          first | refine go_iaddN dR_arrive_184 ?_ | refine go_iadd dR_arrive_184 ?_
          refine go_ialV (hS.s sh_178) (by omega) (by decide) e8 dR_arrive_185 ?_
          refine go_iload dR_arrive_186 rfl ?_
          refine go_icmp_eq dR_arrive_188 (tgt := 196) (by decide) (fun c188 => ?_) (fun c188 => ?_)
          · refine go_aload_n dR_arrive_196 rfl rfl ?_
            refine go_getO (a := 178) dR_arrive_197 flR_53 rfl (hS.s sh_163) (hS.r rt_lKind) ?_
            refine go_bipush (nI 8) (by decide) dR_arrive_200 ?_
            refine go_iload_n dR_arrive_202 rfl rfl ?_
            first | refine go_imulN dR_arrive_203 ?_ | refine go_imul dR_arrive_203 ?_
            refine go_iload_n dR_arrive_204 rfl rfl ?_
            first | refine go_iaddN dR_arrive_205 ?_ | refine go_iadd dR_arrive_205 ?_
            refine go_iload dR_arrive_206 rfl ?_
            refine go_iastoreN (hS.s sh_178) (by omega) (by decide) dR_arrive_208 ?_
            first | refine go_inc dR_arrive_209 rfl ?_ | refine go_iinc dR_arrive_209 rfl ?_
            refine go_goto dR_arrive_212 (tgt := 119) (by decide) ?_
            first | exact key _ _ (Or.inl rfl) (l2v1 c131) (l2c1 c131 h21) | exact absurd (c131.symm.trans c172) (by decide) | exact absurd (c172.symm.trans c131) (by decide) | exact key _ _ (Or.inl rfl) (l2v2 c151) (l2c2 c151 h21) | exact absurd c151 (l2x c188) | exact key _ _ (Or.inl rfl) (l2v3 c131 c151) (l2c3 c131 c151 c188 h21) | exact key _ _ (Or.inr rfl) (l2v3 c131 c151) (l2c4 c131 c151 c188) | exact absurd c151 c188
          · refine go_aload_n dR_arrive_191 rfl rfl ?_
            refine go_iconst (am_b true) (by decide) dR_arrive_192 ?_
            refine go_putZ (am_b_01 _) dR_arrive_193 fpR_159 rfl (hS.s sh_163) ?_
            refine go_aload_n dR_arrive_196 rfl rfl ?_
            refine go_getO (a := 178) dR_arrive_197 flR_53 rfl (hS.s sh_163) (hS.r rt_lKind) ?_
            refine go_bipush (nI 8) (by decide) dR_arrive_200 ?_
            refine go_iload_n dR_arrive_202 rfl rfl ?_
            first | refine go_imulN dR_arrive_203 ?_ | refine go_imul dR_arrive_203 ?_
            refine go_iload_n dR_arrive_204 rfl rfl ?_
            first | refine go_iaddN dR_arrive_205 ?_ | refine go_iadd dR_arrive_205 ?_
            refine go_iload dR_arrive_206 rfl ?_
            refine go_iastoreN (hS.s sh_178) (by omega) (by decide) dR_arrive_208 ?_
            first | refine go_inc dR_arrive_209 rfl ?_ | refine go_iinc dR_arrive_209 rfl ?_
            refine go_goto dR_arrive_212 (tgt := 119) (by decide) ?_
            first | exact key _ _ (Or.inl rfl) (l2v1 c131) (l2c1 c131 h21) | exact absurd (c131.symm.trans c172) (by decide) | exact absurd (c172.symm.trans c131) (by decide) | exact key _ _ (Or.inl rfl) (l2v2 c151) (l2c2 c151 h21) | exact absurd c151 (l2x c188) | exact key _ _ (Or.inl rfl) (l2v3 c131 c151) (l2c3 c131 c151 c188 h21) | exact key _ _ (Or.inr rfl) (l2v3 c131 c151) (l2c4 c131 c151 c188) | exact absurd c151 c188
