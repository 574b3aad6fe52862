def kO (k : Option Nat) : Int32 := match k with
  | none => -2
  | some x => nI x
def fB (x : fS) : Prop := x.1 ≤ 8 ∧ (∀ i, i < x.1 → x.2.1 i < 200) ∧ ∀ i, i < 8 → ∀ k, x.2.2 i = some k → k < 200
/-- the class's 'now' holds x -/
def nowC (G : am_G) (x : fS) : Prop := G.2.1 102 7 = nI x.1 ∧ (∀ i, i < x.1 → G.2.1 107 i = nI (x.2.1 i)) ∧ ∀ i, i < 8 → G.2.1 107 (8 + i) = kO (x.2.2 i)
def wOK (G : am_G) (c : Bool) (r : Option fS) : Prop := match r with
  | some y => nowC G y ∧ fB y ∧ G.2.1 102 9 = am_b c
  | none => G.2.1 102 9 = am_b true ∧ ∃ e, e ≤ 8 ∧ G.2.1 102 7 = nI e
def oC (G G' : am_G) : Prop := oR (fun i => i = 102 ∨ i = 107) G G' ∧ ∀ k, k ≠ 7 → k ≠ 9 → G'.2.1 102 k = G.2.1 102 k
theorem oC.rf {G : am_G} : oC G G := ⟨oR.rf, fun _ _ _ => rfl⟩
theorem oC.tr {G G1 G2 : am_G} (h1 : oC G G1) (h2 : oC G1 G2) : oC G G2 := ⟨h1.1.tr h2.1, fun k a b => (h2.2 k a b).trans (h1.2 k a b)⟩
theorem oC.n {G : am_G} {k : Nat} {x : Int32} : oC G (am_wi G 107 k x) := ⟨oR.wi (Or.inr rfl), fun _ _ _ => by rw [wi_I (by decide)]⟩
theorem oC.d {G : am_G} {x : Int32} : oC G (am_wi G 102 7 x) := ⟨oR.wi (Or.inl rfl), fun _ h _ => wi_In h⟩
theorem oC.w {G : am_G} {x : Int32} : oC G (am_wi G 102 9 x) := ⟨oR.wi (Or.inl rfl), fun _ _ h => wi_In h⟩
theorem oC.St {G G1 : am_G} (h : oC G G1) (hs : St0 G) : St0 G1 := h.1.St hs
theorem wOK.dep {G : am_G} {c : Bool} {r : Option fS} (h : wOK G c r) : ∃ e, e ≤ 8 ∧ G.2.1 102 7 = nI e ∧ ∀ x, r = some x → x.1 = e := by
  cases r with
  | none =>
    obtain ⟨-, e, h1, h2⟩ := h
    exact ⟨e, h1, h2, fun x hx => by cases hx⟩
  | some y =>
    obtain ⟨h1, h2, -⟩ := h
    exact ⟨y.1, h2.1, h1.1, fun x hx => by cases hx; rfl⟩
theorem wOK.flag {G : am_G} {c : Bool} {r : Option fS} (h : wOK G c r) : ∃ b, G.2.1 102 9 = am_b b ∧ (r = none → b = true) := by
  cases r with
  | none => exact ⟨true, h.1, fun _ => rfl⟩
  | some y => exact ⟨c, h.2.2, fun e => by cases e⟩
/-- the flag is set -/
theorem wOK.bad {G : am_G} {e : Nat} (he : e ≤ 8) (hd : G.2.1 102 7 = nI e) {c : Bool} : wOK (am_wi G 102 9 (am_b true)) c none := ⟨wi_Is, e, he, by rw [wi_In (by decide)]; exact hd⟩
theorem wOK.full {G : am_G} {c : Bool} {r : Option fS} {e k : Nat} (h : wOK G c r) (he : ∀ x, r = some x → x.1 = e) (h8 : 8 ≤ e) (hb : e ≤ 8) (hd : G.2.1 102 7 = nI e) : wOK (am_wi G 102 9 (am_b true)) c (r.bind (fGive k)) := by
  have : r.bind (fGive k) = none := by
    cases r with
    | none => rfl
    | some x =>
      show fGive k x = none
      unfold fGive
      rw [if_neg (by have := he x rfl; omega)]
  rw [this]
  exact wOK.bad hb hd
theorem wOK.give {G : am_G} {c : Bool} {r : Option fS} {e k : Nat} {v : Int32} (h : wOK G c r) (he : ∀ x, r = some x → x.1 = e) (h8 : e < 8) (hv : r ≠ none → v = nI k ∧ k < 200) : wOK (am_wi (am_wi G 107 e v) 102 7 (nI (e + 1))) c (r.bind (fGive k)) := by
  cases r with
  | none => exact ⟨by rw [wi_In (by decide), wi_I (by decide)]; exact h.1, e + 1, by omega, wi_Is⟩
  | some x =>
    obtain ⟨⟨d1, d2, d3⟩, ⟨b1, b2, b3⟩, hw⟩ := h
    obtain ⟨rfl, hk⟩ := hv (fun q => by cases q)
    have e1 := he x rfl
    subst e1
    have : (some x).bind (fGive k) = some (x.1 + 1, va_up x.2.1 x.1 k, x.2.2) := by
      show fGive k x = _
      unfold fGive
      rw [if_pos h8]
    rw [this]
    refine ⟨⟨wi_Is, fun i hi => ?_, fun i hi => ?_⟩, ⟨by show x.1 + 1 ≤ 8; omega, fun i hi => ?_, b3⟩, ?_⟩
    · have hi : i < x.1 + 1 := hi
      rw [wi_I (by decide), wi_at]
      show _ = nI (va_up x.2.1 x.1 k i)
      by_cases q : i = x.1
      · rw [if_pos q, q, am_up_eq]
      · rw [if_neg q, am_up_ne q]; exact d2 i (by omega)
    · rw [wi_I (by decide), wi_In (by omega)]; exact d3 i hi
    · have hi : i < x.1 + 1 := hi
      show va_up x.2.1 x.1 k i < 200
      by_cases q : i = x.1
      · rw [q, am_up_eq]; exact hk
      · rw [am_up_ne q]; exact b2 i (by omega)
    · rw [wi_In (by decide), wi_I (by decide)]; exact hw
/-- what takeAny gives: v -/
def anyV (G : am_G) (c : Bool) (r : Option fS) (v : Int32) : Prop := match r.bind fAny with
  | some q => v = nI q.1 ∧ q.1 < 200 ∧ wOK G c (some q.2)
  | none => wOK G c none
theorem wOK.empty {G : am_G} {c : Bool} {r : Option fS} {e : Nat} (h : wOK G c r) (he : ∀ x, r = some x → x.1 = e) (h0 : e = 0) (hd : G.2.1 102 7 = nI e) {v : Int32} : anyV (am_wi G 102 9 (am_b true)) c r v := by
  have : r.bind fAny = none := by
    cases r with
    | none => rfl
    | some x =>
      show fAny x = none
      unfold fAny
      rw [if_pos (by rw [he x rfl, h0])]
  unfold anyV
  rw [this]
  exact wOK.bad (by omega) hd
theorem wOK.any {G : am_G} {c : Bool} {r : Option fS} {e : Nat} (h : wOK G c r) (he : ∀ x, r = some x → x.1 = e) (h0 : ¬ e = 0) (h8 : e ≤ 8) : anyV (am_wi G 102 7 (nI (e - 1))) c r (G.2.1 107 (e - 1)) := by
  unfold anyV
  cases r with
  | none => exact ⟨by rw [wi_In (by decide)]; exact h.1, e - 1, by omega, wi_Is⟩
  | some x =>
    obtain ⟨⟨d1, d2, d3⟩, ⟨b1, b2, b3⟩, hw⟩ := h
    have e1 := he x rfl
    subst e1
    have : (some x).bind fAny = some (x.2.1 (x.1 - 1), (x.1 - 1, x.2)) := by
      show fAny x = _
      unfold fAny
      rw [if_neg h0]
    rw [this]
    refine ⟨d2 _ (by omega), b2 _ (by omega), ⟨wi_Is, fun i hi => ?_, fun i hi => ?_⟩, ⟨by show x.1 - 1 ≤ 8; omega, fun i hi => b2 i (by have hi : i < x.1 - 1 := hi; omega), b3⟩, by rw [wi_In (by decide)]; exact hw⟩
    · rw [wi_I (by decide)]; exact d2 i (by have hi : i < x.1 - 1 := hi; omega)
    · rw [wi_I (by decide)]; exact d3 i hi
theorem anyV.dep {G : am_G} {c : Bool} {r : Option fS} {v : Int32} (h : anyV G c r v) : ∃ e, e ≤ 8 ∧ G.2.1 102 7 = nI e := by
  unfold anyV at h
  cases q : r.bind fAny with
  | none => rw [q] at h; obtain ⟨e, h1, h2, -⟩ := wOK.dep h; exact ⟨e, h1, h2⟩
  | some u => rw [q] at h; obtain ⟨e, h1, h2, -⟩ := wOK.dep h.2.2; exact ⟨e, h1, h2⟩
theorem anyV.take {G : am_G} {c : Bool} {r : Option fS} {k : Nat} {v : Int32} (hk : k < 200) (h : anyV G c r v) (e : v = nI k) : wOK G c (r.bind (fTake k)) := by
  have : r.bind (fTake k) = (r.bind fAny).bind fun q => if q.1 = k then some q.2 else none := by
    cases r with
    | none => rfl
    | some x =>
      show fTake k x = (fAny x).bind _
      unfold fTake fAny
      by_cases h0 : x.1 = 0
      · rw [if_pos h0, if_pos h0]; rfl
      · rw [if_neg h0, if_neg h0]; rfl
  rw [this]
  unfold anyV at h
  cases q : r.bind fAny with
  | none => rw [q] at h; exact h
  | some u =>
    rw [q] at h
    show wOK G c (if u.1 = k then some u.2 else none)
    rw [if_pos ((nI_eq (by omega) (by omega)).mp (h.1.symm.trans e))]
    exact h.2.2
theorem anyV.ntake {G : am_G} {c : Bool} {r : Option fS} {k : Nat} {v : Int32} (h : anyV G c r v) (e : ¬ v = nI k) : wOK (am_wi G 102 9 (am_b true)) c (r.bind (fTake k)) := by
  have : r.bind (fTake k) = none := by
    cases r with
    | none => rfl
    | some x =>
      show fTake k x = none
      unfold anyV at h
      have e2 : (some x).bind fAny = fAny x := rfl
      rw [e2] at h
      unfold fTake
      unfold fAny at h
      by_cases h0 : x.1 = 0
      · rw [if_pos h0]
      · rw [if_neg h0] at h
        rw [if_neg h0, if_neg (fun q => e (by rw [h.1]; exact congrArg nI q))]
  rw [this]
  obtain ⟨d, h1, h2⟩ := h.dep
  exact wOK.bad h1 h2
theorem anyV.ok {G : am_G} {c : Bool} {r : Option fS} {v : Int32} (h : anyV G c r v) : wOK G c ((r.bind fAny).map fun q => q.2) := by
  unfold anyV at h
  cases q : r.bind fAny with
  | none => rw [q] at h; exact h
  | some u => rw [q] at h; exact h.2.2

set_option maxRecDepth 100000 in
theorem okC_give (w : am_W) {d : Nat} (G : am_G) (c : Bool) (y : Option fS) (k : Nat) (v : Int32) (hS : St0 G) (h : wOK G c y) (hv : y ≠ none → v = nI k ∧ k < 200) : am_Ok w jC_give d (0, 0) [.inr (some 102), .inl v] G (fun r G' => r = none ∧ wOK G' c (y.bind (fGive k)) ∧ oC G G') := by
  refine am_ok_of rfl (Nat.le_of_ble_eq_true rfl) ?_
  show am_Go w jC_give d (0, 0) 0 [some (.inr (some 102)), some (.inl v)] [] G _
  have q1 : G.1[102]? = some (0, 3) := hS.s rfl
  have q2 : G.1[107]? = some (1, 16) := hS.s rfl
  have q3 : G.2.2 102 5 = some 107 := hS.r (by decide +kernel)
  obtain ⟨e, h8, hdp, he⟩ := h.dep
  refine go_aload_n dC_give_0 rfl rfl ?_
  refine go_getV dC_give_1 flC_79 rfl (by assumption) (by first | assumption | (simp (disch := omega) only [wi_I, ro_I, wi_In, wi_Is]; done) | (simp (disch := omega) only [wi_I, ro_I, wi_In, wi_Is]; first | assumption | rfl) | rfl) ?_
  refine go_bipush (nI 8) (by decide) dC_give_4 ?_
  refine go_icmp_ltN (by omega) (by omega) dC_give_6 (tgt := 15) (by decide) (fun c6 => ?_) (fun c6 => ?_)
  · refine go_aload_n dC_give_15 rfl rfl ?_
    refine go_getO dC_give_16 flC_25 rfl (by assumption) (by assumption) ?_
    refine go_aload_n dC_give_19 rfl rfl ?_
    refine go_getV dC_give_20 flC_79 rfl (by assumption) (by first | assumption | (simp (disch := omega) only [wi_I, ro_I, wi_In, wi_Is]; done) | (simp (disch := omega) only [wi_I, ro_I, wi_In, wi_Is]; first | assumption | rfl) | rfl) ?_
    refine go_iload_n dC_give_23 rfl rfl ?_
    refine go_iastoreN (by assumption) (by omega) (by decide) dC_give_24 ?_
    refine go_aload_n dC_give_25 rfl rfl ?_
    refine go_dup dC_give_26 ?_
    refine go_getV dC_give_27 flC_79 rfl (by assumption) (by first | assumption | (simp (disch := omega) only [wi_I, ro_I, wi_In, wi_Is]; done) | (simp (disch := omega) only [wi_I, ro_I, wi_In, wi_Is]; first | assumption | rfl) | rfl) ?_
    refine go_iconst (nI 1) (by decide) dC_give_30 ?_
    refine go_iadd dC_give_31 ?_
    rw [nI_add]
    refine go_putI dC_give_32 fpC_79 rfl (by assumption) ?_
    refine go_return rfl dC_give_35 ?_
    first | exact ⟨rfl, h.full he c6 h8 hdp, oC.w⟩ | exact ⟨rfl, h.give he c6 hv, oC.n.tr oC.d⟩
  · refine go_aload_n dC_give_9 rfl rfl ?_
    refine go_iconst (am_b true) (by decide) dC_give_10 ?_
    refine go_putZ (am_b_01 _) dC_give_11 fpC_41 rfl (by assumption) ?_
    refine go_return rfl dC_give_14 ?_
    first | exact ⟨rfl, h.full he c6 h8 hdp, oC.w⟩ | exact ⟨rfl, h.give he c6 hv, oC.n.tr oC.d⟩
set_option maxRecDepth 100000 in
theorem okC_takeAny (w : am_W) {d : Nat} (G : am_G) (c : Bool) (y : Option fS) (hS : St0 G) (h : wOK G c y) : am_Ok w jC_takeAny d (0, 0) [.inr (some 102)] G (fun r G' => ∃ v, r = some (.inl v) ∧ anyV G' c y v ∧ oC G G') := by
  refine am_ok_of rfl (Nat.le_of_ble_eq_true rfl) ?_
  show am_Go w jC_takeAny d (0, 0) 0 [some (.inr (some 102))] [] G _
  have q1 : G.1[102]? = some (0, 3) := hS.s rfl
  have q2 : G.1[107]? = some (1, 16) := hS.s rfl
  have q3 : G.2.2 102 5 = some 107 := hS.r (by decide +kernel)
  obtain ⟨e, h8, hdp, he⟩ := h.dep
  refine go_aload_n dC_takeAny_0 rfl rfl ?_
  refine go_getV dC_takeAny_1 flC_79 rfl (by assumption) (by first | assumption | (simp (disch := omega) only [wi_I, ro_I, wi_In, wi_Is]; done) | (simp (disch := omega) only [wi_I, ro_I, wi_In, wi_Is]; first | assumption | rfl) | rfl) ?_
  refine go_if_neN (by omega) dC_takeAny_4 (tgt := 15) (by decide) (fun c4 => ?_) (fun c4 => ?_)
  · refine go_aload_n dC_takeAny_15 rfl rfl ?_
    refine go_dup dC_takeAny_16 ?_
    refine go_getV dC_takeAny_17 flC_79 rfl (by assumption) (by first | assumption | (simp (disch := omega) only [wi_I, ro_I, wi_In, wi_Is]; done) | (simp (disch := omega) only [wi_I, ro_I, wi_In, wi_Is]; first | assumption | rfl) | rfl) ?_
    refine go_iconst (nI 1) (by decide) dC_takeAny_20 ?_
    refine go_isub dC_takeAny_21 ?_
    rw [pk_sub (by omega)]
    refine go_putI dC_takeAny_22 fpC_79 rfl (by assumption) ?_
    refine go_aload_n dC_takeAny_25 rfl rfl ?_
    refine go_getO dC_takeAny_26 flC_25 rfl (by assumption) (by assumption) ?_
    refine go_aload_n dC_takeAny_29 rfl rfl ?_
    refine go_getV (v := nI (e - 1)) dC_takeAny_30 flC_79 rfl q1 wi_Is ?_
    refine go_ialoadN q2 (by omega) (by decide) dC_takeAny_33 ?_
    rw [wi_I (by decide)]
    refine go_ireturn rfl dC_takeAny_34 ?_
    first | exact ⟨_, rfl, h.empty he c4 hdp, oC.w⟩ | exact ⟨_, rfl, h.any he c4 h8, oC.d⟩
  · refine go_aload_n dC_takeAny_7 rfl rfl ?_
    refine go_iconst (am_b true) (by decide) dC_takeAny_8 ?_
    refine go_putZ (am_b_01 _) dC_takeAny_9 fpC_41 rfl (by assumption) ?_
    refine go_bipush (-2) (by decide) dC_takeAny_12 ?_
    refine go_ireturn rfl dC_takeAny_14 ?_
    first | exact ⟨_, rfl, h.empty he c4 hdp, oC.w⟩ | exact ⟨_, rfl, h.any he c4 h8, oC.d⟩
set_option maxRecDepth 100000 in
theorem okC_take (w : am_W) {d : Nat} (hd : 1 ≤ d) (G : am_G) (c : Bool) (y : Option fS) (k : Nat) (hk : k < 200) (hS : St0 G) (h : wOK G c y) : am_Ok w jC_take d (0, 0) [.inr (some 102), .inl (nI k)] G (fun r G' => r = none ∧ wOK G' c (y.bind (fTake k)) ∧ oC G G') := by
  refine am_ok_of rfl (Nat.le_of_ble_eq_true rfl) ?_
  show am_Go w jC_take d (0, 0) 0 [some (.inr (some 102)), some (.inl (nI k))] [] G _
  have q1 : G.1[102]? = some (0, 3) := hS.s rfl
  have q2 : G.1[107]? = some (1, 16) := hS.s rfl
  have q3 : G.2.2 102 5 = some 107 := hS.r (by decide +kernel)
  refine go_aload_n dC_take_0 rfl rfl ?_
  refine go_cV (k' := (0, 0)) dC_take_1 _ csC_114 (by assumption) rfl imC_takeAny seC_takeAny rfl (okC_takeAny (d := 0) w G c y hS h) (by omega) (by decide) (Nat.le_of_ble_eq_true rfl) (fun r G1 hr hn => ?_)
  obtain ⟨v, rfl, hv, ho⟩ := hr
  clear hn
  have q1 : G1.1[102]? = some (0, 3) := (ho.St hS).s rfl
  refine go_iload_n dC_take_4 rfl rfl ?_
  refine go_icmp_eq dC_take_5 (tgt := 13) (by decide) (fun c5 => ?_) (fun c5 => ?_)
  · refine go_return rfl dC_take_13 ?_
    first | exact ⟨rfl, hv.take hk c5, ho⟩ | exact ⟨rfl, hv.ntake c5, ho.tr oC.w⟩
  · refine go_aload_n dC_take_8 rfl rfl ?_
    refine go_iconst (am_b true) (by decide) dC_take_9 ?_
    refine go_putZ (am_b_01 _) dC_take_10 fpC_41 rfl (by assumption) ?_
    refine go_return rfl dC_take_13 ?_
    first | exact ⟨rfl, hv.take hk c5, ho⟩ | exact ⟨rfl, hv.ntake c5, ho.tr oC.w⟩
theorem fTakes_s (n : Nat) (y : Option fS) : y.bind (fTakes (n + 1)) = (y.bind (fTake 0)).bind (fTakes n) := by
  cases y <;> rfl
set_option maxRecDepth 100000 in
theorem C_ploop (w : am_W) {d : Nat} (hd : 2 ≤ d) (c : Bool) (n : Nat) (hn : n < 1000) (G0 : am_G) : ∀ (r k : Nat) (G : am_G) (y : Option fS), k + r = n → St0 G → oC G0 G → wOK G c y →
    am_Go w jC_passArguments d (0, 0) 2 [some (.inr (some 102)), some (.inl (nI n)), some (.inl (nI k))] [] G (fun rr G' => rr = none ∧ wOK G' c ((y.bind (fTakes r)).bind (fGive 0)) ∧ oC G0 G') := by
  intro r
  induction r with
  | zero =>
    intro k G y hk hS ho h
    have q1 : G.1[102]? = some (0, 3) := hS.s rfl
    have e : y.bind (fTakes 0) = y := by cases y <;> rfl
    rw [e]
    refine go_iload_n dC_passArguments_2 rfl rfl ?_
    refine go_iload_n dC_passArguments_3 rfl rfl ?_
    refine go_icmp_geN (by omega) (by omega) dC_passArguments_4 (tgt := 18) (by decide) (fun c1 => ?_) (fun c1 => absurd c1 (by omega))
    refine go_aload_n dC_passArguments_18 rfl rfl ?_
    refine go_iconst (nI 0) (by decide) dC_passArguments_19 ?_
    refine go_cV (k' := (0, 0)) dC_passArguments_20 [.inl (nI 0)] csC_111 q1 rfl imC_give seC_give rfl (okC_give (d := 0) w G c y 0 (nI 0) hS h (fun _ => ⟨rfl, by decide⟩)) (by omega) (by decide) (Nat.le_of_ble_eq_true rfl) (fun r1 G1 hr hn1 => ?_)
    obtain ⟨rfl, h1, h2⟩ := hr
    exact go_return rfl dC_passArguments_23 ⟨rfl, h1, ho.tr h2⟩
  | succ r ih =>
    intro k G y hk hS ho h
    have q1 : G.1[102]? = some (0, 3) := hS.s rfl
    refine go_iload_n dC_passArguments_2 rfl rfl ?_
    refine go_iload_n dC_passArguments_3 rfl rfl ?_
    refine go_icmp_geN (by omega) (by omega) dC_passArguments_4 (tgt := 18) (by decide) (fun c1 => absurd c1 (by omega)) (fun c1 => ?_)
    refine go_aload_n dC_passArguments_7 rfl rfl ?_
    refine go_iconst (nI 0) (by decide) dC_passArguments_8 ?_
    refine go_cV (k' := (0, 0)) dC_passArguments_9 [.inl (nI 0)] csC_108 q1 rfl imC_take seC_take rfl (okC_take (d := 1) w (by decide) G _ y 0 (by decide) hS h) (by omega) (by decide) (Nat.le_of_ble_eq_true rfl) (fun r1 G1 hr hn1 => ?_)
    obtain ⟨rfl, h1, h2⟩ := hr
    refine go_inc dC_passArguments_12 rfl ?_
    refine go_goto dC_passArguments_15 (tgt := 2) (by decide) ?_
    rw [fTakes_s]
    exact ih (k + 1) G1 _ (by omega) (h2.St hS) (ho.tr h2) h1
theorem okC_passArguments (w : am_W) {d : Nat} (hd : 2 ≤ d) (G : am_G) (c : Bool) (y : Option fS) (n : Nat) (hn : n < 1000) (hS : St0 G) (h : wOK G c y) : am_Ok w jC_passArguments d (0, 0) [.inr (some 102), .inl (nI n)] G (fun r G' => r = none ∧ wOK G' c ((y.bind (fTakes n)).bind (fGive 0)) ∧ oC G G') := by
  refine am_ok_of rfl (Nat.le_of_ble_eq_true rfl) ?_
  show am_Go w jC_passArguments d (0, 0) 0 [some (.inr (some 102)), some (.inl (nI n)), none] [] G _
  refine go_iconst (nI 0) (by decide) dC_passArguments_0 ?_
  refine go_istore_n dC_passArguments_1 rfl (Nat.le_of_ble_eq_true rfl) ?_
  exact C_ploop w hd c n hn G n 0 G y (by omega) hS oC.rf h
