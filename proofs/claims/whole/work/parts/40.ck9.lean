/-! THE REFERENCE'S CHECKER. -/
def kR (k : Option Nat) : Int32 := match k with
  | none => -1
  | some x => nI x
def kV (k : Nat) : Prop := k = 0 ∨ k = 1 ∨ 10 ≤ k
def fK (x : fS) : Prop := (∀ i, i < x.1 → kV (x.2.1 i)) ∧ ∀ i, i < 8 → ∀ k, x.2.2 i = some k → kV k
/-- the reference's kind, local, depth hold x -/
def nowR (G : am_G) (x : fS) : Prop := G.2.1 163 18 = nI x.1 ∧ (∀ i, i < x.1 → G.2.1 179 i = nI (x.2.1 i)) ∧ ∀ i, i < 8 → G.2.1 180 i = kR (x.2.2 i)
def wR (G : am_G) (r : Option fS) : Prop := match r with
  | some y => nowR G y ∧ fB y ∧ fK y ∧ G.2.1 163 20 = am_b true
  | none => G.2.1 163 20 = am_b false ∧ ∃ e, e ≤ 8 ∧ G.2.1 163 18 = nI e
def oN (G G' : am_G) : Prop := oR (fun i => i = 163 ∨ i = 179 ∨ i = 180) G G' ∧ ∀ k, k ≠ 18 → k ≠ 20 → G'.2.1 163 k = G.2.1 163 k
theorem oN.rf {G : am_G} : oN G G := ⟨oR.rf, fun _ _ _ => rfl⟩
theorem oN.tr {G G1 G2 : am_G} (h1 : oN G G1) (h2 : oN G1 G2) : oN G G2 := ⟨h1.1.tr h2.1, fun k a b => (h2.2 k a b).trans (h1.2 k a b)⟩
theorem oN.n {G : am_G} {k : Nat} {x : Int32} : oN G (am_wi G 179 k x) := ⟨oR.wi (Or.inr (Or.inl rfl)), fun _ _ _ => by rw [wi_I (by decide)]⟩
theorem oN.l {G : am_G} {k : Nat} {x : Int32} : oN G (am_wi G 180 k x) := ⟨oR.wi (Or.inr (Or.inr rfl)), fun _ _ _ => by rw [wi_I (by decide)]⟩
theorem oN.d {G : am_G} {x : Int32} : oN G (am_wi G 163 18 x) := ⟨oR.wi (Or.inl rfl), fun _ h _ => wi_In h⟩
theorem oN.w {G : am_G} {x : Int32} : oN G (am_wi G 163 20 x) := ⟨oR.wi (Or.inl rfl), fun _ _ h => wi_In h⟩
theorem oN.St {G G1 : am_G} (h : oN G G1) (hs : St0 G) : St0 G1 := h.1.St hs
theorem wR.dep {G : am_G} {r : Option fS} (h : wR G r) : ∃ e, e ≤ 8 ∧ G.2.1 163 18 = nI e ∧ ∀ x, r = some x → x.1 = e := by
  cases r with
  | none =>
    obtain ⟨-, e, h1, h2⟩ := h
    exact ⟨e, h1, h2, fun x hx => by cases hx⟩
  | some y =>
    obtain ⟨h1, h2, -⟩ := h
    exact ⟨y.1, h2.1, h1.1, fun x hx => by cases hx; rfl⟩
theorem wR.flag {G : am_G} {r : Option fS} (h : wR G r) : G.2.1 163 20 = am_b r.isSome := by
  cases r with
  | none => exact h.1
  | some y => exact h.2.2.2
section Wr
variable {G : am_G} {r : Option fS} {e k : Nat}
theorem wR.bad (he : e ≤ 8) (hd : G.2.1 163 18 = nI e) : wR (am_wi G 163 20 (am_b false)) none := ⟨wi_Is, e, he, by rw [wi_In (by decide)]; exact hd⟩
theorem wR.full (he : ∀ x, r = some x → x.1 = e) (h8 : e = 8) (hd : G.2.1 163 18 = nI e) : wR (am_wi G 163 20 (am_b false)) (r.bind (fGive k)) := by
  have : r.bind (fGive k) = none := by
    cases r with
    | none => rfl
    | some x =>
      show fGive k x = none
      unfold fGive
      rw [if_neg (by have := he x rfl; omega)]
  rw [this]
  exact wR.bad (by omega) hd
theorem wR.give {v : Int32} (h : wR G r) (he : ∀ x, r = some x → x.1 = e) (h8 : e < 8) (hv : r ≠ none → v = nI k ∧ k < 200 ∧ kV k) : wR (am_wi (am_wi G 179 e v) 163 18 (nI (e + 1))) (r.bind (fGive k)) := by
  cases r with
  | none => exact ⟨by rw [wi_In (by decide), wi_I (by decide)]; exact h.1, e + 1, by omega, wi_Is⟩
  | some x =>
    obtain ⟨⟨d1, d2, d3⟩, ⟨b1, b2, b3⟩, ⟨k1, k2⟩, hw⟩ := h
    obtain ⟨rfl, hk, hkv⟩ := hv (fun q => by cases q)
    have e1 := he x rfl
    subst e1
    have : (some x).bind (fGive k) = some (x.1 + 1, va_up x.2.1 x.1 k, x.2.2) := by
      show fGive k x = _
      unfold fGive
      rw [if_pos h8]
    rw [this]
    refine ⟨⟨wi_Is, fun i hi => ?_, fun i hi => ?_⟩, ⟨by show x.1 + 1 ≤ 8; omega, fun i hi => ?_, b3⟩, ⟨fun i hi => ?_, k2⟩, ?_⟩
    · have hi : i < x.1 + 1 := hi
      rw [wi_I (by decide), wi_at]
      show _ = nI (va_up x.2.1 x.1 k i)
      by_cases q : i = x.1
      · rw [if_pos q, q, am_up_eq]
      · rw [if_neg q, am_up_ne q]; exact d2 i (by omega)
    · rw [wi_I (by decide), wi_I (by decide)]; exact d3 i hi
    · have hi : i < x.1 + 1 := hi
      show va_up x.2.1 x.1 k i < 200
      by_cases q : i = x.1
      · rw [q, am_up_eq]; exact hk
      · rw [am_up_ne q]; exact b2 i (by omega)
    · have hi : i < x.1 + 1 := hi
      show kV (va_up x.2.1 x.1 k i)
      by_cases q : i = x.1
      · rw [q, am_up_eq]; exact hkv
      · rw [am_up_ne q]; exact k1 i (by omega)
    · rw [wi_In (by decide), wi_I (by decide)]; exact hw
/-- one less -/
theorem wR.less {x : fS} (h : wR G (some x)) : wR (am_wi G 163 18 (nI (x.1 - 1))) (some (x.1 - 1, x.2)) := by
  obtain ⟨⟨d1, d2, d3⟩, ⟨b1, b2, b3⟩, ⟨k1, k2⟩, hw⟩ := h
  refine ⟨⟨wi_Is, fun i hi => ?_, fun i hi => ?_⟩, ⟨by show x.1 - 1 ≤ 8; omega, fun i hi => b2 i (by have hi : i < x.1 - 1 := hi; omega), b3⟩, ⟨fun i hi => k1 i (by have hi : i < x.1 - 1 := hi; omega), k2⟩, by rw [wi_In (by decide)]; exact hw⟩
  · rw [wi_I (by decide)]; exact d2 i (by have hi : i < x.1 - 1 := hi; omega)
  · rw [wi_I (by decide)]; exact d3 i hi
theorem wR.lessN (h : wR G none) (he : e ≤ 8) : wR (am_wi G 163 18 (nI (e - 1))) none := ⟨by rw [wi_In (by decide)]; exact h.1, e - 1, by omega, wi_Is⟩
theorem wR.take0 (he : ∀ x, r = some x → x.1 = e) (h0 : e = 0) (hd : G.2.1 163 18 = nI e) : wR (am_wi G 163 20 (am_b false)) (r.bind (fTake k)) := by
  have : r.bind (fTake k) = none := by
    cases r with
    | none => rfl
    | some x =>
      show fTake k x = none
      unfold fTake
      rw [if_pos (by rw [he x rfl, h0])]
  rw [this]
  exact wR.bad (by omega) hd
theorem wR.takeY (h : wR G r) (he : ∀ x, r = some x → x.1 = e) (h8 : e ≤ 8) (h0 : ¬ e = 0) (hk1 : k < 200) (hk : G.2.1 179 (e - 1) = nI k) : wR (am_wi G 163 18 (nI (e - 1))) (r.bind (fTake k)) := by
  cases r with
  | none => exact h.lessN h8
  | some x =>
    have e1 := he x rfl
    subst e1
    have e2 := h.1.2.1 (x.1 - 1) (by omega)
    have e4 := h.2.1.2.1 (x.1 - 1) (by omega)
    have e3 : x.2.1 (x.1 - 1) = k := (nI_eq (by omega) (by omega)).mp (e2.symm.trans hk)
    have : (some x).bind (fTake k) = some (x.1 - 1, x.2) := by
      show fTake k x = _
      unfold fTake
      rw [if_neg h0, if_pos e3]
    rw [this]
    exact h.less
theorem wR.takeN (h : wR G r) (he : ∀ x, r = some x → x.1 = e) (h8 : e ≤ 8) (h0 : ¬ e = 0) (hd : G.2.1 163 18 = nI e) (hk : ¬ G.2.1 179 (e - 1) = nI k) : wR (am_wi G 163 20 (am_b false)) (r.bind (fTake k)) := by
  have : r.bind (fTake k) = none := by
    cases r with
    | none => rfl
    | some x =>
      have e1 := he x rfl
      subst e1
      have e2 := h.1.2.1 (x.1 - 1) (by omega)
      show fTake k x = none
      unfold fTake
      rw [if_neg h0, if_neg (fun q => hk (by rw [e2]; exact congrArg nI q))]
  rw [this]
  exact wR.bad h8 hd
theorem nI_n0 {k : Nat} (hk : k < 200) : ¬ nI k < 0 := by
  have : (0 : Int32) = nI 0 := rfl
  rw [this, nI_ltI (by omega) (by decide)]
  omega
end Wr

set_option maxRecDepth 100000 in
theorem okR_push (w : am_W) {d : Nat} (G : am_G) (y : Option fS) (k : Nat) (v : Int32) (hS : St0 G) (h : wR G y) (hv : y ≠ none → v = nI k ∧ k < 200 ∧ kV k) : am_Ok w jR_push d (0, 0) [.inr (some 163), .inl v] G (fun r G' => r = none ∧ wR G' (y.bind (fGive k)) ∧ oN G G') := by
  refine am_ok_of rfl (Nat.le_of_ble_eq_true rfl) ?_
  show am_Go w jR_push d (0, 0) 0 [some (.inr (some 163)), some (.inl v)] [] G _
  obtain ⟨e, he8, hdp, hex⟩ := h.dep
  refine go_aload_n dR_push_0 rfl rfl ?_
  refine go_getV dR_push_1 flR_152 rfl (hS.s sh_163) (by first | assumption | (simp (disch := omega) only [wi_I, ro_I, wi_In, wi_Is]; done) | (simp (disch := omega) only [wi_I, ro_I, wi_In, wi_Is]; first | assumption | rfl) | rfl) ?_
  refine go_bipush (nI 8) (by decide) dR_push_4 ?_
  refine go_icmp_neN (by omega) (by decide) dR_push_6 (tgt := 15) (by decide) (fun c6 => ?_) (fun c6 => ?_)
  · refine go_aload_n dR_push_15 rfl rfl ?_
    refine go_getO (a := 179) dR_push_16 flR_56 rfl (hS.s sh_163) (hS.r rt_kind) ?_
    refine go_aload_n dR_push_19 rfl rfl ?_
    refine go_getV dR_push_20 flR_152 rfl (hS.s sh_163) (by first | assumption | (simp (disch := omega) only [wi_I, ro_I, wi_In, wi_Is]; done) | (simp (disch := omega) only [wi_I, ro_I, wi_In, wi_Is]; first | assumption | rfl) | rfl) ?_
    refine go_iload_n dR_push_23 rfl rfl ?_
    refine go_iastoreN (hS.s sh_179) (by omega) (by decide) dR_push_24 ?_
    refine go_aload_n dR_push_25 rfl rfl ?_
    refine go_dup dR_push_26 ?_
    refine go_getV dR_push_27 flR_152 rfl (hS.s sh_163) (by first | assumption | (simp (disch := omega) only [wi_I, ro_I, wi_In, wi_Is]; done) | (simp (disch := omega) only [wi_I, ro_I, wi_In, wi_Is]; first | assumption | rfl) | rfl) ?_
    refine go_iconst (nI 1) (by decide) dR_push_30 ?_
    first | refine go_iaddN dR_push_31 ?_ | refine go_iadd dR_push_31 ?_
    refine go_putI dR_push_32 fpR_152 rfl (hS.s sh_163) ?_
    refine go_return rfl dR_push_35 ?_
    first | exact ⟨rfl, wR.full hex c6 hdp, oN.w⟩ | exact ⟨rfl, h.give hex (by omega) hv, oN.n.tr oN.d⟩
  · refine go_aload_n dR_push_9 rfl rfl ?_
    refine go_iconst (am_b false) (by decide) dR_push_10 ?_
    refine go_putZ (by first | exact am_b_01 _ | exact Or.inl rfl | exact Or.inr rfl) dR_push_11 fpR_155 rfl (hS.s sh_163) ?_
    refine go_return rfl dR_push_14 ?_
    first | exact ⟨rfl, wR.full hex c6 hdp, oN.w⟩ | exact ⟨rfl, h.give hex (by omega) hv, oN.n.tr oN.d⟩
set_option maxRecDepth 100000 in
theorem okR_takeK (w : am_W) {d : Nat} (G : am_G) (y : Option fS) (k : Nat) (hk : k < 200) (hS : St0 G) (h : wR G y) : am_Ok w jR_take d (0, 0) [.inr (some 163), .inl (nI k)] G (fun r G' => r = none ∧ wR G' (y.bind (fTake k)) ∧ oN G G') := by
  refine am_ok_of rfl (Nat.le_of_ble_eq_true rfl) ?_
  show am_Go w jR_take d (0, 0) 0 [some (.inr (some 163)), some (.inl (nI k))] [] G _
  obtain ⟨e, he8, hdp, hex⟩ := h.dep
  refine go_aload_n dR_take_0 rfl rfl ?_
  refine go_getV dR_take_1 flR_152 rfl (hS.s sh_163) (by first | assumption | (simp (disch := omega) only [wi_I, ro_I, wi_In, wi_Is]; done) | (simp (disch := omega) only [wi_I, ro_I, wi_In, wi_Is]; first | assumption | rfl) | rfl) ?_
  refine go_if_eqN (by omega) dR_take_4 (tgt := 26) (by decide) (fun c4 => ?_) (fun c4 => ?_)
  · refine go_aload_n dR_take_26 rfl rfl ?_
    refine go_iconst (am_b false) (by decide) dR_take_27 ?_
    refine go_putZ (by first | exact am_b_01 _ | exact Or.inl rfl | exact Or.inr rfl) dR_take_28 fpR_155 rfl (hS.s sh_163) ?_
    refine go_return rfl dR_take_31 ?_
    first | exact ⟨rfl, wR.take0 hex c4 hdp, oN.w⟩ | exact ⟨rfl, h.takeY hex he8 c4 hk c23, oN.d⟩ | exact ⟨rfl, h.takeN hex he8 c4 hdp c23, oN.w⟩
  · refine go_iload_n dR_take_7 rfl rfl ?_
    refine go_if_lt dR_take_8 (tgt := 32) (by decide) (fun c8 => absurd c8 (nI_n0 hk)) (fun c8 => ?_)
    refine go_aload_n dR_take_11 rfl rfl ?_
    refine go_getO (a := 179) dR_take_12 flR_56 rfl (hS.s sh_163) (hS.r rt_kind) ?_
    refine go_aload_n dR_take_15 rfl rfl ?_
    refine go_getV dR_take_16 flR_152 rfl (hS.s sh_163) (by first | assumption | (simp (disch := omega) only [wi_I, ro_I, wi_In, wi_Is]; done) | (simp (disch := omega) only [wi_I, ro_I, wi_In, wi_Is]; first | assumption | rfl) | rfl) ?_
    refine go_iconst (nI 1) (by decide) dR_take_19 ?_
    first | refine go_isubN (by omega) dR_take_20 ?_ | refine go_isub dR_take_20 ?_
    first | refine go_ialV (hS.s sh_179) (by omega) (by decide) (by assumption) dR_take_21 ?_ | refine go_ialoadN (hS.s sh_179) (by omega) (by decide) dR_take_21 ?_
    refine go_iload_n dR_take_22 rfl rfl ?_
    refine go_icmp_eq dR_take_23 (tgt := 32) (by decide) (fun c23 => ?_) (fun c23 => ?_)
    · refine go_aload_n dR_take_32 rfl rfl ?_
      refine go_dup dR_take_33 ?_
      refine go_getV dR_take_34 flR_152 rfl (hS.s sh_163) (by first | assumption | (simp (disch := omega) only [wi_I, ro_I, wi_In, wi_Is]; done) | (simp (disch := omega) only [wi_I, ro_I, wi_In, wi_Is]; first | assumption | rfl) | rfl) ?_
      refine go_iconst (nI 1) (by decide) dR_take_37 ?_
      first | refine go_isubN (by omega) dR_take_38 ?_ | refine go_isub dR_take_38 ?_
      refine go_putI dR_take_39 fpR_152 rfl (hS.s sh_163) ?_
      refine go_return rfl dR_take_42 ?_
      first | exact ⟨rfl, wR.take0 hex c4 hdp, oN.w⟩ | exact ⟨rfl, h.takeY hex he8 c4 hk c23, oN.d⟩ | exact ⟨rfl, h.takeN hex he8 c4 hdp c23, oN.w⟩
    · refine go_aload_n dR_take_26 rfl rfl ?_
      refine go_iconst (am_b false) (by decide) dR_take_27 ?_
      refine go_putZ (by first | exact am_b_01 _ | exact Or.inl rfl | exact Or.inr rfl) dR_take_28 fpR_155 rfl (hS.s sh_163) ?_
      refine go_return rfl dR_take_31 ?_
      first | exact ⟨rfl, wR.take0 hex c4 hdp, oN.w⟩ | exact ⟨rfl, h.takeY hex he8 c4 hk c23, oN.d⟩ | exact ⟨rfl, h.takeN hex he8 c4 hdp c23, oN.w⟩
theorem wR.any0 {G : am_G} {r : Option fS} {e : Nat} (he : ∀ x, r = some x → x.1 = e) (h0 : e = 0) (hd : G.2.1 163 18 = nI e) : wR (am_wi G 163 20 (am_b false)) ((r.bind fAny).map fun q => q.2) := by
  have : (r.bind fAny).map (fun q => q.2) = none := by
    cases r with
    | none => rfl
    | some x =>
      show (fAny x).map _ = none
      unfold fAny
      rw [if_pos (by rw [he x rfl, h0])]; rfl
  rw [this]
  exact wR.bad (by omega) hd
theorem wR.any1 {G : am_G} {r : Option fS} {e : Nat} (h : wR G r) (he : ∀ x, r = some x → x.1 = e) (h8 : e ≤ 8) (h0 : ¬ e = 0) : wR (am_wi G 163 18 (nI (e - 1))) ((r.bind fAny).map fun q => q.2) := by
  cases r with
  | none => exact h.lessN h8
  | some x =>
    have e1 := he x rfl
    subst e1
    have : ((some x).bind fAny).map (fun q => q.2) = some (x.1 - 1, x.2) := by
      show (fAny x).map _ = _
      unfold fAny
      rw [if_neg h0]; rfl
    rw [this]
    exact h.less
set_option maxRecDepth 100000 in
theorem okR_takeA (w : am_W) {d : Nat} (G : am_G) (y : Option fS) (hS : St0 G) (h : wR G y) : am_Ok w jR_take d (0, 0) [.inr (some 163), .inl (-1)] G (fun r G' => r = none ∧ wR G' ((y.bind fAny).map fun q => q.2) ∧ oN G G' ∧ G'.2.1 179 = G.2.1 179) := by
  refine am_ok_of rfl (Nat.le_of_ble_eq_true rfl) ?_
  show am_Go w jR_take d (0, 0) 0 [some (.inr (some 163)), some (.inl (-1))] [] G _
  obtain ⟨e, he8, hdp, hex⟩ := h.dep
  refine go_aload_n dR_take_0 rfl rfl ?_
  refine go_getV dR_take_1 flR_152 rfl (hS.s sh_163) (by first | assumption | (simp (disch := omega) only [wi_I, ro_I, wi_In, wi_Is]; done) | (simp (disch := omega) only [wi_I, ro_I, wi_In, wi_Is]; first | assumption | rfl) | rfl) ?_
  refine go_if_eqN (by omega) dR_take_4 (tgt := 26) (by decide) (fun c4 => ?_) (fun c4 => ?_)
  · refine go_aload_n dR_take_26 rfl rfl ?_
    refine go_iconst (am_b false) (by decide) dR_take_27 ?_
    refine go_putZ (by first | exact am_b_01 _ | exact Or.inl rfl | exact Or.inr rfl) dR_take_28 fpR_155 rfl (hS.s sh_163) ?_
    refine go_return rfl dR_take_31 ?_
    first | exact ⟨rfl, wR.any0 hex c4 hdp, oN.w, wi_I (by decide)⟩ | exact ⟨rfl, h.any1 hex he8 c4, oN.d, wi_I (by decide)⟩
  · refine go_iload_n dR_take_7 rfl rfl ?_
    refine go_if_lt dR_take_8 (tgt := 32) (by decide) (fun c8 => ?_) (fun c8 => absurd (by decide) c8)
    refine go_aload_n dR_take_32 rfl rfl ?_
    refine go_dup dR_take_33 ?_
    refine go_getV dR_take_34 flR_152 rfl (hS.s sh_163) (by first | assumption | (simp (disch := omega) only [wi_I, ro_I, wi_In, wi_Is]; done) | (simp (disch := omega) only [wi_I, ro_I, wi_In, wi_Is]; first | assumption | rfl) | rfl) ?_
    refine go_iconst (nI 1) (by decide) dR_take_37 ?_
    first | refine go_isubN (by omega) dR_take_38 ?_ | refine go_isub dR_take_38 ?_
    refine go_putI dR_take_39 fpR_152 rfl (hS.s sh_163) ?_
    refine go_return rfl dR_take_42 ?_
    first | exact ⟨rfl, wR.any0 hex c4 hdp, oN.w, wi_I (by decide)⟩ | exact ⟨rfl, h.any1 hex he8 c4, oN.d, wi_I (by decide)⟩
