theorem q_div : ∀ q, q < 12 → nI q / nI 6 = nI (q / 6) := by decide +kernel
section Kr
variable {k : Option Nat}
theorem kR_0 (hk : ∀ q, k = some q → q < 200) : kR k = 0 ↔ k = some 0 := by
  cases k with
  | none => exact ⟨fun h => absurd h (by decide), fun h => by cases h⟩
  | some q =>
    have := hk q rfl
    exact ⟨fun h => by rw [(nI_eq (a := q) (b := 0) (by omega) (by decide)).mp h], fun h => by cases h; rfl⟩
theorem kR_1 (hk : ∀ q, k = some q → q < 200) : kR k = nI 1 ↔ k = some 1 := by
  cases k with
  | none => exact ⟨fun h => absurd h (by decide), fun h => by cases h⟩
  | some q =>
    have := hk q rfl
    exact ⟨fun h => by rw [(nI_eq (a := q) (b := 1) (by omega) (by decide)).mp h], fun h => by cases h; rfl⟩
theorem kR_m (hk : ∀ q, k = some q → q < 200) : kR k = -1 ↔ k = none := by
  cases k with
  | none => exact ⟨fun _ => rfl, fun _ => rfl⟩
  | some q =>
    have h1 := hk q rfl
    refine ⟨fun h => ?_, fun h => by cases h⟩
    exfalso
    have : (nI q).toInt = (-1 : Int32).toInt := congrArg _ h
    rw [nI_toInt (by omega)] at this
    have h2 : (-1 : Int32).toInt = -1 := by decide
    omega
theorem kR_10 (hk : ∀ q, k = some q → q < 200) : (nI 10 ≤ kR k) ↔ ∃ q, k = some q ∧ 10 ≤ q := by
  cases k with
  | none => exact ⟨fun h => absurd h (by decide), fun ⟨q, h, _⟩ => by cases h⟩
  | some q =>
    have h1 := hk q rfl
    have e : (nI 10 ≤ kR (some q)) ↔ 10 ≤ q := by
      show nI 10 ≤ nI q ↔ 10 ≤ q
      rw [← i_nlt, nI_ltI (by omega) (by decide), Nat.not_lt]
    rw [e]
    exact ⟨fun h => ⟨q, rfl, h⟩, fun ⟨q', h, h2⟩ => by cases h; exact h2⟩
theorem kR_inj {l : Option Nat} (hk : ∀ q, k = some q → q < 200) (hl : ∀ q, l = some q → q < 200) : kR k = kR l ↔ k = l := by
  constructor
  · intro h
    cases l with
    | none => exact (kR_m hk).mp h
    | some b =>
      cases k with
      | none => exact ((kR_m hl).mp h.symm).symm
      | some a => rw [(nI_eq (by have := hk a rfl; omega) (by have := hl b rfl; omega)).mp h]
  · intro h; rw [h]
end Kr
section Fe
variable {g : Nat → Nat} {a b : Nat} {x : fS}
theorem fe5R (h : ¬ x.1 = 0) : fEff g 5 a b x = fGive (x.2.1 (x.1 - 1)) x := by
  show (fAny x).bind _ = _
  unfold fAny
  rw [if_neg h]
  by_cases h9 : x.1 - 1 < 8
  · show ((fGive (x.2.1 (x.1 - 1)) (x.1 - 1, x.2)).bind (fGive (x.2.1 (x.1 - 1)))) = _
    have e : fGive (x.2.1 (x.1 - 1)) (x.1 - 1, x.2) = some x := by
      unfold fGive
      rw [if_pos h9]
      show some (x.1 - 1 + 1, va_up x.2.1 (x.1 - 1) (x.2.1 (x.1 - 1)), x.2.2) = some x
      rw [va_up_same rfl, show x.1 - 1 + 1 = x.1 by omega]
    rw [e]; rfl
  · show ((fGive (x.2.1 (x.1 - 1)) (x.1 - 1, x.2)).bind (fGive (x.2.1 (x.1 - 1)))) = _
    unfold fGive
    rw [if_neg (show ¬ (x.1 - 1, x.2).1 < 8 from h9), if_neg (by omega)]; rfl
theorem fe50 (h : x.1 = 0) : fEff g 5 a b x = none := by
  show (fAny x).bind _ = _
  unfold fAny
  rw [if_pos h]; rfl
theorem fe60 (h : x.1 < 2) : fEff g 6 a b x = none := by
  show (fAny x).bind _ = _
  unfold fAny
  by_cases h0 : x.1 = 0
  · rw [if_pos h0]; rfl
  · rw [if_neg h0]
    show ((if x.1 - 1 = 0 then none else _ : Option (Nat × fS)).bind _) = none
    rw [if_pos (by omega)]; rfl
theorem fe62 (h : 2 ≤ x.1) (h8 : x.1 ≤ 8) : fEff g 6 a b x = some (x.1, va_up (va_up x.2.1 (x.1 - 2) (x.2.1 (x.1 - 1))) (x.1 - 1) (x.2.1 (x.1 - 2)), x.2.2) := by
  have e1 : fAny x = some (x.2.1 (x.1 - 1), (x.1 - 1, x.2)) := if_neg (by omega)
  have e2 : fAny (x.1 - 1, x.2) = some (x.2.1 (x.1 - 1 - 1), (x.1 - 1 - 1, x.2)) := if_neg (by show ¬ x.1 - 1 = 0; omega)
  show (fAny x).bind _ = _
  rw [e1]
  show (fAny (x.1 - 1, x.2)).bind _ = _
  rw [e2]
  show (fGive (x.2.1 (x.1 - 1)) (x.1 - 1 - 1, x.2)).bind (fGive (x.2.1 (x.1 - 1 - 1))) = _
  have e3 : fGive (x.2.1 (x.1 - 1)) (x.1 - 1 - 1, x.2) = some (x.1 - 1 - 1 + 1, va_up x.2.1 (x.1 - 1 - 1) (x.2.1 (x.1 - 1)), x.2.2) := if_pos (by show x.1 - 1 - 1 < 8; omega)
  rw [e3]
  show fGive (x.2.1 (x.1 - 1 - 1)) (x.1 - 1 - 1 + 1, va_up x.2.1 (x.1 - 1 - 1) (x.2.1 (x.1 - 1)), x.2.2) = _
  rw [show x.1 - 1 - 1 + 1 = x.1 - 1 by omega, show x.1 - 1 - 1 = x.1 - 2 by omega]
  have e4 : fGive (x.2.1 (x.1 - 2)) (x.1 - 1, va_up x.2.1 (x.1 - 2) (x.2.1 (x.1 - 1)), x.2.2) = some (x.1 - 1 + 1, va_up (va_up x.2.1 (x.1 - 2) (x.2.1 (x.1 - 1))) (x.1 - 1) (x.2.1 (x.1 - 2)), x.2.2) := if_pos (by show x.1 - 1 < 8; omega)
  rw [e4, show x.1 - 1 + 1 = x.1 by omega]
end Fe
theorem wR.swap {G : am_G} {x : fS} (h : wR G (some x)) (h2 : 2 ≤ x.1) : wR (am_wi (am_wi G 179 (x.1 - 2) (nI (x.2.1 (x.1 - 1)))) 179 (x.1 - 1) (nI (x.2.1 (x.1 - 2)))) (some (x.1, va_up (va_up x.2.1 (x.1 - 2) (x.2.1 (x.1 - 1))) (x.1 - 1) (x.2.1 (x.1 - 2)), x.2.2)) := by
  obtain ⟨⟨d1, d2, d3⟩, ⟨b1, b2, b3⟩, ⟨k1, k2⟩, hw⟩ := h
  have key : ∀ (Pp : Nat → Prop) i, i < x.1 → (∀ j, j < x.1 → Pp (x.2.1 j)) → Pp (va_up (va_up x.2.1 (x.1 - 2) (x.2.1 (x.1 - 1))) (x.1 - 1) (x.2.1 (x.1 - 2)) i) := fun Pp i hi hP => by
    by_cases e1 : i = x.1 - 1
    · rw [e1, am_up_eq]; exact hP _ (by omega)
    · rw [am_up_ne e1]
      by_cases e2 : i = x.1 - 2
      · rw [e2, am_up_eq]; exact hP _ (by omega)
      · rw [am_up_ne e2]; exact hP _ hi
  refine ⟨⟨by rw [wi_I (by decide), wi_I (by decide)]; exact d1, fun i hi => ?_, fun i hi => by rw [wi_I (by decide), wi_I (by decide)]; exact d3 i hi⟩, ⟨b1, fun i hi => key (fun k => k < 200) i hi b2, b3⟩, ⟨fun i hi => key kV i hi k1, k2⟩, by rw [wi_I (by decide), wi_I (by decide)]; exact hw⟩
  have hi : i < x.1 := hi
  show _ = nI (va_up (va_up x.2.1 (x.1 - 2) (x.2.1 (x.1 - 1))) (x.1 - 1) (x.2.1 (x.1 - 2)) i)
  rw [wi_at, wi_at]
  by_cases e1 : i = x.1 - 1
  · rw [if_pos e1, e1, am_up_eq]
  · rw [if_neg e1, am_up_ne e1]
    by_cases e2 : i = x.1 - 2
    · rw [if_pos e2, e2, am_up_eq]
    · rw [if_neg e2, am_up_ne e2]; exact d2 i hi
theorem wR.lost {G : am_G} {x : fS} (h : wR G (some x)) : wR (am_wi G 163 20 (am_b false)) none := wR.bad h.2.1.1 h.1.1
/-- STORE's second half -/
theorem wR.store {G : am_G} {x : fS} {a k : Nat} (h : wR G (some x)) (hk : k < 200) (hv : kV k) : wR (am_wi G 180 a (nI k)) (some (x.1, x.2.1, va_up x.2.2 a (some k))) := by
  obtain ⟨⟨d1, d2, d3⟩, ⟨b1, b2, b3⟩, ⟨k1, k2⟩, hw⟩ := h
  have key : ∀ (Pp : Nat → Prop), Pp k → (∀ i, i < 8 → ∀ q, x.2.2 i = some q → Pp q) → ∀ i, i < 8 → ∀ q, va_up x.2.2 a (some k) i = some q → Pp q := fun Pp hk hP i hi q hq => by
    by_cases e : i = a
    · rw [e, am_up_eq] at hq; cases hq; exact hk
    · rw [am_up_ne e] at hq; exact hP i hi q hq
  refine ⟨⟨by rw [wi_I (by decide)]; exact d1, fun i hi => by rw [wi_I (by decide)]; exact d2 i hi, fun i hi => ?_⟩, ⟨b1, b2, key (fun q => q < 200) hk b3⟩, ⟨k1, key kV hv k2⟩, by rw [wi_I (by decide)]; exact hw⟩
  show _ = kR (va_up x.2.2 a (some k) i)
  rw [wi_at]
  by_cases e : i = a
  · rw [if_pos e, e, am_up_eq]; rfl
  · rw [if_neg e, am_up_ne e]; exact d3 i hi

set_option maxRecDepth 100000 in
theorem okR_move4 (w : am_W) {d : Nat} (hd : 1 ≤ d) (G : am_G) (x : fS) (g : Nat → Nat) (a b : Nat) (hS : St0 G) (h : wR G (some x)) : am_Ok w jR_move d (0, 0) [.inr (some 163), .inl (nI 4)] G (fun r G' => r = none ∧ wR G' (fEff g 4 a b x) ∧ oN G G') := by
  refine am_ok_of rfl (Nat.le_of_ble_eq_true rfl) ?_
  show am_Go w jR_move d (0, 0) 0 [some (.inr (some 163)), some (.inl (nI 4)), none, none] [] G _
  have hdp := h.1.1
  have h8 := h.2.1.1
  refine go_aload_n dR_move_0 rfl rfl ?_
  refine go_getV dR_move_1 flR_152 rfl (hS.s sh_163) (by first | assumption | (simp (disch := omega) only [wi_I, ro_I, wi_In, wi_Is]; done) | (simp (disch := omega) only [wi_I, ro_I, wi_In, wi_Is]; first | assumption | rfl) | rfl) ?_
  refine go_if_leN (by omega) dR_move_4 (tgt := 21) (by decide) (fun c4 => ?_) (fun c4 => ?_)
  · refine go_iconst (-1) (by decide) dR_move_21 ?_
    refine go_istore_n dR_move_22 rfl (Nat.le_of_ble_eq_true rfl) ?_
    refine go_aload_n dR_move_23 rfl rfl ?_
    refine go_getV dR_move_24 flR_152 rfl (hS.s sh_163) (by first | assumption | (simp (disch := omega) only [wi_I, ro_I, wi_In, wi_Is]; done) | (simp (disch := omega) only [wi_I, ro_I, wi_In, wi_Is]; first | assumption | rfl) | rfl) ?_
    refine go_iconst (nI 1) (by decide) dR_move_27 ?_
    refine go_icmp_leN (by omega) (by decide) dR_move_28 (tgt := 45) (by decide) (fun c28 => ?_) (fun c28 => ?_)
    · refine go_iconst (-1) (by decide) dR_move_45 ?_
      refine go_istore_n dR_move_46 rfl (Nat.le_of_ble_eq_true rfl) ?_
      refine go_iload_n dR_move_47 rfl rfl ?_
      refine go_iconst (nI 4) (by decide) dR_move_48 ?_
      refine go_icmp_neN (by decide) (by decide) dR_move_49 (tgt := 60) (by decide) (fun c1 => absurd rfl c1) (fun c1 => ?_)
      refine go_aload_n dR_move_52 rfl rfl ?_
      refine go_iconst (-1) (by decide) dR_move_53 ?_
      refine go_cV (k' := (0, 0)) dR_move_54 _ csR_162 (hS.s sh_163) rfl imR_take seR_take rfl (okR_takeA (d := 0) w G (some x) hS h) (by omega) (by decide) (Nat.le_of_ble_eq_true rfl) (fun r1 G1 hr1 hn1 => ?_)
      obtain ⟨rfl, h1, o1, -⟩ := hr1
      have S1 := o1.St hS
      refine go_goto dR_move_57 (tgt := 128) (by decide) ?_
      refine go_return rfl dR_move_128 ?_
      exact ⟨rfl, h1, o1⟩
    · refine go_aload_n dR_move_31 rfl rfl ?_
      refine go_getO (a := 179) dR_move_32 flR_56 rfl (hS.s sh_163) (hS.r rt_kind) ?_
      refine go_aload_n dR_move_35 rfl rfl ?_
      refine go_getV dR_move_36 flR_152 rfl (hS.s sh_163) (by first | assumption | (simp (disch := omega) only [wi_I, ro_I, wi_In, wi_Is]; done) | (simp (disch := omega) only [wi_I, ro_I, wi_In, wi_Is]; first | assumption | rfl) | rfl) ?_
      refine go_iconst (nI 2) (by decide) dR_move_39 ?_
      first | refine go_isubN (by omega) dR_move_40 ?_ | refine go_isub dR_move_40 ?_
      first | refine go_ialV (hS.s sh_179) (by omega) (by decide) (by assumption) dR_move_41 ?_ | refine go_ialoadN (hS.s sh_179) (by omega) (by decide) dR_move_41 ?_
      refine go_goto dR_move_42 (tgt := 46) (by decide) ?_
      refine go_istore_n dR_move_46 rfl (Nat.le_of_ble_eq_true rfl) ?_
      refine go_iload_n dR_move_47 rfl rfl ?_
      refine go_iconst (nI 4) (by decide) dR_move_48 ?_
      refine go_icmp_neN (by decide) (by decide) dR_move_49 (tgt := 60) (by decide) (fun c1 => absurd rfl c1) (fun c1 => ?_)
      refine go_aload_n dR_move_52 rfl rfl ?_
      refine go_iconst (-1) (by decide) dR_move_53 ?_
      refine go_cV (k' := (0, 0)) dR_move_54 _ csR_162 (hS.s sh_163) rfl imR_take seR_take rfl (okR_takeA (d := 0) w G (some x) hS h) (by omega) (by decide) (Nat.le_of_ble_eq_true rfl) (fun r1 G1 hr1 hn1 => ?_)
      obtain ⟨rfl, h1, o1, -⟩ := hr1
      have S1 := o1.St hS
      refine go_goto dR_move_57 (tgt := 128) (by decide) ?_
      refine go_return rfl dR_move_128 ?_
      exact ⟨rfl, h1, o1⟩
  · refine go_aload_n dR_move_7 rfl rfl ?_
    refine go_getO (a := 179) dR_move_8 flR_56 rfl (hS.s sh_163) (hS.r rt_kind) ?_
    refine go_aload_n dR_move_11 rfl rfl ?_
    refine go_getV dR_move_12 flR_152 rfl (hS.s sh_163) (by first | assumption | (simp (disch := omega) only [wi_I, ro_I, wi_In, wi_Is]; done) | (simp (disch := omega) only [wi_I, ro_I, wi_In, wi_Is]; first | assumption | rfl) | rfl) ?_
    refine go_iconst (nI 1) (by decide) dR_move_15 ?_
    first | refine go_isubN (by omega) dR_move_16 ?_ | refine go_isub dR_move_16 ?_
    first | refine go_ialV (hS.s sh_179) (by omega) (by decide) (by assumption) dR_move_17 ?_ | refine go_ialoadN (hS.s sh_179) (by omega) (by decide) dR_move_17 ?_
    refine go_goto dR_move_18 (tgt := 22) (by decide) ?_
    refine go_istore_n dR_move_22 rfl (Nat.le_of_ble_eq_true rfl) ?_
    refine go_aload_n dR_move_23 rfl rfl ?_
    refine go_getV dR_move_24 flR_152 rfl (hS.s sh_163) (by first | assumption | (simp (disch := omega) only [wi_I, ro_I, wi_In, wi_Is]; done) | (simp (disch := omega) only [wi_I, ro_I, wi_In, wi_Is]; first | assumption | rfl) | rfl) ?_
    refine go_iconst (nI 1) (by decide) dR_move_27 ?_
    refine go_icmp_leN (by omega) (by decide) dR_move_28 (tgt := 45) (by decide) (fun c28 => ?_) (fun c28 => ?_)
    · refine go_iconst (-1) (by decide) dR_move_45 ?_
      refine go_istore_n dR_move_46 rfl (Nat.le_of_ble_eq_true rfl) ?_
      refine go_iload_n dR_move_47 rfl rfl ?_
      refine go_iconst (nI 4) (by decide) dR_move_48 ?_
      refine go_icmp_neN (by decide) (by decide) dR_move_49 (tgt := 60) (by decide) (fun c1 => absurd rfl c1) (fun c1 => ?_)
      refine go_aload_n dR_move_52 rfl rfl ?_
      refine go_iconst (-1) (by decide) dR_move_53 ?_
      refine go_cV (k' := (0, 0)) dR_move_54 _ csR_162 (hS.s sh_163) rfl imR_take seR_take rfl (okR_takeA (d := 0) w G (some x) hS h) (by omega) (by decide) (Nat.le_of_ble_eq_true rfl) (fun r1 G1 hr1 hn1 => ?_)
      obtain ⟨rfl, h1, o1, -⟩ := hr1
      have S1 := o1.St hS
      refine go_goto dR_move_57 (tgt := 128) (by decide) ?_
      refine go_return rfl dR_move_128 ?_
      exact ⟨rfl, h1, o1⟩
    · refine go_aload_n dR_move_31 rfl rfl ?_
      refine go_getO (a := 179) dR_move_32 flR_56 rfl (hS.s sh_163) (hS.r rt_kind) ?_
      refine go_aload_n dR_move_35 rfl rfl ?_
      refine go_getV dR_move_36 flR_152 rfl (hS.s sh_163) (by first | assumption | (simp (disch := omega) only [wi_I, ro_I, wi_In, wi_Is]; done) | (simp (disch := omega) only [wi_I, ro_I, wi_In, wi_Is]; first | assumption | rfl) | rfl) ?_
      refine go_iconst (nI 2) (by decide) dR_move_39 ?_
      first | refine go_isubN (by omega) dR_move_40 ?_ | refine go_isub dR_move_40 ?_
      first | refine go_ialV (hS.s sh_179) (by omega) (by decide) (by assumption) dR_move_41 ?_ | refine go_ialoadN (hS.s sh_179) (by omega) (by decide) dR_move_41 ?_
      refine go_goto dR_move_42 (tgt := 46) (by decide) ?_
      refine go_istore_n dR_move_46 rfl (Nat.le_of_ble_eq_true rfl) ?_
      refine go_iload_n dR_move_47 rfl rfl ?_
      refine go_iconst (nI 4) (by decide) dR_move_48 ?_
      refine go_icmp_neN (by decide) (by decide) dR_move_49 (tgt := 60) (by decide) (fun c1 => absurd rfl c1) (fun c1 => ?_)
      refine go_aload_n dR_move_52 rfl rfl ?_
      refine go_iconst (-1) (by decide) dR_move_53 ?_
      refine go_cV (k' := (0, 0)) dR_move_54 _ csR_162 (hS.s sh_163) rfl imR_take seR_take rfl (okR_takeA (d := 0) w G (some x) hS h) (by omega) (by decide) (Nat.le_of_ble_eq_true rfl) (fun r1 G1 hr1 hn1 => ?_)
      obtain ⟨rfl, h1, o1, -⟩ := hr1
      have S1 := o1.St hS
      refine go_goto dR_move_57 (tgt := 128) (by decide) ?_
      refine go_return rfl dR_move_128 ?_
      exact ⟨rfl, h1, o1⟩
set_option maxRecDepth 100000 in
theorem okR_move50 (w : am_W) {d : Nat} (hd : 1 ≤ d) (G : am_G) (x : fS) (g : Nat → Nat) (a b : Nat) (hS : St0 G) (h : wR G (some x)) (hx : x.1 = 0) : am_Ok w jR_move d (0, 0) [.inr (some 163), .inl (nI 5)] G (fun r G' => r = none ∧ wR G' (fEff g 5 a b x) ∧ oN G G') := by
  refine am_ok_of rfl (Nat.le_of_ble_eq_true rfl) ?_
  show am_Go w jR_move d (0, 0) 0 [some (.inr (some 163)), some (.inl (nI 5)), none, none] [] G _
  have hdp := h.1.1
  have h8 := h.2.1.1
  refine go_aload_n dR_move_0 rfl rfl ?_
  refine go_getV dR_move_1 flR_152 rfl (hS.s sh_163) (by first | assumption | (simp (disch := omega) only [wi_I, ro_I, wi_In, wi_Is]; done) | (simp (disch := omega) only [wi_I, ro_I, wi_In, wi_Is]; first | assumption | rfl) | rfl) ?_
  refine go_if_leN (by omega) dR_move_4 (tgt := 21) (by decide) (fun c1 => ?_) (fun c1 => absurd c1 (by omega))
  refine go_iconst (-1) (by decide) dR_move_21 ?_
  refine go_istore_n dR_move_22 rfl (Nat.le_of_ble_eq_true rfl) ?_
  refine go_aload_n dR_move_23 rfl rfl ?_
  refine go_getV dR_move_24 flR_152 rfl (hS.s sh_163) (by first | assumption | (simp (disch := omega) only [wi_I, ro_I, wi_In, wi_Is]; done) | (simp (disch := omega) only [wi_I, ro_I, wi_In, wi_Is]; first | assumption | rfl) | rfl) ?_
  refine go_iconst (nI 1) (by decide) dR_move_27 ?_
  refine go_icmp_leN (by omega) (by decide) dR_move_28 (tgt := 45) (by decide) (fun c1 => ?_) (fun c1 => absurd c1 (by omega))
  refine go_iconst (-1) (by decide) dR_move_45 ?_
  refine go_istore_n dR_move_46 rfl (Nat.le_of_ble_eq_true rfl) ?_
  refine go_iload_n dR_move_47 rfl rfl ?_
  refine go_iconst (nI 4) (by decide) dR_move_48 ?_
  refine go_icmp_neN (by decide) (by decide) dR_move_49 (tgt := 60) (by decide) (fun c1 => ?_) (fun c1 => absurd c1 (by decide))
  refine go_iload_n dR_move_60 rfl rfl ?_
  refine go_iconst (nI 5) (by decide) dR_move_61 ?_
  refine go_icmp_neN (by decide) (by decide) dR_move_62 (tgt := 88) (by decide) (fun c1 => absurd rfl c1) (fun c1 => ?_)
  refine go_aload_n dR_move_65 rfl rfl ?_
  refine go_getV dR_move_66 flR_152 rfl (hS.s sh_163) (by first | assumption | (simp (disch := omega) only [wi_I, ro_I, wi_In, wi_Is]; done) | (simp (disch := omega) only [wi_I, ro_I, wi_In, wi_Is]; first | assumption | rfl) | rfl) ?_
  refine go_if_neN (by omega) dR_move_69 (tgt := 80) (by decide) (fun c1 => absurd hx c1) (fun c1 => ?_)
  refine go_aload_n dR_move_72 rfl rfl ?_
  refine go_iconst (am_b false) (by decide) dR_move_73 ?_
  refine go_putZ (by first | exact am_b_01 _ | exact Or.inl rfl | exact Or.inr rfl) dR_move_74 fpR_155 rfl (hS.s sh_163) ?_
  refine go_goto dR_move_77 (tgt := 128) (by decide) ?_
  refine go_return rfl dR_move_128 ?_
  exact ⟨rfl, by rw [fe50 hx]; exact h.lost, oN.w⟩
set_option maxRecDepth 100000 in
theorem okR_move51 (w : am_W) {d : Nat} (hd : 1 ≤ d) (G : am_G) (x : fS) (g : Nat → Nat) (a b : Nat) (hS : St0 G) (h : wR G (some x)) (hx : x.1 = 1) : am_Ok w jR_move d (0, 0) [.inr (some 163), .inl (nI 5)] G (fun r G' => r = none ∧ wR G' (fEff g 5 a b x) ∧ oN G G') := by
  refine am_ok_of rfl (Nat.le_of_ble_eq_true rfl) ?_
  show am_Go w jR_move d (0, 0) 0 [some (.inr (some 163)), some (.inl (nI 5)), none, none] [] G _
  have hdp := h.1.1
  have h8 := h.2.1.1
  have t1 := h.1.2.1 (x.1 - 1) (by omega)
  refine go_aload_n dR_move_0 rfl rfl ?_
  refine go_getV dR_move_1 flR_152 rfl (hS.s sh_163) (by first | assumption | (simp (disch := omega) only [wi_I, ro_I, wi_In, wi_Is]; done) | (simp (disch := omega) only [wi_I, ro_I, wi_In, wi_Is]; first | assumption | rfl) | rfl) ?_
  refine go_if_leN (by omega) dR_move_4 (tgt := 21) (by decide) (fun c1 => absurd c1 (by omega)) (fun c1 => ?_)
  refine go_aload_n dR_move_7 rfl rfl ?_
  refine go_getO (a := 179) dR_move_8 flR_56 rfl (hS.s sh_163) (hS.r rt_kind) ?_
  refine go_aload_n dR_move_11 rfl rfl ?_
  refine go_getV dR_move_12 flR_152 rfl (hS.s sh_163) (by first | assumption | (simp (disch := omega) only [wi_I, ro_I, wi_In, wi_Is]; done) | (simp (disch := omega) only [wi_I, ro_I, wi_In, wi_Is]; first | assumption | rfl) | rfl) ?_
  refine go_iconst (nI 1) (by decide) dR_move_15 ?_
  first | refine go_isubN (by omega) dR_move_16 ?_ | refine go_isub dR_move_16 ?_
  refine go_ialV (hS.s sh_179) (by omega) (by decide) t1 dR_move_17 ?_
  refine go_goto dR_move_18 (tgt := 22) (by decide) ?_
  refine go_istore_n dR_move_22 rfl (Nat.le_of_ble_eq_true rfl) ?_
  refine go_aload_n dR_move_23 rfl rfl ?_
  refine go_getV dR_move_24 flR_152 rfl (hS.s sh_163) (by first | assumption | (simp (disch := omega) only [wi_I, ro_I, wi_In, wi_Is]; done) | (simp (disch := omega) only [wi_I, ro_I, wi_In, wi_Is]; first | assumption | rfl) | rfl) ?_
  refine go_iconst (nI 1) (by decide) dR_move_27 ?_
  refine go_icmp_leN (by omega) (by decide) dR_move_28 (tgt := 45) (by decide) (fun c1 => ?_) (fun c1 => absurd c1 (by omega))
  refine go_iconst (-1) (by decide) dR_move_45 ?_
  refine go_istore_n dR_move_46 rfl (Nat.le_of_ble_eq_true rfl) ?_
  refine go_iload_n dR_move_47 rfl rfl ?_
  refine go_iconst (nI 4) (by decide) dR_move_48 ?_
  refine go_icmp_neN (by decide) (by decide) dR_move_49 (tgt := 60) (by decide) (fun c1 => ?_) (fun c1 => absurd c1 (by decide))
  refine go_iload_n dR_move_60 rfl rfl ?_
  refine go_iconst (nI 5) (by decide) dR_move_61 ?_
  refine go_icmp_neN (by decide) (by decide) dR_move_62 (tgt := 88) (by decide) (fun c1 => absurd rfl c1) (fun c1 => ?_)
  refine go_aload_n dR_move_65 rfl rfl ?_
  refine go_getV dR_move_66 flR_152 rfl (hS.s sh_163) (by first | assumption | (simp (disch := omega) only [wi_I, ro_I, wi_In, wi_Is]; done) | (simp (disch := omega) only [wi_I, ro_I, wi_In, wi_Is]; first | assumption | rfl) | rfl) ?_
  refine go_if_neN (by omega) dR_move_69 (tgt := 80) (by decide) (fun c1 => ?_) (fun c1 => absurd c1 (by omega))
  refine go_aload_n dR_move_80 rfl rfl ?_
  refine go_iload_n dR_move_81 rfl rfl ?_
  refine go_cV (k' := (0, 0)) dR_move_82 _ csR_166 (hS.s sh_163) rfl imR_push seR_push rfl (okR_push (d := 0) w G (some x) (x.2.1 (x.1 - 1)) (nI (x.2.1 (x.1 - 1))) hS h (fun _ => ⟨rfl, h.2.1.2.1 _ (by omega), h.2.2.1.1 _ (by omega)⟩)) (by omega) (by decide) (Nat.le_of_ble_eq_true rfl) (fun r1 G1 hr1 hn1 => ?_)
  obtain ⟨rfl, h1, o1⟩ := hr1
  have S1 := o1.St hS
  refine go_goto dR_move_85 (tgt := 128) (by decide) ?_
  refine go_return rfl dR_move_128 ?_
  exact ⟨rfl, by rw [fe5R (by omega)]; exact h1, o1⟩
set_option maxRecDepth 100000 in
theorem okR_move52 (w : am_W) {d : Nat} (hd : 1 ≤ d) (G : am_G) (x : fS) (g : Nat → Nat) (a b : Nat) (hS : St0 G) (h : wR G (some x)) (hx : 2 ≤ x.1) : am_Ok w jR_move d (0, 0) [.inr (some 163), .inl (nI 5)] G (fun r G' => r = none ∧ wR G' (fEff g 5 a b x) ∧ oN G G') := by
  refine am_ok_of rfl (Nat.le_of_ble_eq_true rfl) ?_
  show am_Go w jR_move d (0, 0) 0 [some (.inr (some 163)), some (.inl (nI 5)), none, none] [] G _
  have hdp := h.1.1
  have h8 := h.2.1.1
  have t1 := h.1.2.1 (x.1 - 1) (by omega)
  have t2 := h.1.2.1 (x.1 - 2) (by omega)
  refine go_aload_n dR_move_0 rfl rfl ?_
  refine go_getV dR_move_1 flR_152 rfl (hS.s sh_163) (by first | assumption | (simp (disch := omega) only [wi_I, ro_I, wi_In, wi_Is]; done) | (simp (disch := omega) only [wi_I, ro_I, wi_In, wi_Is]; first | assumption | rfl) | rfl) ?_
  refine go_if_leN (by omega) dR_move_4 (tgt := 21) (by decide) (fun c1 => absurd c1 (by omega)) (fun c1 => ?_)
  refine go_aload_n dR_move_7 rfl rfl ?_
  refine go_getO (a := 179) dR_move_8 flR_56 rfl (hS.s sh_163) (hS.r rt_kind) ?_
  refine go_aload_n dR_move_11 rfl rfl ?_
  refine go_getV dR_move_12 flR_152 rfl (hS.s sh_163) (by first | assumption | (simp (disch := omega) only [wi_I, ro_I, wi_In, wi_Is]; done) | (simp (disch := omega) only [wi_I, ro_I, wi_In, wi_Is]; first | assumption | rfl) | rfl) ?_
  refine go_iconst (nI 1) (by decide) dR_move_15 ?_
  first | refine go_isubN (by omega) dR_move_16 ?_ | refine go_isub dR_move_16 ?_
  refine go_ialV (hS.s sh_179) (by omega) (by decide) t1 dR_move_17 ?_
  refine go_goto dR_move_18 (tgt := 22) (by decide) ?_
  refine go_istore_n dR_move_22 rfl (Nat.le_of_ble_eq_true rfl) ?_
  refine go_aload_n dR_move_23 rfl rfl ?_
  refine go_getV dR_move_24 flR_152 rfl (hS.s sh_163) (by first | assumption | (simp (disch := omega) only [wi_I, ro_I, wi_In, wi_Is]; done) | (simp (disch := omega) only [wi_I, ro_I, wi_In, wi_Is]; first | assumption | rfl) | rfl) ?_
  refine go_iconst (nI 1) (by decide) dR_move_27 ?_
  refine go_icmp_leN (by omega) (by decide) dR_move_28 (tgt := 45) (by decide) (fun c1 => absurd c1 (by omega)) (fun c1 => ?_)
  refine go_aload_n dR_move_31 rfl rfl ?_
  refine go_getO (a := 179) dR_move_32 flR_56 rfl (hS.s sh_163) (hS.r rt_kind) ?_
  refine go_aload_n dR_move_35 rfl rfl ?_
  refine go_getV dR_move_36 flR_152 rfl (hS.s sh_163) (by first | assumption | (simp (disch := omega) only [wi_I, ro_I, wi_In, wi_Is]; done) | (simp (disch := omega) only [wi_I, ro_I, wi_In, wi_Is]; first | assumption | rfl) | rfl) ?_
  refine go_iconst (nI 2) (by decide) dR_move_39 ?_
  first | refine go_isubN (by omega) dR_move_40 ?_ | refine go_isub dR_move_40 ?_
  refine go_ialV (hS.s sh_179) (by omega) (by decide) t2 dR_move_41 ?_
  refine go_goto dR_move_42 (tgt := 46) (by decide) ?_
  refine go_istore_n dR_move_46 rfl (Nat.le_of_ble_eq_true rfl) ?_
  refine go_iload_n dR_move_47 rfl rfl ?_
  refine go_iconst (nI 4) (by decide) dR_move_48 ?_
  refine go_icmp_neN (by decide) (by decide) dR_move_49 (tgt := 60) (by decide) (fun c1 => ?_) (fun c1 => absurd c1 (by decide))
  refine go_iload_n dR_move_60 rfl rfl ?_
  refine go_iconst (nI 5) (by decide) dR_move_61 ?_
  refine go_icmp_neN (by decide) (by decide) dR_move_62 (tgt := 88) (by decide) (fun c1 => absurd rfl c1) (fun c1 => ?_)
  refine go_aload_n dR_move_65 rfl rfl ?_
  refine go_getV dR_move_66 flR_152 rfl (hS.s sh_163) (by first | assumption | (simp (disch := omega) only [wi_I, ro_I, wi_In, wi_Is]; done) | (simp (disch := omega) only [wi_I, ro_I, wi_In, wi_Is]; first | assumption | rfl) | rfl) ?_
  refine go_if_neN (by omega) dR_move_69 (tgt := 80) (by decide) (fun c1 => ?_) (fun c1 => absurd c1 (by omega))
  refine go_aload_n dR_move_80 rfl rfl ?_
  refine go_iload_n dR_move_81 rfl rfl ?_
  refine go_cV (k' := (0, 0)) dR_move_82 _ csR_166 (hS.s sh_163) rfl imR_push seR_push rfl (okR_push (d := 0) w G (some x) (x.2.1 (x.1 - 1)) (nI (x.2.1 (x.1 - 1))) hS h (fun _ => ⟨rfl, h.2.1.2.1 _ (by omega), h.2.2.1.1 _ (by omega)⟩)) (by omega) (by decide) (Nat.le_of_ble_eq_true rfl) (fun r1 G1 hr1 hn1 => ?_)
  obtain ⟨rfl, h1, o1⟩ := hr1
  have S1 := o1.St hS
  refine go_goto dR_move_85 (tgt := 128) (by decide) ?_
  refine go_return rfl dR_move_128 ?_
  exact ⟨rfl, by rw [fe5R (by omega)]; exact h1, o1⟩
theorem okR_move5 (w : am_W) {d : Nat} (hd : 1 ≤ d) (G : am_G) (x : fS) (g : Nat → Nat) (a b : Nat) (hS : St0 G) (h : wR G (some x)) : am_Ok w jR_move d (0, 0) [.inr (some 163), .inl (nI 5)] G (fun r G' => r = none ∧ wR G' (fEff g 5 a b x) ∧ oN G G') := by
  by_cases e0 : x.1 = 0
  · exact okR_move50 w hd G x g a b hS h e0
  · by_cases e1 : x.1 = 1
    · exact okR_move51 w hd G x g a b hS h e1
    · exact okR_move52 w hd G x g a b hS h (by omega)
set_option maxRecDepth 100000 in
theorem okR_move60 (w : am_W) {d : Nat} (hd : 1 ≤ d) (G : am_G) (x : fS) (g : Nat → Nat) (a b : Nat) (hS : St0 G) (h : wR G (some x)) (hx : x.1 = 0) : am_Ok w jR_move d (0, 0) [.inr (some 163), .inl (nI 6)] G (fun r G' => r = none ∧ wR G' (fEff g 6 a b x) ∧ oN G G') := by
  refine am_ok_of rfl (Nat.le_of_ble_eq_true rfl) ?_
  show am_Go w jR_move d (0, 0) 0 [some (.inr (some 163)), some (.inl (nI 6)), none, none] [] G _
  have hdp := h.1.1
  have h8 := h.2.1.1
  refine go_aload_n dR_move_0 rfl rfl ?_
  refine go_getV dR_move_1 flR_152 rfl (hS.s sh_163) (by first | assumption | (simp (disch := omega) only [wi_I, ro_I, wi_In, wi_Is]; done) | (simp (disch := omega) only [wi_I, ro_I, wi_In, wi_Is]; first | assumption | rfl) | rfl) ?_
  refine go_if_leN (by omega) dR_move_4 (tgt := 21) (by decide) (fun c1 => ?_) (fun c1 => absurd c1 (by omega))
  refine go_iconst (-1) (by decide) dR_move_21 ?_
  refine go_istore_n dR_move_22 rfl (Nat.le_of_ble_eq_true rfl) ?_
  refine go_aload_n dR_move_23 rfl rfl ?_
  refine go_getV dR_move_24 flR_152 rfl (hS.s sh_163) (by first | assumption | (simp (disch := omega) only [wi_I, ro_I, wi_In, wi_Is]; done) | (simp (disch := omega) only [wi_I, ro_I, wi_In, wi_Is]; first | assumption | rfl) | rfl) ?_
  refine go_iconst (nI 1) (by decide) dR_move_27 ?_
  refine go_icmp_leN (by omega) (by decide) dR_move_28 (tgt := 45) (by decide) (fun c1 => ?_) (fun c1 => absurd c1 (by omega))
  refine go_iconst (-1) (by decide) dR_move_45 ?_
  refine go_istore_n dR_move_46 rfl (Nat.le_of_ble_eq_true rfl) ?_
  refine go_iload_n dR_move_47 rfl rfl ?_
  refine go_iconst (nI 4) (by decide) dR_move_48 ?_
  refine go_icmp_neN (by decide) (by decide) dR_move_49 (tgt := 60) (by decide) (fun c1 => ?_) (fun c1 => absurd c1 (by decide))
  refine go_iload_n dR_move_60 rfl rfl ?_
  refine go_iconst (nI 5) (by decide) dR_move_61 ?_
  refine go_icmp_neN (by decide) (by decide) dR_move_62 (tgt := 88) (by decide) (fun c1 => ?_) (fun c1 => absurd c1 (by decide))
  refine go_aload_n dR_move_88 rfl rfl ?_
  refine go_getV dR_move_89 flR_152 rfl (hS.s sh_163) (by first | assumption | (simp (disch := omega) only [wi_I, ro_I, wi_In, wi_Is]; done) | (simp (disch := omega) only [wi_I, ro_I, wi_In, wi_Is]; first | assumption | rfl) | rfl) ?_
  refine go_iconst (nI 2) (by decide) dR_move_92 ?_
  refine go_icmp_geN (by omega) (by decide) dR_move_93 (tgt := 104) (by decide) (fun c1 => absurd c1 (by omega)) (fun c1 => ?_)
  refine go_aload_n dR_move_96 rfl rfl ?_
  refine go_iconst (am_b false) (by decide) dR_move_97 ?_
  refine go_putZ (by first | exact am_b_01 _ | exact Or.inl rfl | exact Or.inr rfl) dR_move_98 fpR_155 rfl (hS.s sh_163) ?_
  refine go_goto dR_move_101 (tgt := 128) (by decide) ?_
  refine go_return rfl dR_move_128 ?_
  exact ⟨rfl, by rw [fe60 (by omega)]; exact h.lost, oN.w⟩
set_option maxRecDepth 100000 in
theorem okR_move61 (w : am_W) {d : Nat} (hd : 1 ≤ d) (G : am_G) (x : fS) (g : Nat → Nat) (a b : Nat) (hS : St0 G) (h : wR G (some x)) (hx : x.1 = 1) : am_Ok w jR_move d (0, 0) [.inr (some 163), .inl (nI 6)] G (fun r G' => r = none ∧ wR G' (fEff g 6 a b x) ∧ oN G G') := by
  refine am_ok_of rfl (Nat.le_of_ble_eq_true rfl) ?_
  show am_Go w jR_move d (0, 0) 0 [some (.inr (some 163)), some (.inl (nI 6)), none, none] [] G _
  have hdp := h.1.1
  have h8 := h.2.1.1
  have t1 := h.1.2.1 (x.1 - 1) (by omega)
  refine go_aload_n dR_move_0 rfl rfl ?_
  refine go_getV dR_move_1 flR_152 rfl (hS.s sh_163) (by first | assumption | (simp (disch := omega) only [wi_I, ro_I, wi_In, wi_Is]; done) | (simp (disch := omega) only [wi_I, ro_I, wi_In, wi_Is]; first | assumption | rfl) | rfl) ?_
  refine go_if_leN (by omega) dR_move_4 (tgt := 21) (by decide) (fun c1 => absurd c1 (by omega)) (fun c1 => ?_)
  refine go_aload_n dR_move_7 rfl rfl ?_
  refine go_getO (a := 179) dR_move_8 flR_56 rfl (hS.s sh_163) (hS.r rt_kind) ?_
  refine go_aload_n dR_move_11 rfl rfl ?_
  refine go_getV dR_move_12 flR_152 rfl (hS.s sh_163) (by first | assumption | (simp (disch := omega) only [wi_I, ro_I, wi_In, wi_Is]; done) | (simp (disch := omega) only [wi_I, ro_I, wi_In, wi_Is]; first | assumption | rfl) | rfl) ?_
  refine go_iconst (nI 1) (by decide) dR_move_15 ?_
  first | refine go_isubN (by omega) dR_move_16 ?_ | refine go_isub dR_move_16 ?_
  refine go_ialV (hS.s sh_179) (by omega) (by decide) t1 dR_move_17 ?_
  refine go_goto dR_move_18 (tgt := 22) (by decide) ?_
  refine go_istore_n dR_move_22 rfl (Nat.le_of_ble_eq_true rfl) ?_
  refine go_aload_n dR_move_23 rfl rfl ?_
  refine go_getV dR_move_24 flR_152 rfl (hS.s sh_163) (by first | assumption | (simp (disch := omega) only [wi_I, ro_I, wi_In, wi_Is]; done) | (simp (disch := omega) only [wi_I, ro_I, wi_In, wi_Is]; first | assumption | rfl) | rfl) ?_
  refine go_iconst (nI 1) (by decide) dR_move_27 ?_
  refine go_icmp_leN (by omega) (by decide) dR_move_28 (tgt := 45) (by decide) (fun c1 => ?_) (fun c1 => absurd c1 (by omega))
  refine go_iconst (-1) (by decide) dR_move_45 ?_
  refine go_istore_n dR_move_46 rfl (Nat.le_of_ble_eq_true rfl) ?_
  refine go_iload_n dR_move_47 rfl rfl ?_
  refine go_iconst (nI 4) (by decide) dR_move_48 ?_
  refine go_icmp_neN (by decide) (by decide) dR_move_49 (tgt := 60) (by decide) (fun c1 => ?_) (fun c1 => absurd c1 (by decide))
  refine go_iload_n dR_move_60 rfl rfl ?_
  refine go_iconst (nI 5) (by decide) dR_move_61 ?_
  refine go_icmp_neN (by decide) (by decide) dR_move_62 (tgt := 88) (by decide) (fun c1 => ?_) (fun c1 => absurd c1 (by decide))
  refine go_aload_n dR_move_88 rfl rfl ?_
  refine go_getV dR_move_89 flR_152 rfl (hS.s sh_163) (by first | assumption | (simp (disch := omega) only [wi_I, ro_I, wi_In, wi_Is]; done) | (simp (disch := omega) only [wi_I, ro_I, wi_In, wi_Is]; first | assumption | rfl) | rfl) ?_
  refine go_iconst (nI 2) (by decide) dR_move_92 ?_
  refine go_icmp_geN (by omega) (by decide) dR_move_93 (tgt := 104) (by decide) (fun c1 => absurd c1 (by omega)) (fun c1 => ?_)
  refine go_aload_n dR_move_96 rfl rfl ?_
  refine go_iconst (am_b false) (by decide) dR_move_97 ?_
  refine go_putZ (by first | exact am_b_01 _ | exact Or.inl rfl | exact Or.inr rfl) dR_move_98 fpR_155 rfl (hS.s sh_163) ?_
  refine go_goto dR_move_101 (tgt := 128) (by decide) ?_
  refine go_return rfl dR_move_128 ?_
  exact ⟨rfl, by rw [fe60 (by omega)]; exact h.lost, oN.w⟩
set_option maxRecDepth 100000 in
theorem okR_move62 (w : am_W) {d : Nat} (hd : 1 ≤ d) (G : am_G) (x : fS) (g : Nat → Nat) (a b : Nat) (hS : St0 G) (h : wR G (some x)) (hx : 2 ≤ x.1) : am_Ok w jR_move d (0, 0) [.inr (some 163), .inl (nI 6)] G (fun r G' => r = none ∧ wR G' (fEff g 6 a b x) ∧ oN G G') := by
  refine am_ok_of rfl (Nat.le_of_ble_eq_true rfl) ?_
  show am_Go w jR_move d (0, 0) 0 [some (.inr (some 163)), some (.inl (nI 6)), none, none] [] G _
  have hdp := h.1.1
  have h8 := h.2.1.1
  have t1 := h.1.2.1 (x.1 - 1) (by omega)
  have t2 := h.1.2.1 (x.1 - 2) (by omega)
  refine go_aload_n dR_move_0 rfl rfl ?_
  refine go_getV dR_move_1 flR_152 rfl (hS.s sh_163) (by first | assumption | (simp (disch := omega) only [wi_I, ro_I, wi_In, wi_Is]; done) | (simp (disch := omega) only [wi_I, ro_I, wi_In, wi_Is]; first | assumption | rfl) | rfl) ?_
  refine go_if_leN (by omega) dR_move_4 (tgt := 21) (by decide) (fun c1 => absurd c1 (by omega)) (fun c1 => ?_)
  refine go_aload_n dR_move_7 rfl rfl ?_
  refine go_getO (a := 179) dR_move_8 flR_56 rfl (hS.s sh_163) (hS.r rt_kind) ?_
  refine go_aload_n dR_move_11 rfl rfl ?_
  refine go_getV dR_move_12 flR_152 rfl (hS.s sh_163) (by first | assumption | (simp (disch := omega) only [wi_I, ro_I, wi_In, wi_Is]; done) | (simp (disch := omega) only [wi_I, ro_I, wi_In, wi_Is]; first | assumption | rfl) | rfl) ?_
  refine go_iconst (nI 1) (by decide) dR_move_15 ?_
  first | refine go_isubN (by omega) dR_move_16 ?_ | refine go_isub dR_move_16 ?_
  refine go_ialV (hS.s sh_179) (by omega) (by decide) t1 dR_move_17 ?_
  refine go_goto dR_move_18 (tgt := 22) (by decide) ?_
  refine go_istore_n dR_move_22 rfl (Nat.le_of_ble_eq_true rfl) ?_
  refine go_aload_n dR_move_23 rfl rfl ?_
  refine go_getV dR_move_24 flR_152 rfl (hS.s sh_163) (by first | assumption | (simp (disch := omega) only [wi_I, ro_I, wi_In, wi_Is]; done) | (simp (disch := omega) only [wi_I, ro_I, wi_In, wi_Is]; first | assumption | rfl) | rfl) ?_
  refine go_iconst (nI 1) (by decide) dR_move_27 ?_
  refine go_icmp_leN (by omega) (by decide) dR_move_28 (tgt := 45) (by decide) (fun c1 => absurd c1 (by omega)) (fun c1 => ?_)
  refine go_aload_n dR_move_31 rfl rfl ?_
  refine go_getO (a := 179) dR_move_32 flR_56 rfl (hS.s sh_163) (hS.r rt_kind) ?_
  refine go_aload_n dR_move_35 rfl rfl ?_
  refine go_getV dR_move_36 flR_152 rfl (hS.s sh_163) (by first | assumption | (simp (disch := omega) only [wi_I, ro_I, wi_In, wi_Is]; done) | (simp (disch := omega) only [wi_I, ro_I, wi_In, wi_Is]; first | assumption | rfl) | rfl) ?_
  refine go_iconst (nI 2) (by decide) dR_move_39 ?_
  first | refine go_isubN (by omega) dR_move_40 ?_ | refine go_isub dR_move_40 ?_
  refine go_ialV (hS.s sh_179) (by omega) (by decide) t2 dR_move_41 ?_
  refine go_goto dR_move_42 (tgt := 46) (by decide) ?_
  refine go_istore_n dR_move_46 rfl (Nat.le_of_ble_eq_true rfl) ?_
  refine go_iload_n dR_move_47 rfl rfl ?_
  refine go_iconst (nI 4) (by decide) dR_move_48 ?_
  refine go_icmp_neN (by decide) (by decide) dR_move_49 (tgt := 60) (by decide) (fun c1 => ?_) (fun c1 => absurd c1 (by decide))
  refine go_iload_n dR_move_60 rfl rfl ?_
  refine go_iconst (nI 5) (by decide) dR_move_61 ?_
  refine go_icmp_neN (by decide) (by decide) dR_move_62 (tgt := 88) (by decide) (fun c1 => ?_) (fun c1 => absurd c1 (by decide))
  refine go_aload_n dR_move_88 rfl rfl ?_
  refine go_getV dR_move_89 flR_152 rfl (hS.s sh_163) (by first | assumption | (simp (disch := omega) only [wi_I, ro_I, wi_In, wi_Is]; done) | (simp (disch := omega) only [wi_I, ro_I, wi_In, wi_Is]; first | assumption | rfl) | rfl) ?_
  refine go_iconst (nI 2) (by decide) dR_move_92 ?_
  refine go_icmp_geN (by omega) (by decide) dR_move_93 (tgt := 104) (by decide) (fun c1 => ?_) (fun c1 => absurd c1 (by omega))
  refine go_aload_n dR_move_104 rfl rfl ?_
  refine go_getO (a := 179) dR_move_105 flR_56 rfl (hS.s sh_163) (hS.r rt_kind) ?_
  refine go_aload_n dR_move_108 rfl rfl ?_
  refine go_getV dR_move_109 flR_152 rfl (hS.s sh_163) (by first | assumption | (simp (disch := omega) only [wi_I, ro_I, wi_In, wi_Is]; done) | (simp (disch := omega) only [wi_I, ro_I, wi_In, wi_Is]; first | assumption | rfl) | rfl) ?_
  refine go_iconst (nI 2) (by decide) dR_move_112 ?_
  first | refine go_isubN (by omega) dR_move_113 ?_ | refine go_isub dR_move_113 ?_
  refine go_iload_n dR_move_114 rfl rfl ?_
  refine go_iastoreN (hS.s sh_179) (by omega) (by decide) dR_move_115 ?_
  refine go_aload_n dR_move_116 rfl rfl ?_
  refine go_getO (a := 179) dR_move_117 flR_56 rfl (hS.s sh_163) (hS.r rt_kind) ?_
  refine go_aload_n dR_move_120 rfl rfl ?_
  refine go_getV dR_move_121 flR_152 rfl (hS.s sh_163) (by first | assumption | (simp (disch := omega) only [wi_I, ro_I, wi_In, wi_Is]; done) | (simp (disch := omega) only [wi_I, ro_I, wi_In, wi_Is]; first | assumption | rfl) | rfl) ?_
  refine go_iconst (nI 1) (by decide) dR_move_124 ?_
  first | refine go_isubN (by omega) dR_move_125 ?_ | refine go_isub dR_move_125 ?_
  refine go_iload_n dR_move_126 rfl rfl ?_
  refine go_iastoreN (hS.s sh_179) (by omega) (by decide) dR_move_127 ?_
  refine go_return rfl dR_move_128 ?_
  exact ⟨rfl, by rw [fe62 hx h8]; exact h.swap hx, oN.n.tr oN.n⟩
theorem okR_move6 (w : am_W) {d : Nat} (hd : 1 ≤ d) (G : am_G) (x : fS) (g : Nat → Nat) (a b : Nat) (hS : St0 G) (h : wR G (some x)) : am_Ok w jR_move d (0, 0) [.inr (some 163), .inl (nI 6)] G (fun r G' => r = none ∧ wR G' (fEff g 6 a b x) ∧ oN G G') := by
  by_cases e0 : x.1 = 0
  · exact okR_move60 w hd G x g a b hS h e0
  · by_cases e1 : x.1 = 1
    · exact okR_move61 w hd G x g a b hS h e1
    · exact okR_move62 w hd G x g a b hS h (by omega)
section Fa
variable {g : Nat → Nat} {a b : Nat} {x : fS} {G : am_G}
theorem fe_at {y z : Option fS} (h : wR G z) (e : z = y) : wR G y := e ▸ h
theorem fe_r3 : (((some x).bind (fTake 0)).bind (fTake 0)).bind (fGive 0) = (fTake 0 x).bind (fun z => (fTake 0 z).bind (fGive 0)) := by
  show (((fTake 0 x).bind (fTake 0)).bind (fGive 0)) = _
  cases fTake 0 x <;> rfl
theorem fe2n (h0 : ¬ x.2.2 a = some 0) (h1 : ¬ x.2.2 a = some 1) (hk : ∀ k, x.2.2 a = some k → kV k) : fEff g 2 a b x = none := by
  show (match x.2.2 a with | some k => if k < 10 then fGive k x else none | none => none) = none
  cases e : x.2.2 a with
  | none => rfl
  | some k =>
    show (if k < 10 then fGive k x else none) = none
    rw [if_neg]
    rcases hk k e with q | q | q
    · rw [e, q] at h0; exact absurd rfl h0
    · rw [e, q] at h1; exact absurd rfl h1
    · omega
theorem fe2y {k : Nat} (h : x.2.2 a = some k) (hk : k < 10) : fEff g 2 a b x = fGive k x := by
  show (match x.2.2 a with | some k => if k < 10 then fGive k x else none | none => none) = _
  rw [h]
  exact if_pos hk
theorem fe3 (h : (((some x).bind fAny).map fun q => q.2).isSome = true) : 1 ≤ x.1 ∧ (((some x).bind fAny).map fun q => q.2) = some (x.1 - 1, x.2) := by
  by_cases h0 : x.1 = 0
  · have e : (some x).bind fAny = none := if_pos h0
    rw [e] at h; cases h
  · have e : (some x).bind fAny = some (x.2.1 (x.1 - 1), (x.1 - 1, x.2)) := if_neg h0
    rw [e]
    exact ⟨by omega, rfl⟩
theorem fe3n (h : (((some x).bind fAny).map fun q => q.2).isSome = false) (_ : wR G (((some x).bind fAny).map fun q => q.2)) : fEff g 3 a b x = none := by
  by_cases h0 : x.1 = 0
  · have e : fAny x = none := if_pos h0
    show (fAny x).map _ = none
    rw [e]; rfl
  · have e : (some x).bind fAny = some (x.2.1 (x.1 - 1), (x.1 - 1, x.2)) := if_neg h0
    rw [e] at h; cases h
theorem fe3w (h : (((some x).bind fAny).map fun q => q.2).isSome = false) (hw : wR G (((some x).bind fAny).map fun q => q.2)) : wR G none := by
  cases e : (((some x).bind fAny).map fun q => q.2) with
  | none => rw [e] at hw; exact hw
  | some u => rw [e] at h; cases h
theorem fe3y (h : 1 ≤ x.1) : fEff g 3 a b x = some (x.1 - 1, x.2.1, va_up x.2.2 a (some (x.2.1 (x.1 - 1)))) := by
  have e : fAny x = some (x.2.1 (x.1 - 1), (x.1 - 1, x.2)) := if_neg (by omega)
  show (fAny x).map _ = _
  rw [e]; rfl
theorem fe24y (h : ∃ k, x.2.2 a = some k ∧ 10 ≤ k) : fEff g 24 a b x = some x := by
  obtain ⟨k, hk, h10⟩ := h
  show (match x.2.2 a with | some k => if k < 10 then none else some x | none => none) = _
  rw [hk]
  exact if_neg (by omega)
theorem fe24n (h : ¬ ∃ k, x.2.2 a = some k ∧ 10 ≤ k) : fEff g 24 a b x = none := by
  show (match x.2.2 a with | some k => if k < 10 then none else some x | none => none) = _
  cases e : x.2.2 a with
  | none => rfl
  | some k => exact if_pos (by have : ¬ 10 ≤ k := fun q => h ⟨k, e, q⟩; omega)
theorem fe27y (h : x.2.2 a = some 0) : fEff g 27 a b x = some x := by
  show (match x.2.2 a with | some k => if k = 0 then some x else none | none => none) = _
  rw [h]; rfl
theorem fe27n (h : ¬ x.2.2 a = some 0) : fEff g 27 a b x = none := by
  show (match x.2.2 a with | some k => if k = 0 then some x else none | none => none) = _
  cases e : x.2.2 a with
  | none => rfl
  | some k => exact if_neg (fun q => h (by rw [e, q]))
end Fa
set_option maxRecDepth 100000 in
theorem R_lv21 (w : am_W) {d : Nat} (hd : 1 ≤ d) (G0 : am_G) (q p a n : Nat) (hq : q < 12) (ha : a < 6) (hn : n < 200) (hT : G0.2.1 168 (q / 6 * 6 + a) = nI n) : ∀ (r k : Nat) (G : am_G) (y : Option fS), k + r = n → St0 G → oN G0 G → wR G y →
    am_Go w jR_leave d (0, 0) 312 [some (.inr (some 163)), some (.inl (nI q)), some (.inl (nI p)), some (.inl (nI 21)), some (.inl (nI a)), some (.inl (nI k))] [] G (fun rr G' => rr = none ∧ wR G' ((y.bind (fTakes r)).bind (fGive 0)) ∧ oN G0 G') := by
  intro r
  induction r with
  | zero =>
    intro k G y hk hS ho h
    have hT2 : G.2.1 168 (q / 6 * 6 + a) = nI n := by rw [ho.1.2.2 168 (by omega)]; exact hT
    have hf := h.flag
    have hy0 : y.bind (fTakes 0) = y := by cases y <;> rfl
    rw [hy0]
    refine go_iload dR_leave_312 rfl ?_
    refine go_aload_n dR_leave_314 rfl rfl ?_
    refine go_getO (a := 168) dR_leave_315 flR_22 rfl (hS.s sh_163) (hS.r rt_takes) ?_
    refine go_iload_n dR_leave_318 rfl rfl ?_
    refine go_bipush (nI 6) (by decide) dR_leave_319 ?_
    refine go_idiv (by decide) dR_leave_321 ?_
    rw [q_div q hq]
    refine go_bipush (nI 6) (by decide) dR_leave_322 ?_
    first | refine go_imulN dR_leave_324 ?_ | refine go_imul dR_leave_324 ?_
    refine go_iload dR_leave_325 rfl ?_
    first | refine go_iaddN dR_leave_327 ?_ | refine go_iadd dR_leave_327 ?_
    refine go_ialV (hS.s sh_168) (by omega) (by decide) hT2 dR_leave_328 ?_
    refine go_icmp_geN (by omega) (by omega) dR_leave_329 (tgt := 350) (by decide) (fun c1 => ?_) (fun c1 => absurd c1 (by omega))
    refine go_aload_n dR_leave_350 rfl rfl ?_
    refine go_iconst (nI 0) (by decide) dR_leave_351 ?_
    refine go_cV (k' := (0, 0)) dR_leave_352 _ csR_166 (hS.s sh_163) rfl imR_push seR_push rfl (okR_push (d := 0) w G (y) (0) (nI (0)) hS h (fun _ => ⟨rfl, by decide, by unfold kV; omega⟩)) (by omega) (by decide) (Nat.le_of_ble_eq_true rfl) (fun r1 G1 hr1 hn1 => ?_)
    obtain ⟨rfl, h1, o1⟩ := hr1
    have S1 := o1.St hS
    refine go_goto dR_leave_355 (tgt := 414) (by decide) ?_
    refine go_return rfl dR_leave_414 ?_
    exact ⟨rfl, h1, ho.tr o1⟩
  | succ r ih =>
    intro k G y hk hS ho h
    have hT2 : G.2.1 168 (q / 6 * 6 + a) = nI n := by rw [ho.1.2.2 168 (by omega)]; exact hT
    have hf := h.flag
    refine go_iload dR_leave_312 rfl ?_
    refine go_aload_n dR_leave_314 rfl rfl ?_
    refine go_getO (a := 168) dR_leave_315 flR_22 rfl (hS.s sh_163) (hS.r rt_takes) ?_
    refine go_iload_n dR_leave_318 rfl rfl ?_
    refine go_bipush (nI 6) (by decide) dR_leave_319 ?_
    refine go_idiv (by decide) dR_leave_321 ?_
    rw [q_div q hq]
    refine go_bipush (nI 6) (by decide) dR_leave_322 ?_
    first | refine go_imulN dR_leave_324 ?_ | refine go_imul dR_leave_324 ?_
    refine go_iload dR_leave_325 rfl ?_
    first | refine go_iaddN dR_leave_327 ?_ | refine go_iadd dR_leave_327 ?_
    refine go_ialV (hS.s sh_168) (by omega) (by decide) hT2 dR_leave_328 ?_
    refine go_icmp_geN (by omega) (by omega) dR_leave_329 (tgt := 350) (by decide) (fun c1 => absurd c1 (by omega)) (fun c1 => ?_)
    refine go_aload_n dR_leave_332 rfl rfl ?_
    refine go_getV dR_leave_333 flR_155 rfl (hS.s sh_163) (by first | assumption | (simp (disch := omega) only [wi_I, ro_I, wi_In, wi_Is]; done) | (simp (disch := omega) only [wi_I, ro_I, wi_In, wi_Is]; first | assumption | rfl) | rfl) ?_
    refine go_if_eqB dR_leave_336 (tgt := 350) (by decide) (fun c336 => ?_) (fun c336 => ?_)
    · have hyn : y = none := by cases y with | none => rfl | some u => cases c336
      subst hyn
      refine go_aload_n dR_leave_350 rfl rfl ?_
      refine go_iconst (nI 0) (by decide) dR_leave_351 ?_
      refine go_cV (k' := (0, 0)) dR_leave_352 _ csR_166 (hS.s sh_163) rfl imR_push seR_push rfl (okR_push (d := 0) w G (none) (0) (nI (0)) hS h (fun _ => ⟨rfl, by decide, by unfold kV; omega⟩)) (by omega) (by decide) (Nat.le_of_ble_eq_true rfl) (fun r1 G1 hr1 hn1 => ?_)
      obtain ⟨rfl, h1, o1⟩ := hr1
      have S1 := o1.St hS
      refine go_goto dR_leave_355 (tgt := 414) (by decide) ?_
      refine go_return rfl dR_leave_414 ?_
      exact ⟨rfl, h1, ho.tr o1⟩
    · refine go_aload_n dR_leave_339 rfl rfl ?_
      refine go_iconst (nI 0) (by decide) dR_leave_340 ?_
      refine go_cV (k' := (0, 0)) dR_leave_341 _ csR_162 (hS.s sh_163) rfl imR_take seR_take rfl (okR_takeK (d := 0) w G (y) 0 (by decide) hS h) (by omega) (by decide) (Nat.le_of_ble_eq_true rfl) (fun r1 G1 hr1 hn1 => ?_)
      obtain ⟨rfl, h1, o1⟩ := hr1
      have S1 := o1.St hS
      refine go_inc dR_leave_344 rfl ?_
      refine go_goto dR_leave_347 (tgt := 312) (by decide) ?_
      have e1 : y.bind (fTakes (r + 1)) = (y.bind (fTake 0)).bind (fTakes r) := by cases y <;> rfl
      rw [e1]
      exact ih (k + 1) G1 _ (by omega) S1 (ho.tr o1) h1
set_option maxRecDepth 100000 in
theorem okR_lv0 (w : am_W) {d : Nat} (hd : 2 ≤ d) (G : am_G) (x : fS) (g : Nat → Nat) (q p a b : Nat) (A : Int32) (hq : q < 12) (hp : p < 60) (ha : a < 8) (hb : b < 120) (hS : St0 G) (h : wR G (some x)) (hO : G.2.1 164 (60 * q + p) = nI 0) (hA : G.2.1 165 (60 * q + p) = A) (hA2 : True) (hB : True) : am_Ok w jR_leave d (0, 0) [.inr (some 163), .inl (nI q), .inl (nI p)] G (fun r G' => r = none ∧ wR G' (fEff g 0 a b x) ∧ oN G G') := by
  refine am_ok_of rfl (Nat.le_of_ble_eq_true rfl) ?_
  show am_Go w jR_leave d (0, 0) 0 [some (.inr (some 163)), some (.inl (nI q)), some (.inl (nI p)), none, none, none] [] G _
  have hdp := h.1.1
  have h8 := h.2.1.1
  refine go_aload_n dR_leave_0 rfl rfl ?_
  refine go_getO (a := 164) dR_leave_1 flR_7 rfl (hS.s sh_163) (hS.r rt_op) ?_
  refine go_bipush (nI 60) (by decide) dR_leave_4 ?_
  refine go_iload_n dR_leave_6 rfl rfl ?_
  first | refine go_imulN dR_leave_7 ?_ | refine go_imul dR_leave_7 ?_
  refine go_iload_n dR_leave_8 rfl rfl ?_
  first | refine go_iaddN dR_leave_9 ?_ | refine go_iadd dR_leave_9 ?_
  first | refine go_ialV (hS.s sh_164) (by omega) (by decide) (by assumption) dR_leave_10 ?_ | refine go_ialoadN (hS.s sh_164) (by omega) (by decide) dR_leave_10 ?_
  refine go_istore_n dR_leave_11 rfl (Nat.le_of_ble_eq_true rfl) ?_
  refine go_aload_n dR_leave_12 rfl rfl ?_
  refine go_getO (a := 165) dR_leave_13 flR_13 rfl (hS.s sh_163) (hS.r rt_one) ?_
  refine go_bipush (nI 60) (by decide) dR_leave_16 ?_
  refine go_iload_n dR_leave_18 rfl rfl ?_
  first | refine go_imulN dR_leave_19 ?_ | refine go_imul dR_leave_19 ?_
  refine go_iload_n dR_leave_20 rfl rfl ?_
  first | refine go_iaddN dR_leave_21 ?_ | refine go_iadd dR_leave_21 ?_
  first | refine go_ialV (hS.s sh_165) (by omega) (by decide) (by assumption) dR_leave_22 ?_ | refine go_ialoadN (hS.s sh_165) (by omega) (by decide) dR_leave_22 ?_
  refine go_istore dR_leave_23 (Nat.le_of_ble_eq_true rfl) ?_
  refine go_iload_n dR_leave_25 rfl rfl ?_
  refine go_tableIn dR_leave_26 (by decide) (by decide) (off := 122) rfl (tgt := 148) (by decide) ?_
  refine go_goto dR_leave_148 (tgt := 414) (by decide) ?_
  refine go_return rfl dR_leave_414 ?_
  exact ⟨rfl, h, oN.rf⟩
set_option maxRecDepth 100000 in
theorem okR_lv1 (w : am_W) {d : Nat} (hd : 2 ≤ d) (G : am_G) (x : fS) (g : Nat → Nat) (q p a b : Nat) (A : Int32) (hq : q < 12) (hp : p < 60) (ha : a < 8) (hb : b < 120) (hS : St0 G) (h : wR G (some x)) (hO : G.2.1 164 (60 * q + p) = nI 1) (hA : G.2.1 165 (60 * q + p) = A) (hA2 : True) (hB : True) : am_Ok w jR_leave d (0, 0) [.inr (some 163), .inl (nI q), .inl (nI p)] G (fun r G' => r = none ∧ wR G' (fEff g 1 a b x) ∧ oN G G') := by
  refine am_ok_of rfl (Nat.le_of_ble_eq_true rfl) ?_
  show am_Go w jR_leave d (0, 0) 0 [some (.inr (some 163)), some (.inl (nI q)), some (.inl (nI p)), none, none, none] [] G _
  have hdp := h.1.1
  have h8 := h.2.1.1
  refine go_aload_n dR_leave_0 rfl rfl ?_
  refine go_getO (a := 164) dR_leave_1 flR_7 rfl (hS.s sh_163) (hS.r rt_op) ?_
  refine go_bipush (nI 60) (by decide) dR_leave_4 ?_
  refine go_iload_n dR_leave_6 rfl rfl ?_
  first | refine go_imulN dR_leave_7 ?_ | refine go_imul dR_leave_7 ?_
  refine go_iload_n dR_leave_8 rfl rfl ?_
  first | refine go_iaddN dR_leave_9 ?_ | refine go_iadd dR_leave_9 ?_
  first | refine go_ialV (hS.s sh_164) (by omega) (by decide) (by assumption) dR_leave_10 ?_ | refine go_ialoadN (hS.s sh_164) (by omega) (by decide) dR_leave_10 ?_
  refine go_istore_n dR_leave_11 rfl (Nat.le_of_ble_eq_true rfl) ?_
  refine go_aload_n dR_leave_12 rfl rfl ?_
  refine go_getO (a := 165) dR_leave_13 flR_13 rfl (hS.s sh_163) (hS.r rt_one) ?_
  refine go_bipush (nI 60) (by decide) dR_leave_16 ?_
  refine go_iload_n dR_leave_18 rfl rfl ?_
  first | refine go_imulN dR_leave_19 ?_ | refine go_imul dR_leave_19 ?_
  refine go_iload_n dR_leave_20 rfl rfl ?_
  first | refine go_iaddN dR_leave_21 ?_ | refine go_iadd dR_leave_21 ?_
  first | refine go_ialV (hS.s sh_165) (by omega) (by decide) (by assumption) dR_leave_22 ?_ | refine go_ialoadN (hS.s sh_165) (by omega) (by decide) dR_leave_22 ?_
  refine go_istore dR_leave_23 (Nat.le_of_ble_eq_true rfl) ?_
  refine go_iload_n dR_leave_25 rfl rfl ?_
  refine go_tableIn dR_leave_26 (by decide) (by decide) (off := 125) rfl (tgt := 151) (by decide) ?_
  refine go_aload_n dR_leave_151 rfl rfl ?_
  refine go_iconst (nI 0) (by decide) dR_leave_152 ?_
  refine go_cV (k' := (0, 0)) dR_leave_153 _ csR_166 (hS.s sh_163) rfl imR_push seR_push rfl (okR_push (d := 0) w G (some x) (0) (nI (0)) hS h (fun _ => ⟨rfl, by decide, by unfold kV; omega⟩)) (by omega) (by decide) (Nat.le_of_ble_eq_true rfl) (fun r1 G1 hr1 hn1 => ?_)
  obtain ⟨rfl, h1, o1⟩ := hr1
  have S1 := o1.St hS
  refine go_goto dR_leave_156 (tgt := 414) (by decide) ?_
  refine go_return rfl dR_leave_414 ?_
  exact ⟨rfl, (fe_at (y := fEff g 1 a b x) h1 (by first | rfl | exact fe_r3)), o1⟩
set_option maxRecDepth 100000 in
theorem okR_lv2 (w : am_W) {d : Nat} (hd : 2 ≤ d) (G : am_G) (x : fS) (g : Nat → Nat) (q p a b : Nat) (A : Int32) (hq : q < 12) (hp : p < 60) (ha : a < 8) (hb : b < 120) (hS : St0 G) (h : wR G (some x)) (hO : G.2.1 164 (60 * q + p) = nI 2) (hA : G.2.1 165 (60 * q + p) = A) (hA2 : A = nI a) (hB : True) : am_Ok w jR_leave d (0, 0) [.inr (some 163), .inl (nI q), .inl (nI p)] G (fun r G' => r = none ∧ wR G' (fEff g 2 a b x) ∧ oN G G') := by
  refine am_ok_of rfl (Nat.le_of_ble_eq_true rfl) ?_
  show am_Go w jR_leave d (0, 0) 0 [some (.inr (some 163)), some (.inl (nI q)), some (.inl (nI p)), none, none, none] [] G _
  have hdp := h.1.1
  have h8 := h.2.1.1
  subst hA2
  have l3 := h.1.2.2 a ha
  have lb := h.2.1.2.2 a ha
  have lk := h.2.2.1.2 a ha
  refine go_aload_n dR_leave_0 rfl rfl ?_
  refine go_getO (a := 164) dR_leave_1 flR_7 rfl (hS.s sh_163) (hS.r rt_op) ?_
  refine go_bipush (nI 60) (by decide) dR_leave_4 ?_
  refine go_iload_n dR_leave_6 rfl rfl ?_
  first | refine go_imulN dR_leave_7 ?_ | refine go_imul dR_leave_7 ?_
  refine go_iload_n dR_leave_8 rfl rfl ?_
  first | refine go_iaddN dR_leave_9 ?_ | refine go_iadd dR_leave_9 ?_
  first | refine go_ialV (hS.s sh_164) (by omega) (by decide) (by assumption) dR_leave_10 ?_ | refine go_ialoadN (hS.s sh_164) (by omega) (by decide) dR_leave_10 ?_
  refine go_istore_n dR_leave_11 rfl (Nat.le_of_ble_eq_true rfl) ?_
  refine go_aload_n dR_leave_12 rfl rfl ?_
  refine go_getO (a := 165) dR_leave_13 flR_13 rfl (hS.s sh_163) (hS.r rt_one) ?_
  refine go_bipush (nI 60) (by decide) dR_leave_16 ?_
  refine go_iload_n dR_leave_18 rfl rfl ?_
  first | refine go_imulN dR_leave_19 ?_ | refine go_imul dR_leave_19 ?_
  refine go_iload_n dR_leave_20 rfl rfl ?_
  first | refine go_iaddN dR_leave_21 ?_ | refine go_iadd dR_leave_21 ?_
  first | refine go_ialV (hS.s sh_165) (by omega) (by decide) (by assumption) dR_leave_22 ?_ | refine go_ialoadN (hS.s sh_165) (by omega) (by decide) dR_leave_22 ?_
  refine go_istore dR_leave_23 (Nat.le_of_ble_eq_true rfl) ?_
  refine go_iload_n dR_leave_25 rfl rfl ?_
  refine go_tableIn dR_leave_26 (by decide) (by decide) (off := 133) rfl (tgt := 159) (by decide) ?_
  refine go_aload_n dR_leave_159 rfl rfl ?_
  refine go_getO (a := 180) dR_leave_160 flR_59 rfl (hS.s sh_163) (hS.r rt_local) ?_
  refine go_iload dR_leave_163 rfl ?_
  refine go_ialV (hS.s sh_180) (by omega) (by decide) l3 dR_leave_165 ?_
  refine go_if_eq dR_leave_166 (tgt := 188) (by decide) (fun c166 => ?_) (fun c166 => ?_)
  · refine go_aload_n dR_leave_188 rfl rfl ?_
    refine go_aload_n dR_leave_189 rfl rfl ?_
    refine go_getO (a := 180) dR_leave_190 flR_59 rfl (hS.s sh_163) (hS.r rt_local) ?_
    refine go_iload dR_leave_193 rfl ?_
    refine go_ialV (hS.s sh_180) (by omega) (by decide) l3 dR_leave_195 ?_
    obtain ⟨k, hk, hk10⟩ : ∃ k, x.2.2 a = some k ∧ k < 10 := by first | exact ⟨0, (kR_0 lb).mp c166, by decide⟩ | exact ⟨1, (kR_1 lb).mp c177, by decide⟩
    refine go_cV (k' := (0, 0)) dR_leave_196 _ csR_166 (hS.s sh_163) rfl imR_push seR_push rfl (okR_push (d := 0) w G (some x) (k) (kR (x.2.2 a)) hS h (fun _ => ⟨by rw [hk]; rfl, lb k hk, lk k hk⟩)) (by omega) (by decide) (Nat.le_of_ble_eq_true rfl) (fun r1 G1 hr1 hn1 => ?_)
    obtain ⟨rfl, h1, o1⟩ := hr1
    have S1 := o1.St hS
    refine go_goto dR_leave_199 (tgt := 414) (by decide) ?_
    refine go_return rfl dR_leave_414 ?_
    first | exact ⟨rfl, by rw [fe2n (fun e => c166 ((kR_0 lb).mpr e)) (fun e => c177 ((kR_1 lb).mpr e)) lk]; exact h.lost, oN.w⟩ | exact ⟨rfl, by rw [fe2y hk hk10]; exact h1, o1⟩
  · refine go_aload_n dR_leave_169 rfl rfl ?_
    refine go_getO (a := 180) dR_leave_170 flR_59 rfl (hS.s sh_163) (hS.r rt_local) ?_
    refine go_iload dR_leave_173 rfl ?_
    refine go_ialV (hS.s sh_180) (by omega) (by decide) l3 dR_leave_175 ?_
    refine go_iconst (nI 1) (by decide) dR_leave_176 ?_
    refine go_icmp_eq dR_leave_177 (tgt := 188) (by decide) (fun c177 => ?_) (fun c177 => ?_)
    · refine go_aload_n dR_leave_188 rfl rfl ?_
      refine go_aload_n dR_leave_189 rfl rfl ?_
      refine go_getO (a := 180) dR_leave_190 flR_59 rfl (hS.s sh_163) (hS.r rt_local) ?_
      refine go_iload dR_leave_193 rfl ?_
      refine go_ialV (hS.s sh_180) (by omega) (by decide) l3 dR_leave_195 ?_
      obtain ⟨k, hk, hk10⟩ : ∃ k, x.2.2 a = some k ∧ k < 10 := by first | exact ⟨0, (kR_0 lb).mp c166, by decide⟩ | exact ⟨1, (kR_1 lb).mp c177, by decide⟩
      refine go_cV (k' := (0, 0)) dR_leave_196 _ csR_166 (hS.s sh_163) rfl imR_push seR_push rfl (okR_push (d := 0) w G (some x) (k) (kR (x.2.2 a)) hS h (fun _ => ⟨by rw [hk]; rfl, lb k hk, lk k hk⟩)) (by omega) (by decide) (Nat.le_of_ble_eq_true rfl) (fun r1 G1 hr1 hn1 => ?_)
      obtain ⟨rfl, h1, o1⟩ := hr1
      have S1 := o1.St hS
      refine go_goto dR_leave_199 (tgt := 414) (by decide) ?_
      refine go_return rfl dR_leave_414 ?_
      first | exact ⟨rfl, by rw [fe2n (fun e => c166 ((kR_0 lb).mpr e)) (fun e => c177 ((kR_1 lb).mpr e)) lk]; exact h.lost, oN.w⟩ | exact ⟨rfl, by rw [fe2y hk hk10]; exact h1, o1⟩
    · refine go_aload_n dR_leave_180 rfl rfl ?_
      refine go_iconst (am_b false) (by decide) dR_leave_181 ?_
      refine go_putZ (by first | exact am_b_01 _ | exact Or.inl rfl | exact Or.inr rfl) dR_leave_182 fpR_155 rfl (hS.s sh_163) ?_
      refine go_goto dR_leave_185 (tgt := 414) (by decide) ?_
      refine go_return rfl dR_leave_414 ?_
      first | exact ⟨rfl, by rw [fe2n (fun e => c166 ((kR_0 lb).mpr e)) (fun e => c177 ((kR_1 lb).mpr e)) lk]; exact h.lost, oN.w⟩ | exact ⟨rfl, by rw [fe2y hk hk10]; exact h1, o1⟩
set_option maxRecDepth 100000 in
theorem okR_lv3 (w : am_W) {d : Nat} (hd : 2 ≤ d) (G : am_G) (x : fS) (g : Nat → Nat) (q p a b : Nat) (A : Int32) (hq : q < 12) (hp : p < 60) (ha : a < 8) (hb : b < 120) (hS : St0 G) (h : wR G (some x)) (hO : G.2.1 164 (60 * q + p) = nI 3) (hA : G.2.1 165 (60 * q + p) = A) (hA2 : A = nI a) (hB : True) : am_Ok w jR_leave d (0, 0) [.inr (some 163), .inl (nI q), .inl (nI p)] G (fun r G' => r = none ∧ wR G' (fEff g 3 a b x) ∧ oN G G') := by
  refine am_ok_of rfl (Nat.le_of_ble_eq_true rfl) ?_
  show am_Go w jR_leave d (0, 0) 0 [some (.inr (some 163)), some (.inl (nI q)), some (.inl (nI p)), none, none, none] [] G _
  have hdp := h.1.1
  have h8 := h.2.1.1
  subst hA2
  have l3 := h.1.2.2 a ha
  have lb := h.2.1.2.2 a ha
  have lk := h.2.2.1.2 a ha
  refine go_aload_n dR_leave_0 rfl rfl ?_
  refine go_getO (a := 164) dR_leave_1 flR_7 rfl (hS.s sh_163) (hS.r rt_op) ?_
  refine go_bipush (nI 60) (by decide) dR_leave_4 ?_
  refine go_iload_n dR_leave_6 rfl rfl ?_
  first | refine go_imulN dR_leave_7 ?_ | refine go_imul dR_leave_7 ?_
  refine go_iload_n dR_leave_8 rfl rfl ?_
  first | refine go_iaddN dR_leave_9 ?_ | refine go_iadd dR_leave_9 ?_
  first | refine go_ialV (hS.s sh_164) (by omega) (by decide) (by assumption) dR_leave_10 ?_ | refine go_ialoadN (hS.s sh_164) (by omega) (by decide) dR_leave_10 ?_
  refine go_istore_n dR_leave_11 rfl (Nat.le_of_ble_eq_true rfl) ?_
  refine go_aload_n dR_leave_12 rfl rfl ?_
  refine go_getO (a := 165) dR_leave_13 flR_13 rfl (hS.s sh_163) (hS.r rt_one) ?_
  refine go_bipush (nI 60) (by decide) dR_leave_16 ?_
  refine go_iload_n dR_leave_18 rfl rfl ?_
  first | refine go_imulN dR_leave_19 ?_ | refine go_imul dR_leave_19 ?_
  refine go_iload_n dR_leave_20 rfl rfl ?_
  first | refine go_iaddN dR_leave_21 ?_ | refine go_iadd dR_leave_21 ?_
  first | refine go_ialV (hS.s sh_165) (by omega) (by decide) (by assumption) dR_leave_22 ?_ | refine go_ialoadN (hS.s sh_165) (by omega) (by decide) dR_leave_22 ?_
  refine go_istore dR_leave_23 (Nat.le_of_ble_eq_true rfl) ?_
  refine go_iload_n dR_leave_25 rfl rfl ?_
  refine go_tableIn dR_leave_26 (by decide) (by decide) (off := 176) rfl (tgt := 202) (by decide) ?_
  refine go_aload_n dR_leave_202 rfl rfl ?_
  refine go_iconst (-1) (by decide) dR_leave_203 ?_
  refine go_cV (k' := (0, 0)) dR_leave_204 _ csR_162 (hS.s sh_163) rfl imR_take seR_take rfl (okR_takeA (d := 0) w G (some x) hS h) (by omega) (by decide) (Nat.le_of_ble_eq_true rfl) (fun r1 G1 hr1 hn1 => ?_)
  obtain ⟨rfl, h1, o1, u1⟩ := hr1
  have S1 := o1.St hS
  have w1 := h1.flag
  refine go_aload_n dR_leave_207 rfl rfl ?_
  refine go_getV dR_leave_208 flR_155 rfl (S1.s sh_163) w1 ?_
  refine go_if_eqB dR_leave_211 (tgt := 414) (by decide) (fun c211 => ?_) (fun c211 => ?_)
  · refine go_return rfl dR_leave_414 ?_
    first | exact ⟨rfl, by rw [fe3n c211 h1] ; exact fe3w c211 h1, o1⟩ | exact ⟨rfl, by rw [fe3y (by omega)]; exact h1.store (h.2.1.2.1 _ (by omega)) (h.2.2.1.1 _ (by omega)), o1.tr oN.l⟩
  · obtain ⟨y3, y4⟩ := fe3 c211
    have y5 := h.1.2.1 (x.1 - 1) (by omega)
    rw [y4] at h1
    have dp1 := h1.1.1
    have y6 : G1.2.1 179 (x.1 - 1) = nI (x.2.1 (x.1 - 1)) := by rw [u1]; exact y5
    refine go_aload_n dR_leave_214 rfl rfl ?_
    refine go_getO (a := 180) dR_leave_215 flR_59 rfl (S1.s sh_163) (S1.r rt_local) ?_
    refine go_iload dR_leave_218 rfl ?_
    refine go_aload_n dR_leave_220 rfl rfl ?_
    refine go_getO (a := 179) dR_leave_221 flR_56 rfl (S1.s sh_163) (S1.r rt_kind) ?_
    refine go_aload_n dR_leave_224 rfl rfl ?_
    refine go_getV (v := nI (x.1 - 1)) dR_leave_225 flR_152 rfl (S1.s sh_163) dp1 ?_
    refine go_ialV (S1.s sh_179) (by omega) (by decide) y6 dR_leave_228 ?_
    refine go_iastoreN (S1.s sh_180) (by omega) (by decide) dR_leave_229 ?_
    refine go_goto dR_leave_230 (tgt := 414) (by decide) ?_
    refine go_return rfl dR_leave_414 ?_
    first | exact ⟨rfl, by rw [fe3n c211 h1] ; exact fe3w c211 h1, o1⟩ | exact ⟨rfl, by rw [fe3y (by omega)]; exact h1.store (h.2.1.2.1 _ (by omega)) (h.2.2.1.1 _ (by omega)), o1.tr oN.l⟩
set_option maxRecDepth 100000 in
theorem okR_lv4 (w : am_W) {d : Nat} (hd : 2 ≤ d) (G : am_G) (x : fS) (g : Nat → Nat) (q p a b : Nat) (A : Int32) (hq : q < 12) (hp : p < 60) (ha : a < 8) (hb : b < 120) (hS : St0 G) (h : wR G (some x)) (hO : G.2.1 164 (60 * q + p) = nI 4) (hA : G.2.1 165 (60 * q + p) = A) (hA2 : True) (hB : True) : am_Ok w jR_leave d (0, 0) [.inr (some 163), .inl (nI q), .inl (nI p)] G (fun r G' => r = none ∧ wR G' (fEff g 4 a b x) ∧ oN G G') := by
  refine am_ok_of rfl (Nat.le_of_ble_eq_true rfl) ?_
  show am_Go w jR_leave d (0, 0) 0 [some (.inr (some 163)), some (.inl (nI q)), some (.inl (nI p)), none, none, none] [] G _
  have hdp := h.1.1
  have h8 := h.2.1.1
  refine go_aload_n dR_leave_0 rfl rfl ?_
  refine go_getO (a := 164) dR_leave_1 flR_7 rfl (hS.s sh_163) (hS.r rt_op) ?_
  refine go_bipush (nI 60) (by decide) dR_leave_4 ?_
  refine go_iload_n dR_leave_6 rfl rfl ?_
  first | refine go_imulN dR_leave_7 ?_ | refine go_imul dR_leave_7 ?_
  refine go_iload_n dR_leave_8 rfl rfl ?_
  first | refine go_iaddN dR_leave_9 ?_ | refine go_iadd dR_leave_9 ?_
  first | refine go_ialV (hS.s sh_164) (by omega) (by decide) (by assumption) dR_leave_10 ?_ | refine go_ialoadN (hS.s sh_164) (by omega) (by decide) dR_leave_10 ?_
  refine go_istore_n dR_leave_11 rfl (Nat.le_of_ble_eq_true rfl) ?_
  refine go_aload_n dR_leave_12 rfl rfl ?_
  refine go_getO (a := 165) dR_leave_13 flR_13 rfl (hS.s sh_163) (hS.r rt_one) ?_
  refine go_bipush (nI 60) (by decide) dR_leave_16 ?_
  refine go_iload_n dR_leave_18 rfl rfl ?_
  first | refine go_imulN dR_leave_19 ?_ | refine go_imul dR_leave_19 ?_
  refine go_iload_n dR_leave_20 rfl rfl ?_
  first | refine go_iaddN dR_leave_21 ?_ | refine go_iadd dR_leave_21 ?_
  first | refine go_ialV (hS.s sh_165) (by omega) (by decide) (by assumption) dR_leave_22 ?_ | refine go_ialoadN (hS.s sh_165) (by omega) (by decide) dR_leave_22 ?_
  refine go_istore dR_leave_23 (Nat.le_of_ble_eq_true rfl) ?_
  refine go_iload_n dR_leave_25 rfl rfl ?_
  refine go_tableIn dR_leave_26 (by decide) (by decide) (off := 207) rfl (tgt := 233) (by decide) ?_
  refine go_aload_n dR_leave_233 rfl rfl ?_
  refine go_iload_n dR_leave_234 rfl rfl ?_
  refine go_cV (k' := (0, 0)) dR_leave_235 _ csR_169 (hS.s sh_163) rfl imR_move seR_move rfl (okR_move4 (d := 1) w (by decide) G x g a b hS h) (by omega) (by decide) (Nat.le_of_ble_eq_true rfl) (fun r1 G1 hr1 hn1 => ?_)
  obtain ⟨rfl, h1, o1⟩ := hr1
  have S1 := o1.St hS
  refine go_goto dR_leave_238 (tgt := 414) (by decide) ?_
  refine go_return rfl dR_leave_414 ?_
  exact ⟨rfl, h1, o1⟩
set_option maxRecDepth 100000 in
theorem okR_lv5 (w : am_W) {d : Nat} (hd : 2 ≤ d) (G : am_G) (x : fS) (g : Nat → Nat) (q p a b : Nat) (A : Int32) (hq : q < 12) (hp : p < 60) (ha : a < 8) (hb : b < 120) (hS : St0 G) (h : wR G (some x)) (hO : G.2.1 164 (60 * q + p) = nI 5) (hA : G.2.1 165 (60 * q + p) = A) (hA2 : True) (hB : True) : am_Ok w jR_leave d (0, 0) [.inr (some 163), .inl (nI q), .inl (nI p)] G (fun r G' => r = none ∧ wR G' (fEff g 5 a b x) ∧ oN G G') := by
  refine am_ok_of rfl (Nat.le_of_ble_eq_true rfl) ?_
  show am_Go w jR_leave d (0, 0) 0 [some (.inr (some 163)), some (.inl (nI q)), some (.inl (nI p)), none, none, none] [] G _
  have hdp := h.1.1
  have h8 := h.2.1.1
  refine go_aload_n dR_leave_0 rfl rfl ?_
  refine go_getO (a := 164) dR_leave_1 flR_7 rfl (hS.s sh_163) (hS.r rt_op) ?_
  refine go_bipush (nI 60) (by decide) dR_leave_4 ?_
  refine go_iload_n dR_leave_6 rfl rfl ?_
  first | refine go_imulN dR_leave_7 ?_ | refine go_imul dR_leave_7 ?_
  refine go_iload_n dR_leave_8 rfl rfl ?_
  first | refine go_iaddN dR_leave_9 ?_ | refine go_iadd dR_leave_9 ?_
  first | refine go_ialV (hS.s sh_164) (by omega) (by decide) (by assumption) dR_leave_10 ?_ | refine go_ialoadN (hS.s sh_164) (by omega) (by decide) dR_leave_10 ?_
  refine go_istore_n dR_leave_11 rfl (Nat.le_of_ble_eq_true rfl) ?_
  refine go_aload_n dR_leave_12 rfl rfl ?_
  refine go_getO (a := 165) dR_leave_13 flR_13 rfl (hS.s sh_163) (hS.r rt_one) ?_
  refine go_bipush (nI 60) (by decide) dR_leave_16 ?_
  refine go_iload_n dR_leave_18 rfl rfl ?_
  first | refine go_imulN dR_leave_19 ?_ | refine go_imul dR_leave_19 ?_
  refine go_iload_n dR_leave_20 rfl rfl ?_
  first | refine go_iaddN dR_leave_21 ?_ | refine go_iadd dR_leave_21 ?_
  first | refine go_ialV (hS.s sh_165) (by omega) (by decide) (by assumption) dR_leave_22 ?_ | refine go_ialoadN (hS.s sh_165) (by omega) (by decide) dR_leave_22 ?_
  refine go_istore dR_leave_23 (Nat.le_of_ble_eq_true rfl) ?_
  refine go_iload_n dR_leave_25 rfl rfl ?_
  refine go_tableIn dR_leave_26 (by decide) (by decide) (off := 207) rfl (tgt := 233) (by decide) ?_
  refine go_aload_n dR_leave_233 rfl rfl ?_
  refine go_iload_n dR_leave_234 rfl rfl ?_
  refine go_cV (k' := (0, 0)) dR_leave_235 _ csR_169 (hS.s sh_163) rfl imR_move seR_move rfl (okR_move5 (d := 1) w (by decide) G x g a b hS h) (by omega) (by decide) (Nat.le_of_ble_eq_true rfl) (fun r1 G1 hr1 hn1 => ?_)
  obtain ⟨rfl, h1, o1⟩ := hr1
  have S1 := o1.St hS
  refine go_goto dR_leave_238 (tgt := 414) (by decide) ?_
  refine go_return rfl dR_leave_414 ?_
  exact ⟨rfl, h1, o1⟩
set_option maxRecDepth 100000 in
theorem okR_lv6 (w : am_W) {d : Nat} (hd : 2 ≤ d) (G : am_G) (x : fS) (g : Nat → Nat) (q p a b : Nat) (A : Int32) (hq : q < 12) (hp : p < 60) (ha : a < 8) (hb : b < 120) (hS : St0 G) (h : wR G (some x)) (hO : G.2.1 164 (60 * q + p) = nI 6) (hA : G.2.1 165 (60 * q + p) = A) (hA2 : True) (hB : True) : am_Ok w jR_leave d (0, 0) [.inr (some 163), .inl (nI q), .inl (nI p)] G (fun r G' => r = none ∧ wR G' (fEff g 6 a b x) ∧ oN G G') := by
  refine am_ok_of rfl (Nat.le_of_ble_eq_true rfl) ?_
  show am_Go w jR_leave d (0, 0) 0 [some (.inr (some 163)), some (.inl (nI q)), some (.inl (nI p)), none, none, none] [] G _
  have hdp := h.1.1
  have h8 := h.2.1.1
  refine go_aload_n dR_leave_0 rfl rfl ?_
  refine go_getO (a := 164) dR_leave_1 flR_7 rfl (hS.s sh_163) (hS.r rt_op) ?_
  refine go_bipush (nI 60) (by decide) dR_leave_4 ?_
  refine go_iload_n dR_leave_6 rfl rfl ?_
  first | refine go_imulN dR_leave_7 ?_ | refine go_imul dR_leave_7 ?_
  refine go_iload_n dR_leave_8 rfl rfl ?_
  first | refine go_iaddN dR_leave_9 ?_ | refine go_iadd dR_leave_9 ?_
  first | refine go_ialV (hS.s sh_164) (by omega) (by decide) (by assumption) dR_leave_10 ?_ | refine go_ialoadN (hS.s sh_164) (by omega) (by decide) dR_leave_10 ?_
  refine go_istore_n dR_leave_11 rfl (Nat.le_of_ble_eq_true rfl) ?_
  refine go_aload_n dR_leave_12 rfl rfl ?_
  refine go_getO (a := 165) dR_leave_13 flR_13 rfl (hS.s sh_163) (hS.r rt_one) ?_
  refine go_bipush (nI 60) (by decide) dR_leave_16 ?_
  refine go_iload_n dR_leave_18 rfl rfl ?_
  first | refine go_imulN dR_leave_19 ?_ | refine go_imul dR_leave_19 ?_
  refine go_iload_n dR_leave_20 rfl rfl ?_
  first | refine go_iaddN dR_leave_21 ?_ | refine go_iadd dR_leave_21 ?_
  first | refine go_ialV (hS.s sh_165) (by omega) (by decide) (by assumption) dR_leave_22 ?_ | refine go_ialoadN (hS.s sh_165) (by omega) (by decide) dR_leave_22 ?_
  refine go_istore dR_leave_23 (Nat.le_of_ble_eq_true rfl) ?_
  refine go_iload_n dR_leave_25 rfl rfl ?_
  refine go_tableIn dR_leave_26 (by decide) (by decide) (off := 207) rfl (tgt := 233) (by decide) ?_
  refine go_aload_n dR_leave_233 rfl rfl ?_
  refine go_iload_n dR_leave_234 rfl rfl ?_
  refine go_cV (k' := (0, 0)) dR_leave_235 _ csR_169 (hS.s sh_163) rfl imR_move seR_move rfl (okR_move6 (d := 1) w (by decide) G x g a b hS h) (by omega) (by decide) (Nat.le_of_ble_eq_true rfl) (fun r1 G1 hr1 hn1 => ?_)
  obtain ⟨rfl, h1, o1⟩ := hr1
  have S1 := o1.St hS
  refine go_goto dR_leave_238 (tgt := 414) (by decide) ?_
  refine go_return rfl dR_leave_414 ?_
  exact ⟨rfl, h1, o1⟩
set_option maxRecDepth 100000 in
theorem okR_lv7 (w : am_W) {d : Nat} (hd : 2 ≤ d) (G : am_G) (x : fS) (g : Nat → Nat) (q p a b : Nat) (A : Int32) (hq : q < 12) (hp : p < 60) (ha : a < 8) (hb : b < 120) (hS : St0 G) (h : wR G (some x)) (hO : G.2.1 164 (60 * q + p) = nI 7) (hA : G.2.1 165 (60 * q + p) = A) (hA2 : True) (hB : True) : am_Ok w jR_leave d (0, 0) [.inr (some 163), .inl (nI q), .inl (nI p)] G (fun r G' => r = none ∧ wR G' (fEff g 7 a b x) ∧ oN G G') := by
  refine am_ok_of rfl (Nat.le_of_ble_eq_true rfl) ?_
  show am_Go w jR_leave d (0, 0) 0 [some (.inr (some 163)), some (.inl (nI q)), some (.inl (nI p)), none, none, none] [] G _
  have hdp := h.1.1
  have h8 := h.2.1.1
  refine go_aload_n dR_leave_0 rfl rfl ?_
  refine go_getO (a := 164) dR_leave_1 flR_7 rfl (hS.s sh_163) (hS.r rt_op) ?_
  refine go_bipush (nI 60) (by decide) dR_leave_4 ?_
  refine go_iload_n dR_leave_6 rfl rfl ?_
  first | refine go_imulN dR_leave_7 ?_ | refine go_imul dR_leave_7 ?_
  refine go_iload_n dR_leave_8 rfl rfl ?_
  first | refine go_iaddN dR_leave_9 ?_ | refine go_iadd dR_leave_9 ?_
  first | refine go_ialV (hS.s sh_164) (by omega) (by decide) (by assumption) dR_leave_10 ?_ | refine go_ialoadN (hS.s sh_164) (by omega) (by decide) dR_leave_10 ?_
  refine go_istore_n dR_leave_11 rfl (Nat.le_of_ble_eq_true rfl) ?_
  refine go_aload_n dR_leave_12 rfl rfl ?_
  refine go_getO (a := 165) dR_leave_13 flR_13 rfl (hS.s sh_163) (hS.r rt_one) ?_
  refine go_bipush (nI 60) (by decide) dR_leave_16 ?_
  refine go_iload_n dR_leave_18 rfl rfl ?_
  first | refine go_imulN dR_leave_19 ?_ | refine go_imul dR_leave_19 ?_
  refine go_iload_n dR_leave_20 rfl rfl ?_
  first | refine go_iaddN dR_leave_21 ?_ | refine go_iadd dR_leave_21 ?_
  first | refine go_ialV (hS.s sh_165) (by omega) (by decide) (by assumption) dR_leave_22 ?_ | refine go_ialoadN (hS.s sh_165) (by omega) (by decide) dR_leave_22 ?_
  refine go_istore dR_leave_23 (Nat.le_of_ble_eq_true rfl) ?_
  refine go_iload_n dR_leave_25 rfl rfl ?_
  refine go_tableIn dR_leave_26 (by decide) (by decide) (off := 215) rfl (tgt := 241) (by decide) ?_
  refine go_aload_n dR_leave_241 rfl rfl ?_
  refine go_iconst (nI 0) (by decide) dR_leave_242 ?_
  refine go_cV (k' := (0, 0)) dR_leave_243 _ csR_162 (hS.s sh_163) rfl imR_take seR_take rfl (okR_takeK (d := 0) w G (some x) 0 (by decide) hS h) (by omega) (by decide) (Nat.le_of_ble_eq_true rfl) (fun r1 G1 hr1 hn1 => ?_)
  obtain ⟨rfl, h1, o1⟩ := hr1
  have S1 := o1.St hS
  refine go_aload_n dR_leave_246 rfl rfl ?_
  refine go_iconst (nI 0) (by decide) dR_leave_247 ?_
  refine go_cV (k' := (0, 0)) dR_leave_248 _ csR_162 (S1.s sh_163) rfl imR_take seR_take rfl (okR_takeK (d := 0) w G1 ((some x).bind (fTake 0)) 0 (by decide) S1 h1) (by omega) (by decide) (Nat.le_of_ble_eq_true rfl) (fun r2 G2 hr2 hn2 => ?_)
  obtain ⟨rfl, h2, o2⟩ := hr2
  have S2 := o2.St S1
  refine go_aload_n dR_leave_251 rfl rfl ?_
  refine go_iconst (nI 0) (by decide) dR_leave_252 ?_
  refine go_cV (k' := (0, 0)) dR_leave_253 _ csR_166 (S2.s sh_163) rfl imR_push seR_push rfl (okR_push (d := 0) w G2 (((some x).bind (fTake 0)).bind (fTake 0)) (0) (nI (0)) S2 h2 (fun _ => ⟨rfl, by decide, by unfold kV; omega⟩)) (by omega) (by decide) (Nat.le_of_ble_eq_true rfl) (fun r3 G3 hr3 hn3 => ?_)
  obtain ⟨rfl, h3, o3⟩ := hr3
  have S3 := o3.St S2
  refine go_goto dR_leave_256 (tgt := 414) (by decide) ?_
  refine go_return rfl dR_leave_414 ?_
  exact ⟨rfl, (fe_at (y := fEff g 7 a b x) h3 (by first | rfl | exact fe_r3)), ((o1.tr o2).tr o3)⟩
set_option maxRecDepth 100000 in
theorem okR_lv8 (w : am_W) {d : Nat} (hd : 2 ≤ d) (G : am_G) (x : fS) (g : Nat → Nat) (q p a b : Nat) (A : Int32) (hq : q < 12) (hp : p < 60) (ha : a < 8) (hb : b < 120) (hS : St0 G) (h : wR G (some x)) (hO : G.2.1 164 (60 * q + p) = nI 8) (hA : G.2.1 165 (60 * q + p) = A) (hA2 : True) (hB : True) : am_Ok w jR_leave d (0, 0) [.inr (some 163), .inl (nI q), .inl (nI p)] G (fun r G' => r = none ∧ wR G' (fEff g 8 a b x) ∧ oN G G') := by
  refine am_ok_of rfl (Nat.le_of_ble_eq_true rfl) ?_
  show am_Go w jR_leave d (0, 0) 0 [some (.inr (some 163)), some (.inl (nI q)), some (.inl (nI p)), none, none, none] [] G _
  have hdp := h.1.1
  have h8 := h.2.1.1
  refine go_aload_n dR_leave_0 rfl rfl ?_
  refine go_getO (a := 164) dR_leave_1 flR_7 rfl (hS.s sh_163) (hS.r rt_op) ?_
  refine go_bipush (nI 60) (by decide) dR_leave_4 ?_
  refine go_iload_n dR_leave_6 rfl rfl ?_
  first | refine go_imulN dR_leave_7 ?_ | refine go_imul dR_leave_7 ?_
  refine go_iload_n dR_leave_8 rfl rfl ?_
  first | refine go_iaddN dR_leave_9 ?_ | refine go_iadd dR_leave_9 ?_
  first | refine go_ialV (hS.s sh_164) (by omega) (by decide) (by assumption) dR_leave_10 ?_ | refine go_ialoadN (hS.s sh_164) (by omega) (by decide) dR_leave_10 ?_
  refine go_istore_n dR_leave_11 rfl (Nat.le_of_ble_eq_true rfl) ?_
  refine go_aload_n dR_leave_12 rfl rfl ?_
  refine go_getO (a := 165) dR_leave_13 flR_13 rfl (hS.s sh_163) (hS.r rt_one) ?_
  refine go_bipush (nI 60) (by decide) dR_leave_16 ?_
  refine go_iload_n dR_leave_18 rfl rfl ?_
  first | refine go_imulN dR_leave_19 ?_ | refine go_imul dR_leave_19 ?_
  refine go_iload_n dR_leave_20 rfl rfl ?_
  first | refine go_iaddN dR_leave_21 ?_ | refine go_iadd dR_leave_21 ?_
  first | refine go_ialV (hS.s sh_165) (by omega) (by decide) (by assumption) dR_leave_22 ?_ | refine go_ialoadN (hS.s sh_165) (by omega) (by decide) dR_leave_22 ?_
  refine go_istore dR_leave_23 (Nat.le_of_ble_eq_true rfl) ?_
  refine go_iload_n dR_leave_25 rfl rfl ?_
  refine go_tableIn dR_leave_26 (by decide) (by decide) (off := 215) rfl (tgt := 241) (by decide) ?_
  refine go_aload_n dR_leave_241 rfl rfl ?_
  refine go_iconst (nI 0) (by decide) dR_leave_242 ?_
  refine go_cV (k' := (0, 0)) dR_leave_243 _ csR_162 (hS.s sh_163) rfl imR_take seR_take rfl (okR_takeK (d := 0) w G (some x) 0 (by decide) hS h) (by omega) (by decide) (Nat.le_of_ble_eq_true rfl) (fun r1 G1 hr1 hn1 => ?_)
  obtain ⟨rfl, h1, o1⟩ := hr1
  have S1 := o1.St hS
  refine go_aload_n dR_leave_246 rfl rfl ?_
  refine go_iconst (nI 0) (by decide) dR_leave_247 ?_
  refine go_cV (k' := (0, 0)) dR_leave_248 _ csR_162 (S1.s sh_163) rfl imR_take seR_take rfl (okR_takeK (d := 0) w G1 ((some x).bind (fTake 0)) 0 (by decide) S1 h1) (by omega) (by decide) (Nat.le_of_ble_eq_true rfl) (fun r2 G2 hr2 hn2 => ?_)
  obtain ⟨rfl, h2, o2⟩ := hr2
  have S2 := o2.St S1
  refine go_aload_n dR_leave_251 rfl rfl ?_
  refine go_iconst (nI 0) (by decide) dR_leave_252 ?_
  refine go_cV (k' := (0, 0)) dR_leave_253 _ csR_166 (S2.s sh_163) rfl imR_push seR_push rfl (okR_push (d := 0) w G2 (((some x).bind (fTake 0)).bind (fTake 0)) (0) (nI (0)) S2 h2 (fun _ => ⟨rfl, by decide, by unfold kV; omega⟩)) (by omega) (by decide) (Nat.le_of_ble_eq_true rfl) (fun r3 G3 hr3 hn3 => ?_)
  obtain ⟨rfl, h3, o3⟩ := hr3
  have S3 := o3.St S2
  refine go_goto dR_leave_256 (tgt := 414) (by decide) ?_
  refine go_return rfl dR_leave_414 ?_
  exact ⟨rfl, (fe_at (y := fEff g 8 a b x) h3 (by first | rfl | exact fe_r3)), ((o1.tr o2).tr o3)⟩
set_option maxRecDepth 100000 in
theorem okR_lv9 (w : am_W) {d : Nat} (hd : 2 ≤ d) (G : am_G) (x : fS) (g : Nat → Nat) (q p a b : Nat) (A : Int32) (hq : q < 12) (hp : p < 60) (ha : a < 8) (hb : b < 120) (hS : St0 G) (h : wR G (some x)) (hO : G.2.1 164 (60 * q + p) = nI 9) (hA : G.2.1 165 (60 * q + p) = A) (hA2 : True) (hB : True) : am_Ok w jR_leave d (0, 0) [.inr (some 163), .inl (nI q), .inl (nI p)] G (fun r G' => r = none ∧ wR G' (fEff g 9 a b x) ∧ oN G G') := by
  refine am_ok_of rfl (Nat.le_of_ble_eq_true rfl) ?_
  show am_Go w jR_leave d (0, 0) 0 [some (.inr (some 163)), some (.inl (nI q)), some (.inl (nI p)), none, none, none] [] G _
  have hdp := h.1.1
  have h8 := h.2.1.1
  refine go_aload_n dR_leave_0 rfl rfl ?_
  refine go_getO (a := 164) dR_leave_1 flR_7 rfl (hS.s sh_163) (hS.r rt_op) ?_
  refine go_bipush (nI 60) (by decide) dR_leave_4 ?_
  refine go_iload_n dR_leave_6 rfl rfl ?_
  first | refine go_imulN dR_leave_7 ?_ | refine go_imul dR_leave_7 ?_
  refine go_iload_n dR_leave_8 rfl rfl ?_
  first | refine go_iaddN dR_leave_9 ?_ | refine go_iadd dR_leave_9 ?_
  first | refine go_ialV (hS.s sh_164) (by omega) (by decide) (by assumption) dR_leave_10 ?_ | refine go_ialoadN (hS.s sh_164) (by omega) (by decide) dR_leave_10 ?_
  refine go_istore_n dR_leave_11 rfl (Nat.le_of_ble_eq_true rfl) ?_
  refine go_aload_n dR_leave_12 rfl rfl ?_
  refine go_getO (a := 165) dR_leave_13 flR_13 rfl (hS.s sh_163) (hS.r rt_one) ?_
  refine go_bipush (nI 60) (by decide) dR_leave_16 ?_
  refine go_iload_n dR_leave_18 rfl rfl ?_
  first | refine go_imulN dR_leave_19 ?_ | refine go_imul dR_leave_19 ?_
  refine go_iload_n dR_leave_20 rfl rfl ?_
  first | refine go_iaddN dR_leave_21 ?_ | refine go_iadd dR_leave_21 ?_
  first | refine go_ialV (hS.s sh_165) (by omega) (by decide) (by assumption) dR_leave_22 ?_ | refine go_ialoadN (hS.s sh_165) (by omega) (by decide) dR_leave_22 ?_
  refine go_istore dR_leave_23 (Nat.le_of_ble_eq_true rfl) ?_
  refine go_iload_n dR_leave_25 rfl rfl ?_
  refine go_tableIn dR_leave_26 (by decide) (by decide) (off := 215) rfl (tgt := 241) (by decide) ?_
  refine go_aload_n dR_leave_241 rfl rfl ?_
  refine go_iconst (nI 0) (by decide) dR_leave_242 ?_
  refine go_cV (k' := (0, 0)) dR_leave_243 _ csR_162 (hS.s sh_163) rfl imR_take seR_take rfl (okR_takeK (d := 0) w G (some x) 0 (by decide) hS h) (by omega) (by decide) (Nat.le_of_ble_eq_true rfl) (fun r1 G1 hr1 hn1 => ?_)
  obtain ⟨rfl, h1, o1⟩ := hr1
  have S1 := o1.St hS
  refine go_aload_n dR_leave_246 rfl rfl ?_
  refine go_iconst (nI 0) (by decide) dR_leave_247 ?_
  refine go_cV (k' := (0, 0)) dR_leave_248 _ csR_162 (S1.s sh_163) rfl imR_take seR_take rfl (okR_takeK (d := 0) w G1 ((some x).bind (fTake 0)) 0 (by decide) S1 h1) (by omega) (by decide) (Nat.le_of_ble_eq_true rfl) (fun r2 G2 hr2 hn2 => ?_)
  obtain ⟨rfl, h2, o2⟩ := hr2
  have S2 := o2.St S1
  refine go_aload_n dR_leave_251 rfl rfl ?_
  refine go_iconst (nI 0) (by decide) dR_leave_252 ?_
  refine go_cV (k' := (0, 0)) dR_leave_253 _ csR_166 (S2.s sh_163) rfl imR_push seR_push rfl (okR_push (d := 0) w G2 (((some x).bind (fTake 0)).bind (fTake 0)) (0) (nI (0)) S2 h2 (fun _ => ⟨rfl, by decide, by unfold kV; omega⟩)) (by omega) (by decide) (Nat.le_of_ble_eq_true rfl) (fun r3 G3 hr3 hn3 => ?_)
  obtain ⟨rfl, h3, o3⟩ := hr3
  have S3 := o3.St S2
  refine go_goto dR_leave_256 (tgt := 414) (by decide) ?_
  refine go_return rfl dR_leave_414 ?_
  exact ⟨rfl, (fe_at (y := fEff g 9 a b x) h3 (by first | rfl | exact fe_r3)), ((o1.tr o2).tr o3)⟩
set_option maxRecDepth 100000 in
theorem okR_lv10 (w : am_W) {d : Nat} (hd : 2 ≤ d) (G : am_G) (x : fS) (g : Nat → Nat) (q p a b : Nat) (A : Int32) (hq : q < 12) (hp : p < 60) (ha : a < 8) (hb : b < 120) (hS : St0 G) (h : wR G (some x)) (hO : G.2.1 164 (60 * q + p) = nI 10) (hA : G.2.1 165 (60 * q + p) = A) (hA2 : True) (hB : True) : am_Ok w jR_leave d (0, 0) [.inr (some 163), .inl (nI q), .inl (nI p)] G (fun r G' => r = none ∧ wR G' (fEff g 10 a b x) ∧ oN G G') := by
  refine am_ok_of rfl (Nat.le_of_ble_eq_true rfl) ?_
  show am_Go w jR_leave d (0, 0) 0 [some (.inr (some 163)), some (.inl (nI q)), some (.inl (nI p)), none, none, none] [] G _
  have hdp := h.1.1
  have h8 := h.2.1.1
  refine go_aload_n dR_leave_0 rfl rfl ?_
  refine go_getO (a := 164) dR_leave_1 flR_7 rfl (hS.s sh_163) (hS.r rt_op) ?_
  refine go_bipush (nI 60) (by decide) dR_leave_4 ?_
  refine go_iload_n dR_leave_6 rfl rfl ?_
  first | refine go_imulN dR_leave_7 ?_ | refine go_imul dR_leave_7 ?_
  refine go_iload_n dR_leave_8 rfl rfl ?_
  first | refine go_iaddN dR_leave_9 ?_ | refine go_iadd dR_leave_9 ?_
  first | refine go_ialV (hS.s sh_164) (by omega) (by decide) (by assumption) dR_leave_10 ?_ | refine go_ialoadN (hS.s sh_164) (by omega) (by decide) dR_leave_10 ?_
  refine go_istore_n dR_leave_11 rfl (Nat.le_of_ble_eq_true rfl) ?_
  refine go_aload_n dR_leave_12 rfl rfl ?_
  refine go_getO (a := 165) dR_leave_13 flR_13 rfl (hS.s sh_163) (hS.r rt_one) ?_
  refine go_bipush (nI 60) (by decide) dR_leave_16 ?_
  refine go_iload_n dR_leave_18 rfl rfl ?_
  first | refine go_imulN dR_leave_19 ?_ | refine go_imul dR_leave_19 ?_
  refine go_iload_n dR_leave_20 rfl rfl ?_
  first | refine go_iaddN dR_leave_21 ?_ | refine go_iadd dR_leave_21 ?_
  first | refine go_ialV (hS.s sh_165) (by omega) (by decide) (by assumption) dR_leave_22 ?_ | refine go_ialoadN (hS.s sh_165) (by omega) (by decide) dR_leave_22 ?_
  refine go_istore dR_leave_23 (Nat.le_of_ble_eq_true rfl) ?_
  refine go_iload_n dR_leave_25 rfl rfl ?_
  refine go_tableIn dR_leave_26 (by decide) (by decide) (off := 215) rfl (tgt := 241) (by decide) ?_
  refine go_aload_n dR_leave_241 rfl rfl ?_
  refine go_iconst (nI 0) (by decide) dR_leave_242 ?_
  refine go_cV (k' := (0, 0)) dR_leave_243 _ csR_162 (hS.s sh_163) rfl imR_take seR_take rfl (okR_takeK (d := 0) w G (some x) 0 (by decide) hS h) (by omega) (by decide) (Nat.le_of_ble_eq_true rfl) (fun r1 G1 hr1 hn1 => ?_)
  obtain ⟨rfl, h1, o1⟩ := hr1
  have S1 := o1.St hS
  refine go_aload_n dR_leave_246 rfl rfl ?_
  refine go_iconst (nI 0) (by decide) dR_leave_247 ?_
  refine go_cV (k' := (0, 0)) dR_leave_248 _ csR_162 (S1.s sh_163) rfl imR_take seR_take rfl (okR_takeK (d := 0) w G1 ((some x).bind (fTake 0)) 0 (by decide) S1 h1) (by omega) (by decide) (Nat.le_of_ble_eq_true rfl) (fun r2 G2 hr2 hn2 => ?_)
  obtain ⟨rfl, h2, o2⟩ := hr2
  have S2 := o2.St S1
  refine go_aload_n dR_leave_251 rfl rfl ?_
  refine go_iconst (nI 0) (by decide) dR_leave_252 ?_
  refine go_cV (k' := (0, 0)) dR_leave_253 _ csR_166 (S2.s sh_163) rfl imR_push seR_push rfl (okR_push (d := 0) w G2 (((some x).bind (fTake 0)).bind (fTake 0)) (0) (nI (0)) S2 h2 (fun _ => ⟨rfl, by decide, by unfold kV; omega⟩)) (by omega) (by decide) (Nat.le_of_ble_eq_true rfl) (fun r3 G3 hr3 hn3 => ?_)
  obtain ⟨rfl, h3, o3⟩ := hr3
  have S3 := o3.St S2
  refine go_goto dR_leave_256 (tgt := 414) (by decide) ?_
  refine go_return rfl dR_leave_414 ?_
  exact ⟨rfl, (fe_at (y := fEff g 10 a b x) h3 (by first | rfl | exact fe_r3)), ((o1.tr o2).tr o3)⟩
set_option maxRecDepth 100000 in
theorem okR_lv11 (w : am_W) {d : Nat} (hd : 2 ≤ d) (G : am_G) (x : fS) (g : Nat → Nat) (q p a b : Nat) (A : Int32) (hq : q < 12) (hp : p < 60) (ha : a < 8) (hb : b < 120) (hS : St0 G) (h : wR G (some x)) (hO : G.2.1 164 (60 * q + p) = nI 11) (hA : G.2.1 165 (60 * q + p) = A) (hA2 : True) (hB : True) : am_Ok w jR_leave d (0, 0) [.inr (some 163), .inl (nI q), .inl (nI p)] G (fun r G' => r = none ∧ wR G' (fEff g 11 a b x) ∧ oN G G') := by
  refine am_ok_of rfl (Nat.le_of_ble_eq_true rfl) ?_
  show am_Go w jR_leave d (0, 0) 0 [some (.inr (some 163)), some (.inl (nI q)), some (.inl (nI p)), none, none, none] [] G _
  have hdp := h.1.1
  have h8 := h.2.1.1
  refine go_aload_n dR_leave_0 rfl rfl ?_
  refine go_getO (a := 164) dR_leave_1 flR_7 rfl (hS.s sh_163) (hS.r rt_op) ?_
  refine go_bipush (nI 60) (by decide) dR_leave_4 ?_
  refine go_iload_n dR_leave_6 rfl rfl ?_
  first | refine go_imulN dR_leave_7 ?_ | refine go_imul dR_leave_7 ?_
  refine go_iload_n dR_leave_8 rfl rfl ?_
  first | refine go_iaddN dR_leave_9 ?_ | refine go_iadd dR_leave_9 ?_
  first | refine go_ialV (hS.s sh_164) (by omega) (by decide) (by assumption) dR_leave_10 ?_ | refine go_ialoadN (hS.s sh_164) (by omega) (by decide) dR_leave_10 ?_
  refine go_istore_n dR_leave_11 rfl (Nat.le_of_ble_eq_true rfl) ?_
  refine go_aload_n dR_leave_12 rfl rfl ?_
  refine go_getO (a := 165) dR_leave_13 flR_13 rfl (hS.s sh_163) (hS.r rt_one) ?_
  refine go_bipush (nI 60) (by decide) dR_leave_16 ?_
  refine go_iload_n dR_leave_18 rfl rfl ?_
  first | refine go_imulN dR_leave_19 ?_ | refine go_imul dR_leave_19 ?_
  refine go_iload_n dR_leave_20 rfl rfl ?_
  first | refine go_iaddN dR_leave_21 ?_ | refine go_iadd dR_leave_21 ?_
  first | refine go_ialV (hS.s sh_165) (by omega) (by decide) (by assumption) dR_leave_22 ?_ | refine go_ialoadN (hS.s sh_165) (by omega) (by decide) dR_leave_22 ?_
  refine go_istore dR_leave_23 (Nat.le_of_ble_eq_true rfl) ?_
  refine go_iload_n dR_leave_25 rfl rfl ?_
  refine go_tableIn dR_leave_26 (by decide) (by decide) (off := 122) rfl (tgt := 148) (by decide) ?_
  refine go_goto dR_leave_148 (tgt := 414) (by decide) ?_
  refine go_return rfl dR_leave_414 ?_
  exact ⟨rfl, h, oN.rf⟩
set_option maxRecDepth 100000 in
theorem okR_lv12 (w : am_W) {d : Nat} (hd : 2 ≤ d) (G : am_G) (x : fS) (g : Nat → Nat) (q p a b : Nat) (A : Int32) (hq : q < 12) (hp : p < 60) (ha : a < 8) (hb : b < 120) (hS : St0 G) (h : wR G (some x)) (hO : G.2.1 164 (60 * q + p) = nI 12) (hA : G.2.1 165 (60 * q + p) = A) (hA2 : True) (hB : True) : am_Ok w jR_leave d (0, 0) [.inr (some 163), .inl (nI q), .inl (nI p)] G (fun r G' => r = none ∧ wR G' (fEff g 12 a b x) ∧ oN G G') := by
  refine am_ok_of rfl (Nat.le_of_ble_eq_true rfl) ?_
  show am_Go w jR_leave d (0, 0) 0 [some (.inr (some 163)), some (.inl (nI q)), some (.inl (nI p)), none, none, none] [] G _
  have hdp := h.1.1
  have h8 := h.2.1.1
  refine go_aload_n dR_leave_0 rfl rfl ?_
  refine go_getO (a := 164) dR_leave_1 flR_7 rfl (hS.s sh_163) (hS.r rt_op) ?_
  refine go_bipush (nI 60) (by decide) dR_leave_4 ?_
  refine go_iload_n dR_leave_6 rfl rfl ?_
  first | refine go_imulN dR_leave_7 ?_ | refine go_imul dR_leave_7 ?_
  refine go_iload_n dR_leave_8 rfl rfl ?_
  first | refine go_iaddN dR_leave_9 ?_ | refine go_iadd dR_leave_9 ?_
  first | refine go_ialV (hS.s sh_164) (by omega) (by decide) (by assumption) dR_leave_10 ?_ | refine go_ialoadN (hS.s sh_164) (by omega) (by decide) dR_leave_10 ?_
  refine go_istore_n dR_leave_11 rfl (Nat.le_of_ble_eq_true rfl) ?_
  refine go_aload_n dR_leave_12 rfl rfl ?_
  refine go_getO (a := 165) dR_leave_13 flR_13 rfl (hS.s sh_163) (hS.r rt_one) ?_
  refine go_bipush (nI 60) (by decide) dR_leave_16 ?_
  refine go_iload_n dR_leave_18 rfl rfl ?_
  first | refine go_imulN dR_leave_19 ?_ | refine go_imul dR_leave_19 ?_
  refine go_iload_n dR_leave_20 rfl rfl ?_
  first | refine go_iaddN dR_leave_21 ?_ | refine go_iadd dR_leave_21 ?_
  first | refine go_ialV (hS.s sh_165) (by omega) (by decide) (by assumption) dR_leave_22 ?_ | refine go_ialoadN (hS.s sh_165) (by omega) (by decide) dR_leave_22 ?_
  refine go_istore dR_leave_23 (Nat.le_of_ble_eq_true rfl) ?_
  refine go_iload_n dR_leave_25 rfl rfl ?_
  refine go_tableIn dR_leave_26 (by decide) (by decide) (off := 233) rfl (tgt := 259) (by decide) ?_
  refine go_aload_n dR_leave_259 rfl rfl ?_
  refine go_iconst (nI 0) (by decide) dR_leave_260 ?_
  refine go_cV (k' := (0, 0)) dR_leave_261 _ csR_162 (hS.s sh_163) rfl imR_take seR_take rfl (okR_takeK (d := 0) w G (some x) 0 (by decide) hS h) (by omega) (by decide) (Nat.le_of_ble_eq_true rfl) (fun r1 G1 hr1 hn1 => ?_)
  obtain ⟨rfl, h1, o1⟩ := hr1
  have S1 := o1.St hS
  refine go_goto dR_leave_264 (tgt := 414) (by decide) ?_
  refine go_return rfl dR_leave_414 ?_
  exact ⟨rfl, (fe_at (y := fEff g 12 a b x) h1 (by first | rfl | exact fe_r3)), o1⟩
set_option maxRecDepth 100000 in
theorem okR_lv13 (w : am_W) {d : Nat} (hd : 2 ≤ d) (G : am_G) (x : fS) (g : Nat → Nat) (q p a b : Nat) (A : Int32) (hq : q < 12) (hp : p < 60) (ha : a < 8) (hb : b < 120) (hS : St0 G) (h : wR G (some x)) (hO : G.2.1 164 (60 * q + p) = nI 13) (hA : G.2.1 165 (60 * q + p) = A) (hA2 : True) (hB : True) : am_Ok w jR_leave d (0, 0) [.inr (some 163), .inl (nI q), .inl (nI p)] G (fun r G' => r = none ∧ wR G' (fEff g 13 a b x) ∧ oN G G') := by
  refine am_ok_of rfl (Nat.le_of_ble_eq_true rfl) ?_
  show am_Go w jR_leave d (0, 0) 0 [some (.inr (some 163)), some (.inl (nI q)), some (.inl (nI p)), none, none, none] [] G _
  have hdp := h.1.1
  have h8 := h.2.1.1
  refine go_aload_n dR_leave_0 rfl rfl ?_
  refine go_getO (a := 164) dR_leave_1 flR_7 rfl (hS.s sh_163) (hS.r rt_op) ?_
  refine go_bipush (nI 60) (by decide) dR_leave_4 ?_
  refine go_iload_n dR_leave_6 rfl rfl ?_
  first | refine go_imulN dR_leave_7 ?_ | refine go_imul dR_leave_7 ?_
  refine go_iload_n dR_leave_8 rfl rfl ?_
  first | refine go_iaddN dR_leave_9 ?_ | refine go_iadd dR_leave_9 ?_
  first | refine go_ialV (hS.s sh_164) (by omega) (by decide) (by assumption) dR_leave_10 ?_ | refine go_ialoadN (hS.s sh_164) (by omega) (by decide) dR_leave_10 ?_
  refine go_istore_n dR_leave_11 rfl (Nat.le_of_ble_eq_true rfl) ?_
  refine go_aload_n dR_leave_12 rfl rfl ?_
  refine go_getO (a := 165) dR_leave_13 flR_13 rfl (hS.s sh_163) (hS.r rt_one) ?_
  refine go_bipush (nI 60) (by decide) dR_leave_16 ?_
  refine go_iload_n dR_leave_18 rfl rfl ?_
  first | refine go_imulN dR_leave_19 ?_ | refine go_imul dR_leave_19 ?_
  refine go_iload_n dR_leave_20 rfl rfl ?_
  first | refine go_iaddN dR_leave_21 ?_ | refine go_iadd dR_leave_21 ?_
  first | refine go_ialV (hS.s sh_165) (by omega) (by decide) (by assumption) dR_leave_22 ?_ | refine go_ialoadN (hS.s sh_165) (by omega) (by decide) dR_leave_22 ?_
  refine go_istore dR_leave_23 (Nat.le_of_ble_eq_true rfl) ?_
  refine go_iload_n dR_leave_25 rfl rfl ?_
  refine go_tableIn dR_leave_26 (by decide) (by decide) (off := 241) rfl (tgt := 267) (by decide) ?_
  refine go_aload_n dR_leave_267 rfl rfl ?_
  refine go_iconst (nI 1) (by decide) dR_leave_268 ?_
  refine go_cV (k' := (0, 0)) dR_leave_269 _ csR_166 (hS.s sh_163) rfl imR_push seR_push rfl (okR_push (d := 0) w G (some x) (1) (nI (1)) hS h (fun _ => ⟨rfl, by decide, by unfold kV; omega⟩)) (by omega) (by decide) (Nat.le_of_ble_eq_true rfl) (fun r1 G1 hr1 hn1 => ?_)
  obtain ⟨rfl, h1, o1⟩ := hr1
  have S1 := o1.St hS
  refine go_goto dR_leave_272 (tgt := 414) (by decide) ?_
  refine go_return rfl dR_leave_414 ?_
  exact ⟨rfl, (fe_at (y := fEff g 13 a b x) h1 (by first | rfl | exact fe_r3)), o1⟩
set_option maxRecDepth 100000 in
theorem okR_lv14 (w : am_W) {d : Nat} (hd : 2 ≤ d) (G : am_G) (x : fS) (g : Nat → Nat) (q p a b : Nat) (A : Int32) (hq : q < 12) (hp : p < 60) (ha : a < 8) (hb : b < 120) (hS : St0 G) (h : wR G (some x)) (hO : G.2.1 164 (60 * q + p) = nI 14) (hA : G.2.1 165 (60 * q + p) = A) (hA2 : True) (hB : True) : am_Ok w jR_leave d (0, 0) [.inr (some 163), .inl (nI q), .inl (nI p)] G (fun r G' => r = none ∧ wR G' (fEff g 14 a b x) ∧ oN G G') := by
  refine am_ok_of rfl (Nat.le_of_ble_eq_true rfl) ?_
  show am_Go w jR_leave d (0, 0) 0 [some (.inr (some 163)), some (.inl (nI q)), some (.inl (nI p)), none, none, none] [] G _
  have hdp := h.1.1
  have h8 := h.2.1.1
  refine go_aload_n dR_leave_0 rfl rfl ?_
  refine go_getO (a := 164) dR_leave_1 flR_7 rfl (hS.s sh_163) (hS.r rt_op) ?_
  refine go_bipush (nI 60) (by decide) dR_leave_4 ?_
  refine go_iload_n dR_leave_6 rfl rfl ?_
  first | refine go_imulN dR_leave_7 ?_ | refine go_imul dR_leave_7 ?_
  refine go_iload_n dR_leave_8 rfl rfl ?_
  first | refine go_iaddN dR_leave_9 ?_ | refine go_iadd dR_leave_9 ?_
  first | refine go_ialV (hS.s sh_164) (by omega) (by decide) (by assumption) dR_leave_10 ?_ | refine go_ialoadN (hS.s sh_164) (by omega) (by decide) dR_leave_10 ?_
  refine go_istore_n dR_leave_11 rfl (Nat.le_of_ble_eq_true rfl) ?_
  refine go_aload_n dR_leave_12 rfl rfl ?_
  refine go_getO (a := 165) dR_leave_13 flR_13 rfl (hS.s sh_163) (hS.r rt_one) ?_
  refine go_bipush (nI 60) (by decide) dR_leave_16 ?_
  refine go_iload_n dR_leave_18 rfl rfl ?_
  first | refine go_imulN dR_leave_19 ?_ | refine go_imul dR_leave_19 ?_
  refine go_iload_n dR_leave_20 rfl rfl ?_
  first | refine go_iaddN dR_leave_21 ?_ | refine go_iadd dR_leave_21 ?_
  first | refine go_ialV (hS.s sh_165) (by omega) (by decide) (by assumption) dR_leave_22 ?_ | refine go_ialoadN (hS.s sh_165) (by omega) (by decide) dR_leave_22 ?_
  refine go_istore dR_leave_23 (Nat.le_of_ble_eq_true rfl) ?_
  refine go_iload_n dR_leave_25 rfl rfl ?_
  refine go_tableIn dR_leave_26 (by decide) (by decide) (off := 241) rfl (tgt := 267) (by decide) ?_
  refine go_aload_n dR_leave_267 rfl rfl ?_
  refine go_iconst (nI 1) (by decide) dR_leave_268 ?_
  refine go_cV (k' := (0, 0)) dR_leave_269 _ csR_166 (hS.s sh_163) rfl imR_push seR_push rfl (okR_push (d := 0) w G (some x) (1) (nI (1)) hS h (fun _ => ⟨rfl, by decide, by unfold kV; omega⟩)) (by omega) (by decide) (Nat.le_of_ble_eq_true rfl) (fun r1 G1 hr1 hn1 => ?_)
  obtain ⟨rfl, h1, o1⟩ := hr1
  have S1 := o1.St hS
  refine go_goto dR_leave_272 (tgt := 414) (by decide) ?_
  refine go_return rfl dR_leave_414 ?_
  exact ⟨rfl, (fe_at (y := fEff g 14 a b x) h1 (by first | rfl | exact fe_r3)), o1⟩
set_option maxRecDepth 100000 in
theorem okR_lv15 (w : am_W) {d : Nat} (hd : 2 ≤ d) (G : am_G) (x : fS) (g : Nat → Nat) (q p a b : Nat) (A : Int32) (hq : q < 12) (hp : p < 60) (ha : a < 8) (hb : b < 120) (hS : St0 G) (h : wR G (some x)) (hO : G.2.1 164 (60 * q + p) = nI 15) (hA : G.2.1 165 (60 * q + p) = A) (hA2 : True) (hB : True) : am_Ok w jR_leave d (0, 0) [.inr (some 163), .inl (nI q), .inl (nI p)] G (fun r G' => r = none ∧ wR G' (fEff g 15 a b x) ∧ oN G G') := by
  refine am_ok_of rfl (Nat.le_of_ble_eq_true rfl) ?_
  show am_Go w jR_leave d (0, 0) 0 [some (.inr (some 163)), some (.inl (nI q)), some (.inl (nI p)), none, none, none] [] G _
  have hdp := h.1.1
  have h8 := h.2.1.1
  refine go_aload_n dR_leave_0 rfl rfl ?_
  refine go_getO (a := 164) dR_leave_1 flR_7 rfl (hS.s sh_163) (hS.r rt_op) ?_
  refine go_bipush (nI 60) (by decide) dR_leave_4 ?_
  refine go_iload_n dR_leave_6 rfl rfl ?_
  first | refine go_imulN dR_leave_7 ?_ | refine go_imul dR_leave_7 ?_
  refine go_iload_n dR_leave_8 rfl rfl ?_
  first | refine go_iaddN dR_leave_9 ?_ | refine go_iadd dR_leave_9 ?_
  first | refine go_ialV (hS.s sh_164) (by omega) (by decide) (by assumption) dR_leave_10 ?_ | refine go_ialoadN (hS.s sh_164) (by omega) (by decide) dR_leave_10 ?_
  refine go_istore_n dR_leave_11 rfl (Nat.le_of_ble_eq_true rfl) ?_
  refine go_aload_n dR_leave_12 rfl rfl ?_
  refine go_getO (a := 165) dR_leave_13 flR_13 rfl (hS.s sh_163) (hS.r rt_one) ?_
  refine go_bipush (nI 60) (by decide) dR_leave_16 ?_
  refine go_iload_n dR_leave_18 rfl rfl ?_
  first | refine go_imulN dR_leave_19 ?_ | refine go_imul dR_leave_19 ?_
  refine go_iload_n dR_leave_20 rfl rfl ?_
  first | refine go_iaddN dR_leave_21 ?_ | refine go_iadd dR_leave_21 ?_
  first | refine go_ialV (hS.s sh_165) (by omega) (by decide) (by assumption) dR_leave_22 ?_ | refine go_ialoadN (hS.s sh_165) (by omega) (by decide) dR_leave_22 ?_
  refine go_istore dR_leave_23 (Nat.le_of_ble_eq_true rfl) ?_
  refine go_iload_n dR_leave_25 rfl rfl ?_
  refine go_tableIn dR_leave_26 (by decide) (by decide) (off := 249) rfl (tgt := 275) (by decide) ?_
  refine go_aload_n dR_leave_275 rfl rfl ?_
  refine go_iconst (nI 1) (by decide) dR_leave_276 ?_
  refine go_cV (k' := (0, 0)) dR_leave_277 _ csR_162 (hS.s sh_163) rfl imR_take seR_take rfl (okR_takeK (d := 0) w G (some x) 1 (by decide) hS h) (by omega) (by decide) (Nat.le_of_ble_eq_true rfl) (fun r1 G1 hr1 hn1 => ?_)
  obtain ⟨rfl, h1, o1⟩ := hr1
  have S1 := o1.St hS
  refine go_aload_n dR_leave_280 rfl rfl ?_
  refine go_iconst (nI 0) (by decide) dR_leave_281 ?_
  refine go_cV (k' := (0, 0)) dR_leave_282 _ csR_166 (S1.s sh_163) rfl imR_push seR_push rfl (okR_push (d := 0) w G1 ((some x).bind (fTake 1)) (0) (nI (0)) S1 h1 (fun _ => ⟨rfl, by decide, by unfold kV; omega⟩)) (by omega) (by decide) (Nat.le_of_ble_eq_true rfl) (fun r2 G2 hr2 hn2 => ?_)
  obtain ⟨rfl, h2, o2⟩ := hr2
  have S2 := o2.St S1
  refine go_goto dR_leave_285 (tgt := 414) (by decide) ?_
  refine go_return rfl dR_leave_414 ?_
  exact ⟨rfl, (fe_at (y := fEff g 15 a b x) h2 (by first | rfl | exact fe_r3)), (o1.tr o2)⟩
set_option maxRecDepth 100000 in
theorem okR_lv16 (w : am_W) {d : Nat} (hd : 2 ≤ d) (G : am_G) (x : fS) (g : Nat → Nat) (q p a b : Nat) (A : Int32) (hq : q < 12) (hp : p < 60) (ha : a < 8) (hb : b < 120) (hS : St0 G) (h : wR G (some x)) (hO : G.2.1 164 (60 * q + p) = nI 16) (hA : G.2.1 165 (60 * q + p) = A) (hA2 : True) (hB : True) : am_Ok w jR_leave d (0, 0) [.inr (some 163), .inl (nI q), .inl (nI p)] G (fun r G' => r = none ∧ wR G' (fEff g 16 a b x) ∧ oN G G') := by
  refine am_ok_of rfl (Nat.le_of_ble_eq_true rfl) ?_
  show am_Go w jR_leave d (0, 0) 0 [some (.inr (some 163)), some (.inl (nI q)), some (.inl (nI p)), none, none, none] [] G _
  have hdp := h.1.1
  have h8 := h.2.1.1
  refine go_aload_n dR_leave_0 rfl rfl ?_
  refine go_getO (a := 164) dR_leave_1 flR_7 rfl (hS.s sh_163) (hS.r rt_op) ?_
  refine go_bipush (nI 60) (by decide) dR_leave_4 ?_
  refine go_iload_n dR_leave_6 rfl rfl ?_
  first | refine go_imulN dR_leave_7 ?_ | refine go_imul dR_leave_7 ?_
  refine go_iload_n dR_leave_8 rfl rfl ?_
  first | refine go_iaddN dR_leave_9 ?_ | refine go_iadd dR_leave_9 ?_
  first | refine go_ialV (hS.s sh_164) (by omega) (by decide) (by assumption) dR_leave_10 ?_ | refine go_ialoadN (hS.s sh_164) (by omega) (by decide) dR_leave_10 ?_
  refine go_istore_n dR_leave_11 rfl (Nat.le_of_ble_eq_true rfl) ?_
  refine go_aload_n dR_leave_12 rfl rfl ?_
  refine go_getO (a := 165) dR_leave_13 flR_13 rfl (hS.s sh_163) (hS.r rt_one) ?_
  refine go_bipush (nI 60) (by decide) dR_leave_16 ?_
  refine go_iload_n dR_leave_18 rfl rfl ?_
  first | refine go_imulN dR_leave_19 ?_ | refine go_imul dR_leave_19 ?_
  refine go_iload_n dR_leave_20 rfl rfl ?_
  first | refine go_iaddN dR_leave_21 ?_ | refine go_iadd dR_leave_21 ?_
  first | refine go_ialV (hS.s sh_165) (by omega) (by decide) (by assumption) dR_leave_22 ?_ | refine go_ialoadN (hS.s sh_165) (by omega) (by decide) dR_leave_22 ?_
  refine go_istore dR_leave_23 (Nat.le_of_ble_eq_true rfl) ?_
  refine go_iload_n dR_leave_25 rfl rfl ?_
  refine go_tableIn dR_leave_26 (by decide) (by decide) (off := 262) rfl (tgt := 288) (by decide) ?_
  refine go_aload_n dR_leave_288 rfl rfl ?_
  refine go_iconst (nI 0) (by decide) dR_leave_289 ?_
  refine go_cV (k' := (0, 0)) dR_leave_290 _ csR_162 (hS.s sh_163) rfl imR_take seR_take rfl (okR_takeK (d := 0) w G (some x) 0 (by decide) hS h) (by omega) (by decide) (Nat.le_of_ble_eq_true rfl) (fun r1 G1 hr1 hn1 => ?_)
  obtain ⟨rfl, h1, o1⟩ := hr1
  have S1 := o1.St hS
  refine go_aload_n dR_leave_293 rfl rfl ?_
  refine go_iconst (nI 1) (by decide) dR_leave_294 ?_
  refine go_cV (k' := (0, 0)) dR_leave_295 _ csR_162 (S1.s sh_163) rfl imR_take seR_take rfl (okR_takeK (d := 0) w G1 ((some x).bind (fTake 0)) 1 (by decide) S1 h1) (by omega) (by decide) (Nat.le_of_ble_eq_true rfl) (fun r2 G2 hr2 hn2 => ?_)
  obtain ⟨rfl, h2, o2⟩ := hr2
  have S2 := o2.St S1
  refine go_goto dR_leave_298 (tgt := 414) (by decide) ?_
  refine go_return rfl dR_leave_414 ?_
  exact ⟨rfl, (fe_at (y := fEff g 16 a b x) h2 (by first | rfl | exact fe_r3)), (o1.tr o2)⟩
set_option maxRecDepth 100000 in
theorem okR_lv17 (w : am_W) {d : Nat} (hd : 2 ≤ d) (G : am_G) (x : fS) (g : Nat → Nat) (q p a b : Nat) (A : Int32) (hq : q < 12) (hp : p < 60) (ha : a < 8) (hb : b < 120) (hS : St0 G) (h : wR G (some x)) (hO : G.2.1 164 (60 * q + p) = nI 17) (hA : G.2.1 165 (60 * q + p) = A) (hA2 : True) (hB : True) : am_Ok w jR_leave d (0, 0) [.inr (some 163), .inl (nI q), .inl (nI p)] G (fun r G' => r = none ∧ wR G' (fEff g 17 a b x) ∧ oN G G') := by
  refine am_ok_of rfl (Nat.le_of_ble_eq_true rfl) ?_
  show am_Go w jR_leave d (0, 0) 0 [some (.inr (some 163)), some (.inl (nI q)), some (.inl (nI p)), none, none, none] [] G _
  have hdp := h.1.1
  have h8 := h.2.1.1
  refine go_aload_n dR_leave_0 rfl rfl ?_
  refine go_getO (a := 164) dR_leave_1 flR_7 rfl (hS.s sh_163) (hS.r rt_op) ?_
  refine go_bipush (nI 60) (by decide) dR_leave_4 ?_
  refine go_iload_n dR_leave_6 rfl rfl ?_
  first | refine go_imulN dR_leave_7 ?_ | refine go_imul dR_leave_7 ?_
  refine go_iload_n dR_leave_8 rfl rfl ?_
  first | refine go_iaddN dR_leave_9 ?_ | refine go_iadd dR_leave_9 ?_
  first | refine go_ialV (hS.s sh_164) (by omega) (by decide) (by assumption) dR_leave_10 ?_ | refine go_ialoadN (hS.s sh_164) (by omega) (by decide) dR_leave_10 ?_
  refine go_istore_n dR_leave_11 rfl (Nat.le_of_ble_eq_true rfl) ?_
  refine go_aload_n dR_leave_12 rfl rfl ?_
  refine go_getO (a := 165) dR_leave_13 flR_13 rfl (hS.s sh_163) (hS.r rt_one) ?_
  refine go_bipush (nI 60) (by decide) dR_leave_16 ?_
  refine go_iload_n dR_leave_18 rfl rfl ?_
  first | refine go_imulN dR_leave_19 ?_ | refine go_imul dR_leave_19 ?_
  refine go_iload_n dR_leave_20 rfl rfl ?_
  first | refine go_iaddN dR_leave_21 ?_ | refine go_iadd dR_leave_21 ?_
  first | refine go_ialV (hS.s sh_165) (by omega) (by decide) (by assumption) dR_leave_22 ?_ | refine go_ialoadN (hS.s sh_165) (by omega) (by decide) dR_leave_22 ?_
  refine go_istore dR_leave_23 (Nat.le_of_ble_eq_true rfl) ?_
  refine go_iload_n dR_leave_25 rfl rfl ?_
  refine go_tableIn dR_leave_26 (by decide) (by decide) (off := 275) rfl (tgt := 301) (by decide) ?_
  refine go_aload_n dR_leave_301 rfl rfl ?_
  refine go_iconst (nI 1) (by decide) dR_leave_302 ?_
  refine go_cV (k' := (0, 0)) dR_leave_303 _ csR_162 (hS.s sh_163) rfl imR_take seR_take rfl (okR_takeK (d := 0) w G (some x) 1 (by decide) hS h) (by omega) (by decide) (Nat.le_of_ble_eq_true rfl) (fun r1 G1 hr1 hn1 => ?_)
  obtain ⟨rfl, h1, o1⟩ := hr1
  have S1 := o1.St hS
  refine go_goto dR_leave_306 (tgt := 414) (by decide) ?_
  refine go_return rfl dR_leave_414 ?_
  exact ⟨rfl, (fe_at (y := fEff g 17 a b x) h1 (by first | rfl | exact fe_r3)), o1⟩
set_option maxRecDepth 100000 in
theorem okR_lv18 (w : am_W) {d : Nat} (hd : 2 ≤ d) (G : am_G) (x : fS) (g : Nat → Nat) (q p a b : Nat) (A : Int32) (hq : q < 12) (hp : p < 60) (ha : a < 8) (hb : b < 120) (hS : St0 G) (h : wR G (some x)) (hO : G.2.1 164 (60 * q + p) = nI 18) (hA : G.2.1 165 (60 * q + p) = A) (hA2 : True) (hB : True) : am_Ok w jR_leave d (0, 0) [.inr (some 163), .inl (nI q), .inl (nI p)] G (fun r G' => r = none ∧ wR G' (fEff g 18 a b x) ∧ oN G G') := by
  refine am_ok_of rfl (Nat.le_of_ble_eq_true rfl) ?_
  show am_Go w jR_leave d (0, 0) 0 [some (.inr (some 163)), some (.inl (nI q)), some (.inl (nI p)), none, none, none] [] G _
  have hdp := h.1.1
  have h8 := h.2.1.1
  refine go_aload_n dR_leave_0 rfl rfl ?_
  refine go_getO (a := 164) dR_leave_1 flR_7 rfl (hS.s sh_163) (hS.r rt_op) ?_
  refine go_bipush (nI 60) (by decide) dR_leave_4 ?_
  refine go_iload_n dR_leave_6 rfl rfl ?_
  first | refine go_imulN dR_leave_7 ?_ | refine go_imul dR_leave_7 ?_
  refine go_iload_n dR_leave_8 rfl rfl ?_
  first | refine go_iaddN dR_leave_9 ?_ | refine go_iadd dR_leave_9 ?_
  first | refine go_ialV (hS.s sh_164) (by omega) (by decide) (by assumption) dR_leave_10 ?_ | refine go_ialoadN (hS.s sh_164) (by omega) (by decide) dR_leave_10 ?_
  refine go_istore_n dR_leave_11 rfl (Nat.le_of_ble_eq_true rfl) ?_
  refine go_aload_n dR_leave_12 rfl rfl ?_
  refine go_getO (a := 165) dR_leave_13 flR_13 rfl (hS.s sh_163) (hS.r rt_one) ?_
  refine go_bipush (nI 60) (by decide) dR_leave_16 ?_
  refine go_iload_n dR_leave_18 rfl rfl ?_
  first | refine go_imulN dR_leave_19 ?_ | refine go_imul dR_leave_19 ?_
  refine go_iload_n dR_leave_20 rfl rfl ?_
  first | refine go_iaddN dR_leave_21 ?_ | refine go_iadd dR_leave_21 ?_
  first | refine go_ialV (hS.s sh_165) (by omega) (by decide) (by assumption) dR_leave_22 ?_ | refine go_ialoadN (hS.s sh_165) (by omega) (by decide) dR_leave_22 ?_
  refine go_istore dR_leave_23 (Nat.le_of_ble_eq_true rfl) ?_
  refine go_iload_n dR_leave_25 rfl rfl ?_
  refine go_tableIn dR_leave_26 (by decide) (by decide) (off := 275) rfl (tgt := 301) (by decide) ?_
  refine go_aload_n dR_leave_301 rfl rfl ?_
  refine go_iconst (nI 1) (by decide) dR_leave_302 ?_
  refine go_cV (k' := (0, 0)) dR_leave_303 _ csR_162 (hS.s sh_163) rfl imR_take seR_take rfl (okR_takeK (d := 0) w G (some x) 1 (by decide) hS h) (by omega) (by decide) (Nat.le_of_ble_eq_true rfl) (fun r1 G1 hr1 hn1 => ?_)
  obtain ⟨rfl, h1, o1⟩ := hr1
  have S1 := o1.St hS
  refine go_goto dR_leave_306 (tgt := 414) (by decide) ?_
  refine go_return rfl dR_leave_414 ?_
  exact ⟨rfl, (fe_at (y := fEff g 18 a b x) h1 (by first | rfl | exact fe_r3)), o1⟩
set_option maxRecDepth 100000 in
theorem okR_lv19 (w : am_W) {d : Nat} (hd : 2 ≤ d) (G : am_G) (x : fS) (g : Nat → Nat) (q p a b : Nat) (A : Int32) (hq : q < 12) (hp : p < 60) (ha : a < 8) (hb : b < 120) (hS : St0 G) (h : wR G (some x)) (hO : G.2.1 164 (60 * q + p) = nI 19) (hA : G.2.1 165 (60 * q + p) = A) (hA2 : True) (hB : True) : am_Ok w jR_leave d (0, 0) [.inr (some 163), .inl (nI q), .inl (nI p)] G (fun r G' => r = none ∧ wR G' (fEff g 19 a b x) ∧ oN G G') := by
  refine am_ok_of rfl (Nat.le_of_ble_eq_true rfl) ?_
  show am_Go w jR_leave d (0, 0) 0 [some (.inr (some 163)), some (.inl (nI q)), some (.inl (nI p)), none, none, none] [] G _
  have hdp := h.1.1
  have h8 := h.2.1.1
  refine go_aload_n dR_leave_0 rfl rfl ?_
  refine go_getO (a := 164) dR_leave_1 flR_7 rfl (hS.s sh_163) (hS.r rt_op) ?_
  refine go_bipush (nI 60) (by decide) dR_leave_4 ?_
  refine go_iload_n dR_leave_6 rfl rfl ?_
  first | refine go_imulN dR_leave_7 ?_ | refine go_imul dR_leave_7 ?_
  refine go_iload_n dR_leave_8 rfl rfl ?_
  first | refine go_iaddN dR_leave_9 ?_ | refine go_iadd dR_leave_9 ?_
  first | refine go_ialV (hS.s sh_164) (by omega) (by decide) (by assumption) dR_leave_10 ?_ | refine go_ialoadN (hS.s sh_164) (by omega) (by decide) dR_leave_10 ?_
  refine go_istore_n dR_leave_11 rfl (Nat.le_of_ble_eq_true rfl) ?_
  refine go_aload_n dR_leave_12 rfl rfl ?_
  refine go_getO (a := 165) dR_leave_13 flR_13 rfl (hS.s sh_163) (hS.r rt_one) ?_
  refine go_bipush (nI 60) (by decide) dR_leave_16 ?_
  refine go_iload_n dR_leave_18 rfl rfl ?_
  first | refine go_imulN dR_leave_19 ?_ | refine go_imul dR_leave_19 ?_
  refine go_iload_n dR_leave_20 rfl rfl ?_
  first | refine go_iaddN dR_leave_21 ?_ | refine go_iadd dR_leave_21 ?_
  first | refine go_ialV (hS.s sh_165) (by omega) (by decide) (by assumption) dR_leave_22 ?_ | refine go_ialoadN (hS.s sh_165) (by omega) (by decide) dR_leave_22 ?_
  refine go_istore dR_leave_23 (Nat.le_of_ble_eq_true rfl) ?_
  refine go_iload_n dR_leave_25 rfl rfl ?_
  refine go_tableIn dR_leave_26 (by decide) (by decide) (off := 275) rfl (tgt := 301) (by decide) ?_
  refine go_aload_n dR_leave_301 rfl rfl ?_
  refine go_iconst (nI 1) (by decide) dR_leave_302 ?_
  refine go_cV (k' := (0, 0)) dR_leave_303 _ csR_162 (hS.s sh_163) rfl imR_take seR_take rfl (okR_takeK (d := 0) w G (some x) 1 (by decide) hS h) (by omega) (by decide) (Nat.le_of_ble_eq_true rfl) (fun r1 G1 hr1 hn1 => ?_)
  obtain ⟨rfl, h1, o1⟩ := hr1
  have S1 := o1.St hS
  refine go_goto dR_leave_306 (tgt := 414) (by decide) ?_
  refine go_return rfl dR_leave_414 ?_
  exact ⟨rfl, (fe_at (y := fEff g 19 a b x) h1 (by first | rfl | exact fe_r3)), o1⟩
set_option maxRecDepth 100000 in
theorem okR_lv20 (w : am_W) {d : Nat} (hd : 2 ≤ d) (G : am_G) (x : fS) (g : Nat → Nat) (q p a b : Nat) (A : Int32) (hq : q < 12) (hp : p < 60) (ha : a < 8) (hb : b < 120) (hS : St0 G) (h : wR G (some x)) (hO : G.2.1 164 (60 * q + p) = nI 20) (hA : G.2.1 165 (60 * q + p) = A) (hA2 : True) (hB : True) : am_Ok w jR_leave d (0, 0) [.inr (some 163), .inl (nI q), .inl (nI p)] G (fun r G' => r = none ∧ wR G' (fEff g 20 a b x) ∧ oN G G') := by
  refine am_ok_of rfl (Nat.le_of_ble_eq_true rfl) ?_
  show am_Go w jR_leave d (0, 0) 0 [some (.inr (some 163)), some (.inl (nI q)), some (.inl (nI p)), none, none, none] [] G _
  have hdp := h.1.1
  have h8 := h.2.1.1
  refine go_aload_n dR_leave_0 rfl rfl ?_
  refine go_getO (a := 164) dR_leave_1 flR_7 rfl (hS.s sh_163) (hS.r rt_op) ?_
  refine go_bipush (nI 60) (by decide) dR_leave_4 ?_
  refine go_iload_n dR_leave_6 rfl rfl ?_
  first | refine go_imulN dR_leave_7 ?_ | refine go_imul dR_leave_7 ?_
  refine go_iload_n dR_leave_8 rfl rfl ?_
  first | refine go_iaddN dR_leave_9 ?_ | refine go_iadd dR_leave_9 ?_
  first | refine go_ialV (hS.s sh_164) (by omega) (by decide) (by assumption) dR_leave_10 ?_ | refine go_ialoadN (hS.s sh_164) (by omega) (by decide) dR_leave_10 ?_
  refine go_istore_n dR_leave_11 rfl (Nat.le_of_ble_eq_true rfl) ?_
  refine go_aload_n dR_leave_12 rfl rfl ?_
  refine go_getO (a := 165) dR_leave_13 flR_13 rfl (hS.s sh_163) (hS.r rt_one) ?_
  refine go_bipush (nI 60) (by decide) dR_leave_16 ?_
  refine go_iload_n dR_leave_18 rfl rfl ?_
  first | refine go_imulN dR_leave_19 ?_ | refine go_imul dR_leave_19 ?_
  refine go_iload_n dR_leave_20 rfl rfl ?_
  first | refine go_iaddN dR_leave_21 ?_ | refine go_iadd dR_leave_21 ?_
  first | refine go_ialV (hS.s sh_165) (by omega) (by decide) (by assumption) dR_leave_22 ?_ | refine go_ialoadN (hS.s sh_165) (by omega) (by decide) dR_leave_22 ?_
  refine go_istore dR_leave_23 (Nat.le_of_ble_eq_true rfl) ?_
  refine go_iload_n dR_leave_25 rfl rfl ?_
  refine go_tableIn dR_leave_26 (by decide) (by decide) (off := 275) rfl (tgt := 301) (by decide) ?_
  refine go_aload_n dR_leave_301 rfl rfl ?_
  refine go_iconst (nI 1) (by decide) dR_leave_302 ?_
  refine go_cV (k' := (0, 0)) dR_leave_303 _ csR_162 (hS.s sh_163) rfl imR_take seR_take rfl (okR_takeK (d := 0) w G (some x) 1 (by decide) hS h) (by omega) (by decide) (Nat.le_of_ble_eq_true rfl) (fun r1 G1 hr1 hn1 => ?_)
  obtain ⟨rfl, h1, o1⟩ := hr1
  have S1 := o1.St hS
  refine go_goto dR_leave_306 (tgt := 414) (by decide) ?_
  refine go_return rfl dR_leave_414 ?_
  exact ⟨rfl, (fe_at (y := fEff g 20 a b x) h1 (by first | rfl | exact fe_r3)), o1⟩
set_option maxRecDepth 100000 in
theorem okR_lv21 (w : am_W) {d : Nat} (hd : 2 ≤ d) (G : am_G) (x : fS) (g : Nat → Nat) (q p a b : Nat) (A : Int32) (hq : q < 12) (hp : p < 60) (ha : a < 8) (hb : b < 120) (hS : St0 G) (h : wR G (some x)) (hO : G.2.1 164 (60 * q + p) = nI 21) (hA : G.2.1 165 (60 * q + p) = A) (hA2 : A = nI a ∧ a < 6 ∧ G.2.1 168 (q / 6 * 6 + a) = nI (g a) ∧ g a < 200) (hB : True) : am_Ok w jR_leave d (0, 0) [.inr (some 163), .inl (nI q), .inl (nI p)] G (fun r G' => r = none ∧ wR G' (fEff g 21 a b x) ∧ oN G G') := by
  refine am_ok_of rfl (Nat.le_of_ble_eq_true rfl) ?_
  show am_Go w jR_leave d (0, 0) 0 [some (.inr (some 163)), some (.inl (nI q)), some (.inl (nI p)), none, none, none] [] G _
  have hdp := h.1.1
  have h8 := h.2.1.1
  obtain ⟨rfl, ha6, hT, hg⟩ := hA2
  refine go_aload_n dR_leave_0 rfl rfl ?_
  refine go_getO (a := 164) dR_leave_1 flR_7 rfl (hS.s sh_163) (hS.r rt_op) ?_
  refine go_bipush (nI 60) (by decide) dR_leave_4 ?_
  refine go_iload_n dR_leave_6 rfl rfl ?_
  first | refine go_imulN dR_leave_7 ?_ | refine go_imul dR_leave_7 ?_
  refine go_iload_n dR_leave_8 rfl rfl ?_
  first | refine go_iaddN dR_leave_9 ?_ | refine go_iadd dR_leave_9 ?_
  first | refine go_ialV (hS.s sh_164) (by omega) (by decide) (by assumption) dR_leave_10 ?_ | refine go_ialoadN (hS.s sh_164) (by omega) (by decide) dR_leave_10 ?_
  refine go_istore_n dR_leave_11 rfl (Nat.le_of_ble_eq_true rfl) ?_
  refine go_aload_n dR_leave_12 rfl rfl ?_
  refine go_getO (a := 165) dR_leave_13 flR_13 rfl (hS.s sh_163) (hS.r rt_one) ?_
  refine go_bipush (nI 60) (by decide) dR_leave_16 ?_
  refine go_iload_n dR_leave_18 rfl rfl ?_
  first | refine go_imulN dR_leave_19 ?_ | refine go_imul dR_leave_19 ?_
  refine go_iload_n dR_leave_20 rfl rfl ?_
  first | refine go_iaddN dR_leave_21 ?_ | refine go_iadd dR_leave_21 ?_
  first | refine go_ialV (hS.s sh_165) (by omega) (by decide) (by assumption) dR_leave_22 ?_ | refine go_ialoadN (hS.s sh_165) (by omega) (by decide) dR_leave_22 ?_
  refine go_istore dR_leave_23 (Nat.le_of_ble_eq_true rfl) ?_
  refine go_iload_n dR_leave_25 rfl rfl ?_
  refine go_tableIn dR_leave_26 (by decide) (by decide) (off := 283) rfl (tgt := 309) (by decide) ?_
  refine go_iconst (nI 0) (by decide) dR_leave_309 ?_
  refine go_istore dR_leave_310 (Nat.le_of_ble_eq_true rfl) ?_
  exact R_lv21 w (by omega) G q p a (g a) hq ha6 hg hT (g a) 0 G (some x) (by omega) hS oN.rf h
set_option maxRecDepth 100000 in
theorem okR_lv22 (w : am_W) {d : Nat} (hd : 2 ≤ d) (G : am_G) (x : fS) (g : Nat → Nat) (q p a b : Nat) (A : Int32) (hq : q < 12) (hp : p < 60) (ha : a < 8) (hb : b < 120) (hS : St0 G) (h : wR G (some x)) (hO : G.2.1 164 (60 * q + p) = nI 22) (hA : G.2.1 165 (60 * q + p) = A) (hA2 : True) (hB : True) : am_Ok w jR_leave d (0, 0) [.inr (some 163), .inl (nI q), .inl (nI p)] G (fun r G' => r = none ∧ wR G' (fEff g 22 a b x) ∧ oN G G') := by
  refine am_ok_of rfl (Nat.le_of_ble_eq_true rfl) ?_
  show am_Go w jR_leave d (0, 0) 0 [some (.inr (some 163)), some (.inl (nI q)), some (.inl (nI p)), none, none, none] [] G _
  have hdp := h.1.1
  have h8 := h.2.1.1
  refine go_aload_n dR_leave_0 rfl rfl ?_
  refine go_getO (a := 164) dR_leave_1 flR_7 rfl (hS.s sh_163) (hS.r rt_op) ?_
  refine go_bipush (nI 60) (by decide) dR_leave_4 ?_
  refine go_iload_n dR_leave_6 rfl rfl ?_
  first | refine go_imulN dR_leave_7 ?_ | refine go_imul dR_leave_7 ?_
  refine go_iload_n dR_leave_8 rfl rfl ?_
  first | refine go_iaddN dR_leave_9 ?_ | refine go_iadd dR_leave_9 ?_
  first | refine go_ialV (hS.s sh_164) (by omega) (by decide) (by assumption) dR_leave_10 ?_ | refine go_ialoadN (hS.s sh_164) (by omega) (by decide) dR_leave_10 ?_
  refine go_istore_n dR_leave_11 rfl (Nat.le_of_ble_eq_true rfl) ?_
  refine go_aload_n dR_leave_12 rfl rfl ?_
  refine go_getO (a := 165) dR_leave_13 flR_13 rfl (hS.s sh_163) (hS.r rt_one) ?_
  refine go_bipush (nI 60) (by decide) dR_leave_16 ?_
  refine go_iload_n dR_leave_18 rfl rfl ?_
  first | refine go_imulN dR_leave_19 ?_ | refine go_imul dR_leave_19 ?_
  refine go_iload_n dR_leave_20 rfl rfl ?_
  first | refine go_iaddN dR_leave_21 ?_ | refine go_iadd dR_leave_21 ?_
  first | refine go_ialV (hS.s sh_165) (by omega) (by decide) (by assumption) dR_leave_22 ?_ | refine go_ialoadN (hS.s sh_165) (by omega) (by decide) dR_leave_22 ?_
  refine go_istore dR_leave_23 (Nat.le_of_ble_eq_true rfl) ?_
  refine go_iload_n dR_leave_25 rfl rfl ?_
  refine go_tableIn dR_leave_26 (by decide) (by decide) (off := 233) rfl (tgt := 259) (by decide) ?_
  refine go_aload_n dR_leave_259 rfl rfl ?_
  refine go_iconst (nI 0) (by decide) dR_leave_260 ?_
  refine go_cV (k' := (0, 0)) dR_leave_261 _ csR_162 (hS.s sh_163) rfl imR_take seR_take rfl (okR_takeK (d := 0) w G (some x) 0 (by decide) hS h) (by omega) (by decide) (Nat.le_of_ble_eq_true rfl) (fun r1 G1 hr1 hn1 => ?_)
  obtain ⟨rfl, h1, o1⟩ := hr1
  have S1 := o1.St hS
  refine go_goto dR_leave_264 (tgt := 414) (by decide) ?_
  refine go_return rfl dR_leave_414 ?_
  exact ⟨rfl, (fe_at (y := fEff g 22 a b x) h1 (by first | rfl | exact fe_r3)), o1⟩
set_option maxRecDepth 100000 in
theorem okR_lv23 (w : am_W) {d : Nat} (hd : 2 ≤ d) (G : am_G) (x : fS) (g : Nat → Nat) (q p a b : Nat) (A : Int32) (hq : q < 12) (hp : p < 60) (ha : a < 8) (hb : b < 120) (hS : St0 G) (h : wR G (some x)) (hO : G.2.1 164 (60 * q + p) = nI 23) (hA : G.2.1 165 (60 * q + p) = A) (hA2 : True) (hB : G.2.1 166 (60 * q + p) = nI b) : am_Ok w jR_leave d (0, 0) [.inr (some 163), .inl (nI q), .inl (nI p)] G (fun r G' => r = none ∧ wR G' (fEff g 23 a b x) ∧ oN G G') := by
  refine am_ok_of rfl (Nat.le_of_ble_eq_true rfl) ?_
  show am_Go w jR_leave d (0, 0) 0 [some (.inr (some 163)), some (.inl (nI q)), some (.inl (nI p)), none, none, none] [] G _
  have hdp := h.1.1
  have h8 := h.2.1.1
  refine go_aload_n dR_leave_0 rfl rfl ?_
  refine go_getO (a := 164) dR_leave_1 flR_7 rfl (hS.s sh_163) (hS.r rt_op) ?_
  refine go_bipush (nI 60) (by decide) dR_leave_4 ?_
  refine go_iload_n dR_leave_6 rfl rfl ?_
  first | refine go_imulN dR_leave_7 ?_ | refine go_imul dR_leave_7 ?_
  refine go_iload_n dR_leave_8 rfl rfl ?_
  first | refine go_iaddN dR_leave_9 ?_ | refine go_iadd dR_leave_9 ?_
  first | refine go_ialV (hS.s sh_164) (by omega) (by decide) (by assumption) dR_leave_10 ?_ | refine go_ialoadN (hS.s sh_164) (by omega) (by decide) dR_leave_10 ?_
  refine go_istore_n dR_leave_11 rfl (Nat.le_of_ble_eq_true rfl) ?_
  refine go_aload_n dR_leave_12 rfl rfl ?_
  refine go_getO (a := 165) dR_leave_13 flR_13 rfl (hS.s sh_163) (hS.r rt_one) ?_
  refine go_bipush (nI 60) (by decide) dR_leave_16 ?_
  refine go_iload_n dR_leave_18 rfl rfl ?_
  first | refine go_imulN dR_leave_19 ?_ | refine go_imul dR_leave_19 ?_
  refine go_iload_n dR_leave_20 rfl rfl ?_
  first | refine go_iaddN dR_leave_21 ?_ | refine go_iadd dR_leave_21 ?_
  first | refine go_ialV (hS.s sh_165) (by omega) (by decide) (by assumption) dR_leave_22 ?_ | refine go_ialoadN (hS.s sh_165) (by omega) (by decide) dR_leave_22 ?_
  refine go_istore dR_leave_23 (Nat.le_of_ble_eq_true rfl) ?_
  refine go_iload_n dR_leave_25 rfl rfl ?_
  refine go_tableIn dR_leave_26 (by decide) (by decide) (off := 332) rfl (tgt := 358) (by decide) ?_
  refine go_aload_n dR_leave_358 rfl rfl ?_
  refine go_bipush (nI 10) (by decide) dR_leave_359 ?_
  refine go_aload_n dR_leave_361 rfl rfl ?_
  refine go_getO (a := 166) dR_leave_362 flR_16 rfl (hS.s sh_163) (hS.r rt_two) ?_
  refine go_bipush (nI 60) (by decide) dR_leave_365 ?_
  refine go_iload_n dR_leave_367 rfl rfl ?_
  first | refine go_imulN dR_leave_368 ?_ | refine go_imul dR_leave_368 ?_
  refine go_iload_n dR_leave_369 rfl rfl ?_
  first | refine go_iaddN dR_leave_370 ?_ | refine go_iadd dR_leave_370 ?_
  refine go_ialV (hS.s sh_166) (by omega) (by decide) hB dR_leave_371 ?_
  first | refine go_iaddN dR_leave_372 ?_ | refine go_iadd dR_leave_372 ?_
  refine go_cV (k' := (0, 0)) dR_leave_373 _ csR_166 (hS.s sh_163) rfl imR_push seR_push rfl (okR_push (d := 0) w G (some x) (10 + b) (nI (10 + b)) hS h (fun _ => ⟨rfl, by omega, by unfold kV; omega⟩)) (by omega) (by decide) (Nat.le_of_ble_eq_true rfl) (fun r1 G1 hr1 hn1 => ?_)
  obtain ⟨rfl, h1, o1⟩ := hr1
  have S1 := o1.St hS
  refine go_goto dR_leave_376 (tgt := 414) (by decide) ?_
  refine go_return rfl dR_leave_414 ?_
  exact ⟨rfl, h1, o1⟩
set_option maxRecDepth 100000 in
theorem okR_lv24 (w : am_W) {d : Nat} (hd : 2 ≤ d) (G : am_G) (x : fS) (g : Nat → Nat) (q p a b : Nat) (A : Int32) (hq : q < 12) (hp : p < 60) (ha : a < 8) (hb : b < 120) (hS : St0 G) (h : wR G (some x)) (hO : G.2.1 164 (60 * q + p) = nI 24) (hA : G.2.1 165 (60 * q + p) = A) (hA2 : A = nI a) (hB : True) : am_Ok w jR_leave d (0, 0) [.inr (some 163), .inl (nI q), .inl (nI p)] G (fun r G' => r = none ∧ wR G' (fEff g 24 a b x) ∧ oN G G') := by
  refine am_ok_of rfl (Nat.le_of_ble_eq_true rfl) ?_
  show am_Go w jR_leave d (0, 0) 0 [some (.inr (some 163)), some (.inl (nI q)), some (.inl (nI p)), none, none, none] [] G _
  have hdp := h.1.1
  have h8 := h.2.1.1
  subst hA2
  have l3 := h.1.2.2 a ha
  have lb := h.2.1.2.2 a ha
  have lk := h.2.2.1.2 a ha
  refine go_aload_n dR_leave_0 rfl rfl ?_
  refine go_getO (a := 164) dR_leave_1 flR_7 rfl (hS.s sh_163) (hS.r rt_op) ?_
  refine go_bipush (nI 60) (by decide) dR_leave_4 ?_
  refine go_iload_n dR_leave_6 rfl rfl ?_
  first | refine go_imulN dR_leave_7 ?_ | refine go_imul dR_leave_7 ?_
  refine go_iload_n dR_leave_8 rfl rfl ?_
  first | refine go_iaddN dR_leave_9 ?_ | refine go_iadd dR_leave_9 ?_
  first | refine go_ialV (hS.s sh_164) (by omega) (by decide) (by assumption) dR_leave_10 ?_ | refine go_ialoadN (hS.s sh_164) (by omega) (by decide) dR_leave_10 ?_
  refine go_istore_n dR_leave_11 rfl (Nat.le_of_ble_eq_true rfl) ?_
  refine go_aload_n dR_leave_12 rfl rfl ?_
  refine go_getO (a := 165) dR_leave_13 flR_13 rfl (hS.s sh_163) (hS.r rt_one) ?_
  refine go_bipush (nI 60) (by decide) dR_leave_16 ?_
  refine go_iload_n dR_leave_18 rfl rfl ?_
  first | refine go_imulN dR_leave_19 ?_ | refine go_imul dR_leave_19 ?_
  refine go_iload_n dR_leave_20 rfl rfl ?_
  first | refine go_iaddN dR_leave_21 ?_ | refine go_iadd dR_leave_21 ?_
  first | refine go_ialV (hS.s sh_165) (by omega) (by decide) (by assumption) dR_leave_22 ?_ | refine go_ialoadN (hS.s sh_165) (by omega) (by decide) dR_leave_22 ?_
  refine go_istore dR_leave_23 (Nat.le_of_ble_eq_true rfl) ?_
  refine go_iload_n dR_leave_25 rfl rfl ?_
  refine go_tableIn dR_leave_26 (by decide) (by decide) (off := 353) rfl (tgt := 379) (by decide) ?_
  refine go_aload_n dR_leave_379 rfl rfl ?_
  refine go_getO (a := 180) dR_leave_380 flR_59 rfl (hS.s sh_163) (hS.r rt_local) ?_
  refine go_iload dR_leave_383 rfl ?_
  refine go_ialV (hS.s sh_180) (by omega) (by decide) l3 dR_leave_385 ?_
  refine go_bipush (nI 10) (by decide) dR_leave_386 ?_
  refine go_icmp_ge dR_leave_388 (tgt := 414) (by decide) (fun c388 => ?_) (fun c388 => ?_)
  · refine go_return rfl dR_leave_414 ?_
    first | exact ⟨rfl, by rw [fe24y ((kR_10 lb).mp c388)]; exact h, oN.rf⟩ | exact ⟨rfl, by rw [fe24n (fun e => c388 ((kR_10 lb).mpr e))]; exact h.lost, oN.w⟩
  · refine go_aload_n dR_leave_391 rfl rfl ?_
    refine go_iconst (am_b false) (by decide) dR_leave_392 ?_
    refine go_putZ (by first | exact am_b_01 _ | exact Or.inl rfl | exact Or.inr rfl) dR_leave_393 fpR_155 rfl (hS.s sh_163) ?_
    refine go_goto dR_leave_396 (tgt := 414) (by decide) ?_
    refine go_return rfl dR_leave_414 ?_
    first | exact ⟨rfl, by rw [fe24y ((kR_10 lb).mp c388)]; exact h, oN.rf⟩ | exact ⟨rfl, by rw [fe24n (fun e => c388 ((kR_10 lb).mpr e))]; exact h.lost, oN.w⟩
set_option maxRecDepth 100000 in
theorem okR_lv25 (w : am_W) {d : Nat} (hd : 2 ≤ d) (G : am_G) (x : fS) (g : Nat → Nat) (q p a b : Nat) (A : Int32) (hq : q < 12) (hp : p < 60) (ha : a < 8) (hb : b < 120) (hS : St0 G) (h : wR G (some x)) (hO : G.2.1 164 (60 * q + p) = nI 25) (hA : G.2.1 165 (60 * q + p) = A) (hA2 : True) (hB : True) : am_Ok w jR_leave d (0, 0) [.inr (some 163), .inl (nI q), .inl (nI p)] G (fun r G' => r = none ∧ wR G' (fEff g 25 a b x) ∧ oN G G') := by
  refine am_ok_of rfl (Nat.le_of_ble_eq_true rfl) ?_
  show am_Go w jR_leave d (0, 0) 0 [some (.inr (some 163)), some (.inl (nI q)), some (.inl (nI p)), none, none, none] [] G _
  have hdp := h.1.1
  have h8 := h.2.1.1
  refine go_aload_n dR_leave_0 rfl rfl ?_
  refine go_getO (a := 164) dR_leave_1 flR_7 rfl (hS.s sh_163) (hS.r rt_op) ?_
  refine go_bipush (nI 60) (by decide) dR_leave_4 ?_
  refine go_iload_n dR_leave_6 rfl rfl ?_
  first | refine go_imulN dR_leave_7 ?_ | refine go_imul dR_leave_7 ?_
  refine go_iload_n dR_leave_8 rfl rfl ?_
  first | refine go_iaddN dR_leave_9 ?_ | refine go_iadd dR_leave_9 ?_
  first | refine go_ialV (hS.s sh_164) (by omega) (by decide) (by assumption) dR_leave_10 ?_ | refine go_ialoadN (hS.s sh_164) (by omega) (by decide) dR_leave_10 ?_
  refine go_istore_n dR_leave_11 rfl (Nat.le_of_ble_eq_true rfl) ?_
  refine go_aload_n dR_leave_12 rfl rfl ?_
  refine go_getO (a := 165) dR_leave_13 flR_13 rfl (hS.s sh_163) (hS.r rt_one) ?_
  refine go_bipush (nI 60) (by decide) dR_leave_16 ?_
  refine go_iload_n dR_leave_18 rfl rfl ?_
  first | refine go_imulN dR_leave_19 ?_ | refine go_imul dR_leave_19 ?_
  refine go_iload_n dR_leave_20 rfl rfl ?_
  first | refine go_iaddN dR_leave_21 ?_ | refine go_iadd dR_leave_21 ?_
  first | refine go_ialV (hS.s sh_165) (by omega) (by decide) (by assumption) dR_leave_22 ?_ | refine go_ialoadN (hS.s sh_165) (by omega) (by decide) dR_leave_22 ?_
  refine go_istore dR_leave_23 (Nat.le_of_ble_eq_true rfl) ?_
  refine go_iload_n dR_leave_25 rfl rfl ?_
  refine go_tableIn dR_leave_26 (by decide) (by decide) (off := 233) rfl (tgt := 259) (by decide) ?_
  refine go_aload_n dR_leave_259 rfl rfl ?_
  refine go_iconst (nI 0) (by decide) dR_leave_260 ?_
  refine go_cV (k' := (0, 0)) dR_leave_261 _ csR_162 (hS.s sh_163) rfl imR_take seR_take rfl (okR_takeK (d := 0) w G (some x) 0 (by decide) hS h) (by omega) (by decide) (Nat.le_of_ble_eq_true rfl) (fun r1 G1 hr1 hn1 => ?_)
  obtain ⟨rfl, h1, o1⟩ := hr1
  have S1 := o1.St hS
  refine go_goto dR_leave_264 (tgt := 414) (by decide) ?_
  refine go_return rfl dR_leave_414 ?_
  exact ⟨rfl, (fe_at (y := fEff g 25 a b x) h1 (by first | rfl | exact fe_r3)), o1⟩
set_option maxRecDepth 100000 in
theorem okR_lv26 (w : am_W) {d : Nat} (hd : 2 ≤ d) (G : am_G) (x : fS) (g : Nat → Nat) (q p a b : Nat) (A : Int32) (hq : q < 12) (hp : p < 60) (ha : a < 8) (hb : b < 120) (hS : St0 G) (h : wR G (some x)) (hO : G.2.1 164 (60 * q + p) = nI 26) (hA : G.2.1 165 (60 * q + p) = A) (hA2 : True) (hB : True) : am_Ok w jR_leave d (0, 0) [.inr (some 163), .inl (nI q), .inl (nI p)] G (fun r G' => r = none ∧ wR G' (fEff g 26 a b x) ∧ oN G G') := by
  refine am_ok_of rfl (Nat.le_of_ble_eq_true rfl) ?_
  show am_Go w jR_leave d (0, 0) 0 [some (.inr (some 163)), some (.inl (nI q)), some (.inl (nI p)), none, none, none] [] G _
  have hdp := h.1.1
  have h8 := h.2.1.1
  refine go_aload_n dR_leave_0 rfl rfl ?_
  refine go_getO (a := 164) dR_leave_1 flR_7 rfl (hS.s sh_163) (hS.r rt_op) ?_
  refine go_bipush (nI 60) (by decide) dR_leave_4 ?_
  refine go_iload_n dR_leave_6 rfl rfl ?_
  first | refine go_imulN dR_leave_7 ?_ | refine go_imul dR_leave_7 ?_
  refine go_iload_n dR_leave_8 rfl rfl ?_
  first | refine go_iaddN dR_leave_9 ?_ | refine go_iadd dR_leave_9 ?_
  first | refine go_ialV (hS.s sh_164) (by omega) (by decide) (by assumption) dR_leave_10 ?_ | refine go_ialoadN (hS.s sh_164) (by omega) (by decide) dR_leave_10 ?_
  refine go_istore_n dR_leave_11 rfl (Nat.le_of_ble_eq_true rfl) ?_
  refine go_aload_n dR_leave_12 rfl rfl ?_
  refine go_getO (a := 165) dR_leave_13 flR_13 rfl (hS.s sh_163) (hS.r rt_one) ?_
  refine go_bipush (nI 60) (by decide) dR_leave_16 ?_
  refine go_iload_n dR_leave_18 rfl rfl ?_
  first | refine go_imulN dR_leave_19 ?_ | refine go_imul dR_leave_19 ?_
  refine go_iload_n dR_leave_20 rfl rfl ?_
  first | refine go_iaddN dR_leave_21 ?_ | refine go_iadd dR_leave_21 ?_
  first | refine go_ialV (hS.s sh_165) (by omega) (by decide) (by assumption) dR_leave_22 ?_ | refine go_ialoadN (hS.s sh_165) (by omega) (by decide) dR_leave_22 ?_
  refine go_istore dR_leave_23 (Nat.le_of_ble_eq_true rfl) ?_
  refine go_iload_n dR_leave_25 rfl rfl ?_
  refine go_tableIn dR_leave_26 (by decide) (by decide) (off := 249) rfl (tgt := 275) (by decide) ?_
  refine go_aload_n dR_leave_275 rfl rfl ?_
  refine go_iconst (nI 1) (by decide) dR_leave_276 ?_
  refine go_cV (k' := (0, 0)) dR_leave_277 _ csR_162 (hS.s sh_163) rfl imR_take seR_take rfl (okR_takeK (d := 0) w G (some x) 1 (by decide) hS h) (by omega) (by decide) (Nat.le_of_ble_eq_true rfl) (fun r1 G1 hr1 hn1 => ?_)
  obtain ⟨rfl, h1, o1⟩ := hr1
  have S1 := o1.St hS
  refine go_aload_n dR_leave_280 rfl rfl ?_
  refine go_iconst (nI 0) (by decide) dR_leave_281 ?_
  refine go_cV (k' := (0, 0)) dR_leave_282 _ csR_166 (S1.s sh_163) rfl imR_push seR_push rfl (okR_push (d := 0) w G1 ((some x).bind (fTake 1)) (0) (nI (0)) S1 h1 (fun _ => ⟨rfl, by decide, by unfold kV; omega⟩)) (by omega) (by decide) (Nat.le_of_ble_eq_true rfl) (fun r2 G2 hr2 hn2 => ?_)
  obtain ⟨rfl, h2, o2⟩ := hr2
  have S2 := o2.St S1
  refine go_goto dR_leave_285 (tgt := 414) (by decide) ?_
  refine go_return rfl dR_leave_414 ?_
  exact ⟨rfl, (fe_at (y := fEff g 26 a b x) h2 (by first | rfl | exact fe_r3)), (o1.tr o2)⟩
set_option maxRecDepth 100000 in
theorem okR_lv27 (w : am_W) {d : Nat} (hd : 2 ≤ d) (G : am_G) (x : fS) (g : Nat → Nat) (q p a b : Nat) (A : Int32) (hq : q < 12) (hp : p < 60) (ha : a < 8) (hb : b < 120) (hS : St0 G) (h : wR G (some x)) (hO : G.2.1 164 (60 * q + p) = nI 27) (hA : G.2.1 165 (60 * q + p) = A) (hA2 : A = nI a) (hB : True) : am_Ok w jR_leave d (0, 0) [.inr (some 163), .inl (nI q), .inl (nI p)] G (fun r G' => r = none ∧ wR G' (fEff g 27 a b x) ∧ oN G G') := by
  refine am_ok_of rfl (Nat.le_of_ble_eq_true rfl) ?_
  show am_Go w jR_leave d (0, 0) 0 [some (.inr (some 163)), some (.inl (nI q)), some (.inl (nI p)), none, none, none] [] G _
  have hdp := h.1.1
  have h8 := h.2.1.1
  subst hA2
  have l3 := h.1.2.2 a ha
  have lb := h.2.1.2.2 a ha
  have lk := h.2.2.1.2 a ha
  refine go_aload_n dR_leave_0 rfl rfl ?_
  refine go_getO (a := 164) dR_leave_1 flR_7 rfl (hS.s sh_163) (hS.r rt_op) ?_
  refine go_bipush (nI 60) (by decide) dR_leave_4 ?_
  refine go_iload_n dR_leave_6 rfl rfl ?_
  first | refine go_imulN dR_leave_7 ?_ | refine go_imul dR_leave_7 ?_
  refine go_iload_n dR_leave_8 rfl rfl ?_
  first | refine go_iaddN dR_leave_9 ?_ | refine go_iadd dR_leave_9 ?_
  first | refine go_ialV (hS.s sh_164) (by omega) (by decide) (by assumption) dR_leave_10 ?_ | refine go_ialoadN (hS.s sh_164) (by omega) (by decide) dR_leave_10 ?_
  refine go_istore_n dR_leave_11 rfl (Nat.le_of_ble_eq_true rfl) ?_
  refine go_aload_n dR_leave_12 rfl rfl ?_
  refine go_getO (a := 165) dR_leave_13 flR_13 rfl (hS.s sh_163) (hS.r rt_one) ?_
  refine go_bipush (nI 60) (by decide) dR_leave_16 ?_
  refine go_iload_n dR_leave_18 rfl rfl ?_
  first | refine go_imulN dR_leave_19 ?_ | refine go_imul dR_leave_19 ?_
  refine go_iload_n dR_leave_20 rfl rfl ?_
  first | refine go_iaddN dR_leave_21 ?_ | refine go_iadd dR_leave_21 ?_
  first | refine go_ialV (hS.s sh_165) (by omega) (by decide) (by assumption) dR_leave_22 ?_ | refine go_ialoadN (hS.s sh_165) (by omega) (by decide) dR_leave_22 ?_
  refine go_istore dR_leave_23 (Nat.le_of_ble_eq_true rfl) ?_
  refine go_iload_n dR_leave_25 rfl rfl ?_
  refine go_tableOut dR_leave_26 (by decide) (tgt := 399) (by decide) ?_
  refine go_aload_n dR_leave_399 rfl rfl ?_
  refine go_getO (a := 180) dR_leave_400 flR_59 rfl (hS.s sh_163) (hS.r rt_local) ?_
  refine go_iload dR_leave_403 rfl ?_
  refine go_ialV (hS.s sh_180) (by omega) (by decide) l3 dR_leave_405 ?_
  refine go_if_eq dR_leave_406 (tgt := 414) (by decide) (fun c406 => ?_) (fun c406 => ?_)
  · refine go_return rfl dR_leave_414 ?_
    first | exact ⟨rfl, by rw [fe27y ((kR_0 lb).mp c406)]; exact h, oN.rf⟩ | exact ⟨rfl, by rw [fe27n (fun e => c406 ((kR_0 lb).mpr e))]; exact h.lost, oN.w⟩
  · refine go_aload_n dR_leave_409 rfl rfl ?_
    refine go_iconst (am_b false) (by decide) dR_leave_410 ?_
    refine go_putZ (by first | exact am_b_01 _ | exact Or.inl rfl | exact Or.inr rfl) dR_leave_411 fpR_155 rfl (hS.s sh_163) ?_
    refine go_return rfl dR_leave_414 ?_
    first | exact ⟨rfl, by rw [fe27y ((kR_0 lb).mp c406)]; exact h, oN.rf⟩ | exact ⟨rfl, by rw [fe27n (fun e => c406 ((kR_0 lb).mpr e))]; exact h.lost, oN.w⟩
