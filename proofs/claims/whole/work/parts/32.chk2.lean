theorem am_b_or1 (b : Bool) : am_b b ||| nI 1 = am_b true := by cases b <;> decide
theorem am_b_or0 (b : Bool) : am_b b ||| nI 0 = am_b b := by cases b <;> decide
theorem anyV.store {G : am_G} {c : Bool} {y : Option fS} {v : Int32} {a b : Nat} {g : Nat → Nat} (ha : a < 8) (h : anyV G c y v) : wOK (am_wi G 107 (8 + a) v) c (y.bind (fEff g 3 a b)) := by
  have e : y.bind (fEff g 3 a b) = (y.bind fAny).map fun q => (q.2.1, q.2.2.1, va_up q.2.2.2 a (some q.1)) := by cases y <;> rfl
  rw [e]
  unfold anyV at h
  cases q : y.bind fAny with
  | none =>
    rw [q] at h
    exact ⟨by rw [wi_I (by decide)]; exact h.1, by obtain ⟨e, h1, h2⟩ := h.2; exact ⟨e, h1, by rw [wi_I (by decide)]; exact h2⟩⟩
  | some u =>
    rw [q] at h
    obtain ⟨hv, hk, ⟨d1, d2, d3⟩, ⟨b1, b2, b3⟩, hw⟩ := h
    refine ⟨⟨by rw [wi_I (by decide)]; exact d1, fun i hi => ?_, fun i hi => ?_⟩, ⟨b1, b2, fun i hi k hk2 => ?_⟩, by rw [wi_I (by decide)]; exact hw⟩
    · rw [wi_In (by have hi : i < u.2.1 := hi; have b1 : u.2.1 ≤ 8 := b1; omega)]; exact d2 i hi
    · show _ = kO (va_up u.2.2.2 a (some u.1) i)
      by_cases e : i = a
      · rw [e, am_up_eq, wi_Is, hv]; rfl
      · rw [am_up_ne e, wi_In (by omega)]; exact d3 i hi
    · have hk2 : va_up u.2.2.2 a (some u.1) i = some k := hk2
      by_cases e : i = a
      · rw [e, am_up_eq] at hk2; cases hk2; exact hk
      · rw [am_up_ne e] at hk2; exact b3 i hi k hk2
/-- a test of a local: c1 says that it falls -/
theorem wOK.test {G : am_G} {c b : Bool} {y : Option fS} {f : fS → Option fS} (h : wOK G c y) (hb : G.2.1 102 9 = am_b b) (c1 : Bool) (hf : ∀ x, y = some x → f x = if c1 = true then none else some x) : wOK (am_wi G 102 9 (if c1 = true then am_b true else am_b b)) c (y.bind f) := by
  obtain ⟨e, h8, hd, -⟩ := h.dep
  cases y with
  | none =>
    have : b = true := by
      have h9 := h.1
      rw [hb] at h9
      cases b
      · exact absurd h9 (by decide)
      · rfl
    rw [this, ite_self]
    exact wOK.bad h8 hd
  | some x =>
    show wOK _ c (f x)
    rw [hf x rfl]
    cases c1
    · obtain ⟨⟨d1, d2, d3⟩, hB, hw⟩ := h
      refine ⟨⟨by rw [wi_In (by decide)]; exact d1, fun i hi => by rw [wi_I (by decide)]; exact d2 i hi, fun i hi => by rw [wi_I (by decide)]; exact d3 i hi⟩, hB, ?_⟩
      rw [wi_Is]
      exact hb.symm.trans hw
    · exact wOK.bad h8 hd
def fT2 (a : Nat) (x : fS) : Option fS := match x.2.2 a with
  | some k => if k < 10 then some x else none
  | none => none
theorem kO_2 {k : Option Nat} (hk : ∀ q, k = some q → q < 200) : (kO k = -2 ↔ k = none) ∧ (∀ q, k = some q → (nI 10 ≤ kO k ↔ ¬ q < 10)) ∧ (kO k < nI 10 ↔ (k = none ∨ ∃ q, k = some q ∧ q < 10)) ∧ (kO k = 0 ↔ k = some 0) := by
  cases k with
  | none => exact ⟨⟨fun _ => rfl, fun _ => rfl⟩, fun q h => (by cases h), ⟨fun _ => Or.inl rfl, fun _ => by decide⟩, ⟨fun h => absurd h (by decide), fun h => by cases h⟩⟩
  | some q =>
    have hq := hk q rfl
    refine ⟨⟨fun h => ?_, fun h => by cases h⟩, fun q' h => ?_, ⟨fun h => Or.inr ⟨q, rfl, (nI_ltI (by omega) (by decide)).mp h⟩, fun h => ?_⟩, ⟨fun h => ?_, fun h => ?_⟩⟩
    · have h1 : nI q = -2 := h
      have h2 : (nI q).toInt = -2 := by rw [h1]; rfl
      rw [nI_toInt (by omega)] at h2; omega
    · cases h
      exact (nI_leI (by decide) (by omega)).trans (by omega)
    · rcases h with h | ⟨q', h, h2⟩
      · cases h
      · cases h; exact (nI_ltI (by omega) (by decide)).mpr h2
    · have h1 : nI q = nI 0 := h
      rw [(nI_eq (by omega) (by decide)).mp h1]
    · cases h; rfl
section Ld
variable {y : Option fS} {a : Nat} {v : Int32} (hk : ∀ x, y = some x → v = kO (x.2.2 a) ∧ ∀ q, x.2.2 a = some q → q < 200)
theorem ld_bad1 (hk : ∀ x, y = some x → v = kO (x.2.2 a) ∧ ∀ q, x.2.2 a = some q → q < 200) (c : v = -2) : ∀ x, y = some x → fT2 a x = if true = true then none else some x := fun x e => by
  obtain ⟨k1, k2⟩ := hk x e
  have k3 := (kO_2 k2).1.mp (k1.symm.trans c)
  simp only [fT2, k3]; rfl
theorem ld_ok (hk : ∀ x, y = some x → v = kO (x.2.2 a) ∧ ∀ q, x.2.2 a = some q → q < 200) (c : ¬ v = -2) (c2 : v < nI 10) : ∀ x, y = some x → fT2 a x = if false = true then none else some x := fun x e => by
  obtain ⟨k1, k2⟩ := hk x e
  cases k3 : x.2.2 a with
  | none => exact absurd (show v = -2 by rw [k1, k3]; rfl) c
  | some q =>
    simp only [fT2, k3]
    rw [if_pos (Decidable.not_not.mp (fun q0 => i_nlt.mpr (((kO_2 k2).2.1 q k3).mpr q0) (by rw [← k1]; exact c2)))]
    rfl
theorem ld_bad2 (hk : ∀ x, y = some x → v = kO (x.2.2 a) ∧ ∀ q, x.2.2 a = some q → q < 200) (c2 : ¬ v < nI 10) : ∀ x, y = some x → fT2 a x = if true = true then none else some x := fun x e => by
  obtain ⟨k1, k2⟩ := hk x e
  cases k3 : x.2.2 a with
  | none => simp only [fT2, k3]; rfl
  | some q =>
    simp only [fT2, k3]
    rw [if_neg (((kO_2 k2).2.1 q k3).mp (by rw [← k1]; exact i_nlt.mp c2))]
    rfl
theorem ld_hv {kk : Nat} (hk : ∀ x, y = some x → v = kO (x.2.2 a) ∧ ∀ q, x.2.2 a = some q → q < 200) (hkk : ∀ x, y = some x → ∀ q, x.2.2 a = some q → q = kk) (hne : y.bind (fT2 a) ≠ none) : v = nI kk ∧ kk < 200 := by
  cases y with
  | none => exact absurd rfl hne
  | some x =>
    obtain ⟨k1, k2⟩ := hk x rfl
    cases k3 : x.2.2 a with
    | none => exact absurd (show fT2 a x = none by simp only [fT2, k3]) hne
    | some q =>
      have k4 := hkk x rfl q k3
      subst k4
      exact ⟨by rw [k1, k3]; rfl, k2 q k3⟩
theorem ld_kk (y : Option fS) (a : Nat) : ∃ kk : Nat, ∀ x, y = some x → ∀ q, x.2.2 a = some q → q = kk := by
  cases y with
  | none => exact ⟨0, fun x e => by cases e⟩
  | some x => exact ⟨(x.2.2 a).getD 0, fun x1 e q hq => by cases e; rw [hq]; rfl⟩
end Ld

set_option maxRecDepth 100000 in
theorem okC_useLocal3 (w : am_W) {d : Nat} (hd : 2 ≤ d) (G : am_G) (c : Bool) (y : Option fS) (g : Nat → Nat) (a b : Nat) (ha : a < 8) (hS : St0 G) (h : wOK G c y) : am_Ok w jC_useLocal d (0, 0) [.inr (some 102), .inl (nI 3), .inl (nI (8 + a))] G (fun r G' => r = none ∧ wOK G' c (y.bind (fEff g 3 a b)) ∧ oC G G') := by
  refine am_ok_of rfl (Nat.le_of_ble_eq_true rfl) ?_
  show am_Go w jC_useLocal d (0, 0) 0 [some (.inr (some 102)), some (.inl (nI 3)), some (.inl (nI (8 + a))), none] [] G _
  have q1 : G.1[102]? = some (0, 3) := hS.s rfl
  have q2 : G.1[107]? = some (1, 16) := hS.s rfl
  have q3 : G.2.2 102 5 = some 107 := hS.r (by decide +kernel)
  refine go_iload_n dC_useLocal_0 rfl rfl ?_
  refine go_iconst (nI 3) (by decide) dC_useLocal_1 ?_
  refine go_icmp_neN (by decide) (by decide) dC_useLocal_2 (tgt := 16) (by decide) (fun q9 => absurd q9 (by decide)) (fun q9 => ?_)
  refine go_aload_n dC_useLocal_5 rfl rfl ?_
  refine go_getO dC_useLocal_6 flC_25 rfl (by assumption) (by assumption) ?_
  refine go_iload_n dC_useLocal_9 rfl rfl ?_
  refine go_aload_n dC_useLocal_10 rfl rfl ?_
  refine go_cV (k' := (0, 0)) dC_useLocal_11 _ csC_114 (by assumption) rfl imC_takeAny seC_takeAny rfl (okC_takeAny (d := 0) w G c y hS h) (by omega) (by decide) (Nat.le_of_ble_eq_true rfl) (fun r G1 hr hn => ?_)
  obtain ⟨v, rfl, hv, ho⟩ := hr
  clear hn
  refine go_iastoreN ((ho.St hS).s rfl) (by omega) (by decide) dC_useLocal_14 ?_
  refine go_return rfl dC_useLocal_15 ?_
  exact ⟨rfl, hv.store ha, ho.tr oC.n⟩
set_option maxRecDepth 100000 in
theorem okC_useLocal27 (w : am_W) {d : Nat} (hd : 2 ≤ d) (G : am_G) (c : Bool) (y : Option fS) (g : Nat → Nat) (a b : Nat) (ha : a < 8) (hS : St0 G) (h : wOK G c y) : am_Ok w jC_useLocal d (0, 0) [.inr (some 102), .inl (nI 27), .inl (nI (8 + a))] G (fun r G' => r = none ∧ wOK G' c (y.bind (fEff g 27 a b)) ∧ oC G G') := by
  refine am_ok_of rfl (Nat.le_of_ble_eq_true rfl) ?_
  show am_Go w jC_useLocal d (0, 0) 0 [some (.inr (some 102)), some (.inl (nI 27)), some (.inl (nI (8 + a))), none] [] G _
  have q1 : G.1[102]? = some (0, 3) := hS.s rfl
  have q2 : G.1[107]? = some (1, 16) := hS.s rfl
  have q3 : G.2.2 102 5 = some 107 := hS.r (by decide +kernel)
  obtain ⟨bb, hbb, -⟩ := h.flag
  obtain ⟨v, hv⟩ : ∃ v, v = G.2.1 107 (8 + a) := ⟨_, rfl⟩
  have hk : ∀ x, y = some x → v = kO (x.2.2 a) ∧ ∀ q, x.2.2 a = some q → q < 200 := fun x e => by subst e; exact ⟨hv.trans (h.1.2.2 a ha), h.2.1.2.2 a ha⟩
  refine go_iload_n dC_useLocal_0 rfl rfl ?_
  refine go_iconst (nI 3) (by decide) dC_useLocal_1 ?_
  refine go_icmp_neN (by decide) (by decide) dC_useLocal_2 (tgt := 16) (by decide) (fun q9 => ?_) (fun q9 => absurd q9 (by decide))
  refine go_aload_n dC_useLocal_16 rfl rfl ?_
  refine go_getO dC_useLocal_17 flC_25 rfl (by assumption) (by assumption) ?_
  refine go_iload_n dC_useLocal_20 rfl rfl ?_
  refine go_ialV (v := v) q2 (by omega) (by decide) hv.symm dC_useLocal_21 ?_
  refine go_istore_n dC_useLocal_22 rfl (Nat.le_of_ble_eq_true rfl) ?_
  refine go_iload_n dC_useLocal_23 rfl rfl ?_
  refine go_iconst (nI 2) (by decide) dC_useLocal_24 ?_
  refine go_icmp_neN (by decide) (by decide) dC_useLocal_25 (tgt := 62) (by decide) (fun q9 => ?_) (fun q9 => absurd q9 (by decide))
  refine go_iload_n dC_useLocal_62 rfl rfl ?_
  refine go_bipush (nI 27) (by decide) dC_useLocal_63 ?_
  refine go_icmp_neN (by decide) (by decide) dC_useLocal_65 (tgt := 89) (by decide) (fun q9 => absurd q9 (by decide)) (fun q9 => ?_)
  refine go_aload_n dC_useLocal_68 rfl rfl ?_
  refine go_dup dC_useLocal_69 ?_
  refine go_getV dC_useLocal_70 flC_41 rfl (by assumption) (by first | assumption | (simp (disch := omega) only [wi_I, ro_I, wi_In, wi_Is]; done) | (simp (disch := omega) only [wi_I, ro_I, wi_In, wi_Is]; first | assumption | rfl) | rfl) ?_
  refine go_iload_n dC_useLocal_73 rfl rfl ?_
  refine go_if_eq dC_useLocal_74 (tgt := 81) (by decide) (fun c74 => ?_) (fun c74 => ?_)
  · refine go_iconst (nI 0) (by decide) dC_useLocal_81 ?_
    refine go_ior dC_useLocal_82 ?_
    first | rw [am_b_or1] | rw [am_b_or0]
    refine go_putZ (by first | exact am_b_01 _) dC_useLocal_83 fpC_41 rfl q1 ?_
    refine go_goto dC_useLocal_86 (tgt := 109) (by decide) ?_
    refine go_return rfl dC_useLocal_109 ?_
    first | exact ⟨rfl, h.test hbb false (fun x e => by obtain ⟨k1, k2⟩ := hk x e; have k3 := (kO_2 k2).2.2.2.mp (k1.symm.trans c74); simp only [fEff, k3]; rfl), oC.w⟩ | exact ⟨rfl, h.test hbb true (fun x e => by obtain ⟨k1, k2⟩ := hk x e; cases k3 : x.2.2 a with | none => simp only [fEff, k3]; rfl | some q => simp only [fEff, k3]; rw [if_neg (fun q0 => c74 (k1.trans ((kO_2 k2).2.2.2.mpr (by rw [k3, q0]))))]; rfl), oC.w⟩
  · refine go_iconst (nI 1) (by decide) dC_useLocal_77 ?_
    refine go_goto dC_useLocal_78 (tgt := 82) (by decide) ?_
    refine go_ior dC_useLocal_82 ?_
    first | rw [am_b_or1] | rw [am_b_or0]
    refine go_putZ (by first | exact am_b_01 _) dC_useLocal_83 fpC_41 rfl q1 ?_
    refine go_goto dC_useLocal_86 (tgt := 109) (by decide) ?_
    refine go_return rfl dC_useLocal_109 ?_
    first | exact ⟨rfl, h.test hbb false (fun x e => by obtain ⟨k1, k2⟩ := hk x e; have k3 := (kO_2 k2).2.2.2.mp (k1.symm.trans c74); simp only [fEff, k3]; rfl), oC.w⟩ | exact ⟨rfl, h.test hbb true (fun x e => by obtain ⟨k1, k2⟩ := hk x e; cases k3 : x.2.2 a with | none => simp only [fEff, k3]; rfl | some q => simp only [fEff, k3]; rw [if_neg (fun q0 => c74 (k1.trans ((kO_2 k2).2.2.2.mpr (by rw [k3, q0]))))]; rfl), oC.w⟩
set_option maxRecDepth 100000 in
theorem okC_useLocal24 (w : am_W) {d : Nat} (hd : 2 ≤ d) (G : am_G) (c : Bool) (y : Option fS) (g : Nat → Nat) (a b : Nat) (ha : a < 8) (hS : St0 G) (h : wOK G c y) : am_Ok w jC_useLocal d (0, 0) [.inr (some 102), .inl (nI 24), .inl (nI (8 + a))] G (fun r G' => r = none ∧ wOK G' c (y.bind (fEff g 24 a b)) ∧ oC G G') := by
  refine am_ok_of rfl (Nat.le_of_ble_eq_true rfl) ?_
  show am_Go w jC_useLocal d (0, 0) 0 [some (.inr (some 102)), some (.inl (nI 24)), some (.inl (nI (8 + a))), none] [] G _
  have q1 : G.1[102]? = some (0, 3) := hS.s rfl
  have q2 : G.1[107]? = some (1, 16) := hS.s rfl
  have q3 : G.2.2 102 5 = some 107 := hS.r (by decide +kernel)
  obtain ⟨bb, hbb, -⟩ := h.flag
  obtain ⟨v, hv⟩ : ∃ v, v = G.2.1 107 (8 + a) := ⟨_, rfl⟩
  have hk : ∀ x, y = some x → v = kO (x.2.2 a) ∧ ∀ q, x.2.2 a = some q → q < 200 := fun x e => by subst e; exact ⟨hv.trans (h.1.2.2 a ha), h.2.1.2.2 a ha⟩
  refine go_iload_n dC_useLocal_0 rfl rfl ?_
  refine go_iconst (nI 3) (by decide) dC_useLocal_1 ?_
  refine go_icmp_neN (by decide) (by decide) dC_useLocal_2 (tgt := 16) (by decide) (fun q9 => ?_) (fun q9 => absurd q9 (by decide))
  refine go_aload_n dC_useLocal_16 rfl rfl ?_
  refine go_getO dC_useLocal_17 flC_25 rfl (by assumption) (by assumption) ?_
  refine go_iload_n dC_useLocal_20 rfl rfl ?_
  refine go_ialV (v := v) q2 (by omega) (by decide) hv.symm dC_useLocal_21 ?_
  refine go_istore_n dC_useLocal_22 rfl (Nat.le_of_ble_eq_true rfl) ?_
  refine go_iload_n dC_useLocal_23 rfl rfl ?_
  refine go_iconst (nI 2) (by decide) dC_useLocal_24 ?_
  refine go_icmp_neN (by decide) (by decide) dC_useLocal_25 (tgt := 62) (by decide) (fun q9 => ?_) (fun q9 => absurd q9 (by decide))
  refine go_iload_n dC_useLocal_62 rfl rfl ?_
  refine go_bipush (nI 27) (by decide) dC_useLocal_63 ?_
  refine go_icmp_neN (by decide) (by decide) dC_useLocal_65 (tgt := 89) (by decide) (fun q9 => ?_) (fun q9 => absurd q9 (by decide))
  refine go_aload_n dC_useLocal_89 rfl rfl ?_
  refine go_dup dC_useLocal_90 ?_
  refine go_getV dC_useLocal_91 flC_41 rfl (by assumption) (by first | assumption | (simp (disch := omega) only [wi_I, ro_I, wi_In, wi_Is]; done) | (simp (disch := omega) only [wi_I, ro_I, wi_In, wi_Is]; first | assumption | rfl) | rfl) ?_
  refine go_iload_n dC_useLocal_94 rfl rfl ?_
  refine go_bipush (nI 10) (by decide) dC_useLocal_95 ?_
  refine go_icmp_ge dC_useLocal_97 (tgt := 104) (by decide) (fun c97 => ?_) (fun c97 => ?_)
  · refine go_iconst (nI 0) (by decide) dC_useLocal_104 ?_
    refine go_ior dC_useLocal_105 ?_
    first | rw [am_b_or1] | rw [am_b_or0]
    refine go_putZ (by first | exact am_b_01 _) dC_useLocal_106 fpC_41 rfl q1 ?_
    refine go_return rfl dC_useLocal_109 ?_
    first | exact ⟨rfl, h.test hbb false (fun x e => by obtain ⟨k1, k2⟩ := hk x e; cases k3 : x.2.2 a with | none => exact absurd c97 (by rw [k1, k3]; decide) | some q => simp only [fEff, k3]; rw [if_neg (((kO_2 k2).2.1 q k3).mp (by rw [← k1]; exact c97))]; rfl), oC.w⟩ | exact ⟨rfl, h.test hbb true (fun x e => by obtain ⟨k1, k2⟩ := hk x e; cases k3 : x.2.2 a with | none => simp only [fEff, k3]; rfl | some q => simp only [fEff, k3]; rw [if_pos (Decidable.not_not.mp (fun q0 => c97 (by rw [k1]; exact ((kO_2 k2).2.1 q k3).mpr q0)))]; rfl), oC.w⟩
  · refine go_iconst (nI 1) (by decide) dC_useLocal_100 ?_
    refine go_goto dC_useLocal_101 (tgt := 105) (by decide) ?_
    refine go_ior dC_useLocal_105 ?_
    first | rw [am_b_or1] | rw [am_b_or0]
    refine go_putZ (by first | exact am_b_01 _) dC_useLocal_106 fpC_41 rfl q1 ?_
    refine go_return rfl dC_useLocal_109 ?_
    first | exact ⟨rfl, h.test hbb false (fun x e => by obtain ⟨k1, k2⟩ := hk x e; cases k3 : x.2.2 a with | none => exact absurd c97 (by rw [k1, k3]; decide) | some q => simp only [fEff, k3]; rw [if_neg (((kO_2 k2).2.1 q k3).mp (by rw [← k1]; exact c97))]; rfl), oC.w⟩ | exact ⟨rfl, h.test hbb true (fun x e => by obtain ⟨k1, k2⟩ := hk x e; cases k3 : x.2.2 a with | none => simp only [fEff, k3]; rfl | some q => simp only [fEff, k3]; rw [if_pos (Decidable.not_not.mp (fun q0 => c97 (by rw [k1]; exact ((kO_2 k2).2.1 q k3).mpr q0)))]; rfl), oC.w⟩
theorem fEff2 {g : Nat → Nat} {a b k : Nat} {y : Option fS} (h : ∀ x, y = some x → ∀ q, x.2.2 a = some q → q = k) : y.bind (fEff g 2 a b) = (y.bind (fT2 a)).bind (fGive k) := by
  cases y with
  | none => rfl
  | some x =>
    show fEff g 2 a b x = (fT2 a x).bind (fGive k)
    cases e : x.2.2 a with
    | none => simp only [fEff, fT2, e]; rfl
    | some q =>
      have h1 := h x rfl q e
      simp only [fEff, fT2, e]
      by_cases hq : q < 10
      · rw [if_pos hq, if_pos hq, h1]; rfl
      · rw [if_neg hq, if_neg hq]; rfl
set_option maxRecDepth 100000 in
theorem okC_useLocal2 (w : am_W) {d : Nat} (hd : 2 ≤ d) (G : am_G) (c : Bool) (y : Option fS) (g : Nat → Nat) (a b : Nat) (ha : a < 8) (hS : St0 G) (h : wOK G c y) : am_Ok w jC_useLocal d (0, 0) [.inr (some 102), .inl (nI 2), .inl (nI (8 + a))] G (fun r G' => r = none ∧ wOK G' c (y.bind (fEff g 2 a b)) ∧ oC G G') := by
  refine am_ok_of rfl (Nat.le_of_ble_eq_true rfl) ?_
  show am_Go w jC_useLocal d (0, 0) 0 [some (.inr (some 102)), some (.inl (nI 2)), some (.inl (nI (8 + a))), none] [] G _
  have q1 : G.1[102]? = some (0, 3) := hS.s rfl
  have q2 : G.1[107]? = some (1, 16) := hS.s rfl
  have q3 : G.2.2 102 5 = some 107 := hS.r (by decide +kernel)
  obtain ⟨bb, hbb, -⟩ := h.flag
  obtain ⟨v, hv⟩ : ∃ v, v = G.2.1 107 (8 + a) := ⟨_, rfl⟩
  have hk : ∀ x, y = some x → v = kO (x.2.2 a) ∧ ∀ q, x.2.2 a = some q → q < 200 := fun x e => by subst e; exact ⟨hv.trans (h.1.2.2 a ha), h.2.1.2.2 a ha⟩
  obtain ⟨kk, hkk⟩ := ld_kk y a
  rw [fEff2 hkk]
  refine go_iload_n dC_useLocal_0 rfl rfl ?_
  refine go_iconst (nI 3) (by decide) dC_useLocal_1 ?_
  refine go_icmp_neN (by decide) (by decide) dC_useLocal_2 (tgt := 16) (by decide) (fun q9 => ?_) (fun q9 => absurd q9 (by decide))
  refine go_aload_n dC_useLocal_16 rfl rfl ?_
  refine go_getO dC_useLocal_17 flC_25 rfl (by assumption) (by assumption) ?_
  refine go_iload_n dC_useLocal_20 rfl rfl ?_
  refine go_ialV (v := v) q2 (by omega) (by decide) hv.symm dC_useLocal_21 ?_
  refine go_istore_n dC_useLocal_22 rfl (Nat.le_of_ble_eq_true rfl) ?_
  refine go_iload_n dC_useLocal_23 rfl rfl ?_
  refine go_iconst (nI 2) (by decide) dC_useLocal_24 ?_
  refine go_icmp_neN (by decide) (by decide) dC_useLocal_25 (tgt := 62) (by decide) (fun q9 => absurd q9 (by decide)) (fun q9 => ?_)
  refine go_aload_n dC_useLocal_28 rfl rfl ?_
  refine go_dup dC_useLocal_29 ?_
  refine go_getV dC_useLocal_30 flC_41 rfl (by assumption) (by first | assumption | (simp (disch := omega) only [wi_I, ro_I, wi_In, wi_Is]; done) | (simp (disch := omega) only [wi_I, ro_I, wi_In, wi_Is]; first | assumption | rfl) | rfl) ?_
  refine go_iload_n dC_useLocal_33 rfl rfl ?_
  refine go_bipush (-2) (by decide) dC_useLocal_34 ?_
  refine go_icmp_eq dC_useLocal_36 (tgt := 45) (by decide) (fun c36 => ?_) (fun c36 => ?_)
  · refine go_iconst (nI 1) (by decide) dC_useLocal_45 ?_
    refine go_goto dC_useLocal_46 (tgt := 50) (by decide) ?_
    refine go_ior dC_useLocal_50 ?_
    first | rw [am_b_or1] | rw [am_b_or0]
    refine go_putZ (by first | exact am_b_01 _) dC_useLocal_51 fpC_41 rfl q1 ?_
    have HV := ld_hv hk hkk
    first | have HW := h.test hbb true (ld_bad1 hk c36) | have HW := h.test hbb false (ld_ok hk c36 c42) | have HW := h.test hbb true (ld_bad2 hk c42)
    refine go_aload_n dC_useLocal_54 rfl rfl ?_
    refine go_iload_n dC_useLocal_55 rfl rfl ?_
    refine go_cV (k' := (0, 0)) dC_useLocal_56 [.inl v] csC_111 q1 rfl imC_give seC_give rfl (okC_give (d := 0) w _ c _ kk v hS HW (fun hne => HV hne)) (by omega) (by decide) (Nat.le_of_ble_eq_true rfl) (fun r1 G1 hr hn1 => ?_)
    obtain ⟨rfl, h1, h2⟩ := hr
    refine go_goto dC_useLocal_59 (tgt := 109) (by decide) ?_
    refine go_return rfl dC_useLocal_109 ?_
    exact ⟨rfl, h1, oC.w.tr h2⟩
  · refine go_iload_n dC_useLocal_39 rfl rfl ?_
    refine go_bipush (nI 10) (by decide) dC_useLocal_40 ?_
    refine go_icmp_lt dC_useLocal_42 (tgt := 49) (by decide) (fun c42 => ?_) (fun c42 => ?_)
    · refine go_iconst (nI 0) (by decide) dC_useLocal_49 ?_
      refine go_ior dC_useLocal_50 ?_
      first | rw [am_b_or1] | rw [am_b_or0]
      refine go_putZ (by first | exact am_b_01 _) dC_useLocal_51 fpC_41 rfl q1 ?_
      have HV := ld_hv hk hkk
      first | have HW := h.test hbb true (ld_bad1 hk c36) | have HW := h.test hbb false (ld_ok hk c36 c42) | have HW := h.test hbb true (ld_bad2 hk c42)
      refine go_aload_n dC_useLocal_54 rfl rfl ?_
      refine go_iload_n dC_useLocal_55 rfl rfl ?_
      refine go_cV (k' := (0, 0)) dC_useLocal_56 [.inl v] csC_111 q1 rfl imC_give seC_give rfl (okC_give (d := 0) w _ c _ kk v hS HW (fun hne => HV hne)) (by omega) (by decide) (Nat.le_of_ble_eq_true rfl) (fun r1 G1 hr hn1 => ?_)
      obtain ⟨rfl, h1, h2⟩ := hr
      refine go_goto dC_useLocal_59 (tgt := 109) (by decide) ?_
      refine go_return rfl dC_useLocal_109 ?_
      exact ⟨rfl, h1, oC.w.tr h2⟩
    · refine go_iconst (nI 1) (by decide) dC_useLocal_45 ?_
      refine go_goto dC_useLocal_46 (tgt := 50) (by decide) ?_
      refine go_ior dC_useLocal_50 ?_
      first | rw [am_b_or1] | rw [am_b_or0]
      refine go_putZ (by first | exact am_b_01 _) dC_useLocal_51 fpC_41 rfl q1 ?_
      have HV := ld_hv hk hkk
      first | have HW := h.test hbb true (ld_bad1 hk c36) | have HW := h.test hbb false (ld_ok hk c36 c42) | have HW := h.test hbb true (ld_bad2 hk c42)
      refine go_aload_n dC_useLocal_54 rfl rfl ?_
      refine go_iload_n dC_useLocal_55 rfl rfl ?_
      refine go_cV (k' := (0, 0)) dC_useLocal_56 [.inl v] csC_111 q1 rfl imC_give seC_give rfl (okC_give (d := 0) w _ c _ kk v hS HW (fun hne => HV hne)) (by omega) (by decide) (Nat.le_of_ble_eq_true rfl) (fun r1 G1 hr hn1 => ?_)
      obtain ⟨rfl, h1, h2⟩ := hr
      refine go_goto dC_useLocal_59 (tgt := 109) (by decide) ?_
      refine go_return rfl dC_useLocal_109 ?_
      exact ⟨rfl, h1, oC.w.tr h2⟩
