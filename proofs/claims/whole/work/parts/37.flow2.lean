/-! THE CLASS'S CHECKER, as mathematics: what is come to, what waits, and that it ends in the least solution. -/
section Mv
variable {M : mT} {p : Nat}
theorem okO_n {k : Nat} {x : Int32} (hk : k < 60) (h : okO (nI k) x = true) : x = nI x.toNatClampNeg ∧ x.toNatClampNeg ≤ k := by
  have h1 : nI k = -1 ∨ nI k = 99 ∨ (0 ≤ x ∧ x ≤ nI k) := of_decide_eq_true h
  have e1 : ¬ nI k = -1 := fun e => by
    have : (nI k).toInt = (-1 : Int32).toInt := by rw [e]
    rw [nI_toInt (by omega)] at this
    have h2 : (-1 : Int32).toInt = -1 := by decide
    omega
  have e2 : ¬ nI k = 99 := fun e => by
    have e3 : nI k = nI 99 := e
    have := (nI_eq (by omega) (by decide)).mp e3
    omega
  have h3 : 0 ≤ x ∧ x ≤ nI k := (h1.resolve_left e1).resolve_left e2
  obtain ⟨a, ha, rfl⟩ := bel_of ((bel_le (by omega)).mpr h3) (by omega)
  rw [nI_clamp (by omega)]
  exact ⟨rfl, by omega⟩
theorem mV.a {k : Nat} (hv : mV M) (hp : p < mN M) (hk : k < 60) (hs : am_sf 0 (mO M p) = nI k) : mA M p = nI (aN M p) ∧ aN M p ≤ k := by
  obtain ⟨h1, h2, -⟩ := hv.2.2.2.1 p hp
  have h3 := h2.1
  rw [hs] at h3
  exact okO_n hk h3
theorem mV.b (hv : mV M) (hp : p < mN M) (hs : am_sf 1 (mO M p) = nI 59) : mB M p = nI (bN M p) ∧ bN M p < 120 := by
  obtain ⟨h1, h2, -⟩ := hv.2.2.2.1 p hp
  have := h2.2 hs
  exact ⟨this.1, by have := this.2; have := hv.1; show (mB M p).toNatClampNeg < 120; omega⟩
theorem sf_loc : ∀ o, o < 28 → (o = 2 ∨ o = 3 ∨ o = 24 ∨ o = 27 ∨ o = 14) → am_sf 0 o = nI 7 := by decide +kernel
theorem sf_call : am_sf 0 21 = nI 5 := by decide +kernel
theorem sf_b : ∀ o, o < 28 → (o = 11 ∨ o = 12 ∨ o = 17 ∨ o = 23) → am_sf 1 o = nI 59 := by decide +kernel
theorem mV.loc (hv : mV M) (hp : p < mN M) (h : mO M p = 2 ∨ mO M p = 3 ∨ mO M p = 24 ∨ mO M p = 27) : mA M p = nI (aN M p) ∧ aN M p < 8 := by
  have h1 := (hv.2.2.2.1 p hp).1
  have := hv.a (k := 7) hp (by decide) (sf_loc _ h1 (by omega))
  exact ⟨this.1, by have := this.2; omega⟩
theorem mV.call (hv : mV M) (hp : p < mN M) (h : mO M p = 21) : mA M p = nI (aN M p) ∧ aN M p < 6 := by
  have := hv.a (k := 5) hp (by decide) (by rw [h]; exact sf_call)
  exact ⟨this.1, by have := this.2; omega⟩
theorem mV.jmp (hv : mV M) (hp : p < mN M) (h : mO M p = 11 ∨ mO M p = 12 ∨ mO M p = 17 ∨ mO M p = 23) : mB M p = nI (bN M p) ∧ bN M p < 120 :=
  hv.b hp (sf_b _ (hv.2.2.2.1 p hp).1 h)
/-- a matters only where it is a local or a method -/
theorem fEff_a {g : Nat → Nat} {o a b : Nat} (ho : o < 28) (h : ¬ (o = 2 ∨ o = 3 ∨ o = 24 ∨ o = 27)) (h21 : o ≠ 21) : fEff g o a b = fEff g o 0 b := by
  match o, ho, h, h21 with
  | 0, _, _, _ => rfl
  | 1, _, _, _ => rfl
  | 2, _, h, _ => exact absurd (Or.inl rfl) h
  | 3, _, h, _ => exact absurd (Or.inr (Or.inl rfl)) h
  | 4, _, _, _ => rfl
  | 5, _, _, _ => rfl
  | 6, _, _, _ => rfl
  | 7, _, _, _ => rfl
  | 8, _, _, _ => rfl
  | 9, _, _, _ => rfl
  | 10, _, _, _ => rfl
  | 11, _, _, _ => rfl
  | 12, _, _, _ => rfl
  | 13, _, _, _ => rfl
  | 14, _, _, _ => rfl
  | 15, _, _, _ => rfl
  | 16, _, _, _ => rfl
  | 17, _, _, _ => rfl
  | 18, _, _, _ => rfl
  | 19, _, _, _ => rfl
  | 20, _, _, _ => rfl
  | 21, _, _, h => exact absurd rfl h
  | 22, _, _, _ => rfl
  | 23, _, _, _ => rfl
  | 24, _, h, _ => exact absurd (Or.inr (Or.inr (Or.inl rfl))) h
  | 25, _, _, _ => rfl
  | 26, _, _, _ => rfl
  | 27, _, h, _ => exact absurd (Or.inr (Or.inr (Or.inr rfl))) h
  | n + 28, h, _, _ => exact absurd h (by omega)
theorem fEff_b {g : Nat → Nat} {o a b : Nat} (ho : o < 28) (h : o ≠ 23) : fEff g o a b = fEff g o a 0 := by
  match o, ho, h with
  | 0, _, _ => rfl
  | 1, _, _ => rfl
  | 2, _, _ => rfl
  | 3, _, _ => rfl
  | 4, _, _ => rfl
  | 5, _, _ => rfl
  | 6, _, _ => rfl
  | 7, _, _ => rfl
  | 8, _, _ => rfl
  | 9, _, _ => rfl
  | 10, _, _ => rfl
  | 11, _, _ => rfl
  | 12, _, _ => rfl
  | 13, _, _ => rfl
  | 14, _, _ => rfl
  | 15, _, _ => rfl
  | 16, _, _ => rfl
  | 17, _, _ => rfl
  | 18, _, _ => rfl
  | 19, _, _ => rfl
  | 20, _, _ => rfl
  | 21, _, _ => rfl
  | 22, _, _ => rfl
  | 23, _, h => exact absurd rfl h
  | 24, _, _ => rfl
  | 25, _, _ => rfl
  | 26, _, _ => rfl
  | 27, _, _ => rfl
  | n + 28, h, _ => exact absurd h (by omega)
theorem mV.eff_le {g : Nat → Nat} (hv : mV M) (hp : p < mN M) {x z y : fS} (h : fLe x z) (hz : fEff g (mO M p) (aN M p) (bN M p) z = some y) : ∃ u, fEff g (mO M p) (aN M p) (bN M p) x = some u ∧ fLe u y := by
  have ho := (hv.2.2.2.1 p hp).1
  by_cases hl : mO M p = 2 ∨ mO M p = 3 ∨ mO M p = 24 ∨ mO M p = 27
  · exact fEff_le ho (hv.loc hp hl).2 h hz
  · by_cases h21 : mO M p = 21
    · exact fEff_le ho (by have := (hv.call hp h21).2; omega) h hz
    · rw [fEff_a ho hl h21] at hz ⊢
      exact fEff_le ho (by decide) h hz
end Mv
section Cv
variable {g : Nat → Nat} {M : mT}
theorem fBel.rf {S : fM} : fBel M S S := fun _ x _ h => ⟨x, h, fLe.rf⟩
theorem fBel.tr {S T U : fM} (h1 : fBel M S T) (h2 : fBel M T U) : fBel M S U := fun p x hp hx => by
  obtain ⟨z, hz, l1⟩ := h1 p x hp hx
  obtain ⟨u, hu, l2⟩ := h2 p z hp hz
  exact ⟨u, hu, l1.tr l2⟩
theorem fBel.up {S : fM} {q : Nat} {z u : fS} (hz : S q = some z) (hl : fLe z u) : fBel M S (va_up S q (some u)) := fun p x hp hx => by
  by_cases e : p = q
  · subst e
    rw [hz] at hx; cases hx
    exact ⟨u, am_up_eq, hl⟩
  · exact ⟨x, by rw [am_up_ne e]; exact hx, fLe.rf⟩
theorem fBel.new {S : fM} {q : Nat} {u : fS} (hz : S q = none) : fBel M S (va_up S q (some u)) := fun p x hp hx => by
  by_cases e : p = q
  · subst e
    rw [hz] at hx; cases hx
  · exact ⟨x, by rw [am_up_ne e]; exact hx, fLe.rf⟩
theorem fCov.mono {S S' : fM} {q : Nat} {y : fS} (h : fCov M S q y) (hs : fBel M S S') : fCov M S' q y := by
  obtain ⟨h1, z, hz, hl⟩ := h
  obtain ⟨u, hu, l2⟩ := hs q z h1 hz
  exact ⟨h1, u, hu, hl.tr l2⟩
theorem fCov.low {S : fM} {q : Nat} {y u : fS} (h : fCov M S q y) (hl : fLe u y) : fCov M S q u := by
  obtain ⟨h1, z, hz, l⟩ := h
  exact ⟨h1, z, hz, hl.tr l⟩
theorem cMeetL_le {z y : fS} : fLe z (z.1, z.2.1, cMeetL z y) := ⟨rfl, fun _ _ => rfl, fun i _ => by
  show cMeetL z y i = z.2.2 i ∨ cMeetL z y i = none
  unfold cMeetL
  split
  · exact Or.inr rfl
  · exact Or.inl rfl⟩
theorem cSm_t {z y : fS} : ∀ {k : Nat}, cSm z y k = true → ∀ i, i < k → z.2.1 i = y.2.1 i := by
  intro k
  induction k with
  | zero => intro _ i hi; omega
  | succ k ih =>
    intro h i hi
    have h : (cSm z y k && decide (z.2.1 k = y.2.1 k)) = true := h
    rw [Bool.and_eq_true] at h
    by_cases e : i = k
    · rw [e]; exact of_decide_eq_true h.2
    · exact ih h.1 i (by omega)
theorem cSm_i {z y : fS} : ∀ {k : Nat}, (∀ i, i < k → z.2.1 i = y.2.1 i) → cSm z y k = true := by
  intro k
  induction k with
  | zero => intro _; rfl
  | succ k ih =>
    intro h
    show (cSm z y k && decide (z.2.1 k = y.2.1 k)) = true
    rw [ih (fun i hi => h i (by omega)), decide_eq_true (h k (by omega))]; rfl
theorem cDf_f {z y : fS} : ∀ {k : Nat}, cDf z y k = false → ∀ i, i < k → cMeetL z y i = z.2.2 i := by
  intro k
  induction k with
  | zero => intro _ i hi; omega
  | succ k ih =>
    intro h i hi
    have h : (cDf z y k || decide (z.2.2 k ≠ none ∧ z.2.2 k ≠ y.2.2 k)) = false := h
    rw [Bool.or_eq_false_iff] at h
    by_cases e : i = k
    · rw [e]; unfold cMeetL; rw [if_neg (of_decide_eq_false h.2)]
    · exact ih h.1 i (by omega)
theorem cMeet_y {z y : fS} (h1 : z.1 = y.1) (h2 : cSm z y y.1 = true) : fLe y (z.1, z.2.1, cMeetL z y) := ⟨h1, fun i hi => cSm_t h2 i hi, fun i _ => by
  show cMeetL z y i = y.2.2 i ∨ cMeetL z y i = none
  unfold cMeetL
  by_cases e : z.2.2 i ≠ none ∧ z.2.2 i ≠ y.2.2 i
  · rw [if_pos e]; exact Or.inr rfl
  · rw [if_neg e]
    by_cases e1 : z.2.2 i = none
    · exact Or.inr e1
    · exact Or.inl (Classical.byContradiction (fun e2 => e ⟨e1, e2⟩))⟩
theorem cMeet_T {z y v : fS} (h1 : fLe z v) (h2 : fLe y v) : z.1 = y.1 ∧ cSm z y y.1 = true ∧ fLe (z.1, z.2.1, cMeetL z y) v := by
  have e1 : z.1 = y.1 := h1.1.symm.trans h2.1
  refine ⟨e1, cSm_i (fun i hi => (h1.2.1 i (by omega)).symm.trans (h2.2.1 i hi)), h1.1, h1.2.1, fun i hi => ?_⟩
  show v.2.2 i = cMeetL z y i ∨ v.2.2 i = none
  unfold cMeetL
  by_cases e : z.2.2 i ≠ none ∧ z.2.2 i ≠ y.2.2 i
  · rw [if_pos e]
    refine Or.inr ?_
    rcases h1.2.2 i hi with a | a
    · rcases h2.2.2 i hi with b | b
      · exact absurd (a.symm.trans b) e.2
      · exact b
    · exact a
  · rw [if_neg e]; exact h1.2.2 i hi
theorem fEq.rf {x : fS} : fEq x x := ⟨rfl, fun _ _ => rfl, fun _ _ => rfl⟩
theorem fEq.tr {x y z : fS} (h1 : fEq x y) (h2 : fEq y z) : fEq x z := ⟨h1.1.trans h2.1, fun i hi => (h1.2.1 i hi).trans (h2.2.1 i (by rw [← h1.1]; exact hi)), fun i hi => (h1.2.2 i hi).trans (h2.2.2 i hi)⟩
theorem fEq.sy {x y : fS} (h : fEq x y) : fEq y x := ⟨h.1.symm, fun i hi => (h.2.1 i (by rw [h.1]; exact hi)).symm, fun i hi => (h.2.2 i hi).symm⟩
theorem fEq.le {x y : fS} (h : fEq x y) : fLe x y := ⟨h.1.symm, fun i hi => (h.2.1 i hi).symm, fun i hi => Or.inl (h.2.2 i hi).symm⟩
/-- t' comes of t by ways that are come: what doesn't wait is as it was -/
def cKp (M : mT) (t t' : cT) : Prop := fBel M t.1 t'.1 ∧ (t'.2.2 = false → t.2.2 = false) ∧ ∀ p, p < mN M → t'.2.1 p = false → ∀ z, t'.1 p = some z → t.2.1 p = false ∧ (∃ x, t.1 p = some x ∧ fEq x z) ∧ (mO M p = 24 → ∀ i, i < mN M → mO M i = 23 → t'.1 i ≠ none → t.1 i ≠ none)
theorem cKp.rf {t : cT} : cKp M t t := ⟨fBel.rf, id, fun _ _ h z hz => ⟨h, ⟨z, hz, fEq.rf⟩, fun _ _ _ _ h => h⟩⟩
theorem cKp.tr {t u v : cT} (h1 : cKp M t u) (h2 : cKp M u v) : cKp M t v := by
  refine ⟨h1.1.tr h2.1, fun h => h1.2.1 (h2.2.1 h), fun p hp hw z hz => ?_⟩
  obtain ⟨a1, ⟨x, a2, a3⟩, a4⟩ := h2.2.2 p hp hw z hz
  obtain ⟨b1, ⟨y, b2, b3⟩, b4⟩ := h1.2.2 p hp a1 x a2
  exact ⟨b1, ⟨y, b2, b3.tr a3⟩, fun e i hi e2 h => b4 e i hi e2 (a4 e i hi e2 h)⟩
theorem cKp.flag {t : cT} {c : Bool} (h : c = false → t.2.2 = false) : cKp M t (t.1, t.2.1, c) := ⟨fBel.rf, h, fun _ _ h z hz => ⟨h, ⟨z, hz, fEq.rf⟩, fun _ _ _ _ h => h⟩⟩
theorem cCome_kp {t : cT} {q : Nat} {y : fS} : cKp M t (cCome M t q y) := by
  by_cases h : q < mN M
  · cases hz : t.1 q with
    | none =>
      rw [cCome_new h hz]
      refine ⟨fBel.new hz, id, fun p hp hw z hzp => ?_⟩
      have hw1 : (if mO M q = 23 then cBk M (va_up t.1 q (some y)) (va_up t.2.1 q true) else va_up t.2.1 q true) p = false := hw
      have hzp : va_up t.1 q (some y) p = some z := hzp
      by_cases e : p = q
      · exfalso
        rw [e] at hw1
        split at hw1
        · unfold cBk at hw1; rw [am_up_eq] at hw1; cases hw1
        · rw [am_up_eq] at hw1; cases hw1
      · have hzp' := hzp
        rw [am_up_ne e] at hzp'
        by_cases e2 : mO M q = 23
        · rw [if_pos e2] at hw1
          unfold cBk at hw1
          rw [Bool.or_eq_false_iff, am_up_ne e, hzp] at hw1
          refine ⟨hw1.1, ⟨z, hzp', fEq.rf⟩, fun e3 => ?_⟩
          rw [e3] at hw1
          exact absurd hw1.2 (by simp)
        · rw [if_neg e2, am_up_ne e] at hw1
          refine ⟨hw1, ⟨z, hzp', fEq.rf⟩, fun e3 i hi e4 hi2 => ?_⟩
          have hi2 : va_up t.1 q (some y) i ≠ none := hi2
          rw [am_up_ne (fun e5 => e2 (by rw [← e5]; exact e4))] at hi2
          exact hi2
    | some z0 =>
      rw [cCome_met h hz]
      refine ⟨fBel.up hz cMeetL_le, fun hh => ?_, fun p hp hw z hzp => ?_⟩
      · have hh : (t.2.2 || _) = false := hh
        rw [Bool.or_eq_false_iff] at hh
        exact hh.1
      · have hw : (t.2.1 p || (decide (p = q) && cDf z0 y 8)) = false := hw
        rw [Bool.or_eq_false_iff] at hw
        have hzp : va_up t.1 q (some (z0.1, z0.2.1, cMeetL z0 y)) p = some z := hzp
        refine ⟨hw.1, ?_, fun e3 i hi e4 hi2 => ?_⟩
        · by_cases e : p = q
          · subst e
            rw [am_up_eq] at hzp
            cases hzp
            have hd : cDf z0 y 8 = false := by
              have := hw.2
              rw [decide_eq_true rfl, Bool.true_and] at this
              exact this
            exact ⟨z0, hz, rfl, fun _ _ => rfl, fun i hi => (cDf_f hd i hi).symm⟩
          · rw [am_up_ne e] at hzp
            exact ⟨z, hzp, fEq.rf⟩
        · have hi2 : va_up t.1 q (some (z0.1, z0.2.1, cMeetL z0 y)) i ≠ none := hi2
          by_cases e : i = q
          · rw [e, hz]; exact fun e => by cases e
          · rw [am_up_ne e] at hi2; exact hi2
  · rw [cCome_out h]
    exact cKp.flag (fun e => by cases e)
theorem cCome_cov {t : cT} {q : Nat} {y : fS} (hf : (cCome M t q y).2.2 = false) : fCov M (cCome M t q y).1 q y := by
  by_cases h : q < mN M
  · cases hz : t.1 q with
    | none => rw [cCome_new h hz]; exact ⟨h, y, am_up_eq, fLe.rf⟩
    | some z =>
      rw [cCome_met h hz] at hf ⊢
      have hf : (t.2.2 || !(decide (z.1 = y.1) && cSm z y y.1)) = false := hf
      rw [Bool.or_eq_false_iff] at hf
      have hf2 := hf.2
      rw [Bool.not_eq_false', Bool.and_eq_true] at hf2
      exact ⟨h, _, am_up_eq, cMeet_y (of_decide_eq_true hf2.1) hf2.2⟩
  · rw [cCome_out h] at hf; cases hf
theorem cCome_T {t : cT} {q : Nat} {y : fS} {T : fM} (hT : fCov M T q y) (hf : t.2.2 = false) (hb : fBel M t.1 T) : (cCome M t q y).2.2 = false ∧ fBel M (cCome M t q y).1 T := by
  obtain ⟨h, v, hv, hl⟩ := hT
  cases hz : t.1 q with
  | none =>
    rw [cCome_new h hz]
    refine ⟨hf, fun p x hp hx => ?_⟩
    have hx : va_up t.1 q (some y) p = some x := hx
    by_cases e : p = q
    · subst e
      rw [am_up_eq] at hx; cases hx
      exact ⟨v, hv, hl⟩
    · rw [am_up_ne e] at hx; exact hb p x hp hx
  | some z =>
    rw [cCome_met h hz]
    obtain ⟨v2, hv2, hl2⟩ := hb q z h hz
    rw [hv] at hv2; cases hv2
    obtain ⟨c1, c2, c3⟩ := cMeet_T hl2 hl
    refine ⟨?_, fun p x hp hx => ?_⟩
    · show (t.2.2 || !(decide (z.1 = y.1) && cSm z y y.1)) = false
      rw [hf, c2, decide_eq_true c1]; rfl
    · have hx : va_up t.1 q (some (z.1, z.2.1, cMeetL z y)) p = some x := hx
      by_cases e : p = q
      · subst e
        rw [am_up_eq] at hx; cases hx
        exact ⟨v, hv, c3⟩
      · rw [am_up_ne e] at hx; exact hb p x hp hx
/-- the rows over place p -/
def cRow (M : mT) (p : Nat) (x : fS) (t : cT) : Nat → cT
  | 0 => t
  | k + 1 => if mF M k ≤ p ∧ p < mE M k then cCome M (cRow M p x t k) (mP M k) (1, fun _ => 1, x.2.2) else cRow M p x t k
theorem cRow_kp {p : Nat} {x : fS} {t : cT} : ∀ n, cKp M t (cRow M p x t n)
  | 0 => cKp.rf
  | n + 1 => by
    show cKp M t (if _ then _ else _)
    split
    · exact (cRow_kp n).tr cCome_kp
    · exact cRow_kp n
theorem cRow_cov {p : Nat} {x : fS} {t : cT} : ∀ n, (cRow M p x t n).2.2 = false → ∀ r, r < n → fHit M p r → fCov M (cRow M p x t n).1 (mP M r) (1, fun _ => 1, x.2.2)
  | 0 => fun _ r hr => by omega
  | n + 1 => fun hf r hr hh => by
    by_cases e : mF M n ≤ p ∧ p < mE M n
    · have e1 : cRow M p x t (n + 1) = cCome M (cRow M p x t n) (mP M n) (1, fun _ => 1, x.2.2) := if_pos e
      rw [e1] at hf ⊢
      by_cases e2 : r = n
      · rw [e2]; exact cCome_cov hf
      · exact (cRow_cov n (cCome_kp.2.1 hf) r (by omega) hh).mono cCome_kp.1
    · have e1 : cRow M p x t (n + 1) = cRow M p x t n := if_neg e
      rw [e1] at hf ⊢
      exact cRow_cov n hf r (by have : r ≠ n := fun q => e (q ▸ hh); omega) hh
theorem cRow_T {p : Nat} {x : fS} {t : cT} {T : fM} (hf : t.2.2 = false) (hb : fBel M t.1 T) : ∀ n, (∀ r, r < n → fHit M p r → fCov M T (mP M r) (1, fun _ => 1, x.2.2)) → (cRow M p x t n).2.2 = false ∧ fBel M (cRow M p x t n).1 T
  | 0 => fun _ => ⟨hf, hb⟩
  | n + 1 => fun h => by
    obtain ⟨i1, i2⟩ := cRow_T (p := p) (x := x) hf hb n (fun r hr => h r (by omega))
    by_cases e : mF M n ≤ p ∧ p < mE M n
    · have e1 : cRow M p x t (n + 1) = cCome M (cRow M p x t n) (mP M n) (1, fun _ => 1, x.2.2) := if_pos e
      rw [e1]
      exact cCome_T (h n (by omega) e) i1 i2
    · have e1 : cRow M p x t (n + 1) = cRow M p x t n := if_neg e
      rw [e1]
      exact ⟨i1, i2⟩
/-- BACK of kind k -/
def cBackL (M : mT) (y : fS) (k : Nat) (t : cT) : Nat → cT
  | 0 => t
  | n + 1 => if ((cBackL M y k t n).1 n ≠ none ∧ mO M n = 23) ∧ bN M n = k then cCome M (cBackL M y k t n) (n + 1) y else cBackL M y k t n
theorem cBackL_s {y : fS} {k : Nat} {t : cT} (n : Nat) : cKp M (cBackL M y k t n) (cBackL M y k t (n + 1)) := by
  show cKp M _ (if _ then _ else _)
  split
  · exact cCome_kp
  · exact cKp.rf
theorem cBackL_kp {y : fS} {k : Nat} {t : cT} : ∀ {n i : Nat}, i ≤ n → cKp M (cBackL M y k t i) (cBackL M y k t n) := by
  intro n
  induction n with
  | zero => intro i hi; rw [show i = 0 by omega]; exact cKp.rf
  | succ n ih =>
    intro i hi
    by_cases e : i = n + 1
    · rw [e]; exact cKp.rf
    · exact (ih (by omega)).tr (cBackL_s n)
theorem cBackL_cov {y : fS} {k : Nat} {t : cT} {n i : Nat} (hi : i < n) (hf : (cBackL M y k t n).2.2 = false) (h1 : (cBackL M y k t i).1 i ≠ none) (h2 : mO M i = 23) (h3 : bN M i = k) : fCov M (cBackL M y k t n).1 (i + 1) y := by
  have k1 : cKp M (cBackL M y k t (i + 1)) (cBackL M y k t n) := cBackL_kp hi
  have e1 : cBackL M y k t (i + 1) = cCome M (cBackL M y k t i) (i + 1) y := if_pos ⟨⟨h1, h2⟩, h3⟩
  rw [e1] at k1
  exact (cCome_cov (k1.2.1 hf)).mono k1.1
theorem cBackL_T {y : fS} {k : Nat} {t : cT} {T : fM} (hf : t.2.2 = false) (hb : fBel M t.1 T) : ∀ n, n ≤ mN M → (∀ i, i < n → T i ≠ none → mO M i = 23 → bN M i = k → fCov M T (i + 1) y) → (cBackL M y k t n).2.2 = false ∧ fBel M (cBackL M y k t n).1 T
  | 0 => fun _ _ => ⟨hf, hb⟩
  | n + 1 => fun hn h => by
    obtain ⟨i1, i2⟩ := cBackL_T (y := y) (k := k) hf hb n (by omega) (fun r hr => h r (by omega))
    by_cases e : ((cBackL M y k t n).1 n ≠ none ∧ mO M n = 23) ∧ bN M n = k
    · have e1 : cBackL M y k t (n + 1) = cCome M (cBackL M y k t n) (n + 1) y := if_pos e
      rw [e1]
      refine cCome_T (h n (by omega) ?_ e.1.2 e.2) i1 i2
      cases hx : (cBackL M y k t n).1 n with
      | none => exact absurd hx e.1.1
      | some x =>
        obtain ⟨z, hz, -⟩ := i2 n x (by omega) hx
        rw [hz]; exact fun q => by cases q
    · have e1 : cBackL M y k t (n + 1) = cBackL M y k t n := if_neg e
      rw [e1]
      exact ⟨i1, i2⟩
/-- the kind of return that local a holds -/
def fRk (y : fS) (a : Nat) : Nat := match y.2.2 a with
  | some k => k - 10
  | none => 0
def cL1 (M : mT) (p : Nat) (y : fS) (t : cT) : cT := if mO M p = 11 ∨ mO M p = 12 ∨ mO M p = 17 ∨ mO M p = 23 then cCome M t (bN M p) y else t
def cL2 (M : mT) (p : Nat) (y : fS) (t : cT) : cT := if mO M p = 24 then cBackL M y (fRk y (aN M p)) t (mN M) else t
def cL3 (M : mT) (p : Nat) (y : fS) (t : cT) : cT := if mO M p ≠ 11 ∧ mO M p ≠ 23 ∧ mO M p ≠ 24 ∧ mO M p ≠ 20 ∧ mO M p ≠ 22 then cCome M t (p + 1) y else t
def cLead (M : mT) (p : Nat) (y : fS) (t : cT) : cT := cL3 M p y (cL2 M p y (cL1 M p y t))
theorem cL1_kp {p : Nat} {y : fS} {t : cT} : cKp M t (cL1 M p y t) := by unfold cL1; split; exact cCome_kp; exact cKp.rf
theorem cL2_kp {p : Nat} {y : fS} {t : cT} : cKp M t (cL2 M p y t) := by unfold cL2; split; exact cBackL_kp (i := 0) (Nat.zero_le _); exact cKp.rf
theorem cL3_kp {p : Nat} {y : fS} {t : cT} : cKp M t (cL3 M p y t) := by unfold cL3; split; exact cCome_kp; exact cKp.rf
theorem cLead_kp {p : Nat} {y : fS} {t : cT} : cKp M t (cLead M p y t) := (cL1_kp.tr cL2_kp).tr cL3_kp
/-- place p, whose state was x, is followed -/
def cGo (g : Nat → Nat) (M : mT) (p : Nat) (x : fS) (t : cT) : cT := match fEff g (mO M p) (aN M p) (bN M p) x with
  | none => ((cRow M p x t (mR M)).1, (cRow M p x t (mR M)).2.1, true)
  | some y => if (cRow M p x t (mR M)).2.2 = true then cRow M p x t (mR M) else cLead M p y (cRow M p x t (mR M))
theorem cGo_kp {p : Nat} {x : fS} {t : cT} : cKp M t (cGo g M p x t) := by
  unfold cGo
  split
  · exact (cRow_kp _).tr (cKp.flag (fun e => by cases e))
  · split
    · exact cRow_kp _
    · exact (cRow_kp _).tr cLead_kp
theorem cGo_out {p : Nat} {x z : fS} {t : cT} (hp : p < mN M) (hf : (cGo g M p x t).2.2 = false) (hw : (cGo g M p x t).2.1 p = false) (hz : (cGo g M p x t).1 p = some z) : fOut g M (cGo g M p x t).1 p x := by
  cases he : fEff g (mO M p) (aN M p) (bN M p) x with
  | none =>
    have e1 : cGo g M p x t = ((cRow M p x t (mR M)).1, (cRow M p x t (mR M)).2.1, true) := by unfold cGo; rw [he]
    rw [e1] at hf; cases hf
  | some y =>
    by_cases hr : (cRow M p x t (mR M)).2.2 = true
    · have e1 : cGo g M p x t = cRow M p x t (mR M) := by unfold cGo; rw [he]; exact if_pos hr
      rw [e1, hr] at hf; cases hf
    · have e1 : cGo g M p x t = cLead M p y (cRow M p x t (mR M)) := by unfold cGo; rw [he]; exact if_neg hr
      have hr : (cRow M p x t (mR M)).2.2 = false := by cases h : (cRow M p x t (mR M)).2.2 with | false => rfl | true => exact absurd h hr
      rw [e1] at hf hw hz ⊢
      refine ⟨⟨y, he, fun q hq => ?_, fun h24 i hi hn h23 hk => ?_⟩, fun r hr2 hh => (cRow_cov _ hr r hr2 hh).mono cLead_kp.1⟩
      · rcases hq with ⟨a, rfl⟩ | ⟨a, rfl⟩
        · have k23 : cKp M (cL1 M p y (cRow M p x t (mR M))) (cLead M p y (cRow M p x t (mR M))) := cL2_kp.tr cL3_kp
          have e2 : cL1 M p y (cRow M p x t (mR M)) = cCome M (cRow M p x t (mR M)) (bN M p) y := if_pos a
          rw [e2] at k23
          exact (cCome_cov (k23.2.1 hf)).mono k23.1
        · have e2 : cLead M p y (cRow M p x t (mR M)) = cCome M (cL2 M p y (cL1 M p y (cRow M p x t (mR M)))) (p + 1) y := if_pos a
          rw [e2] at hf ⊢
          exact cCome_cov hf
      · have e2 : cLead M p y (cRow M p x t (mR M)) = cL2 M p y (cL1 M p y (cRow M p x t (mR M))) := if_neg (fun q => q.2.2.1 h24)
        have e3 : cL2 M p y (cL1 M p y (cRow M p x t (mR M))) = cBackL M y (fRk y (aN M p)) (cL1 M p y (cRow M p x t (mR M))) (mN M) := if_pos h24
        rw [e2, e3] at hf hw hz hn ⊢
        have hyx : y = x := by
          rw [h24] at he
          simp only [fEff] at he
          rw [hk] at he
          simp only at he
          split at he
          · cases he
          · cases he; rfl
        have hki : bN M i = fRk y (aN M p) := by
          rw [hyx]; unfold fRk; rw [hk]; simp
        have k1 : cKp M (cBackL M y (fRk y (aN M p)) (cL1 M p y (cRow M p x t (mR M))) i) (cBackL M y (fRk y (aN M p)) (cL1 M p y (cRow M p x t (mR M))) (mN M)) := cBackL_kp (by omega)
        exact cBackL_cov hi hf ((k1.2.2 p hp hw z hz).2.2 h24 i hi h23 hn) h23 hki
theorem cGo_T {p : Nat} {x : fS} {t : cT} {T : fM} (hv : mV M) (hT : fSol g M T) (hp : p < mN M) (hf : t.2.2 = false) (hb : fBel M t.1 T) (hx : t.1 p = some x) : (cGo g M p x t).2.2 = false ∧ fBel M (cGo g M p x t).1 T := by
  obtain ⟨v, hv2, hl⟩ := hb p x hp hx
  obtain ⟨⟨y', he', hn, hbk⟩, hr⟩ := hT.2 p v hp hv2
  obtain ⟨y, he, hly⟩ := hv.eff_le hp hl he'
  have hr2 : ∀ r, r < mR M → fHit M p r → fCov M T (mP M r) (1, fun _ => 1, x.2.2) := fun r hr3 hh => (hr r hr3 hh).low ⟨rfl, fun _ _ => rfl, hl.2.2⟩
  obtain ⟨r1, r2⟩ := cRow_T (p := p) (x := x) hf hb (mR M) hr2
  have e1 : cGo g M p x t = cLead M p y (cRow M p x t (mR M)) := by unfold cGo; rw [he]; exact if_neg (by rw [r1]; decide)
  rw [e1]
  have s1 : (cL1 M p y (cRow M p x t (mR M))).2.2 = false ∧ fBel M (cL1 M p y (cRow M p x t (mR M))).1 T := by
    unfold cL1
    split
    · rename_i h; exact cCome_T ((hn _ (Or.inl ⟨h, rfl⟩)).low hly) r1 r2
    · exact ⟨r1, r2⟩
  have s2 : (cL2 M p y (cL1 M p y (cRow M p x t (mR M)))).2.2 = false ∧ fBel M (cL2 M p y (cL1 M p y (cRow M p x t (mR M)))).1 T := by
    unfold cL2
    split
    · rename_i h24
      refine cBackL_T s1.1 s1.2 _ (Nat.le_refl _) (fun i hi hn2 h23 hk => (hbk h24 i hi hn2 h23 ?_).low hly)
      have hl8 := (hv.loc hp (Or.inr (Or.inr (Or.inl h24)))).2
      rw [h24] at he he'
      simp only [fEff] at he he'
      rcases hl.2.2 (aN M p) hl8 with q | q
      · cases hxa : x.2.2 (aN M p) with
        | none => rw [hxa] at he; cases he
        | some kk =>
          rw [hxa] at he
          simp only at he
          by_cases h10 : kk < 10
          · rw [if_pos h10] at he; cases he
          · rw [if_neg h10] at he
            cases he
            unfold fRk at hk
            rw [hxa] at hk
            rw [q, hxa, hk]
            show some kk = some (10 + (kk - 10))
            rw [show 10 + (kk - 10) = kk by omega]
      · rw [q] at he'; cases he'
    · exact s1
  unfold cLead cL3
  split
  · rename_i h; exact cCome_T ((hn _ (Or.inr ⟨h, rfl⟩)).low hly) s2.1 s2.2
  · exact s2
/-- what holds between two places that are followed -/
def cInv (g : Nat → Nat) (M : mT) (t : cT) : Prop := (t.2.2 = false → fCov M t.1 0 (fIn M) ∧ ∀ p x, p < mN M → t.2.1 p = false → t.1 p = some x → fOut g M t.1 p x) ∧ ∀ T, fSol g M T → t.2.2 = false ∧ fBel M t.1 T
theorem fOut.mv {S S' : fM} {p : Nat} {x z : fS} (hv : mV M) (hp : p < mN M) (h : fOut g M S p x) (hs : fBel M S S') (he : fEq x z) (hg : mO M p = 24 → ∀ i, i < mN M → mO M i = 23 → S' i ≠ none → S i ≠ none) : fOut g M S' p z := by
  obtain ⟨⟨y, h1, h2, h3⟩, h4⟩ := h
  obtain ⟨u, hu, hl⟩ := hv.eff_le hp he.sy.le h1
  refine ⟨⟨u, hu, fun q hq => ((h2 q hq).low hl).mono hs, fun h24 i hi hn h23 hk => ?_⟩, fun r hr hh => ((h4 r hr hh).low (u := (1, fun _ => 1, z.2.2)) ⟨rfl, fun _ _ => rfl, he.sy.le.2.2⟩).mono hs⟩
  have h8 := (hv.loc hp (Or.inr (Or.inr (Or.inl h24)))).2
  exact ((h3 h24 i hi (hg h24 i hi h23 hn) h23 ((he.2.2 _ h8).trans hk)).low hl).mono hs
theorem cInv.go {p : Nat} {x : fS} {t : cT} (hv : mV M) (h : cInv g M t) (hp : p < mN M) (hx : t.1 p = some x) : cInv g M (cGo g M p x (t.1, va_up t.2.1 p false, t.2.2)) := by
  have hk : cKp M (t.1, va_up t.2.1 p false, t.2.2) (cGo g M p x (t.1, va_up t.2.1 p false, t.2.2)) := cGo_kp
  refine ⟨fun hf => ?_, fun T hT => ?_⟩
  · obtain ⟨i1, i2⟩ := h.1 (hk.2.1 hf)
    refine ⟨i1.mono hk.1, fun q z hq hw hz => ?_⟩
    obtain ⟨k1, ⟨u, k2, k3⟩, k4⟩ := hk.2.2 q hq hw z hz
    by_cases e : q = p
    · subst e
      have k2 : t.1 q = some u := k2
      rw [hx] at k2; cases k2
      exact (cGo_out hq hf hw hz).mv hv hq fBel.rf k3 (fun _ _ _ _ h => h)
    · have k1 : va_up t.2.1 p false q = false := k1
      rw [am_up_ne e] at k1
      exact (i2 q u hq k1 k2).mv hv hq hk.1 k3 k4
  · obtain ⟨j1, j2⟩ := h.2 T hT
    exact cGo_T hv hT hp j1 j2 hx
def cBeg (M : mT) : cT := cCome M (fun _ => none, fun _ => false, false) 0 (fIn M)
theorem cInv.beg : cInv g M (cBeg M) := by
  have hk : cKp M (fun _ => none, fun _ => false, false) (cBeg M) := cCome_kp
  refine ⟨fun hf => ⟨cCome_cov hf, fun p x hp hw hx => ?_⟩, fun T hT => cCome_T hT.1 rfl (fun p x _ hx => by cases hx)⟩
  obtain ⟨-, ⟨u, k2, -⟩, -⟩ := hk.2.2 p hp hw x hx
  cases k2
/-- how much is left -/
def nLk (f : Nat → Option Nat) : Nat → Nat
  | 0 => 0
  | k + 1 => nLk f k + if (f k).isSome = true then 1 else 0
theorem nLk_le {f : Nat → Option Nat} : ∀ k, nLk f k ≤ k
  | 0 => Nat.le_refl 0
  | k + 1 => by
    have := nLk_le (f := f) k
    show nLk f k + (if (f k).isSome = true then 1 else 0) ≤ k + 1
    split <;> omega
theorem nLk_meet {z y : fS} : ∀ k, nLk (cMeetL z y) k + (if cDf z y k = true then 1 else 0) ≤ nLk z.2.2 k
  | 0 => Nat.le_refl 0
  | k + 1 => by
    have ih := nLk_meet (z := z) (y := y) k
    show nLk (cMeetL z y) k + (if (cMeetL z y k).isSome = true then 1 else 0) + (if cDf z y (k + 1) = true then 1 else 0) ≤ nLk z.2.2 k + (if (z.2.2 k).isSome = true then 1 else 0)
    by_cases e : z.2.2 k ≠ none ∧ z.2.2 k ≠ y.2.2 k
    · have e1 : cMeetL z y k = none := if_pos e
      have e2 : (z.2.2 k).isSome = true := by cases h : z.2.2 k with | none => exact absurd h e.1 | some _ => rfl
      rw [e1, if_pos e2, cDf_drop e, if_neg (by decide), if_pos rfl]
      split at ih <;> omega
    · have e1 : cMeetL z y k = z.2.2 k := if_neg e
      rw [e1, cDf_keep e]
      omega
def cb1 (b : Bool) : Nat := if b = true then 1 else 0
theorem cb1_le {b : Bool} : cb1 b ≤ 1 := by cases b <;> decide
def cSw (s : Option fS) : Nat := match s with
  | none => 100
  | some x => nLk x.2.2 8
def cMw (t : cT) (p : Nat) : Nat := cb1 (t.2.1 p) + cSw (t.1 p)
def cMu (t : cT) : Nat → Nat
  | 0 => 0
  | n + 1 => cMu t n + cMw t n
theorem cMw_le {t : cT} {p : Nat} : cMw t p ≤ 101 := by
  unfold cMw
  have h1 := cb1_le (b := t.2.1 p)
  cases t.1 p with
  | none => show _ + 100 ≤ 101; omega
  | some x => have := nLk_le (f := x.2.2) 8; show _ + nLk x.2.2 8 ≤ 101; omega
theorem cMu_le {t : cT} : ∀ n, cMu t n ≤ 101 * n
  | 0 => Nat.le_refl 0
  | n + 1 => by
    have := cMu_le (t := t) n
    have := cMw_le (t := t) (p := n)
    show cMu t n + cMw t n ≤ 101 * (n + 1)
    omega
theorem cMu_mono {t t' : cT} : ∀ n, (∀ p, p < n → cMw t' p ≤ cMw t p) → cMu t' n ≤ cMu t n
  | 0 => fun _ => Nat.le_refl 0
  | n + 1 => fun h => by
    have := cMu_mono n (fun p hp => h p (by omega))
    have := h n (by omega)
    show cMu t' n + cMw t' n ≤ cMu t n + cMw t n
    omega
theorem cMu_one {t t' : cT} {q a : Nat} (hq : cMw t' q + a ≤ cMw t q) : ∀ n, (∀ p, p < n → p ≠ q → cMw t' p ≤ cMw t p + 1) → cMu t' n + (if q < n then a else 0) ≤ cMu t n + n
  | 0 => fun _ => by rw [if_neg (show ¬ q < 0 by omega)]; exact Nat.le_refl 0
  | n + 1 => fun h => by
    have ih := cMu_one hq n (fun p hp => h p (by omega))
    show cMu t' n + cMw t' n + _ ≤ cMu t n + cMw t n + (n + 1)
    by_cases e : n = q
    · rw [e] at ih ⊢
      rw [if_neg (Nat.lt_irrefl q)] at ih
      rw [if_pos (Nat.lt_succ_self q)]
      omega
    · have := h n (by omega) e
      by_cases e2 : q < n
      · rw [if_pos e2] at ih; rw [if_pos (show q < n + 1 by omega)]; omega
      · rw [if_neg e2] at ih; rw [if_neg (show ¬ q < n + 1 by omega)]; omega
theorem cMu_flag {u : cT} {c : Bool} : ∀ n, cMu (u.1, u.2.1, c) n = cMu u n
  | 0 => rfl
  | n + 1 => by show cMu _ n + cMw _ n = cMu u n + cMw u n; rw [cMu_flag n]; rfl
theorem cCome_mu {t : cT} {q : Nat} {y : fS} (hn : mN M ≤ 60) : cMu (cCome M t q y) (mN M) ≤ cMu t (mN M) := by
  by_cases h : q < mN M
  · cases hz : t.1 q with
    | none =>
      have h1 : cMw (cCome M t q y) q + 91 ≤ cMw t q := by
        rw [cCome_new h hz]
        unfold cMw
        show cb1 _ + cSw (va_up t.1 q (some y) q) + 91 ≤ _ + cSw (t.1 q)
        rw [am_up_eq, hz]
        have := nLk_le (f := y.2.2) 8
        have h2 : ∀ b, cb1 b ≤ 1 := fun b => cb1_le
        have h3 := h2 ((if mO M q = 23 then cBk M (va_up t.1 q (some y)) (va_up t.2.1 q true) else va_up t.2.1 q true) q)
        show cb1 ((if mO M q = 23 then cBk M (va_up t.1 q (some y)) (va_up t.2.1 q true) else va_up t.2.1 q true) q) + nLk y.2.2 8 + 91 ≤ _ + 100
        omega
      have h2 := cMu_one h1 (mN M) (fun p hp e => by
        rw [cCome_new h hz]
        unfold cMw
        show cb1 ((if mO M q = 23 then cBk M (va_up t.1 q (some y)) (va_up t.2.1 q true) else va_up t.2.1 q true) p) + cSw (va_up t.1 q (some y) p) ≤ _
        rw [am_up_ne e]
        have h2 : ∀ b, cb1 b ≤ 1 := fun b => cb1_le
        have h3 := h2 ((if mO M q = 23 then cBk M (va_up t.1 q (some y)) (va_up t.2.1 q true) else va_up t.2.1 q true) p)
        omega)
      rw [if_pos h] at h2
      omega
    | some z =>
      rw [cCome_met h hz]
      refine cMu_mono _ (fun p hp => ?_)
      unfold cMw
      show cb1 (t.2.1 p || (decide (p = q) && cDf z y 8)) + cSw (va_up t.1 q (some (z.1, z.2.1, cMeetL z y)) p) ≤ _
      by_cases e : p = q
      · subst e
        rw [am_up_eq, hz, decide_eq_true rfl, Bool.true_and]
        have := nLk_meet (z := z) (y := y) 8
        show _ + nLk (cMeetL z y) 8 ≤ _ + nLk z.2.2 8
        cases t.2.1 p
        · rw [Bool.false_or]
          have e1 : cb1 (cDf z y 8) = if cDf z y 8 = true then 1 else 0 := rfl
          omega
        · rw [Bool.true_or]; omega
      · rw [am_up_ne e, decide_eq_false e, Bool.false_and, Bool.or_false]
        exact Nat.le_refl _
  · rw [cCome_out h, cMu_flag]; exact Nat.le_refl _
theorem cRow_mu {p : Nat} {x : fS} {t : cT} (hn : mN M ≤ 60) : ∀ n, cMu (cRow M p x t n) (mN M) ≤ cMu t (mN M)
  | 0 => Nat.le_refl _
  | n + 1 => by
    show cMu (if _ then _ else _) _ ≤ _
    split
    · exact Nat.le_trans (cCome_mu hn) (cRow_mu hn n)
    · exact cRow_mu hn n
theorem cBackL_mu {y : fS} {k : Nat} {t : cT} (hn : mN M ≤ 60) : ∀ n, cMu (cBackL M y k t n) (mN M) ≤ cMu t (mN M)
  | 0 => Nat.le_refl _
  | n + 1 => by
    show cMu (if _ then _ else _) _ ≤ _
    split
    · exact Nat.le_trans (cCome_mu hn) (cBackL_mu hn n)
    · exact cBackL_mu hn n
theorem cLead_mu {p : Nat} {y : fS} {u : cT} (hn : mN M ≤ 60) : cMu (cLead M p y u) (mN M) ≤ cMu u (mN M) := by
  have a1 : cMu (cL1 M p y u) (mN M) ≤ cMu u (mN M) := by unfold cL1; split; exact cCome_mu hn; exact Nat.le_refl _
  have a2 : cMu (cL2 M p y (cL1 M p y u)) (mN M) ≤ cMu (cL1 M p y u) (mN M) := by unfold cL2; split; exact cBackL_mu hn _; exact Nat.le_refl _
  have a3 : cMu (cLead M p y u) (mN M) ≤ cMu (cL2 M p y (cL1 M p y u)) (mN M) := by unfold cLead cL3; split; exact cCome_mu hn; exact Nat.le_refl _
  omega
theorem cGo_mu {p : Nat} {x : fS} {t : cT} (hn : mN M ≤ 60) : cMu (cGo g M p x t) (mN M) ≤ cMu t (mN M) := by
  have e2 := cRow_mu (p := p) (x := x) (t := t) hn (mR M)
  unfold cGo
  split
  · rw [cMu_flag]; exact e2
  · split
    · exact e2
    · exact Nat.le_trans (cLead_mu hn) e2
theorem cMu_dec {t : cT} {p : Nat} (hw : t.2.1 p = true) : ∀ n, cMu (t.1, va_up t.2.1 p false, t.2.2) n + (if p < n then 1 else 0) = cMu t n
  | 0 => by rw [if_neg (show ¬ p < 0 by omega)]; rfl
  | n + 1 => by
    have ih := cMu_dec hw n
    have e0 : cMu (t.1, va_up t.2.1 p false, t.2.2) (n + 1) = cMu (t.1, va_up t.2.1 p false, t.2.2) n + (cb1 (va_up t.2.1 p false n) + cSw (t.1 n)) := rfl
    have e1 : cMu t (n + 1) = cMu t n + (cb1 (t.2.1 n) + cSw (t.1 n)) := rfl
    by_cases e : n = p
    · rw [e] at ih e0 e1 ⊢
      rw [am_up_eq] at e0
      rw [hw] at e1
      rw [if_neg (Nat.lt_irrefl p)] at ih
      rw [if_pos (Nat.lt_succ_self p)]
      have : cb1 true = 1 := rfl
      have : cb1 false = 0 := rfl
      omega
    · rw [am_up_ne e] at e0
      by_cases e2 : p < n
      · rw [if_pos e2] at ih; rw [if_pos (show p < n + 1 by omega)]; omega
      · rw [if_neg e2] at ih; rw [if_neg (show ¬ p < n + 1 by omega)]; omega
theorem cMu_0 {t : cT} : ∀ n, cMu t n = 0 → ∀ p, p < n → t.2.1 p = false
  | 0 => fun _ p h => by omega
  | n + 1 => fun h p hp => by
    have h : cMu t n + (cb1 (t.2.1 n) + cSw (t.1 n)) = 0 := h
    by_cases e : p = n
    · rw [e]
      cases hw : t.2.1 n with
      | false => rfl
      | true =>
        rw [hw] at h
        have : cb1 true = 1 := rfl
        omega
    · exact cMu_0 n (by omega) p (by omega)
theorem cInv.least {t : cT} (h : cInv g M t) (hf : t.2.2 = false) (hw : ∀ p, p < mN M → t.2.1 p = false) : fLeast g M t.1 := by
  obtain ⟨h1, h2⟩ := h.1 hf
  exact ⟨⟨h1, fun p x hp hx => h2 p x hp (hw p hp) hx⟩, fun T hT => (h.2 T hT).2⟩
theorem cInv.none {t : cT} (h : cInv g M t) (hf : t.2.2 = true) (T : fM) : ¬ fSol g M T := fun hT => by
  have := (h.2 T hT).1
  rw [hf] at this; cases this
end Cv
