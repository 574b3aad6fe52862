/-! THE CHECKER, as mathematics: a place's state is (depth, kinds of the stack from below, kinds of the locals); a solution holds at every place that is come to; the least one is what both sides reckon. -/
abbrev fS : Type := Nat × (Nat → Nat) × (Nat → Option Nat)
def fTake (k : Nat) (x : fS) : Option fS := if x.1 = 0 then none else if x.2.1 (x.1 - 1) = k then some (x.1 - 1, x.2) else none
def fAny (x : fS) : Option (Nat × fS) := if x.1 = 0 then none else some (x.2.1 (x.1 - 1), (x.1 - 1, x.2))
def fGive (k : Nat) (x : fS) : Option fS := if x.1 < 8 then some (x.1 + 1, va_up x.2.1 x.1 k, x.2.2) else none
def fTakes (n : Nat) (x : fS) : Option fS := match n with
  | 0 => some x
  | n + 1 => (fTake 0 x).bind (fTakes n)
/-- what an instruction p a b does; g: how many arguments each method takes -/
def fEff (g : Nat → Nat) (p a b : Nat) (x : fS) : Option fS := match p with
  | 0 => some x
  | 1 => fGive 0 x
  | 2 => match x.2.2 a with
    | some k => if k < 10 then fGive k x else none
    | none => none
  | 3 => (fAny x).map fun q => (q.2.1, q.2.2.1, va_up q.2.2.2 a (some q.1))
  | 4 => (fAny x).map fun q => q.2
  | 5 => (fAny x).bind fun q => (fGive q.1 q.2).bind (fGive q.1)
  | 6 => (fAny x).bind fun q => (fAny q.2).bind fun r => (fGive q.1 r.2).bind (fGive r.1)
  | 7 => (fTake 0 x).bind fun y => (fTake 0 y).bind (fGive 0)
  | 8 => (fTake 0 x).bind fun y => (fTake 0 y).bind (fGive 0)
  | 9 => (fTake 0 x).bind fun y => (fTake 0 y).bind (fGive 0)
  | 10 => (fTake 0 x).bind fun y => (fTake 0 y).bind (fGive 0)
  | 11 => some x
  | 12 => fTake 0 x
  | 13 => fGive 1 x
  | 14 => fGive 1 x
  | 15 => (fTake 1 x).bind (fGive 0)
  | 16 => (fTake 0 x).bind (fTake 1)
  | 17 => fTake 1 x
  | 18 => fTake 1 x
  | 19 => fTake 1 x
  | 20 => fTake 1 x
  | 21 => (fTakes (g a) x).bind (fGive 0)
  | 22 => fTake 0 x
  | 23 => fGive (10 + b) x
  | 24 => match x.2.2 a with
    | some k => if k < 10 then none else some x
    | none => none
  | 25 => fTake 0 x
  | 26 => (fTake 1 x).bind (fGive 0)
  | _ => match x.2.2 a with
    | some k => if k = 0 then some x else none
    | none => none
/-- z is y but that locals may be none -/
def fLe (y z : fS) : Prop := z.1 = y.1 ∧ (∀ i, i < y.1 → z.2.1 i = y.2.1 i) ∧ ∀ i, i < 8 → z.2.2 i = y.2.2 i ∨ z.2.2 i = none
abbrev fM : Type := Nat → Option fS
abbrev aN (M : mT) (i : Nat) : Nat := (mA M i).toNatClampNeg
abbrev bN (M : mT) (i : Nat) : Nat := (mB M i).toNatClampNeg
/-- a way to place q with y is met by S -/
def fCov (M : mT) (S : fM) (q : Nat) (y : fS) : Prop := q < mN M ∧ ∃ z, S q = some z ∧ fLe y z
/-- where it goes on behind place p with y (BACK apart) -/
def fNext (M : mT) (p q : Nat) : Prop := ((mO M p = 11 ∨ mO M p = 12 ∨ mO M p = 17 ∨ mO M p = 23) ∧ q = bN M p) ∨ ((mO M p ≠ 11 ∧ mO M p ≠ 23 ∧ mO M p ≠ 24 ∧ mO M p ≠ 20 ∧ mO M p ≠ 22) ∧ q = p + 1)
def fHit (M : mT) (p r : Nat) : Prop := mF M r ≤ p ∧ p < mE M r
/-- what is behind place p, whose state is x, is met by S -/
def fOut (g : Nat → Nat) (M : mT) (S : fM) (p : Nat) (x : fS) : Prop :=
  (∃ y, fEff g (mO M p) (aN M p) (bN M p) x = some y ∧ (∀ q, fNext M p q → fCov M S q y) ∧ (mO M p = 24 → ∀ i, i < mN M → S i ≠ none → mO M i = 23 → x.2.2 (aN M p) = some (10 + bN M i) → fCov M S (i + 1) y)) ∧
  ∀ r, r < mR M → fHit M p r → fCov M S (mP M r) (1, fun _ => 1, x.2.2)
def fIn (M : mT) : fS := (0, fun _ => 0, fun i => if i < mG M then some 0 else none)
def fSol (g : Nat → Nat) (M : mT) (S : fM) : Prop := fCov M S 0 (fIn M) ∧ ∀ p x, p < mN M → S p = some x → fOut g M S p x
/-- S is below T -/
def fBel (M : mT) (S T : fM) : Prop := ∀ p x, p < mN M → S p = some x → ∃ z, T p = some z ∧ fLe x z
def fLeast (g : Nat → Nat) (M : mT) (S : fM) : Prop := fSol g M S ∧ ∀ T, fSol g M T → fBel M S T
theorem fLe.rf {x : fS} : fLe x x := ⟨rfl, fun _ _ => rfl, fun _ _ => Or.inl rfl⟩
theorem fLe.tr {x y z : fS} (h1 : fLe x y) (h2 : fLe y z) : fLe x z := by
  refine ⟨h2.1.trans h1.1, fun i hi => (h2.2.1 i (by rw [h1.1]; exact hi)).trans (h1.2.1 i hi), fun i hi => ?_⟩
  rcases h2.2.2 i hi with e | e
  · rcases h1.2.2 i hi with e2 | e2
    · exact Or.inl (e.trans e2)
    · exact Or.inr (e.trans e2)
  · exact Or.inr e
/-- alike in all that can be asked for -/
def fEq (x y : fS) : Prop := x.1 = y.1 ∧ (∀ i, i < x.1 → x.2.1 i = y.2.1 i) ∧ ∀ i, i < 8 → x.2.2 i = y.2.2 i
theorem fLe.anti {x y : fS} (h1 : fLe x y) (h2 : fLe y x) : fEq x y := by
  refine ⟨h1.1.symm, fun i hi => (h1.2.1 i hi).symm, fun i hi => ?_⟩
  rcases h1.2.2 i hi with e | e
  · exact e.symm
  · rcases h2.2.2 i hi with e2 | e2
    · exact e2
    · rw [e, e2]
theorem fLeast.eq {g : Nat → Nat} {M : mT} {S T : fM} (h1 : fLeast g M S) (h2 : fLeast g M T) {p : Nat} (hp : p < mN M) : (S p = none ↔ T p = none) ∧ ∀ x y, S p = some x → T p = some y → fEq x y := by
  refine ⟨⟨fun e => ?_, fun e => ?_⟩, fun x y hx hy => ?_⟩
  · cases ht : T p with
    | none => rfl
    | some y =>
      obtain ⟨z, hz, -⟩ := h2.2 S h1.1 p y hp ht
      rw [e] at hz; cases hz
  · cases ht : S p with
    | none => rfl
    | some y =>
      obtain ⟨z, hz, -⟩ := h1.2 T h2.1 p y hp ht
      rw [e] at hz; cases hz
  · obtain ⟨z, hz, l1⟩ := h1.2 T h2.1 p x hp hx
    obtain ⟨u, hu, l2⟩ := h2.2 S h1.1 p y hp hy
    rw [hy] at hz; cases hz
    rw [hx] at hu; cases hu
    exact l1.anti l2
/-- eff of a state that is below gives a state that is below -/
theorem fTake_le {k : Nat} {x z y : fS} (h : fLe x z) (hz : fTake k z = some y) : ∃ u, fTake k x = some u ∧ fLe u y := by
  unfold fTake at hz ⊢
  by_cases h0 : z.1 = 0
  · rw [if_pos h0] at hz; cases hz
  · rw [if_neg h0] at hz
    have h0' : ¬ x.1 = 0 := by rw [← h.1]; exact h0
    rw [if_neg h0']
    have e := h.2.1 (x.1 - 1) (by omega)
    rw [h.1, e] at hz
    by_cases hk : x.2.1 (x.1 - 1) = k
    · rw [if_pos hk] at hz ⊢
      cases hz
      exact ⟨_, rfl, rfl, fun i hi => h.2.1 i (by omega), h.2.2⟩
    · rw [if_neg hk] at hz; cases hz
theorem fAny_le {x z : fS} {q : Nat × fS} (h : fLe x z) (hz : fAny z = some q) : ∃ u, fAny x = some (q.1, u) ∧ fLe u q.2 := by
  unfold fAny at hz ⊢
  by_cases h0 : z.1 = 0
  · rw [if_pos h0] at hz; cases hz
  · rw [if_neg h0] at hz
    have h0' : ¬ x.1 = 0 := by rw [← h.1]; exact h0
    rw [if_neg h0']
    cases hz
    have e := h.2.1 (x.1 - 1) (by omega)
    refine ⟨(x.1 - 1, x.2), ?_, ?_, fun i hi => ?_, h.2.2⟩
    · show some (x.2.1 (x.1 - 1), (x.1 - 1, x.2)) = some (z.2.1 (z.1 - 1), (x.1 - 1, x.2))
      rw [h.1, e]
    · show z.1 - 1 = x.1 - 1
      rw [h.1]
    · exact h.2.1 i (by have hi : i < x.1 - 1 := hi; omega)
theorem fGive_le {k : Nat} {x z y : fS} (h : fLe x z) (hz : fGive k z = some y) : ∃ u, fGive k x = some u ∧ fLe u y := by
  unfold fGive at hz ⊢
  by_cases h0 : z.1 < 8
  · rw [if_pos h0] at hz
    rw [if_pos (by rw [← h.1]; exact h0)]
    cases hz
    refine ⟨_, rfl, by show z.1 + 1 = x.1 + 1; rw [h.1], fun i hi => ?_, h.2.2⟩
    have hi : i < x.1 + 1 := hi
    show va_up z.2.1 z.1 k i = va_up x.2.1 x.1 k i
    rw [h.1]
    by_cases e : i = x.1
    · rw [e, am_up_eq, am_up_eq]
    · rw [am_up_ne e, am_up_ne e]; exact h.2.1 i (by omega)
  · rw [if_neg h0] at hz; cases hz
theorem fTakes_le {n : Nat} : ∀ {x z y : fS}, fLe x z → fTakes n z = some y → ∃ u, fTakes n x = some u ∧ fLe u y := by
  induction n with
  | zero => intro x z y h hz; cases hz; exact ⟨x, rfl, h⟩
  | succ n ih =>
    intro x z y h hz
    have hz : (fTake 0 z).bind (fTakes n) = some y := hz
    obtain ⟨z1, e1, e2⟩ := Option.bind_eq_some_iff.mp hz
    obtain ⟨u1, f1, l1⟩ := fTake_le h e1
    obtain ⟨u2, f2, l2⟩ := ih l1 e2
    exact ⟨u2, by show (fTake 0 x).bind (fTakes n) = some u2; rw [f1]; exact f2, l2⟩
theorem fBind_le {f h : fS → Option fS} {x z y : fS} (hl : fLe x z) (hf : ∀ {x z y : fS}, fLe x z → f z = some y → ∃ u, f x = some u ∧ fLe u y) (hh : ∀ {x z y : fS}, fLe x z → h z = some y → ∃ u, h x = some u ∧ fLe u y) (hz : (f z).bind h = some y) : ∃ u, (f x).bind h = some u ∧ fLe u y := by
  obtain ⟨z1, e1, e2⟩ := Option.bind_eq_some_iff.mp hz
  obtain ⟨u1, f1, l1⟩ := hf hl e1
  obtain ⟨u2, f2, l2⟩ := hh l1 e2
  exact ⟨u2, by rw [f1]; exact f2, l2⟩
theorem fEff_le {g : Nat → Nat} {p a b : Nat} (hp : p < 28) (ha : a < 8) {x z y : fS} (h : fLe x z) (hz : fEff g p a b z = some y) : ∃ u, fEff g p a b x = some u ∧ fLe u y := by
  have hl : ∀ k, z.2.2 a = some k → x.2.2 a = some k := fun k e => by
    rcases h.2.2 a ha with q | q
    · rw [← q]; exact e
    · rw [e] at q; cases q
  have h2 : ∀ {x z y : fS}, fLe x z → (fTake 0 z).bind (fGive 0) = some y → ∃ u, (fTake 0 x).bind (fGive 0) = some u ∧ fLe u y := fun l e => fBind_le l fTake_le fGive_le e
  match p, hp with
  | 0, _ => exact ⟨x, rfl, by cases hz; exact h⟩
  | 1, _ => exact fGive_le h hz
  | 2, _ => 
    cases e : z.2.2 a with
    | none => simp only [fEff, e] at hz; cases hz
    | some k =>
      have e2 := hl k e
      simp only [fEff, e, e2] at hz ⊢
      split at hz
      · rename_i hk; rw [if_pos hk]; exact fGive_le h hz
      · cases hz
  | 3, _ => 
    have hz : (fAny z).map (fun q => (q.2.1, q.2.2.1, va_up q.2.2.2 a (some q.1))) = some y := hz
    obtain ⟨q, e1, e2⟩ := Option.map_eq_some_iff.mp hz
    obtain ⟨u, f1, l1⟩ := fAny_le h e1
    refine ⟨(u.1, u.2.1, va_up u.2.2 a (some q.1)), by show (fAny x).map (fun q => (q.2.1, q.2.2.1, va_up q.2.2.2 a (some q.1))) = _; rw [f1]; rfl, ?_⟩
    rw [← e2]
    refine ⟨l1.1, l1.2.1, fun i hi => ?_⟩
    show va_up q.2.2.2 a (some q.1) i = va_up u.2.2 a (some q.1) i ∨ va_up q.2.2.2 a (some q.1) i = none
    by_cases e : i = a
    · rw [e, am_up_eq, am_up_eq]; exact Or.inl rfl
    · rw [am_up_ne e, am_up_ne e]; exact l1.2.2 i hi
  | 4, _ => 
    have hz : (fAny z).map (fun q => q.2) = some y := hz
    obtain ⟨q, e1, e2⟩ := Option.map_eq_some_iff.mp hz
    obtain ⟨u, f1, l1⟩ := fAny_le h e1
    exact ⟨u, by show (fAny x).map (fun q => q.2) = some u; rw [f1]; rfl, by rw [← e2]; exact l1⟩
  | 5, _ => 
    have hz : (fAny z).bind (fun q => (fGive q.1 q.2).bind (fGive q.1)) = some y := hz
    obtain ⟨q, e1, e2⟩ := Option.bind_eq_some_iff.mp hz
    obtain ⟨u, f1, l1⟩ := fAny_le h e1
    obtain ⟨v, f2, l2⟩ := fBind_le l1 fGive_le fGive_le e2
    exact ⟨v, by show (fAny x).bind (fun q => (fGive q.1 q.2).bind (fGive q.1)) = some v; rw [f1]; exact f2, l2⟩
  | 6, _ => 
    have hz : (fAny z).bind (fun q => (fAny q.2).bind fun r => (fGive q.1 r.2).bind (fGive r.1)) = some y := hz
    obtain ⟨q, e1, e2⟩ := Option.bind_eq_some_iff.mp hz
    obtain ⟨r, e3, e4⟩ := Option.bind_eq_some_iff.mp e2
    obtain ⟨u, f1, l1⟩ := fAny_le h e1
    obtain ⟨v, f2, l2⟩ := fAny_le l1 e3
    obtain ⟨t, f3, l3⟩ := fBind_le l2 fGive_le fGive_le e4
    exact ⟨t, by show (fAny x).bind (fun q => (fAny q.2).bind fun r => (fGive q.1 r.2).bind (fGive r.1)) = some t; rw [f1]; show (fAny u).bind _ = _; rw [f2]; exact f3, l3⟩
  | 7, _ => exact fBind_le h fTake_le h2 hz
  | 8, _ => exact fBind_le h fTake_le h2 hz
  | 9, _ => exact fBind_le h fTake_le h2 hz
  | 10, _ => exact fBind_le h fTake_le h2 hz
  | 11, _ => exact ⟨x, rfl, by cases hz; exact h⟩
  | 12, _ => exact fTake_le h hz
  | 13, _ => exact fGive_le h hz
  | 14, _ => exact fGive_le h hz
  | 15, _ => exact fBind_le h fTake_le fGive_le hz
  | 16, _ => exact fBind_le h fTake_le fTake_le hz
  | 17, _ => exact fTake_le h hz
  | 18, _ => exact fTake_le h hz
  | 19, _ => exact fTake_le h hz
  | 20, _ => exact fTake_le h hz
  | 21, _ => exact fBind_le h fTakes_le fGive_le hz
  | 22, _ => exact fTake_le h hz
  | 23, _ => exact fGive_le h hz
  | 24, _ => 
    cases e : z.2.2 a with
    | none => simp only [fEff, e] at hz; cases hz
    | some k =>
      have e2 := hl k e
      simp only [fEff, e, e2] at hz ⊢
      split at hz
      · cases hz
      · rename_i hk; rw [if_neg hk]; exact ⟨x, rfl, by cases hz; exact h⟩
  | 25, _ => exact fTake_le h hz
  | 26, _ => exact fBind_le h fTake_le fGive_le hz
  | 27, _ => 
    cases e : z.2.2 a with
    | none => simp only [fEff, e] at hz; cases hz
    | some k =>
      have e2 := hl k e
      simp only [fEff, e, e2] at hz ⊢
      split at hz
      · rename_i hk; rw [if_pos hk]; exact ⟨x, rfl, by cases hz; exact h⟩
      · cases hz
  | n + 28, hp => exact absurd hp (by omega)
