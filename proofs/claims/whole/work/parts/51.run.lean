/-! A RUN, as mathematics. A frame: number, place, depth, first lock, values, what it holds by number. A run: the ledger, types, items, (held, locks), (frames, those below, the latest), how it ended. -/
abbrev uT : Type := Nat × Nat × Nat × Nat × (Nat → Int32) × (Nat → Option Int32)
abbrev xT : Type := lT × (Nat → Nat) × (Nat → Int32) × (Nat × (Nat → Nat)) × (Nat × (Nat → uT) × uT) × Option Nat
abbrev uM (f : uT) : Nat := f.1
abbrev uP (f : uT) : Nat := f.2.1
abbrev uD (f : uT) : Nat := f.2.2.1
abbrev uB (f : uT) : Nat := f.2.2.2.1
abbrev uV (f : uT) : Nat → Int32 := f.2.2.2.2.1
abbrev uL (f : uT) : Nat → Option Int32 := f.2.2.2.2.2
abbrev lD (l : lT) : Nat := l.2.1
abbrev lM (l : lT) : Nat := l.2.2.1
abbrev lX (l : lT) : Nat := l.2.2.2.1
abbrev lNn (l : lT) : Nat := l.2.2.2.2.1
abbrev lH (l : lT) : Nat := l.2.2.2.2.2.1
abbrev lK (l : lT) : Nat → Int32 := l.2.2.2.2.2.2
abbrev xY (s : xT) : Nat → Nat := s.2.1
abbrev xI (s : xT) : Nat → Int32 := s.2.2.1
abbrev xH (s : xT) : Nat := s.2.2.2.1.1
abbrev xE (s : xT) : Nat → Nat := s.2.2.2.1.2
abbrev xN (s : xT) : Nat := s.2.2.2.2.1.1
abbrev xF (s : xT) : Nat → uT := s.2.2.2.2.1.2.1
abbrev xC (s : xT) : uT := s.2.2.2.2.1.2.2
abbrev xO (s : xT) : Option Nat := s.2.2.2.2.2
def lTell (l : lT) (e : Int32) : lT := (l.1, lD l, lM l, lX l, lNn l + 1, lH l, va_up (lK l) (lNn l) e)
def xTell (s : xT) (v : Int32) (k : Nat) : xT := (lTell s.1 (nI 16 * v + nI k), s.2)
def xMade (s : xT) (t : Nat) : xT := ((s.1.1, lD s.1, lM s.1 + 1, lX s.1, lNn s.1, lH s.1, lK s.1), va_up (xY s) (lM s.1 + 1) t, va_up (xI s) (lM s.1 + 1) (nI 0), s.2.2.2)
def xMake (s : xT) (t : Nat) : xT := xTell (xMade s t) (nI t) 1
def xSet (s : xT) (f : uT) : xT := (s.1, s.2.1, s.2.2.1, s.2.2.2.1, (xN s, xF s, f), xO s)
def xItem (s : xT) (o : Nat) (v : Int32) : xT := (s.1, s.2.1, va_up (xI s) o v, s.2.2.2)
def xHeld (s : xT) (h : Nat) (e : Nat → Nat) : xT := (s.1, s.2.1, s.2.2.1, (h, e), s.2.2.2.2)
def xDown (s : xT) : xT := (s.1, s.2.1, s.2.2.1, s.2.2.2.1, (xN s - 1, xF s, xF s (xN s - 2)), xO s)
def uPush (f : uT) (v : Int32) : uT := (uM f, uP f, uD f + 1, uB f, va_up (uV f) (uD f) v, uL f)
def uPop (f : uT) : uT := (uM f, uP f, uD f - 1, uB f, uV f, uL f)
abbrev uTop (f : uT) : Int32 := uV f (uD f - 1)
def uGo (f : uT) (n : Nat) : uT := (uM f, n, f.2.2)
def uSt (f : uT) (a : Nat) (v : Int32) : uT := (uM f, uP f, uD f, uB f, uV f, va_up (uL f) a (some v))
def uGet (f : uT) (a : Nat) : Int32 := (uL f a).getD (nI 0)
def xLeft : Nat → xT → xT
  | 0, s => s
  | k + 1, s => xLeft k (xTell (xHeld s (xH s - 1) (xE s)) (nI (xE s (xH s - 1))) 3)
def xF1 (s : xT) : xT := if uB (xC s) < xH s then xTell (xMake (xLeft (xH s - uB (xC s)) s) 3) (nI 3) 4 else s
def xF2 (Q : Nat → mT) (s : xT) : xT := xDown (if mL (Q (uM (xC s))) = true then xTell s (nI (4000 + uM (xC s))) 3 else s)
/-- the latest frame ends by o: what is THROWN then -/
def xFin (Q : Nat → mT) (s : xT) (o : Nat) : xT × Nat := (xF2 Q (xF1 s), if uB (xC s) < xH s then lM s.1 + 1 else o)
def und (t u : Nat) : Bool := t == u || u == 0 || (t == 5 && u == 1) || (t == 6 && u == 2) || (t == 7 && (u == 5 || u == 1))
def xRow (M : mT) (p t : Nat) : Nat → Nat → Option Nat
  | 0, _ => none
  | r + 1, k => if (mF M k ≤ p ∧ p < mE M k) ∧ und t (mY M k) = true then some k else xRow M p t r (k + 1)
def xHad (s : xT) : xT := ((s.1.1, lD s.1, lM s.1, lX s.1, lNn s.1, lH s.1 + 1, lK s.1), s.2)
def uHave (f : uT) (o a : Nat) : uT := (uM f, a, 1, uB f, va_up (uV f) 0 (nI o), uL f)
def xHave (s : xT) (o a : Nat) : xT := xTell (xHad (xSet s (uHave (xC s) o a))) (nI (xY s o)) 5
def xEnd (s : xT) (e : Nat) : xT := (s.1, s.2.1, s.2.2.1, s.2.2.2.1, s.2.2.2.2.1, some e)
def xRaise (Q : Nat → mT) : Nat → xT → Nat → xT
  | 0, s, o => xEnd s (16 + xY s o)
  | n + 1, s, o => match xRow (Q (uM (xC s))) (uP (xC s)) (xY s o) (mR (Q (uM (xC s)))) 0 with
    | some r => xHave s o (mP (Q (uM (xC s))) r)
    | none => xRaise Q n (xFin Q s o).1 (xFin Q s o).2
/-- what the machine makes and throws -/
def xNew (s : xT) (t : Nat) : xT × Nat := (xTell (xMake s t) (nI t) 4, lM s.1 + 1)
def xOn (s : xT) (f : uT) : xT × Nat := (xSet s (uGo f (uP f + 1)), 0)
def xMost (s : xT) : xT := ((s.1.1, lD s.1, lM s.1, Nat.max (lX s.1) (xN s), lNn s.1, lH s.1, lK s.1), s.2)
/-- a frame of method c begins over the frames F; what lies in its numbers is given -/
def xOpen (Q : Nat → mT) (s : xT) (c : Nat) (F : Nat → uT) (v : Nat → Option Int32) : xT :=
  let t := xMost (s.1, s.2.1, s.2.2.1, s.2.2.2.1, (xN s + 1, F, (c, 0, 0, xH s, (fun _ => nI 0), v)), xO s)
  if mL (Q c) = true then xTell t (nI (4000 + c)) 2 else t
def uLess (f : uT) (n : Nat) : uT := (uM f, uP f, uD f - n, uB f, uV f, uL f)
def xCall (Q : Nat → mT) (s : xT) (c : Nat) : xT := xOpen Q s c (va_up (xF s) (xN s - 1) (uLess (xC s) (mG (Q c)))) (fun i => if i < mG (Q c) then some (uV (xC s) (uD (xC s) - mG (Q c) + i)) else none)
/-- the latest of the locks below h, not below b, that is o -/
def xFind (e : Nat → Nat) (b o : Nat) : Nat → Option Nat
  | 0 => none
  | h + 1 => if h < b then none else if e h = o then some h else xFind e b o h
def cnd (a : Int32) (v : Int32) : Bool := if a = nI 0 then decide (v = nI 0) else if a = nI 1 then decide (¬ v = nI 0) else decide (v < nI 0)
def xVal (s : xT) (v : Int32) : xT := xEnd ((v, s.1.2), s.2) 0
/-- what a frame that RETURNS v leaves -/
def xBack (q : xT × Nat) (v : Int32) : xT × Nat := if q.2 = 0 then (if xN q.1 = 0 then (xVal q.1 v, 0) else xOn q.1 (uPush (xC q.1) v)) else q
def xObj (s : xT) (x : Int32) (q : xT × Nat) : xT × Nat := if x = nI 0 then xNew s 2 else q
def xLeave (s : xT) (f : uT) (o : Nat) : xT × Nat := match xFind (xE s) (uB f) o (xH s) with
  | some k => xOn (xTell (xHeld s (xH s - 1) (fun i => if i < k then xE s i else xE s (i + 1))) (nI o) 3) f
  | none => xNew (xSet s f) 3
def xDo (Q : Nat → mT) (s : xT) (p : Nat) (a b : Int32) : xT × Nat := match p with
  | 1 => xOn s (uPush (xC s) a)
  | 2 => xOn s (uPush (xC s) (uGet (xC s) a.toNatClampNeg))
  | 3 => xOn s (uSt (uPop (xC s)) a.toNatClampNeg (uTop (xC s)))
  | 4 => xOn s (uPop (xC s))
  | 5 => xOn s (uPush (uPush (uPop (xC s)) (uTop (xC s))) (uTop (xC s)))
  | 6 => xOn s (uPush (uPush (uPop (uPop (xC s))) (uTop (xC s))) (uTop (uPop (xC s))))
  | 7 => xOn s (uPush (uPop (uPop (xC s))) (uTop (uPop (xC s)) + uTop (xC s)))
  | 8 => xOn s (uPush (uPop (uPop (xC s))) (uTop (uPop (xC s)) - uTop (xC s)))
  | 9 => xOn s (uPush (uPop (uPop (xC s))) (uTop (uPop (xC s)) * uTop (xC s)))
  | 10 => if uTop (xC s) = nI 0 then xNew (xSet s (uPop (uPop (xC s)))) 1 else xOn s (uPush (uPop (uPop (xC s))) (uTop (uPop (xC s)) / uTop (xC s)))
  | 11 => (xSet s (uGo (xC s) b.toNatClampNeg), 0)
  | 12 => (xSet s (uGo (uPop (xC s)) (if cnd a (uTop (xC s)) = true then b.toNatClampNeg else uP (xC s) + 1)), 0)
  | 13 => xOn s (uPush (xC s) (nI 0))
  | 14 => xOn (xMake s a.toNatClampNeg) (uPush (xC s) (nI (lM s.1 + 1)))
  | 15 => xObj (xSet s (uPop (xC s))) (uTop (xC s)) (xOn s (uPush (uPop (xC s)) (xI s (uTop (xC s)).toNatClampNeg)))
  | 16 => xObj (xSet s (uPop (uPop (xC s)))) (uTop (uPop (xC s))) (xOn (xItem s (uTop (uPop (xC s))).toNatClampNeg (uTop (xC s))) (uPop (uPop (xC s))))
  | 17 => (xSet s (uGo (uPop (xC s)) (if uTop (xC s) = nI 0 then b.toNatClampNeg else uP (xC s) + 1)), 0)
  | 18 => xObj (xSet s (uPop (xC s))) (uTop (xC s)) (xOn (xTell (xHeld s (xH s + 1) (va_up (xE s) (xH s) (uTop (xC s)).toNatClampNeg)) (uTop (xC s)) 2) (uPop (xC s)))
  | 19 => xObj (xSet s (uPop (xC s))) (uTop (xC s)) (xLeave s (uPop (xC s)) (uTop (xC s)).toNatClampNeg)
  | 20 => xObj (xSet s (uPop (xC s))) (uTop (xC s)) (xTell (xSet s (uPop (xC s))) (nI (xY s (uTop (xC s)).toNatClampNeg)) 4, (uTop (xC s)).toNatClampNeg)
  | 21 => if xN s = 12 then xNew s 4 else (xCall Q s a.toNatClampNeg, 0)
  | 22 => xBack (xFin Q (xSet s (uPop (xC s))) 0) (uTop (xC s))
  | 23 => (xSet s (uGo (uPush (xC s) (nI (uP (xC s) + 1))) b.toNatClampNeg), 0)
  | 24 => (xSet s (uGo (xC s) (uGet (xC s) a.toNatClampNeg).toNatClampNeg), 0)
  | 25 => xOn (xTell s (uTop (xC s) &&& nI 65535) 0) (uPop (xC s))
  | 26 => xObj (xSet s (uPop (xC s))) (uTop (xC s)) (xOn s (uPush (uPop (xC s)) (nI (xY s (uTop (xC s)).toNatClampNeg))))
  | 27 => xOn s (uSt (xC s) a.toNatClampNeg (uGet (xC s) a.toNatClampNeg + b))
  | _ => xOn s (xC s)
def xAft (Q : Nat → mT) (q : xT × Nat) : xT := if q.2 = 0 then q.1 else xRaise Q (xN q.1) q.1 q.2
def xIns (Q : Nat → mT) (s : xT) : xT × Nat := xDo Q s (mO (Q (uM (xC s))) (uP (xC s))) (mA (Q (uM (xC s))) (uP (xC s))) (mB (Q (uM (xC s))) (uP (xC s)))
def xTick (s : xT) : xT := ((s.1.1, lD s.1 + 1, s.1.2.2), s.2)
def xRun (Q : Nat → mT) : Nat → xT → xT
  | 0, s => s
  | n + 1, s => if xO s = none then xRun Q n (xAft Q (xIns Q (xTick s))) else s
def xIni (Q : Nat → mT) (m : Nat) (x y z : Int32) : xT := xOpen Q ((nI 0, 0, 0, 0, 0, 0, fun _ => nI 0), (fun _ => 0), (fun _ => nI 0), (0, fun _ => 0), (0, (fun _ => (0, 0, 0, 0, (fun _ => nI 0), fun _ => none)), (0, 0, 0, 0, (fun _ => nI 0), fun _ => none)), none) m (fun _ => (0, 0, 0, 0, (fun _ => nI 0), fun _ => none)) (fun i => if i < mG (Q m) then some (if i = 0 then x else if i = 1 then y else z) else none)
/-! What a run keeps: each VALUE is of its KIND. -/
def kOk (M : mT) (S : fM) (n k : Nat) (v : Int32) : Prop := (k = 1 → ∃ o, o ≤ n ∧ v = nI o) ∧ (10 ≤ k → ∃ i, i < mN M ∧ S i ≠ none ∧ mO M i = 23 ∧ k = 10 + bN M i ∧ v = nI (i + 1))
def uLo (M : mT) (S : fM) (n : Nat) (x : fS) (f : uT) : Prop := ∀ i, i < 8 → ∀ k, x.2.2 i = some k → ∃ v, uL f i = some v ∧ kOk M S n k v
def uTy (M : mT) (S : fM) (n : Nat) (x : fS) (f : uT) : Prop := uD f = x.1 ∧ x.1 ≤ 8 ∧ (∀ i, i < x.1 → kOk M S n (x.2.1 i) (uV f i)) ∧ uLo M S n x f
section Ty
variable {M : mT} {S : fM} {n : Nat} {x y z : fS} {f : uT} {k : Nat} {v : Int32}
theorem kOk.z0 : kOk M S n 0 v := ⟨(fun e => by cases e), fun e => absurd e (by decide)⟩
theorem kOk.o {o : Nat} (h : o ≤ n) : kOk M S n 1 (nI o) := ⟨fun _ => ⟨o, h, rfl⟩, fun e => absurd e (by decide)⟩
theorem kOk.mono {n' : Nat} (h : kOk M S n k v) (hn : n ≤ n') : kOk M S n' k v := ⟨fun e => by obtain ⟨o, h1, h2⟩ := h.1 e; exact ⟨o, by omega, h2⟩, h.2⟩
theorem uLo.mono {n' : Nat} (h : uLo M S n x f) (hn : n ≤ n') : uLo M S n' x f := fun i hi k hk => by obtain ⟨v, h1, h2⟩ := h i hi k hk; exact ⟨v, h1, h2.mono hn⟩
theorem uTy.mono {n' : Nat} (h : uTy M S n x f) (hn : n ≤ n') : uTy M S n' x f := ⟨h.1, h.2.1, fun i hi => (h.2.2.1 i hi).mono hn, h.2.2.2.mono hn⟩
theorem uLo.le (h : uLo M S n x f) (hl : fLe x z) : uLo M S n z f := fun i hi k hk => by
  rcases hl.2.2 i hi with e | e
  · exact h i hi k (e ▸ hk)
  · rw [e] at hk; cases hk
theorem uTy.le (h : uTy M S n x f) (hl : fLe x z) : uTy M S n z f := ⟨h.1.trans hl.1.symm, by rw [hl.1]; exact h.2.1, fun i hi => by rw [hl.1] at hi; rw [hl.2.1 i hi]; exact h.2.2.1 i hi, h.2.2.2.le hl⟩
theorem uTy.go (h : uTy M S n x f) (p : Nat) : uTy M S n x (uGo f p) := h
theorem uTy.take (h : uTy M S n x f) (e : fTake k x = some y) : uTy M S n y (uPop f) ∧ kOk M S n k (uTop f) ∧ 1 ≤ uD f ∧ y.2.2 = x.2.2 := by
  unfold fTake at e
  by_cases h0 : x.1 = 0
  · rw [if_pos h0] at e; cases e
  · rw [if_neg h0] at e
    by_cases h1 : x.2.1 (x.1 - 1) = k
    · rw [if_pos h1] at e
      cases e
      have hd := h.1
      refine ⟨⟨by show uD f - 1 = x.1 - 1; rw [hd], by show x.1 - 1 ≤ 8; have := h.2.1; omega, fun i hi => h.2.2.1 i (by have hi : i < x.1 - 1 := hi; omega), h.2.2.2⟩, ?_, by rw [hd]; omega, rfl⟩
      have := h.2.2.1 (x.1 - 1) (by omega)
      rw [h1, ← hd] at this
      exact this
    · rw [if_neg h1] at e; cases e
theorem uTy.any {q : Nat × fS} (h : uTy M S n x f) (e : fAny x = some q) : uTy M S n q.2 (uPop f) ∧ kOk M S n q.1 (uTop f) ∧ 1 ≤ uD f ∧ q.2.2.2 = x.2.2 := by
  unfold fAny at e
  by_cases h0 : x.1 = 0
  · rw [if_pos h0] at e; cases e
  · rw [if_neg h0] at e
    cases e
    have hd := h.1
    refine ⟨⟨by show uD f - 1 = x.1 - 1; rw [hd], by show x.1 - 1 ≤ 8; have := h.2.1; omega, fun i hi => h.2.2.1 i (by have hi : i < x.1 - 1 := hi; omega), h.2.2.2⟩, ?_, by rw [hd]; omega, rfl⟩
    have := h.2.2.1 (x.1 - 1) (by omega)
    rw [← hd] at this ⊢
    exact this
theorem uTy.give (h : uTy M S n x f) (hk : kOk M S n k v) (e : fGive k x = some y) : uTy M S n y (uPush f v) ∧ uD f < 8 ∧ y.2.2 = x.2.2 := by
  unfold fGive at e
  by_cases h0 : x.1 < 8
  · rw [if_pos h0] at e
    cases e
    have hd := h.1
    refine ⟨⟨by show uD f + 1 = x.1 + 1; rw [hd], h0, fun i hi => ?_, h.2.2.2⟩, by rw [hd]; exact h0, rfl⟩
    show kOk M S n (va_up x.2.1 x.1 k i) (va_up (uV f) (uD f) v i)
    rw [hd]
    by_cases e2 : i = x.1
    · rw [e2, am_up_eq, am_up_eq]; exact hk
    · rw [am_up_ne e2, am_up_ne e2]; exact h.2.2.1 i (by have hi : i < x.1 + 1 := hi; omega)
  · rw [if_neg h0] at e; cases e
theorem uTy.st {a : Nat} (h : uTy M S n x f) (hk : kOk M S n k v) : uTy M S n (x.1, x.2.1, va_up x.2.2 a (some k)) (uSt f a v) :=
  ⟨h.1, h.2.1, h.2.2.1, fun i hi k' hk' => by
    have hk' : va_up x.2.2 a (some k) i = some k' := hk'
    show ∃ w, va_up (uL f) a (some v) i = some w ∧ _
    by_cases e : i = a
    · rw [e, am_up_eq] at hk' ⊢; cases hk'; exact ⟨v, rfl, hk⟩
    · rw [am_up_ne e] at hk' ⊢; exact h.2.2.2 i hi k' hk'⟩
theorem uTy.st0 {a : Nat} {w : Int32} (h : uTy M S n x f) (hx : x.2.2 a = some 0) : uTy M S n x (uSt f a w) :=
  ⟨h.1, h.2.1, h.2.2.1, fun i hi k' hk' => by
    show ∃ u, va_up (uL f) a (some w) i = some u ∧ _
    by_cases e : i = a
    · rw [e, hx] at hk'; cases hk'; rw [e, am_up_eq]; exact ⟨w, rfl, kOk.z0⟩
    · rw [am_up_ne e]; exact h.2.2.2 i hi k' hk'⟩
theorem uTy.get {a : Nat} (h : uTy M S n x f) (ha : a < 8) (hk : x.2.2 a = some k) : uL f a = some (uGet f a) ∧ kOk M S n k (uGet f a) := by
  obtain ⟨v, h1, h2⟩ := h.2.2.2 a ha k hk
  have : uGet f a = v := by unfold uGet; rw [h1]; rfl
  rw [this]
  exact ⟨h1, h2⟩
theorem uTy.takes {g : Nat} : ∀ {x : fS} {f : uT}, uTy M S n x f → fTakes g x = some y → uTy M S n y (uLess f g) ∧ g ≤ uD f ∧ y.2.2 = x.2.2 := by
  induction g with
  | zero => intro x f h e; cases e; exact ⟨h, Nat.zero_le _, rfl⟩
  | succ g ih =>
    intro x f h e
    have e : (fTake 0 x).bind (fTakes g) = some y := e
    obtain ⟨x1, e1, e2⟩ := Option.bind_eq_some_iff.mp e
    obtain ⟨t1, -, t3, t4⟩ := h.take e1
    obtain ⟨u1, u2, u3⟩ := ih t1 e2
    have hd : uD (uPop f) = uD f - 1 := rfl
    refine ⟨?_, by omega, u3.trans t4⟩
    have : uLess (uPop f) g = uLess f (g + 1) := by
      show (uM f, uP f, uD f - 1 - g, uB f, uV f, uL f) = (uM f, uP f, uD f - (g + 1), uB f, uV f, uL f)
      rw [Nat.sub_sub, Nat.add_comm 1 g]
    rw [← this]
    exact u1
end Ty
/-- the latest frame, before an instruction; a frame that may have what is thrown; a frame that has CALLED -/
def tyR (Q : Nat → mT) (Z : Nat → fM) (m n : Nat) (f : uT) : Prop := uM f < 6 ∧ rch Q m (uM f) ∧ uP f < mN (Q (uM f)) ∧ uB f ≤ 1000 ∧ ∃ x, Z (uM f) (uP f) = some x ∧ uTy (Q (uM f)) (Z (uM f)) n x f
def tyM (Q : Nat → mT) (Z : Nat → fM) (m n : Nat) (f : uT) : Prop := uM f < 6 ∧ rch Q m (uM f) ∧ uP f < mN (Q (uM f)) ∧ uB f ≤ 1000 ∧ ∃ x, Z (uM f) (uP f) = some x ∧ uLo (Q (uM f)) (Z (uM f)) n x f
def tyS (Q : Nat → mT) (Z : Nat → fM) (m n : Nat) (f : uT) : Prop := uM f < 6 ∧ rch Q m (uM f) ∧ uP f < mN (Q (uM f)) ∧ uB f ≤ 1000 ∧ mO (Q (uM f)) (uP f) = 21 ∧ ∃ x y, Z (uM f) (uP f) = some x ∧ fTakes (gP Q (aN (Q (uM f)) (uP f))) x = some y ∧ uTy (Q (uM f)) (Z (uM f)) n y f
theorem fTakes_l {g : Nat} {y : fS} : ∀ {x : fS}, fTakes g x = some y → y.2.2 = x.2.2 := by
  induction g with
  | zero => intro x e; cases e; rfl
  | succ g ih =>
    intro x e
    have e : (fTake 0 x).bind (fTakes g) = some y := e
    obtain ⟨x1, e1, e2⟩ := Option.bind_eq_some_iff.mp e
    rw [ih e2]
    unfold fTake at e1
    split at e1
    · cases e1
    · split at e1
      · cases e1; rfl
      · cases e1
theorem tyS.m {Q : Nat → mT} {Z : Nat → fM} {m n : Nat} {f : uT} (h : tyS Q Z m n f) : tyM Q Z m n f := by
  obtain ⟨h1, h2, h3, h4, -, x, y, h5, h6, h7⟩ := h
  refine ⟨h1, h2, h3, h4, x, h5, fun i hi k hk => h7.2.2.2 i hi k (by rw [fTakes_l h6]; exact hk)⟩
theorem tyS.mono {Q : Nat → mT} {Z : Nat → fM} {m n n' : Nat} {f : uT} (h : tyS Q Z m n f) (hn : n ≤ n') : tyS Q Z m n' f := by
  obtain ⟨h1, h2, h3, h4, h5, x, y, h6, h7, h8⟩ := h
  exact ⟨h1, h2, h3, h4, h5, x, y, h6, h7, h8.mono hn⟩
theorem tyM.mono {Q : Nat → mT} {Z : Nat → fM} {m n n' : Nat} {f : uT} (h : tyM Q Z m n f) (hn : n ≤ n') : tyM Q Z m n' f := by
  obtain ⟨h1, h2, h3, h4, x, h6, h8⟩ := h
  exact ⟨h1, h2, h3, h4, x, h6, h8.mono hn⟩
/-- what holds of a run at every time but for its latest frame -/
def tB (Q : Nat → mT) (Z : Nat → fM) (m : Nat) (s : xT) : Prop := (∀ o, 1 ≤ o → o ≤ lM s.1 → xY s o < 8) ∧ (∀ k, k < xH s → 1 ≤ xE s k ∧ xE s k ≤ lM s.1) ∧ xN s ≤ 12 ∧ ∀ i, i + 1 < xN s → tyS Q Z m (lM s.1) (xF s i)
def zSol (Q : Nat → mT) (Z : Nat → fM) (m : Nat) : Prop := ∀ c, c < 6 → rch Q m c → fSol (gP Q) (Q c) (Z c)
noncomputable def zOf (Q : Nat → mT) (c : Nat) : fM := @dite fM (∃ S, fLeast (gP Q) (Q c) S) (Classical.propDecidable _) (fun q => Classical.choose q) (fun _ _ => none)
theorem sndP.zs {Q : Nat → mT} {m : Nat} (h : sndP Q m) : zSol Q (zOf Q) m := fun c hc hr => by
  unfold zOf
  rw [dif_pos (h c hc hr)]
  exact (Classical.choose_spec (h c hc hr)).1
section Tb
variable {Q : Nat → mT} {Z : Nat → fM} {m : Nat} {s : xT}
theorem tB.tell {v : Int32} {k : Nat} (h : tB Q Z m s) : tB Q Z m (xTell s v k) := h
theorem tB.set {f : uT} (h : tB Q Z m s) : tB Q Z m (xSet s f) := h
theorem tB.item {o : Nat} {v : Int32} (h : tB Q Z m s) : tB Q Z m (xItem s o v) := h
theorem tB.tick (h : tB Q Z m s) : tB Q Z m (xTick s) := h
theorem tB.had (h : tB Q Z m s) : tB Q Z m (xHad s) := h
theorem tB.make {t : Nat} (h : tB Q Z m s) (ht : t < 8) : tB Q Z m (xMake s t) := by
  obtain ⟨h1, h2, h3, h4⟩ := h
  refine ⟨fun o ho hn => ?_, fun k hk => ⟨(h2 k hk).1, Nat.le_succ_of_le (h2 k hk).2⟩, h3, fun i hi => (h4 i hi).mono (Nat.le_succ _)⟩
  show va_up (xY s) (lM s.1 + 1) t o < 8
  by_cases e : o = lM s.1 + 1
  · rw [e, am_up_eq]; exact ht
  · rw [am_up_ne e]; exact h1 o ho (by have hn : o ≤ lM s.1 + 1 := hn; omega)
theorem tB.held {h' : Nat} {e : Nat → Nat} (h : tB Q Z m s) (he : ∀ k, k < h' → 1 ≤ e k ∧ e k ≤ lM s.1) : tB Q Z m (xHeld s h' e) := ⟨h.1, he, h.2.2.1, h.2.2.2⟩
theorem xLeft_eq : ∀ (k : Nat) (s : xT), (xLeft k s).2 = (xHeld s (xH s - k) (xE s)).2 ∧ lM (xLeft k s).1 = lM s.1 ∧ lD (xLeft k s).1 = lD s.1 ∧ lNn (xLeft k s).1 = lNn s.1 + k ∧ lH (xLeft k s).1 = lH s.1 ∧ lX (xLeft k s).1 = lX s.1
  | 0, s => ⟨rfl, rfl, rfl, rfl, rfl, rfl⟩
  | k + 1, s => by
    have ih := xLeft_eq k (xTell (xHeld s (xH s - 1) (xE s)) (nI (xE s (xH s - 1))) 3)
    obtain ⟨a, b, c, d, e, f⟩ := ih
    have hh : xH (xTell (xHeld s (xH s - 1) (xE s)) (nI (xE s (xH s - 1))) 3) - k = xH s - (k + 1) := by
      show xH s - 1 - k = _
      omega
    refine ⟨?_, b, c, ?_, e, f⟩
    · show (xLeft k (xTell (xHeld s (xH s - 1) (xE s)) (nI (xE s (xH s - 1))) 3)).2 = _
      rw [a, hh]
      rfl
    · show lNn (xLeft k _).1 = _
      rw [d]
      show lNn s.1 + 1 + k = lNn s.1 + (k + 1)
      omega
theorem tB.left {k : Nat} (h : tB Q Z m s) : tB Q Z m (xLeft k s) := by
  obtain ⟨e1, e2, -⟩ := xLeft_eq k s
  obtain ⟨h1, h2, h3, h4⟩ := h
  have yY : xY (xLeft k s) = xY s := congrArg (fun q => q.1) e1
  have yH : xH (xLeft k s) = xH s - k := congrArg (fun q => q.2.2.1.1) e1
  have yE : xE (xLeft k s) = xE s := congrArg (fun q => q.2.2.1.2) e1
  have yN : xN (xLeft k s) = xN s := congrArg (fun q => q.2.2.2.1.1) e1
  have yF : xF (xLeft k s) = xF s := congrArg (fun q => q.2.2.2.1.2.1) e1
  unfold tB
  rw [yY, yH, yE, yN, yF, e2]
  exact ⟨h1, fun i hi => h2 i (by omega), h3, h4⟩
theorem xF1_c {s : xT} : xC (xF1 s) = xC s ∧ xN (xF1 s) = xN s ∧ xF (xF1 s) = xF s ∧ xO (xF1 s) = xO s := by
  unfold xF1
  split
  · have e := (xLeft_eq (xH s - uB (xC s)) s).1
    have h1 : (xTell (xMake (xLeft (xH s - uB (xC s)) s) 3) (nI 3) 4).2.2.2 = (xLeft (xH s - uB (xC s)) s).2.2.2 := rfl
    show (_ : xT).2.2.2.2.1.2.2 = _ ∧ _
    unfold xC xN xF xO
    rw [h1, e]
    exact ⟨rfl, rfl, rfl, rfl⟩
  · exact ⟨rfl, rfl, rfl, rfl⟩
theorem tB.f1 (h : tB Q Z m s) : tB Q Z m (xF1 s) := by
  unfold xF1
  split
  · exact (h.left.make (by decide)).tell
  · exact h
theorem tB.down (h : tB Q Z m s) (hN : 1 ≤ xN s) : tB Q Z m (xDown s) ∧ (1 ≤ xN (xDown s) → tyS Q Z m (lM s.1) (xC (xDown s))) := by
  obtain ⟨h1, h2, h3, h4⟩ := h
  refine ⟨⟨h1, h2, by show xN s - 1 ≤ 12; omega, fun i hi => h4 i (by have hi : i + 1 < xN s - 1 := hi; omega)⟩, fun hn => ?_⟩
  have hn : 1 ≤ xN s - 1 := hn
  exact h4 (xN s - 2) (by omega)
theorem xF2_d {s : xT} : xF2 Q s = xDown (if mL (Q (uM (xC s))) = true then xTell s (nI (4000 + uM (xC s))) 3 else s) := rfl
theorem tB.f2 (h : tB Q Z m s) (hN : 1 ≤ xN s) : tB Q Z m (xF2 Q s) ∧ (1 ≤ xN (xF2 Q s) → tyS Q Z m (lM (xF2 Q s).1) (xC (xF2 Q s))) ∧ lM (xF2 Q s).1 = lM s.1 ∧ xN (xF2 Q s) = xN s - 1 ∧ xO (xF2 Q s) = xO s ∧ xH (xF2 Q s) = xH s ∧ lNn (xF2 Q s).1 ≤ lNn s.1 + 1 ∧ lH (xF2 Q s).1 = lH s.1 ∧ lD (xF2 Q s).1 = lD s.1 ∧ lX (xF2 Q s).1 = lX s.1 := by
  rw [xF2_d]
  split
  · exact ⟨(h.tell.down hN).1, (h.tell.down hN).2, rfl, rfl, rfl, rfl, Nat.le_refl _, rfl, rfl, rfl⟩
  · exact ⟨(h.down hN).1, (h.down hN).2, rfl, rfl, rfl, rfl, Nat.le_succ _, rfl, rfl, rfl⟩
/-- the sizes: what xF1 does to them -/
theorem xF1_n {s : xT} : lM (xF1 s).1 = lM s.1 + (if uB (xC s) < xH s then 1 else 0) ∧ lM (xF1 s).1 + xH (xF1 s) ≤ lM s.1 + xH s ∧ lNn (xF1 s).1 + xH (xF1 s) ≤ lNn s.1 + xH s + 2 ∧ lH (xF1 s).1 = lH s.1 ∧ lD (xF1 s).1 = lD s.1 ∧ lX (xF1 s).1 = lX s.1 := by
  unfold xF1
  by_cases h : uB (xC s) < xH s
  · rw [if_pos h, if_pos h]
    obtain ⟨e1, e2, e3, e4, e5, e6⟩ := xLeft_eq (xH s - uB (xC s)) s
    have hh : xH (xLeft (xH s - uB (xC s)) s) = xH s - (xH s - uB (xC s)) := by
      show (xLeft (xH s - uB (xC s)) s).2.2.2.1.1 = _
      rw [e1]; rfl
    have a1 : lM (xTell (xMake (xLeft (xH s - uB (xC s)) s) 3) (nI 3) 4).1 = lM (xLeft (xH s - uB (xC s)) s).1 + 1 := rfl
    have a2 : lNn (xTell (xMake (xLeft (xH s - uB (xC s)) s) 3) (nI 3) 4).1 = lNn (xLeft (xH s - uB (xC s)) s).1 + 1 + 1 := rfl
    have a3 : xH (xTell (xMake (xLeft (xH s - uB (xC s)) s) 3) (nI 3) 4) = xH (xLeft (xH s - uB (xC s)) s) := rfl
    refine ⟨by omega, by omega, by omega, e5, e3, e6⟩
  · rw [if_neg h, if_neg h]
    exact ⟨rfl, Nat.le_refl _, by omega, rfl, rfl, rfl⟩
theorem xFin_ty {o : Nat} (h : tB Q Z m s) (hN : 1 ≤ xN s) (ho : o ≤ lM s.1) : tB Q Z m (xFin Q s o).1 ∧ (1 ≤ xN (xFin Q s o).1 → tyS Q Z m (lM (xFin Q s o).1.1) (xC (xFin Q s o).1)) ∧ xN (xFin Q s o).1 = xN s - 1 ∧ xO (xFin Q s o).1 = xO s ∧ (xFin Q s o).2 ≤ lM (xFin Q s o).1.1 ∧ (1 ≤ o → 1 ≤ (xFin Q s o).2) ∧
    lM (xFin Q s o).1.1 + xH (xFin Q s o).1 ≤ lM s.1 + xH s ∧ lNn (xFin Q s o).1.1 + xH (xFin Q s o).1 ≤ lNn s.1 + xH s + 3 ∧ lH (xFin Q s o).1.1 = lH s.1 ∧ lD (xFin Q s o).1.1 = lD s.1 ∧ lX (xFin Q s o).1.1 = lX s.1 ∧ lM s.1 ≤ lM (xFin Q s o).1.1 := by
  obtain ⟨c1, c2, c3, c4⟩ := xF1_c (s := s)
  obtain ⟨n1, n2, n3, n4, n5, n6⟩ := xF1_n (s := s)
  obtain ⟨f1, f2, f3, f4, f5, f6, f7, f8, f9, f10⟩ := h.f1.f2 (by rw [c2]; exact hN)
  have e1 : (xFin Q s o).1 = xF2 Q (xF1 s) := rfl
  have e2 : (xFin Q s o).2 = if uB (xC s) < xH s then lM s.1 + 1 else o := rfl
  rw [e1, e2, f3, f4, f5, f6, f8, f9, f10, c2, c4]
  rw [f3] at f2
  rw [f4, c2] at f2
  refine ⟨f1, f2, rfl, rfl, ?_, ?_, n2, by omega, n4, n5, n6, by omega⟩
  · split
    · rename_i hh; rw [if_pos hh] at n1; omega
    · omega
  · split
    · omega
    · exact fun h => h
end Tb
section Rz
variable {Q : Nat → mT} {Z : Nat → fM} {m : Nat} {s : xT}
theorem xRow_some {M : mT} {p t q : Nat} : ∀ {r k : Nat}, xRow M p t r k = some q → q < k + r ∧ fHit M p q := by
  intro r
  induction r with
  | zero => intro k h; cases h
  | succ r ih =>
    intro k h
    have h : (if (mF M k ≤ p ∧ p < mE M k) ∧ und t (mY M k) = true then some k else xRow M p t r (k + 1)) = some q := h
    split at h
    · rename_i hh; cases h; exact ⟨by omega, hh.1⟩
    · have := ih h; exact ⟨by omega, this.2⟩
theorem have_ty {o r : Nat} (hz : zSol Q Z m) (hc : tyM Q Z m (lM s.1) (xC s)) (ho : o ≤ lM s.1) (hr : r < mR (Q (uM (xC s)))) (hh : fHit (Q (uM (xC s))) (uP (xC s)) r) : tyR Q Z m (lM s.1) (uHave (xC s) o (mP (Q (uM (xC s))) r)) := by
  obtain ⟨h1, h2, h3, h4, x, h5, h6⟩ := hc
  obtain ⟨-, hs⟩ := hz _ h1 h2
  obtain ⟨c1, z, c2, c3⟩ := (hs _ x h3 h5).2 r hr hh
  refine ⟨h1, h2, c1, h4, z, c2, ?_⟩
  refine uTy.le (x := (1, fun _ => 1, x.2.2)) ⟨rfl, (by show 1 ≤ 8; decide), fun i hi => ?_, h6⟩ c3
  have hi : i < 1 := hi
  show kOk _ _ _ 1 (va_up (uV (xC s)) 0 (nI o) i)
  rw [show i = 0 by omega, am_up_eq]
  exact kOk.o ho
/-- behind what is thrown -/
def tFin (Q : Nat → mT) (Z : Nat → fM) (m : Nat) (s : xT) : Prop := xO s = none → tB Q Z m s ∧ 1 ≤ xN s ∧ tyR Q Z m (lM s.1) (xC s)
theorem raise_ty (hz : zSol Q Z m) : ∀ (n : Nat) (s : xT) (o : Nat), n = xN s → tB Q Z m s → (1 ≤ xN s → tyM Q Z m (lM s.1) (xC s)) → 1 ≤ o → o ≤ lM s.1 → tFin Q Z m (xRaise Q n s o) ∧ lM (xRaise Q n s o).1 + xH (xRaise Q n s o) ≤ lM s.1 + xH s ∧ lNn (xRaise Q n s o).1 + xH (xRaise Q n s o) ≤ lNn s.1 + xH s + 3 * n + 1 ∧ lH (xRaise Q n s o).1 ≤ lH s.1 + 1 ∧ lD (xRaise Q n s o).1 = lD s.1 ∧ lX (xRaise Q n s o).1 = lX s.1 ∧ ∀ e, xO (xRaise Q n s o) = some e → xO s = some e ∨ e < 24 := by
  intro n
  induction n with
  | zero =>
    intro s o hn hb hc h1 h2
    refine ⟨(fun e => by cases e), Nat.le_refl _, ?_, ?_, rfl, rfl, fun e he => Or.inr ?_⟩
    · show lNn s.1 + xH s ≤ _; omega
    · show lH s.1 ≤ _; omega
    · have he : some (16 + xY s o) = some e := he
      cases he
      have := hb.1 o h1 h2
      omega
  | succ n ih =>
    intro s o hn hb hc h1 h2
    have hN : 1 ≤ xN s := by omega
    have e : xRaise Q (n + 1) s o = match xRow (Q (uM (xC s))) (uP (xC s)) (xY s o) (mR (Q (uM (xC s)))) 0 with
      | some r => xHave s o (mP (Q (uM (xC s))) r)
      | none => xRaise Q n (xFin Q s o).1 (xFin Q s o).2 := rfl
    cases hr : xRow (Q (uM (xC s))) (uP (xC s)) (xY s o) (mR (Q (uM (xC s)))) 0 with
    | some r =>
      rw [hr] at e
      have e : xRaise Q (n + 1) s o = xHave s o (mP (Q (uM (xC s))) r) := e
      rw [e]
      obtain ⟨r1, r2⟩ := xRow_some hr
      refine ⟨fun _ => ⟨hb, hN, have_ty hz (hc hN) h2 (by omega) r2⟩, Nat.le_refl _, ?_, Nat.le_refl _, rfl, rfl, fun e he => Or.inl he⟩
      show lNn s.1 + 1 + xH s ≤ _; omega
    | none =>
      rw [hr] at e
      have e : xRaise Q (n + 1) s o = xRaise Q n (xFin Q s o).1 (xFin Q s o).2 := e
      rw [e]
      obtain ⟨f1, f2, f3, f4, f5, f6, f7, f8, f9, f10, f11, -⟩ := xFin_ty (Q := Q) (o := o) hb hN h2
      obtain ⟨i1, i2, i3, i4, i5, i6, i7⟩ := ih (xFin Q s o).1 (xFin Q s o).2 (by omega) f1 (fun h => (f2 h).m) (f6 h1) f5
      exact ⟨i1, by omega, by omega, by omega, i5.trans f10, i6.trans f11, fun e he => by rw [← f4]; exact i7 e he⟩
def tOut (Q : Nat → mT) (Z : Nat → fM) (m : Nat) (q : xT × Nat) : Prop := (xO q.1 = none → tB Q Z m q.1) ∧ (q.2 = 0 → xO q.1 = none → 1 ≤ xN q.1 ∧ tyR Q Z m (lM q.1.1) (xC q.1)) ∧ (q.2 ≠ 0 → xO q.1 = none ∧ q.2 ≤ lM q.1.1 ∧ (1 ≤ xN q.1 → tyM Q Z m (lM q.1.1) (xC q.1))) ∧ ∀ e, xO q.1 = some e → e < 24
/-- how much the sizes grow in an instruction -/
def nOut (s : xT) (q : xT × Nat) : Prop := lM q.1.1 + xH q.1 ≤ lM s.1 + xH s + 1 ∧ lNn q.1.1 + xH q.1 ≤ lNn s.1 + xH s + 8 ∧ lH q.1.1 = lH s.1 ∧ lD q.1.1 = lD s.1 ∧ (lX q.1.1 ≤ lX s.1 ∨ lX q.1.1 ≤ 12) ∧ xN q.1 ≤ 12
theorem t_go {g : uT} {q : Nat} {y : fS} (hb : tB Q Z m s) (hN : 1 ≤ xN s) (ho : xO s = none) (h1 : uM g < 6) (h2 : rch Q m (uM g)) (h3 : uB g ≤ 1000) (ht : uTy (Q (uM g)) (Z (uM g)) (lM s.1) y g) (hc : fCov (Q (uM g)) (Z (uM g)) q y) : tOut Q Z m (xSet s (uGo g q), 0) := by
  obtain ⟨c1, z, c2, c3⟩ := hc
  refine ⟨fun _ => hb, fun _ _ => ⟨hN, h1, h2, c1, h3, z, c2, ht.le c3⟩, fun h => absurd rfl h, fun e he => ?_⟩
  have he : xO s = some e := he
  rw [ho] at he; cases he
theorem t_new {t : Nat} (hb : tB Q Z m s) (ho : xO s = none) (ht : t < 8) (hc : 1 ≤ xN s → tyM Q Z m (lM s.1) (xC s)) : tOut Q Z m (xNew s t) := by
  refine ⟨fun _ => (hb.make ht).tell, fun h => absurd h (Nat.succ_ne_zero _), fun _ => ⟨ho, Nat.le_refl _, fun hN => (hc hN).mono (Nat.le_succ _)⟩, fun e he => ?_⟩
  have he : xO s = some e := he
  rw [ho] at he; cases he
theorem n_new {s0 : xT} {t : Nat} (h1 : lM s.1 + xH s ≤ lM s0.1 + xH s0) (h2 : lNn s.1 + xH s ≤ lNn s0.1 + xH s0) (h3 : lH s.1 = lH s0.1) (h4 : lD s.1 = lD s0.1) (h5 : lX s.1 = lX s0.1) (h6 : xN s ≤ 12) : nOut s0 (xNew s t) := by
  refine ⟨?_, ?_, h3, h4, Or.inl (Nat.le_of_eq h5), h6⟩
  · show lM s.1 + 1 + xH s ≤ _; omega
  · show lNn s.1 + 1 + 1 + xH s ≤ _; omega
theorem n_set {f : uT} (hb : tB Q Z m s) : nOut s (xSet s f, 0) := ⟨by show lM s.1 + xH s ≤ _; omega, by show lNn s.1 + xH s ≤ _; omega, rfl, rfl, Or.inl (Nat.le_refl _), hb.2.2.1⟩
end Rz
/-- what an instruction needs -/
def xGd (g : Nat → Nat) (M : mT) (n : Nat) (f : uT) (op a : Nat) : Prop := match op with
  | 1 => uD f < 8
  | 2 => uD f < 8 ∧ uL f a = some (uGet f a)
  | 3 => 1 ≤ uD f
  | 4 => 1 ≤ uD f
  | 5 => 1 ≤ uD f ∧ uD f < 8
  | 6 => 2 ≤ uD f
  | 7 => 2 ≤ uD f
  | 8 => 2 ≤ uD f
  | 9 => 2 ≤ uD f
  | 10 => 2 ≤ uD f
  | 12 => 1 ≤ uD f
  | 13 => uD f < 8
  | 14 => uD f < 8
  | 15 => 1 ≤ uD f ∧ ∃ o, o ≤ n ∧ uTop f = nI o
  | 16 => 2 ≤ uD f ∧ ∃ o, o ≤ n ∧ uTop (uPop f) = nI o
  | 17 => 1 ≤ uD f
  | 18 => 1 ≤ uD f ∧ ∃ o, o ≤ n ∧ uTop f = nI o
  | 19 => 1 ≤ uD f ∧ ∃ o, o ≤ n ∧ uTop f = nI o
  | 20 => 1 ≤ uD f ∧ ∃ o, o ≤ n ∧ uTop f = nI o
  | 21 => g a ≤ uD f
  | 22 => 1 ≤ uD f
  | 23 => uD f < 8
  | 24 => uL f a = some (uGet f a) ∧ ∃ i, i < mN M ∧ uGet f a = nI i
  | 25 => 1 ≤ uD f
  | 26 => 1 ≤ uD f ∧ ∃ o, o ≤ n ∧ uTop f = nI o
  | 27 => uL f a = some (uGet f a)
  | _ => True
section Dz
variable {Q : Nat → mT} {Z : Nat → fM} {m : Nat} {s : xT}
theorem xFind_some {e : Nat → Nat} {b o k : Nat} : ∀ {h : Nat}, xFind e b o h = some k → k < h ∧ b ≤ k ∧ e k = o := by
  intro h
  induction h with
  | zero => intro q; cases q
  | succ h ih =>
    intro q
    have q : (if h < b then none else if e h = o then some h else xFind e b o h) = some k := q
    split at q
    · cases q
    · rename_i hb
      split at q
      · rename_i he; cases q; exact ⟨by omega, by omega, he⟩
      · have := ih q; exact ⟨by omega, this.2⟩
/-- the typing of a step, op by op: h..: what the solution says of the place -/
theorem do_ty (hz : zSol Q Z m) (hv : ∀ a, a < 6 → mV (Q a)) (hb : tB Q Z m s) (hN : 1 ≤ xN s) (ho : xO s = none) (hc : tyR Q Z m (lM s.1) (xC s)) (hH : xH s ≤ 1000) (hMb : lM s.1 ≤ 1000) : tOut Q Z m (xIns Q s) ∧ nOut s (xIns Q s) ∧ xGd (gP Q) (Q (uM (xC s))) (lM s.1) (xC s) (mO (Q (uM (xC s))) (uP (xC s))) (aN (Q (uM (xC s))) (uP (xC s))) := by
  obtain ⟨h1, h2, h3, h4, x, h5, ht⟩ := hc
  have hn0 : ∀ {v : Int32} {o : Nat}, v = nI o → v ≠ nI 0 → 1 ≤ o := fun {v o} e hne => by
    rcases Nat.eq_zero_or_pos o with h0 | h0
    · rw [e, h0] at hne; exact absurd rfl hne
    · exact h0
  have hs := (hz _ h1 h2).2 _ x h3 h5
  have hm := hv _ h1
  have hp := (hm.2.2.2.1 _ h3).1
  have hmM : ∀ {g : uT}, uM g = uM (xC s) → uP g = uP (xC s) → uB g = uB (xC s) → uL g = uL (xC s) → tyM Q Z m (lM s.1) g := fun {g} e1 e2 e3 e4 => by
    unfold tyM uLo
    rw [e1, e2, e3, e4]
    exact ⟨h1, h2, h3, h4, x, h5, ht.2.2.2⟩
  unfold xIns
  generalize hA : mA (Q (uM (xC s))) (uP (xC s)) = A
  generalize hBb : mB (Q (uM (xC s))) (uP (xC s)) = B
  have hAa : aN (Q (uM (xC s))) (uP (xC s)) = A.toNatClampNeg := by rw [← hA]
  have hBn : bN (Q (uM (xC s))) (uP (xC s)) = B.toNatClampNeg := by rw [← hBb]
  obtain ⟨⟨y, he, hnx, hbk⟩, -⟩ := hs
  have nx : (mO (Q (uM (xC s))) (uP (xC s)) ≠ 11 ∧ mO (Q (uM (xC s))) (uP (xC s)) ≠ 23 ∧ mO (Q (uM (xC s))) (uP (xC s)) ≠ 24 ∧ mO (Q (uM (xC s))) (uP (xC s)) ≠ 20 ∧ mO (Q (uM (xC s))) (uP (xC s)) ≠ 22) → fCov (Q (uM (xC s))) (Z (uM (xC s))) (uP (xC s) + 1) y := fun h => hnx _ (Or.inr ⟨h, rfl⟩)
  have jx : (mO (Q (uM (xC s))) (uP (xC s)) = 11 ∨ mO (Q (uM (xC s))) (uP (xC s)) = 12 ∨ mO (Q (uM (xC s))) (uP (xC s)) = 17 ∨ mO (Q (uM (xC s))) (uP (xC s)) = 23) → fCov (Q (uM (xC s))) (Z (uM (xC s))) B.toNatClampNeg y := fun h => by rw [← hBn]; exact hnx _ (Or.inl ⟨h, rfl⟩)
  have la := fun h => hm.loc h3 h
  have h14 : mO (Q (uM (xC s))) (uP (xC s)) = 14 → aN (Q (uM (xC s))) (uP (xC s)) < 8 := fun h => by
    have := (hm.a (k := 7) h3 (by decide) (sf_loc _ hp (by omega))).2
    omega
  have h21 := fun h => (hm.call h3 h).2
  rw [hAa] at he la h14 h21 ⊢
  rw [hBn] at he
  generalize hO : mO (Q (uM (xC s))) (uP (xC s)) = op at *
  have on : ∀ {g : uT} {s' : xT}, tB Q Z m s' → xN s' = xN s → xO s' = none → uM g = uM (xC s) → uP g = uP (xC s) → uB g = uB (xC s) → uTy (Q (uM (xC s))) (Z (uM (xC s))) (lM s'.1) y g → (op ≠ 11 ∧ op ≠ 23 ∧ op ≠ 24 ∧ op ≠ 20 ∧ op ≠ 22) → tOut Q Z m (xOn s' g) := fun {g s'} hb' e0 e00 e1 e2 e3 ht' hne => by
    unfold xOn
    exact t_go hb' (by omega) e00 (by rw [e1]; exact h1) (by rw [e1]; exact h2) (by rw [e3]; exact h4) (by rw [e1]; exact ht') (by rw [e1, e2]; exact nx hne)
  have go : ∀ {g : uT} {q : Nat}, uM g = uM (xC s) → uB g = uB (xC s) → uTy (Q (uM (xC s))) (Z (uM (xC s))) (lM s.1) y g → fCov (Q (uM (xC s))) (Z (uM (xC s))) q y → tOut Q Z m (xSet s (uGo g q), 0) := fun {g q} e1 e3 ht' hne =>
    t_go hb hN ho (by rw [e1]; exact h1) (by rw [e1]; exact h2) (by rw [e3]; exact h4) (by rw [e1]; exact ht') (by rw [e1]; exact hne)
  have nw : ∀ {g : uT} {t : Nat}, uM g = uM (xC s) → uP g = uP (xC s) → uB g = uB (xC s) → uL g = uL (xC s) → t < 8 → tOut Q Z m (xNew (xSet s g) t) ∧ nOut s (xNew (xSet s g) t) := fun {g t} e1 e2 e3 e4 h8 =>
    ⟨t_new (s := xSet s g) hb ho h8 (fun _ => hmM e1 e2 e3 e4), n_new (s := xSet s g) (Nat.le_refl _) (Nat.le_refl _) rfl rfl rfl hb.2.2.1⟩
  have n0 : ∀ {g : uT}, nOut s (xOn s g) := n_set hb
  have obj : ∀ {g : uT} {v : Int32} {q : xT × Nat}, uM g = uM (xC s) → uP g = uP (xC s) → uB g = uB (xC s) → uL g = uL (xC s) → (v ≠ nI 0 → tOut Q Z m q ∧ nOut s q) → tOut Q Z m (xObj (xSet s g) v q) ∧ nOut s (xObj (xSet s g) v q) := fun {g v q} e1 e2 e3 e4 hq => by
    unfold xObj
    split
    · exact nw e1 e2 e3 e4 (by decide)
    · rename_i hne; exact hq hne
  match op, hp with
  | 0, _ =>
    cases he
    exact ⟨on hb rfl ho rfl rfl rfl ht (by decide), n0, trivial⟩
  | 1, _ =>
    obtain ⟨t1, t2, -⟩ := ht.give (v := A) kOk.z0 he
    exact ⟨on hb rfl ho rfl rfl rfl t1 (by decide), n0, t2⟩
  | 2, _ =>
    have he : (match x.2.2 A.toNatClampNeg with | some k => if k < 10 then fGive k x else none | none => none) = some y := he
    have l8 := (la (by decide)).2
    cases hx : x.2.2 A.toNatClampNeg with
    | none => rw [hx] at he; cases he
    | some k =>
      rw [hx] at he
      have he : (if k < 10 then fGive k x else none) = some y := he
      split at he
      · obtain ⟨g1, g2⟩ := ht.get l8 hx
        obtain ⟨t1, t2, -⟩ := ht.give g2 he
        exact ⟨on hb rfl ho rfl rfl rfl t1 (by decide), n0, t2, g1⟩
      · cases he
  | 3, _ =>
    have he : (fAny x).map (fun q => (q.2.1, q.2.2.1, va_up q.2.2.2 A.toNatClampNeg (some q.1))) = some y := he
    obtain ⟨q, e1, e2⟩ := Option.map_eq_some_iff.mp he
    obtain ⟨t1, t2, t3, -⟩ := ht.any e1
    rw [← e2] at on
    exact ⟨on hb rfl ho rfl rfl rfl (t1.st t2) (by decide), n0, t3⟩
  | 4, _ =>
    have he : (fAny x).map (fun q => q.2) = some y := he
    obtain ⟨q, e1, e2⟩ := Option.map_eq_some_iff.mp he
    obtain ⟨t1, t2, t3, -⟩ := ht.any e1
    rw [← e2] at on
    exact ⟨on hb rfl ho rfl rfl rfl t1 (by decide), n0, t3⟩
  | 5, _ =>
    have he : (fAny x).bind (fun q => (fGive q.1 q.2).bind (fGive q.1)) = some y := he
    obtain ⟨q, e1, e2⟩ := Option.bind_eq_some_iff.mp he
    obtain ⟨r, e3, e4⟩ := Option.bind_eq_some_iff.mp e2
    obtain ⟨t1, t2, t3, -⟩ := ht.any e1
    obtain ⟨t4, t5, -⟩ := t1.give t2 e3
    obtain ⟨t6, t7, -⟩ := t4.give t2 e4
    have t7 : uD (xC s) - 1 + 1 < 8 := t7
    exact ⟨on hb rfl ho rfl rfl rfl t6 (by decide), n0, t3, by omega⟩
  | 6, _ =>
    have he : (fAny x).bind (fun q => (fAny q.2).bind fun r => (fGive q.1 r.2).bind (fGive r.1)) = some y := he
    obtain ⟨q, e1, e2⟩ := Option.bind_eq_some_iff.mp he
    obtain ⟨r, e3, e4⟩ := Option.bind_eq_some_iff.mp e2
    obtain ⟨u, e5, e6⟩ := Option.bind_eq_some_iff.mp e4
    obtain ⟨t1, t2, t3, -⟩ := ht.any e1
    obtain ⟨t4, t5, t6, -⟩ := t1.any e3
    obtain ⟨t7, -⟩ := t4.give t2 e5
    obtain ⟨t8, -⟩ := t7.give t5 e6
    have t6 : 1 ≤ uD (xC s) - 1 := t6
    exact ⟨on hb rfl ho rfl rfl rfl t8 (by decide), n0, show 2 ≤ uD (xC s) by omega⟩
  | 7, _ =>
    obtain ⟨u, e1, e2⟩ := Option.bind_eq_some_iff.mp (show (fTake 0 x).bind (fun y => (fTake 0 y).bind (fGive 0)) = some y from he)
    obtain ⟨r, e3, e4⟩ := Option.bind_eq_some_iff.mp e2
    obtain ⟨t1, -, t3, -⟩ := ht.take e1
    obtain ⟨t4, -, t6, -⟩ := t1.take e3
    obtain ⟨t7, -⟩ := t4.give (v := uTop (uPop (xC s)) + uTop (xC s)) kOk.z0 e4
    have t6 : 1 ≤ uD (xC s) - 1 := t6
    exact ⟨on hb rfl ho rfl rfl rfl t7 (by decide), n0, show 2 ≤ uD (xC s) by omega⟩
  | 8, _ =>
    obtain ⟨u, e1, e2⟩ := Option.bind_eq_some_iff.mp (show (fTake 0 x).bind (fun y => (fTake 0 y).bind (fGive 0)) = some y from he)
    obtain ⟨r, e3, e4⟩ := Option.bind_eq_some_iff.mp e2
    obtain ⟨t1, -, t3, -⟩ := ht.take e1
    obtain ⟨t4, -, t6, -⟩ := t1.take e3
    obtain ⟨t7, -⟩ := t4.give (v := uTop (uPop (xC s)) - uTop (xC s)) kOk.z0 e4
    have t6 : 1 ≤ uD (xC s) - 1 := t6
    exact ⟨on hb rfl ho rfl rfl rfl t7 (by decide), n0, show 2 ≤ uD (xC s) by omega⟩
  | 9, _ =>
    obtain ⟨u, e1, e2⟩ := Option.bind_eq_some_iff.mp (show (fTake 0 x).bind (fun y => (fTake 0 y).bind (fGive 0)) = some y from he)
    obtain ⟨r, e3, e4⟩ := Option.bind_eq_some_iff.mp e2
    obtain ⟨t1, -, t3, -⟩ := ht.take e1
    obtain ⟨t4, -, t6, -⟩ := t1.take e3
    obtain ⟨t7, -⟩ := t4.give (v := uTop (uPop (xC s)) * uTop (xC s)) kOk.z0 e4
    have t6 : 1 ≤ uD (xC s) - 1 := t6
    exact ⟨on hb rfl ho rfl rfl rfl t7 (by decide), n0, show 2 ≤ uD (xC s) by omega⟩
  | 10, _ =>
    obtain ⟨u, e1, e2⟩ := Option.bind_eq_some_iff.mp (show (fTake 0 x).bind (fun y => (fTake 0 y).bind (fGive 0)) = some y from he)
    obtain ⟨r, e3, e4⟩ := Option.bind_eq_some_iff.mp e2
    obtain ⟨t1, -, t3, -⟩ := ht.take e1
    obtain ⟨t4, -, t6, -⟩ := t1.take e3
    have t6 : 1 ≤ uD (xC s) - 1 := t6
    have hg : 2 ≤ uD (xC s) := by omega
    by_cases hy : uTop (xC s) = nI 0
    · have e : xDo Q s 10 A B = xNew (xSet s (uPop (uPop (xC s)))) 1 := if_pos hy
      rw [e]
      obtain ⟨w1, w2⟩ := nw (g := uPop (uPop (xC s))) (t := 1) rfl rfl rfl rfl (by decide)
      exact ⟨w1, w2, hg⟩
    · have e : xDo Q s 10 A B = xOn s (uPush (uPop (uPop (xC s))) (uTop (uPop (xC s)) / uTop (xC s))) := if_neg hy
      rw [e]
      obtain ⟨t7, -⟩ := t4.give (v := uTop (uPop (xC s)) / uTop (xC s)) kOk.z0 e4
      exact ⟨on hb rfl ho rfl rfl rfl t7 (by decide), n0, hg⟩
  | 11, _ =>
    cases he
    exact ⟨go rfl rfl ht (jx (by decide)), n_set hb, trivial⟩
  | 12, _ =>
    obtain ⟨t1, -, t3, -⟩ := ht.take (show fTake 0 x = some y from he)
    refine ⟨go rfl rfl t1 ?_, n_set hb, t3⟩
    split
    · exact jx (by decide)
    · exact nx (by decide)
  | 13, _ =>
    obtain ⟨t1, t2, -⟩ := ht.give (v := nI 0) (kOk.o (Nat.zero_le _)) he
    exact ⟨on hb rfl ho rfl rfl rfl t1 (by decide), n0, t2⟩
  | 14, _ =>
    obtain ⟨t1, t2, -⟩ := (ht.mono (Nat.le_succ _)).give (v := nI (lM s.1 + 1)) (kOk.o (Nat.le_refl _)) he
    refine ⟨on (hb.make (h14 rfl)) rfl ho rfl rfl rfl t1 (by decide), ⟨?_, ?_, rfl, rfl, Or.inl (Nat.le_refl _), hb.2.2.1⟩, t2⟩
    · show lM s.1 + 1 + xH s ≤ _; omega
    · show lNn s.1 + 1 + xH s ≤ _; omega
  | 15, _ =>
    obtain ⟨u, e1, e2⟩ := Option.bind_eq_some_iff.mp (show (fTake 1 x).bind (fGive 0) = some y from he)
    obtain ⟨t1, t2, t3, -⟩ := ht.take e1
    obtain ⟨t4, -⟩ := t1.give (v := xI s (uTop (xC s)).toNatClampNeg) kOk.z0 e2
    obtain ⟨w1, w2⟩ := obj (g := uPop (xC s)) (v := uTop (xC s)) rfl rfl rfl rfl (fun _ => ⟨on (g := uPush (uPop (xC s)) (xI s (uTop (xC s)).toNatClampNeg)) hb rfl ho rfl rfl rfl t4 (by decide), n0⟩)
    exact ⟨w1, w2, t3, t2.1 rfl⟩
  | 16, _ =>
    obtain ⟨u, e1, e2⟩ := Option.bind_eq_some_iff.mp (show (fTake 0 x).bind (fTake 1) = some y from he)
    obtain ⟨t1, t2, t3, -⟩ := ht.take e1
    obtain ⟨t4, t5, t6, -⟩ := t1.take e2
    have t6 : 1 ≤ uD (xC s) - 1 := t6
    obtain ⟨w1, w2⟩ := obj (g := uPop (uPop (xC s))) (v := uTop (uPop (xC s))) rfl rfl rfl rfl (fun _ => ⟨on (g := uPop (uPop (xC s))) (s' := xItem s (uTop (uPop (xC s))).toNatClampNeg (uTop (xC s))) hb rfl ho rfl rfl rfl t4 (by decide), n_set (Q := Q) (Z := Z) (m := m) hb⟩)
    exact ⟨w1, w2, show 2 ≤ uD (xC s) by omega, t5.1 rfl⟩
  | 17, _ =>
    obtain ⟨t1, -, t3, -⟩ := ht.take (show fTake 1 x = some y from he)
    refine ⟨go rfl rfl t1 ?_, n_set hb, t3⟩
    split
    · exact jx (by decide)
    · exact nx (by decide)
  | 18, _ =>
    obtain ⟨t1, t2, t3, -⟩ := ht.take (show fTake 1 x = some y from he)
    obtain ⟨o, ho1, ho2⟩ := t2.1 rfl
    obtain ⟨w1, w2⟩ := obj (g := uPop (xC s)) (v := uTop (xC s)) rfl rfl rfl rfl (q := xOn (xTell (xHeld s (xH s + 1) (va_up (xE s) (xH s) (uTop (xC s)).toNatClampNeg)) (uTop (xC s)) 2) (uPop (xC s))) (fun hne => by
      refine ⟨on (hb.held (fun k hk => ?_)).tell rfl ho rfl rfl rfl t1 (by decide), ⟨?_, ?_, rfl, rfl, Or.inl (Nat.le_refl _), hb.2.2.1⟩⟩
      · by_cases e : k = xH s
        · rw [e, am_up_eq, ho2]
          have := hn0 ho2 hne
          rw [nI_clamp (by have := hMb; omega)]
          omega
        · rw [am_up_ne e]; exact hb.2.1 k (by omega)
      · show lM s.1 + (xH s + 1) ≤ _; omega
      · show lNn s.1 + 1 + (xH s + 1) ≤ _; omega)
    exact ⟨w1, w2, t3, t2.1 rfl⟩
  | 19, _ =>
    obtain ⟨t1, t2, t3, -⟩ := ht.take (show fTake 1 x = some y from he)
    obtain ⟨w1, w2⟩ := obj (g := uPop (xC s)) (v := uTop (xC s)) rfl rfl rfl rfl (q := xLeave s (uPop (xC s)) (uTop (xC s)).toNatClampNeg) (fun hne => by
      unfold xLeave
      cases hf : xFind (xE s) (uB (uPop (xC s))) (uTop (xC s)).toNatClampNeg (xH s) with
      | none => exact nw rfl rfl rfl rfl (by decide)
      | some k =>
        obtain ⟨f1, f2, f3⟩ := xFind_some hf
        refine ⟨on (hb.held (fun i hi => ?_)).tell rfl ho rfl rfl rfl t1 (by decide), ⟨?_, ?_, rfl, rfl, Or.inl (Nat.le_refl _), hb.2.2.1⟩⟩
        · split
          · exact hb.2.1 i (by omega)
          · exact hb.2.1 (i + 1) (by omega)
        · show lM s.1 + (xH s - 1) ≤ _; omega
        · show lNn s.1 + 1 + (xH s - 1) ≤ _; omega)
    exact ⟨w1, w2, t3, t2.1 rfl⟩
  | 20, _ =>
    obtain ⟨t1, t2, t3, -⟩ := ht.take (show fTake 1 x = some y from he)
    obtain ⟨o, ho1, ho2⟩ := t2.1 rfl
    obtain ⟨w1, w2⟩ := obj (g := uPop (xC s)) (v := uTop (xC s)) rfl rfl rfl rfl (q := (xTell (xSet s (uPop (xC s))) (nI (xY s (uTop (xC s)).toNatClampNeg)) 4, (uTop (xC s)).toNatClampNeg)) (fun hne => by
      have := hn0 ho2 hne
      have e : (uTop (xC s)).toNatClampNeg = o := by rw [ho2]; exact nI_clamp (by have := hMb; omega)
      rw [e]
      refine ⟨⟨fun _ => hb, fun (h : o = 0) => absurd h (by omega), fun _ => ⟨ho, ho1, fun _ => hmM rfl rfl rfl rfl⟩, fun e he => ?_⟩, ⟨?_, ?_, rfl, rfl, Or.inl (Nat.le_refl _), hb.2.2.1⟩⟩
      · have he : xO s = some e := he
        rw [ho] at he; cases he
      · show lM s.1 + xH s ≤ _; omega
      · show lNn s.1 + 1 + xH s ≤ _; omega)
    exact ⟨w1, w2, t3, t2.1 rfl⟩
  | 21, _ =>
    obtain ⟨u, e1, e2⟩ := Option.bind_eq_some_iff.mp (show (fTakes (gP Q A.toNatClampNeg) x).bind (fGive 0) = some y from he)
    obtain ⟨t1, t2, t3⟩ := ht.takes e1
    have hA6 := h21 rfl
    by_cases h12 : xN s = 12
    · have e : xDo Q s 21 A B = xNew s 4 := if_pos h12
      rw [e]
      exact ⟨t_new hb ho (by decide) (fun _ => hmM rfl rfl rfl rfl), n_new (Nat.le_refl _) (Nat.le_refl _) rfl rfl rfl hb.2.2.1, t2⟩
    · have e : xDo Q s 21 A B = (xCall Q s A.toNatClampNeg, 0) := if_neg h12
      rw [e]
      have hN12 := hb.2.2.1
      have hr' : rch Q m A.toNatClampNeg := h2.st h1 ⟨_, h3, hO, hAa⟩
      have hcv := (hz _ hA6 hr').1
      obtain ⟨c1, z, c2, c3⟩ := hcv
      have key : ∀ t : xT, t = xMost (s.1, s.2.1, s.2.2.1, s.2.2.2.1, (xN s + 1, va_up (xF s) (xN s - 1) (uLess (xC s) (mG (Q A.toNatClampNeg))), (A.toNatClampNeg, 0, 0, xH s, (fun _ => nI 0), fun i => if i < mG (Q A.toNatClampNeg) then some (uV (xC s) (uD (xC s) - mG (Q A.toNatClampNeg) + i)) else none)), xO s) → tB Q Z m t ∧ 1 ≤ xN t ∧ tyR Q Z m (lM t.1) (xC t) ∧ xO t = none ∧ lM t.1 = lM s.1 ∧ xH t = xH s ∧ lNn t.1 = lNn s.1 ∧ lH t.1 = lH s.1 ∧ lD t.1 = lD s.1 ∧ (lX t.1 ≤ lX s.1 ∨ lX t.1 ≤ 12) ∧ xN t ≤ 12 := by
        intro t et
        subst et
        refine ⟨⟨hb.1, hb.2.1, show xN s + 1 ≤ 12 by omega, fun i hi => ?_⟩, Nat.le_add_left 1 _, ⟨hA6, hr', c1, hH, z, c2, uTy.le ?_ c3⟩, ho, rfl, rfl, rfl, rfl, rfl, ?_, show xN s + 1 ≤ 12 by omega⟩
        · have hi : i + 1 < xN s + 1 := hi
          show tyS Q Z m (lM s.1) (va_up (xF s) (xN s - 1) (uLess (xC s) (mG (Q A.toNatClampNeg))) i)
          by_cases e : i = xN s - 1
          · rw [e, am_up_eq]
            exact ⟨h1, h2, h3, h4, hO, x, u, h5, (by show fTakes (gP Q (aN (Q (uM (xC s))) (uP (xC s)))) x = some u; rw [hAa]; exact e1), t1⟩
          · rw [am_up_ne e]; exact hb.2.2.2 i (by omega)
        · refine ⟨rfl, Nat.zero_le _, fun i hi => absurd hi (Nat.not_lt_zero i), fun i hi k hk => ?_⟩
          have hk : (if i < mG (Q A.toNatClampNeg) then some 0 else none) = some k := hk
          split at hk
          · rename_i hi2
            cases hk
            exact ⟨_, if_pos hi2, kOk.z0⟩
          · cases hk
        · show Nat.max (lX s.1) (xN s + 1) ≤ lX s.1 ∨ Nat.max (lX s.1) (xN s + 1) ≤ 12
          by_cases hx : xN s + 1 ≤ lX s.1
          · exact Or.inl (Nat.max_le.mpr ⟨Nat.le_refl _, hx⟩)
          · exact Or.inr (Nat.max_le.mpr ⟨by omega, by omega⟩)
      have fin : ∀ t : xT, (tB Q Z m t ∧ 1 ≤ xN t ∧ tyR Q Z m (lM t.1) (xC t) ∧ xO t = none ∧ lM t.1 = lM s.1 ∧ xH t = xH s ∧ lNn t.1 ≤ lNn s.1 + 1 ∧ lH t.1 = lH s.1 ∧ lD t.1 = lD s.1 ∧ (lX t.1 ≤ lX s.1 ∨ lX t.1 ≤ 12) ∧ xN t ≤ 12) → tOut Q Z m (t, 0) ∧ nOut s (t, 0) := by
        rintro t ⟨k1, k2, k3, k4, k5, k6, k7, k8, k9, k10, k11⟩
        refine ⟨⟨fun _ => k1, fun _ _ => ⟨k2, k3⟩, fun h => absurd rfl h, fun e he => ?_⟩, ⟨?_, ?_, k8, k9, k10, k11⟩⟩
        · have he : xO t = some e := he
          rw [k4] at he; cases he
        · show lM t.1 + xH t ≤ _; omega
        · show lNn t.1 + xH t ≤ _; omega
      have kk := key _ rfl
      obtain ⟨w1, w2⟩ := fin (xCall Q s A.toNatClampNeg) (by
        obtain ⟨k1, k2, k3, k4, k5, k6, k7, k8, k9, k10, k11⟩ := kk
        unfold xCall xOpen
        dsimp only
        split
        · exact ⟨k1, k2, k3, k4, k5, k6, Nat.le_of_eq (congrArg (fun n => n + 1) k7), k8, k9, k10, k11⟩
        · exact ⟨k1, k2, k3, k4, k5, k6, Nat.le_succ_of_le (Nat.le_of_eq k7), k8, k9, k10, k11⟩)
      exact ⟨w1, w2, t2⟩
  | 22, _ =>
    obtain ⟨t1, -, t3, -⟩ := ht.take (show fTake 0 x = some y from he)
    obtain ⟨f1, f2, f3, f4, f5, f6, f7, f8, f9, f10, f11, f12⟩ := xFin_ty (Q := Q) (Z := Z) (m := m) (s := xSet s (uPop (xC s))) (o := 0) hb hN (Nat.zero_le _)
    have f3 : xN (xFin Q (xSet s (uPop (xC s))) 0).1 = xN s - 1 := f3
    have f7 : lM (xFin Q (xSet s (uPop (xC s))) 0).1.1 + xH (xFin Q (xSet s (uPop (xC s))) 0).1 ≤ lM s.1 + xH s := f7
    have f8 : lNn (xFin Q (xSet s (uPop (xC s))) 0).1.1 + xH (xFin Q (xSet s (uPop (xC s))) 0).1 ≤ lNn s.1 + xH s + 3 := f8
    have f9 : lH (xFin Q (xSet s (uPop (xC s))) 0).1.1 = lH s.1 := f9
    have f10 : lD (xFin Q (xSet s (uPop (xC s))) 0).1.1 = lD s.1 := f10
    have f11 : lX (xFin Q (xSet s (uPop (xC s))) 0).1.1 = lX s.1 := f11
    have f4 : xO (xFin Q (xSet s (uPop (xC s))) 0).1 = none := f4.trans ho
    have hN12 := hb.2.2.1
    show tOut Q Z m (xBack (xFin Q (xSet s (uPop (xC s))) 0) (uTop (xC s))) ∧ nOut s (xBack (xFin Q (xSet s (uPop (xC s))) 0) (uTop (xC s))) ∧ 1 ≤ uD (xC s)
    generalize xFin Q (xSet s (uPop (xC s))) 0 = q at *
    unfold xBack
    by_cases hq : q.2 = 0
    · rw [if_pos hq]
      by_cases hn : xN q.1 = 0
      · rw [if_pos hn]
        refine ⟨⟨(fun e => by cases e), (fun _ e => by cases e), fun h => absurd rfl h, fun e he => ?_⟩, ⟨?_, ?_, f9, f10, Or.inl (Nat.le_of_eq f11), ?_⟩, t3⟩
        · cases he; decide
        · show lM q.1.1 + xH q.1 ≤ _; omega
        · show lNn q.1.1 + xH q.1 ≤ _; omega
        · show xN q.1 ≤ 12; omega
      · rw [if_neg hn]
        obtain ⟨g1, g2, g3, g4, g5, x', y', g6, g7, g8⟩ := f2 (by omega)
        obtain ⟨⟨y2, he2, hnx2, -⟩, -⟩ := (hz _ g1 g2).2 _ x' g3 g6
        rw [g5] at he2
        obtain ⟨u, e1, e2⟩ := Option.bind_eq_some_iff.mp (show (fTakes (gP Q (aN (Q (uM (xC q.1))) (uP (xC q.1)))) x').bind (fGive 0) = some y2 from he2)
        rw [g7] at e1; cases e1
        obtain ⟨w1, -⟩ := g8.give (v := uTop (xC s)) kOk.z0 e2
        have cv := hnx2 (uP (xC q.1) + 1) (Or.inr ⟨by rw [g5]; decide, rfl⟩)
        refine ⟨t_go (g := uPush (xC q.1) (uTop (xC s))) f1 (by omega) f4 g1 g2 g4 w1 cv, ⟨?_, ?_, f9, f10, Or.inl (Nat.le_of_eq f11), ?_⟩, t3⟩
        · show lM q.1.1 + xH q.1 ≤ _; omega
        · show lNn q.1.1 + xH q.1 ≤ _; omega
        · show xN q.1 ≤ 12; omega
    · rw [if_neg hq]
      refine ⟨⟨fun _ => f1, fun h => absurd h hq, fun _ => ⟨f4, f5, fun h => (f2 h).m⟩, fun e he => ?_⟩, ⟨by omega, by omega, f9, f10, Or.inl (Nat.le_of_eq f11), by omega⟩, t3⟩
      rw [f4] at he; cases he
  | 23, _ =>
    obtain ⟨t1, t2, -⟩ := ht.give (v := nI (uP (xC s) + 1)) (k := 10 + B.toNatClampNeg) ⟨fun h => absurd h (by omega), fun _ => ⟨_, h3, by rw [h5]; exact Option.some_ne_none x, hO, by rw [hBn], rfl⟩⟩ he
    exact ⟨go rfl rfl t1 (jx (by decide)), n_set hb, t2⟩
  | 24, _ =>
    have he : (match x.2.2 A.toNatClampNeg with | some k => if k < 10 then none else some x | none => none) = some y := he
    have l8 := (la (by decide)).2
    cases hx : x.2.2 A.toNatClampNeg with
    | none => rw [hx] at he; cases he
    | some k =>
      rw [hx] at he
      have he : (if k < 10 then none else some x) = some y := he
      split at he
      · cases he
      · rename_i hk
        cases he
        obtain ⟨g1, g2⟩ := ht.get l8 hx
        obtain ⟨i, i1, i2, i3, i4, i5⟩ := g2.2 (by omega)
        have cv := hbk rfl i i1 i2 i3 (by rw [hAa, hx, i4])
        have ec : (uGet (xC s) A.toNatClampNeg).toNatClampNeg = i + 1 := by
          rw [i5]; exact nI_clamp (by have := hm.1; have := cv.1; omega)
        refine ⟨go rfl rfl ht (by rw [ec]; exact cv), n_set hb, g1, i + 1, cv.1, i5⟩
  | 25, _ =>
    obtain ⟨t1, -, t3, -⟩ := ht.take (show fTake 0 x = some y from he)
    refine ⟨on hb.tell rfl ho rfl rfl rfl t1 (by decide), ⟨?_, ?_, rfl, rfl, Or.inl (Nat.le_refl _), hb.2.2.1⟩, t3⟩
    · show lM s.1 + xH s ≤ _; omega
    · show lNn s.1 + 1 + xH s ≤ _; omega
  | 26, _ =>
    obtain ⟨u, e1, e2⟩ := Option.bind_eq_some_iff.mp (show (fTake 1 x).bind (fGive 0) = some y from he)
    obtain ⟨t1, t2, t3, -⟩ := ht.take e1
    obtain ⟨t4, -⟩ := t1.give (v := nI (xY s (uTop (xC s)).toNatClampNeg)) kOk.z0 e2
    obtain ⟨w1, w2⟩ := obj (g := uPop (xC s)) (v := uTop (xC s)) rfl rfl rfl rfl (fun _ => ⟨on (g := uPush (uPop (xC s)) (nI (xY s (uTop (xC s)).toNatClampNeg))) hb rfl ho rfl rfl rfl t4 (by decide), n0⟩)
    exact ⟨w1, w2, t3, t2.1 rfl⟩
  | 27, _ =>
    have he : (match x.2.2 A.toNatClampNeg with | some k => if k = 0 then some x else none | none => none) = some y := he
    have l8 := (la (by decide)).2
    cases hx : x.2.2 A.toNatClampNeg with
    | none => rw [hx] at he; cases he
    | some k =>
      rw [hx] at he
      have he : (if k = 0 then some x else none) = some y := he
      split at he
      · rename_i hk
        subst hk
        cases he
        exact ⟨on hb rfl ho rfl rfl rfl (ht.st0 hx) (by decide), n0, (ht.get l8 hx).1⟩
      · cases he
  | n + 28, hp => exact absurd hp (by omega)
end Dz
def xNum (s : xT) : Prop := lM s.1 + xH s ≤ lD s.1 ∧ lNn s.1 + xH s ≤ 64 * lD s.1 + 64 ∧ lH s.1 ≤ lD s.1 ∧ lX s.1 ≤ 12 ∧ ∀ e, xO s = some e → e < 24
def xInv (Q : Nat → mT) (Z : Nat → fM) (m : Nat) (s : xT) : Prop := tFin Q Z m s ∧ xNum s
section Iv
variable {Q : Nat → mT} {Z : Nat → fM} {m : Nat} {s : xT}
/-- behind an instruction, before what is THROWN is seen to -/
def xMid (Q : Nat → mT) (Z : Nat → fM) (m : Nat) (q : xT × Nat) : Prop := tOut Q Z m q ∧ lM q.1.1 + xH q.1 ≤ lD q.1.1 ∧ lNn q.1.1 + xH q.1 ≤ 64 * lD q.1.1 + 8 ∧ lH q.1.1 + 1 ≤ lD q.1.1 ∧ lX q.1.1 ≤ 12 ∧ xN q.1 ≤ 12
theorem xInv.ins (hz : zSol Q Z m) (hv : ∀ a, a < 6 → mV (Q a)) (h : xInv Q Z m s) (ho : xO s = none) (hl : lD s.1 < 1000) : xMid Q Z m (xIns Q (xTick s)) ∧ lD (xIns Q (xTick s)).1.1 = lD s.1 + 1 ∧ xGd (gP Q) (Q (uM (xC s))) (lM s.1) (xC s) (mO (Q (uM (xC s))) (uP (xC s))) (aN (Q (uM (xC s))) (uP (xC s))) := by
  obtain ⟨ht, n1, n2, n3, n4, n5⟩ := h
  obtain ⟨hb, hN, hc⟩ := ht ho
  obtain ⟨d1, ⟨d2, d3, d4, d5, d6, d7⟩, d8⟩ := do_ty (s := xTick s) hz hv hb hN ho hc (by show xH s ≤ 1000; omega) (by show lM s.1 ≤ 1000; omega)
  have d2 : lM (xIns Q (xTick s)).1.1 + xH (xIns Q (xTick s)).1 ≤ lM s.1 + xH s + 1 := d2
  have d3 : lNn (xIns Q (xTick s)).1.1 + xH (xIns Q (xTick s)).1 ≤ lNn s.1 + xH s + 8 := d3
  have d4 : lH (xIns Q (xTick s)).1.1 = lH s.1 := d4
  have d5 : lD (xIns Q (xTick s)).1.1 = lD s.1 + 1 := d5
  have d6 : lX (xIns Q (xTick s)).1.1 ≤ lX s.1 ∨ lX (xIns Q (xTick s)).1.1 ≤ 12 := d6
  exact ⟨⟨d1, by omega, by omega, by omega, by omega, d7⟩, d5, d8⟩
theorem xMid.aft {q : xT × Nat} (hz : zSol Q Z m) (h : xMid Q Z m q) : xInv Q Z m (xAft Q q) ∧ lD (xAft Q q).1 = lD q.1.1 := by
  obtain ⟨⟨t1, t2, t3, t4⟩, n1, n2, n3, n4, n5⟩ := h
  unfold xAft
  by_cases hq : q.2 = 0
  · rw [if_pos hq]
    exact ⟨⟨fun ho => ⟨t1 ho, t2 hq ho⟩, n1, by omega, by omega, n4, t4⟩, rfl⟩
  · rw [if_neg hq]
    obtain ⟨w1, w2, w3⟩ := t3 hq
    obtain ⟨r1, r2, r3, r4, r5, r6, r7⟩ := raise_ty hz (xN q.1) q.1 q.2 rfl (t1 w1) w3 (by omega) w2
    refine ⟨⟨r1, by omega, by omega, by omega, by omega, fun e he => ?_⟩, r5⟩
    rcases r7 e he with h | h
    · rw [w1] at h; cases h
    · exact h
theorem xInv.step (hz : zSol Q Z m) (hv : ∀ a, a < 6 → mV (Q a)) (h : xInv Q Z m s) (ho : xO s = none) (hl : lD s.1 < 1000) : xInv Q Z m (xAft Q (xIns Q (xTick s))) ∧ lD (xAft Q (xIns Q (xTick s))).1 = lD s.1 + 1 := by
  obtain ⟨h1, h2, -⟩ := h.ins hz hv ho hl
  obtain ⟨h3, h4⟩ := h1.aft hz
  exact ⟨h3, h4.trans h2⟩
theorem ini_inv (x y z : Int32) (hm : m < 6) (hz : zSol Q Z m) : xInv Q Z m (xIni Q m x y z) ∧ lD (xIni Q m x y z).1 = 0 := by
  obtain ⟨c1, u, c2, c3⟩ := (hz m hm rch.rf).1
  have key : ∀ t : xT, (xY t = (fun _ => 0) ∧ lM t.1 = 0 ∧ xH t = 0 ∧ xN t = 1 ∧ xC t = (m, 0, 0, 0, (fun _ => nI 0), fun i => if i < mG (Q m) then some (if i = 0 then x else if i = 1 then y else z) else none) ∧ xO t = none ∧ lD t.1 = 0 ∧ lNn t.1 ≤ 1 ∧ lH t.1 = 0 ∧ lX t.1 = 1) → xInv Q Z m t ∧ lD t.1 = 0 := by
    rintro t ⟨k1, k2, k3, k4, k5, k6, k7, k8, k9, k10⟩
    refine ⟨⟨fun _ => ⟨⟨fun o _ _ => by rw [k1]; exact Nat.zero_lt_succ 7, fun k hk => absurd hk (by omega), by omega, fun i hi => absurd hi (by omega)⟩, by omega, ?_⟩, by omega, by omega, by omega, by omega, fun e he => by rw [k6] at he; cases he⟩, k7⟩
    rw [k5]
    refine ⟨hm, rch.rf, c1, Nat.zero_le _, u, c2, uTy.le ?_ c3⟩
    refine ⟨rfl, Nat.zero_le _, fun i hi => absurd hi (Nat.not_lt_zero i), fun i hi k hk => ?_⟩
    have hk : (if i < mG (Q m) then some 0 else none) = some k := hk
    split at hk
    · rename_i hi2
      cases hk
      exact ⟨_, if_pos hi2, kOk.z0⟩
    · cases hk
  unfold xIni xOpen
  dsimp only
  split
  · exact key _ ⟨rfl, rfl, rfl, rfl, rfl, rfl, rfl, Nat.le_refl _, rfl, rfl⟩
  · exact key _ ⟨rfl, rfl, rfl, rfl, rfl, rfl, rfl, Nat.zero_le _, rfl, rfl⟩
theorem xRun_inv (hz : zSol Q Z m) (hv : ∀ a, a < 6 → mV (Q a)) : ∀ (n : Nat) (s : xT), xInv Q Z m s → lD s.1 + n ≤ 1000 → xInv Q Z m (xRun Q n s) ∧ lD (xRun Q n s).1 ≤ 1000
  | 0, s, h, hl => ⟨h, hl⟩
  | n + 1, s, h, hl => by
    show xInv Q Z m (if xO s = none then xRun Q n (xAft Q (xIns Q (xTick s))) else s) ∧ lD (if xO s = none then xRun Q n (xAft Q (xIns Q (xTick s))) else s).1 ≤ 1000
    split
    · rename_i ho
      obtain ⟨h1, h2⟩ := h.step hz hv ho (by omega)
      exact xRun_inv hz hv n _ h1 (by omega)
    · exact ⟨h, by omega⟩
end Iv
/-! The reference's memory holds a run. -/
def rF (p : Nat) (G : am_G) (i : Nat) (f : uT) : Prop := (G.2.1 185 i = nI (6 * p + uM f) ∧ G.2.1 186 i = nI (uP f) ∧ G.2.1 187 i = nI (uD f) ∧ G.2.1 188 i = nI (uB f) ∧ uD f ≤ 8) ∧ (∀ d, d < uD f → G.2.1 189 (8 * i + d) = uV f d) ∧ ∀ a, a < 8 → ∀ v, uL f a = some v → G.2.1 190 (8 * i + a) = v
def xR (p : Nat) (G : am_G) (s : xT) : Prop := rL G s.1 ∧ (G.2.1 163 35 = nI (xH s) ∧ G.2.1 163 36 = nI (xN s)) ∧ (∀ o, o < lM s.1 → G.2.1 182 o = nI (xY s (o + 1)) ∧ G.2.1 183 o = xI s (o + 1)) ∧ (∀ k, k < xH s → G.2.1 184 k = nI (xE s k)) ∧ (∀ i, i + 1 < xN s → rF p G i (xF s i)) ∧ (1 ≤ xN s → rF p G (xN s - 1) (xC s)) ∧ (xO s = none → G.2.1 163 43 = am_b false) ∧ ∀ e, xO s = some e → G.2.1 163 43 = am_b true ∧ G.2.1 163 42 = nI e
/-- only what a run writes has changed; only the trace -/
def oX (G G' : am_G) : Prop := oR (fun i => i = 163 ∨ (182 ≤ i ∧ i ≤ 191)) G G' ∧ ∀ k, (k < 34 ∨ 43 < k) → G'.2.1 163 k = G.2.1 163 k
def oTl (G G' : am_G) : Prop := oR (fun i => i = 163 ∨ i = 191) G G' ∧ ∀ k, k ≠ 39 → G'.2.1 163 k = G.2.1 163 k
theorem oX.rf {G : am_G} : oX G G := ⟨oR.rf, fun _ _ => rfl⟩
theorem oX.tr {G G1 G2 : am_G} (h1 : oX G G1) (h2 : oX G1 G2) : oX G G2 := ⟨h1.1.tr h2.1, fun k a => (h2.2 k a).trans (h1.2 k a)⟩
theorem oX.St {G G1 : am_G} (h : oX G G1) (hs : St0 G) : St0 G1 := h.1.St hs
theorem oX.wi {G : am_G} {i k : Nat} {x : Int32} (h : 182 ≤ i ∧ i ≤ 191) : oX G (am_wi G i k x) := ⟨oR.wi (Or.inr h), fun q _ => by rw [wi_I (by omega)]⟩
theorem oX.w3 {G : am_G} {k : Nat} {x : Int32} (h : 34 ≤ k ∧ k ≤ 43) : oX G (am_wi G 163 k x) := ⟨oR.wi (Or.inl rfl), fun q hq => by rw [wi_In (by omega)]⟩
theorem oTl.x {G G' : am_G} (h : oTl G G') : oX G G' := ⟨h.1.up (fun i hi => by omega), fun k hk => h.2 k (by omega)⟩
section Xr
variable {p : Nat} {G G' : am_G} {s : xT}
theorem rF.same {i : Nat} {f : uT} (h : rF p G i f) (h1 : ∀ r, 185 ≤ r → r ≤ 188 → G'.2.1 r i = G.2.1 r i) (h2 : ∀ r d, 189 ≤ r → r ≤ 190 → d < 8 → G'.2.1 r (8 * i + d) = G.2.1 r (8 * i + d)) : rF p G' i f := by
  obtain ⟨⟨a1, a2, a3, a4, a5⟩, b, c⟩ := h
  refine ⟨⟨by rw [h1 185 (by omega) (by omega)]; exact a1, by rw [h1 186 (by omega) (by omega)]; exact a2, by rw [h1 187 (by omega) (by omega)]; exact a3, by rw [h1 188 (by omega) (by omega)]; exact a4, a5⟩, fun d hd => by rw [h2 189 d (by omega) (by omega) (by omega)]; exact b d hd, fun a ha v hv => by rw [h2 190 a (by omega) (by omega) ha]; exact c a ha v hv⟩
/-- the latest frame changes -/
theorem xR.cur {f : uT} (h : xR p G s) (hN : 1 ≤ xN s) (h1 : ∀ r, r < 186 ∨ 190 < r → G'.2.1 r = G.2.1 r) (h2 : ∀ r, 186 ≤ r → r ≤ 188 → ∀ i, i ≠ xN s - 1 → G'.2.1 r i = G.2.1 r i) (h3 : ∀ r, 189 ≤ r → r ≤ 190 → ∀ i, i < 8 * (xN s - 1) → G'.2.1 r i = G.2.1 r i) (hf : rF p G' (xN s - 1) f) : xR p G' (xSet s f) := by
  obtain ⟨a, b, c, d, e, f', g, i⟩ := h
  unfold xR rL
  rw [h1 163 (by omega), h1 191 (by omega), h1 182 (by omega), h1 183 (by omega), h1 184 (by omega)]
  refine ⟨a, b, c, d, fun k hk => ?_, fun _ => hf, g, i⟩
  have hk : k + 1 < xN s := hk
  refine (e k hk).same (fun r r1 r2 => ?_) (fun r q r1 r2 r3 => h3 r r1 r2 _ (by omega))
  by_cases er : r = 185
  · rw [er, h1 185 (by omega)]
  · exact h2 r (by omega) r2 k (by omega)
theorem xR.pop (h : xR p G s) (hN : 1 ≤ xN s) : xR p (am_wi G 187 (xN s - 1) (nI (uD (xC s) - 1))) (xSet s (uPop (xC s))) := by
  obtain ⟨⟨a1, a2, a3, a4, a5⟩, b, c⟩ := h.2.2.2.2.2.1 hN
  refine h.cur hN (fun r hr => wi_I (by omega)) (fun r r1 r2 i hi => ?_) (fun r r1 r2 i hi => by rw [wi_I (by omega)]) ⟨⟨?_, ?_, wi_Is, ?_, by show uD (xC s) - 1 ≤ 8; omega⟩, fun d hd => ?_, fun a ha v hv => ?_⟩
  · by_cases e : r = 187
    · rw [e, wi_In hi]
    · rw [wi_I e]
  · rw [wi_I (by decide)]; exact a1
  · rw [wi_I (by decide)]; exact a2
  · rw [wi_I (by decide)]; exact a4
  · rw [wi_I (by decide)]; exact b d (by have hd : d < uD (xC s) - 1 := hd; omega)
  · rw [wi_I (by decide)]; exact c a ha v hv
theorem xR.push {v : Int32} (h : xR p G s) (hN : 1 ≤ xN s) (h8 : uD (xC s) < 8) : xR p (am_wi (am_wi G 189 (8 * (xN s - 1) + uD (xC s)) v) 187 (xN s - 1) (nI (uD (xC s) + 1))) (xSet s (uPush (xC s) v)) := by
  obtain ⟨⟨a1, a2, a3, a4, a5⟩, b, c⟩ := h.2.2.2.2.2.1 hN
  refine h.cur hN (fun r hr => by rw [wi_I (by omega), wi_I (by omega)]) (fun r r1 r2 i hi => ?_) (fun r r1 r2 i hi => ?_) ⟨⟨?_, ?_, wi_Is, ?_, h8⟩, fun d hd => ?_, fun a ha v hv => ?_⟩
  · by_cases e : r = 187
    · rw [e, wi_In hi, wi_I (by decide)]
    · rw [wi_I e, wi_I (by omega)]
  · rw [wi_I (by omega)]
    by_cases e : r = 189
    · rw [e, wi_In (by omega)]
    · rw [wi_I e]
  · rw [wi_I (by decide), wi_I (by decide)]; exact a1
  · rw [wi_I (by decide), wi_I (by decide)]; exact a2
  · rw [wi_I (by decide), wi_I (by decide)]; exact a4
  · have hd : d < uD (xC s) + 1 := hd
    rw [wi_I (by decide), wi_at]
    show _ = va_up (uV (xC s)) (uD (xC s)) v d
    by_cases e : d = uD (xC s)
    · rw [if_pos (by omega), e, am_up_eq]
    · rw [if_neg (by omega), am_up_ne e]; exact b d (by omega)
  · rw [wi_I (by decide), wi_I (by decide)]; exact c a ha v hv
theorem xR.go {n : Nat} (h : xR p G s) (hN : 1 ≤ xN s) : xR p (am_wi G 186 (xN s - 1) (nI n)) (xSet s (uGo (xC s) n)) := by
  obtain ⟨⟨a1, a2, a3, a4, a5⟩, b, c⟩ := h.2.2.2.2.2.1 hN
  refine h.cur hN (fun r hr => wi_I (by omega)) (fun r r1 r2 i hi => ?_) (fun r r1 r2 i hi => by rw [wi_I (by omega)]) ⟨⟨?_, wi_Is, ?_, ?_, a5⟩, fun d hd => ?_, fun a ha v hv => ?_⟩
  · by_cases e : r = 186
    · rw [e, wi_In hi]
    · rw [wi_I e]
  · rw [wi_I (by decide)]; exact a1
  · rw [wi_I (by decide)]; exact a3
  · rw [wi_I (by decide)]; exact a4
  · rw [wi_I (by decide)]; exact b d hd
  · rw [wi_I (by decide)]; exact c a ha v hv
theorem xR.st {a : Nat} {v : Int32} (h : xR p G s) (hN : 1 ≤ xN s) (ha : a < 8) : xR p (am_wi G 190 (8 * (xN s - 1) + a) v) (xSet s (uSt (xC s) a v)) := by
  obtain ⟨⟨a1, a2, a3, a4, a5⟩, b, c⟩ := h.2.2.2.2.2.1 hN
  refine h.cur hN (fun r hr => wi_I (by omega)) (fun r r1 r2 i hi => by rw [wi_I (by omega)]) (fun r r1 r2 i hi => ?_) ⟨⟨?_, ?_, ?_, ?_, a5⟩, fun d hd => ?_, fun k hk u hu => ?_⟩
  · by_cases e : r = 190
    · rw [e, wi_In (by omega)]
    · rw [wi_I e]
  · rw [wi_I (by decide)]; exact a1
  · rw [wi_I (by decide)]; exact a2
  · rw [wi_I (by decide)]; exact a3
  · rw [wi_I (by decide)]; exact a4
  · rw [wi_I (by decide)]; exact b d hd
  · have hu : va_up (uL (xC s)) a (some v) k = some u := hu
    rw [wi_at]
    by_cases e : k = a
    · rw [e, am_up_eq] at hu; cases hu; rw [if_pos (by omega)]
    · rw [am_up_ne e] at hu; rw [if_neg (by omega)]; exact c k hk u hu
/-- the latest frame has what is thrown -/
theorem xR.hav {o a : Nat} (h : xR p G s) (hN : 1 ≤ xN s) : xR p (am_wi (am_wi (am_wi G 187 (xN s - 1) (nI 1)) 189 (8 * (xN s - 1)) (nI o)) 186 (xN s - 1) (nI a)) (xSet s (uHave (xC s) o a)) := by
  obtain ⟨⟨a1, a2, a3, a4, a5⟩, b, c⟩ := h.2.2.2.2.2.1 hN
  refine h.cur hN (fun r hr => by rw [wi_I (by omega), wi_I (by omega), wi_I (by omega)]) (fun r r1 r2 i hi => ?_) (fun r r1 r2 i hi => ?_) ⟨⟨?_, wi_Is, ?_, ?_, (by show 1 ≤ 8; decide)⟩, fun d hd => ?_, fun a ha v hv => ?_⟩
  · by_cases e : r = 186
    · rw [e, wi_In hi, wi_I (by decide), wi_I (by decide)]
    · rw [wi_I e, wi_I (by omega)]
      by_cases e : r = 187
      · rw [e, wi_In hi]
      · rw [wi_I e]
  · rw [wi_I (by omega)]
    by_cases e : r = 189
    · rw [e, wi_In (by omega), wi_I (by decide)]
    · rw [wi_I e, wi_I (by omega)]
  · rw [wi_I (by decide), wi_I (by decide), wi_I (by decide)]; exact a1
  · rw [wi_I (by decide), wi_I (by decide)]; exact wi_Is
  · rw [wi_I (by decide), wi_I (by decide), wi_I (by decide)]; exact a4
  · have hd : d < 1 := hd
    show _ = va_up (uV (xC s)) 0 (nI o) d
    rw [show d = 0 by omega, am_up_eq, wi_I (by decide)]
    exact wi_Is
  · rw [wi_I (by decide), wi_I (by decide), wi_I (by decide)]; exact c a ha v hv
/-- fields of the reference change -/
theorem xR.fld {k : Nat} {x : Int32} {s' : xT} (h : xR p G s) (hl : rL (am_wi G 163 k x) s'.1) (hh : (am_wi G 163 k x).2.1 163 35 = nI (xH s') ∧ (am_wi G 163 k x).2.1 163 36 = nI (xN s)) (e1 : lM s'.1 ≤ lM s.1) (e2 : xY s' = xY s) (e3 : xI s' = xI s) (e4 : xH s' ≤ xH s) (e5 : xE s' = xE s) (e6 : s'.2.2.2.2.1 = s.2.2.2.2.1) (ho : (xO s' = none → (am_wi G 163 k x).2.1 163 43 = am_b false) ∧ ∀ e, xO s' = some e → (am_wi G 163 k x).2.1 163 43 = am_b true ∧ (am_wi G 163 k x).2.1 163 42 = nI e) : xR p (am_wi G 163 k x) s' := by
  obtain ⟨a, b, c, d, e, f, g, i⟩ := h
  have w : ∀ r, r ≠ 163 → (am_wi G 163 k x).2.1 r = G.2.1 r := fun r hr => wi_I hr
  have n1 : xN s' = xN s := congrArg (fun q => q.1) e6
  have n2 : xF s' = xF s := congrArg (fun q => q.2.1) e6
  have n3 : xC s' = xC s := congrArg (fun q => q.2.2) e6
  refine ⟨hl, ⟨hh.1, by rw [n1]; exact hh.2⟩, fun o ho => ?_, fun q hq => ?_, fun q hq => ?_, fun hq => ?_, ho.1, ho.2⟩
  · rw [w 182 (by decide), w 183 (by decide), e2, e3]; exact c o (by omega)
  · rw [w 184 (by decide), e5]; exact d q (by omega)
  · rw [n2]; rw [n1] at hq; exact (e q hq).same (fun r r1 r2 => by rw [w r (by omega)]) (fun r z r1 r2 _ => by rw [w r (by omega)])
  · rw [n3, n1]; rw [n1] at hq; exact (f hq).same (fun r r1 r2 => by rw [w r (by omega)]) (fun r z r1 r2 _ => by rw [w r (by omega)])
theorem xR.less (h : xR p G s) : xR p (am_wi G 163 35 (nI (xH s - 1))) (xHeld s (xH s - 1) (xE s)) := by
  obtain ⟨a1, a2, a3, a4, a5, a6, a7⟩ := h.1
  refine h.fld ⟨?_, ?_, ?_, ?_, ?_, ?_, fun i h1 h2 => ?_⟩ ⟨wi_Is, ?_⟩ (Nat.le_refl _) rfl rfl (Nat.sub_le _ _) rfl rfl ⟨fun e => ?_, fun e he => ⟨?_, ?_⟩⟩
  · rw [wi_In (by decide)]; exact a1
  · rw [wi_In (by decide)]; exact a2
  · rw [wi_In (by decide)]; exact a3
  · rw [wi_In (by decide)]; exact a4
  · rw [wi_In (by decide)]; exact a5
  · rw [wi_In (by decide)]; exact a6
  · rw [wi_I (by decide)]; exact a7 i h1 h2
  · rw [wi_In (by decide)]; exact h.2.1.2
  · rw [wi_In (by decide)]; exact h.2.2.2.2.2.2.1 e
  · rw [wi_In (by decide)]; exact (h.2.2.2.2.2.2.2 e he).1
  · rw [wi_In (by decide)]; exact (h.2.2.2.2.2.2.2 e he).2
end Xr
section Xr2
variable {p : Nat} {G : am_G} {s : xT}
theorem xR.tick (h : xR p G s) : xR p (am_wi G 163 38 (nI (lD s.1 + 1))) (xTick s) := by
  obtain ⟨⟨a1, a2, a3, a4, a5, a6, a7⟩, ⟨b1, b2⟩, c, d, e, f, g, i⟩ := h
  refine ⟨⟨?_, ?_, ?_, ?_, ?_, ?_, fun i h1 h2 => ?_⟩, ⟨?_, ?_⟩, fun o ho => ?_, fun k hk => ?_, fun k hk => ?_, fun hk => ?_, fun hn => ?_, fun q hq => ?_⟩
  · first | (simp (disch := omega) only [wi_I, wi_In, wi_Is]; done) | (simp (disch := omega) only [wi_I, wi_In, wi_Is]; first | assumption | rfl)
  · first | (simp (disch := omega) only [wi_I, wi_In, wi_Is]; done) | (simp (disch := omega) only [wi_I, wi_In, wi_Is]; first | assumption | rfl)
  · first | (simp (disch := omega) only [wi_I, wi_In, wi_Is]; done) | (simp (disch := omega) only [wi_I, wi_In, wi_Is]; first | assumption | rfl)
  · first | (simp (disch := omega) only [wi_I, wi_In, wi_Is]; done) | (simp (disch := omega) only [wi_I, wi_In, wi_Is]; first | assumption | rfl)
  · first | (simp (disch := omega) only [wi_I, wi_In, wi_Is]; done) | (simp (disch := omega) only [wi_I, wi_In, wi_Is]; first | assumption | rfl)
  · first | (simp (disch := omega) only [wi_I, wi_In, wi_Is]; done) | (simp (disch := omega) only [wi_I, wi_In, wi_Is]; first | assumption | rfl)
  · simp (disch := omega) only [wi_I, wi_In, wi_Is]; exact a7 i h1 h2
  · first | (simp (disch := omega) only [wi_I, wi_In, wi_Is]; done) | (simp (disch := omega) only [wi_I, wi_In, wi_Is]; first | assumption | rfl)
  · first | (simp (disch := omega) only [wi_I, wi_In, wi_Is]; done) | (simp (disch := omega) only [wi_I, wi_In, wi_Is]; first | assumption | rfl)
  · simp (disch := omega) only [wi_I, wi_In, wi_Is]; exact c o ho
  · simp (disch := omega) only [wi_I, wi_In, wi_Is]; exact d k hk
  · exact (e k hk).same (fun r r1 r2 => by simp (disch := omega) only [wi_I]) (fun r z r1 r2 _ => by simp (disch := omega) only [wi_I])
  · exact (f hk).same (fun r r1 r2 => by simp (disch := omega) only [wi_I]) (fun r z r1 r2 _ => by simp (disch := omega) only [wi_I])
  · simp (disch := omega) only [wi_I, wi_In, wi_Is]; exact g hn
  · simp (disch := omega) only [wi_I, wi_In, wi_Is]; exact i q hq
theorem xR.had (h : xR p G s) : xR p (am_wi G 163 40 (nI (lH s.1 + 1))) (xHad s) := by
  obtain ⟨⟨a1, a2, a3, a4, a5, a6, a7⟩, ⟨b1, b2⟩, c, d, e, f, g, i⟩ := h
  refine ⟨⟨?_, ?_, ?_, ?_, ?_, ?_, fun i h1 h2 => ?_⟩, ⟨?_, ?_⟩, fun o ho => ?_, fun k hk => ?_, fun k hk => ?_, fun hk => ?_, fun hn => ?_, fun q hq => ?_⟩
  · first | (simp (disch := omega) only [wi_I, wi_In, wi_Is]; done) | (simp (disch := omega) only [wi_I, wi_In, wi_Is]; first | assumption | rfl)
  · first | (simp (disch := omega) only [wi_I, wi_In, wi_Is]; done) | (simp (disch := omega) only [wi_I, wi_In, wi_Is]; first | assumption | rfl)
  · first | (simp (disch := omega) only [wi_I, wi_In, wi_Is]; done) | (simp (disch := omega) only [wi_I, wi_In, wi_Is]; first | assumption | rfl)
  · first | (simp (disch := omega) only [wi_I, wi_In, wi_Is]; done) | (simp (disch := omega) only [wi_I, wi_In, wi_Is]; first | assumption | rfl)
  · first | (simp (disch := omega) only [wi_I, wi_In, wi_Is]; done) | (simp (disch := omega) only [wi_I, wi_In, wi_Is]; first | assumption | rfl)
  · first | (simp (disch := omega) only [wi_I, wi_In, wi_Is]; done) | (simp (disch := omega) only [wi_I, wi_In, wi_Is]; first | assumption | rfl)
  · simp (disch := omega) only [wi_I, wi_In, wi_Is]; exact a7 i h1 h2
  · first | (simp (disch := omega) only [wi_I, wi_In, wi_Is]; done) | (simp (disch := omega) only [wi_I, wi_In, wi_Is]; first | assumption | rfl)
  · first | (simp (disch := omega) only [wi_I, wi_In, wi_Is]; done) | (simp (disch := omega) only [wi_I, wi_In, wi_Is]; first | assumption | rfl)
  · simp (disch := omega) only [wi_I, wi_In, wi_Is]; exact c o ho
  · simp (disch := omega) only [wi_I, wi_In, wi_Is]; exact d k hk
  · exact (e k hk).same (fun r r1 r2 => by simp (disch := omega) only [wi_I]) (fun r z r1 r2 _ => by simp (disch := omega) only [wi_I])
  · exact (f hk).same (fun r r1 r2 => by simp (disch := omega) only [wi_I]) (fun r z r1 r2 _ => by simp (disch := omega) only [wi_I])
  · simp (disch := omega) only [wi_I, wi_In, wi_Is]; exact g hn
  · simp (disch := omega) only [wi_I, wi_In, wi_Is]; exact i q hq
theorem xR.tellA {v : Int32} {k : Nat} (h : xR p G s) (h0 : lNn s.1 < 120) : xR p (am_wi (am_wi G 191 (lNn s.1) (nI 16 * v + nI k)) 163 39 (nI (lNn s.1 + 1))) (xTell s v k) := by
  obtain ⟨⟨a1, a2, a3, a4, a5, a6, a7⟩, ⟨b1, b2⟩, c, d, e, f, g, i⟩ := h
  refine ⟨⟨?_, ?_, ?_, ?_, ?_, ?_, fun i h1 h2 => ?_⟩, ⟨?_, ?_⟩, fun o ho => ?_, fun k hk => ?_, fun k hk => ?_, fun hk => ?_, fun hn => ?_, fun q hq => ?_⟩
  · first | (simp (disch := omega) only [wi_I, wi_In, wi_Is]; done) | (simp (disch := omega) only [wi_I, wi_In, wi_Is]; first | assumption | rfl)
  · first | (simp (disch := omega) only [wi_I, wi_In, wi_Is]; done) | (simp (disch := omega) only [wi_I, wi_In, wi_Is]; first | assumption | rfl)
  · first | (simp (disch := omega) only [wi_I, wi_In, wi_Is]; done) | (simp (disch := omega) only [wi_I, wi_In, wi_Is]; first | assumption | rfl)
  · first | (simp (disch := omega) only [wi_I, wi_In, wi_Is]; done) | (simp (disch := omega) only [wi_I, wi_In, wi_Is]; first | assumption | rfl)
  · first | (simp (disch := omega) only [wi_I, wi_In, wi_Is]; done) | (simp (disch := omega) only [wi_I, wi_In, wi_Is]; first | assumption | rfl)
  · first | (simp (disch := omega) only [wi_I, wi_In, wi_Is]; done) | (simp (disch := omega) only [wi_I, wi_In, wi_Is]; first | assumption | rfl)
  · show _ = va_up (lK s.1) (lNn s.1) _ i
    have h1 : i < lNn s.1 + 1 := h1
    by_cases ei : i = lNn s.1
    · rw [ei, am_up_eq, wi_I (by decide), wi_Is]
    · rw [am_up_ne ei, wi_I (by decide), wi_In ei]; exact a7 i (show i < lNn s.1 by omega) h2
  · first | (simp (disch := omega) only [wi_I, wi_In, wi_Is]; done) | (simp (disch := omega) only [wi_I, wi_In, wi_Is]; first | assumption | rfl)
  · first | (simp (disch := omega) only [wi_I, wi_In, wi_Is]; done) | (simp (disch := omega) only [wi_I, wi_In, wi_Is]; first | assumption | rfl)
  · simp (disch := omega) only [wi_I, wi_In, wi_Is]; exact c o ho
  · simp (disch := omega) only [wi_I, wi_In, wi_Is]; exact d k hk
  · exact (e k hk).same (fun r r1 r2 => by simp (disch := omega) only [wi_I]) (fun r z r1 r2 _ => by simp (disch := omega) only [wi_I])
  · exact (f hk).same (fun r r1 r2 => by simp (disch := omega) only [wi_I]) (fun r z r1 r2 _ => by simp (disch := omega) only [wi_I])
  · simp (disch := omega) only [wi_I, wi_In, wi_Is]; exact g hn
  · simp (disch := omega) only [wi_I, wi_In, wi_Is]; exact i q hq
theorem xR.tellB {v : Int32} {k : Nat} (h : xR p G s) (h0 : ¬ lNn s.1 < 120) : xR p (am_wi G 163 39 (nI (lNn s.1 + 1))) (xTell s v k) := by
  obtain ⟨⟨a1, a2, a3, a4, a5, a6, a7⟩, ⟨b1, b2⟩, c, d, e, f, g, i⟩ := h
  refine ⟨⟨?_, ?_, ?_, ?_, ?_, ?_, fun i h1 h2 => ?_⟩, ⟨?_, ?_⟩, fun o ho => ?_, fun k hk => ?_, fun k hk => ?_, fun hk => ?_, fun hn => ?_, fun q hq => ?_⟩
  · first | (simp (disch := omega) only [wi_I, wi_In, wi_Is]; done) | (simp (disch := omega) only [wi_I, wi_In, wi_Is]; first | assumption | rfl)
  · first | (simp (disch := omega) only [wi_I, wi_In, wi_Is]; done) | (simp (disch := omega) only [wi_I, wi_In, wi_Is]; first | assumption | rfl)
  · first | (simp (disch := omega) only [wi_I, wi_In, wi_Is]; done) | (simp (disch := omega) only [wi_I, wi_In, wi_Is]; first | assumption | rfl)
  · first | (simp (disch := omega) only [wi_I, wi_In, wi_Is]; done) | (simp (disch := omega) only [wi_I, wi_In, wi_Is]; first | assumption | rfl)
  · first | (simp (disch := omega) only [wi_I, wi_In, wi_Is]; done) | (simp (disch := omega) only [wi_I, wi_In, wi_Is]; first | assumption | rfl)
  · first | (simp (disch := omega) only [wi_I, wi_In, wi_Is]; done) | (simp (disch := omega) only [wi_I, wi_In, wi_Is]; first | assumption | rfl)
  · show _ = va_up (lK s.1) (lNn s.1) _ i
    rw [am_up_ne (by omega), wi_I (by decide)]; exact a7 i (show i < lNn s.1 by omega) h2
  · first | (simp (disch := omega) only [wi_I, wi_In, wi_Is]; done) | (simp (disch := omega) only [wi_I, wi_In, wi_Is]; first | assumption | rfl)
  · first | (simp (disch := omega) only [wi_I, wi_In, wi_Is]; done) | (simp (disch := omega) only [wi_I, wi_In, wi_Is]; first | assumption | rfl)
  · simp (disch := omega) only [wi_I, wi_In, wi_Is]; exact c o ho
  · simp (disch := omega) only [wi_I, wi_In, wi_Is]; exact d k hk
  · exact (e k hk).same (fun r r1 r2 => by simp (disch := omega) only [wi_I]) (fun r z r1 r2 _ => by simp (disch := omega) only [wi_I])
  · exact (f hk).same (fun r r1 r2 => by simp (disch := omega) only [wi_I]) (fun r z r1 r2 _ => by simp (disch := omega) only [wi_I])
  · simp (disch := omega) only [wi_I, wi_In, wi_Is]; exact g hn
  · simp (disch := omega) only [wi_I, wi_In, wi_Is]; exact i q hq
theorem xR.made {t : Nat} (h : xR p G s) : xR p (am_wi (am_wi (am_wi G 182 (lM s.1) (nI t)) 183 (lM s.1) (nI 0)) 163 34 (nI (lM s.1 + 1))) (xMade s t) := by
  obtain ⟨⟨a1, a2, a3, a4, a5, a6, a7⟩, ⟨b1, b2⟩, c, d, e, f, g, i⟩ := h
  refine ⟨⟨?_, ?_, ?_, ?_, ?_, ?_, fun i h1 h2 => ?_⟩, ⟨?_, ?_⟩, fun o ho => ?_, fun k hk => ?_, fun k hk => ?_, fun hk => ?_, fun hn => ?_, fun q hq => ?_⟩
  · first | (simp (disch := omega) only [wi_I, wi_In, wi_Is]; done) | (simp (disch := omega) only [wi_I, wi_In, wi_Is]; first | assumption | rfl)
  · first | (simp (disch := omega) only [wi_I, wi_In, wi_Is]; done) | (simp (disch := omega) only [wi_I, wi_In, wi_Is]; first | assumption | rfl)
  · first | (simp (disch := omega) only [wi_I, wi_In, wi_Is]; done) | (simp (disch := omega) only [wi_I, wi_In, wi_Is]; first | assumption | rfl)
  · first | (simp (disch := omega) only [wi_I, wi_In, wi_Is]; done) | (simp (disch := omega) only [wi_I, wi_In, wi_Is]; first | assumption | rfl)
  · first | (simp (disch := omega) only [wi_I, wi_In, wi_Is]; done) | (simp (disch := omega) only [wi_I, wi_In, wi_Is]; first | assumption | rfl)
  · first | (simp (disch := omega) only [wi_I, wi_In, wi_Is]; done) | (simp (disch := omega) only [wi_I, wi_In, wi_Is]; first | assumption | rfl)
  · simp (disch := omega) only [wi_I, wi_In, wi_Is]; exact a7 i h1 h2
  · first | (simp (disch := omega) only [wi_I, wi_In, wi_Is]; done) | (simp (disch := omega) only [wi_I, wi_In, wi_Is]; first | assumption | rfl)
  · first | (simp (disch := omega) only [wi_I, wi_In, wi_Is]; done) | (simp (disch := omega) only [wi_I, wi_In, wi_Is]; first | assumption | rfl)
  · have ho : o < lM s.1 + 1 := ho
    show _ = nI (va_up (xY s) (lM s.1 + 1) t (o + 1)) ∧ _ = va_up (xI s) (lM s.1 + 1) (nI 0) (o + 1)
    by_cases eo : o = lM s.1
    · rw [eo, am_up_eq, am_up_eq]; simp (disch := omega) only [wi_I, wi_In, wi_Is]; exact ⟨trivial, trivial⟩
    · rw [am_up_ne (by omega), am_up_ne (by omega)]; simp (disch := omega) only [wi_I, wi_In, wi_Is]; exact c o (by omega)
  · simp (disch := omega) only [wi_I, wi_In, wi_Is]; exact d k hk
  · exact (e k hk).same (fun r r1 r2 => by simp (disch := omega) only [wi_I]) (fun r z r1 r2 _ => by simp (disch := omega) only [wi_I])
  · exact (f hk).same (fun r r1 r2 => by simp (disch := omega) only [wi_I]) (fun r z r1 r2 _ => by simp (disch := omega) only [wi_I])
  · simp (disch := omega) only [wi_I, wi_In, wi_Is]; exact g hn
  · simp (disch := omega) only [wi_I, wi_In, wi_Is]; exact i q hq
theorem xR.enter {o : Nat} (h : xR p G s) : xR p (am_wi (am_wi G 184 (xH s) (nI o)) 163 35 (nI (xH s + 1))) (xHeld s (xH s + 1) (va_up (xE s) (xH s) o)) := by
  obtain ⟨⟨a1, a2, a3, a4, a5, a6, a7⟩, ⟨b1, b2⟩, c, d, e, f, g, i⟩ := h
  refine ⟨⟨?_, ?_, ?_, ?_, ?_, ?_, fun i h1 h2 => ?_⟩, ⟨?_, ?_⟩, fun o ho => ?_, fun k hk => ?_, fun k hk => ?_, fun hk => ?_, fun hn => ?_, fun q hq => ?_⟩
  · first | (simp (disch := omega) only [wi_I, wi_In, wi_Is]; done) | (simp (disch := omega) only [wi_I, wi_In, wi_Is]; first | assumption | rfl)
  · first | (simp (disch := omega) only [wi_I, wi_In, wi_Is]; done) | (simp (disch := omega) only [wi_I, wi_In, wi_Is]; first | assumption | rfl)
  · first | (simp (disch := omega) only [wi_I, wi_In, wi_Is]; done) | (simp (disch := omega) only [wi_I, wi_In, wi_Is]; first | assumption | rfl)
  · first | (simp (disch := omega) only [wi_I, wi_In, wi_Is]; done) | (simp (disch := omega) only [wi_I, wi_In, wi_Is]; first | assumption | rfl)
  · first | (simp (disch := omega) only [wi_I, wi_In, wi_Is]; done) | (simp (disch := omega) only [wi_I, wi_In, wi_Is]; first | assumption | rfl)
  · first | (simp (disch := omega) only [wi_I, wi_In, wi_Is]; done) | (simp (disch := omega) only [wi_I, wi_In, wi_Is]; first | assumption | rfl)
  · simp (disch := omega) only [wi_I, wi_In, wi_Is]; exact a7 i h1 h2
  · first | (simp (disch := omega) only [wi_I, wi_In, wi_Is]; done) | (simp (disch := omega) only [wi_I, wi_In, wi_Is]; first | assumption | rfl)
  · first | (simp (disch := omega) only [wi_I, wi_In, wi_Is]; done) | (simp (disch := omega) only [wi_I, wi_In, wi_Is]; first | assumption | rfl)
  · simp (disch := omega) only [wi_I, wi_In, wi_Is]; exact c o ho
  · have hk : k < xH s + 1 := hk
    show _ = nI (va_up (xE s) (xH s) o k)
    by_cases ek : k = xH s
    · rw [ek, am_up_eq]; simp (disch := omega) only [wi_I, wi_In, wi_Is]
    · rw [am_up_ne ek]; simp (disch := omega) only [wi_I, wi_In, wi_Is]; exact d k (by omega)
  · exact (e k hk).same (fun r r1 r2 => by simp (disch := omega) only [wi_I]) (fun r z r1 r2 _ => by simp (disch := omega) only [wi_I])
  · exact (f hk).same (fun r r1 r2 => by simp (disch := omega) only [wi_I]) (fun r z r1 r2 _ => by simp (disch := omega) only [wi_I])
  · simp (disch := omega) only [wi_I, wi_In, wi_Is]; exact g hn
  · simp (disch := omega) only [wi_I, wi_In, wi_Is]; exact i q hq
theorem xR.item {u : Nat} {v : Int32} (h : xR p G s) (hu : 1 ≤ u) : xR p (am_wi G 183 (u - 1) v) (xItem s u v) := by
  obtain ⟨⟨a1, a2, a3, a4, a5, a6, a7⟩, ⟨b1, b2⟩, c, d, e, f, g, i⟩ := h
  refine ⟨⟨?_, ?_, ?_, ?_, ?_, ?_, fun i h1 h2 => ?_⟩, ⟨?_, ?_⟩, fun o ho => ?_, fun k hk => ?_, fun k hk => ?_, fun hk => ?_, fun hn => ?_, fun q hq => ?_⟩
  · first | (simp (disch := omega) only [wi_I, wi_In, wi_Is]; done) | (simp (disch := omega) only [wi_I, wi_In, wi_Is]; first | assumption | rfl)
  · first | (simp (disch := omega) only [wi_I, wi_In, wi_Is]; done) | (simp (disch := omega) only [wi_I, wi_In, wi_Is]; first | assumption | rfl)
  · first | (simp (disch := omega) only [wi_I, wi_In, wi_Is]; done) | (simp (disch := omega) only [wi_I, wi_In, wi_Is]; first | assumption | rfl)
  · first | (simp (disch := omega) only [wi_I, wi_In, wi_Is]; done) | (simp (disch := omega) only [wi_I, wi_In, wi_Is]; first | assumption | rfl)
  · first | (simp (disch := omega) only [wi_I, wi_In, wi_Is]; done) | (simp (disch := omega) only [wi_I, wi_In, wi_Is]; first | assumption | rfl)
  · first | (simp (disch := omega) only [wi_I, wi_In, wi_Is]; done) | (simp (disch := omega) only [wi_I, wi_In, wi_Is]; first | assumption | rfl)
  · simp (disch := omega) only [wi_I, wi_In, wi_Is]; exact a7 i h1 h2
  · first | (simp (disch := omega) only [wi_I, wi_In, wi_Is]; done) | (simp (disch := omega) only [wi_I, wi_In, wi_Is]; first | assumption | rfl)
  · first | (simp (disch := omega) only [wi_I, wi_In, wi_Is]; done) | (simp (disch := omega) only [wi_I, wi_In, wi_Is]; first | assumption | rfl)
  · show _ = nI (xY s (o + 1)) ∧ _ = va_up (xI s) u v (o + 1)
    by_cases eo : o + 1 = u
    · rw [eo, am_up_eq]; simp (disch := omega) only [wi_I, wi_at]; rw [if_pos (by omega), ← eo]; exact ⟨(c o ho).1, rfl⟩
    · rw [am_up_ne eo]; simp (disch := omega) only [wi_I, wi_at]; rw [if_neg (by omega)]; exact c o ho
  · simp (disch := omega) only [wi_I, wi_In, wi_Is]; exact d k hk
  · exact (e k hk).same (fun r r1 r2 => by simp (disch := omega) only [wi_I]) (fun r z r1 r2 _ => by simp (disch := omega) only [wi_I])
  · exact (f hk).same (fun r r1 r2 => by simp (disch := omega) only [wi_I]) (fun r z r1 r2 _ => by simp (disch := omega) only [wi_I])
  · simp (disch := omega) only [wi_I, wi_In, wi_Is]; exact g hn
  · simp (disch := omega) only [wi_I, wi_In, wi_Is]; exact i q hq
theorem xR.fin {z : Nat} (h : xR p G s) : xR p (am_wi (am_wi G 163 43 (am_b true)) 163 42 (nI z)) (xEnd s z) := by
  obtain ⟨⟨a1, a2, a3, a4, a5, a6, a7⟩, ⟨b1, b2⟩, c, d, e, f, g, i⟩ := h
  refine ⟨⟨?_, ?_, ?_, ?_, ?_, ?_, fun i h1 h2 => ?_⟩, ⟨?_, ?_⟩, fun o ho => ?_, fun k hk => ?_, fun k hk => ?_, fun hk => ?_, fun hn => ?_, fun q hq => ?_⟩
  · first | (simp (disch := omega) only [wi_I, wi_In, wi_Is]; done) | (simp (disch := omega) only [wi_I, wi_In, wi_Is]; first | assumption | rfl)
  · first | (simp (disch := omega) only [wi_I, wi_In, wi_Is]; done) | (simp (disch := omega) only [wi_I, wi_In, wi_Is]; first | assumption | rfl)
  · first | (simp (disch := omega) only [wi_I, wi_In, wi_Is]; done) | (simp (disch := omega) only [wi_I, wi_In, wi_Is]; first | assumption | rfl)
  · first | (simp (disch := omega) only [wi_I, wi_In, wi_Is]; done) | (simp (disch := omega) only [wi_I, wi_In, wi_Is]; first | assumption | rfl)
  · first | (simp (disch := omega) only [wi_I, wi_In, wi_Is]; done) | (simp (disch := omega) only [wi_I, wi_In, wi_Is]; first | assumption | rfl)
  · first | (simp (disch := omega) only [wi_I, wi_In, wi_Is]; done) | (simp (disch := omega) only [wi_I, wi_In, wi_Is]; first | assumption | rfl)
  · simp (disch := omega) only [wi_I, wi_In, wi_Is]; exact a7 i h1 h2
  · first | (simp (disch := omega) only [wi_I, wi_In, wi_Is]; done) | (simp (disch := omega) only [wi_I, wi_In, wi_Is]; first | assumption | rfl)
  · first | (simp (disch := omega) only [wi_I, wi_In, wi_Is]; done) | (simp (disch := omega) only [wi_I, wi_In, wi_Is]; first | assumption | rfl)
  · simp (disch := omega) only [wi_I, wi_In, wi_Is]; exact c o ho
  · simp (disch := omega) only [wi_I, wi_In, wi_Is]; exact d k hk
  · exact (e k hk).same (fun r r1 r2 => by simp (disch := omega) only [wi_I]) (fun r z r1 r2 _ => by simp (disch := omega) only [wi_I])
  · exact (f hk).same (fun r r1 r2 => by simp (disch := omega) only [wi_I]) (fun r z r1 r2 _ => by simp (disch := omega) only [wi_I])
  · cases hn
  · cases hq; simp (disch := omega) only [wi_I, wi_In, wi_Is]; exact ⟨trivial, trivial⟩
theorem xR.val {v : Int32} (h : xR p G s) : xR p (am_wi (am_wi (am_wi G 163 43 (am_b true)) 163 42 (nI 0)) 163 41 v) (xVal s v) := by
  obtain ⟨⟨a1, a2, a3, a4, a5, a6, a7⟩, ⟨b1, b2⟩, c, d, e, f, g, i⟩ := h
  refine ⟨⟨?_, ?_, ?_, ?_, ?_, ?_, fun i h1 h2 => ?_⟩, ⟨?_, ?_⟩, fun o ho => ?_, fun k hk => ?_, fun k hk => ?_, fun hk => ?_, fun hn => ?_, fun q hq => ?_⟩
  · first | (simp (disch := omega) only [wi_I, wi_In, wi_Is]; done) | (simp (disch := omega) only [wi_I, wi_In, wi_Is]; first | assumption | rfl)
  · first | (simp (disch := omega) only [wi_I, wi_In, wi_Is]; done) | (simp (disch := omega) only [wi_I, wi_In, wi_Is]; first | assumption | rfl)
  · first | (simp (disch := omega) only [wi_I, wi_In, wi_Is]; done) | (simp (disch := omega) only [wi_I, wi_In, wi_Is]; first | assumption | rfl)
  · first | (simp (disch := omega) only [wi_I, wi_In, wi_Is]; done) | (simp (disch := omega) only [wi_I, wi_In, wi_Is]; first | assumption | rfl)
  · first | (simp (disch := omega) only [wi_I, wi_In, wi_Is]; done) | (simp (disch := omega) only [wi_I, wi_In, wi_Is]; first | assumption | rfl)
  · first | (simp (disch := omega) only [wi_I, wi_In, wi_Is]; done) | (simp (disch := omega) only [wi_I, wi_In, wi_Is]; first | assumption | rfl)
  · simp (disch := omega) only [wi_I, wi_In, wi_Is]; exact a7 i h1 h2
  · first | (simp (disch := omega) only [wi_I, wi_In, wi_Is]; done) | (simp (disch := omega) only [wi_I, wi_In, wi_Is]; first | assumption | rfl)
  · first | (simp (disch := omega) only [wi_I, wi_In, wi_Is]; done) | (simp (disch := omega) only [wi_I, wi_In, wi_Is]; first | assumption | rfl)
  · simp (disch := omega) only [wi_I, wi_In, wi_Is]; exact c o ho
  · simp (disch := omega) only [wi_I, wi_In, wi_Is]; exact d k hk
  · exact (e k hk).same (fun r r1 r2 => by simp (disch := omega) only [wi_I]) (fun r z r1 r2 _ => by simp (disch := omega) only [wi_I])
  · exact (f hk).same (fun r r1 r2 => by simp (disch := omega) only [wi_I]) (fun r z r1 r2 _ => by simp (disch := omega) only [wi_I])
  · cases hn
  · cases hq; simp (disch := omega) only [wi_I, wi_In, wi_Is]; exact ⟨trivial, trivial⟩
theorem xR.down (h : xR p G s) (hN : 1 ≤ xN s) : xR p (am_wi G 163 36 (nI (xN s - 1))) (xDown s) := by
  obtain ⟨⟨a1, a2, a3, a4, a5, a6, a7⟩, ⟨b1, b2⟩, c, d, e, f, g, i⟩ := h
  refine ⟨⟨?_, ?_, ?_, ?_, ?_, ?_, fun i h1 h2 => ?_⟩, ⟨?_, ?_⟩, fun o ho => ?_, fun k hk => ?_, fun k hk => ?_, fun hk => ?_, fun hn => ?_, fun q hq => ?_⟩
  · first | (simp (disch := omega) only [wi_I, wi_In, wi_Is]; done) | (simp (disch := omega) only [wi_I, wi_In, wi_Is]; first | assumption | rfl)
  · first | (simp (disch := omega) only [wi_I, wi_In, wi_Is]; done) | (simp (disch := omega) only [wi_I, wi_In, wi_Is]; first | assumption | rfl)
  · first | (simp (disch := omega) only [wi_I, wi_In, wi_Is]; done) | (simp (disch := omega) only [wi_I, wi_In, wi_Is]; first | assumption | rfl)
  · first | (simp (disch := omega) only [wi_I, wi_In, wi_Is]; done) | (simp (disch := omega) only [wi_I, wi_In, wi_Is]; first | assumption | rfl)
  · first | (simp (disch := omega) only [wi_I, wi_In, wi_Is]; done) | (simp (disch := omega) only [wi_I, wi_In, wi_Is]; first | assumption | rfl)
  · first | (simp (disch := omega) only [wi_I, wi_In, wi_Is]; done) | (simp (disch := omega) only [wi_I, wi_In, wi_Is]; first | assumption | rfl)
  · simp (disch := omega) only [wi_I, wi_In, wi_Is]; exact a7 i h1 h2
  · first | (simp (disch := omega) only [wi_I, wi_In, wi_Is]; done) | (simp (disch := omega) only [wi_I, wi_In, wi_Is]; first | assumption | rfl)
  · first | (simp (disch := omega) only [wi_I, wi_In, wi_Is]; done) | (simp (disch := omega) only [wi_I, wi_In, wi_Is]; first | assumption | rfl)
  · simp (disch := omega) only [wi_I, wi_In, wi_Is]; exact c o ho
  · simp (disch := omega) only [wi_I, wi_In, wi_Is]; exact d k hk
  · exact (e k (by have hk : k + 1 < xN s - 1 := hk; omega)).same (fun r r1 r2 => by simp (disch := omega) only [wi_I]) (fun r z r1 r2 _ => by simp (disch := omega) only [wi_I])
  · have hk : 1 ≤ xN s - 1 := hk
    exact (e (xN s - 2) (by omega)).same (fun r r1 r2 => by simp (disch := omega) only [wi_I]) (fun r z r1 r2 _ => by simp (disch := omega) only [wi_I])
  · simp (disch := omega) only [wi_I, wi_In, wi_Is]; exact g hn
  · simp (disch := omega) only [wi_I, wi_In, wi_Is]; exact i q hq
theorem xR.shift {k0 : Nat} {W : Nat → Int32} (h : xR p G s) (hk0 : k0 < xH s) (hw : ∀ i, i + 1 < xH s → W i = nI (if i < k0 then xE s i else xE s (i + 1))) : xR p (am_wi (am_ro G 184 W) 163 35 (nI (xH s - 1))) (xHeld s (xH s - 1) (fun i => if i < k0 then xE s i else xE s (i + 1))) := by
  obtain ⟨⟨a1, a2, a3, a4, a5, a6, a7⟩, ⟨b1, b2⟩, c, d, e, f, g, i⟩ := h
  refine ⟨⟨?_, ?_, ?_, ?_, ?_, ?_, fun i h1 h2 => ?_⟩, ⟨?_, ?_⟩, fun o ho => ?_, fun k hk => ?_, fun k hk => ?_, fun hk => ?_, fun hn => ?_, fun q hq => ?_⟩
  · first | (simp (disch := omega) only [ro_I, wi_I, wi_In, wi_Is]; done) | (simp (disch := omega) only [ro_I, wi_I, wi_In, wi_Is]; first | assumption | rfl)
  · first | (simp (disch := omega) only [ro_I, wi_I, wi_In, wi_Is]; done) | (simp (disch := omega) only [ro_I, wi_I, wi_In, wi_Is]; first | assumption | rfl)
  · first | (simp (disch := omega) only [ro_I, wi_I, wi_In, wi_Is]; done) | (simp (disch := omega) only [ro_I, wi_I, wi_In, wi_Is]; first | assumption | rfl)
  · first | (simp (disch := omega) only [ro_I, wi_I, wi_In, wi_Is]; done) | (simp (disch := omega) only [ro_I, wi_I, wi_In, wi_Is]; first | assumption | rfl)
  · first | (simp (disch := omega) only [ro_I, wi_I, wi_In, wi_Is]; done) | (simp (disch := omega) only [ro_I, wi_I, wi_In, wi_Is]; first | assumption | rfl)
  · first | (simp (disch := omega) only [ro_I, wi_I, wi_In, wi_Is]; done) | (simp (disch := omega) only [ro_I, wi_I, wi_In, wi_Is]; first | assumption | rfl)
  · simp (disch := omega) only [ro_I, wi_I, wi_In, wi_Is]; exact a7 i h1 h2
  · first | (simp (disch := omega) only [ro_I, wi_I, wi_In, wi_Is]; done) | (simp (disch := omega) only [ro_I, wi_I, wi_In, wi_Is]; first | assumption | rfl)
  · first | (simp (disch := omega) only [ro_I, wi_I, wi_In, wi_Is]; done) | (simp (disch := omega) only [ro_I, wi_I, wi_In, wi_Is]; first | assumption | rfl)
  · simp (disch := omega) only [ro_I, wi_I, wi_In, wi_Is]; exact c o ho
  · have hk : k < xH s - 1 := hk
    rw [wi_I (by decide), ro_Is]; exact hw k (by omega)
  · exact (e k hk).same (fun r r1 r2 => by simp (disch := omega) only [ro_I, wi_I]) (fun r z r1 r2 _ => by simp (disch := omega) only [ro_I, wi_I])
  · exact (f hk).same (fun r r1 r2 => by simp (disch := omega) only [ro_I, wi_I]) (fun r z r1 r2 _ => by simp (disch := omega) only [ro_I, wi_I])
  · simp (disch := omega) only [ro_I, wi_I, wi_In, wi_Is]; exact g hn
  · simp (disch := omega) only [ro_I, wi_I, wi_In, wi_Is]; exact i q hq
end Xr2
section Xr3
variable {p : Nat} {G G' : am_G} {s : xT}
/-- rows that no frame of the run lies in, and no field of it, change -/
theorem xR.off (h : xR p G s) (h1 : ∀ k, 34 ≤ k → k ≤ 43 → G'.2.1 163 k = G.2.1 163 k) (h2 : ∀ r, (182 ≤ r ∧ r ≤ 184) ∨ r = 191 → G'.2.1 r = G.2.1 r) (h3 : ∀ r, 185 ≤ r → r ≤ 188 → ∀ i, i < xN s → G'.2.1 r i = G.2.1 r i) (h4 : ∀ r, 189 ≤ r → r ≤ 190 → ∀ i, i < 8 * xN s → G'.2.1 r i = G.2.1 r i) : xR p G' s := by
  obtain ⟨a, b, c, d, e, f, g, i⟩ := h
  unfold xR rL
  rw [h1 41 (by omega) (by omega), h1 38 (by omega) (by omega), h1 34 (by omega) (by omega), h1 37 (by omega) (by omega), h1 39 (by omega) (by omega), h1 40 (by omega) (by omega), h1 35 (by omega) (by omega), h1 36 (by omega) (by omega), h1 43 (by omega) (by omega), h1 42 (by omega) (by omega), h2 191 (by omega), h2 182 (by omega), h2 183 (by omega), h2 184 (by omega)]
  exact ⟨a, b, c, d, fun k hk => (e k hk).same (fun r r1 r2 => h3 r r1 r2 k (by omega)) (fun r z r1 r2 _ => h4 r r1 r2 _ (by omega)), fun hk => (f hk).same (fun r r1 r2 => h3 r r1 r2 _ (by omega)) (fun r z r1 r2 _ => h4 r r1 r2 _ (by omega)), g, i⟩
/-- a frame is opened: s' is s but that its ledger may tell more -/
theorem xR.opn {c : Nat} {F : Nat → uT} {V : Nat → Option Int32} (h : xR p G s) (hF : ∀ i, i < xN s → F i = if i + 1 < xN s then xF s i else xC s)
    (q1 : G.2.1 185 (xN s) = nI (6 * p + c)) (q2 : G.2.1 186 (xN s) = nI 0) (q3 : G.2.1 187 (xN s) = nI 0) (q4 : G.2.1 188 (xN s) = nI (xH s)) (q5 : ∀ a, a < 8 → ∀ v, V a = some v → G.2.1 190 (8 * xN s + a) = v)
    (hm : G' = if lX s.1 < xN s + 1 then am_wi (am_wi G 163 36 (nI (xN s + 1))) 163 37 (nI (xN s + 1)) else am_wi G 163 36 (nI (xN s + 1))) :
    xR p G' (xMost (s.1, s.2.1, s.2.2.1, s.2.2.2.1, (xN s + 1, F, (c, 0, 0, xH s, (fun _ => nI 0), V)), xO s)) := by
  have w1 : ∀ r, r ≠ 163 → G'.2.1 r = G.2.1 r := fun r hr => by
    rw [hm]; split
    · rw [wi_I hr, wi_I hr]
    · rw [wi_I hr]
  have w2 : ∀ k, k ≠ 36 → k ≠ 37 → G'.2.1 163 k = G.2.1 163 k := fun k k1 k2 => by
    rw [hm]; split
    · rw [wi_In k2, wi_In k1]
    · rw [wi_In k1]
  have w3 : G'.2.1 163 36 = nI (xN s + 1) := by
    rw [hm]; split
    · rw [wi_In (by decide), wi_Is]
    · rw [wi_Is]
  have w4 : G'.2.1 163 37 = nI (Nat.max (lX s.1) (xN s + 1)) := by
    rw [hm]; split
    · rename_i hx
      rw [wi_Is, show Nat.max (lX s.1) (xN s + 1) = xN s + 1 from Nat.max_eq_right (by omega)]
    · rename_i hx
      rw [wi_In (by decide), show Nat.max (lX s.1) (xN s + 1) = lX s.1 from Nat.max_eq_left (by omega)]
      exact h.1.2.2.2.1
  obtain ⟨⟨a1, a2, a3, a4, a5, a6, a7⟩, ⟨b1, b2⟩, cc, d, e, f, g, i⟩ := h
  have fr : ∀ k, k < xN s → rF p G' k (F k) := fun k hk => by
    rw [hF k hk]
    split
    · rename_i h2; exact (e k h2).same (fun r r1 r2 => by rw [w1 r (by omega)]) (fun r z r1 r2 _ => by rw [w1 r (by omega)])
    · rename_i h2
      have := (f (by omega)).same (G' := G') (fun r r1 r2 => by rw [w1 r (by omega)]) (fun r z r1 r2 _ => by rw [w1 r (by omega)])
      rw [show k = xN s - 1 by omega]; exact this
  refine ⟨⟨?_, ?_, ?_, w4, ?_, ?_, fun i h1 h2 => ?_⟩, ⟨?_, w3⟩, fun o ho => ?_, fun k hk => ?_, fun k hk => fr k (by have hk : k + 1 < xN s + 1 := hk; omega), fun _ => ?_, fun hn => ?_, fun q hq => ?_⟩
  · rw [w2 41 (by decide) (by decide)]; exact a1
  · rw [w2 38 (by decide) (by decide)]; exact a2
  · rw [w2 34 (by decide) (by decide)]; exact a3
  · rw [w2 39 (by decide) (by decide)]; exact a5
  · rw [w2 40 (by decide) (by decide)]; exact a6
  · rw [w1 191 (by decide)]; exact a7 i h1 h2
  · rw [w2 35 (by decide) (by decide)]; exact b1
  · rw [w1 182 (by decide), w1 183 (by decide)]; exact cc o ho
  · rw [w1 184 (by decide)]; exact d k hk
  · show rF p G' (xN s + 1 - 1) _
    rw [Nat.add_sub_cancel]
    refine ⟨⟨?_, ?_, ?_, ?_, Nat.zero_le _⟩, fun d hd => absurd hd (Nat.not_lt_zero d), fun a ha v hv => ?_⟩
    · rw [w1 185 (by decide)]; exact q1
    · rw [w1 186 (by decide)]; exact q2
    · rw [w1 187 (by decide)]; exact q3
    · rw [w1 188 (by decide)]; exact q4
    · rw [w1 190 (by decide)]; exact q5 a ha v hv
  · rw [w2 43 (by decide) (by decide)]; exact g hn
  · rw [w2 43 (by decide) (by decide), w2 42 (by decide) (by decide)]; exact i q hq
/-- what is read of the latest frame -/
theorem xR.m (h : xR p G s) (hN : 1 ≤ xN s) : G.2.1 185 (xN s - 1) = nI (6 * p + uM (xC s)) := (h.2.2.2.2.2.1 hN).1.1
theorem xR.pl (h : xR p G s) (hN : 1 ≤ xN s) : G.2.1 186 (xN s - 1) = nI (uP (xC s)) := (h.2.2.2.2.2.1 hN).1.2.1
theorem xR.dp (h : xR p G s) (hN : 1 ≤ xN s) : G.2.1 187 (xN s - 1) = nI (uD (xC s)) := (h.2.2.2.2.2.1 hN).1.2.2.1
theorem xR.bs (h : xR p G s) (hN : 1 ≤ xN s) : G.2.1 188 (xN s - 1) = nI (uB (xC s)) := (h.2.2.2.2.2.1 hN).1.2.2.2.1
theorem xR.d8 (h : xR p G s) (hN : 1 ≤ xN s) : uD (xC s) ≤ 8 := (h.2.2.2.2.2.1 hN).1.2.2.2.2
theorem xR.vl {d : Nat} (h : xR p G s) (hN : 1 ≤ xN s) (hd : d < uD (xC s)) : G.2.1 189 (8 * (xN s - 1) + d) = uV (xC s) d := (h.2.2.2.2.2.1 hN).2.1 d hd
theorem xR.lc {a : Nat} {v : Int32} (h : xR p G s) (hN : 1 ≤ xN s) (ha : a < 8) (hv : uL (xC s) a = some v) : G.2.1 190 (8 * (xN s - 1) + a) = v := (h.2.2.2.2.2.1 hN).2.2 a ha v hv
theorem xR.nn (h : xR p G s) : G.2.1 163 36 = nI (xN s) := h.2.1.2
theorem xR.hh (h : xR p G s) : G.2.1 163 35 = nI (xH s) := h.2.1.1
theorem xR.mm (h : xR p G s) : G.2.1 163 34 = nI (lM s.1) := h.1.2.2.1
theorem xR.tl (h : xR p G s) : G.2.1 163 39 = nI (lNn s.1) := h.1.2.2.2.2.1
theorem xR.hd (h : xR p G s) : G.2.1 163 40 = nI (lH s.1) := h.1.2.2.2.2.2.1
theorem xR.dn (h : xR p G s) : G.2.1 163 38 = nI (lD s.1) := h.1.2.1
theorem xR.ms (h : xR p G s) : G.2.1 163 37 = nI (lX s.1) := h.1.2.2.2.1
theorem xR.oy {o : Nat} (h : xR p G s) (h1 : 1 ≤ o) (h2 : o ≤ lM s.1) : G.2.1 182 (o - 1) = nI (xY s o) := by
  have := (h.2.2.1 (o - 1) (by omega)).1
  rwa [Nat.sub_add_cancel h1] at this
theorem xR.oi {o : Nat} (h : xR p G s) (h1 : 1 ≤ o) (h2 : o ≤ lM s.1) : G.2.1 183 (o - 1) = xI s o := by
  have := (h.2.2.1 (o - 1) (by omega)).2
  rwa [Nat.sub_add_cancel h1] at this
theorem xR.lk {k : Nat} (h : xR p G s) (hk : k < xH s) : G.2.1 184 k = nI (xE s k) := h.2.2.2.1 k hk
end Xr3
