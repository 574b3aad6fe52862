/-! unfold and inline, as mathematics: rows that are gathered, a method that is written out. -/
abbrev wT : Type := Nat × (Nat → Nat) × (Nat → Nat) × (Nat → Nat) × (Nat → Nat)
def wAdd (R : wT) (f t a y : Nat) : wT := if f < t then (R.1 + 1, va_up R.2.1 R.1 f, va_up R.2.2.1 R.1 t, va_up R.2.2.2.1 R.1 a, va_up R.2.2.2.2 R.1 y) else R
def wZ : wT := (0, (fun _ => 0), (fun _ => 0), (fun _ => 0), fun _ => 0)
def mvd (p n x : Nat) : Nat := if p < x then x + n - 1 else x
def jm3 (o : Nat) : Prop := o = 11 ∨ o = 12 ∨ o = 17
def jm4 (o : Nat) : Prop := o = 11 ∨ o = 12 ∨ o = 17 ∨ o = 23
theorem jm_d {o : Nat} : decide (nI o = nI 11 ∨ nI o = nI 12 ∨ nI o = nI 17) = true ↔ nI o = nI 11 ∨ nI o = nI 12 ∨ nI o = nI 17 := decide_eq_true_iff
noncomputable def shB (M : mT) (p n k : Nat) : Int32 := @ite Int32 (jm4 (mO M k)) (Classical.propDecidable _) (nI (mvd p n (bN M k))) (mB M k)
abbrev iT : Type := Nat → Nat × Int32 × Int32
/-- M with the n instructions C in place of that at p, and the rows R -/
noncomputable def mNew (M : mT) (p n : Nat) (C : iT) (R : wT) : mT :=
  ((mN M + n - 1, (fun i => if i < p then mO M i else if i < p + n then (C (i - p)).1 else mO M (i + 1 - n)), (fun i => if i < p then mA M i else if i < p + n then (C (i - p)).2.1 else mA M (i + 1 - n)), fun i => if i < p then shB M p n i else if i < p + n then (C (i - p)).2.2 else shB M p n (i + 1 - n)), R, mG M, mL M)
section Mn
variable {M : mT} {p n k : Nat} {C : iT} {R : wT}
theorem mNew_lo (h : k < p) : mO (mNew M p n C R) k = mO M k ∧ mA (mNew M p n C R) k = mA M k ∧ mB (mNew M p n C R) k = shB M p n k := ⟨if_pos h, if_pos h, if_pos h⟩
theorem mNew_in (h : k < n) : mO (mNew M p n C R) (p + k) = (C k).1 ∧ mA (mNew M p n C R) (p + k) = (C k).2.1 ∧ mB (mNew M p n C R) (p + k) = (C k).2.2 := by
  have e : p + k - p = k := by omega
  refine ⟨?_, ?_, ?_⟩
  · show (if p + k < p then mO M (p + k) else if p + k < p + n then (C (p + k - p)).1 else mO M (p + k + 1 - n)) = _
    rw [if_neg (by omega), if_pos (by omega), e]
  · show (if p + k < p then mA M (p + k) else if p + k < p + n then (C (p + k - p)).2.1 else mA M (p + k + 1 - n)) = _
    rw [if_neg (by omega), if_pos (by omega), e]
  · show (if p + k < p then shB M p n (p + k) else if p + k < p + n then (C (p + k - p)).2.2 else shB M p n (p + k + 1 - n)) = _
    rw [if_neg (by omega), if_pos (by omega), e]
theorem mNew_hi (h : p < k) : mO (mNew M p n C R) (k + n - 1) = mO M k ∧ mA (mNew M p n C R) (k + n - 1) = mA M k ∧ mB (mNew M p n C R) (k + n - 1) = shB M p n k := by
  have e : k + n - 1 + 1 - n = k := by omega
  refine ⟨?_, ?_, ?_⟩
  · show (if k + n - 1 < p then mO M (k + n - 1) else if k + n - 1 < p + n then (C (k + n - 1 - p)).1 else mO M (k + n - 1 + 1 - n)) = _
    rw [if_neg (by omega), if_neg (by omega), e]
  · show (if k + n - 1 < p then mA M (k + n - 1) else if k + n - 1 < p + n then (C (k + n - 1 - p)).2.1 else mA M (k + n - 1 + 1 - n)) = _
    rw [if_neg (by omega), if_neg (by omega), e]
  · show (if k + n - 1 < p then shB M p n (k + n - 1) else if k + n - 1 < p + n then (C (k + n - 1 - p)).2.2 else shB M p n (k + n - 1 + 1 - n)) = _
    rw [if_neg (by omega), if_neg (by omega), e]
/-- where instruction k lies then -/
def mvI (p n k : Nat) : Nat := if k < p then k else k + n - 1
theorem mNew_mv (h : k ≠ p) : mO (mNew M p n C R) (mvI p n k) = mO M k ∧ mA (mNew M p n C R) (mvI p n k) = mA M k ∧ mB (mNew M p n C R) (mvI p n k) = shB M p n k := by
  unfold mvI
  by_cases h1 : k < p
  · rw [if_pos h1]; exact mNew_lo h1
  · rw [if_neg h1]; exact mNew_hi (by omega)
theorem shB_y (h : jm4 (mO M k)) : shB M p n k = nI (mvd p n (bN M k)) := if_pos h
theorem shB_n (h : ¬ jm4 (mO M k)) : shB M p n k = mB M k := if_neg h
theorem mNew_n : mN (mNew M p n C R) = mN M + n - 1 := rfl
/-- which places are laid, when r.. are moved -/
def laid (p n N r i : Nat) : Prop := (p ≤ i ∧ i < p + n) ∨ (i < p ∧ r ≤ i) ∨ (p + n ≤ i ∧ i + 1 < N + n ∧ r + n ≤ i + 1)
end Mn
/-! the end of a PLAIN subroutine -/
def fBk (M : mT) : Nat → Nat → Nat
  | 0, k => k
  | r + 1, k => if mO M k = 24 then k else fBk M r (k + 1)
theorem fBk_le {M : mT} : ∀ {r k : Nat}, k ≤ fBk M r k ∧ fBk M r k ≤ k + r := by
  intro r
  induction r with
  | zero => intro k; exact ⟨Nat.le_refl _, Nat.le_refl _⟩
  | succ r ih =>
    intro k
    show k ≤ (if mO M k = 24 then k else fBk M r (k + 1)) ∧ (if mO M k = 24 then k else fBk M r (k + 1)) ≤ k + (r + 1)
    split
    · exact ⟨Nat.le_refl _, by omega⟩
    · have := ih (k := k + 1); exact ⟨by omega, by omega⟩
theorem fBk_y {M : mT} {r k : Nat} (h : mO M k = 24) : fBk M (r + 1) k = k := if_pos h
theorem fBk_n {M : mT} {r k : Nat} (h : ¬ mO M k = 24) : fBk M (r + 1) k = fBk M r (k + 1) := if_neg h
/-- instruction i keeps the subroutine from b to e PLAIN -/
def plI (M : mT) (b e i : Nat) : Prop := if b < i ∧ i < e then (mO M i ≠ 23 ∧ (mO M i = 2 ∨ mO M i = 3 ∨ mO M i = 27 → ¬ mA M i = mA M b) ∧ (jm3 (mO M i) → b < bN M i ∧ bN M i ≤ e)) else (jm3 (mO M i) → ¬ (b ≤ bN M i ∧ bN M i ≤ e))
def plW (M : mT) (b e r : Nat) : Prop := ¬ (b ≤ mP M r ∧ mP M r ≤ e)
def plE (M : mT) (b e : Nat) : Prop := (e < mN M ∧ mA M e = mA M b) ∧ (∀ i, i < mN M → plI M b e i) ∧ ∀ r, r < mR M → plW M b e r
noncomputable def pE (M : mT) (b : Nat) : Option Nat := @ite (Option Nat) ((b < mN M ∧ mO M b = 3) ∧ plE M b (fBk M (mN M - (b + 1)) (b + 1))) (Classical.propDecidable _) (some (fBk M (mN M - (b + 1)) (b + 1))) none
section Pe
variable {M : mT} {b e : Nat}
theorem pE_n (h : ¬ (b < mN M ∧ mO M b = 3)) : pE M b = none := if_neg (fun q => h q.1)
theorem pE_x (h : ¬ plE M b (fBk M (mN M - (b + 1)) (b + 1))) : pE M b = none := if_neg (fun q => h q.2)
theorem pE_y (h1 : b < mN M) (h2 : mO M b = 3) (h : plE M b (fBk M (mN M - (b + 1)) (b + 1))) : pE M b = some (fBk M (mN M - (b + 1)) (b + 1)) := if_pos ⟨⟨h1, h2⟩, h⟩
theorem pE_s (h : pE M b = some e) : (b < mN M ∧ mO M b = 3) ∧ plE M b e ∧ b < e := by
  unfold pE at h
  by_cases q : (b < mN M ∧ mO M b = 3) ∧ plE M b (fBk M (mN M - (b + 1)) (b + 1))
  · rw [if_pos q] at h
    cases h
    have := (fBk_le (M := M) (r := mN M - (b + 1)) (k := b + 1)).1
    exact ⟨q.1, q.2, by omega⟩
  · rw [if_neg q] at h; cases h
end Pe
/-- what unfold does with row k -/
def uRow (M : mT) (p b e n : Nat) (R : wT) (k : Nat) : wT :=
  wAdd (wAdd (wAdd R (mF M k) (min (mE M k) p) (mvd p n (mP M k)) (mY M k)) (max (mF M k) (b + 1) + p - (b + 1)) (min (mE M k) e + p - (b + 1)) (mvd p n (mP M k)) (mY M k)) (max (mF M k) (p + 1) + n - 1) (mE M k + n - 1) (mvd p n (mP M k)) (mY M k)
def uRows (M : mT) (p b e n : Nat) : Nat → wT
  | 0 => wZ
  | k + 1 => uRow M p b e n (uRows M p b e n k) k
noncomputable def uC (M : mT) (p b : Nat) : iT := fun k => (mO M (b + 1 + k), mA M (b + 1 + k), @ite Int32 (jm4 (mO M (b + 1 + k))) (Classical.propDecidable _) (nI (p + bN M (b + 1 + k) - (b + 1))) (mB M (b + 1 + k)))
noncomputable def uU (s : sT) (m : Nat) (p : Int32) : Int32 × sT := if bel p (mN (zM s m)) = true ∧ mO (zM s m) p.toNatClampNeg = 23 then
  (match pE (zM s m) (bN (zM s m) p.toNatClampNeg) with
   | none => (-2, s)
   | some e => if bN (zM s m) p.toNatClampNeg ≤ p.toNatClampNeg ∧ p.toNatClampNeg ≤ e then (-2, s) else
     if 60 < mN (zM s m) + (e - bN (zM s m) p.toNatClampNeg - 1) - 1 ∨ 8 < (uRows (zM s m) p.toNatClampNeg (bN (zM s m) p.toNatClampNeg) e (e - bN (zM s m) p.toNatClampNeg - 1) (mR (zM s m))).1 then (-3, s) else
     (nI (mN (zM s m) + (e - bN (zM s m) p.toNatClampNeg - 1) - 1), zPut s m (mNew (zM s m) p.toNatClampNeg (e - bN (zM s m) p.toNatClampNeg - 1) (uC (zM s m) p.toNatClampNeg (bN (zM s m) p.toNatClampNeg)) (uRows (zM s m) p.toNatClampNeg (bN (zM s m) p.toNatClampNeg) e (e - bN (zM s m) p.toNatClampNeg - 1) (mR (zM s m))))))
  else (-2, s)
noncomputable def aUnf (s : sT) (m p : Int32) : Int32 × sT := if bel m 6 = true then @ite (Int32 × sT) (∃ S, fLeast (gP (zQ s s.1)) (zM s m.toNatClampNeg) S) (Classical.propDecidable _) (uU s m.toNatClampNeg p) (-4, s) else (-1, s)
section Au
variable {s : sT} {m p e : Nat} {x y : Int32}
theorem aUnf_o (h : bel x 6 = false) : aUnf s x y = (-1, s) := if_neg (by rw [h]; decide)
theorem aUnf_w (hm : m < 6) (h : ∀ T, ¬ fSol (gP (zQ s s.1)) (zM s m) T) : aUnf s (nI m) y = (-4, s) := by
  unfold aUnf
  rw [if_pos (by rw [bel_nI (by omega)]; exact decide_eq_true hm), nI_clamp (by omega), if_neg (fun ⟨S, hS⟩ => h S hS.1)]
theorem aUnf_y {S : fM} (hm : m < 6) (h : fLeast (gP (zQ s s.1)) (zM s m) S) : aUnf s (nI m) y = uU s m y := by
  unfold aUnf
  rw [if_pos (by rw [bel_nI (by omega)]; exact decide_eq_true hm), nI_clamp (by omega), if_pos ⟨S, h⟩]
theorem uU_o (h : bel y (mN (zM s m)) = false) : uU s m y = (-2, s) := if_neg (fun q => by rw [h] at q; exact absurd q.1 (by decide))
theorem uU_g (hp : p < 1000) (h : ¬ mO (zM s m) p = 23) : uU s m (nI p) = (-2, s) := if_neg (fun q => h (by rw [nI_clamp (by omega)] at q; exact q.2))
theorem uU_i (hn : mN (zM s m) ≤ 60) (hp : p < mN (zM s m)) (h : mO (zM s m) p = 23) : uU s m (nI p) = (match pE (zM s m) (bN (zM s m) p) with
   | none => (-2, s)
   | some e => if bN (zM s m) p ≤ p ∧ p ≤ e then (-2, s) else
     if 60 < mN (zM s m) + (e - bN (zM s m) p - 1) - 1 ∨ 8 < (uRows (zM s m) p (bN (zM s m) p) e (e - bN (zM s m) p - 1) (mR (zM s m))).1 then (-3, s) else
     (nI (mN (zM s m) + (e - bN (zM s m) p - 1) - 1), zPut s m (mNew (zM s m) p (e - bN (zM s m) p - 1) (uC (zM s m) p (bN (zM s m) p)) (uRows (zM s m) p (bN (zM s m) p) e (e - bN (zM s m) p - 1) (mR (zM s m)))))) := by
  unfold uU
  rw [nI_clamp (by omega), if_pos ⟨by rw [bel_nI (by omega)]; exact decide_eq_true hp, h⟩]
theorem uU_n (hn : mN (zM s m) ≤ 60) (hp : p < mN (zM s m)) (h : mO (zM s m) p = 23) (hE : pE (zM s m) (bN (zM s m) p) = none) : uU s m (nI p) = (-2, s) := by rw [uU_i hn hp h, hE]
theorem uU_b (hn : mN (zM s m) ≤ 60) (hp : p < mN (zM s m)) (h : mO (zM s m) p = 23) (hE : pE (zM s m) (bN (zM s m) p) = some e) (h1 : bN (zM s m) p ≤ p) (h2 : p ≤ e) : uU s m (nI p) = (-2, s) := by
  rw [uU_i hn hp h, hE]
  exact if_pos ⟨h1, h2⟩
theorem uU_f (hn : mN (zM s m) ≤ 60) (hp : p < mN (zM s m)) (h : mO (zM s m) p = 23) (hE : pE (zM s m) (bN (zM s m) p) = some e) (h1 : ¬ (bN (zM s m) p ≤ p ∧ p ≤ e)) (h2 : 60 < mN (zM s m) + (e - bN (zM s m) p - 1) - 1 ∨ 8 < (uRows (zM s m) p (bN (zM s m) p) e (e - bN (zM s m) p - 1) (mR (zM s m))).1) : uU s m (nI p) = (-3, s) := by
  rw [uU_i hn hp h, hE]
  show (if bN (zM s m) p ≤ p ∧ p ≤ e then _ else _) = _
  rw [if_neg h1, if_pos h2]
theorem uU_y (hn : mN (zM s m) ≤ 60) (hp : p < mN (zM s m)) (h : mO (zM s m) p = 23) (hE : pE (zM s m) (bN (zM s m) p) = some e) (h1 : ¬ (bN (zM s m) p ≤ p ∧ p ≤ e)) (h2 : mN (zM s m) + (e - bN (zM s m) p - 1) - 1 ≤ 60) (h3 : (uRows (zM s m) p (bN (zM s m) p) e (e - bN (zM s m) p - 1) (mR (zM s m))).1 ≤ 8) : uU s m (nI p) = (nI (mN (zM s m) + (e - bN (zM s m) p - 1) - 1), zPut s m (mNew (zM s m) p (e - bN (zM s m) p - 1) (uC (zM s m) p (bN (zM s m) p)) (uRows (zM s m) p (bN (zM s m) p) e (e - bN (zM s m) p - 1) (mR (zM s m))))) := by
  rw [uU_i hn hp h, hE]
  show (if bN (zM s m) p ≤ p ∧ p ≤ e then _ else _) = _
  rw [if_neg h1, if_neg (by omega)]
end Au
/-! a difference that may be below 0 -/
def zD (a b : Nat) : Int32 := nI a - nI b
theorem zD_n {a b : Nat} (h : b ≤ a) : zD a b = nI (a - b) := pk_sub h
theorem zD_t {a b : Nat} (ha : a < 100000) (hb : b < 100000) : (zD a b).toInt = (a : Int) - (b : Int) := by
  unfold zD
  rw [Int32.toInt_sub, nI_toInt (by omega), nI_toInt (by omega)]
  exact Int.bmod_eq_of_le (by omega) (by omega)
theorem zD_lt {a b f : Nat} (ha : a < 100000) (hb : b < 100000) (hf : f < 100000) : nI f < zD a b ↔ f + b < a := by
  rw [Int32.lt_iff_toInt_lt, zD_t ha hb, nI_toInt (by omega)]
  omega
