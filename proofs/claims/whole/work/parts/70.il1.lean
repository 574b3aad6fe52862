/-! inline, as mathematics -/
def locO (r : Bool) (o : Nat) : Prop := o = 2 ∨ o = 3 ∨ o = 27 ∨ (r = true ∧ o = 24)
/-- one more than the greatest number that is named -/
noncomputable def gLx (M : mT) (r : Bool) : Nat → Nat
  | 0 => mG M
  | k + 1 => @ite Nat (locO r (mO M k)) (Classical.propDecidable _) (max (gLx M r k) (aN M k + 1)) (gLx M r k)
section Gx
variable {M : mT} {r : Bool} {k : Nat}
theorem gLx_y (h : locO r (mO M k)) : gLx M r (k + 1) = max (gLx M r k) (aN M k + 1) := if_pos h
theorem gLx_n (h : ¬ locO r (mO M k)) : gLx M r (k + 1) = gLx M r k := if_neg h
theorem gLx_g (M : mT) (r : Bool) : ∀ k, mG M ≤ gLx M r k
  | 0 => Nat.le_refl _
  | k + 1 => by
    have ih := gLx_g M r k
    by_cases h : locO r (mO M k)
    · rw [gLx_y h]; omega
    · rw [gLx_n h]; exact ih
theorem gLx_i (M : mT) (r : Bool) : ∀ k i, i < k → locO r (mO M i) → aN M i + 1 ≤ gLx M r k
  | 0, i, hi, _ => absurd hi (Nat.not_lt_zero i)
  | k + 1, i, hi, hl => by
    by_cases h : locO r (mO M k)
    · rw [gLx_y h]
      by_cases e : i = k
      · rw [e]; omega
      · have := gLx_i M r k i (by omega) hl; omega
    · rw [gLx_n h]
      exact gLx_i M r k i (by
        rcases Nat.lt_or_ge i k with q | q
        · exact q
        · exact absurd (show locO r (mO M k) by rw [← show i = k by omega]; exact hl) h) hl
theorem locO_f {o : Nat} (h : locO false o) : locO true o := by
  rcases h with q | q | q | q
  · exact Or.inl q
  · exact Or.inr (Or.inl q)
  · exact Or.inr (Or.inr (Or.inl q))
  · exact absurd q.1 (by decide)
theorem gLx_le (M : mT) : ∀ k, gLx M false k ≤ gLx M true k
  | 0 => Nat.le_refl _
  | k + 1 => by
    have ih := gLx_le M k
    by_cases h : locO false (mO M k)
    · rw [gLx_y h, gLx_y (locO_f h)]; omega
    · rw [gLx_n h]
      by_cases h2 : locO true (mO M k)
      · rw [gLx_y h2]; omega
      · rw [gLx_n h2]; exact ih
theorem gLx_eq (M : mT) : ∀ k, (∀ i, i < k → mO M i ≠ 24) → gLx M false k = gLx M true k
  | 0, _ => rfl
  | k + 1, h24 => by
    have ih := gLx_eq M k (fun i hi => h24 i (by omega))
    by_cases h : locO false (mO M k)
    · rw [gLx_y h, gLx_y (locO_f h), ih]
    · have h2 : ¬ locO true (mO M k) := fun q => by
        rcases q with q | q | q | q
        · exact h (Or.inl q)
        · exact h (Or.inr (Or.inl q))
        · exact h (Or.inr (Or.inr (Or.inl q)))
        · exact h24 k (by omega) q.2
      rw [gLx_n h, gLx_n h2, ih]
theorem locO_V {i : Nat} (hV : mV M) (hi : i < mN M) (h : locO r (mO M i)) : mA M i = nI (aN M i) ∧ aN M i < 8 := hV.loc hi (by
  rcases h with q | q | q | q
  · exact Or.inl q
  · exact Or.inr (Or.inl q)
  · exact Or.inr (Or.inr (Or.inr q))
  · exact Or.inr (Or.inr (Or.inl q.2)))
theorem gLx_8 (hV : mV M) : ∀ k, k ≤ mN M → gLx M r k ≤ 8
  | 0, _ => by have := hV.2.2.1; show mG M ≤ 8; omega
  | k + 1, hk => by
    have ih := gLx_8 hV k (by omega)
    by_cases h : locO r (mO M k)
    · have := (locO_V hV (by omega) h).2
      rw [gLx_y h]; omega
    · rw [gLx_n h]; exact ih
end Gx
/-- instruction k of what stands in place of the CALL at p of C -/
noncomputable def iC (C : mT) (p f n : Nat) : iT := fun k => if k < mG C then (3, nI (f + mG C - 1 - k), nI 0) else if mO C (k - mG C) = 22 then (11, nI 0, nI (p + n)) else
  (mO C (k - mG C), @ite Int32 (mO C (k - mG C) = 2 ∨ mO C (k - mG C) = 3 ∨ mO C (k - mG C) = 27) (Classical.propDecidable _) (nI (aN C (k - mG C) + f)) (mA C (k - mG C)), @ite Int32 (jm4 (mO C (k - mG C))) (Classical.propDecidable _) (nI (bN C (k - mG C) + (p + mG C))) (mB C (k - mG C)))
section Ic
variable {C : mT} {p f n k : Nat}
theorem iC_s (h : k < mG C) : iC C p f n k = (3, nI (f + mG C - 1 - k), nI 0) := if_pos h
theorem iC_r (h : mO C k = 22) : iC C p f n (mG C + k) = (11, nI 0, nI (p + n)) := by
  unfold iC
  rw [if_neg (by omega), show mG C + k - mG C = k by omega, if_pos h]
theorem iC_c (h : ¬ mO C k = 22) : iC C p f n (mG C + k) = (mO C k, @ite Int32 (mO C k = 2 ∨ mO C k = 3 ∨ mO C k = 27) (Classical.propDecidable _) (nI (aN C k + f)) (mA C k), @ite Int32 (jm4 (mO C k)) (Classical.propDecidable _) (nI (bN C k + (p + mG C))) (mB C k)) := by
  unfold iC
  rw [if_neg (by omega), show mG C + k - mG C = k by omega, if_neg h]
end Ic
def iR1 (C : mT) (q : Nat) : Nat → wT
  | 0 => wZ
  | k + 1 => wAdd (iR1 C q k) (mF C k + q) (min (mE C k) (mN C) + q) (mP C k + q) (mY C k)
def iR2 (M : mT) (p n : Nat) (R : wT) : Nat → wT
  | 0 => R
  | k + 1 => wAdd (iR2 M p n R k) (mvd p n (mF M k)) (mvd p n (mE M k)) (mvd p n (mP M k)) (mY M k)
theorem iR1_le {C : mT} {q : Nat} : ∀ k, (iR1 C q k).1 ≤ k
  | 0 => Nat.le_refl _
  | k + 1 => by
    have ih := iR1_le (C := C) (q := q) k
    have := (wAdd_le (R := iR1 C q k) (f := mF C k + q) (t := min (mE C k) (mN C) + q) (a := mP C k + q) (y := mY C k)).2
    show (wAdd (iR1 C q k) (mF C k + q) (min (mE C k) (mN C) + q) (mP C k + q) (mY C k)).1 ≤ _
    omega
theorem iR2_le {M : mT} {p n : Nat} {R : wT} : ∀ k, (iR2 M p n R k).1 ≤ R.1 + k
  | 0 => Nat.le_refl _
  | k + 1 => by
    have ih := iR2_le (M := M) (p := p) (n := n) (R := R) k
    have := (wAdd_le (R := iR2 M p n R k) (f := mvd p n (mF M k)) (t := mvd p n (mE M k)) (a := mvd p n (mP M k)) (y := mY M k)).2
    show (wAdd (iR2 M p n R k) (mvd p n (mF M k)) (mvd p n (mE M k)) (mvd p n (mP M k)) (mY M k)).1 ≤ _
    omega
def ilP (C : mT) : Prop := ∀ i, i < mN C → mO C i ≠ 18 ∧ mO C i ≠ 19 ∧ mO C i ≠ 23 ∧ mO C i ≠ 24
def ilF (S : fM) (p g : Nat) : Prop := ∃ x, S p = some x ∧ x.1 = g
def ilA (S : fM) (C : mT) : Prop := ∀ k x, k < mN C → S k = some x → mO C k = 22 → x.1 = 1
def mayI (g : Nat → Nat) (M C : mT) (p : Nat) (same : Bool) : Prop := ∃ S T, fLeast g M S ∧ fLeast g C T ∧ same = false ∧ mL C = false ∧ ilP C ∧ gLx M true (mN M) + gLx C true (mN C) ≤ 8 ∧ ilF S p (mG C) ∧ ilA T C
theorem ilF.eq {g : Nat → Nat} {M : mT} {S T : fM} {p x : Nat} (h1 : fLeast g M S) (h2 : fLeast g M T) (hp : p < mN M) (h : ilF S p x) : ilF T p x := by
  obtain ⟨y, hy, e⟩ := h
  obtain ⟨q1, q2⟩ := h1.eq h2 hp
  cases hT : T p with
  | none => rw [q1.mpr hT] at hy; cases hy
  | some z => exact ⟨z, hT, by rw [← (q2 y z hy hT).1]; exact e⟩
theorem ilA.eq {g : Nat → Nat} {C : mT} {S T : fM} (h1 : fLeast g C S) (h2 : fLeast g C T) (h : ilA S C) : ilA T C := fun k z hk hz ho => by
  obtain ⟨q1, q2⟩ := h1.eq h2 hk
  cases hS : S k with
  | none => rw [q1.mp hS] at hz; cases hz
  | some x => rw [← (q2 x z hS hz).1]; exact h k x hk hS ho
/-- a RETURN that is come to has what it takes -/
theorem fSol.ret {g : Nat → Nat} {C : mT} {S : fM} {k : Nat} {x : fS} (h : fSol g C S) (hk : k < mN C) (hx : S k = some x) (ho : mO C k = 22) : 1 ≤ x.1 := by
  obtain ⟨⟨y, he, -, -⟩, -⟩ := h.2 k x hk hx
  rw [ho] at he
  have he : fTake 0 x = some y := he
  unfold fTake at he
  by_cases h0 : x.1 = 0
  · rw [if_pos h0] at he; cases he
  · omega
section Uy
abbrev iN (C : mT) : Nat := mG C + mN C
noncomputable def iRR (M C : mT) (p : Nat) : wT := iR2 M p (iN C) (iR1 C (p + mG C) (mR C)) (mR M)
noncomputable def iMN (M C : mT) (p : Nat) : mT := mNew M p (iN C) (iC C p (gLx M true (mN M)) (iN C)) (iRR M C p)
noncomputable def uY (s : sT) (m p : Nat) : Int32 × sT := @ite (Int32 × sT) (∃ T, fLeast (gP (zQ s s.1)) (zM s (aN (zM s m) p)) T) (Classical.propDecidable _)
  (@ite (Int32 × sT) (mayI (gP (zQ s s.1)) (zM s m) (zM s (aN (zM s m) p)) p (decide (aN (zM s m) p = m))) (Classical.propDecidable _)
    (if 60 < mN (zM s m) + iN (zM s (aN (zM s m) p)) - 1 ∨ 8 < (iRR (zM s m) (zM s (aN (zM s m) p)) p).1 then (-3, s) else (nI (mN (zM s m) + iN (zM s (aN (zM s m) p)) - 1), zPut s m (iMN (zM s m) (zM s (aN (zM s m) p)) p))) (-2, s)) (-4, s)
noncomputable def aInl (s : sT) (m p : Int32) : Int32 × sT := if bel m 6 = true then @ite (Int32 × sT) (∃ S, fLeast (gP (zQ s s.1)) (zM s m.toNatClampNeg) S) (Classical.propDecidable _) (if bel p (mN (zM s m.toNatClampNeg)) = true ∧ mO (zM s m.toNatClampNeg) p.toNatClampNeg = 21 then uY s m.toNatClampNeg p.toNatClampNeg else (-2, s)) (-4, s) else (-1, s)
variable {s : sT} {m p : Nat} {x y : Int32}
theorem aInl_o (h : bel x 6 = false) : aInl s x y = (-1, s) := if_neg (by rw [h]; decide)
theorem aInl_w (hm : m < 6) (h : ∀ T, ¬ fSol (gP (zQ s s.1)) (zM s m) T) : aInl s (nI m) y = (-4, s) := by
  unfold aInl
  rw [if_pos (by rw [bel_nI (by omega)]; exact decide_eq_true hm), nI_clamp (by omega), if_neg (fun ⟨S, hS⟩ => h S hS.1)]
theorem aInl_i {S : fM} (hm : m < 6) (h : fLeast (gP (zQ s s.1)) (zM s m) S) : aInl s (nI m) y = if bel y (mN (zM s m)) = true ∧ mO (zM s m) y.toNatClampNeg = 21 then uY s m y.toNatClampNeg else (-2, s) := by
  unfold aInl
  rw [if_pos (by rw [bel_nI (by omega)]; exact decide_eq_true hm), nI_clamp (n := m) (by omega), if_pos ⟨S, h⟩]
theorem aInl_n1 {S : fM} (hm : m < 6) (h : fLeast (gP (zQ s s.1)) (zM s m) S) (hb : bel y (mN (zM s m)) = false) : aInl s (nI m) y = (-2, s) := by rw [aInl_i hm h, if_neg (fun q => by rw [hb] at q; exact absurd q.1 (by decide))]
theorem aInl_n2 {S : fM} (hm : m < 6) (h : fLeast (gP (zQ s s.1)) (zM s m) S) (hp : p < 1000) (ho : ¬ mO (zM s m) p = 21) : aInl s (nI m) (nI p) = (-2, s) := by rw [aInl_i hm h, nI_clamp (by omega), if_neg (fun q => ho q.2)]
theorem aInl_y {S : fM} (hm : m < 6) (h : fLeast (gP (zQ s s.1)) (zM s m) S) (hn : mN (zM s m) ≤ 60) (hp : p < mN (zM s m)) (ho : mO (zM s m) p = 21) : aInl s (nI m) (nI p) = uY s m p := by rw [aInl_i hm h, nI_clamp (by omega), if_pos ⟨by rw [bel_nI (by omega)]; exact decide_eq_true hp, ho⟩]
theorem uY_w (h : ∀ T, ¬ fSol (gP (zQ s s.1)) (zM s (aN (zM s m) p)) T) : uY s m p = (-4, s) := if_neg (fun ⟨T, hT⟩ => h T hT.1)
theorem uY_i {T : fM} (h : fLeast (gP (zQ s s.1)) (zM s (aN (zM s m) p)) T) : uY s m p = (@ite (Int32 × sT) (mayI (gP (zQ s s.1)) (zM s m) (zM s (aN (zM s m) p)) p (decide (aN (zM s m) p = m))) (Classical.propDecidable _)
    (if 60 < mN (zM s m) + iN (zM s (aN (zM s m) p)) - 1 ∨ 8 < (iRR (zM s m) (zM s (aN (zM s m) p)) p).1 then (-3, s) else (nI (mN (zM s m) + iN (zM s (aN (zM s m) p)) - 1), zPut s m (iMN (zM s m) (zM s (aN (zM s m) p)) p))) (-2, s)) := if_pos ⟨T, h⟩
theorem uY_n {T : fM} (h : fLeast (gP (zQ s s.1)) (zM s (aN (zM s m) p)) T) (hn : ¬ mayI (gP (zQ s s.1)) (zM s m) (zM s (aN (zM s m) p)) p (decide (aN (zM s m) p = m))) : uY s m p = (-2, s) := by rw [uY_i h, if_neg hn]
theorem uY_f {T : fM} (h : fLeast (gP (zQ s s.1)) (zM s (aN (zM s m) p)) T) (hn : mayI (gP (zQ s s.1)) (zM s m) (zM s (aN (zM s m) p)) p (decide (aN (zM s m) p = m))) (hf : 60 < mN (zM s m) + iN (zM s (aN (zM s m) p)) - 1 ∨ 8 < (iRR (zM s m) (zM s (aN (zM s m) p)) p).1) : uY s m p = (-3, s) := by rw [uY_i h, if_pos hn, if_pos hf]
theorem uY_y {T : fM} (h : fLeast (gP (zQ s s.1)) (zM s (aN (zM s m) p)) T) (hn : mayI (gP (zQ s s.1)) (zM s m) (zM s (aN (zM s m) p)) p (decide (aN (zM s m) p = m))) (h1 : mN (zM s m) + iN (zM s (aN (zM s m) p)) - 1 ≤ 60) (h2 : (iRR (zM s m) (zM s (aN (zM s m) p)) p).1 ≤ 8) : uY s m p = (nI (mN (zM s m) + iN (zM s (aN (zM s m) p)) - 1), zPut s m (iMN (zM s m) (zM s (aN (zM s m) p)) p)) := by rw [uY_i h, if_pos hn, if_neg (by omega)]
end Uy
theorem nM_le {r a : Nat} (hr : r < 100000) (ha : a < 100000) : nI a ≤ nM r ↔ a < r := by
  rw [← i_nlt, nM_ltb hr ha]
  omega
