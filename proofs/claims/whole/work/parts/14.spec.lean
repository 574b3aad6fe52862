theorem go_cp {w : am_W} {j d : Nat} {k : Nat × Nat} {pc : Nat} {L : List (Option am_V)} {st : List am_V} {G : am_G} {P : Option am_V → am_G → Prop} {idx i0 i1 m0 m1 : Nat} {sp dp n : Nat} (h : decode (am_by j) pc = .ok (.invokestatic idx, 3)) (hw : Cond.methodLink (am_own j) idx arraycopyName ∈ am_T) (hd : 1 ≤ d) (hs0 : G.1[i0]? = some (1, m0)) (hs1 : G.1[i1]? = some (1, m1)) (h4 : sp + n ≤ m0) (h5 : dp + n ≤ m1) (hm0 : m0 < 2 ^ 31) (hm1 : m1 < 2 ^ 31) (hsl : st.length ≤ 8)
    (kk : am_Go w j d k (pc + 3) L st (am_ro G i1 (va_cpy (G.2.1 i0) (G.2.1 i1) sp dp n)) P) : am_Go w j d k pc L (.inl (nI n) :: .inl (nI dp) :: .inr (some i1) :: .inl (nI sp) :: .inr (some i0) :: st) G P := go_copyN hd hsl hw cp_na cp_st sys_in hs0 hs1 h4 h5 hm0 hm1 h kk
theorem ro_V {G : am_G} {a i b : Nat} {f : Nat → Int32} {v : Int32} (h : i ≠ a) (hv : G.2.1 i b = v) : (am_ro G a f).2.1 i b = v := by rw [ro_I h]; exact hv
theorem wi_Vn {G : am_G} {a q i : Nat} {x v : Int32} (h : i ≠ q) (hv : G.2.1 a i = v) : (am_wi G a q x).2.1 a i = v := by rw [wi_In h]; exact hv
def zM (s : sT) (m : Nat) : mT := s.2.1 (6 * s.1 + m)
def zPut (s : sT) (m : Nat) (M : mT) : sT := (s.1, va_up s.2.1 (6 * s.1 + m) M, s.2.2)
def mBeg (M : mT) (a : Nat) (c : Bool) : mT := ((0, mO M, mA M, mB M), (0, mF M, mE M, mP M, mY M), a, c)
def nA (p : Nat) (a : Int32) : Int32 := if am_sf 0 p = -1 then nI 0 else a
def nB (p : Nat) (b : Int32) : Int32 := if am_sf 1 p = -1 then nI 0 else b
def mIns (M : mT) (n i p : Nat) (a b : Int32) : mT := ((n, va_up (mO M) i p, va_up (mA M) i (nA p a), va_up (mB M) i (nB p b)), M.2)
def mRowA (M : mT) (f t a y : Nat) : mT := (M.1, (mR M + 1, va_up (mF M) (mR M) f, va_up (mE M) (mR M) t, va_up (mP M) (mR M) a, va_up (mY M) (mR M) y), M.2.2)
def aWrite (s : sT) (x : Int32) : Int32 × sT := if bel x 2 = true then (1, (x.toNatClampNeg, s.2)) else (0, s)
def aMethod (s : sT) (m a : Int32) (c : Bool) : Int32 × sT := if bel m 6 = true ∧ bel a 4 = true then (1, zPut s m.toNatClampNeg (mBeg (zM s m.toNatClampNeg) a.toNatClampNeg c)) else (0, s)
def aAdd (s : sT) (m p a b : Int32) : Int32 × sT := if bel m 6 = true ∧ insOk p a b = true then (if mN (zM s m.toNatClampNeg) < 60 then (nI (mN (zM s m.toNatClampNeg) + 1), zPut s m.toNatClampNeg (mIns (zM s m.toNatClampNeg) (mN (zM s m.toNatClampNeg) + 1) (mN (zM s m.toNatClampNeg)) p.toNatClampNeg a b)) else (-3, s)) else (-1, s)
def aChange (s : sT) (m i p a b : Int32) : Int32 × sT := if (bel m 6 = true ∧ insOk p a b = true) ∧ bel i (mN (zM s m.toNatClampNeg)) = true then (1, zPut s m.toNatClampNeg (mIns (zM s m.toNatClampNeg) (mN (zM s m.toNatClampNeg)) i.toNatClampNeg p.toNatClampNeg a b)) else (0, s)
def rowOk (m f t a y : Int32) : Prop := bel m 6 = true ∧ (bel f 60 = true ∧ bel a 60 = true) ∧ (f < t ∧ t ≤ nI 60) ∧ bel y 8 = true
def aRow (s : sT) (m f t a y : Int32) : Int32 × sT := if bel m 6 = true ∧ (bel f 60 = true ∧ bel a 60 = true) ∧ (f < t ∧ t ≤ nI 60) ∧ bel y 8 = true then (if mR (zM s m.toNatClampNeg) < 8 then (nI (mR (zM s m.toNatClampNeg) + 1), zPut s m.toNatClampNeg (mRowA (zM s m.toNatClampNeg) f.toNatClampNeg t.toNatClampNeg a.toNatClampNeg y.toNatClampNeg)) else (-3, s)) else (-1, s)
def aCode (s : sT) (m i k : Int32) : Int32 := if bel m 6 = true ∧ bel k 3 = true then (if bel i (mN (zM s m.toNatClampNeg)) = true then (if k = nI 0 then nI (mO (zM s m.toNatClampNeg) i.toNatClampNeg) else if k = nI 1 then mA (zM s m.toNatClampNeg) i.toNatClampNeg else mB (zM s m.toNatClampNeg) i.toNatClampNeg) else -2) else -1
def aTable (s : sT) (m i k : Int32) : Int32 := if bel m 6 = true ∧ bel k 4 = true then (if i = -1 then (if k = nI 0 then nI (mN (zM s m.toNatClampNeg)) else if k = nI 1 then nI (mR (zM s m.toNatClampNeg)) else if k = nI 2 then nI (mG (zM s m.toNatClampNeg)) else am_b (mL (zM s m.toNatClampNeg))) else
  if bel i (mR (zM s m.toNatClampNeg)) = true then (if k = nI 0 then nI (mF (zM s m.toNatClampNeg) i.toNatClampNeg) else if k = nI 1 then nI (mE (zM s m.toNatClampNeg) i.toNatClampNeg) else if k = nI 2 then nI (mP (zM s m.toNatClampNeg) i.toNatClampNeg) else nI (mY (zM s m.toNatClampNeg) i.toNatClampNeg)) else -2) else -1
/-- rows of the Method object h -/
def hR8 (h i : Nat) : Prop := h ≤ i ∧ i < h + 8
theorem mo_cl {p m : Nat} (hp : p < 2) (hm : m < 6) : ∀ i, hR8 (mo p m) i → clR i := fun i h => by unfold hR8 mo at h; unfold clR; omega
theorem cM.beg {G : am_G} {h : Nat} {M : mT} {a : Nat} {c : Bool} (_ : cM G h M) : cM (E_beg G h (nI a) (am_b c)) h (mBeg M a c) := by
  unfold cM E_beg
  refine ⟨⟨?_, ?_, ?_, ?_⟩, fun i hi => absurd hi (Nat.not_lt_zero i), fun i hi => absurd hi (Nat.not_lt_zero i)⟩
  · rw [wi_In (by decide), wi_In (by decide), wi_In (by decide), wi_Is]; rfl
  · rw [wi_In (by decide), wi_In (by decide), wi_Is]; rfl
  · rw [wi_In (by decide), wi_Is]; rfl
  · rw [wi_Is]; rfl
theorem E_beg_o {G : am_G} {h : Nat} {x z : Int32} : oR (hR8 h) G (E_beg G h x z) := by
  have q : hR8 h h := ⟨Nat.le_refl _, by omega⟩
  exact (((oR.wi q).tr (oR.wi q)).tr (oR.wi q)).tr (oR.wi q)
theorem E_putF_o {G : am_G} {h i p : Nat} {a b : Int32} : oR (hR8 h) G (E_putF G h i p a b) :=
  ((oR.wi (show hR8 h (h + 1) from ⟨by omega, by omega⟩)).tr (oR.wi (show hR8 h (h + 2) from ⟨by omega, by omega⟩))).tr (oR.wi (show hR8 h (h + 3) from ⟨by omega, by omega⟩))
theorem E_row_o {G : am_G} {h n : Nat} {f t a y : Int32} : oR (hR8 h) G (E_row G h n f t a y) :=
  ((((oR.wi (show hR8 h (h + 4) from ⟨by omega, by omega⟩)).tr (oR.wi (show hR8 h (h + 5) from ⟨by omega, by omega⟩))).tr (oR.wi (show hR8 h (h + 6) from ⟨by omega, by omega⟩))).tr (oR.wi (show hR8 h (h + 7) from ⟨by omega, by omega⟩))).tr (oR.wi (show hR8 h h from ⟨by omega, by omega⟩))
theorem wi_at {G : am_G} {a q i : Nat} {x : Int32} : (am_wi G a q x).2.1 a i = if i = q then x else G.2.1 a i := by
  by_cases h : i = q
  · rw [if_pos h, h, wi_Is]
  · rw [if_neg h, wi_In h]
theorem cM.set {G : am_G} {h i p : Nat} {a b : Int32} {M : mT} (hm : cM G h M) (n : Nat) (hn : ∀ q, q < n → q ≠ i → q < mN M) (G' : am_G) (hG : G' = E_putF G h i p a b ∨ G' = am_wi (E_putF G h i p a b) h 7 (nI n)) (h7 : G'.2.1 h 7 = nI n) : cM G' h (mIns M n i p a b) := by
  obtain ⟨⟨g1, g2, g3, g4⟩, hc, hr⟩ := hm
  have f0 : ∀ q, q ≠ 7 → G'.2.1 h q = G.2.1 h q := by
    intro q hq
    rcases hG with e | e
    · rw [e]; unfold E_putF; rw [wi_I (by omega), wi_I (by omega), wi_I (by omega)]
    · rw [e, wi_In hq]; unfold E_putF; rw [wi_I (by omega), wi_I (by omega), wi_I (by omega)]
  have f1 : ∀ q, q ≠ h → G'.2.1 q = (E_putF G h i p a b).2.1 q := by
    intro q hq
    rcases hG with e | e
    · rw [e]
    · rw [e, wi_I hq]
  refine ⟨⟨h7, ?_, ?_, ?_⟩, fun q hq => ?_, fun q hq => ?_⟩
  · rw [f0 8 (by decide)]; exact g2
  · rw [f0 9 (by decide)]; exact g3
  · rw [f0 10 (by decide)]; exact g4
  · rw [f1 (h + 1) (by omega), f1 (h + 2) (by omega), f1 (h + 3) (by omega)]
    have e1 : (E_putF G h i p a b).2.1 (h + 1) q = if q = i then nI p else G.2.1 (h + 1) q := by
      unfold E_putF; rw [wi_I (by omega), wi_I (by omega), wi_at]
    have e2 : (E_putF G h i p a b).2.1 (h + 2) q = if q = i then nA p a else G.2.1 (h + 2) q := by
      unfold E_putF; rw [wi_I (by omega), wi_at, wi_I (by omega)]; rfl
    have e3 : (E_putF G h i p a b).2.1 (h + 3) q = if q = i then nB p b else G.2.1 (h + 3) q := by
      unfold E_putF; rw [wi_at, wi_I (by omega), wi_I (by omega)]; rfl
    rw [e1, e2, e3]
    show _ = nI (va_up (mO M) i p q) ∧ _ = va_up (mA M) i (nA p a) q ∧ _ = va_up (mB M) i (nB p b) q
    by_cases e : q = i
    · subst e; simp only [if_true, am_up_eq]; exact ⟨trivial, trivial, trivial⟩
    · rw [if_neg e, if_neg e, if_neg e, am_up_ne e, am_up_ne e, am_up_ne e]
      exact hc q (hn q hq e)
  · rw [f1 (h + 4) (by omega), f1 (h + 5) (by omega), f1 (h + 6) (by omega), f1 (h + 7) (by omega)]
    have e1 : ∀ k, 4 ≤ k → (E_putF G h i p a b).2.1 (h + k) = G.2.1 (h + k) := fun k hk => by
      unfold E_putF; rw [wi_I (by omega), wi_I (by omega), wi_I (by omega)]
    rw [e1 4 (by omega), e1 5 (by omega), e1 6 (by omega), e1 7 (by omega)]
    exact hr q hq
theorem cM.row {G : am_G} {h : Nat} {f t a y : Nat} {M : mT} (hm : cM G h M) : cM (E_row G h (mR M) (nI f) (nI t) (nI a) (nI y)) h (mRowA M f t a y) := by
  obtain ⟨⟨g1, g2, g3, g4⟩, hc, hr⟩ := hm
  have f0 : ∀ q, q ≠ 8 → (E_row G h (mR M) (nI f) (nI t) (nI a) (nI y)).2.1 h q = G.2.1 h q := fun q hq => by
    unfold E_row; rw [wi_In hq, wi_I (by omega), wi_I (by omega), wi_I (by omega), wi_I (by omega)]
  have f1 : ∀ k, 1 ≤ k → k ≤ 3 → (E_row G h (mR M) (nI f) (nI t) (nI a) (nI y)).2.1 (h + k) = G.2.1 (h + k) := fun k h1 h2 => by
    unfold E_row; rw [wi_I (by omega), wi_I (by omega), wi_I (by omega), wi_I (by omega), wi_I (by omega)]
  refine ⟨⟨?_, ?_, ?_, ?_⟩, fun q hq => ?_, fun q hq => ?_⟩
  · rw [f0 7 (by decide)]; exact g1
  · unfold E_row; rw [wi_Is]; rfl
  · rw [f0 9 (by decide)]; exact g3
  · rw [f0 10 (by decide)]; exact g4
  · rw [f1 1 (by omega) (by omega), f1 2 (by omega) (by omega), f1 3 (by omega) (by omega)]; exact hc q hq
  · have e1 : (E_row G h (mR M) (nI f) (nI t) (nI a) (nI y)).2.1 (h + 4) q = if q = mR M then nI f else G.2.1 (h + 4) q := by
      unfold E_row; rw [wi_I (by omega), wi_I (by omega), wi_I (by omega), wi_I (by omega), wi_at]
    have e2 : (E_row G h (mR M) (nI f) (nI t) (nI a) (nI y)).2.1 (h + 5) q = if q = mR M then nI t else G.2.1 (h + 5) q := by
      unfold E_row; rw [wi_I (by omega), wi_I (by omega), wi_I (by omega), wi_at, wi_I (by omega)]
    have e3 : (E_row G h (mR M) (nI f) (nI t) (nI a) (nI y)).2.1 (h + 6) q = if q = mR M then nI a else G.2.1 (h + 6) q := by
      unfold E_row; rw [wi_I (by omega), wi_I (by omega), wi_at, wi_I (by omega), wi_I (by omega)]
    have e4 : (E_row G h (mR M) (nI f) (nI t) (nI a) (nI y)).2.1 (h + 7) q = if q = mR M then nI y else G.2.1 (h + 7) q := by
      unfold E_row; rw [wi_I (by omega), wi_at, wi_I (by omega), wi_I (by omega), wi_I (by omega)]
    rw [e1, e2, e3, e4]
    show _ = nI (va_up (mF M) (mR M) f q) ∧ _ = nI (va_up (mE M) (mR M) t q) ∧ _ = nI (va_up (mP M) (mR M) a q) ∧ _ = nI (va_up (mY M) (mR M) y q)
    have hq : q < mR M + 1 := hq
    by_cases e : q = mR M
    · simp only [e, if_true, am_up_eq]; exact ⟨trivial, trivial, trivial, trivial⟩
    · rw [if_neg e, if_neg e, if_neg e, if_neg e, am_up_ne e, am_up_ne e, am_up_ne e, am_up_ne e]
      exact hr q (by omega)
/-- what must hold behind a class's call -/
def cEnd (G G' : am_G) (s' : sT) : Prop := cS G' s' ∧ oR clR G G'
theorem cEnd.rf {G : am_G} {s : sT} (h : cS G s) : cEnd G G s := ⟨h, oR.rf⟩
theorem cEnd.put {G G' : am_G} {s : sT} {m : Nat} {M : mT} (hv : s.1 < 2) (hm : m < 6) (hs : cS G s) (ho : oR (hR8 (mo s.1 m)) G G') (hM : cM G' (mo s.1 m) M) : cEnd G G' (zPut s m M) :=
  ⟨hs.put hv hm (fun i hi => ho.2.2 i hi) hM, ho.up (mo_cl hv hm)⟩
