/-! what is written stays what a state may be -/
theorem sf1_j : ∀ o, o < 28 → am_sf 1 o = nI 59 → o = 11 ∨ o = 12 ∨ o = 17 ∨ o = 23 := by decide +kernel
theorem sf1_jm {o : Nat} (ho : o < 28) (h : am_sf 1 o = nI 59) : jm4 o := sf1_j o ho h
theorem sf_fix : am_sf 0 3 = nI 7 ∧ am_sf 0 2 = nI 7 ∧ am_sf 0 27 = nI 7 ∧ am_sf 1 3 = -1 ∧ am_sf 0 11 = -1 ∧ am_sf 1 11 = nI 59 := by decide +kernel
theorem sf1_23 : am_sf 1 12 = nI 59 ∧ am_sf 1 17 = nI 59 ∧ am_sf 1 23 = nI 59 := by decide +kernel
theorem jm4_sf {o : Nat} (h : jm4 o) : am_sf 1 o = nI 59 := by
  rcases h with e | e | e | e
  · rw [e]; exact sf_fix.2.2.2.2.2
  · rw [e]; exact sf1_23.1
  · rw [e]; exact sf1_23.2.1
  · rw [e]; exact sf1_23.2.2
theorem n59_m1 : ¬ nI 59 = (-1 : Int32) := by decide
theorem n7_m1 : ¬ nI 7 = (-1 : Int32) := by decide
theorem okO_y {k v : Nat} (hk : k < 60) (h : v ≤ k) : okO (nI k) (nI v) = true := by
  unfold okO
  refine decide_eq_true (Or.inr (Or.inr ⟨?_, ?_⟩))
  · rw [Int32.le_iff_toInt_le, nI_toInt (by omega)]; show (0 : Int) ≤ _; omega
  · rw [Int32.le_iff_toInt_le, nI_toInt (by omega), nI_toInt (by omega)]; omega
theorem okO_m1 {x : Int32} : okO (-1) x = true := decide_eq_true (Or.inl rfl)
/-- what an instruction of a method with n may be -/
def insW (n p : Nat) (a b : Int32) : Prop := p < 28 ∧ insV n p a b ∧ (am_sf 0 p = -1 → a = 0) ∧ (am_sf 1 p = -1 → b = 0)
theorem insV.mono {n n' p : Nat} {a b : Int32} (h : insV n p a b) (hn : n ≤ n') : insV n' p a b := ⟨h.1, fun q => ⟨(h.2 q).1, by have := (h.2 q).2; omega⟩⟩
theorem insW.mono {n n' p : Nat} {a b : Int32} (h : insW n p a b) (hn : n ≤ n') : insW n' p a b := ⟨h.1, h.2.1.mono hn, h.2.2⟩
theorem insW_of {n p : Nat} {a b : Int32} (hp : p < 28) (h1 : okO (am_sf 0 p) a = true) (h2 : okO (am_sf 1 p) b = true) : insW n p (nA p a) (nB p b) := by
  refine ⟨hp, ⟨?_, fun h => ?_⟩, fun h => ?_, fun h => ?_⟩
  · unfold nA
    split
    · rename_i e; rw [e]; exact okO_m1
    · exact h1
  · have e : nB p b = b := if_neg (fun q => n59_m1 (h.symm.trans q))
    rw [e]
    rw [h] at h2
    have := okO_n (by omega) h2
    exact ⟨this.1, by omega⟩
  · unfold nA; rw [if_pos h]; rfl
  · unfold nB; rw [if_pos h]; rfl
/-- an instruction whose jump leads elsewhere -/
theorem insW.jmp {n n' p x : Nat} {a b : Int32} (h : insW n p a b) (hj : jm4 p) (hx : x ≤ n' + 59) (hn : n' ≤ 1000) : insW n' p a (nI x) := by
  refine ⟨h.1, ⟨h.2.1.1, fun _ => ?_⟩, h.2.2.1, fun q => absurd ((jm4_sf hj).symm.trans q) n59_m1⟩
  rw [nI_clamp (by omega)]
  exact ⟨rfl, hx⟩
theorem insW.not {n n' p : Nat} {a b : Int32} (h : insW n p a b) (hj : ¬ jm4 p) : insW n' p a b := ⟨h.1, ⟨h.2.1.1, fun q => absurd (sf1_jm h.1 q) hj⟩, h.2.2⟩
theorem mV.w {M : mT} {i : Nat} (h : mV M) (hi : i < mN M) : insW (mN M) (mO M i) (mA M i) (mB M i) := h.2.2.2.1 i hi
theorem mV.bb {M : mT} {i : Nat} (h : mV M) (hi : i < mN M) (hj : jm4 (mO M i)) : bN M i ≤ mN M + 59 := ((h.w hi).2.1.2 (jm4_sf hj)).2
theorem bel_cl {x : Int32} {n : Nat} (h : bel x n = true) (hn : n < 2 ^ 31) : x.toNatClampNeg < n ∧ x = nI x.toNatClampNeg := by
  obtain ⟨a, ha, e⟩ := bel_of h hn
  rw [e, nI_clamp (by omega)]
  exact ⟨ha, rfl⟩
section Sv
variable {s : sT} {m n p i : Nat} {M C : mT} {x y z u v : Int32}
theorem sV.mth (hv : sV s) (hm : m < 6) : mV (zM s m) := hv.2.1 _ (by have := hv.1; omega)
theorem sV.put (hv : sV s) (hM : mV M) : sV (zPut s m M) := by
  refine ⟨hv.1, fun q hq => ?_, hv.2.2⟩
  show mV (va_up s.2.1 (6 * s.1 + m) M q)
  by_cases e : q = 6 * s.1 + m
  · rw [e, am_up_eq]; exact hM
  · rw [am_up_ne e]; exact hv.2.1 q hq
theorem aWrite_v (hv : sV s) : sV (aWrite s x).2 := by
  unfold aWrite
  split
  · rename_i h; exact ⟨(bel_cl h (by decide)).1, hv.2⟩
  · exact hv
theorem aBranch_v (hv : sV s) : sV (aBranch s).2 := by
  refine ⟨Nat.lt_succ_self 1, fun q hq => ?_, hv.2.2⟩
  show mV (if q < 6 then s.2.1 q else s.2.1 (q - 6))
  split
  · exact hv.2.1 q hq
  · exact hv.2.1 _ (by omega)
theorem mBeg_v {c : Bool} (h : p ≤ 3) : mV (mBeg M p c) := ⟨Nat.zero_le _, Nat.zero_le _, h, fun i hi => absurd hi (Nat.not_lt_zero i), fun i hi => absurd hi (Nat.not_lt_zero i)⟩
theorem aMethod_v {c : Bool} (hv : sV s) : sV (aMethod s x y c).2 := by
  unfold aMethod
  split
  · rename_i h; exact hv.put (mBeg_v (by have := (bel_cl h.2 (by decide)).1; omega))
  · exact hv
theorem mIns_v (hv : mV M) (hn : n ≤ 60) (h1 : mN M ≤ n) (h2 : ∀ q, q < n → q ≠ i → q < mN M) (hp : p < 28) (ha : okO (am_sf 0 p) x = true) (hb : okO (am_sf 1 p) y = true) : mV (mIns M n i p x y) := by
  refine ⟨hn, hv.2.1, hv.2.2.1, fun q hq => ?_, fun q hq => ?_⟩
  · show insW n (va_up (mO M) i p q) (va_up (mA M) i (nA p x) q) (va_up (mB M) i (nB p y) q)
    by_cases e : q = i
    · rw [e, am_up_eq, am_up_eq, am_up_eq]; exact insW_of hp ha hb
    · rw [am_up_ne e, am_up_ne e, am_up_ne e]; exact (hv.w (h2 q hq e)).mono h1
  · have := hv.2.2.2.2 q hq
    show mF M q ≤ n + 60 ∧ mE M q ≤ n + 60 ∧ mP M q ≤ n + 60 ∧ mY M q < 8
    omega
theorem insOk_y (h : insOk x y z = true) : x.toNatClampNeg < 28 ∧ okO (am_sf 0 x.toNatClampNeg) y = true ∧ okO (am_sf 1 x.toNatClampNeg) z = true := by
  unfold insOk at h
  rw [Bool.and_eq_true, Bool.and_eq_true] at h
  exact ⟨(bel_cl h.1 (by decide)).1, h.2⟩
theorem aAdd_v (hv : sV s) : sV (aAdd s x y z u).2 := by
  unfold aAdd
  split
  · rename_i h
    split
    · rename_i h2
      have hm := hv.mth (bel_cl h.1 (by decide)).1
      have ho := insOk_y h.2
      exact hv.put (mIns_v hm (by omega) (by omega) (fun q h1 h2 => by omega) ho.1 ho.2.1 ho.2.2)
    · exact hv
  · exact hv
theorem aChange_v (hv : sV s) : sV (aChange s x y z u v).2 := by
  unfold aChange
  split
  · rename_i h
    have hm := hv.mth (bel_cl h.1.1 (by decide)).1
    have ho := insOk_y h.1.2
    have hi := bel_cl h.2 (by have := hm.1; omega)
    exact hv.put (mIns_v hm hm.1 (Nat.le_refl _) (fun q h1 h2 => h1) ho.1 ho.2.1 ho.2.2)
  · exact hv
theorem mRowA_v {f t a b : Nat} (hv : mV M) (hr : mR M < 8) (hf : f ≤ 60) (ht : t ≤ 60) (ha : a ≤ 60) (hb : b < 8) : mV (mRowA M f t a b) := by
  refine ⟨hv.1, hr, hv.2.2.1, hv.2.2.2.1, fun q hq => ?_⟩
  show va_up (mF M) (mR M) f q ≤ mN M + 60 ∧ va_up (mE M) (mR M) t q ≤ mN M + 60 ∧ va_up (mP M) (mR M) a q ≤ mN M + 60 ∧ va_up (mY M) (mR M) b q < 8
  have hq : q < mR M + 1 := hq
  by_cases e : q = mR M
  · rw [e, am_up_eq, am_up_eq, am_up_eq, am_up_eq]; omega
  · rw [am_up_ne e, am_up_ne e, am_up_ne e, am_up_ne e]; exact hv.2.2.2.2 q (by omega)
theorem le60 {a : Int32} (h : a ≤ nI 60) : a.toNatClampNeg ≤ 60 := by
  rw [Int32.le_iff_toInt_le, nI_toInt (by decide)] at h
  show a.toInt.toNat ≤ 60
  omega
theorem aRow_v (hv : sV s) {a b c e f : Int32} : sV (aRow s a b c e f).2 := by
  unfold aRow
  split
  · rename_i h
    split
    · rename_i h2
      have hm := hv.mth (bel_cl h.1 (by decide)).1
      have q1 := (bel_cl h.2.1.1 (by decide)).1
      have q2 := (bel_cl h.2.1.2 (by decide)).1
      have q3 := (bel_cl h.2.2.2 (by decide)).1
      have q4 := le60 h.2.2.1.2
      exact hv.put (mRowA_v hm h2 (by omega) q4 (by omega) q3)
    · exact hv
  · exact hv
/-- rows that are gathered stay within B -/
def wBd (B : Nat) (R : wT) : Prop := ∀ i, i < R.1 → R.2.1 i ≤ B ∧ R.2.2.1 i ≤ B ∧ R.2.2.2.1 i ≤ B ∧ R.2.2.2.2 i < 8
theorem wBd_z {B : Nat} : wBd B wZ := fun i hi => absurd hi (Nat.not_lt_zero i)
theorem wBd.add {B : Nat} {R : wT} {f t a b : Nat} (h : wBd B R) (hq : f < t → f ≤ B ∧ t ≤ B ∧ a ≤ B ∧ b < 8) : wBd B (wAdd R f t a b) := by
  unfold wAdd
  split
  · rename_i hf
    intro i hi
    have hi : i < R.1 + 1 := hi
    show va_up R.2.1 R.1 f i ≤ B ∧ va_up R.2.2.1 R.1 t i ≤ B ∧ va_up R.2.2.2.1 R.1 a i ≤ B ∧ va_up R.2.2.2.2 R.1 b i < 8
    by_cases e : i = R.1
    · rw [e, am_up_eq, am_up_eq, am_up_eq, am_up_eq]; exact hq hf
    · rw [am_up_ne e, am_up_ne e, am_up_ne e, am_up_ne e]; exact h i (by omega)
  · exact h
theorem shB_w {k : Nat} (hv : mV M) (hp : p < mN M) (hk : k < mN M) (hn : mN M + n - 1 ≤ 60) : insW (mN M + n - 1) (mO M k) (mA M k) (shB M p n k) := by
  by_cases h : jm4 (mO M k)
  · rw [shB_y h]
    have hb := hv.bb hk h
    exact (hv.w hk).jmp h (by unfold mvd; split <;> omega) (by omega)
  · rw [shB_n h]; exact (hv.w hk).not h
theorem mNew_v {I : iT} {R : wT} (hv : mV M) (hp : p < mN M) (hn : mN M + n - 1 ≤ 60) (hI : ∀ k, k < n → insW (mN M + n - 1) (I k).1 (I k).2.1 (I k).2.2) (hR : R.1 ≤ 8) (hB : wBd (mN M + n - 1 + 60) R) : mV (mNew M p n I R) := by
  refine ⟨hn, hR, hv.2.2.1, fun i hi => ?_, hB⟩
  have hi : i < mN M + n - 1 := hi
  show insW (mN M + n - 1) (mO (mNew M p n I R) i) (mA (mNew M p n I R) i) (mB (mNew M p n I R) i)
  by_cases h1 : i < p
  · obtain ⟨e1, e2, e3⟩ := mNew_lo (M := M) (n := n) (C := I) (R := R) h1
    rw [e1, e2, e3]; exact shB_w hv hp (by omega) hn
  · by_cases h2 : i < p + n
    · obtain ⟨e1, e2, e3⟩ := mNew_in (M := M) (p := p) (n := n) (k := i - p) (C := I) (R := R) (by omega)
      rw [show p + (i - p) = i by omega] at e1 e2 e3
      rw [e1, e2, e3]; exact hI _ (by omega)
    · obtain ⟨e1, e2, e3⟩ := mNew_hi (M := M) (p := p) (n := n) (k := i + 1 - n) (C := I) (R := R) (by omega)
      rw [show i + 1 - n + n - 1 = i by omega] at e1 e2 e3
      rw [e1, e2, e3]; exact shB_w hv hp (by omega) hn
theorem mvd_le {B k : Nat} (hp : p < k) (hk : mN M + n - 1 + 60 = B) (hM : k = mN M) {q : Nat} (hq : q ≤ mN M + 60) : mvd p n q ≤ B := by
  unfold mvd; split <;> omega
/-! unfold -/
theorem uRow_v {b e k : Nat} {R : wT} (hv : mV M) (hp : p < mN M) (hk : k < mR M) (hn : n = e - b - 1) (hb : b < e) (he : e < mN M) (h : wBd (mN M + n - 1 + 60) R) : wBd (mN M + n - 1 + 60) (uRow M p b e n R k) := by
  have hr := hv.2.2.2.2 k hk
  have hm : mvd p n (mP M k) ≤ mN M + n - 1 + 60 := mvd_le hp rfl rfl hr.2.2.1
  unfold uRow
  exact ((h.add (fun q => ⟨by omega, by omega, hm, hr.2.2.2⟩)).add (fun q => ⟨by omega, by omega, hm, hr.2.2.2⟩)).add (fun q => ⟨by omega, by omega, hm, hr.2.2.2⟩)
theorem uRows_v {b e : Nat} (hv : mV M) (hp : p < mN M) (hn : n = e - b - 1) (hb : b < e) (he : e < mN M) : ∀ k, k ≤ mR M → wBd (mN M + n - 1 + 60) (uRows M p b e n k)
  | 0, _ => wBd_z
  | k + 1, hk => uRow_v hv hp (by omega) hn hb he (uRows_v hv hp hn hb he k (by omega))
theorem uC_v {b e k : Nat} (hv : mV M) (hp : p < mN M) (hn : n = e - b - 1) (hN : mN M + n - 1 ≤ 60) (hP : plE M b e) (hb : b < e) (hk : k < n) : insW (mN M + n - 1) (uC M p b k).1 (uC M p b k).2.1 (uC M p b k).2.2 := by
  have he := hP.1.1
  have hi : b + 1 + k < mN M := by omega
  have hq := hP.2.1 (b + 1 + k) hi
  unfold plI at hq
  rw [if_pos (by omega)] at hq
  show insW (mN M + n - 1) (mO M (b + 1 + k)) (mA M (b + 1 + k)) (@ite Int32 (jm4 (mO M (b + 1 + k))) (Classical.propDecidable _) (nI (p + bN M (b + 1 + k) - (b + 1))) (mB M (b + 1 + k)))
  by_cases h : jm4 (mO M (b + 1 + k))
  · rw [if_pos h]
    have h3 : jm3 (mO M (b + 1 + k)) := by
      rcases h with q | q | q | q
      · exact Or.inl q
      · exact Or.inr (Or.inl q)
      · exact Or.inr (Or.inr q)
      · exact absurd q hq.1
    have := hq.2.2 h3
    exact (hv.w hi).jmp h (by omega) (by omega)
  · rw [if_neg h]; exact (hv.w hi).not h
theorem uU_v (hv : sV s) (hm : m < 6) : sV (uU s m x).2 := by
  have hV := hv.mth hm
  have hN := hV.1
  unfold uU
  split
  · rename_i h
    have hp := (bel_cl h.1 (by omega)).1
    split
    · exact hv
    · rename_i e he
      obtain ⟨-, hP, hb⟩ := pE_s he
      split
      · exact hv
      · split
        · exact hv
        · rename_i h2
          have h3 : mN (zM s m) + (e - bN (zM s m) x.toNatClampNeg - 1) - 1 ≤ 60 := by
            rcases Nat.lt_or_ge 60 (mN (zM s m) + (e - bN (zM s m) x.toNatClampNeg - 1) - 1) with q | q
            · exact absurd (Or.inl q) h2
            · exact q
          have h4 : (uRows (zM s m) x.toNatClampNeg (bN (zM s m) x.toNatClampNeg) e (e - bN (zM s m) x.toNatClampNeg - 1) (mR (zM s m))).1 ≤ 8 := by
            rcases Nat.lt_or_ge 8 (uRows (zM s m) x.toNatClampNeg (bN (zM s m) x.toNatClampNeg) e (e - bN (zM s m) x.toNatClampNeg - 1) (mR (zM s m))).1 with q | q
            · exact absurd (Or.inr q) h2
            · exact q
          exact hv.put (mNew_v hV hp h3 (fun k hk => uC_v hV hp rfl h3 hP hb hk) h4 (uRows_v hV hp rfl hb hP.1.1 _ (Nat.le_refl _)))
  · exact hv
theorem aUnf_v (hv : sV s) : sV (aUnf s x y).2 := by
  unfold aUnf
  split
  · rename_i h
    split
    · exact uU_v hv (bel_cl h (by decide)).1
    · exact hv
  · exact hv
/-! inline -/
theorem iC_v {f k : Nat} (hM : mV M) (hC : mV C) (hp : p < mN M) (hN : mN M + iN C - 1 ≤ 60) (hf : f + gLx C true (mN C) ≤ 8) (hk : k < iN C) : insW (mN M + iN C - 1) (iC C p f (iN C) k).1 (iC C p f (iN C) k).2.1 (iC C p f (iN C) k).2.2 := by
  have hg := gLx_g C true (mN C)
  have hk : k < mG C + mN C := hk
  have hN : mN M + (mG C + mN C) - 1 ≤ 60 := hN
  show insW (mN M + (mG C + mN C) - 1) (iC C p f (mG C + mN C) k).1 (iC C p f (mG C + mN C) k).2.1 (iC C p f (mG C + mN C) k).2.2
  unfold iC
  by_cases h1 : k < mG C
  · rw [if_pos h1]
    refine ⟨show 3 < 28 by decide, ⟨?_, fun q => absurd (q.symm.trans sf_fix.2.2.2.1) n59_m1⟩, fun q => absurd (sf_fix.1.symm.trans q) n7_m1, fun _ => rfl⟩
    show okO (am_sf 0 3) (nI (f + mG C - 1 - k)) = true
    rw [sf_fix.1]
    exact okO_y (by decide) (by omega)
  · rw [if_neg h1]
    have hi : k - mG C < mN C := by omega
    by_cases h2 : mO C (k - mG C) = 22
    · rw [if_pos h2]
      refine ⟨show 11 < 28 by decide, ⟨?_, fun _ => ?_⟩, fun _ => rfl, fun q => absurd (sf_fix.2.2.2.2.2.symm.trans q) n59_m1⟩
      · show okO (am_sf 0 11) (nI 0) = true
        rw [sf_fix.2.2.2.2.1]; exact okO_m1
      · show nI (p + (mG C + mN C)) = nI (nI (p + (mG C + mN C))).toNatClampNeg ∧ (nI (p + (mG C + mN C))).toNatClampNeg ≤ _
        rw [nI_clamp (by omega)]
        exact ⟨rfl, by omega⟩
    · rw [if_neg h2]
      have hw := hC.w hi
      have hA : insW (mN C) (mO C (k - mG C)) (@ite Int32 (mO C (k - mG C) = 2 ∨ mO C (k - mG C) = 3 ∨ mO C (k - mG C) = 27) (Classical.propDecidable _) (nI (aN C (k - mG C) + f)) (mA C (k - mG C))) (mB C (k - mG C)) := by
        by_cases h3 : mO C (k - mG C) = 2 ∨ mO C (k - mG C) = 3 ∨ mO C (k - mG C) = 27
        · rw [if_pos h3]
          have hl : locO true (mO C (k - mG C)) := by
            rcases h3 with q | q | q
            · exact Or.inl q
            · exact Or.inr (Or.inl q)
            · exact Or.inr (Or.inr (Or.inl q))
          have hx := gLx_i C true (mN C) (k - mG C) hi hl
          have hs : am_sf 0 (mO C (k - mG C)) = nI 7 := by
            rcases h3 with q | q | q
            · rw [q]; exact sf_fix.2.1
            · rw [q]; exact sf_fix.1
            · rw [q]; exact sf_fix.2.2.1
          refine ⟨hw.1, ⟨?_, hw.2.1.2⟩, fun q => absurd (hs.symm.trans q) n7_m1, hw.2.2.2⟩
          rw [hs]
          exact okO_y (by decide) (by omega)
        · rw [if_neg h3]; exact hw
      show insW (mN M + (mG C + mN C) - 1) (mO C (k - mG C)) (@ite Int32 (mO C (k - mG C) = 2 ∨ mO C (k - mG C) = 3 ∨ mO C (k - mG C) = 27) (Classical.propDecidable _) (nI (aN C (k - mG C) + f)) (mA C (k - mG C))) (@ite Int32 (jm4 (mO C (k - mG C))) (Classical.propDecidable _) (nI (bN C (k - mG C) + (p + mG C))) (mB C (k - mG C)))
      by_cases h4 : jm4 (mO C (k - mG C))
      · rw [if_pos h4]
        have := hC.bb hi h4
        exact hA.jmp h4 (by omega) (by omega)
      · rw [if_neg h4]; exact hA.not h4
theorem iR1_v (hC : mV C) (hp : p < mN M) : ∀ k, k ≤ mR C → wBd (mN M + iN C - 1 + 60) (iR1 C (p + mG C) k)
  | 0, _ => wBd_z
  | k + 1, hk => by
    have hr := hC.2.2.2.2 k (by omega)
    have ih := iR1_v hC hp k (by omega)
    exact ih.add (fun q => ⟨by show _ ≤ mN M + (mG C + mN C) - 1 + 60; omega, by show _ ≤ mN M + (mG C + mN C) - 1 + 60; omega, by show _ ≤ mN M + (mG C + mN C) - 1 + 60; omega, hr.2.2.2⟩)
theorem iR2_v {R : wT} (hM : mV M) (hp : p < mN M) (hR : wBd (mN M + n - 1 + 60) R) : ∀ k, k ≤ mR M → wBd (mN M + n - 1 + 60) (iR2 M p n R k)
  | 0, _ => hR
  | k + 1, hk => by
    have hr := hM.2.2.2.2 k (by omega)
    have ih := iR2_v hM hp hR k (by omega)
    exact ih.add (fun q => ⟨mvd_le hp rfl rfl hr.1, mvd_le hp rfl rfl hr.2.1, mvd_le hp rfl rfl hr.2.2.1, hr.2.2.2⟩)
theorem iMN_v (hM : mV M) (hC : mV C) (hp : p < mN M) (hg : gLx M true (mN M) + gLx C true (mN C) ≤ 8) (hN : mN M + iN C - 1 ≤ 60) (hR : (iRR M C p).1 ≤ 8) : mV (iMN M C p) :=
  mNew_v hM hp hN (fun _ hk => iC_v hM hC hp hN hg hk) hR (iR2_v hM hp (iR1_v hC hp _ (Nat.le_refl _)) _ (Nat.le_refl _))
theorem uY_v (hv : sV s) (hm : m < 6) (hp : p < mN (zM s m)) (ho : mO (zM s m) p = 21) : sV (uY s m p).2 := by
  have hV := hv.mth hm
  have hC := hv.mth (hV.call hp ho).2
  unfold uY
  split
  · split
    · rename_i h
      obtain ⟨S, T, -, -, -, -, -, hg, -, -⟩ := h
      split
      · exact hv
      · rename_i h2
        have h3 : mN (zM s m) + iN (zM s (aN (zM s m) p)) - 1 ≤ 60 := by
          rcases Nat.lt_or_ge 60 (mN (zM s m) + iN (zM s (aN (zM s m) p)) - 1) with q | q
          · exact absurd (Or.inl q) h2
          · exact q
        have h4 : (iRR (zM s m) (zM s (aN (zM s m) p)) p).1 ≤ 8 := by
          rcases Nat.lt_or_ge 8 (iRR (zM s m) (zM s (aN (zM s m) p)) p).1 with q | q
          · exact absurd (Or.inr q) h2
          · exact q
        exact hv.put (iMN_v hV hC hp hg h3 h4)
    · exact hv
  · exact hv
theorem aInl_v (hv : sV s) : sV (aInl s x y).2 := by
  unfold aInl
  split
  · rename_i h
    have hm := (bel_cl h (by decide)).1
    have hN := (hv.mth hm).1
    split
    · split
      · rename_i h2
        exact uY_v hv hm (bel_cl h2.1 (by omega)).1 h2.2
      · exact hv
    · exact hv
  · exact hv
end Sv
