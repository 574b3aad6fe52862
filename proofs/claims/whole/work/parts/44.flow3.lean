/-! THE REFERENCE'S CHECKER, as mathematics. -/
section Rv
variable {g : Nat → Nat} {M : mT}
theorem rc_1 {t : rT} {q : Nat} {y : fS} : (rCome M t q y).1 = (cCome M (t.1, fun _ => false, t.2.2) q y).1 ∧ (rCome M t q y).2.2 = (cCome M (t.1, fun _ => false, t.2.2) q y).2.2 := by
  by_cases h : q < mN M
  · cases hz : t.1 q with
    | none =>
      rw [rCome_new h hz, cCome_new (t := (t.1, fun _ => false, t.2.2)) h hz]
      exact ⟨rfl, rfl⟩
    | some z =>
      rw [rCome_met h hz, cCome_met (t := (t.1, fun _ => false, t.2.2)) h hz]
      exact ⟨rfl, rfl⟩
  · rw [rCome_out h, cCome_out (t := (t.1, fun _ => false, t.2.2)) h]
    exact ⟨rfl, rfl⟩
def rMu (t : rT) : Nat → Nat
  | 0 => 0
  | n + 1 => rMu t n + cSw (t.1 n)
theorem rMu_c {t t' : rT} (h : t'.1 = t.1) : ∀ n, rMu t' n = rMu t n
  | 0 => rfl
  | n + 1 => by show rMu t' n + cSw (t'.1 n) = rMu t n + cSw (t.1 n); rw [rMu_c h n, h]
theorem rMu_up {t t' : rT} {q : Nat} {s : Option fS} (h : t'.1 = va_up t.1 q s) : ∀ n, rMu t' n + (if q < n then cSw (t.1 q) else 0) = rMu t n + (if q < n then cSw s else 0)
  | 0 => by rw [if_neg (show ¬ q < 0 by omega), if_neg (show ¬ q < 0 by omega)]; rfl
  | n + 1 => by
    have ih := rMu_up h n
    have e0 : rMu t' (n + 1) = rMu t' n + cSw (va_up t.1 q s n) := by show rMu t' n + cSw (t'.1 n) = _; rw [h]
    have e1 : rMu t (n + 1) = rMu t n + cSw (t.1 n) := rfl
    by_cases e : n = q
    · rw [e] at ih e0 e1 ⊢
      rw [am_up_eq] at e0
      rw [if_neg (Nat.lt_irrefl q), if_neg (Nat.lt_irrefl q)] at ih
      rw [if_pos (Nat.lt_succ_self q), if_pos (Nat.lt_succ_self q)]
      omega
    · rw [am_up_ne e] at e0
      by_cases e2 : q < n
      · rw [if_pos e2, if_pos e2] at ih; rw [if_pos (show q < n + 1 by omega), if_pos (show q < n + 1 by omega)]; omega
      · rw [if_neg e2, if_neg e2] at ih; rw [if_neg (show ¬ q < n + 1 by omega), if_neg (show ¬ q < n + 1 by omega)]; omega
/-- t' comes of t -/
def rKp (M : mT) (t t' : rT) : Prop := fBel M t.1 t'.1 ∧ (t'.2.2 = false → t.2.2 = false) ∧ (t'.2.1 = false → t.2.1 = false ∧ ∀ p, p < mN M → ∀ z, t'.1 p = some z → ∃ x, t.1 p = some x ∧ fEq x z) ∧ rMu t' (mN M) ≤ rMu t (mN M) ∧ (t'.2.1 = true → t.2.1 = true ∨ rMu t' (mN M) + 1 ≤ rMu t (mN M)) ∧ ∀ p, mN M ≤ p → t.1 p = none → t'.1 p = none
theorem rKp.rf {t : rT} : rKp M t t := ⟨fBel.rf, id, fun h => ⟨h, fun _ _ z hz => ⟨z, hz, fEq.rf⟩⟩, Nat.le_refl _, Or.inl, fun _ _ h => h⟩
theorem rKp.flag {t : rT} : rKp M t (t.1, t.2.1, true) := ⟨fBel.rf, (fun h => by cases h), fun h => ⟨h, fun _ _ z hz => ⟨z, hz, fEq.rf⟩⟩, Nat.le_of_eq (rMu_c (t := t) (t' := (t.1, t.2.1, true)) rfl _), Or.inl, fun _ _ h => h⟩
theorem rKp.tr {t u v : rT} (h1 : rKp M t u) (h2 : rKp M u v) : rKp M t v := by
  obtain ⟨a1, a2, a3, a4, a5, a6⟩ := h1
  obtain ⟨b1, b2, b3, b4, b5, b6⟩ := h2
  refine ⟨a1.tr b1, fun h => a2 (b2 h), fun h => ?_, Nat.le_trans b4 a4, fun h => ?_, fun p hp h => b6 p hp (a6 p hp h)⟩
  · obtain ⟨c1, c2⟩ := b3 h
    obtain ⟨d1, d2⟩ := a3 c1
    refine ⟨d1, fun p hp z hz => ?_⟩
    obtain ⟨x, hx, e1⟩ := c2 p hp z hz
    obtain ⟨u, hu, e2⟩ := d2 p hp x hx
    exact ⟨u, hu, e2.tr e1⟩
  · rcases b5 h with c | c
    · rcases a5 c with d | d
      · exact Or.inl d
      · exact Or.inr (by omega)
    · exact Or.inr (by omega)
theorem rCome_kp {t : rT} {q : Nat} {y : fS} : rKp M t (rCome M t q y) := by
  by_cases h : q < mN M
  · cases hz : t.1 q with
    | none =>
      rw [rCome_new h hz]
      have hm := rMu_up (t := t) (t' := (va_up t.1 q (some y), true, t.2.2)) (q := q) (s := some y) rfl (mN M)
      rw [if_pos h, if_pos h, hz] at hm
      have h1 : cSw none = 100 := rfl
      have h2 : cSw (some y) ≤ 8 := nLk_le (f := y.2.2) 8
      refine ⟨fBel.new hz, id, (fun e => by cases e), by omega, fun _ => Or.inr (by omega), fun p hp e => ?_⟩
      show va_up t.1 q (some y) p = none
      rw [am_up_ne (by omega)]; exact e
    | some z =>
      rw [rCome_met h hz]
      have hm := rMu_up (t := t) (t' := (va_up t.1 q (some (z.1, z.2.1, cMeetL z y)), t.2.1 || cDf z y 8, t.2.2 || !(decide (z.1 = y.1) && cSm z y y.1))) (q := q) (s := some (z.1, z.2.1, cMeetL z y)) rfl (mN M)
      rw [if_pos h, if_pos h, hz] at hm
      have h1 : cSw (some (z.1, z.2.1, cMeetL z y)) = nLk (cMeetL z y) 8 := rfl
      have h2 : cSw (some z) = nLk z.2.2 8 := rfl
      have h3 := nLk_meet (z := z) (y := y) 8
      refine ⟨fBel.up hz cMeetL_le, fun e => ?_, fun e => ?_, by split at h3 <;> omega, fun e => ?_, fun p hp e => ?_⟩
      · have e : (t.2.2 || _) = false := e
        rw [Bool.or_eq_false_iff] at e
        exact e.1
      · have e9 : (t.2.1 || cDf z y 8) = false := e
        rw [Bool.or_eq_false_iff] at e9
        refine ⟨e9.1, fun p hp u hu => ?_⟩
        have hu : va_up t.1 q (some (z.1, z.2.1, cMeetL z y)) p = some u := hu
        by_cases e2 : p = q
        · subst e2
          rw [am_up_eq] at hu; cases hu
          exact ⟨z, hz, rfl, fun _ _ => rfl, fun i hi => (cDf_f e9.2 i hi).symm⟩
        · rw [am_up_ne e2] at hu
          exact ⟨u, hu, fEq.rf⟩
      · have e : (t.2.1 || cDf z y 8) = true := e
        rw [Bool.or_eq_true] at e
        rcases e with e | e
        · exact Or.inl e
        · rw [if_pos e] at h3
          exact Or.inr (by omega)
      · show va_up t.1 q _ p = none
        rw [am_up_ne (by omega)]; exact e
  · rw [rCome_out h]; exact rKp.flag
theorem rCome_cov {t : rT} {q : Nat} {y : fS} (hf : (rCome M t q y).2.2 = false) : fCov M (rCome M t q y).1 q y := by
  rw [rc_1.1]
  exact cCome_cov (by rw [← rc_1.2]; exact hf)
theorem rCome_T {t : rT} {q : Nat} {y : fS} {T : fM} (hT : fCov M T q y) (hf : t.2.2 = false) (hb : fBel M t.1 T) : (rCome M t q y).2.2 = false ∧ fBel M (rCome M t q y).1 T := by
  rw [rc_1.1, rc_1.2]
  exact cCome_T hT hf hb
def fLc (s : Option fS) : Nat → Option Nat := match s with
  | some x => x.2.2
  | none => fun _ => none
def rRow (M : mT) (p : Nat) (t : rT) : Nat → rT
  | 0 => t
  | k + 1 => if (rRow M p t k).2.2 = false ∧ (mF M k ≤ p ∧ p < mE M k) then rCome M (rRow M p t k) (mP M k) (1, fun _ => 1, fLc ((rRow M p t k).1 p)) else rRow M p t k
theorem rRow_s {p : Nat} {t : rT} (n : Nat) : rKp M (rRow M p t n) (rRow M p t (n + 1)) := by
  show rKp M _ (if _ then _ else _)
  split
  · exact rCome_kp
  · exact rKp.rf
theorem rRow_kp {p : Nat} {t : rT} : ∀ {n i : Nat}, i ≤ n → rKp M (rRow M p t i) (rRow M p t n) := by
  intro n
  induction n with
  | zero => intro i hi; rw [show i = 0 by omega]; exact rKp.rf
  | succ n ih =>
    intro i hi
    by_cases e : i = n + 1
    · rw [e]; exact rKp.rf
    · exact (ih (by omega)).tr (rRow_s n)
theorem rRow_w {p : Nat} {t : rT} : ∀ {n i : Nat}, i ≤ n → (rRow M p t i).2.2 = true → rRow M p t n = rRow M p t i := by
  intro n
  induction n with
  | zero => intro i hi _; rw [show i = 0 by omega]
  | succ n ih =>
    intro i hi h
    by_cases e : i = n + 1
    · rw [e]
    · have e1 := ih (i := i) (by omega) h
      show (if _ then _ else rRow M p t n) = _
      rw [if_neg (fun q => by rw [e1, h] at q; cases q.1), e1]
theorem rRow_cov {p : Nat} {x : fS} {t : rT} (hp : p < mN M) (hx : t.1 p = some x) {n r : Nat} (hf : (rRow M p t n).2.2 = false) (hc : (rRow M p t n).2.1 = false) (hr : r < n) (hh : fHit M p r) : fCov M (rRow M p t n).1 (mP M r) (1, fun _ => 1, x.2.2) := by
  have k1 : rKp M (rRow M p t (r + 1)) (rRow M p t n) := rRow_kp hr
  have k0 : rKp M (rRow M p t r) (rRow M p t n) := rRow_kp (by omega)
  have e1 : rRow M p t (r + 1) = rCome M (rRow M p t r) (mP M r) (1, fun _ => 1, fLc ((rRow M p t r).1 p)) := if_pos ⟨k0.2.1 hf, hh⟩
  rw [e1] at k1
  have c1 := (rCome_cov (k1.2.1 hf)).mono k1.1
  have kz : rKp M t (rRow M p t r) := rRow_kp (i := 0) (by omega)
  obtain ⟨z, hz, -⟩ := kz.1 p x hp hx
  obtain ⟨u, hu, he⟩ := (kz.2.2.1 (k0.2.2.1 hc).1).2 p hp z hz
  rw [hx] at hu; cases hu
  rw [hz] at c1
  exact c1.low ⟨rfl, fun _ _ => rfl, he.le.2.2⟩
theorem rRow_T {p : Nat} {x v : fS} {t : rT} {T : fM} (hp : p < mN M) (hx : t.1 p = some x) (hT : T p = some v) (hf : t.2.2 = false) (hb : fBel M t.1 T) : ∀ n, (∀ r, r < n → fHit M p r → fCov M T (mP M r) (1, fun _ => 1, v.2.2)) → (rRow M p t n).2.2 = false ∧ fBel M (rRow M p t n).1 T
  | 0 => fun _ => ⟨hf, hb⟩
  | n + 1 => fun h => by
    obtain ⟨i1, i2⟩ := rRow_T hp hx hT hf hb n (fun r hr => h r (by omega))
    by_cases e : mF M n ≤ p ∧ p < mE M n
    · have e1 : rRow M p t (n + 1) = rCome M (rRow M p t n) (mP M n) (1, fun _ => 1, fLc ((rRow M p t n).1 p)) := if_pos ⟨i1, e⟩
      rw [e1]
      refine rCome_T ((h n (by omega) e).low ?_) i1 i2
      have kz : rKp M t (rRow M p t n) := rRow_kp (i := 0) (by omega)
      obtain ⟨z, hz, -⟩ := kz.1 p x hp hx
      obtain ⟨u, hu, hl⟩ := i2 p z hp hz
      rw [hT] at hu; cases hu
      rw [hz]
      exact ⟨rfl, fun _ _ => rfl, hl.2.2⟩
    · have e1 : rRow M p t (n + 1) = rRow M p t n := if_neg (fun q => e q.2)
      rw [e1]
      exact ⟨i1, i2⟩
def rBackL (M : mT) (y : fS) (k : Nat) (t : rT) : Nat → rT
  | 0 => t
  | n + 1 => if (rBackL M y k t n).2.2 = false ∧ ((rBackL M y k t n).1 n ≠ none ∧ mO M n = 23) ∧ bN M n = k then rCome M (rBackL M y k t n) (n + 1) y else rBackL M y k t n
theorem rBackL_s {y : fS} {k : Nat} {t : rT} (n : Nat) : rKp M (rBackL M y k t n) (rBackL M y k t (n + 1)) := by
  show rKp M _ (if _ then _ else _)
  split
  · exact rCome_kp
  · exact rKp.rf
theorem rBackL_kp {y : fS} {k : Nat} {t : rT} : ∀ {n i : Nat}, i ≤ n → rKp M (rBackL M y k t i) (rBackL M y k t n) := by
  intro n
  induction n with
  | zero => intro i hi; rw [show i = 0 by omega]; exact rKp.rf
  | succ n ih =>
    intro i hi
    by_cases e : i = n + 1
    · rw [e]; exact rKp.rf
    · exact (ih (by omega)).tr (rBackL_s n)
theorem rBackL_w {y : fS} {k : Nat} {t : rT} : ∀ {n i : Nat}, i ≤ n → (rBackL M y k t i).2.2 = true → rBackL M y k t n = rBackL M y k t i := by
  intro n
  induction n with
  | zero => intro i hi _; rw [show i = 0 by omega]
  | succ n ih =>
    intro i hi h
    by_cases e : i = n + 1
    · rw [e]
    · have e1 := ih (i := i) (by omega) h
      show (if _ then _ else rBackL M y k t n) = _
      rw [if_neg (fun q => by rw [e1, h] at q; cases q.1), e1]
theorem rBackL_cov {y : fS} {k : Nat} {t : rT} {n i : Nat} (hi : i < n) (hf : (rBackL M y k t n).2.2 = false) (h1 : (rBackL M y k t i).1 i ≠ none) (h2 : mO M i = 23) (h3 : bN M i = k) : fCov M (rBackL M y k t n).1 (i + 1) y := by
  have k1 : rKp M (rBackL M y k t (i + 1)) (rBackL M y k t n) := rBackL_kp hi
  have k0 : rKp M (rBackL M y k t i) (rBackL M y k t n) := rBackL_kp (by omega)
  have e1 : rBackL M y k t (i + 1) = rCome M (rBackL M y k t i) (i + 1) y := if_pos ⟨k0.2.1 hf, ⟨h1, h2⟩, h3⟩
  rw [e1] at k1
  exact (rCome_cov (k1.2.1 hf)).mono k1.1
theorem rBackL_T {y : fS} {k : Nat} {t : rT} {T : fM} (hf : t.2.2 = false) (hb : fBel M t.1 T) : ∀ n, n ≤ mN M → (∀ i, i < n → T i ≠ none → mO M i = 23 → bN M i = k → fCov M T (i + 1) y) → (rBackL M y k t n).2.2 = false ∧ fBel M (rBackL M y k t n).1 T
  | 0 => fun _ _ => ⟨hf, hb⟩
  | n + 1 => fun hn h => by
    obtain ⟨i1, i2⟩ := rBackL_T (y := y) (k := k) hf hb n (by omega) (fun r hr => h r (by omega))
    by_cases e : ((rBackL M y k t n).1 n ≠ none ∧ mO M n = 23) ∧ bN M n = k
    · have e1 : rBackL M y k t (n + 1) = rCome M (rBackL M y k t n) (n + 1) y := if_pos ⟨i1, e⟩
      rw [e1]
      refine rCome_T (h n (by omega) ?_ e.1.2 e.2) i1 i2
      cases hx : (rBackL M y k t n).1 n with
      | none => exact absurd hx e.1.1
      | some x =>
        obtain ⟨z, hz, -⟩ := i2 n x (by omega) hx
        rw [hz]; exact fun q => by cases q
    · have e1 : rBackL M y k t (n + 1) = rBackL M y k t n := if_neg (fun q => e q.2)
      rw [e1]
      exact ⟨i1, i2⟩
def rN1 (M : mT) (p : Nat) (y : fS) (t : rT) : rT := if mO M p = 11 ∨ mO M p = 12 ∨ mO M p = 17 ∨ mO M p = 23 then rCome M t (bN M p) y else t
def rN2 (M : mT) (p : Nat) (y : fS) (t : rT) : rT := if t.2.2 = false ∧ mO M p ≠ 11 ∧ mO M p ≠ 23 ∧ mO M p ≠ 20 ∧ mO M p ≠ 22 then rCome M t (p + 1) y else t
def rNx (M : mT) (p : Nat) (y : fS) (t : rT) : rT := if mO M p = 24 then rBackL M y (fRk y (aN M p)) t (mN M) else rN2 M p y (rN1 M p y t)
theorem rN1_kp {p : Nat} {y : fS} {t : rT} : rKp M t (rN1 M p y t) := by unfold rN1; split; exact rCome_kp; exact rKp.rf
theorem rN2_kp {p : Nat} {y : fS} {t : rT} : rKp M t (rN2 M p y t) := by unfold rN2; split; exact rCome_kp; exact rKp.rf
theorem rNx_kp {p : Nat} {y : fS} {t : rT} : rKp M t (rNx M p y t) := by
  unfold rNx
  split
  · exact rBackL_kp (i := 0) (Nat.zero_le _)
  · exact rN1_kp.tr rN2_kp
def rGo (g : Nat → Nat) (M : mT) (p : Nat) (x : fS) (t : rT) : rT := match fEff g (mO M p) (aN M p) (bN M p) x with
  | none => (t.1, t.2.1, true)
  | some y => rRow M p (rNx M p y t) (mR M)
theorem rGo_kp {p : Nat} {x : fS} {t : rT} : rKp M t (rGo g M p x t) := by
  unfold rGo
  split
  · exact rKp.flag
  · exact rNx_kp.tr (rRow_kp (i := 0) (Nat.zero_le _))
theorem rGo_out {p : Nat} {x : fS} {t : rT} (hp : p < mN M) (hx : t.1 p = some x) (hf : (rGo g M p x t).2.2 = false) (hc : (rGo g M p x t).2.1 = false) : fOut g M (rGo g M p x t).1 p x := by
  cases he : fEff g (mO M p) (aN M p) (bN M p) x with
  | none =>
    have e1 : rGo g M p x t = (t.1, t.2.1, true) := by unfold rGo; rw [he]
    rw [e1] at hf; cases hf
  | some y =>
    have e1 : rGo g M p x t = rRow M p (rNx M p y t) (mR M) := by unfold rGo; rw [he]
    rw [e1] at hf hc ⊢
    have kr : rKp M (rNx M p y t) (rRow M p (rNx M p y t) (mR M)) := rRow_kp (i := 0) (Nat.zero_le _)
    have hf1 := kr.2.1 hf
    have hc1 := (kr.2.2.1 hc).1
    have kn : rKp M t (rNx M p y t) := rNx_kp
    obtain ⟨x1, hx1, -⟩ := kn.1 p x hp hx
    obtain ⟨u, hu, heq⟩ := (kn.2.2.1 hc1).2 p hp x1 hx1
    rw [hx] at hu; cases hu
    refine ⟨⟨y, he, fun q hq => ?_, fun h24 i hi hn h23 hk => ?_⟩, fun r hr hh => (rRow_cov hp hx1 hf hc hr hh).low ⟨rfl, fun _ _ => rfl, heq.le.2.2⟩⟩
    · have h24 : ¬ mO M p = 24 := by
        rcases hq with ⟨a, -⟩ | ⟨a, -⟩
        · omega
        · exact a.2.2.1
      have e2 : rNx M p y t = rN2 M p y (rN1 M p y t) := if_neg h24
      rw [e2] at kr hf1
      have k2 : rKp M (rN1 M p y t) (rN2 M p y (rN1 M p y t)) := rN2_kp
      rw [e2]
      rcases hq with ⟨a, rfl⟩ | ⟨a, rfl⟩
      · have e3 : rN1 M p y t = rCome M t (bN M p) y := if_pos a
        rw [e3] at k2 kr hf1 ⊢
        exact ((rCome_cov (k2.2.1 hf1)).mono k2.1).mono kr.1
      · have e3 : rN2 M p y (rN1 M p y t) = rCome M (rN1 M p y t) (p + 1) y := if_pos ⟨k2.2.1 hf1, a.1, a.2.1, a.2.2.2.1, a.2.2.2.2⟩
        rw [e3] at kr hf1 ⊢
        exact (rCome_cov hf1).mono kr.1
    · have e2 : rNx M p y t = rBackL M y (fRk y (aN M p)) t (mN M) := if_pos h24
      rw [e2] at kr hf1 hc1 hn hf hc ⊢
      have hyx : y = x := by
        rw [h24] at he
        simp only [fEff] at he
        rw [hk] at he
        simp only at he
        split at he
        · cases he
        · cases he; rfl
      have hki : bN M i = fRk y (aN M p) := by
        rw [hyx]; unfold fRk; rw [hk]; simp
      have k1 : rKp M (rBackL M y (fRk y (aN M p)) t i) (rRow M p (rBackL M y (fRk y (aN M p)) t (mN M)) (mR M)) := (rBackL_kp (by omega)).tr kr
      refine (rBackL_cov hi hf1 ?_ h23 hki).mono kr.1
      cases hzi : (rRow M p (rBackL M y (fRk y (aN M p)) t (mN M)) (mR M)).1 i with
      | none => exact absurd hzi hn
      | some z =>
        obtain ⟨u, hu, -⟩ := (k1.2.2.1 hc).2 i hi z hzi
        rw [hu]; exact fun q => by cases q
theorem rGo_T {p : Nat} {x : fS} {t : rT} {T : fM} (hv : mV M) (hT : fSol g M T) (hp : p < mN M) (hf : t.2.2 = false) (hb : fBel M t.1 T) (hx : t.1 p = some x) : (rGo g M p x t).2.2 = false ∧ fBel M (rGo g M p x t).1 T := by
  obtain ⟨v, hv2, hl⟩ := hb p x hp hx
  obtain ⟨⟨y', he', hn, hbk⟩, hr⟩ := hT.2 p v hp hv2
  obtain ⟨y, he, hly⟩ := hv.eff_le hp hl he'
  have e1 : rGo g M p x t = rRow M p (rNx M p y t) (mR M) := by unfold rGo; rw [he]
  rw [e1]
  have s1 : (rNx M p y t).2.2 = false ∧ fBel M (rNx M p y t).1 T := by
    unfold rNx
    split
    · rename_i h24
      refine rBackL_T hf hb _ (Nat.le_refl _) (fun i hi hn2 h23 hk => (hbk h24 i hi hn2 h23 ?_).low hly)
      have hl8 := (hv.loc hp (Or.inr (Or.inr (Or.inl h24)))).2
      rw [h24] at he he'
      simp only [fEff] at he he'
      rcases hl.2.2 (aN M p) hl8 with q | q
      · cases hxa : x.2.2 (aN M p) with
        | none => rw [hxa] at he; cases he
        | some kk =>
          rw [hxa] at he
          simp only at he
          by_cases h10 : kk < 10
          · rw [if_pos h10] at he; cases he
          · rw [if_neg h10] at he
            cases he
            unfold fRk at hk
            rw [hxa] at hk
            rw [q, hxa, hk]
            show some kk = some (10 + (kk - 10))
            rw [show 10 + (kk - 10) = kk by omega]
      · rw [q] at he'; cases he'
    · rename_i h24
      have s0 : (rN1 M p y t).2.2 = false ∧ fBel M (rN1 M p y t).1 T := by
        unfold rN1
        split
        · rename_i h; exact rCome_T ((hn _ (Or.inl ⟨h, rfl⟩)).low hly) hf hb
        · exact ⟨hf, hb⟩
      unfold rN2
      split
      · rename_i h; exact rCome_T ((hn _ (Or.inr ⟨⟨h.2.1, h.2.2.1, h24, h.2.2.2.1, h.2.2.2.2⟩, rfl⟩)).low hly) s0.1 s0.2
      · exact s0
  have kn : rKp M t (rNx M p y t) := rNx_kp
  obtain ⟨x1, hx1, -⟩ := kn.1 p x hp hx
  exact rRow_T hp hx1 hv2 s1.1 s1.2 _ hr
/-- within a sweep: k places are done -/
def rInv (g : Nat → Nat) (M : mT) (k : Nat) (t : rT) : Prop := (t.2.2 = false → fCov M t.1 0 (fIn M) ∧ (t.2.1 = false → ∀ p x, p < k → p < mN M → t.1 p = some x → fOut g M t.1 p x)) ∧ (∀ T, fSol g M T → t.2.2 = false ∧ fBel M t.1 T) ∧ ∀ p, mN M ≤ p → t.1 p = none
theorem rInv.go {k : Nat} {x : fS} {t : rT} (hv : mV M) (h : rInv g M k t) (hk : k < mN M) (hx : t.1 k = some x) : rInv g M (k + 1) (rGo g M k x t) := by
  have hp : rKp M t (rGo g M k x t) := rGo_kp
  obtain ⟨h1, h2, h3⟩ := h
  refine ⟨fun hf => ?_, fun T hT => ?_, fun p hp2 => hp.2.2.2.2.2 p hp2 (h3 p hp2)⟩
  · obtain ⟨i1, i2⟩ := h1 (hp.2.1 hf)
    refine ⟨i1.mono hp.1, fun hc q z hq hq2 hz => ?_⟩
    obtain ⟨c1, c2⟩ := hp.2.2.1 hc
    obtain ⟨u, hu, he⟩ := c2 q hq2 z hz
    have gs : mO M q = 24 → ∀ i, i < mN M → mO M i = 23 → (rGo g M k x t).1 i ≠ none → t.1 i ≠ none := fun _ i hi _ hn => by
      cases hzi : (rGo g M k x t).1 i with
      | none => exact absurd hzi hn
      | some zz =>
        obtain ⟨w, hw, -⟩ := c2 i hi zz hzi
        rw [hw]; exact fun q => by cases q
    by_cases e : q = k
    · subst e
      rw [hx] at hu; cases hu
      exact (rGo_out hq2 hx hf hc).mv hv hq2 fBel.rf he (fun _ _ _ _ h => h)
    · exact (i2 c1 q u (by omega) hq2 hu).mv hv hq2 hp.1 he gs
  · obtain ⟨j1, j2⟩ := h2 T hT
    exact rGo_T hv hT hk j1 j2 hx
theorem rInv.skip {k : Nat} {t : rT} (h : rInv g M k t) (hx : t.1 k = none) : rInv g M (k + 1) t := ⟨fun hf => ⟨(h.1 hf).1, fun hc q z hq hq2 hz => by
  by_cases e : q = k
  · rw [e, hx] at hz; cases hz
  · exact (h.1 hf).2 hc q z (by omega) hq2 hz⟩, h.2⟩
theorem rInv.again {k : Nat} {t : rT} {c : Bool} (h : rInv g M k t) : rInv g M 0 (t.1, c, t.2.2) := ⟨fun hf => ⟨(h.1 hf).1, fun _ q z hq => absurd hq (Nat.not_lt_zero q)⟩, h.2⟩
theorem rInv.beg {c : Bool} : rInv g M 0 (rCome M (fun _ => none, c, false) 0 (fIn M)) :=
  ⟨fun hf => ⟨rCome_cov hf, fun _ q z hq => absurd hq (Nat.not_lt_zero q)⟩, fun T hT => rCome_T hT.1 rfl (fun p x _ hx => by cases hx), fun p hp => rCome_kp.2.2.2.2.2 p hp rfl⟩
theorem rInv.least {t : rT} (h : rInv g M (mN M) t) (hf : t.2.2 = false) (hc : t.2.1 = false) : fLeast g M t.1 := by
  obtain ⟨h1, h2⟩ := h.1 hf
  exact ⟨⟨h1, fun p x hp hx => h2 hc p x hp hp hx⟩, fun T hT => (h.2.1 T hT).2⟩
theorem rInv.none {k : Nat} {t : rT} (h : rInv g M k t) (hf : t.2.2 = true) (T : fM) : ¬ fSol g M T := fun hT => by
  have := (h.2.1 T hT).1
  rw [hf] at this; cases this
end Rv
