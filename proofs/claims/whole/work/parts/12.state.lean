section Hp3
variable {w : am_W} {j d : Nat} {k : Nat × Nat} {pc : Nat} {L : List (Option am_V)} {st : List am_V} {G : am_G} {P : Option am_V → am_G → Prop}
theorem wi_I {a q i : Nat} {x : Int32} (h : i ≠ a) : (am_wi G a q x).2.1 i = G.2.1 i := am_up_ne h
theorem wi_V {a q i b : Nat} {x v : Int32} (h : i ≠ a) (hv : G.2.1 i b = v) : (am_wi G a q x).2.1 i b = v := by rw [wi_I h]; exact hv
theorem wi_Is {a q : Nat} {x : Int32} : (am_wi G a q x).2.1 a q = x := by
  show va_up G.2.1 a (upd (G.2.1 a) q x) a q = x
  rw [am_up_eq, pk_us]
theorem wi_In {a q i : Nat} {x : Int32} (h : i ≠ q) : (am_wi G a q x).2.1 a i = G.2.1 a i := by
  show va_up G.2.1 a (upd (G.2.1 a) q x) a i = _
  rw [am_up_eq, pk_un h]
theorem ro_I {a i : Nat} {f : Nat → Int32} (h : i ≠ a) : (am_ro G a f).2.1 i = G.2.1 i := am_up_ne h
theorem ro_Is {a : Nat} {f : Nat → Int32} : (am_ro G a f).2.1 a = f := am_up_eq
theorem go_getV {i ci q idx : Nat} {v : Int32} (h : decode (am_by j) pc = .ok (.getfield idx, 3)) (hf : am_Fl (am_own j) idx ci q) (ht : refKind (am_ft ci q) = false) (hs : G.1[i]? = some (0, ci)) (hv : G.2.1 i q = v) (kk : am_Go w j d k (pc + 3) L (.inl v :: st) G P) : am_Go w j d k pc L (.inr (some i) :: st) G P :=
  go_getI h hf ht hs (by rw [hv]; exact kk)
theorem go_aaO {i n a t o : Nat} (htt : t < am_nrc) (hs : G.1[i]? = some (t + 3, n)) (ha : a < n) (hn : n < 2 ^ 31) (ho : G.2.2 i a = some o) (h : decode (am_by j) pc = .ok (.aaload, 1)) (kk : am_Go w j d k (pc + 1) L (.inr (some o) :: st) G P) : am_Go w j d k pc L (.inl (nI a) :: .inr (some i) :: st) G P :=
  go_aaloadN htt hs ha hn h (by rw [ho]; exact kk)
theorem go_top {x y : Int32} (e : x = y) (kk : am_Go w j d k pc L (.inl y :: st) G P) : am_Go w j d k pc L (.inl x :: st) G P := by rw [e]; exact kk
theorem go_ialV {i n a : Nat} {v : Int32} (hs : G.1[i]? = some (1, n)) (ha : a < n) (hn : n < 2 ^ 31) (hv : G.2.1 i a = v) (h : decode (am_by j) pc = .ok (.iaload, 1)) (kk : am_Go w j d k (pc + 1) L (.inl v :: st) G P) : am_Go w j d k pc L (.inl (nI a) :: .inr (some i) :: st) G P :=
  go_ialoadN hs ha hn h (by rw [hv]; exact kk)
theorem go_balV {i n a : Nat} {v : Int32} (hs : G.1[i]? = some (2, n)) (ha : a < n) (hn : n < 2 ^ 31) (hv : G.2.1 i a = v) (h : decode (am_by j) pc = .ok (.baload, 1)) (kk : am_Go w j d k (pc + 1) L (.inl v :: st) G P) : am_Go w j d k pc L (.inl (nI a) :: .inr (some i) :: st) G P :=
  go_baloadN hs ha hn h (by rw [hv]; exact kk)
end Hp3
/-- only rows of S have changed -/
def oR (S : Nat → Prop) (G G' : am_G) : Prop := G'.1 = G.1 ∧ G'.2.2 = G.2.2 ∧ ∀ i, ¬ S i → G'.2.1 i = G.2.1 i
theorem oR.rf {S : Nat → Prop} {G : am_G} : oR S G G := ⟨rfl, rfl, fun _ _ => rfl⟩
theorem oR.wi {S : Nat → Prop} {G : am_G} {i k : Nat} {x : Int32} (h : S i) : oR S G (am_wi G i k x) := ⟨rfl, rfl, fun a ha => am_up_ne (fun e => ha (e ▸ h))⟩
theorem oR.ro {S : Nat → Prop} {G : am_G} {i : Nat} {f : Nat → Int32} (h : S i) : oR S G (am_ro G i f) := ⟨rfl, rfl, fun a ha => am_up_ne (fun e => ha (e ▸ h))⟩
theorem oR.tr {S : Nat → Prop} {G G1 G2 : am_G} (h1 : oR S G G1) (h2 : oR S G1 G2) : oR S G G2 := ⟨h2.1.trans h1.1, h2.2.1.trans h1.2.1, fun i hi => (h2.2.2 i hi).trans (h1.2.2 i hi)⟩
theorem oR.up {S S' : Nat → Prop} {G G1 : am_G} (h : oR S G G1) (hs : ∀ i, S i → S' i) : oR S' G G1 := ⟨h.1, h.2.1, fun i hi => h.2.2 i (fun q => hi (hs i q))⟩
theorem oR.St {S : Nat → Prop} {G G1 : am_G} (h : oR S G G1) (hs : St0 G) : St0 G1 := ⟨h.1.trans hs.1, fun q hq => by rw [h.2.1]; exact hs.2 q hq⟩
/-- a method's value: (n, ops, a, b), (rows, from, to, at, type), arguments, locked -/
abbrev mT : Type := (Nat × (Nat → Nat) × (Nat → Int32) × (Nat → Int32)) × (Nat × (Nat → Nat) × (Nat → Nat) × (Nat → Nat) × (Nat → Nat)) × Nat × Bool
abbrev mN (M : mT) : Nat := M.1.1
abbrev mO (M : mT) : Nat → Nat := M.1.2.1
abbrev mA (M : mT) : Nat → Int32 := M.1.2.2.1
abbrev mB (M : mT) : Nat → Int32 := M.1.2.2.2
abbrev mR (M : mT) : Nat := M.2.1.1
abbrev mF (M : mT) : Nat → Nat := M.2.1.2.1
abbrev mE (M : mT) : Nat → Nat := M.2.1.2.2.1
abbrev mP (M : mT) : Nat → Nat := M.2.1.2.2.2.1
abbrev mY (M : mT) : Nat → Nat := M.2.1.2.2.2.2
abbrev mG (M : mT) : Nat := M.2.2.1
abbrev mL (M : mT) : Bool := M.2.2.2
/-- a Method object h holds M -/
def cM (G : am_G) (h : Nat) (M : mT) : Prop := (G.2.1 h 7 = nI (mN M) ∧ G.2.1 h 8 = nI (mR M) ∧ G.2.1 h 9 = nI (mG M) ∧ G.2.1 h 10 = am_b (mL M)) ∧
  (∀ i, i < mN M → G.2.1 (h + 1) i = nI (mO M i) ∧ G.2.1 (h + 2) i = mA M i ∧ G.2.1 (h + 3) i = mB M i) ∧
  ∀ i, i < mR M → G.2.1 (h + 4) i = nI (mF M i) ∧ G.2.1 (h + 5) i = nI (mE M i) ∧ G.2.1 (h + 6) i = nI (mP M i) ∧ G.2.1 (h + 7) i = nI (mY M i)
/-- number q of the reference holds M -/
def rM (G : am_G) (q : Nat) (M : mT) : Prop := (G.2.1 167 q = nI (mN M) ∧ G.2.1 169 q = nI (mR M) ∧ G.2.1 168 q = nI (mG M) ∧ G.2.1 174 q = am_b (mL M)) ∧
  (∀ i, i < mN M → G.2.1 164 (60 * q + i) = nI (mO M i) ∧ G.2.1 165 (60 * q + i) = mA M i ∧ G.2.1 166 (60 * q + i) = mB M i) ∧
  ∀ i, i < mR M → G.2.1 170 (8 * q + i) = nI (mF M i) ∧ G.2.1 171 (8 * q + i) = nI (mE M i) ∧ G.2.1 172 (8 * q + i) = nI (mP M i) ∧ G.2.1 173 (8 * q + i) = nI (mY M i)
/-- what an instruction of n may be: a jump may lead behind the end (what is come to does not) -/
def insV (n p : Nat) (a b : Int32) : Prop := okO (am_sf 0 p) a = true ∧ (am_sf 1 p = nI 59 → b = nI b.toNatClampNeg ∧ b.toNatClampNeg ≤ n + 59)
/-- what a method's value may be -/
def mV (M : mT) : Prop := mN M ≤ 60 ∧ mR M ≤ 8 ∧ mG M ≤ 3 ∧ (∀ i, i < mN M → mO M i < 28 ∧ insV (mN M) (mO M i) (mA M i) (mB M i) ∧ (am_sf 0 (mO M i) = -1 → mA M i = 0) ∧ (am_sf 1 (mO M i) = -1 → mB M i = 0)) ∧
  ∀ i, i < mR M → mF M i ≤ mN M + 60 ∧ mE M i ≤ mN M + 60 ∧ mP M i ≤ mN M + 60 ∧ mY M i < 8
/-- the state: which program is written, the twelve methods; the latest run: value, done, made, most frames, entries, had, the entries kept -/
abbrev lT : Type := Int32 × Nat × Nat × Nat × Nat × Nat × (Nat → Int32)
abbrev sT : Type := Nat × (Nat → mT) × lT
def cL (G : am_G) (h : Nat) (l : lT) : Prop := G.2.1 h 2 = l.1 ∧ G.2.1 h 3 = nI l.2.1 ∧ G.2.1 h 4 = nI l.2.2.1 ∧ G.2.1 h 5 = nI l.2.2.2.1 ∧ G.2.1 h 6 = nI l.2.2.2.2.1 ∧ G.2.1 h 7 = nI l.2.2.2.2.2.1 ∧ ∀ i, i < l.2.2.2.2.1 → i < 120 → G.2.1 (h + 1) i = l.2.2.2.2.2.2 i
def rL (G : am_G) (l : lT) : Prop := G.2.1 163 41 = l.1 ∧ G.2.1 163 38 = nI l.2.1 ∧ G.2.1 163 34 = nI l.2.2.1 ∧ G.2.1 163 37 = nI l.2.2.2.1 ∧ G.2.1 163 39 = nI l.2.2.2.2.1 ∧ G.2.1 163 40 = nI l.2.2.2.2.2.1 ∧ ∀ i, i < l.2.2.2.2.1 → i < 120 → G.2.1 191 i = l.2.2.2.2.2.2 i
def lV (l : lT) : Prop := l.2.1 < 100000 ∧ l.2.2.1 < 100000 ∧ l.2.2.2.1 < 100000 ∧ l.2.2.2.2.1 < 100000 ∧ l.2.2.2.2.2.1 < 100000
def cS (G : am_G) (s : sT) : Prop := G.2.1 0 6 = nI s.1 ∧ (∀ p, p < 2 → ∀ m, m < 6 → cM G (mo p m) (s.2.1 (6 * p + m))) ∧ cL G 159 s.2.2
def rS (G : am_G) (s : sT) : Prop := G.2.1 163 11 = nI s.1 ∧ (∀ q, q < 12 → rM G q (s.2.1 q)) ∧ rL G s.2.2
def sV (s : sT) : Prop := s.1 < 2 ∧ (∀ q, q < 12 → mV (s.2.1 q)) ∧ lV s.2.2
/-- the class's rows, the reference's rows -/
def clR (i : Nat) : Prop := i < 163
def rfR (i : Nat) : Prop := 163 ≤ i
theorem cM.same {G G' : am_G} {h : Nat} {M : mT} (hq : ∀ i, h ≤ i → i < h + 8 → G'.2.1 i = G.2.1 i) (hm : cM G h M) : cM G' h M := by
  unfold cM
  rw [hq h (by omega) (by omega), hq (h + 1) (by omega) (by omega), hq (h + 2) (by omega) (by omega), hq (h + 3) (by omega) (by omega), hq (h + 4) (by omega) (by omega), hq (h + 5) (by omega) (by omega), hq (h + 6) (by omega) (by omega), hq (h + 7) (by omega) (by omega)]
  exact hm
theorem cL.same {G G' : am_G} {h : Nat} {l : lT} (h1 : G'.2.1 h = G.2.1 h) (h2 : G'.2.1 (h + 1) = G.2.1 (h + 1)) (hm : cL G h l) : cL G' h l := by
  unfold cL
  rw [h1, h2]
  exact hm
theorem cS.same {G G' : am_G} {s : sT} (h : ∀ i, i < 163 → G'.2.1 i = G.2.1 i) (hs : cS G s) : cS G' s := by
  refine ⟨by rw [h 0 (by omega)]; exact hs.1, fun p hp m hm => (hs.2.1 p hp m hm).same (fun i h1 h2 => h i (by unfold mo at h1 h2; omega)), hs.2.2.same (h 159 (by omega)) (h 160 (by omega))⟩
theorem rM.same {G G' : am_G} {q : Nat} {M : mT} (h : ∀ i, 163 ≤ i → G'.2.1 i = G.2.1 i) (hm : rM G q M) : rM G' q M := by
  unfold rM
  rw [h 167 (by omega), h 169 (by omega), h 168 (by omega), h 174 (by omega), h 164 (by omega), h 165 (by omega), h 166 (by omega), h 170 (by omega), h 171 (by omega), h 172 (by omega), h 173 (by omega)]
  exact hm
theorem rS.same {G G' : am_G} {s : sT} (h : ∀ i, 163 ≤ i → G'.2.1 i = G.2.1 i) (hs : rS G s) : rS G' s := by
  refine ⟨by rw [h 163 (by omega)]; exact hs.1, fun q hq => (hs.2.1 q hq).same h, ?_⟩
  unfold rL
  rw [h 163 (by omega), h 191 (by omega)]
  exact hs.2.2
/-- one method of the class changes -/
theorem cS.put {G G' : am_G} {s : sT} {p m : Nat} {M : mT} (hp : p < 2) (hm : m < 6) (hs : cS G s) (hq : ∀ i, ¬ (mo p m ≤ i ∧ i < mo p m + 8) → G'.2.1 i = G.2.1 i) (hM : cM G' (mo p m) M) : cS G' (s.1, va_up s.2.1 (6 * p + m) M, s.2.2) := by
  refine ⟨by rw [hq 0 (by unfold mo; omega)]; exact hs.1, fun p' hp' m' hm' => ?_, hs.2.2.same (hq 159 (by unfold mo; omega)) (hq 160 (by unfold mo; omega))⟩
  show cM G' (mo p' m') (va_up s.2.1 (6 * p + m) M (6 * p' + m'))
  by_cases e : 6 * p' + m' = 6 * p + m
  · have e1 : p' = p := by omega
    have e2 : m' = m := by omega
    rw [e1, e2, am_up_eq]
    exact hM
  · rw [am_up_ne e]
    exact (hs.2.1 p' hp' m' hm').same (fun i h1 h2 => hq i (fun h3 => e (by unfold mo at h1 h2 h3; omega)))
