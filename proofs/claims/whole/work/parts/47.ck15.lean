/-! check and kindAt. -/
/-- the least solution, if there is one -/
noncomputable def lsS (g : Nat → Nat) (M : mT) : Option fM := @dite (Option fM) (∃ S, fLeast g M S) (Classical.propDecidable _) (fun h => some (Classical.choose h)) (fun _ => none)
theorem lsS_some {g : Nat → Nat} {M : mT} {S : fM} (h : fLeast g M S) : ∃ S0, lsS g M = some S0 ∧ fLeast g M S0 := by
  have h1 : ∃ S, fLeast g M S := ⟨S, h⟩
  exact ⟨Classical.choose h1, dif_pos h1, Classical.choose_spec h1⟩
theorem lsS_none {g : Nat → Nat} {M : mT} (h : ∀ T, ¬ fSol g M T) : lsS g M = none := dif_neg (fun ⟨S, hS⟩ => h S hS.1)
theorem lsS_of {g : Nat → Nat} {M : mT} {S : fM} (h : lsS g M = some S) : fLeast g M S := by
  unfold lsS at h
  split at h
  · rename_i h1; cases h; exact Classical.choose_spec h1
  · cases h
theorem fLeast.cnt {g : Nat → Nat} {M : mT} {S T : fM} (h1 : fLeast g M S) (h2 : fLeast g M T) : fCnt S (mN M) = fCnt T (mN M) := by
  have : ∀ n, n ≤ mN M → fCnt S n = fCnt T n := by
    intro n
    induction n with
    | zero => intro _; rfl
    | succ n ih =>
      intro hn
      show fCnt S n + _ = fCnt T n + _
      rw [ih (by omega)]
      have e := (h1.eq h2 (p := n) (by omega)).1
      cases hs : S n with
      | none => rw [e.mp hs]
      | some x =>
        cases ht : T n with
        | none => rw [e.mpr ht] at hs; cases hs
        | some y => rfl
  exact this _ (Nat.le_refl _)
abbrev zQ (s : sT) (v : Nat) : Nat → mT := fun a => s.2.1 (6 * v + a)
noncomputable def aCheck (s : sT) (m : Int32) : Int32 := if bel m 6 = true then (match lsS (gP (zQ s s.1)) (zM s m.toNatClampNeg) with
  | some S => nI (fCnt S (mN (zM s m.toNatClampNeg)))
  | none => -4) else -1
def kS (k : Int32) : Bool := decide (-1 ≤ k ∧ k ≤ nI 7)
def kL (k : Int32) : Bool := decide (nI 10 ≤ k ∧ k ≤ nI 17)
def kX (x : fS) (k : Int32) : Int32 := if k = -1 then nI x.1 else if kS k = true then (if k.toNatClampNeg < x.1 then nI (x.2.1 k.toNatClampNeg) else -2) else kO (x.2.2 (k.toNatClampNeg - 10))
def kA (S : fM) (n : Nat) (p k : Int32) : Int32 := if bel p n = true then (match S p.toNatClampNeg with
  | none => -2
  | some x => kX x k) else -2
noncomputable def aKind (s : sT) (m p k : Int32) : Int32 := if bel m 6 = true ∧ (kS k = true ∨ kL k = true) then (match lsS (gP (zQ s s.1)) (zM s m.toNatClampNeg) with
  | some S => kA S (mN (zM s m.toNatClampNeg)) p k
  | none => -2) else -1
theorem kS_n {k : Int32} (h : kS k = true) (h1 : ¬ k = -1) : ∃ j, j < 8 ∧ k = nI j := by
  have h := of_decide_eq_true h
  have e1 : (-1 : Int32).toInt = -1 := by decide
  have a := Int32.le_iff_toInt_le.mp h.1
  have hne : ¬ k.toInt = -1 := fun e => h1 (Int32.toInt_inj.mp (e.trans e1.symm))
  have e0 : (0 : Int32).toInt = 0 := by decide
  have h0 : (0 : Int32) ≤ k := Int32.le_iff_toInt_le.mpr (by omega)
  exact bel_of ((bel_le (by decide)).mpr ⟨h0, h.2⟩) (by decide)
theorem kL_n {k : Int32} (h : kL k = true) : ∃ j, j < 8 ∧ k = nI (10 + j) := by
  have h := of_decide_eq_true h
  have a := Int32.le_iff_toInt_le.mp h.1
  have e10 : (nI 10).toInt = 10 := by decide
  have e0 : (0 : Int32).toInt = 0 := by decide
  have h0 : (0 : Int32) ≤ k := Int32.le_iff_toInt_le.mpr (by omega)
  obtain ⟨j, hj, rfl⟩ := bel_of ((bel_le (n := 17) (by decide)).mpr ⟨h0, h.2⟩) (by decide)
  have a2 := nI_toInt (n := j) (by omega)
  exact ⟨j - 10, by omega, by rw [show 10 + (j - 10) = j by omega]⟩
theorem kL_s {j : Nat} (h : j < 8) : kS (nI (10 + j)) = false := by
  refine decide_eq_false (fun q => ?_)
  have := Int32.le_iff_toInt_le.mp q.2
  rw [nI_toInt (by omega)] at this
  have e7 : (nI 7).toInt = 7 := by decide
  omega
theorem kS_j {j : Nat} (h : j < 8) : kS (nI j) = true := by
  refine decide_eq_true ⟨Int32.le_iff_toInt_le.mpr ?_, nI_le (by omega) (by omega)⟩
  rw [nI_toInt (by omega)]
  have e1 : (-1 : Int32).toInt = -1 := by decide
  omega
theorem nI_m1 {j : Nat} (h : j < 1000) : ¬ nI j = -1 := fun e => by
  have : (nI j).toInt = (-1 : Int32).toInt := congrArg _ e
  rw [nI_toInt (by omega)] at this
  have e1 : (-1 : Int32).toInt = -1 := by decide
  omega
theorem kX_eq {x y : fS} (h : fEq x y) {k : Int32} (hk : kS k = true ∨ kL k = true) : kX x k = kX y k := by
  unfold kX
  by_cases e : k = -1
  · rw [if_pos e, if_pos e, h.1]
  · rw [if_neg e, if_neg e]
    by_cases e2 : kS k = true
    · rw [if_pos e2, if_pos e2]
      by_cases e3 : k.toNatClampNeg < x.1
      · rw [if_pos e3, if_pos (by rw [← h.1]; exact e3), h.2.1 _ e3]
      · rw [if_neg e3, if_neg (by rw [← h.1]; exact e3)]
    · rw [if_neg e2, if_neg e2]
      obtain ⟨j, hj, rfl⟩ := kL_n (hk.resolve_left e2)
      rw [nI_clamp (by omega), h.2.2 _ (by omega)]
theorem kA_eq {g : Nat → Nat} {M : mT} {S T : fM} (h1 : fLeast g M S) (h2 : fLeast g M T) {p k : Int32} (hn : mN M ≤ 60) (hk : kS k = true ∨ kL k = true) : kA S (mN M) p k = kA T (mN M) p k := by
  unfold kA
  by_cases e : bel p (mN M) = true
  · rw [if_pos e, if_pos e]
    obtain ⟨a, ha, rfl⟩ := bel_of e (by omega)
    rw [nI_clamp (by omega)]
    obtain ⟨e1, e2⟩ := h1.eq h2 ha
    cases hs : S a with
    | none => rw [e1.mp hs]
    | some x =>
      cases ht : T a with
      | none => rw [e1.mpr ht] at hs; cases hs
      | some y => exact kX_eq (e2 x y hs ht) hk
  · rw [if_neg e, if_neg e]
/-- what a least solution says -/
theorem aCheck_s {s : sT} {m : Nat} {S : fM} (hm : m < 6) (h : fLeast (gP (zQ s s.1)) (zM s m) S) : aCheck s (nI m) = nI (fCnt S (mN (zM s m))) := by
  unfold aCheck
  rw [if_pos (by rw [bel_nI (by omega)]; exact decide_eq_true hm), nI_clamp (by omega)]
  obtain ⟨S0, e, h0⟩ := lsS_some h
  rw [e]
  show nI (fCnt S0 _) = _
  rw [h0.cnt h]
theorem aCheck_n {s : sT} {m : Nat} (hm : m < 6) (h : ∀ T, ¬ fSol (gP (zQ s s.1)) (zM s m) T) : aCheck s (nI m) = -4 := by
  unfold aCheck
  rw [if_pos (by rw [bel_nI (by omega)]; exact decide_eq_true hm), nI_clamp (by omega), lsS_none h]
theorem aCheck_o {s : sT} {m : Int32} (h : bel m 6 = false) : aCheck s m = -1 := if_neg (by rw [h]; decide)
theorem aKind_s {s : sT} {m : Nat} {S : fM} {p k : Int32} (hm : m < 6) (hn : mN (zM s m) ≤ 60) (hk : kS k = true ∨ kL k = true) (h : fLeast (gP (zQ s s.1)) (zM s m) S) : aKind s (nI m) p k = kA S (mN (zM s m)) p k := by
  unfold aKind
  rw [if_pos ⟨by rw [bel_nI (by omega)]; exact decide_eq_true hm, hk⟩, nI_clamp (by omega)]
  obtain ⟨S0, e, h0⟩ := lsS_some h
  rw [e]
  exact kA_eq h0 h hn hk
theorem aKind_n {s : sT} {m : Nat} {p k : Int32} (hm : m < 6) (hk : kS k = true ∨ kL k = true) (h : ∀ T, ¬ fSol (gP (zQ s s.1)) (zM s m) T) : aKind s (nI m) p k = -2 := by
  unfold aKind
  rw [if_pos ⟨by rw [bel_nI (by omega)]; exact decide_eq_true hm, hk⟩, nI_clamp (by omega), lsS_none h]
theorem aKind_o {s : sT} {m p k : Int32} (h : bel m 6 = false ∨ (kS k = false ∧ kL k = false)) : aKind s m p k = -1 := if_neg (fun q => by
  rcases h with h | h
  · rw [h] at q; cases q.1
  · rw [h.1, h.2] at q
    rcases q.2 with z | z <;> cases z)
theorem kA_b {S : fM} {n : Nat} {p k : Int32} (h : bel p n = false) : kA S n p k = -2 := if_neg (by rw [h]; decide)
theorem kA_n {S : fM} {n p : Nat} {k : Int32} (hn : n ≤ 60) (h : p < n) (hs : S p = none) : kA S n (nI p) k = -2 := by
  unfold kA
  rw [if_pos (by rw [bel_nI (by omega)]; exact decide_eq_true h), nI_clamp (by omega), hs]
theorem kA_s {S : fM} {n p : Nat} {k : Int32} {x : fS} (hn : n ≤ 60) (h : p < n) (hs : S p = some x) : kA S n (nI p) k = kX x k := by
  unfold kA
  rw [if_pos (by rw [bel_nI (by omega)]; exact decide_eq_true h), nI_clamp (by omega), hs]
theorem kX_d {x : fS} : kX x (-1) = nI x.1 := if_pos rfl
theorem kX_t {x : fS} {j : Nat} (hj : j < 8) (h : j < x.1) : kX x (nI j) = nI (x.2.1 j) := by
  unfold kX; rw [if_neg (nI_m1 (by omega)), if_pos (kS_j hj), nI_clamp (by omega), if_pos h]
theorem kX_f {x : fS} {j : Nat} (hj : j < 8) (h : ¬ j < x.1) : kX x (nI j) = -2 := by
  unfold kX; rw [if_neg (nI_m1 (by omega)), if_pos (kS_j hj), nI_clamp (by omega), if_neg h]
theorem kX_l {x : fS} {j : Nat} (hj : j < 8) : kX x (nI (10 + j)) = kO (x.2.2 j) := by
  unfold kX; rw [if_neg (nI_m1 (by omega)), if_neg (by rw [kL_s hj]; decide), nI_clamp (by omega), show 10 + j - 10 = j by omega]
/-- the class's state but for the checker -/
theorem cS.ck {G G' : am_G} {s : sT} (hs : cS G s) (ho : oR aR G G') : cS G' s := by
  have h : ∀ i, i < 102 ∨ 109 ≤ i → G'.2.1 i = G.2.1 i := fun i hi => ho.2.2 i (by omega)
  refine ⟨by rw [h 0 (by omega)]; exact hs.1, fun p hp m hm => (hs.2.1 p hp m hm).same (fun i h1 h2 => h i (by unfold mo at h1 h2; omega)), hs.2.2.same (h 159 (by omega)) (h 160 (by omega))⟩
theorem oR.cl {G G' : am_G} (h : oR aR G G') : oR clR G G' := h.up (fun i hi => by unfold clR; omega)
theorem cS.hP {G : am_G} {s : sT} {v : Nat} (hS : St0 G) (hc : cS G s) (hv : sV s) (hv2 : v < 2) : hldP G v (zQ s v) := fun a ha => ⟨hS.m (mo_l v hv2 a ha), hc.2.1 v hv2 a ha, hv.2.1 _ (by omega), by left; unfold mo; omega⟩
theorem rS.j {G G' : am_G} {s : sT} (hs : rS G s) (ho : oJ G G') : rS G' s := by
  refine ⟨by rw [ho.2 11 (by decide) (by decide) (by decide)]; exact hs.1, fun q hq => (hs.2.1 q hq).j (fun i h1 h2 => ho.1.2.2 i (by omega)), ?_⟩
  unfold rL
  rw [ho.2 41 (by decide) (by decide) (by decide), ho.2 38 (by decide) (by decide) (by decide), ho.2 34 (by decide) (by decide) (by decide), ho.2 37 (by decide) (by decide) (by decide), ho.2 39 (by decide) (by decide) (by decide), ho.2 40 (by decide) (by decide) (by decide), ho.1.2.2 191 (by omega)]
  exact hs.2.2
theorem oJ.rf2 {G G' : am_G} (h : oJ G G') : oR rfR G G' := h.1.up (fun i hi => by unfold rfR; omega)
theorem rS.hR {G : am_G} {s : sT} {v : Nat} (hc : rS G s) (hv : sV s) (hv2 : v < 2) : hldR G v (zQ s v) := fun a ha => ⟨hc.2.1 _ (by omega), hv.2.1 _ (by omega)⟩
theorem kS_c {k : Int32} : decide (¬ k < -1 ∧ ¬ nI 8 ≤ k) = kS k := by
  refine decide_eq_decide.mpr ?_
  have e8 : (nI 8).toInt = 8 := by decide
  have e7 : (nI 7).toInt = 7 := by decide
  have e1 : (-1 : Int32).toInt = -1 := by decide
  rw [Int32.lt_iff_toInt_lt, Int32.le_iff_toInt_le, Int32.le_iff_toInt_le, Int32.le_iff_toInt_le]
  omega
theorem kL_c {k : Int32} : decide (¬ k < nI 10 ∧ ¬ nI 18 ≤ k) = kL k := by
  refine decide_eq_decide.mpr ?_
  have e8 : (nI 18).toInt = 18 := by decide
  have e7 : (nI 17).toInt = 17 := by decide
  have e1 : (nI 10).toInt = 10 := by decide
  rw [Int32.lt_iff_toInt_lt, Int32.le_iff_toInt_le, Int32.le_iff_toInt_le, Int32.le_iff_toInt_le]
  omega
theorem kS_1 {k : Int32} (a : ¬ k < -1) (b : ¬ nI 8 ≤ k) : true = kS k := by rw [← kS_c]; exact (decide_eq_true ⟨a, b⟩).symm
theorem kS_2 {k : Int32} (a : k < -1) : false = kS k := by rw [← kS_c]; exact (decide_eq_false (fun q => q.1 a)).symm
theorem kS_3 {k : Int32} (b : nI 8 ≤ k) : false = kS k := by rw [← kS_c]; exact (decide_eq_false (fun q => q.2 b)).symm
theorem kL_1 {k : Int32} (a : ¬ k < nI 10) (b : ¬ nI 18 ≤ k) : true = kL k := by rw [← kL_c]; exact (decide_eq_true ⟨a, b⟩).symm
theorem kL_2 {k : Int32} (a : k < nI 10) : false = kL k := by rw [← kL_c]; exact (decide_eq_false (fun q => q.1 a)).symm
theorem kL_3 {k : Int32} (b : nI 18 ≤ k) : false = kL k := by rw [← kL_c]; exact (decide_eq_false (fun q => q.2 b)).symm

set_option maxRecDepth 100000 in
theorem okC_comesTo (w : am_W) {d : Nat} (hd : 1 ≤ d) (G : am_G) (M : mT) (t : cT) (p : Int32) (hn6 : mN M ≤ 60) (hS : St0 G) (hI : ckT G M t) (h0 : t.2.2 = false) : am_Ok w jC_comesTo d (0, 0) [.inr (some 102), .inl p] G (fun r G' => r = some (.inl (am_b (bel p (mN M) && (t.1 p.toNatClampNeg).isSome))) ∧ G' = G) := by
  refine am_ok_of rfl (Nat.le_of_ble_eq_true rfl) ?_
  show am_Go w jC_comesTo d (0, 0) 0 [some (.inr (some 102)), some (.inl p)] [] G _
  have q1 : G.1[102]? = some (0, 3) := hS.s rfl
  have q2 : G.1[103]? = some (1, 60) := hS.s rfl
  have q3 : G.1[104]? = some (1, 960) := hS.s rfl
  have q4 : G.1[105]? = some (2, 60) := hS.s rfl
  have q5 : G.1[106]? = some (2, 60) := hS.s rfl
  have q6 : G.2.2 102 0 = some 103 := hS.r ck_r0
  have q7 : G.2.2 102 2 = some 104 := hS.r ck_r2
  have q8 : G.2.2 102 3 = some 105 := hS.r ck_r3
  have q9 : G.2.2 102 4 = some 106 := hS.r ck_r4
  have q11 : G.1[107]? = some (1, 16) := hS.s rfl
  have q12 : G.1[108]? = some (1, 16) := hS.s rfl
  have q13 : G.2.2 102 5 = some 107 := hS.r ck_r5
  have q14 : G.2.2 102 6 = some 108 := hS.r ck_r6
  have h8 := hI.1
  have h9 : G.2.1 102 9 = am_b false := by rw [hI.2.1, h0]
  refine go_aload_n dC_comesTo_0 rfl rfl ?_
  refine go_getV dC_comesTo_1 flC_41 rfl (by assumption) (by first | assumption | (simp (disch := omega) only [wi_I, ro_I, wi_In, wi_Is]; done) | (simp (disch := omega) only [wi_I, ro_I, wi_In, wi_Is]; first | assumption | rfl) | rfl) ?_
  refine go_if_neB dC_comesTo_4 (tgt := 31) (by decide) (fun c1 => absurd c1 (by decide)) (fun c1 => ?_)
  refine go_iload_n dC_comesTo_7 rfl rfl ?_
  refine go_aload_n dC_comesTo_8 rfl rfl ?_
  refine go_getV dC_comesTo_9 flC_45 rfl (by assumption) (by first | assumption | (simp (disch := omega) only [wi_I, ro_I, wi_In, wi_Is]; done) | (simp (disch := omega) only [wi_I, ro_I, wi_In, wi_Is]; first | assumption | rfl) | rfl) ?_
  refine go_cS (k' := (0, 0)) dC_comesTo_12 _ csC_53 stF_isBelow rfl (okF_below (d := 0) w G p (mN M) (by omega)) (by omega) (by decide) (Nat.le_of_ble_eq_true rfl) (fun r G1 hr hn => ?_)
  obtain ⟨rfl, hG⟩ := hr
  rw [hG]
  clear hG hn
  refine go_if_eqB dC_comesTo_15 (tgt := 31) (by decide) (fun c15 => ?_) (fun c15 => ?_)
  · refine go_iconst (nI 0) (by decide) dC_comesTo_31 ?_
    refine go_zreturn rfl (by first | exact Or.inl rfl | exact Or.inr rfl | exact am_b_01 _) dC_comesTo_32 ?_
    first | exact ⟨by rw [c15]; rfl, rfl⟩ | exact ⟨by rw [c15, nI_clamp (by omega), c24]; rfl, rfl⟩
  · obtain ⟨a, ha, rfl⟩ := bel_of c15 (by omega)
    have h5 := (hI.2.2.2 a ha).1
    refine go_aload_n dC_comesTo_18 rfl rfl ?_
    refine go_getO dC_comesTo_19 flC_18 rfl (by assumption) (by assumption) ?_
    refine go_iload_n dC_comesTo_22 rfl rfl ?_
    refine go_balV q4 (by omega) (by decide) h5 dC_comesTo_23 ?_
    refine go_if_eqB dC_comesTo_24 (tgt := 31) (by decide) (fun c24 => ?_) (fun c24 => ?_)
    · refine go_iconst (nI 0) (by decide) dC_comesTo_31 ?_
      refine go_zreturn rfl (by first | exact Or.inl rfl | exact Or.inr rfl | exact am_b_01 _) dC_comesTo_32 ?_
      first | exact ⟨by rw [c15]; rfl, rfl⟩ | exact ⟨by rw [c15, nI_clamp (by omega), c24]; rfl, rfl⟩
    · refine go_iconst (nI 1) (by decide) dC_comesTo_27 ?_
      refine go_goto dC_comesTo_28 (tgt := 32) (by decide) ?_
      refine go_zreturn rfl (by first | exact Or.inl rfl | exact Or.inr rfl | exact am_b_01 _) dC_comesTo_32 ?_
      first | exact ⟨by rw [c15]; rfl, rfl⟩ | exact ⟨by rw [c15, nI_clamp (by omega), c24]; rfl, rfl⟩
set_option maxRecDepth 100000 in
theorem okC_stackKind (w : am_W) {d : Nat} (G : am_G) (p j : Nat) (x : fS) (hp : p < 60) (hj : j < 8) (hS : St0 G) (h : stc G p x) : am_Ok w jC_stackKind d (0, 0) [.inr (some 102), .inl (nI p), .inl (nI j)] G (fun r G' => r = some (.inl (kX x (nI j))) ∧ G' = G) := by
  refine am_ok_of rfl (Nat.le_of_ble_eq_true rfl) ?_
  show am_Go w jC_stackKind d (0, 0) 0 [some (.inr (some 102)), some (.inl (nI p)), some (.inl (nI j))] [] G _
  have q1 : G.1[102]? = some (0, 3) := hS.s rfl
  have q2 : G.1[103]? = some (1, 60) := hS.s rfl
  have q3 : G.1[104]? = some (1, 960) := hS.s rfl
  have q4 : G.1[105]? = some (2, 60) := hS.s rfl
  have q5 : G.1[106]? = some (2, 60) := hS.s rfl
  have q6 : G.2.2 102 0 = some 103 := hS.r ck_r0
  have q7 : G.2.2 102 2 = some 104 := hS.r ck_r2
  have q8 : G.2.2 102 3 = some 105 := hS.r ck_r3
  have q9 : G.2.2 102 4 = some 106 := hS.r ck_r4
  have q11 : G.1[107]? = some (1, 16) := hS.s rfl
  have q12 : G.1[108]? = some (1, 16) := hS.s rfl
  have q13 : G.2.2 102 5 = some 107 := hS.r ck_r5
  have q14 : G.2.2 102 6 = some 108 := hS.r ck_r6
  obtain ⟨b1, b2, b3, b4⟩ := h
  have b8 := b4.1
  refine go_iload_n dC_stackKind_0 rfl rfl ?_
  refine go_aload_n dC_stackKind_1 rfl rfl ?_
  refine go_getO dC_stackKind_2 flC_9 rfl (by assumption) (by assumption) ?_
  refine go_iload_n dC_stackKind_5 rfl rfl ?_
  refine go_ialV q2 (by omega) (by decide) b1 dC_stackKind_6 ?_
  refine go_icmp_geN (by omega) (by omega) dC_stackKind_7 (tgt := 24) (by decide) (fun c7 => ?_) (fun c7 => ?_)
  · refine go_bipush (-2) (by decide) dC_stackKind_24 ?_
    refine go_ireturn rfl dC_stackKind_26 ?_
    first | exact ⟨by rw [kX_f hj (by omega)], rfl⟩ | exact ⟨by rw [kX_t hj (by omega)], rfl⟩
  · have b2j := b2 j (by omega)
    refine go_aload_n dC_stackKind_10 rfl rfl ?_
    refine go_getO dC_stackKind_11 flC_15 rfl (by assumption) (by assumption) ?_
    refine go_iload_n dC_stackKind_14 rfl rfl ?_
    refine go_bipush (nI 16) (by decide) dC_stackKind_15 ?_
    refine go_imul dC_stackKind_17 ?_
    rw [pk_mul, show p * 16 = 16 * p from Nat.mul_comm _ _]
    refine go_iload_n dC_stackKind_18 rfl rfl ?_
    refine go_iadd dC_stackKind_19 ?_
    rw [nI_add]
    refine go_ialV q3 (by omega) (by decide) b2j dC_stackKind_20 ?_
    refine go_goto dC_stackKind_21 (tgt := 26) (by decide) ?_
    refine go_ireturn rfl dC_stackKind_26 ?_
    first | exact ⟨by rw [kX_f hj (by omega)], rfl⟩ | exact ⟨by rw [kX_t hj (by omega)], rfl⟩
set_option maxRecDepth 100000 in
theorem okC_localKind (w : am_W) {d : Nat} (G : am_G) (p j : Nat) (x : fS) (hp : p < 60) (hj : j < 8) (hS : St0 G) (h : stc G p x) : am_Ok w jC_localKind d (0, 0) [.inr (some 102), .inl (nI p), .inl (nI j)] G (fun r G' => r = some (.inl (kX x (nI (10 + j)))) ∧ G' = G) := by
  refine am_ok_of rfl (Nat.le_of_ble_eq_true rfl) ?_
  show am_Go w jC_localKind d (0, 0) 0 [some (.inr (some 102)), some (.inl (nI p)), some (.inl (nI j))] [] G _
  have q1 : G.1[102]? = some (0, 3) := hS.s rfl
  have q2 : G.1[103]? = some (1, 60) := hS.s rfl
  have q3 : G.1[104]? = some (1, 960) := hS.s rfl
  have q4 : G.1[105]? = some (2, 60) := hS.s rfl
  have q5 : G.1[106]? = some (2, 60) := hS.s rfl
  have q6 : G.2.2 102 0 = some 103 := hS.r ck_r0
  have q7 : G.2.2 102 2 = some 104 := hS.r ck_r2
  have q8 : G.2.2 102 3 = some 105 := hS.r ck_r3
  have q9 : G.2.2 102 4 = some 106 := hS.r ck_r4
  have q11 : G.1[107]? = some (1, 16) := hS.s rfl
  have q12 : G.1[108]? = some (1, 16) := hS.s rfl
  have q13 : G.2.2 102 5 = some 107 := hS.r ck_r5
  have q14 : G.2.2 102 6 = some 108 := hS.r ck_r6
  obtain ⟨b1, b2, b3, b4⟩ := h
  have b3j : G.2.1 104 (16 * p + 8 + j) = kO (x.2.2 j) := by rw [show 16 * p + 8 + j = 16 * p + (8 + j) by omega]; exact b3 j hj
  refine go_aload_n dC_localKind_0 rfl rfl ?_
  refine go_getO dC_localKind_1 flC_15 rfl (by assumption) (by assumption) ?_
  refine go_iload_n dC_localKind_4 rfl rfl ?_
  refine go_bipush (nI 16) (by decide) dC_localKind_5 ?_
  refine go_imul dC_localKind_7 ?_
  rw [pk_mul, show p * 16 = 16 * p from Nat.mul_comm _ _]
  refine go_bipush (nI 8) (by decide) dC_localKind_8 ?_
  refine go_iadd dC_localKind_10 ?_
  rw [nI_add]
  refine go_iload_n dC_localKind_11 rfl rfl ?_
  refine go_iadd dC_localKind_12 ?_
  rw [nI_add]
  refine go_ialV q3 (by omega) (by decide) b3j dC_localKind_13 ?_
  refine go_ireturn rfl dC_localKind_14 ?_
  exact ⟨by rw [kX_l hj], rfl⟩
set_option maxRecDepth 100000 in
theorem okF_check (w : am_W) {d : Nat} (hd : 6 ≤ d) (G : am_G) (s : sT) (x : Int32) (hS : St0 G) (hc : cS G s) (hv : sV s) : am_Ok w jF_check d (0, 0) [.inr (some 0), .inl x] G (fun r G' => r = some (.inl (aCheck s x)) ∧ cEnd G G' s) := by
  refine am_ok_of rfl (Nat.le_of_ble_eq_true rfl) ?_
  show am_Go w jF_check d (0, 0) 0 [some (.inr (some 0)), some (.inl x)] [] G _
  have q6 : G.1[0]? = some (0, 0) := hS.s rfl
  have q7 : G.1[1]? = some (3, 2) := hS.s rfl
  have q8 : G.2.2 0 0 = some 1 := hS.r (by decide +kernel)
  have q9 : G.2.2 0 1 = some 102 := hS.r (by decide +kernel)
  have hw := hc.1
  obtain ⟨p1, p2, p3, p4⟩ := pr_l s.1 hv.1
  have u4 := hS.r p4
  have u0 : G.1[102]? = some (0, 3) := hS.s rfl
  refine go_iload_n dF_check_0 rfl rfl ?_
  refine go_bipush (nI 6) (by decide) dF_check_1 ?_
  refine go_cS (k' := (0, 0)) dF_check_3 _ csF_51 stF_isBelow rfl (okF_below (d := 0) w G x 6 (by decide)) (by omega) (by decide) (Nat.le_of_ble_eq_true rfl) (fun r G1 hr hn => ?_)
  obtain ⟨rfl, hG⟩ := hr
  rw [hG]
  clear hG hn
  refine go_if_neB dF_check_6 (tgt := 11) (by decide) (fun c6 => ?_) (fun c6 => ?_)
  · obtain ⟨m, hm, rfl⟩ := bel_of c6 (by decide)
    refine go_aload_n dF_check_11 rfl rfl ?_
    refine go_getO dF_check_12 flF_19 rfl (by assumption) (by assumption) ?_
    refine go_aload_n dF_check_15 rfl rfl ?_
    refine go_getO dF_check_16 flF_11 rfl (by assumption) (by assumption) ?_
    refine go_aload_n dF_check_19 rfl rfl ?_
    refine go_getV dF_check_20 flF_47 rfl (by assumption) (by first | assumption | (simp (disch := omega) only [wi_I, ro_I, wi_In, wi_Is]; done) | (simp (disch := omega) only [wi_I, ro_I, wi_In, wi_Is]; first | assumption | rfl) | rfl) ?_
    refine go_aaO (t := 0) (by decide) q7 hv.1 (by decide) u4 dF_check_23 ?_
    refine go_iload_n dF_check_24 rfl rfl ?_
    refine go_cV (k' := (0, 0)) dF_check_25 _ csF_91 u0 rfl imC_follow seC_follow rfl (okC_follow (d := 5) w (by decide) G s.1 m (zQ s s.1) hv.1 hm hS (cS.hP hS hc hv hv.1)) (by omega) (by decide) (Nat.le_of_ble_eq_true rfl) (fun r1 G1 hr1 hn1 => ?_)
    obtain ⟨t, rfl, I1, o1, L1, N1⟩ := hr1
    have S1 := o1.St hS
    have r6 : G1.1[0]? = some (0, 0) := S1.s rfl
    have r9 : G1.2.2 0 1 = some 102 := S1.r (by decide +kernel)
    have r0 : G1.1[102]? = some (0, 3) := S1.s rfl
    have h1 := I1.2.2.1
    have hn6 : mN (zM s m) ≤ 60 := (hv.2.1 (6 * s.1 + m) (by have := hv.1; omega)).1
    refine go_if_eqB dF_check_28 (tgt := 41) (by decide) (fun c28 => ?_) (fun c28 => ?_)
    · refine go_bipush (-4) (by decide) dF_check_41 ?_
      refine go_ireturn rfl dF_check_43 ?_
      first | exact ⟨by rw [aCheck_o c6], cEnd.rf hc⟩ | exact ⟨by rw [aCheck_n hm (N1 (nbF c28))], ⟨hc.ck o1, o1.cl⟩⟩ | exact ⟨by rw [aCheck_s hm (L1 (nbT c28))]; rfl, ⟨hc.ck o1, o1.cl⟩⟩
    · refine go_aload_n dF_check_31 rfl rfl ?_
      refine go_getO dF_check_32 flF_19 rfl (by assumption) (by assumption) ?_
      refine go_getV dF_check_35 flF_95 rfl (by assumption) (by first | assumption | (simp (disch := omega) only [wi_I, ro_I, wi_In, wi_Is]; done) | (simp (disch := omega) only [wi_I, ro_I, wi_In, wi_Is]; first | assumption | rfl) | rfl) ?_
      refine go_goto dF_check_38 (tgt := 43) (by decide) ?_
      refine go_ireturn rfl dF_check_43 ?_
      first | exact ⟨by rw [aCheck_o c6], cEnd.rf hc⟩ | exact ⟨by rw [aCheck_n hm (N1 (nbF c28))], ⟨hc.ck o1, o1.cl⟩⟩ | exact ⟨by rw [aCheck_s hm (L1 (nbT c28))]; rfl, ⟨hc.ck o1, o1.cl⟩⟩
  · refine go_iconst (-1) (by decide) dF_check_9 ?_
    refine go_ireturn rfl dF_check_10 ?_
    first | exact ⟨by rw [aCheck_o c6], cEnd.rf hc⟩ | exact ⟨by rw [aCheck_n hm (N1 (nbF c28))], ⟨hc.ck o1, o1.cl⟩⟩ | exact ⟨by rw [aCheck_s hm (L1 (nbT c28))]; rfl, ⟨hc.ck o1, o1.cl⟩⟩
set_option maxRecDepth 100000 in
theorem F_kA1 (w : am_W) {d : Nat} {P : Option am_V → am_G → Prop} (G : am_G) (x p k : Int32) (l5 : Option am_V) (K : am_Go w jF_kindAt d (0, 0) 18 [some (.inr (some 0)), some (.inl x), some (.inl p), some (.inl k), some (.inl (am_b (kS k))), l5] [] G P) : am_Go w jF_kindAt d (0, 0) 0 [some (.inr (some 0)), some (.inl x), some (.inl p), some (.inl k), none, l5] [] G P := by
  refine go_iload_n dF_kindAt_0 rfl rfl ?_
  refine go_iconst (-1) (by decide) dF_kindAt_1 ?_
  refine go_icmp_lt dF_kindAt_2 (tgt := 15) (by decide) (fun c2 => ?_) (fun c2 => ?_)
  · refine go_iconst (am_b false) (by decide) dF_kindAt_15 ?_
    first | rw [kS_1 c2 c8] | rw [kS_2 c2] | rw [kS_3 c8]
    exact go_istore dF_kindAt_16 (Nat.le_of_ble_eq_true rfl) K
  · refine go_iload_n dF_kindAt_5 rfl rfl ?_
    refine go_bipush (nI 8) (by decide) dF_kindAt_6 ?_
    refine go_icmp_ge dF_kindAt_8 (tgt := 15) (by decide) (fun c8 => ?_) (fun c8 => ?_)
    · refine go_iconst (am_b false) (by decide) dF_kindAt_15 ?_
      first | rw [kS_1 c2 c8] | rw [kS_2 c2] | rw [kS_3 c8]
      exact go_istore dF_kindAt_16 (Nat.le_of_ble_eq_true rfl) K
    · refine go_iconst (am_b true) (by decide) dF_kindAt_11 ?_
      refine go_goto dF_kindAt_12 (tgt := 16) (by decide) ?_
      first | rw [kS_1 c2 c8] | rw [kS_2 c2] | rw [kS_3 c8]
      exact go_istore dF_kindAt_16 (Nat.le_of_ble_eq_true rfl) K
set_option maxRecDepth 100000 in
theorem F_kA2 (w : am_W) {d : Nat} {P : Option am_V → am_G → Prop} (G : am_G) (x p k : Int32) (l4 : Option am_V) (K : am_Go w jF_kindAt d (0, 0) 37 [some (.inr (some 0)), some (.inl x), some (.inl p), some (.inl k), l4, some (.inl (am_b (kL k)))] [] G P) : am_Go w jF_kindAt d (0, 0) 18 [some (.inr (some 0)), some (.inl x), some (.inl p), some (.inl k), l4, none] [] G P := by
  refine go_iload_n dF_kindAt_18 rfl rfl ?_
  refine go_bipush (nI 10) (by decide) dF_kindAt_19 ?_
  refine go_icmp_lt dF_kindAt_21 (tgt := 34) (by decide) (fun c21 => ?_) (fun c21 => ?_)
  · refine go_iconst (am_b false) (by decide) dF_kindAt_34 ?_
    first | rw [kL_1 c21 c27] | rw [kL_2 c21] | rw [kL_3 c27]
    exact go_istore dF_kindAt_35 (Nat.le_of_ble_eq_true rfl) K
  · refine go_iload_n dF_kindAt_24 rfl rfl ?_
    refine go_bipush (nI 18) (by decide) dF_kindAt_25 ?_
    refine go_icmp_ge dF_kindAt_27 (tgt := 34) (by decide) (fun c27 => ?_) (fun c27 => ?_)
    · refine go_iconst (am_b false) (by decide) dF_kindAt_34 ?_
      first | rw [kL_1 c21 c27] | rw [kL_2 c21] | rw [kL_3 c27]
      exact go_istore dF_kindAt_35 (Nat.le_of_ble_eq_true rfl) K
    · refine go_iconst (am_b true) (by decide) dF_kindAt_30 ?_
      refine go_goto dF_kindAt_31 (tgt := 35) (by decide) ?_
      first | rw [kL_1 c21 c27] | rw [kL_2 c21] | rw [kL_3 c27]
      exact go_istore dF_kindAt_35 (Nat.le_of_ble_eq_true rfl) K
theorem kA_nn {S : fM} {n : Nat} {p k : Int32} (hn : n ≤ 60) (h : (bel p n && (S p.toNatClampNeg).isSome) = false) : kA S n p k = -2 := by
  cases hb : bel p n with
  | false => exact kA_b hb
  | true =>
    obtain ⟨a, ha, rfl⟩ := bel_of hb (by omega)
    rw [hb, Bool.true_and, nI_clamp (by omega)] at h
    exact kA_n hn ha (a1n h)
set_option maxRecDepth 100000 in
theorem F_kA3 (w : am_W) {d : Nat} (hd : 6 ≤ d) (G : am_G) (s : sT) (m : Nat) (p k : Int32) (hm : m < 6) (hk : kS k = true ∨ kL k = true) (hS : St0 G) (hc : cS G s) (hv : sV s) : am_Go w jF_kindAt d (0, 0) 58 [some (.inr (some 0)), some (.inl (nI m)), some (.inl p), some (.inl k), some (.inl (am_b (kS k))), some (.inl (am_b (kL k)))] [] G (fun r G' => r = some (.inl (aKind s (nI m) p k)) ∧ cEnd G G' s) := by
  have q6 : G.1[0]? = some (0, 0) := hS.s rfl
  have q7 : G.1[1]? = some (3, 2) := hS.s rfl
  have q8 : G.2.2 0 0 = some 1 := hS.r (by decide +kernel)
  have q9 : G.2.2 0 1 = some 102 := hS.r (by decide +kernel)
  have hw := hc.1
  obtain ⟨p1, p2, p3, p4⟩ := pr_l s.1 hv.1
  have u4 := hS.r p4
  have u0 : G.1[102]? = some (0, 3) := hS.s rfl
  refine go_aload_n dF_kindAt_58 rfl rfl ?_
  refine go_getO dF_kindAt_59 flF_19 rfl (by assumption) (by assumption) ?_
  refine go_aload_n dF_kindAt_62 rfl rfl ?_
  refine go_getO dF_kindAt_63 flF_11 rfl (by assumption) (by assumption) ?_
  refine go_aload_n dF_kindAt_66 rfl rfl ?_
  refine go_getV dF_kindAt_67 flF_47 rfl (by assumption) (by first | assumption | (simp (disch := omega) only [wi_I, ro_I, wi_In, wi_Is]; done) | (simp (disch := omega) only [wi_I, ro_I, wi_In, wi_Is]; first | assumption | rfl) | rfl) ?_
  refine go_aaO (t := 0) (by decide) q7 hv.1 (by decide) u4 dF_kindAt_70 ?_
  refine go_iload_n dF_kindAt_71 rfl rfl ?_
  refine go_cV (k' := (0, 0)) dF_kindAt_72 _ csF_91 u0 rfl imC_follow seC_follow rfl (okC_follow (d := 5) w (by decide) G s.1 m (zQ s s.1) hv.1 hm hS (cS.hP hS hc hv hv.1)) (by omega) (by decide) (Nat.le_of_ble_eq_true rfl) (fun r1 G1 hr1 hn1 => ?_)
  obtain ⟨t, rfl, I1, o1, L1, N1⟩ := hr1
  have S1 := o1.St hS
  have r6 : G1.1[0]? = some (0, 0) := S1.s rfl
  have r9 : G1.2.2 0 1 = some 102 := S1.r (by decide +kernel)
  have r0 : G1.1[102]? = some (0, 3) := S1.s rfl
  have h1 := I1.2.2.1
  have hn6 : mN (zM s m) ≤ 60 := (hv.2.1 (6 * s.1 + m) (by have := hv.1; omega)).1
  refine go_if_eqB dF_kindAt_75 (tgt := 89) (by decide) (fun c75 => ?_) (fun c75 => ?_)
  · first | rw [aKind_n hm hk (N1 (nbF c75))] | rw [kA_nn hn6 c86]
    refine go_bipush (-2) (by decide) dF_kindAt_89 ?_
    refine go_ireturn rfl dF_kindAt_91 ?_
    first | exact ⟨by rw [c94, kX_d], ⟨hc.ck o1, o1.cl⟩⟩ | exact ⟨rfl, ⟨hc.ck o1, o1.cl⟩⟩
  · have h0 := nbT c75
    have hL := L1 h0
    rw [aKind_s hm hn6 hk hL]
    refine go_aload_n dF_kindAt_78 rfl rfl ?_
    refine go_getO dF_kindAt_79 flF_19 rfl (by assumption) (by assumption) ?_
    refine go_iload_n dF_kindAt_82 rfl rfl ?_
    refine go_cV (k' := (0, 0)) dF_kindAt_83 _ csF_98 r0 rfl imC_comesTo seC_comesTo rfl (okC_comesTo (d := 1) w (by decide) G1 (zM s m) t p hn6 S1 I1 h0) (by omega) (by decide) (Nat.le_of_ble_eq_true rfl) (fun r2 G2 hr2 hn2 => ?_)
    obtain ⟨rfl, hG2⟩ := hr2
    rw [hG2]
    clear hG2 hn2
    refine go_if_neB dF_kindAt_86 (tgt := 92) (by decide) (fun c86 => ?_) (fun c86 => ?_)
    · have hb : bel p (mN (zM s m)) = true := by rw [Bool.and_eq_true] at c86; exact c86.1
      obtain ⟨a, ha, rfl⟩ := bel_of hb (by omega)
      rw [Bool.and_eq_true, nI_clamp (by omega)] at c86
      obtain ⟨xx, hx⟩ := Option.isSome_iff_exists.mp c86.2
      have hst := (I1.2.2.2 a ha).2.2 xx hx
      have hst1 := hst.1
      rw [kA_s hn6 ha hx]
      have z6 : G1.2.2 102 0 = some 103 := S1.r ck_r0
      have z2 : G1.1[103]? = some (1, 60) := S1.s rfl
      refine go_iload_n dF_kindAt_92 rfl rfl ?_
      refine go_iconst (-1) (by decide) dF_kindAt_93 ?_
      refine go_icmp_ne dF_kindAt_94 (tgt := 107) (by decide) (fun c94 => ?_) (fun c94 => ?_)
      · refine go_iload dF_kindAt_107 rfl ?_
        refine go_if_eqB dF_kindAt_109 (tgt := 124) (by decide) (fun c109 => ?_) (fun c109 => ?_)
        · obtain ⟨j, hj, rfl⟩ := kL_n (hk.resolve_left (by rw [c109]; decide))
          refine go_aload_n dF_kindAt_124 rfl rfl ?_
          refine go_getO dF_kindAt_125 flF_19 rfl (by assumption) (by assumption) ?_
          refine go_iload_n dF_kindAt_128 rfl rfl ?_
          refine go_iload_n dF_kindAt_129 rfl rfl ?_
          refine go_bipush (nI 10) (by decide) dF_kindAt_130 ?_
          refine go_isubN (by omega) dF_kindAt_132 ?_
          rw [show 10 + j - 10 = j by omega]
          refine go_cV (k' := (0, 0)) dF_kindAt_133 _ csF_110 r0 rfl imC_localKind seC_localKind rfl (okC_localKind (d := 0) w G1 a j xx (by omega) hj S1 hst) (by omega) (by decide) (Nat.le_of_ble_eq_true rfl) (fun r2 G2 hr2 hn2 => ?_)
          obtain ⟨rfl, hG2⟩ := hr2
          rw [hG2]
          clear hG2 hn2
          refine go_ireturn rfl dF_kindAt_136 ?_
          first | exact ⟨by rw [c94, kX_d], ⟨hc.ck o1, o1.cl⟩⟩ | exact ⟨rfl, ⟨hc.ck o1, o1.cl⟩⟩
        · obtain ⟨j, hj, rfl⟩ := kS_n c109 c94
          refine go_aload_n dF_kindAt_112 rfl rfl ?_
          refine go_getO dF_kindAt_113 flF_19 rfl (by assumption) (by assumption) ?_
          refine go_iload_n dF_kindAt_116 rfl rfl ?_
          refine go_iload_n dF_kindAt_117 rfl rfl ?_
          refine go_cV (k' := (0, 0)) dF_kindAt_118 _ csF_106 r0 rfl imC_stackKind seC_stackKind rfl (okC_stackKind (d := 0) w G1 a j xx (by omega) hj S1 hst) (by omega) (by decide) (Nat.le_of_ble_eq_true rfl) (fun r2 G2 hr2 hn2 => ?_)
          obtain ⟨rfl, hG2⟩ := hr2
          rw [hG2]
          clear hG2 hn2
          refine go_goto dF_kindAt_121 (tgt := 136) (by decide) ?_
          refine go_ireturn rfl dF_kindAt_136 ?_
          first | exact ⟨by rw [c94, kX_d], ⟨hc.ck o1, o1.cl⟩⟩ | exact ⟨rfl, ⟨hc.ck o1, o1.cl⟩⟩
      · refine go_aload_n dF_kindAt_97 rfl rfl ?_
        refine go_getO dF_kindAt_98 flF_19 rfl (by assumption) (by assumption) ?_
        refine go_getO dF_kindAt_101 flF_102 rfl (by assumption) (by assumption) ?_
        refine go_iload_n dF_kindAt_104 rfl rfl ?_
        refine go_ialV z2 (by omega) (by decide) hst1 dF_kindAt_105 ?_
        refine go_ireturn rfl dF_kindAt_106 ?_
        first | exact ⟨by rw [c94, kX_d], ⟨hc.ck o1, o1.cl⟩⟩ | exact ⟨rfl, ⟨hc.ck o1, o1.cl⟩⟩
    · first | rw [aKind_n hm hk (N1 (nbF c75))] | rw [kA_nn hn6 c86]
      refine go_bipush (-2) (by decide) dF_kindAt_89 ?_
      refine go_ireturn rfl dF_kindAt_91 ?_
      first | exact ⟨by rw [c94, kX_d], ⟨hc.ck o1, o1.cl⟩⟩ | exact ⟨rfl, ⟨hc.ck o1, o1.cl⟩⟩
set_option maxRecDepth 100000 in
theorem okF_kindAt (w : am_W) {d : Nat} (hd : 6 ≤ d) (G : am_G) (s : sT) (x p k : Int32) (hS : St0 G) (hc : cS G s) (hv : sV s) : am_Ok w jF_kindAt d (0, 0) [.inr (some 0), .inl x, .inl p, .inl k] G (fun r G' => r = some (.inl (aKind s x p k)) ∧ cEnd G G' s) := by
  refine am_ok_of rfl (Nat.le_of_ble_eq_true rfl) ?_
  show am_Go w jF_kindAt d (0, 0) 0 [some (.inr (some 0)), some (.inl x), some (.inl p), some (.inl k), none, none] [] G _
  have q6 : G.1[0]? = some (0, 0) := hS.s rfl
  have q7 : G.1[1]? = some (3, 2) := hS.s rfl
  have q8 : G.2.2 0 0 = some 1 := hS.r (by decide +kernel)
  have q9 : G.2.2 0 1 = some 102 := hS.r (by decide +kernel)
  have hw := hc.1
  obtain ⟨p1, p2, p3, p4⟩ := pr_l s.1 hv.1
  have u4 := hS.r p4
  have u0 : G.1[102]? = some (0, 3) := hS.s rfl
  refine F_kA1 w G x p k none ?_
  refine F_kA2 w G x p k _ ?_
  refine go_iload_n dF_kindAt_37 rfl rfl ?_
  refine go_bipush (nI 6) (by decide) dF_kindAt_38 ?_
  refine go_cS (k' := (0, 0)) dF_kindAt_40 _ csF_51 stF_isBelow rfl (okF_below (d := 0) w G x 6 (by decide)) (by omega) (by decide) (Nat.le_of_ble_eq_true rfl) (fun r G1 hr hn => ?_)
  obtain ⟨rfl, hG⟩ := hr
  rw [hG]
  clear hG hn
  refine go_if_eqB dF_kindAt_43 (tgt := 56) (by decide) (fun c43 => ?_) (fun c43 => ?_)
  · refine go_iconst (-1) (by decide) dF_kindAt_56 ?_
    refine go_ireturn rfl dF_kindAt_57 ?_
    first | exact ⟨by rw [aKind_o (Or.inl c43)], cEnd.rf hc⟩ | exact ⟨by rw [aKind_o (Or.inr ⟨c48, c53⟩)], cEnd.rf hc⟩
  · refine go_iload dF_kindAt_46 rfl ?_
    refine go_if_neB dF_kindAt_48 (tgt := 58) (by decide) (fun c48 => ?_) (fun c48 => ?_)
    · obtain ⟨m, hm, rfl⟩ := bel_of c43 (by decide)
      have hk : kS k = true ∨ kL k = true := by first | exact Or.inl c48 | exact Or.inr c53
      exact F_kA3 w hd G s m p k hm hk hS hc hv
    · refine go_iload dF_kindAt_51 rfl ?_
      refine go_if_neB dF_kindAt_53 (tgt := 58) (by decide) (fun c53 => ?_) (fun c53 => ?_)
      · obtain ⟨m, hm, rfl⟩ := bel_of c43 (by decide)
        have hk : kS k = true ∨ kL k = true := by first | exact Or.inl c48 | exact Or.inr c53
        exact F_kA3 w hd G s m p k hm hk hS hc hv
      · refine go_iconst (-1) (by decide) dF_kindAt_56 ?_
        refine go_ireturn rfl dF_kindAt_57 ?_
        first | exact ⟨by rw [aKind_o (Or.inl c43)], cEnd.rf hc⟩ | exact ⟨by rw [aKind_o (Or.inr ⟨c48, c53⟩)], cEnd.rf hc⟩
