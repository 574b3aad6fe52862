/-! the reference's new rows and instructions -/
def rWw (G : am_G) (R : wT) : Prop := G.2.1 163 51 = nI R.1 ∧ ∀ i, i < R.1 → G.2.1 196 i = nI (R.2.1 i) ∧ G.2.1 197 i = nI (R.2.2.1 i) ∧ G.2.1 198 i = nI (R.2.2.2.1 i) ∧ G.2.1 199 i = nI (R.2.2.2.2 i)
def rI (G : am_G) (M : mT) (P : Nat → Prop) : Prop := ∀ i, P i → G.2.1 193 i = nI (mO M i) ∧ G.2.1 194 i = mA M i ∧ G.2.1 195 i = mB M i
def oNw (G G' : am_G) : Prop := oR (fun i => i = 163 ∨ (193 ≤ i ∧ i ≤ 199)) G G' ∧ ∀ k, k ≠ 51 → G'.2.1 163 k = G.2.1 163 k
theorem oNw.rf {G : am_G} : oNw G G := ⟨oR.rf, fun _ _ => rfl⟩
theorem oNw.tr {G G1 G2 : am_G} (h1 : oNw G G1) (h2 : oNw G1 G2) : oNw G G2 := ⟨h1.1.tr h2.1, fun k a => (h2.2 k a).trans (h1.2 k a)⟩
theorem oNw.St {G G1 : am_G} (h : oNw G G1) (hs : St0 G) : St0 G1 := h.1.St hs
theorem oNw.wi {G : am_G} {i k : Nat} {x : Int32} (h : 193 ≤ i ∧ i ≤ 199) : oNw G (am_wi G i k x) := ⟨oR.wi (Or.inr h), fun q _ => by rw [wi_I (by omega)]⟩
theorem oNw.w3 {G : am_G} {x : Int32} : oNw G (am_wi G 163 51 x) := ⟨oR.wi (Or.inl rfl), fun q hq => wi_In hq⟩
theorem oNw.rf2 {G G' : am_G} (h : oNw G G') : oR rfR G G' := h.1.up (fun i hi => by unfold rfR; omega)
theorem rM.nw {G G' : am_G} {q : Nat} {M : mT} (hm : rM G q M) (h : oNw G G') : rM G' q M := hm.j (fun i h1 h2 => h.1.2.2 i (by omega))
theorem rS.nw {G G' : am_G} {s : sT} (hs : rS G s) (ho : oNw G G') : rS G' s := by
  refine ⟨by rw [ho.2 11 (by decide)]; exact hs.1, fun q hq => (hs.2.1 q hq).nw ho, ?_⟩
  unfold rL
  rw [ho.2 41 (by decide), ho.2 38 (by decide), ho.2 34 (by decide), ho.2 37 (by decide), ho.2 39 (by decide), ho.2 40 (by decide), ho.1.2.2 191 (by omega)]
  exact hs.2.2
/-- the four entries of a new row -/
def R_nr (G : am_G) (n : Nat) (f t a y : Int32) : am_G := am_wi (am_wi (am_wi (am_wi (am_wi G 196 n f) 197 n t) 198 n a) 199 n y) 163 51 (nI (n + 1))
theorem rWw.add {G : am_G} {R : wT} {f t a y : Nat} (h : rWw G R) (hf : f < t) : rWw (R_nr G R.1 (nI f) (nI t) (nI a) (nI y)) (wAdd R f t a y) := by
  obtain ⟨h1, h2⟩ := h
  unfold R_nr wAdd
  rw [if_pos hf]
  refine ⟨wi_Is, fun i hi => ?_⟩
  have hi : i < R.1 + 1 := hi
  show _ = nI (va_up R.2.1 R.1 f i) ∧ _ = nI (va_up R.2.2.1 R.1 t i) ∧ _ = nI (va_up R.2.2.2.1 R.1 a i) ∧ _ = nI (va_up R.2.2.2.2 R.1 y i)
  by_cases e : i = R.1
  · rw [e, am_up_eq, am_up_eq, am_up_eq, am_up_eq]
    simp (disch := omega) only [wi_I, wi_Is]
    exact ⟨trivial, trivial, trivial, trivial⟩
  · rw [am_up_ne e, am_up_ne e, am_up_ne e, am_up_ne e]
    simp (disch := omega) only [wi_I, wi_In]
    exact h2 i (by omega)
theorem rWw.no {G : am_G} {R : wT} {f t a y : Nat} (h : rWw G R) (hf : ¬ f < t) : rWw G (wAdd R f t a y) := by unfold wAdd; rw [if_neg hf]; exact h
theorem wAdd_le {R : wT} {f t a y : Nat} : R.1 ≤ (wAdd R f t a y).1 ∧ (wAdd R f t a y).1 ≤ R.1 + 1 := by
  unfold wAdd
  split
  · exact ⟨Nat.le_succ _, Nat.le_refl _⟩
  · exact ⟨Nat.le_refl _, Nat.le_succ _⟩
theorem oNw.nr {G : am_G} {n : Nat} {f t a y : Int32} : oNw G (R_nr G n f t a y) := ((((oNw.wi ⟨by decide, by decide⟩).tr (oNw.wi ⟨by decide, by decide⟩)).tr (oNw.wi ⟨by decide, by decide⟩)).tr (oNw.wi ⟨by decide, by decide⟩)).tr oNw.w3
theorem R_nr_i {G : am_G} {n : Nat} {f t a y : Int32} {i : Nat} (hi : i < 196) (h : i ≠ 163) : (R_nr G n f t a y).2.1 i = G.2.1 i := by
  unfold R_nr
  simp (disch := omega) only [wi_I]
theorem rI.put {G : am_G} {M : mT} {P P' : Nat → Prop} {w : Nat} {x y z : Int32} (h : rI G M P) (hx : x = nI (mO M w)) (hy : y = mA M w) (hz : z = mB M w) (hP : ∀ i, P' i → i = w ∨ P i) : rI (am_wi (am_wi (am_wi G 193 w x) 194 w y) 195 w z) M P' := fun i hi => by
  by_cases e : i = w
  · rw [e, hx, hy, hz]
    simp (disch := omega) only [wi_I, wi_Is]
    exact ⟨trivial, trivial, trivial⟩
  · simp (disch := omega) only [wi_I, wi_In]
    exact h i ((hP i hi).resolve_left e)
theorem jmT {o : Nat} (h : decide (nI o = nI 11 ∨ nI o = nI 12 ∨ nI o = nI 17 ∨ nI o = nI 23) = true) (ho : o < 28) : jm4 o := by
  have := of_decide_eq_true h
  rcases this with e | e | e | e
  · exact Or.inl ((nI_eq (by omega) (by decide)).mp e)
  · exact Or.inr (Or.inl ((nI_eq (by omega) (by decide)).mp e))
  · exact Or.inr (Or.inr (Or.inl ((nI_eq (by omega) (by decide)).mp e)))
  · exact Or.inr (Or.inr (Or.inr ((nI_eq (by omega) (by decide)).mp e)))
theorem jmF {o : Nat} (h : decide (nI o = nI 11 ∨ nI o = nI 12 ∨ nI o = nI 17 ∨ nI o = nI 23) = false) : ¬ jm4 o := fun q => of_decide_eq_false h (by
  rcases q with e | e | e | e
  · exact Or.inl (by rw [e])
  · exact Or.inr (Or.inl (by rw [e]))
  · exact Or.inr (Or.inr (Or.inl (by rw [e])))
  · exact Or.inr (Or.inr (Or.inr (by rw [e]))))
theorem rSh {x p n : Nat} (hx : x < 1000) (hp : p < 1000) : rShift (nI x) (nI p) (nI n) = nI (mvd p n x) := by
  unfold rShift mvd
  by_cases h : p < x
  · rw [if_neg (fun q => absurd ((nI_leI (by omega) (by omega)).mp q) (by omega)), if_pos h, nI_add, pk_sub (by omega)]
  · rw [if_pos ((nI_leI (by omega) (by omega)).mpr (by omega)), if_neg h]
theorem mV.jm {M : mT} {p : Nat} (hv : mV M) (hp : p < mN M) (h : jm4 (mO M p)) : mB M p = nI (bN M p) ∧ bN M p < 120 := hv.jmp hp h
theorem mvI_lt {p n k N : Nat} (hk : k < N) (h : k ≠ p) (hp : p < N) : mvI p n k < N + n := by
  unfold mvI
  split <;> omega
theorem laid_st {p n N r i : Nat} (hp : p < N) (h : laid p n N r i) (hr : r < N) : i = mvI p n r ∧ r ≠ p ∨ laid p n N (r + 1) i := by
  unfold laid at h ⊢
  unfold mvI
  by_cases e : r = p
  · right; omega
  · by_cases e2 : r < p
    · rw [if_pos e2]; omega
    · rw [if_neg e2]; omega
theorem laid_all {p n N i : Nat} (hp : p < N) (hi : i + 1 < N + n) : laid p n N 0 i := by unfold laid; omega
theorem laid_top {p n N i : Nat} (hp : p < N) (h : laid p n N N i) : p ≤ i ∧ i < p + n := by unfold laid at h; omega
/-- what endOf answers -/
def eRes (q : Option Nat) : Int32 := match q with
  | some e => nI e
  | none => -1

set_option maxRecDepth 100000 in
theorem okR_newRow (w : am_W) {d : Nat} (G : am_G) (R : wT) (f t a y : Nat) (v : Int32) (hS : St0 G) (h : rWw G R) (hR : R.1 < 40) (h1 : nI f < v ↔ f < t) (h2 : f < t → v = nI t) : am_Ok w jR_newRow d (0, 0) [.inr (some 163), .inl (nI f), .inl v, .inl (nI a), .inl (nI y)] G (fun r G' => r = none ∧ rWw G' (wAdd R f t a y) ∧ oNw G G' ∧ ∀ i, i < 196 → i ≠ 163 → G'.2.1 i = G.2.1 i) := by
  refine am_ok_of rfl (Nat.le_of_ble_eq_true rfl) ?_
  show am_Go w jR_newRow d (0, 0) 0 [some (.inr (some 163)), some (.inl (nI f)), some (.inl v), some (.inl (nI a)), some (.inl (nI y))] [] G _
  have nr := h.1
  refine go_iload_n dR_newRow_0 rfl rfl ?_
  refine go_iload_n dR_newRow_1 rfl rfl ?_
  refine go_icmp_lt dR_newRow_2 (tgt := 6) (by decide) (fun c2 => ?_) (fun c2 => ?_)
  · refine go_aload_n dR_newRow_6 rfl rfl ?_
    refine go_getO (a := 196) dR_newRow_7 flR_107 rfl (hS.s sh_163) (hS.r rt_newFrom) ?_
    refine go_aload_n dR_newRow_10 rfl rfl ?_
    refine go_getV dR_newRow_11 flR_277 rfl (hS.s sh_163) (by first | assumption | (simp (disch := omega) only [wi_I, ro_I, wi_In, wi_Is]; done) | (simp (disch := omega) only [wi_I, ro_I, wi_In, wi_Is]; first | assumption | rfl) | rfl) ?_
    refine go_iload_n dR_newRow_14 rfl rfl ?_
    refine go_iastoreN (hS.s sh_196) (by omega) (by decide) dR_newRow_15 ?_
    refine go_aload_n dR_newRow_16 rfl rfl ?_
    refine go_getO (a := 197) dR_newRow_17 flR_110 rfl (hS.s sh_163) (hS.r rt_newTo) ?_
    refine go_aload_n dR_newRow_20 rfl rfl ?_
    refine go_getV dR_newRow_21 flR_277 rfl (hS.s sh_163) (by first | assumption | (simp (disch := omega) only [wi_I, ro_I, wi_In, wi_Is]; done) | (simp (disch := omega) only [wi_I, ro_I, wi_In, wi_Is]; first | assumption | rfl) | rfl) ?_
    refine go_iload_n dR_newRow_24 rfl rfl ?_
    refine go_iastoreN (hS.s sh_197) (by omega) (by decide) dR_newRow_25 ?_
    refine go_aload_n dR_newRow_26 rfl rfl ?_
    refine go_getO (a := 198) dR_newRow_27 flR_113 rfl (hS.s sh_163) (hS.r rt_newAt) ?_
    refine go_aload_n dR_newRow_30 rfl rfl ?_
    refine go_getV dR_newRow_31 flR_277 rfl (hS.s sh_163) (by first | assumption | (simp (disch := omega) only [wi_I, ro_I, wi_In, wi_Is]; done) | (simp (disch := omega) only [wi_I, ro_I, wi_In, wi_Is]; first | assumption | rfl) | rfl) ?_
    refine go_iload_n dR_newRow_34 rfl rfl ?_
    refine go_iastoreN (hS.s sh_198) (by omega) (by decide) dR_newRow_35 ?_
    refine go_aload_n dR_newRow_36 rfl rfl ?_
    refine go_getO (a := 199) dR_newRow_37 flR_116 rfl (hS.s sh_163) (hS.r rt_newType) ?_
    refine go_aload_n dR_newRow_40 rfl rfl ?_
    refine go_getV dR_newRow_41 flR_277 rfl (hS.s sh_163) (by first | assumption | (simp (disch := omega) only [wi_I, ro_I, wi_In, wi_Is]; done) | (simp (disch := omega) only [wi_I, ro_I, wi_In, wi_Is]; first | assumption | rfl) | rfl) ?_
    refine go_iload dR_newRow_44 rfl ?_
    refine go_iastoreN (hS.s sh_199) (by omega) (by decide) dR_newRow_46 ?_
    refine go_aload_n dR_newRow_47 rfl rfl ?_
    refine go_dup dR_newRow_48 ?_
    refine go_getV dR_newRow_49 flR_277 rfl (hS.s sh_163) (by first | assumption | (simp (disch := omega) only [wi_I, ro_I, wi_In, wi_Is]; done) | (simp (disch := omega) only [wi_I, ro_I, wi_In, wi_Is]; first | assumption | rfl) | rfl) ?_
    refine go_iconst (nI 1) (by decide) dR_newRow_52 ?_
    first | refine go_iaddN dR_newRow_53 ?_ | refine go_iadd dR_newRow_53 ?_
    refine go_putI dR_newRow_54 fpR_277 rfl (hS.s sh_163) ?_
    refine go_return rfl dR_newRow_57 ?_
    have hf := h1.mp c2
    rw [h2 hf]
    exact ⟨rfl, h.add hf, oNw.nr, fun i hi hj => R_nr_i hi hj⟩
  · refine go_return rfl dR_newRow_5 ?_
    exact ⟨rfl, h.no (fun q => c2 (h1.mpr q)), oNw.rf, fun _ _ _ => rfl⟩
set_option maxRecDepth 100000 in
theorem okR_newInstruction (w : am_W) {d : Nat} (G : am_G) (k : Nat) (x y z : Int32) (hk : k < 130) (hS : St0 G) : am_Ok w jR_newInstruction d (0, 0) [.inr (some 163), .inl (nI k), .inl x, .inl y, .inl z] G (fun r G' => r = none ∧ G' = am_wi (am_wi (am_wi G 193 k x) 194 k y) 195 k z) := by
  refine am_ok_of rfl (Nat.le_of_ble_eq_true rfl) ?_
  show am_Go w jR_newInstruction d (0, 0) 0 [some (.inr (some 163)), some (.inl (nI k)), some (.inl x), some (.inl y), some (.inl z)] [] G _
  refine go_aload_n dR_newInstruction_0 rfl rfl ?_
  refine go_getO (a := 193) dR_newInstruction_1 flR_98 rfl (hS.s sh_163) (hS.r rt_newOp) ?_
  refine go_iload_n dR_newInstruction_4 rfl rfl ?_
  refine go_iload_n dR_newInstruction_5 rfl rfl ?_
  refine go_iastoreN (hS.s sh_193) (by omega) (by decide) dR_newInstruction_6 ?_
  refine go_aload_n dR_newInstruction_7 rfl rfl ?_
  refine go_getO (a := 194) dR_newInstruction_8 flR_101 rfl (hS.s sh_163) (hS.r rt_newOne) ?_
  refine go_iload_n dR_newInstruction_11 rfl rfl ?_
  refine go_iload_n dR_newInstruction_12 rfl rfl ?_
  refine go_iastoreN (hS.s sh_194) (by omega) (by decide) dR_newInstruction_13 ?_
  refine go_aload_n dR_newInstruction_14 rfl rfl ?_
  refine go_getO (a := 195) dR_newInstruction_15 flR_104 rfl (hS.s sh_163) (hS.r rt_newTwo) ?_
  refine go_iload_n dR_newInstruction_18 rfl rfl ?_
  refine go_iload dR_newInstruction_19 rfl ?_
  refine go_iastoreN (hS.s sh_195) (by omega) (by decide) dR_newInstruction_21 ?_
  refine go_return rfl dR_newInstruction_22 ?_
  exact ⟨rfl, rfl⟩
set_option maxRecDepth 100000 in
theorem R_rp1 (w : am_W) {d : Nat} {P : Option am_V → am_G → Prop} (hd : 1 ≤ d) (G0 : am_G) (v m p n : Nat) (M : mT) (C : iT) (R : wT) (hv : v < 2) (hm : m < 6) (hp : p < mN M) (hV : mV M) (hN : mN M + n - 1 ≤ 60) (K : ∀ (G : am_G) l5 l6 l7 l8, St0 G → oR (fun i => 193 ≤ i ∧ i ≤ 195) G0 G → rI G (mNew M p n C R) (laid p n (mN M) 0) → am_Go w jR_replace d (0, 0) 144 [some (.inr (some 163)), some (.inl (nI (6 * v + m))), some (.inl (nI p)), some (.inl (nI n)), some (.inl (nI (mN M + n - 1))), l5, l6, l7, l8] [] G P) (hM0 : rM G0 (6 * v + m) M) :
    ∀ (r : Nat) (G : am_G) (l6 l7 l8 : Option am_V), r ≤ mN M → St0 G → oR (fun i => 193 ≤ i ∧ i ≤ 195) G0 G → rI G (mNew M p n C R) (laid p n (mN M) r) → am_Go w jR_replace d (0, 0) 22 [some (.inr (some 163)), some (.inl (nI (6 * v + m))), some (.inl (nI p)), some (.inl (nI n)), some (.inl (nI (mN M + n - 1))), some (.inl (nM r)), l6, l7, l8] [] G P := by
  have hn6 := hV.1
  intro r
  induction r with
  | zero =>
    intro G l6 l7 l8 hr hS ho hI
    refine go_iload dR_replace_22 rfl ?_
    refine go_if_lt dR_replace_24 (tgt := 144) (by decide) (fun c1 => ?_) (fun c1 => absurd (by decide) c1)
    exact K G _ _ _ _ hS ho hI
  | succ r ih =>
    intro G l6 l7 l8 hr hS ho hI
    rw [nM_1]
    have hrN : r < mN M := by omega
    obtain ⟨m1, m2, m3⟩ := (hM0.j (G' := G) (fun i h1 h2 => ho.2.2 i (by omega))).2.1 r hrN
    have h28 := (hV.2.2.2.1 r hrN).1
    refine go_iload dR_replace_22 rfl ?_
    refine go_if_lt dR_replace_24 (tgt := 144) (by decide) (fun c1 => absurd c1 (nI_n0 (by omega))) (fun c1 => ?_)
    refine go_iload dR_replace_27 rfl ?_
    refine go_iload_n dR_replace_29 rfl rfl ?_
    refine go_icmp_neN (by omega) (by omega) dR_replace_30 (tgt := 36) (by decide) (fun c30 => ?_) (fun c30 => ?_)
    · refine go_bipush (nI 60) (by decide) dR_replace_36 ?_
      refine go_iload_n dR_replace_38 rfl rfl ?_
      first | refine go_imulN dR_replace_39 ?_ | refine go_imul dR_replace_39 ?_
      refine go_iload dR_replace_40 rfl ?_
      first | refine go_iaddN dR_replace_42 ?_ | refine go_iadd dR_replace_42 ?_
      refine go_istore dR_replace_43 (Nat.le_of_ble_eq_true rfl) ?_
      refine go_iload dR_replace_45 rfl ?_
      refine go_iload_n dR_replace_47 rfl rfl ?_
      refine go_icmp_geN (by omega) (by omega) dR_replace_48 (tgt := 56) (by decide) (fun c48 => ?_) (fun c48 => ?_)
      · refine go_iload dR_replace_56 rfl ?_
        refine go_iload_n dR_replace_58 rfl rfl ?_
        first | refine go_iaddN dR_replace_59 ?_ | refine go_iadd dR_replace_59 ?_
        refine go_iconst (nI 1) (by decide) dR_replace_60 ?_
        refine go_isubN (by omega) dR_replace_61 ?_
        have ew : r + n - 1 = mvI p n r := by unfold mvI; rw [if_neg (by omega)]
        refine go_istore dR_replace_62 (Nat.le_of_ble_eq_true rfl) ?_
        have hw1 := mvI_lt (n := n) hrN c30 hp
        refine go_aload_n dR_replace_64 rfl rfl ?_
        refine go_getO (a := 164) dR_replace_65 flR_7 rfl (hS.s sh_163) (hS.r rt_op) ?_
        refine go_iload dR_replace_68 rfl ?_
        refine go_ialV (hS.s sh_164) (by omega) (by decide) m1 dR_replace_70 ?_
        refine go_cS (k' := (0, 0)) dR_replace_71 _ csR_139 stR_isJump rfl (okR_isJump (d := 0) w G (nI (mO M r))) (by omega) (by decide) (Nat.le_of_ble_eq_true rfl) (fun r G1 hr hn => ?_)
        obtain ⟨rfl, hG⟩ := hr
        rw [hG]
        clear hG hn
        refine go_if_eqB dR_replace_74 (tgt := 92) (by decide) (fun c74 => ?_) (fun c74 => ?_)
        · refine go_aload_n dR_replace_92 rfl rfl ?_
          refine go_getO (a := 166) dR_replace_93 flR_16 rfl (hS.s sh_163) (hS.r rt_two) ?_
          refine go_iload dR_replace_96 rfl ?_
          refine go_ialV (hS.s sh_166) (by omega) (by decide) m3 dR_replace_98 ?_
          have hB : mB M r = shB M p n r := (shB_n (jmF c74)).symm
          refine go_istore dR_replace_99 (Nat.le_of_ble_eq_true rfl) ?_
          refine go_aload_n dR_replace_101 rfl rfl ?_
          refine go_getO (a := 193) dR_replace_102 flR_98 rfl (hS.s sh_163) (hS.r rt_newOp) ?_
          refine go_iload dR_replace_105 rfl ?_
          refine go_aload_n dR_replace_107 rfl rfl ?_
          refine go_getO (a := 164) dR_replace_108 flR_7 rfl (hS.s sh_163) (hS.r rt_op) ?_
          refine go_iload dR_replace_111 rfl ?_
          refine go_ialV (hS.s sh_164) (by omega) (by decide) m1 dR_replace_113 ?_
          refine go_iastoreN (hS.s sh_193) (by omega) (by decide) dR_replace_114 ?_
          refine go_aload_n dR_replace_115 rfl rfl ?_
          refine go_getO (a := 194) dR_replace_116 flR_101 rfl (hS.s sh_163) (hS.r rt_newOne) ?_
          refine go_iload dR_replace_119 rfl ?_
          refine go_aload_n dR_replace_121 rfl rfl ?_
          refine go_getO (a := 165) dR_replace_122 flR_13 rfl (hS.s sh_163) (hS.r rt_one) ?_
          refine go_iload dR_replace_125 rfl ?_
          refine go_ialV (hS.s sh_165) (by omega) (by decide) (wi_V (by decide) m2) dR_replace_127 ?_
          refine go_iastoreN (hS.s sh_194) (by omega) (by decide) dR_replace_128 ?_
          refine go_aload_n dR_replace_129 rfl rfl ?_
          refine go_getO (a := 195) dR_replace_130 flR_104 rfl (hS.s sh_163) (hS.r rt_newTwo) ?_
          refine go_iload dR_replace_133 rfl ?_
          refine go_iload dR_replace_135 rfl ?_
          refine go_iastoreN (hS.s sh_195) (by omega) (by decide) dR_replace_137 ?_
          have hT := mNew_mv (M := M) (p := p) (n := n) (C := C) (R := R) c30
          rw [← ew] at hT hw1
          refine go_iinc dR_replace_138 rfl ?_
          rw [nM_d]
          refine go_goto dR_replace_141 (tgt := 22) (by decide) ?_
          refine ih _ _ _ _ (by omega) hS (((ho.tr (oR.wi ⟨by decide, by decide⟩)).tr (oR.wi ⟨by decide, by decide⟩)).tr (oR.wi ⟨by decide, by decide⟩)) (hI.put (by rw [hT.1]) hT.2.1.symm (hB.trans hT.2.2.symm) (fun i hi => ?_))
          rcases laid_st hp hi hrN with q | q
          · exact Or.inl (q.1.trans ew.symm)
          · exact Or.inr q
        · refine go_aload_n dR_replace_77 rfl rfl ?_
          refine go_getO (a := 166) dR_replace_78 flR_16 rfl (hS.s sh_163) (hS.r rt_two) ?_
          refine go_iload dR_replace_81 rfl ?_
          refine go_ialV (hS.s sh_166) (by omega) (by decide) m3 dR_replace_83 ?_
          obtain ⟨b1, b2⟩ := hV.jm hrN (jmT c74 h28)
          rw [b1]
          refine go_iload_n dR_replace_84 rfl rfl ?_
          refine go_iload_n dR_replace_85 rfl rfl ?_
          refine go_cS (k' := (0, 0)) dR_replace_86 _ csR_280 stR_shifted rfl (okR_shifted (d := 0) w G (nI (bN M r)) (nI p) (nI n)) (by omega) (by decide) (Nat.le_of_ble_eq_true rfl) (fun r G1 hr hn => ?_)
          obtain ⟨rfl, hG⟩ := hr
          rw [hG]
          clear hG hn
          rw [rSh (by omega) (by omega)]
          have hB : nI (mvd p n (bN M r)) = shB M p n r := (shB_y (jmT c74 h28)).symm
          refine go_goto dR_replace_89 (tgt := 99) (by decide) ?_
          refine go_istore dR_replace_99 (Nat.le_of_ble_eq_true rfl) ?_
          refine go_aload_n dR_replace_101 rfl rfl ?_
          refine go_getO (a := 193) dR_replace_102 flR_98 rfl (hS.s sh_163) (hS.r rt_newOp) ?_
          refine go_iload dR_replace_105 rfl ?_
          refine go_aload_n dR_replace_107 rfl rfl ?_
          refine go_getO (a := 164) dR_replace_108 flR_7 rfl (hS.s sh_163) (hS.r rt_op) ?_
          refine go_iload dR_replace_111 rfl ?_
          refine go_ialV (hS.s sh_164) (by omega) (by decide) m1 dR_replace_113 ?_
          refine go_iastoreN (hS.s sh_193) (by omega) (by decide) dR_replace_114 ?_
          refine go_aload_n dR_replace_115 rfl rfl ?_
          refine go_getO (a := 194) dR_replace_116 flR_101 rfl (hS.s sh_163) (hS.r rt_newOne) ?_
          refine go_iload dR_replace_119 rfl ?_
          refine go_aload_n dR_replace_121 rfl rfl ?_
          refine go_getO (a := 165) dR_replace_122 flR_13 rfl (hS.s sh_163) (hS.r rt_one) ?_
          refine go_iload dR_replace_125 rfl ?_
          refine go_ialV (hS.s sh_165) (by omega) (by decide) (wi_V (by decide) m2) dR_replace_127 ?_
          refine go_iastoreN (hS.s sh_194) (by omega) (by decide) dR_replace_128 ?_
          refine go_aload_n dR_replace_129 rfl rfl ?_
          refine go_getO (a := 195) dR_replace_130 flR_104 rfl (hS.s sh_163) (hS.r rt_newTwo) ?_
          refine go_iload dR_replace_133 rfl ?_
          refine go_iload dR_replace_135 rfl ?_
          refine go_iastoreN (hS.s sh_195) (by omega) (by decide) dR_replace_137 ?_
          have hT := mNew_mv (M := M) (p := p) (n := n) (C := C) (R := R) c30
          rw [← ew] at hT hw1
          refine go_iinc dR_replace_138 rfl ?_
          rw [nM_d]
          refine go_goto dR_replace_141 (tgt := 22) (by decide) ?_
          refine ih _ _ _ _ (by omega) hS (((ho.tr (oR.wi ⟨by decide, by decide⟩)).tr (oR.wi ⟨by decide, by decide⟩)).tr (oR.wi ⟨by decide, by decide⟩)) (hI.put (by rw [hT.1]) hT.2.1.symm (hB.trans hT.2.2.symm) (fun i hi => ?_))
          rcases laid_st hp hi hrN with q | q
          · exact Or.inl (q.1.trans ew.symm)
          · exact Or.inr q
      · refine go_iload dR_replace_51 rfl ?_
        refine go_goto dR_replace_53 (tgt := 62) (by decide) ?_
        have ew : r = mvI p n r := by unfold mvI; rw [if_pos (by omega)]
        refine go_istore dR_replace_62 (Nat.le_of_ble_eq_true rfl) ?_
        have hw1 := mvI_lt (n := n) hrN c30 hp
        refine go_aload_n dR_replace_64 rfl rfl ?_
        refine go_getO (a := 164) dR_replace_65 flR_7 rfl (hS.s sh_163) (hS.r rt_op) ?_
        refine go_iload dR_replace_68 rfl ?_
        refine go_ialV (hS.s sh_164) (by omega) (by decide) m1 dR_replace_70 ?_
        refine go_cS (k' := (0, 0)) dR_replace_71 _ csR_139 stR_isJump rfl (okR_isJump (d := 0) w G (nI (mO M r))) (by omega) (by decide) (Nat.le_of_ble_eq_true rfl) (fun r G1 hr hn => ?_)
        obtain ⟨rfl, hG⟩ := hr
        rw [hG]
        clear hG hn
        refine go_if_eqB dR_replace_74 (tgt := 92) (by decide) (fun c74 => ?_) (fun c74 => ?_)
        · refine go_aload_n dR_replace_92 rfl rfl ?_
          refine go_getO (a := 166) dR_replace_93 flR_16 rfl (hS.s sh_163) (hS.r rt_two) ?_
          refine go_iload dR_replace_96 rfl ?_
          refine go_ialV (hS.s sh_166) (by omega) (by decide) m3 dR_replace_98 ?_
          have hB : mB M r = shB M p n r := (shB_n (jmF c74)).symm
          refine go_istore dR_replace_99 (Nat.le_of_ble_eq_true rfl) ?_
          refine go_aload_n dR_replace_101 rfl rfl ?_
          refine go_getO (a := 193) dR_replace_102 flR_98 rfl (hS.s sh_163) (hS.r rt_newOp) ?_
          refine go_iload dR_replace_105 rfl ?_
          refine go_aload_n dR_replace_107 rfl rfl ?_
          refine go_getO (a := 164) dR_replace_108 flR_7 rfl (hS.s sh_163) (hS.r rt_op) ?_
          refine go_iload dR_replace_111 rfl ?_
          refine go_ialV (hS.s sh_164) (by omega) (by decide) m1 dR_replace_113 ?_
          refine go_iastoreN (hS.s sh_193) (by omega) (by decide) dR_replace_114 ?_
          refine go_aload_n dR_replace_115 rfl rfl ?_
          refine go_getO (a := 194) dR_replace_116 flR_101 rfl (hS.s sh_163) (hS.r rt_newOne) ?_
          refine go_iload dR_replace_119 rfl ?_
          refine go_aload_n dR_replace_121 rfl rfl ?_
          refine go_getO (a := 165) dR_replace_122 flR_13 rfl (hS.s sh_163) (hS.r rt_one) ?_
          refine go_iload dR_replace_125 rfl ?_
          refine go_ialV (hS.s sh_165) (by omega) (by decide) (wi_V (by decide) m2) dR_replace_127 ?_
          refine go_iastoreN (hS.s sh_194) (by omega) (by decide) dR_replace_128 ?_
          refine go_aload_n dR_replace_129 rfl rfl ?_
          refine go_getO (a := 195) dR_replace_130 flR_104 rfl (hS.s sh_163) (hS.r rt_newTwo) ?_
          refine go_iload dR_replace_133 rfl ?_
          refine go_iload dR_replace_135 rfl ?_
          refine go_iastoreN (hS.s sh_195) (by omega) (by decide) dR_replace_137 ?_
          have hT := mNew_mv (M := M) (p := p) (n := n) (C := C) (R := R) c30
          rw [← ew] at hT hw1
          refine go_iinc dR_replace_138 rfl ?_
          rw [nM_d]
          refine go_goto dR_replace_141 (tgt := 22) (by decide) ?_
          refine ih _ _ _ _ (by omega) hS (((ho.tr (oR.wi ⟨by decide, by decide⟩)).tr (oR.wi ⟨by decide, by decide⟩)).tr (oR.wi ⟨by decide, by decide⟩)) (hI.put (by rw [hT.1]) hT.2.1.symm (hB.trans hT.2.2.symm) (fun i hi => ?_))
          rcases laid_st hp hi hrN with q | q
          · exact Or.inl (q.1.trans ew.symm)
          · exact Or.inr q
        · refine go_aload_n dR_replace_77 rfl rfl ?_
          refine go_getO (a := 166) dR_replace_78 flR_16 rfl (hS.s sh_163) (hS.r rt_two) ?_
          refine go_iload dR_replace_81 rfl ?_
          refine go_ialV (hS.s sh_166) (by omega) (by decide) m3 dR_replace_83 ?_
          obtain ⟨b1, b2⟩ := hV.jm hrN (jmT c74 h28)
          rw [b1]
          refine go_iload_n dR_replace_84 rfl rfl ?_
          refine go_iload_n dR_replace_85 rfl rfl ?_
          refine go_cS (k' := (0, 0)) dR_replace_86 _ csR_280 stR_shifted rfl (okR_shifted (d := 0) w G (nI (bN M r)) (nI p) (nI n)) (by omega) (by decide) (Nat.le_of_ble_eq_true rfl) (fun r G1 hr hn => ?_)
          obtain ⟨rfl, hG⟩ := hr
          rw [hG]
          clear hG hn
          rw [rSh (by omega) (by omega)]
          have hB : nI (mvd p n (bN M r)) = shB M p n r := (shB_y (jmT c74 h28)).symm
          refine go_goto dR_replace_89 (tgt := 99) (by decide) ?_
          refine go_istore dR_replace_99 (Nat.le_of_ble_eq_true rfl) ?_
          refine go_aload_n dR_replace_101 rfl rfl ?_
          refine go_getO (a := 193) dR_replace_102 flR_98 rfl (hS.s sh_163) (hS.r rt_newOp) ?_
          refine go_iload dR_replace_105 rfl ?_
          refine go_aload_n dR_replace_107 rfl rfl ?_
          refine go_getO (a := 164) dR_replace_108 flR_7 rfl (hS.s sh_163) (hS.r rt_op) ?_
          refine go_iload dR_replace_111 rfl ?_
          refine go_ialV (hS.s sh_164) (by omega) (by decide) m1 dR_replace_113 ?_
          refine go_iastoreN (hS.s sh_193) (by omega) (by decide) dR_replace_114 ?_
          refine go_aload_n dR_replace_115 rfl rfl ?_
          refine go_getO (a := 194) dR_replace_116 flR_101 rfl (hS.s sh_163) (hS.r rt_newOne) ?_
          refine go_iload dR_replace_119 rfl ?_
          refine go_aload_n dR_replace_121 rfl rfl ?_
          refine go_getO (a := 165) dR_replace_122 flR_13 rfl (hS.s sh_163) (hS.r rt_one) ?_
          refine go_iload dR_replace_125 rfl ?_
          refine go_ialV (hS.s sh_165) (by omega) (by decide) (wi_V (by decide) m2) dR_replace_127 ?_
          refine go_iastoreN (hS.s sh_194) (by omega) (by decide) dR_replace_128 ?_
          refine go_aload_n dR_replace_129 rfl rfl ?_
          refine go_getO (a := 195) dR_replace_130 flR_104 rfl (hS.s sh_163) (hS.r rt_newTwo) ?_
          refine go_iload dR_replace_133 rfl ?_
          refine go_iload dR_replace_135 rfl ?_
          refine go_iastoreN (hS.s sh_195) (by omega) (by decide) dR_replace_137 ?_
          have hT := mNew_mv (M := M) (p := p) (n := n) (C := C) (R := R) c30
          rw [← ew] at hT hw1
          refine go_iinc dR_replace_138 rfl ?_
          rw [nM_d]
          refine go_goto dR_replace_141 (tgt := 22) (by decide) ?_
          refine ih _ _ _ _ (by omega) hS (((ho.tr (oR.wi ⟨by decide, by decide⟩)).tr (oR.wi ⟨by decide, by decide⟩)).tr (oR.wi ⟨by decide, by decide⟩)) (hI.put (by rw [hT.1]) hT.2.1.symm (hB.trans hT.2.2.symm) (fun i hi => ?_))
          rcases laid_st hp hi hrN with q | q
          · exact Or.inl (q.1.trans ew.symm)
          · exact Or.inr q
    · refine go_goto dR_replace_33 (tgt := 138) (by decide) ?_
      refine go_iinc dR_replace_138 rfl ?_
      rw [nM_d]
      refine go_goto dR_replace_141 (tgt := 22) (by decide) ?_
      exact ih G _ _ _ (by omega) hS ho (fun i hi => hI i ((laid_st hp hi hrN).resolve_left (fun q => q.2 c30)))
set_option maxRecDepth 100000 in
theorem R_rp2 (w : am_W) {d : Nat} {P : Option am_V → am_G → Prop} (hd : 1 ≤ d) (G0 : am_G) (v m p n : Nat) (M : mT) (C : iT) (R : wT) (hv : v < 2) (hm : m < 6) (hp : p < mN M) (hV : mV M) (hN : mN M + n - 1 ≤ 60) (hI : rI G0 (mNew M p n C R) (fun i => i < mN M + n - 1)) (K : ∀ (G : am_G) l5 l6 l7 l8, St0 G → oQ (6 * v + m) G0 G → (∀ i, i = 167 ∨ i = 168 ∨ i = 169 ∨ i = 174 → G.2.1 i = G0.2.1 i) → (∀ i, i < mN M + n - 1 → G.2.1 164 (60 * (6 * v + m) + i) = nI (mO (mNew M p n C R) i) ∧ G.2.1 165 (60 * (6 * v + m) + i) = mA (mNew M p n C R) i ∧ G.2.1 166 (60 * (6 * v + m) + i) = mB (mNew M p n C R) i) → am_Go w jR_replace d (0, 0) 188 [some (.inr (some 163)), some (.inl (nI (6 * v + m))), some (.inl (nI p)), some (.inl (nI n)), some (.inl (nI (mN M + n - 1))), l5, l6, l7, l8] [] G P) :
    ∀ (r k : Nat) (G : am_G) (l6 l7 l8 : Option am_V), k + r = mN M + n - 1 → St0 G → oQ (6 * v + m) G0 G → (∀ i, i = 167 ∨ i = 168 ∨ i = 169 ∨ i = 174 → G.2.1 i = G0.2.1 i) → (∀ i, i < k → G.2.1 164 (60 * (6 * v + m) + i) = nI (mO (mNew M p n C R) i) ∧ G.2.1 165 (60 * (6 * v + m) + i) = mA (mNew M p n C R) i ∧ G.2.1 166 (60 * (6 * v + m) + i) = mB (mNew M p n C R) i) → am_Go w jR_replace d (0, 0) 147 [some (.inr (some 163)), some (.inl (nI (6 * v + m))), some (.inl (nI p)), some (.inl (nI n)), some (.inl (nI (mN M + n - 1))), some (.inl (nI k)), l6, l7, l8] [] G P := by
  intro r
  induction r with
  | zero =>
    intro k G l6 l7 l8 hk hS ho hK h1
    refine go_iload dR_replace_147 rfl ?_
    refine go_iload dR_replace_149 rfl ?_
    refine go_icmp_geN (by omega) (by omega) dR_replace_151 (tgt := 188) (by decide) (fun c1 => ?_) (fun c1 => absurd c1 (by omega))
    exact K G _ _ _ _ hS ho hK (fun i hi => h1 i (by omega))
  | succ r ih =>
    intro k G l6 l7 l8 hk hS ho hK h1
    obtain ⟨e1, e2, e3⟩ := hI k (by omega)
    rw [← ho.2.2.1 193 (by omega)] at e1
    rw [← ho.2.2.1 194 (by omega)] at e2
    rw [← ho.2.2.1 195 (by omega)] at e3
    refine go_iload dR_replace_147 rfl ?_
    refine go_iload dR_replace_149 rfl ?_
    refine go_icmp_geN (by omega) (by omega) dR_replace_151 (tgt := 188) (by decide) (fun c1 => absurd c1 (by omega)) (fun c1 => ?_)
    refine go_aload_n dR_replace_154 rfl rfl ?_
    refine go_iload_n dR_replace_155 rfl rfl ?_
    refine go_iload dR_replace_156 rfl ?_
    refine go_aload_n dR_replace_158 rfl rfl ?_
    refine go_getO (a := 193) dR_replace_159 flR_98 rfl (hS.s sh_163) (hS.r rt_newOp) ?_
    refine go_iload dR_replace_162 rfl ?_
    refine go_ialV (hS.s sh_193) (by omega) (by decide) e1 dR_replace_164 ?_
    refine go_aload_n dR_replace_165 rfl rfl ?_
    refine go_getO (a := 194) dR_replace_166 flR_101 rfl (hS.s sh_163) (hS.r rt_newOne) ?_
    refine go_iload dR_replace_169 rfl ?_
    refine go_ialV (hS.s sh_194) (by omega) (by decide) e2 dR_replace_171 ?_
    refine go_aload_n dR_replace_172 rfl rfl ?_
    refine go_getO (a := 195) dR_replace_173 flR_104 rfl (hS.s sh_163) (hS.r rt_newTwo) ?_
    refine go_iload dR_replace_176 rfl ?_
    refine go_ialV (hS.s sh_195) (by omega) (by decide) e3 dR_replace_178 ?_
    refine go_cV (k' := (0, 0)) dR_replace_179 _ csR_127 (hS.s sh_163) rfl imR_set seR_set rfl (okR_set (d := 0) w G (6 * v + m) k (nI (mO (mNew M p n C R) k)) (mA (mNew M p n C R) k) (mB (mNew M p n C R) k) (by omega) (by omega) hS) (by omega) (by decide) (Nat.le_of_ble_eq_true rfl) (fun r G1 hr hn => ?_)
    obtain ⟨rfl, hG⟩ := hr
    rw [hG]
    clear hG hn
    refine go_inc dR_replace_182 rfl ?_
    refine go_goto dR_replace_185 (tgt := 147) (by decide) ?_
    refine ih (k + 1) _ _ _ _ (by omega) hS (ho.tr (R_setF_o (by omega))) (fun i hi => ?_) (fun i hi => ?_)
    · unfold R_setF; rw [← hK i hi]; simp (disch := omega) only [wi_I]
    · unfold R_setF
      by_cases e : i = k
      · rw [e]; simp (disch := omega) only [wi_I, wi_Is]; exact ⟨trivial, trivial, trivial⟩
      · simp (disch := omega) only [wi_I, wi_In]; exact h1 i (by omega)
set_option maxRecDepth 100000 in
theorem R_rp3 (w : am_W) {d : Nat} {P : Option am_V → am_G → Prop} (hd : 1 ≤ d) (G0 : am_G) (v m p n : Nat) (M : mT) (C : iT) (R : wT) (hv : v < 2) (hm : m < 6) (hp : p < mN M) (hV : mV M) (hN : mN M + n - 1 ≤ 60) (hR8 : R.1 ≤ 8) (hW : rWw G0 R) (K : ∀ (G : am_G) l5 l6 l7 l8, St0 G → oQ (6 * v + m) G0 G → (∀ i, i ≤ 169 ∨ i = 174 → G.2.1 i = G0.2.1 i) → (∀ i, i < R.1 → G.2.1 170 (8 * (6 * v + m) + i) = nI (R.2.1 i) ∧ G.2.1 171 (8 * (6 * v + m) + i) = nI (R.2.2.1 i) ∧ G.2.1 172 (8 * (6 * v + m) + i) = nI (R.2.2.2.1 i) ∧ G.2.1 173 (8 * (6 * v + m) + i) = nI (R.2.2.2.2 i)) → am_Go w jR_replace d (0, 0) 241 [some (.inr (some 163)), some (.inl (nI (6 * v + m))), some (.inl (nI p)), some (.inl (nI n)), some (.inl (nI (mN M + n - 1))), l5, l6, l7, l8] [] G P) :
    ∀ (r k : Nat) (G : am_G) (l6 l7 l8 : Option am_V), k + r = R.1 → St0 G → oQ (6 * v + m) G0 G → (∀ i, i ≤ 169 ∨ i = 174 → G.2.1 i = G0.2.1 i) → (∀ i, i < k → G.2.1 170 (8 * (6 * v + m) + i) = nI (R.2.1 i) ∧ G.2.1 171 (8 * (6 * v + m) + i) = nI (R.2.2.1 i) ∧ G.2.1 172 (8 * (6 * v + m) + i) = nI (R.2.2.2.1 i) ∧ G.2.1 173 (8 * (6 * v + m) + i) = nI (R.2.2.2.2 i)) → am_Go w jR_replace d (0, 0) 191 [some (.inr (some 163)), some (.inl (nI (6 * v + m))), some (.inl (nI p)), some (.inl (nI n)), some (.inl (nI (mN M + n - 1))), some (.inl (nI k)), l6, l7, l8] [] G P := by
  intro r
  induction r with
  | zero =>
    intro k G l6 l7 l8 hk hS ho hK h1
    have nr : G.2.1 163 51 = nI R.1 := by rw [hK 163 (by omega)]; exact hW.1
    refine go_iload dR_replace_191 rfl ?_
    refine go_aload_n dR_replace_193 rfl rfl ?_
    refine go_getV dR_replace_194 flR_277 rfl (hS.s sh_163) (by first | assumption | (simp (disch := omega) only [wi_I, ro_I, wi_In, wi_Is]; done) | (simp (disch := omega) only [wi_I, ro_I, wi_In, wi_Is]; first | assumption | rfl) | rfl) ?_
    refine go_icmp_geN (by omega) (by omega) dR_replace_197 (tgt := 241) (by decide) (fun c1 => ?_) (fun c1 => absurd c1 (by omega))
    exact K G _ _ _ _ hS ho hK (fun i hi => h1 i (by omega))
  | succ r ih =>
    intro k G l6 l7 l8 hk hS ho hK h1
    have nr : G.2.1 163 51 = nI R.1 := by rw [hK 163 (by omega)]; exact hW.1
    obtain ⟨e1, e2, e3, e4⟩ := hW.2 k (by omega)
    rw [← ho.2.2.1 196 (by omega)] at e1
    rw [← ho.2.2.1 197 (by omega)] at e2
    rw [← ho.2.2.1 198 (by omega)] at e3
    rw [← ho.2.2.1 199 (by omega)] at e4
    refine go_iload dR_replace_191 rfl ?_
    refine go_aload_n dR_replace_193 rfl rfl ?_
    refine go_getV dR_replace_194 flR_277 rfl (hS.s sh_163) (by first | assumption | (simp (disch := omega) only [wi_I, ro_I, wi_In, wi_Is]; done) | (simp (disch := omega) only [wi_I, ro_I, wi_In, wi_Is]; first | assumption | rfl) | rfl) ?_
    refine go_icmp_geN (by omega) (by omega) dR_replace_197 (tgt := 241) (by decide) (fun c1 => absurd c1 (by omega)) (fun c1 => ?_)
    refine go_aload_n dR_replace_200 rfl rfl ?_
    refine go_iload_n dR_replace_201 rfl rfl ?_
    refine go_iload dR_replace_202 rfl ?_
    refine go_aload_n dR_replace_204 rfl rfl ?_
    refine go_getO (a := 196) dR_replace_205 flR_107 rfl (hS.s sh_163) (hS.r rt_newFrom) ?_
    refine go_iload dR_replace_208 rfl ?_
    refine go_ialV (hS.s sh_196) (by omega) (by decide) e1 dR_replace_210 ?_
    refine go_aload_n dR_replace_211 rfl rfl ?_
    refine go_getO (a := 197) dR_replace_212 flR_110 rfl (hS.s sh_163) (hS.r rt_newTo) ?_
    refine go_iload dR_replace_215 rfl ?_
    refine go_ialV (hS.s sh_197) (by omega) (by decide) e2 dR_replace_217 ?_
    refine go_aload_n dR_replace_218 rfl rfl ?_
    refine go_getO (a := 198) dR_replace_219 flR_113 rfl (hS.s sh_163) (hS.r rt_newAt) ?_
    refine go_iload dR_replace_222 rfl ?_
    refine go_ialV (hS.s sh_198) (by omega) (by decide) e3 dR_replace_224 ?_
    refine go_aload_n dR_replace_225 rfl rfl ?_
    refine go_getO (a := 199) dR_replace_226 flR_116 rfl (hS.s sh_163) (hS.r rt_newType) ?_
    refine go_iload dR_replace_229 rfl ?_
    refine go_ialV (hS.s sh_199) (by omega) (by decide) e4 dR_replace_231 ?_
    refine go_cV (k' := (0, 0)) dR_replace_232 _ csR_131 (hS.s sh_163) rfl imR_setRow seR_setRow rfl (okR_setRow (d := 0) w G (6 * v + m) k (nI (R.2.1 k)) (nI (R.2.2.1 k)) (nI (R.2.2.2.1 k)) (nI (R.2.2.2.2 k)) (by omega) (by omega) hS) (by omega) (by decide) (Nat.le_of_ble_eq_true rfl) (fun r G1 hr hn => ?_)
    obtain ⟨rfl, hG⟩ := hr
    rw [hG]
    clear hG hn
    refine go_inc dR_replace_235 rfl ?_
    refine go_goto dR_replace_238 (tgt := 191) (by decide) ?_
    refine ih (k + 1) _ _ _ _ (by omega) hS (ho.tr (R_rowF_o (by omega))) (fun i hi => ?_) (fun i hi => ?_)
    · unfold R_rowF; rw [← hK i hi]; simp (disch := omega) only [wi_I]
    · unfold R_rowF
      by_cases e : i = k
      · rw [e]; simp (disch := omega) only [wi_I, wi_Is]; exact ⟨trivial, trivial, trivial, trivial⟩
      · simp (disch := omega) only [wi_I, wi_In]; exact h1 i (by omega)
set_option maxRecDepth 100000 in
theorem okR_replace (w : am_W) {d : Nat} (hd : 1 ≤ d) (G : am_G) (v m p n : Nat) (M : mT) (C : iT) (R : wT) (hv : v < 2) (hm : m < 6) (hp : p < mN M) (hV : mV M) (hN : mN M + n - 1 ≤ 60) (hR8 : R.1 ≤ 8) (hS : St0 G) (hM : rM G (6 * v + m) M) (hW : rWw G R) (hI : rI G (mNew M p n C R) (fun i => p ≤ i ∧ i < p + n)) : am_Ok w jR_replace d (0, 0) [.inr (some 163), .inl (nI (6 * v + m)), .inl (nI p), .inl (nI n)] G (fun r G' => r = some (.inl (nI (mN M + n - 1))) ∧ ∃ G1, oNw G G1 ∧ oQ (6 * v + m) G1 G' ∧ rM G' (6 * v + m) (mNew M p n C R)) := by
  refine am_ok_of rfl (Nat.le_of_ble_eq_true rfl) ?_
  show am_Go w jR_replace d (0, 0) 0 [some (.inr (some 163)), some (.inl (nI (6 * v + m))), some (.inl (nI p)), some (.inl (nI n)), none, none, none, none, none] [] G _
  have mn := hM.1.1
  have hn6 := hV.1
  refine go_aload_n dR_replace_0 rfl rfl ?_
  refine go_getO (a := 167) dR_replace_1 flR_19 rfl (hS.s sh_163) (hS.r rt_many) ?_
  refine go_iload_n dR_replace_4 rfl rfl ?_
  first | refine go_ialV (hS.s sh_167) (by omega) (by decide) (by assumption) dR_replace_5 ?_ | refine go_ialoadN (hS.s sh_167) (by omega) (by decide) dR_replace_5 ?_
  refine go_iload_n dR_replace_6 rfl rfl ?_
  first | refine go_iaddN dR_replace_7 ?_ | refine go_iadd dR_replace_7 ?_
  refine go_iconst (nI 1) (by decide) dR_replace_8 ?_
  refine go_isubN (by omega) dR_replace_9 ?_
  refine go_istore dR_replace_10 (Nat.le_of_ble_eq_true rfl) ?_
  refine go_aload_n dR_replace_12 rfl rfl ?_
  refine go_getO (a := 167) dR_replace_13 flR_19 rfl (hS.s sh_163) (hS.r rt_many) ?_
  refine go_iload_n dR_replace_16 rfl rfl ?_
  first | refine go_ialV (hS.s sh_167) (by omega) (by decide) (by assumption) dR_replace_17 ?_ | refine go_ialoadN (hS.s sh_167) (by omega) (by decide) dR_replace_17 ?_
  refine go_iconst (nI 1) (by decide) dR_replace_18 ?_
  refine go_isub dR_replace_19 ?_
  change am_Go w jR_replace d (0, 0) 20 _ [.inl (nM (mN M))] _ _
  refine go_istore dR_replace_20 (Nat.le_of_ble_eq_true rfl) ?_
  refine R_rp1 w hd G v m p n M C R hv hm hp hV hN (fun X l5 l6 l7 l8 SX ox IX => ?_) hM (mN M) G _ _ _ (Nat.le_refl _) hS oR.rf (fun i hi => hI i (laid_top hp hi))
  refine go_iconst (nI 0) (by decide) dR_replace_144 ?_
  refine go_istore dR_replace_145 (Nat.le_of_ble_eq_true rfl) ?_
  refine R_rp2 w hd X v m p n M C R hv hm hp hV hN (fun i hi => IX i (laid_all hp (by have hi : i < mN M + n - 1 := hi; omega))) (fun Y k5 k6 k7 k8 SY oy KY cY => ?_) (mN M + n - 1) 0 X _ _ _ (by omega) SX oQ.rf (fun _ _ => rfl) (fun i hi => absurd hi (Nat.not_lt_zero i))
  refine go_iconst (nI 0) (by decide) dR_replace_188 ?_
  refine go_istore dR_replace_189 (Nat.le_of_ble_eq_true rfl) ?_
  have WX : rWw X R := by
    obtain ⟨w1, w2⟩ := hW
    refine ⟨by rw [ox.2.2 163 (by omega)]; exact w1, fun i hi => ?_⟩
    rw [ox.2.2 196 (by omega), ox.2.2 197 (by omega), ox.2.2 198 (by omega), ox.2.2 199 (by omega)]
    exact w2 i hi
  have WY : rWw Y R := by
    obtain ⟨w1, w2⟩ := WX
    refine ⟨by rw [oy.2.2.1 163 (by omega)]; exact w1, fun i hi => ?_⟩
    rw [oy.2.2.1 196 (by omega), oy.2.2.1 197 (by omega), oy.2.2.1 198 (by omega), oy.2.2.1 199 (by omega)]
    exact w2 i hi
  refine R_rp3 w hd Y v m p n M C R hv hm hp hV hN hR8 WY (fun U j5 j6 j7 j8 SU ou KU rU => ?_) R.1 0 Y _ _ _ (by omega) SY oQ.rf (fun _ _ => rfl) (fun i hi => absurd hi (Nat.not_lt_zero i))
  have hS := SU
  have nrU : U.2.1 163 51 = nI R.1 := by rw [KU 163 (by omega)]; exact WY.1
  refine go_aload_n dR_replace_241 rfl rfl ?_
  refine go_getO (a := 167) dR_replace_242 flR_19 rfl (hS.s sh_163) (hS.r rt_many) ?_
  refine go_iload_n dR_replace_245 rfl rfl ?_
  refine go_iload dR_replace_246 rfl ?_
  refine go_iastoreN (hS.s sh_167) (by omega) (by decide) dR_replace_248 ?_
  refine go_aload_n dR_replace_249 rfl rfl ?_
  refine go_getO (a := 169) dR_replace_250 flR_25 rfl (hS.s sh_163) (hS.r rt_rows) ?_
  refine go_iload_n dR_replace_253 rfl rfl ?_
  refine go_aload_n dR_replace_254 rfl rfl ?_
  refine go_getV dR_replace_255 flR_277 rfl (hS.s sh_163) (by first | assumption | (simp (disch := omega) only [wi_I, ro_I, wi_In, wi_Is]; done) | (simp (disch := omega) only [wi_I, ro_I, wi_In, wi_Is]; first | assumption | rfl) | rfl) ?_
  refine go_iastoreN (hS.s sh_169) (by omega) (by decide) dR_replace_258 ?_
  refine go_iload dR_replace_259 rfl ?_
  refine go_ireturn rfl dR_replace_261 ?_
  have MX := hM.nw (G' := X) ⟨ox.up (fun i hi => by omega), fun k _ => by rw [ox.2.2 163 (by omega)]⟩
  refine ⟨rfl, X, ⟨ox.up (fun i hi => by omega), fun k _ => by rw [ox.2.2 163 (by omega)]⟩, ((oy.tr ou).tr (oQ.wi ⟨by decide, by decide⟩ (Or.inr (Or.inr ⟨by decide, rfl⟩)))).tr (oQ.wi ⟨by decide, by decide⟩ (Or.inr (Or.inr ⟨by decide, rfl⟩))), ⟨?_, ?_, ?_, ?_⟩, fun i hi => ?_, fun i hi => ?_⟩
  · simp (disch := omega) only [wi_I, wi_Is]; rfl
  · simp (disch := omega) only [wi_I, wi_Is]; rfl
  · simp (disch := omega) only [wi_I]; rw [KU 168 (by omega), KY 168 (by omega)]; exact MX.1.2.2.1
  · simp (disch := omega) only [wi_I]; rw [KU 174 (by omega), KY 174 (by omega)]; exact MX.1.2.2.2
  · simp (disch := omega) only [wi_I]; rw [KU 164 (by omega), KU 165 (by omega), KU 166 (by omega)]; exact cY i hi
  · simp (disch := omega) only [wi_I]; exact rU i hi
