theorem oTl.a {G : am_G} {k : Nat} {x y : Int32} : oTl G (am_wi (am_wi G 191 k x) 163 39 y) := ⟨(oR.wi (Or.inr rfl)).tr (oR.wi (Or.inl rfl)), fun q hq => by rw [wi_In hq, wi_I (by decide)]⟩
theorem oTl.b {G : am_G} {y : Int32} : oTl G (am_wi G 163 39 y) := ⟨oR.wi (Or.inl rfl), fun q hq => wi_In hq⟩
theorem oTl.St {G G1 : am_G} (h : oTl G G1) (hs : St0 G) : St0 G1 := h.1.St hs
theorem hldR.x {G G' : am_G} {v : Nat} {Q : Nat → mT} (h : hldR G v Q) (ho : oX G G') : hldR G' v Q := fun a ha => ⟨(h a ha).1.j (fun i h1 h2 => ho.1.2.2 i (by omega)), (h a ha).2⟩
/-- r - 1, where r may be 0 -/
def nM (r : Nat) : Int32 := nI r - nI 1
theorem nM_1 {r : Nat} : nM (r + 1) = nI r := by unfold nM; rw [pk_sub (Nat.le_add_left 1 r)]; rfl
theorem nM_0 : nM 0 = -1 := by decide
theorem nM_d {r : Nat} : nI r + Int32.ofInt (-1) = nM r := by
  unfold nM
  rw [Int32.sub_eq_add_neg]
  rfl
theorem nM_lt {r : Nat} (hr : r < 100000) : nM r < 0 ↔ r = 0 := by
  cases r with
  | zero => exact ⟨fun _ => rfl, fun _ => by decide⟩
  | succ r =>
    rw [nM_1]
    refine ⟨fun h => ?_, fun h => absurd h (Nat.succ_ne_zero r)⟩
    have h2 : (nI r).toInt < (0 : Int32).toInt := Int32.lt_iff_toInt_lt.mp h
    rw [nI_toInt (by omega)] at h2
    have h3 : (0 : Int32).toInt = 0 := by decide
    omega
theorem nM_ltb {r b : Nat} (hr : r < 100000) (hb : b < 100000) : nM r < nI b ↔ r ≤ b := by
  have e : (nM r).toInt = (r : Int) - 1 := by
    cases r with
    | zero => decide
    | succ r => rw [nM_1, nI_toInt (by omega)]; omega
  rw [Int32.lt_iff_toInt_lt, e, nI_toInt (by omega)]
  omega
section Op
variable {Q : Nat → mT} {s : xT} {c : Nat} {F : Nat → uT} {V : Nat → Option Int32} {p : Nat} {G G1 : am_G}
theorem xOpen_t (h : mL (Q c) = true) : xOpen Q s c F V = xMost ((xTell s (nI (4000 + c)) 2).1, (xTell s (nI (4000 + c)) 2).2.1, (xTell s (nI (4000 + c)) 2).2.2.1, (xTell s (nI (4000 + c)) 2).2.2.2.1, (xN (xTell s (nI (4000 + c)) 2) + 1, F, (c, 0, 0, xH (xTell s (nI (4000 + c)) 2), (fun _ => nI 0), V)), xO (xTell s (nI (4000 + c)) 2)) := by
  unfold xOpen
  dsimp only
  rw [if_pos h]
  rfl
theorem xOpen_f (h : mL (Q c) = false) : xOpen Q s c F V = xMost (s.1, s.2.1, s.2.2.1, s.2.2.2.1, (xN s + 1, F, (c, 0, 0, xH s, (fun _ => nI 0), V)), xO s) := by
  unfold xOpen
  dsimp only
  rw [if_neg (by rw [h]; decide)]
/-- the four entries of a frame that begins -/
def R_b4 (G : am_G) (n : Nat) (a b : Int32) : am_G := am_wi (am_wi (am_wi (am_wi G 185 n a) 186 n (nI 0)) 187 n (nI 0)) 188 n b
theorem xR.b4 {a b : Int32} (h : xR p G s) : xR p (R_b4 G (xN s) a b) s := by
  unfold R_b4
  refine h.off (fun k _ _ => ?_) (fun r hr => ?_) (fun r r1 r2 i hi => ?_) (fun r r1 r2 i hi => ?_)
  · simp (disch := omega) only [wi_I]
  · simp (disch := omega) only [wi_I]
  · rcases (show r = 185 ∨ r = 186 ∨ r = 187 ∨ r = 188 by omega) with e | e | e | e <;> subst e <;> simp (disch := omega) only [wi_I, wi_In]
  · simp (disch := omega) only [wi_I]
def bF (p : Nat) (G : am_G) (s : xT) (c : Nat) (V : Nat → Option Int32) : Prop := G.2.1 185 (xN s) = nI (6 * p + c) ∧ G.2.1 186 (xN s) = nI 0 ∧ G.2.1 187 (xN s) = nI 0 ∧ G.2.1 188 (xN s) = nI (xH s) ∧ ∀ a, a < 8 → ∀ v, V a = some v → G.2.1 190 (8 * xN s + a) = v
theorem bF.b4 (hV : ∀ a, a < 8 → ∀ v, V a = some v → G.2.1 190 (8 * xN s + a) = v) : bF p (R_b4 G (xN s) (nI (6 * p + c)) (nI (xH s))) s c V := by
  unfold R_b4
  refine ⟨?_, ?_, ?_, ?_, fun a ha v hv => ?_⟩
  · simp (disch := omega) only [wi_I, wi_Is]
  · simp (disch := omega) only [wi_I, wi_Is]
  · simp (disch := omega) only [wi_I, wi_Is]
  · simp (disch := omega) only [wi_I, wi_Is]
  · simp (disch := omega) only [wi_I, wi_Is]; exact hV a ha v hv
theorem bF.tl (h : bF p G s c V) (ho : oTl G G1) : bF p G1 s c V := by
  obtain ⟨h1, h2, h3, h4, h5⟩ := h
  refine ⟨?_, ?_, ?_, ?_, fun a ha v hv => ?_⟩
  · rw [ho.1.2.2 185 (by decide)]; exact h1
  · rw [ho.1.2.2 186 (by decide)]; exact h2
  · rw [ho.1.2.2 187 (by decide)]; exact h3
  · rw [ho.1.2.2 188 (by decide)]; exact h4
  · rw [ho.1.2.2 190 (by decide)]; exact h5 a ha v hv
theorem xR.op1 (h : xR p G s) (hF : ∀ i, i < xN s → F i = if i + 1 < xN s then xF s i else xC s) (hb : bF p G s c V) (hx : xN s + 1 ≤ lX s.1) : xR p (am_wi G 163 36 (nI (xN s + 1))) (xMost (s.1, s.2.1, s.2.2.1, s.2.2.2.1, (xN s + 1, F, (c, 0, 0, xH s, (fun _ => nI 0), V)), xO s)) :=
  h.opn hF hb.1 hb.2.1 hb.2.2.1 hb.2.2.2.1 hb.2.2.2.2 (by rw [if_neg (by omega)])
theorem xR.op2 (h : xR p G s) (hF : ∀ i, i < xN s → F i = if i + 1 < xN s then xF s i else xC s) (hb : bF p G s c V) (hx : lX s.1 < xN s + 1) : xR p (am_wi (am_wi G 163 36 (nI (xN s + 1))) 163 37 (nI (xN s + 1))) (xMost (s.1, s.2.1, s.2.2.1, s.2.2.2.1, (xN s + 1, F, (c, 0, 0, xH s, (fun _ => nI 0), V)), xO s)) :=
  h.opn hF hb.1 hb.2.1 hb.2.2.1 hb.2.2.2.1 hb.2.2.2.2 (by rw [if_pos hx])
/-- behind begin's tell -/
theorem xR.opT1 (h : xR p G (xTell s (nI (4000 + c)) 2)) (hF : ∀ i, i < xN s → F i = if i + 1 < xN s then xF s i else xC s) (hb : bF p G s c V) (hL : mL (Q c) = true) (hx : xN s + 1 ≤ lX s.1) : xR p (am_wi G 163 36 (nI (xN s + 1))) (xOpen Q s c F V) := by
  rw [xOpen_t hL]
  exact xR.op1 h hF hb hx
theorem xR.opT2 (h : xR p G (xTell s (nI (4000 + c)) 2)) (hF : ∀ i, i < xN s → F i = if i + 1 < xN s then xF s i else xC s) (hb : bF p G s c V) (hL : mL (Q c) = true) (hx : lX s.1 < xN s + 1) : xR p (am_wi (am_wi G 163 36 (nI (xN s + 1))) 163 37 (nI (xN s + 1))) (xOpen Q s c F V) := by
  rw [xOpen_t hL]
  exact xR.op2 h hF hb hx
theorem xR.opF1 (h : xR p G s) (hF : ∀ i, i < xN s → F i = if i + 1 < xN s then xF s i else xC s) (hb : bF p G s c V) (hL : mL (Q c) = false) (hx : xN s + 1 ≤ lX s.1) : xR p (am_wi G 163 36 (nI (xN s + 1))) (xOpen Q s c F V) := by
  rw [xOpen_f hL]
  exact xR.op1 h hF hb hx
theorem xR.opF2 (h : xR p G s) (hF : ∀ i, i < xN s → F i = if i + 1 < xN s then xF s i else xC s) (hb : bF p G s c V) (hL : mL (Q c) = false) (hx : lX s.1 < xN s + 1) : xR p (am_wi (am_wi G 163 36 (nI (xN s + 1))) 163 37 (nI (xN s + 1))) (xOpen Q s c F V) := by
  rw [xOpen_f hL]
  exact xR.op2 h hF hb hx
theorem oX.b4 {n : Nat} {a b : Int32} : oX G (R_b4 G n a b) := (((oX.wi ⟨by decide, by decide⟩).tr (oX.wi ⟨by decide, by decide⟩)).tr (oX.wi ⟨by decide, by decide⟩)).tr (oX.wi ⟨by decide, by decide⟩)
theorem oX.m2 {x y : Int32} : oX G (am_wi (am_wi G 163 36 x) 163 37 y) := (oX.w3 ⟨by decide, by decide⟩).tr (oX.w3 ⟨by decide, by decide⟩)
theorem oX.m1 {x : Int32} : oX G (am_wi G 163 36 x) := oX.w3 ⟨by decide, by decide⟩
theorem xF2_t (h : mL (Q (uM (xC s))) = true) : xF2 Q s = xDown (xTell s (nI (4000 + uM (xC s))) 3) := by unfold xF2; rw [if_pos h]
theorem xF2_f (h : mL (Q (uM (xC s))) = false) : xF2 Q s = xDown s := by unfold xF2; rw [if_neg (by rw [h]; decide)]
theorem xR.f2t (h : xR p G (xTell s (nI (4000 + uM (xC s))) 3)) (hN : 1 ≤ xN s) (hL : mL (Q (uM (xC s))) = true) : xR p (am_wi G 163 36 (nI (xN s - 1))) (xF2 Q s) := by
  rw [xF2_t hL]
  exact xR.down h hN
theorem xR.f2f (h : xR p G s) (hN : 1 ≤ xN s) (hL : mL (Q (uM (xC s))) = false) : xR p (am_wi G 163 36 (nI (xN s - 1))) (xF2 Q s) := by
  rw [xF2_f hL]
  exact xR.down h hN
end Op
/-! isUnder -/
def unP (s : Nat) : Nat := if s = 5 then 1 else if s = 6 then 2 else if s = 7 then 5 else 0
def unK (s : Nat) : Nat := if s = 7 then 3 else if s = 5 ∨ s = 6 then 2 else if s = 0 then 0 else 1
theorem un_d : ∀ s, s < 8 → s ≠ 0 → unK (unP s) < unK s := by decide
theorem un_8 : ∀ s, s < 8 → unP s < 8 := by decide
theorem un_0 : ∀ u, u < 8 → und 0 u = decide (0 = u) := by decide
theorem un_s : ∀ s, s < 8 → und s s = true := by decide
theorem un_p : ∀ s, s < 8 → ∀ u, u < 8 → s ≠ 0 → s ≠ u → und s u = und (unP s) u := by decide

set_option maxRecDepth 100000 in
theorem okR_tell (w : am_W) {d : Nat} (G : am_G) (p : Nat) (s : xT) (v : Int32) (k : Nat) (hS : St0 G) (h : xR p G s) (hn : lNn s.1 < 1000000) : am_Ok w jR_tell d (0, 0) [.inr (some 163), .inl v, .inl (nI k)] G (fun r G' => r = none ∧ xR p G' (xTell s v k) ∧ oTl G G') := by
  refine am_ok_of rfl (Nat.le_of_ble_eq_true rfl) ?_
  show am_Go w jR_tell d (0, 0) 0 [some (.inr (some 163)), some (.inl v), some (.inl (nI k))] [] G _
  have tl := h.tl
  refine go_aload_n dR_tell_0 rfl rfl ?_
  refine go_getV dR_tell_1 flR_191 rfl (hS.s sh_163) (by first | assumption | (simp (disch := omega) only [wi_I, ro_I, wi_In, wi_Is]; done) | (simp (disch := omega) only [wi_I, ro_I, wi_In, wi_Is]; first | assumption | rfl) | rfl) ?_
  refine go_bipush (nI 120) (by decide) dR_tell_4 ?_
  refine go_icmp_geN (by omega) (by omega) dR_tell_6 (tgt := 24) (by decide) (fun c6 => ?_) (fun c6 => ?_)
  · refine go_aload_n dR_tell_24 rfl rfl ?_
    refine go_dup dR_tell_25 ?_
    refine go_getV dR_tell_26 flR_191 rfl (hS.s sh_163) (by first | assumption | (simp (disch := omega) only [wi_I, ro_I, wi_In, wi_Is]; done) | (simp (disch := omega) only [wi_I, ro_I, wi_In, wi_Is]; first | assumption | rfl) | rfl) ?_
    refine go_iconst (nI 1) (by decide) dR_tell_29 ?_
    first | refine go_iaddN dR_tell_30 ?_ | refine go_iadd dR_tell_30 ?_
    refine go_putI dR_tell_31 fpR_191 rfl (hS.s sh_163) ?_
    refine go_return rfl dR_tell_34 ?_
    first | (have q : lNn s.1 < 120 := c6; exact ⟨rfl, h.tellA q, oTl.a⟩) | (have q : 120 ≤ lNn s.1 := c6; exact ⟨rfl, h.tellB (Nat.not_lt.mpr q), oTl.b⟩)
  · refine go_aload_n dR_tell_9 rfl rfl ?_
    refine go_getO (a := 191) dR_tell_10 flR_92 rfl (hS.s sh_163) (hS.r rt_trace) ?_
    refine go_aload_n dR_tell_13 rfl rfl ?_
    refine go_getV dR_tell_14 flR_191 rfl (hS.s sh_163) (by first | assumption | (simp (disch := omega) only [wi_I, ro_I, wi_In, wi_Is]; done) | (simp (disch := omega) only [wi_I, ro_I, wi_In, wi_Is]; first | assumption | rfl) | rfl) ?_
    refine go_bipush (nI 16) (by decide) dR_tell_17 ?_
    refine go_iload_n dR_tell_19 rfl rfl ?_
    refine go_imul dR_tell_20 ?_
    refine go_iload_n dR_tell_21 rfl rfl ?_
    refine go_iadd dR_tell_22 ?_
    refine go_iastoreN (hS.s sh_191) (by omega) (by decide) dR_tell_23 ?_
    refine go_aload_n dR_tell_24 rfl rfl ?_
    refine go_dup dR_tell_25 ?_
    refine go_getV dR_tell_26 flR_191 rfl (hS.s sh_163) (by first | assumption | (simp (disch := omega) only [wi_I, ro_I, wi_In, wi_Is]; done) | (simp (disch := omega) only [wi_I, ro_I, wi_In, wi_Is]; first | assumption | rfl) | rfl) ?_
    refine go_iconst (nI 1) (by decide) dR_tell_29 ?_
    first | refine go_iaddN dR_tell_30 ?_ | refine go_iadd dR_tell_30 ?_
    refine go_putI dR_tell_31 fpR_191 rfl (hS.s sh_163) ?_
    refine go_return rfl dR_tell_34 ?_
    first | (have q : lNn s.1 < 120 := c6; exact ⟨rfl, h.tellA q, oTl.a⟩) | (have q : 120 ≤ lNn s.1 := c6; exact ⟨rfl, h.tellB (Nat.not_lt.mpr q), oTl.b⟩)
set_option maxRecDepth 100000 in
theorem okR_make (w : am_W) {d : Nat} (hd : 1 ≤ d) (G : am_G) (p : Nat) (s : xT) (t : Nat) (hS : St0 G) (h : xR p G s) (hM : lM s.1 < 2000) (hn : lNn s.1 < 1000000) : am_Ok w jR_make d (0, 0) [.inr (some 163), .inl (nI t)] G (fun r G' => r = some (.inl (nI (lM s.1 + 1))) ∧ xR p G' (xMake s t) ∧ oX G G') := by
  refine am_ok_of rfl (Nat.le_of_ble_eq_true rfl) ?_
  show am_Go w jR_make d (0, 0) 0 [some (.inr (some 163)), some (.inl (nI t))] [] G _
  have mm := h.mm
  refine go_aload_n dR_make_0 rfl rfl ?_
  refine go_getO (a := 182) dR_make_1 flR_65 rfl (hS.s sh_163) (hS.r rt_objectType) ?_
  refine go_aload_n dR_make_4 rfl rfl ?_
  refine go_getV dR_make_5 flR_194 rfl (hS.s sh_163) (by first | assumption | (simp (disch := omega) only [wi_I, ro_I, wi_In, wi_Is]; done) | (simp (disch := omega) only [wi_I, ro_I, wi_In, wi_Is]; first | assumption | rfl) | rfl) ?_
  refine go_iload_n dR_make_8 rfl rfl ?_
  refine go_iastoreN (hS.s sh_182) (by omega) (by decide) dR_make_9 ?_
  refine go_aload_n dR_make_10 rfl rfl ?_
  refine go_getO (a := 183) dR_make_11 flR_68 rfl (hS.s sh_163) (hS.r rt_item) ?_
  refine go_aload_n dR_make_14 rfl rfl ?_
  refine go_getV dR_make_15 flR_194 rfl (hS.s sh_163) (by first | assumption | (simp (disch := omega) only [wi_I, ro_I, wi_In, wi_Is]; done) | (simp (disch := omega) only [wi_I, ro_I, wi_In, wi_Is]; first | assumption | rfl) | rfl) ?_
  refine go_iconst (nI 0) (by decide) dR_make_18 ?_
  refine go_iastoreN (hS.s sh_183) (by omega) (by decide) dR_make_19 ?_
  refine go_aload_n dR_make_20 rfl rfl ?_
  refine go_dup dR_make_21 ?_
  refine go_getV dR_make_22 flR_194 rfl (hS.s sh_163) (by first | assumption | (simp (disch := omega) only [wi_I, ro_I, wi_In, wi_Is]; done) | (simp (disch := omega) only [wi_I, ro_I, wi_In, wi_Is]; first | assumption | rfl) | rfl) ?_
  refine go_iconst (nI 1) (by decide) dR_make_25 ?_
  first | refine go_iaddN dR_make_26 ?_ | refine go_iadd dR_make_26 ?_
  refine go_putI dR_make_27 fpR_194 rfl (hS.s sh_163) ?_
  refine go_aload_n dR_make_30 rfl rfl ?_
  refine go_iload_n dR_make_31 rfl rfl ?_
  refine go_iconst (nI 1) (by decide) dR_make_32 ?_
  refine go_cV (k' := (0, 0)) (G := am_wi (am_wi (am_wi G 182 (lM s.1) (nI t)) 183 (lM s.1) (nI 0)) 163 34 (nI (lM s.1 + 1))) dR_make_33 _ csR_197 (hS.s sh_163) rfl imR_tell seR_tell rfl (okR_tell (d := 0) w _ p (xMade s t) (nI t) 1 (by exact hS) h.made hn) (by omega) (by decide) (Nat.le_of_ble_eq_true rfl) (fun r G1 hr hn => ?_)
  obtain ⟨rfl, X1, o1⟩ := hr
  have mm1 : G1.2.1 163 34 = nI (lM s.1 + 1) := X1.mm
  have hS := o1.St (G := am_wi (am_wi (am_wi G 182 (lM s.1) (nI t)) 183 (lM s.1) (nI 0)) 163 34 (nI (lM s.1 + 1))) hS
  refine go_aload_n dR_make_36 rfl rfl ?_
  refine go_getV dR_make_37 flR_194 rfl (hS.s sh_163) (by first | assumption | (simp (disch := omega) only [wi_I, ro_I, wi_In, wi_Is]; done) | (simp (disch := omega) only [wi_I, ro_I, wi_In, wi_Is]; first | assumption | rfl) | rfl) ?_
  refine go_ireturn rfl dR_make_40 ?_
  exact ⟨rfl, X1, (((oX.wi ⟨by decide, by decide⟩).tr (oX.wi ⟨by decide, by decide⟩)).tr (oX.w3 ⟨by decide, by decide⟩)).tr o1.x⟩
set_option maxRecDepth 100000 in
theorem okR_pop (w : am_W) {d : Nat} (G : am_G) (p : Nat) (s : xT) (hN : 1 ≤ xN s) (h12 : xN s ≤ 12) (hD : 1 ≤ uD (xC s)) (hS : St0 G) (h : xR p G s) : am_Ok w jR_pop d (0, 0) [.inr (some 163)] G (fun r G' => r = some (.inl (uTop (xC s))) ∧ xR p G' (xSet s (uPop (xC s))) ∧ oX G G' ∧ ∀ i, i ≠ 187 → G'.2.1 i = G.2.1 i) := by
  refine am_ok_of rfl (Nat.le_of_ble_eq_true rfl) ?_
  show am_Go w jR_pop d (0, 0) 0 [some (.inr (some 163)), none] [] G _
  have nn := h.nn
  have dp := h.dp hN
  have d8 := h.d8 hN
  have vl := h.vl hN (d := uD (xC s) - 1) (by omega)
  refine go_aload_n dR_pop_0 rfl rfl ?_
  refine go_getV dR_pop_1 flR_200 rfl (hS.s sh_163) (by first | assumption | (simp (disch := omega) only [wi_I, ro_I, wi_In, wi_Is]; done) | (simp (disch := omega) only [wi_I, ro_I, wi_In, wi_Is]; first | assumption | rfl) | rfl) ?_
  refine go_iconst (nI 1) (by decide) dR_pop_4 ?_
  first | refine go_isubN (by omega) dR_pop_5 ?_ | refine go_isub dR_pop_5 ?_
  refine go_istore_n dR_pop_6 rfl (Nat.le_of_ble_eq_true rfl) ?_
  refine go_aload_n dR_pop_7 rfl rfl ?_
  refine go_getO (a := 187) dR_pop_8 flR_80 rfl (hS.s sh_163) (hS.r rt_fDepth) ?_
  refine go_iload_n dR_pop_11 rfl rfl ?_
  refine go_dup2 dR_pop_12 ?_
  first | refine go_ialV (hS.s sh_187) (by omega) (by decide) (by assumption) dR_pop_13 ?_ | refine go_ialoadN (hS.s sh_187) (by omega) (by decide) dR_pop_13 ?_
  refine go_iconst (nI 1) (by decide) dR_pop_14 ?_
  first | refine go_isubN (by omega) dR_pop_15 ?_ | refine go_isub dR_pop_15 ?_
  refine go_iastoreN (hS.s sh_187) (by omega) (by decide) dR_pop_16 ?_
  refine go_aload_n dR_pop_17 rfl rfl ?_
  refine go_getO (a := 189) dR_pop_18 flR_86 rfl (hS.s sh_163) (hS.r rt_value) ?_
  refine go_bipush (nI 8) (by decide) dR_pop_21 ?_
  refine go_iload_n dR_pop_23 rfl rfl ?_
  first | refine go_imulN dR_pop_24 ?_ | refine go_imul dR_pop_24 ?_
  refine go_aload_n dR_pop_25 rfl rfl ?_
  refine go_getO (a := 187) dR_pop_26 flR_80 rfl (hS.s sh_163) (hS.r rt_fDepth) ?_
  refine go_iload_n dR_pop_29 rfl rfl ?_
  refine go_ialV (hS.s sh_187) (by omega) (by decide) wi_Is dR_pop_30 ?_
  first | refine go_iaddN dR_pop_31 ?_ | refine go_iadd dR_pop_31 ?_
  refine go_ialV (hS.s sh_189) (by omega) (by decide) (wi_V (by decide) vl) dR_pop_32 ?_
  refine go_ireturn rfl dR_pop_33 ?_
  exact ⟨rfl, h.pop hN, oX.wi ⟨by decide, by decide⟩, fun i hi => wi_I hi⟩
set_option maxRecDepth 100000 in
theorem okR_give (w : am_W) {d : Nat} (G : am_G) (p : Nat) (s : xT) (hN : 1 ≤ xN s) (h12 : xN s ≤ 12) (v : Int32) (h8 : uD (xC s) < 8) (hS : St0 G) (h : xR p G s) : am_Ok w jR_give d (0, 0) [.inr (some 163), .inl v] G (fun r G' => r = none ∧ xR p G' (xSet s (uPush (xC s) v)) ∧ oX G G') := by
  refine am_ok_of rfl (Nat.le_of_ble_eq_true rfl) ?_
  show am_Go w jR_give d (0, 0) 0 [some (.inr (some 163)), some (.inl v), none] [] G _
  have nn := h.nn
  have dp := h.dp hN
  have d8 := h.d8 hN
  refine go_aload_n dR_give_0 rfl rfl ?_
  refine go_getV dR_give_1 flR_200 rfl (hS.s sh_163) (by first | assumption | (simp (disch := omega) only [wi_I, ro_I, wi_In, wi_Is]; done) | (simp (disch := omega) only [wi_I, ro_I, wi_In, wi_Is]; first | assumption | rfl) | rfl) ?_
  refine go_iconst (nI 1) (by decide) dR_give_4 ?_
  first | refine go_isubN (by omega) dR_give_5 ?_ | refine go_isub dR_give_5 ?_
  refine go_istore_n dR_give_6 rfl (Nat.le_of_ble_eq_true rfl) ?_
  refine go_aload_n dR_give_7 rfl rfl ?_
  refine go_getO (a := 189) dR_give_8 flR_86 rfl (hS.s sh_163) (hS.r rt_value) ?_
  refine go_bipush (nI 8) (by decide) dR_give_11 ?_
  refine go_iload_n dR_give_13 rfl rfl ?_
  first | refine go_imulN dR_give_14 ?_ | refine go_imul dR_give_14 ?_
  refine go_aload_n dR_give_15 rfl rfl ?_
  refine go_getO (a := 187) dR_give_16 flR_80 rfl (hS.s sh_163) (hS.r rt_fDepth) ?_
  refine go_iload_n dR_give_19 rfl rfl ?_
  first | refine go_ialV (hS.s sh_187) (by omega) (by decide) (by assumption) dR_give_20 ?_ | refine go_ialoadN (hS.s sh_187) (by omega) (by decide) dR_give_20 ?_
  first | refine go_iaddN dR_give_21 ?_ | refine go_iadd dR_give_21 ?_
  refine go_iload_n dR_give_22 rfl rfl ?_
  refine go_iastoreN (hS.s sh_189) (by omega) (by decide) dR_give_23 ?_
  refine go_aload_n dR_give_24 rfl rfl ?_
  refine go_getO (a := 187) dR_give_25 flR_80 rfl (hS.s sh_163) (hS.r rt_fDepth) ?_
  refine go_iload_n dR_give_28 rfl rfl ?_
  refine go_dup2 dR_give_29 ?_
  refine go_ialV (hS.s sh_187) (by omega) (by decide) (wi_V (by decide) dp) dR_give_30 ?_
  refine go_iconst (nI 1) (by decide) dR_give_31 ?_
  first | refine go_iaddN dR_give_32 ?_ | refine go_iadd dR_give_32 ?_
  refine go_iastoreN (hS.s sh_187) (by omega) (by decide) dR_give_33 ?_
  refine go_return rfl dR_give_34 ?_
  exact ⟨rfl, h.push hN h8, (oX.wi ⟨by decide, by decide⟩).tr (oX.wi ⟨by decide, by decide⟩)⟩
set_option maxRecDepth 100000 in
theorem R_un (w : am_W) {d : Nat} (G : am_G) (u : Nat) (hu : u < 8) (l0 : Option am_V) : ∀ (n t : Nat), t < 8 → unK t ≤ n → am_Go w jR_isUnder d (0, 0) 2 [l0, some (.inl (nI u)), some (.inl (nI t))] [] G (fun r G' => r = some (.inl (am_b (und t u))) ∧ G' = G) := by
  intro n
  induction n with
  | zero =>
    intro t ht hk
    refine go_iload_n dR_isUnder_2 rfl rfl ?_
    refine go_if_eqN (by omega) dR_isUnder_3 (tgt := 45) (by decide) (fun c3 => ?_) (fun c3 => ?_)
    · subst c3
      refine go_iload_n dR_isUnder_45 rfl rfl ?_
      refine go_iload_n dR_isUnder_46 rfl rfl ?_
      refine go_icmp_neN (by omega) (by omega) dR_isUnder_47 (tgt := 54) (by decide) (fun c47 => ?_) (fun c47 => ?_)
      · refine go_iconst (am_b false) (by decide) dR_isUnder_54 ?_
        refine go_zreturn rfl (am_b_01 _) dR_isUnder_55 ?_
        exact ⟨by rw [un_0 u hu, decide_eq_false c47], rfl⟩
      · refine go_iconst (am_b true) (by decide) dR_isUnder_50 ?_
        refine go_goto dR_isUnder_51 (tgt := 55) (by decide) ?_
        refine go_zreturn rfl (am_b_01 _) dR_isUnder_55 ?_
        exact ⟨by rw [un_0 u hu, decide_eq_true c47], rfl⟩
    · exact absurd hk (by have := un_d t ht c3; omega)
  | succ n ih =>
    intro t ht hk
    refine go_iload_n dR_isUnder_2 rfl rfl ?_
    refine go_if_eqN (by omega) dR_isUnder_3 (tgt := 45) (by decide) (fun c3 => ?_) (fun c3 => ?_)
    · subst c3
      refine go_iload_n dR_isUnder_45 rfl rfl ?_
      refine go_iload_n dR_isUnder_46 rfl rfl ?_
      refine go_icmp_neN (by omega) (by omega) dR_isUnder_47 (tgt := 54) (by decide) (fun c47 => ?_) (fun c47 => ?_)
      · refine go_iconst (am_b false) (by decide) dR_isUnder_54 ?_
        refine go_zreturn rfl (am_b_01 _) dR_isUnder_55 ?_
        exact ⟨by rw [un_0 u hu, decide_eq_false c47], rfl⟩
      · refine go_iconst (am_b true) (by decide) dR_isUnder_50 ?_
        refine go_goto dR_isUnder_51 (tgt := 55) (by decide) ?_
        refine go_zreturn rfl (am_b_01 _) dR_isUnder_55 ?_
        exact ⟨by rw [un_0 u hu, decide_eq_true c47], rfl⟩
    · refine go_iload_n dR_isUnder_6 rfl rfl ?_
      refine go_iload_n dR_isUnder_7 rfl rfl ?_
      refine go_icmp_eqN (by omega) (by omega) dR_isUnder_8 (tgt := 45) (by decide) (fun c8 => ?_) (fun c8 => ?_)
      · subst c8
        refine go_iload_n dR_isUnder_45 rfl rfl ?_
        refine go_iload_n dR_isUnder_46 rfl rfl ?_
        refine go_icmp_neN (by omega) (by omega) dR_isUnder_47 (tgt := 54) (by decide) (fun c47 => absurd rfl c47) (fun c47 => ?_)
        refine go_iconst (am_b true) (by decide) dR_isUnder_50 ?_
        refine go_goto dR_isUnder_51 (tgt := 55) (by decide) ?_
        refine go_zreturn rfl (am_b_01 _) dR_isUnder_55 ?_
        exact ⟨by rw [un_s t ht], rfl⟩
      · have hw : ∀ q, q = unP t → am_Go w jR_isUnder d (0, 0) 41 [l0, some (.inl (nI u)), some (.inl (nI t))] [.inl (nI q)] G (fun r G' => r = some (.inl (am_b (und t u))) ∧ G' = G) := fun q hq => by
          subst hq
          refine go_istore_n dR_isUnder_41 rfl (Nat.le_of_ble_eq_true rfl) ?_
          refine go_goto dR_isUnder_42 (tgt := 2) (by decide) ?_
          rw [un_p t ht u hu c3 c8]
          exact ih (unP t) (un_8 t ht) (by have := un_d t ht c3; omega)
        refine go_iload_n dR_isUnder_11 rfl rfl ?_
        refine go_iconst (nI 5) (by decide) dR_isUnder_12 ?_
        refine go_icmp_neN (by omega) (by omega) dR_isUnder_13 (tgt := 20) (by decide) (fun c13 => ?_) (fun c13 => ?_)
        · refine go_iload_n dR_isUnder_20 rfl rfl ?_
          refine go_bipush (nI 6) (by decide) dR_isUnder_21 ?_
          refine go_icmp_neN (by omega) (by omega) dR_isUnder_23 (tgt := 30) (by decide) (fun c23 => ?_) (fun c23 => ?_)
          · refine go_iload_n dR_isUnder_30 rfl rfl ?_
            refine go_bipush (nI 7) (by decide) dR_isUnder_31 ?_
            refine go_icmp_neN (by omega) (by omega) dR_isUnder_33 (tgt := 40) (by decide) (fun c33 => ?_) (fun c33 => ?_)
            · refine go_iconst (nI 0) (by decide) dR_isUnder_40 ?_
              first | exact hw _ (by rw [c13]; rfl) | exact hw _ (by rw [c23]; rfl) | exact hw _ (by rw [c33]; rfl) | exact hw 0 (by unfold unP; rw [if_neg c13, if_neg c23, if_neg c33])
            · refine go_iconst (nI 5) (by decide) dR_isUnder_36 ?_
              refine go_goto dR_isUnder_37 (tgt := 41) (by decide) ?_
              first | exact hw _ (by rw [c13]; rfl) | exact hw _ (by rw [c23]; rfl) | exact hw _ (by rw [c33]; rfl) | exact hw 0 (by unfold unP; rw [if_neg c13, if_neg c23, if_neg c33])
          · refine go_iconst (nI 2) (by decide) dR_isUnder_26 ?_
            refine go_goto dR_isUnder_27 (tgt := 41) (by decide) ?_
            first | exact hw _ (by rw [c13]; rfl) | exact hw _ (by rw [c23]; rfl) | exact hw _ (by rw [c33]; rfl) | exact hw 0 (by unfold unP; rw [if_neg c13, if_neg c23, if_neg c33])
        · refine go_iconst (nI 1) (by decide) dR_isUnder_16 ?_
          refine go_goto dR_isUnder_17 (tgt := 41) (by decide) ?_
          first | exact hw _ (by rw [c13]; rfl) | exact hw _ (by rw [c23]; rfl) | exact hw _ (by rw [c33]; rfl) | exact hw 0 (by unfold unP; rw [if_neg c13, if_neg c23, if_neg c33])
set_option maxRecDepth 100000 in
theorem okR_isUnder (w : am_W) {d : Nat} (G : am_G) (t u : Nat) (ht : t < 8) (hu : u < 8) : am_Ok w jR_isUnder d (0, 0) [.inl (nI t), .inl (nI u)] G (fun r G' => r = some (.inl (am_b (und t u))) ∧ G' = G) := by
  refine am_ok_of rfl (Nat.le_of_ble_eq_true rfl) ?_
  show am_Go w jR_isUnder d (0, 0) 0 [some (.inl (nI t)), some (.inl (nI u)), none] [] G _
  refine go_iload_n dR_isUnder_0 rfl rfl ?_
  refine go_istore_n dR_isUnder_1 rfl (Nat.le_of_ble_eq_true rfl) ?_
  exact R_un w G u hu _ (unK t) t ht (Nat.le_refl _)
set_option maxRecDepth 100000 in
theorem okR_begin (w : am_W) {d : Nat} (hd : 1 ≤ d) (G : am_G) (p c : Nat) (s : xT) (Q : Nat → mT) (F : Nat → uT) (V : Nat → Option Int32) (hp : p < 2) (hc : c < 6) (hN : xN s < 12) (hX : lX s.1 ≤ 12) (hn : lNn s.1 < 1000000) (hS : St0 G) (h : xR p G s) (hR : hldR G p Q) (hF : ∀ i, i < xN s → F i = if i + 1 < xN s then xF s i else xC s) (hV : ∀ a, a < 8 → ∀ v, V a = some v → G.2.1 190 (8 * xN s + a) = v) : am_Ok w jR_begin d (0, 0) [.inr (some 163), .inl (nI (6 * p + c))] G (fun r G' => r = none ∧ xR p G' (xOpen Q s c F V) ∧ oX G G') := by
  refine am_ok_of rfl (Nat.le_of_ble_eq_true rfl) ?_
  show am_Go w jR_begin d (0, 0) 0 [some (.inr (some 163)), some (.inl (nI (6 * p + c)))] [] G _
  have nn := h.nn
  have hh := h.hh
  have ms := h.ms
  have lk := (hR c hc).1.1.2.2.2
  refine go_aload_n dR_begin_0 rfl rfl ?_
  refine go_getO (a := 185) dR_begin_1 flR_74 rfl (hS.s sh_163) (hS.r rt_fMethod) ?_
  refine go_aload_n dR_begin_4 rfl rfl ?_
  refine go_getV dR_begin_5 flR_200 rfl (hS.s sh_163) (by first | assumption | (simp (disch := omega) only [wi_I, ro_I, wi_In, wi_Is]; done) | (simp (disch := omega) only [wi_I, ro_I, wi_In, wi_Is]; first | assumption | rfl) | rfl) ?_
  refine go_iload_n dR_begin_8 rfl rfl ?_
  refine go_iastoreN (hS.s sh_185) (by omega) (by decide) dR_begin_9 ?_
  refine go_aload_n dR_begin_10 rfl rfl ?_
  refine go_getO (a := 186) dR_begin_11 flR_77 rfl (hS.s sh_163) (hS.r rt_fPlace) ?_
  refine go_aload_n dR_begin_14 rfl rfl ?_
  refine go_getV dR_begin_15 flR_200 rfl (hS.s sh_163) (by first | assumption | (simp (disch := omega) only [wi_I, ro_I, wi_In, wi_Is]; done) | (simp (disch := omega) only [wi_I, ro_I, wi_In, wi_Is]; first | assumption | rfl) | rfl) ?_
  refine go_iconst (nI 0) (by decide) dR_begin_18 ?_
  refine go_iastoreN (hS.s sh_186) (by omega) (by decide) dR_begin_19 ?_
  refine go_aload_n dR_begin_20 rfl rfl ?_
  refine go_getO (a := 187) dR_begin_21 flR_80 rfl (hS.s sh_163) (hS.r rt_fDepth) ?_
  refine go_aload_n dR_begin_24 rfl rfl ?_
  refine go_getV dR_begin_25 flR_200 rfl (hS.s sh_163) (by first | assumption | (simp (disch := omega) only [wi_I, ro_I, wi_In, wi_Is]; done) | (simp (disch := omega) only [wi_I, ro_I, wi_In, wi_Is]; first | assumption | rfl) | rfl) ?_
  refine go_iconst (nI 0) (by decide) dR_begin_28 ?_
  refine go_iastoreN (hS.s sh_187) (by omega) (by decide) dR_begin_29 ?_
  refine go_aload_n dR_begin_30 rfl rfl ?_
  refine go_getO (a := 188) dR_begin_31 flR_83 rfl (hS.s sh_163) (hS.r rt_fBase) ?_
  refine go_aload_n dR_begin_34 rfl rfl ?_
  refine go_getV dR_begin_35 flR_200 rfl (hS.s sh_163) (by first | assumption | (simp (disch := omega) only [wi_I, ro_I, wi_In, wi_Is]; done) | (simp (disch := omega) only [wi_I, ro_I, wi_In, wi_Is]; first | assumption | rfl) | rfl) ?_
  refine go_aload_n dR_begin_38 rfl rfl ?_
  refine go_getV dR_begin_39 flR_203 rfl (hS.s sh_163) (by first | assumption | (simp (disch := omega) only [wi_I, ro_I, wi_In, wi_Is]; done) | (simp (disch := omega) only [wi_I, ro_I, wi_In, wi_Is]; first | assumption | rfl) | rfl) ?_
  refine go_iastoreN (hS.s sh_188) (by omega) (by decide) dR_begin_42 ?_
  have X4 : xR p (R_b4 G (xN s) (nI (6 * p + c)) (nI (xH s))) s := h.b4
  have B4 : bF p (R_b4 G (xN s) (nI (6 * p + c)) (nI (xH s))) s c V := bF.b4 hV
  have o4 : oX G (R_b4 G (xN s) (nI (6 * p + c)) (nI (xH s))) := oX.b4
  have lk4 : (R_b4 G (xN s) (nI (6 * p + c)) (nI (xH s))).2.1 174 (6 * p + c) = am_b (mL (Q c)) := by rw [o4.1.2.2 174 (by omega)]; exact lk
  have hS4 : St0 (R_b4 G (xN s) (nI (6 * p + c)) (nI (xH s))) := hS
  change am_Go w jR_begin d (0, 0) 43 _ _ (R_b4 G (xN s) (nI (6 * p + c)) (nI (xH s))) _
  generalize R_b4 G (xN s) (nI (6 * p + c)) (nI (xH s)) = G4 at *
  have nn4 := X4.nn
  have ms4 := X4.ms
  have hS := hS4
  refine go_aload_n dR_begin_43 rfl rfl ?_
  refine go_getO (a := 174) dR_begin_44 flR_40 rfl (hS.s sh_163) (hS.r rt_locked) ?_
  refine go_iload_n dR_begin_47 rfl rfl ?_
  refine go_balV (hS.s sh_174) (by omega) (by decide) lk4 dR_begin_48 ?_
  refine go_if_eqB dR_begin_49 (tgt := 65) (by decide) (fun c49 => ?_) (fun c49 => ?_)
  · refine go_aload_n dR_begin_65 rfl rfl ?_
    refine go_dup dR_begin_66 ?_
    refine go_getV dR_begin_67 flR_200 rfl (hS.s sh_163) (by first | assumption | (simp (disch := omega) only [wi_I, ro_I, wi_In, wi_Is]; done) | (simp (disch := omega) only [wi_I, ro_I, wi_In, wi_Is]; first | assumption | rfl) | rfl) ?_
    refine go_iconst (nI 1) (by decide) dR_begin_70 ?_
    first | refine go_iaddN dR_begin_71 ?_ | refine go_iadd dR_begin_71 ?_
    refine go_putI dR_begin_72 fpR_200 rfl (hS.s sh_163) ?_
    refine go_aload_n dR_begin_75 rfl rfl ?_
    refine go_getV dR_begin_76 flR_200 rfl (hS.s sh_163) (by first | assumption | (simp (disch := omega) only [wi_I, ro_I, wi_In, wi_Is]; done) | (simp (disch := omega) only [wi_I, ro_I, wi_In, wi_Is]; first | assumption | rfl) | rfl) ?_
    refine go_aload_n dR_begin_79 rfl rfl ?_
    refine go_getV dR_begin_80 flR_206 rfl (hS.s sh_163) (by first | assumption | (simp (disch := omega) only [wi_I, ro_I, wi_In, wi_Is]; done) | (simp (disch := omega) only [wi_I, ro_I, wi_In, wi_Is]; first | assumption | rfl) | rfl) ?_
    refine go_icmp_leN (by omega) (by omega) dR_begin_83 (tgt := 94) (by decide) (fun c83 => ?_) (fun c83 => ?_)
    · refine go_return rfl dR_begin_94 ?_
      first | (have q := X4.opF1 hF B4 c49 c83; exact ⟨rfl, q, o4.tr oX.m1⟩) | (have q := X4.opF2 hF B4 c49 c83; exact ⟨rfl, q, o4.tr oX.m2⟩) | (have q := X1.opT1 hF B1 c49 c83; exact ⟨rfl, q, (o4.tr o1.x).tr oX.m1⟩) | (have q := X1.opT2 hF B1 c49 c83; exact ⟨rfl, q, (o4.tr o1.x).tr oX.m2⟩)
    · refine go_aload_n dR_begin_86 rfl rfl ?_
      refine go_aload_n dR_begin_87 rfl rfl ?_
      refine go_getV dR_begin_88 flR_200 rfl (hS.s sh_163) (by first | assumption | (simp (disch := omega) only [wi_I, ro_I, wi_In, wi_Is]; done) | (simp (disch := omega) only [wi_I, ro_I, wi_In, wi_Is]; first | assumption | rfl) | rfl) ?_
      refine go_putI dR_begin_91 fpR_206 rfl (hS.s sh_163) ?_
      refine go_return rfl dR_begin_94 ?_
      first | (have q := X4.opF1 hF B4 c49 c83; exact ⟨rfl, q, o4.tr oX.m1⟩) | (have q := X4.opF2 hF B4 c49 c83; exact ⟨rfl, q, o4.tr oX.m2⟩) | (have q := X1.opT1 hF B1 c49 c83; exact ⟨rfl, q, (o4.tr o1.x).tr oX.m1⟩) | (have q := X1.opT2 hF B1 c49 c83; exact ⟨rfl, q, (o4.tr o1.x).tr oX.m2⟩)
  · refine go_aload_n dR_begin_52 rfl rfl ?_
    refine go_sipush (nI 4000) (by decide) dR_begin_53 ?_
    refine go_iload_n dR_begin_56 rfl rfl ?_
    refine go_bipush (nI 6) (by decide) dR_begin_57 ?_
    refine go_irem (by decide) dR_begin_59 ?_
    rw [q_rem _ (by omega), show (6 * p + c) % 6 = c by omega]
    first | refine go_iaddN dR_begin_60 ?_ | refine go_iadd dR_begin_60 ?_
    refine go_iconst (nI 2) (by decide) dR_begin_61 ?_
    refine go_cV (k' := (0, 0)) dR_begin_62 _ csR_197 (hS.s sh_163) rfl imR_tell seR_tell rfl (okR_tell (d := 0) w G4 p s (nI (4000 + c)) 2 hS4 X4 hn) (by omega) (by decide) (Nat.le_of_ble_eq_true rfl) (fun r G1 hr hn => ?_)
    obtain ⟨rfl, X1, o1⟩ := hr
    have B1 := B4.tl o1
    have nn1 : G1.2.1 163 36 = nI (xN s) := X1.nn
    have ms1 : G1.2.1 163 37 = nI (lX s.1) := X1.ms
    have hS := o1.St hS4
    refine go_aload_n dR_begin_65 rfl rfl ?_
    refine go_dup dR_begin_66 ?_
    refine go_getV dR_begin_67 flR_200 rfl (hS.s sh_163) (by first | assumption | (simp (disch := omega) only [wi_I, ro_I, wi_In, wi_Is]; done) | (simp (disch := omega) only [wi_I, ro_I, wi_In, wi_Is]; first | assumption | rfl) | rfl) ?_
    refine go_iconst (nI 1) (by decide) dR_begin_70 ?_
    first | refine go_iaddN dR_begin_71 ?_ | refine go_iadd dR_begin_71 ?_
    refine go_putI dR_begin_72 fpR_200 rfl (hS.s sh_163) ?_
    refine go_aload_n dR_begin_75 rfl rfl ?_
    refine go_getV dR_begin_76 flR_200 rfl (hS.s sh_163) (by first | assumption | (simp (disch := omega) only [wi_I, ro_I, wi_In, wi_Is]; done) | (simp (disch := omega) only [wi_I, ro_I, wi_In, wi_Is]; first | assumption | rfl) | rfl) ?_
    refine go_aload_n dR_begin_79 rfl rfl ?_
    refine go_getV dR_begin_80 flR_206 rfl (hS.s sh_163) (by first | assumption | (simp (disch := omega) only [wi_I, ro_I, wi_In, wi_Is]; done) | (simp (disch := omega) only [wi_I, ro_I, wi_In, wi_Is]; first | assumption | rfl) | rfl) ?_
    refine go_icmp_leN (by omega) (by omega) dR_begin_83 (tgt := 94) (by decide) (fun c83 => ?_) (fun c83 => ?_)
    · refine go_return rfl dR_begin_94 ?_
      first | (have q := X4.opF1 hF B4 c49 c83; exact ⟨rfl, q, o4.tr oX.m1⟩) | (have q := X4.opF2 hF B4 c49 c83; exact ⟨rfl, q, o4.tr oX.m2⟩) | (have q := X1.opT1 hF B1 c49 c83; exact ⟨rfl, q, (o4.tr o1.x).tr oX.m1⟩) | (have q := X1.opT2 hF B1 c49 c83; exact ⟨rfl, q, (o4.tr o1.x).tr oX.m2⟩)
    · refine go_aload_n dR_begin_86 rfl rfl ?_
      refine go_aload_n dR_begin_87 rfl rfl ?_
      refine go_getV dR_begin_88 flR_200 rfl (hS.s sh_163) (by first | assumption | (simp (disch := omega) only [wi_I, ro_I, wi_In, wi_Is]; done) | (simp (disch := omega) only [wi_I, ro_I, wi_In, wi_Is]; first | assumption | rfl) | rfl) ?_
      refine go_putI dR_begin_91 fpR_206 rfl (hS.s sh_163) ?_
      refine go_return rfl dR_begin_94 ?_
      first | (have q := X4.opF1 hF B4 c49 c83; exact ⟨rfl, q, o4.tr oX.m1⟩) | (have q := X4.opF2 hF B4 c49 c83; exact ⟨rfl, q, o4.tr oX.m2⟩) | (have q := X1.opT1 hF B1 c49 c83; exact ⟨rfl, q, (o4.tr o1.x).tr oX.m1⟩) | (have q := X1.opT2 hF B1 c49 c83; exact ⟨rfl, q, (o4.tr o1.x).tr oX.m2⟩)
set_option maxRecDepth 100000 in
theorem R_f2 (w : am_W) {d : Nat} (hd : 1 ≤ d) (G0 G : am_G) (p o : Nat) (s : xT) (Q : Nat → mT) (l1 l4 : Option am_V) (hp : p < 2) (hN : 1 ≤ xN s) (h12 : xN s ≤ 12) (hm : uM (xC s) < 6) (hn : lNn s.1 < 1000000) (hS : St0 G) (h : xR p G s) (hR : hldR G p Q) (ho : oX G0 G) : am_Go w jR_finish d (0, 0) 86 [some (.inr (some 163)), l1, some (.inl (nI (xN s - 1))), some (.inl (nI o)), l4] [] G (fun r G' => r = some (.inl (nI o)) ∧ xR p G' (xF2 Q s) ∧ oX G0 G') := by
  have nn := h.nn
  have mt := h.m hN
  have lk := (hR _ hm).1.1.2.2.2
  refine go_aload_n dR_finish_86 rfl rfl ?_
  refine go_getO (a := 174) dR_finish_87 flR_40 rfl (hS.s sh_163) (hS.r rt_locked) ?_
  refine go_aload_n dR_finish_90 rfl rfl ?_
  refine go_getO (a := 185) dR_finish_91 flR_74 rfl (hS.s sh_163) (hS.r rt_fMethod) ?_
  refine go_iload_n dR_finish_94 rfl rfl ?_
  first | refine go_ialV (hS.s sh_185) (by omega) (by decide) (by assumption) dR_finish_95 ?_ | refine go_ialoadN (hS.s sh_185) (by omega) (by decide) dR_finish_95 ?_
  refine go_balV (hS.s sh_174) (by omega) (by decide) lk dR_finish_96 ?_
  refine go_if_eqB dR_finish_97 (tgt := 118) (by decide) (fun c97 => ?_) (fun c97 => ?_)
  · refine go_aload_n dR_finish_118 rfl rfl ?_
    refine go_dup dR_finish_119 ?_
    refine go_getV dR_finish_120 flR_200 rfl (hS.s sh_163) (by first | assumption | (simp (disch := omega) only [wi_I, ro_I, wi_In, wi_Is]; done) | (simp (disch := omega) only [wi_I, ro_I, wi_In, wi_Is]; first | assumption | rfl) | rfl) ?_
    refine go_iconst (nI 1) (by decide) dR_finish_123 ?_
    first | refine go_isubN (by omega) dR_finish_124 ?_ | refine go_isub dR_finish_124 ?_
    refine go_putI dR_finish_125 fpR_200 rfl (hS.s sh_163) ?_
    refine go_iload_n dR_finish_128 rfl rfl ?_
    refine go_ireturn rfl dR_finish_129 ?_
    first | (have q := h.f2f hN c97; exact ⟨rfl, q, ho.tr oX.m1⟩) | (have q := X1.f2t hN c97; exact ⟨rfl, q, (ho.tr o1.x).tr oX.m1⟩)
  · refine go_aload_n dR_finish_100 rfl rfl ?_
    refine go_sipush (nI 4000) (by decide) dR_finish_101 ?_
    refine go_aload_n dR_finish_104 rfl rfl ?_
    refine go_getO (a := 185) dR_finish_105 flR_74 rfl (hS.s sh_163) (hS.r rt_fMethod) ?_
    refine go_iload_n dR_finish_108 rfl rfl ?_
    first | refine go_ialV (hS.s sh_185) (by omega) (by decide) (by assumption) dR_finish_109 ?_ | refine go_ialoadN (hS.s sh_185) (by omega) (by decide) dR_finish_109 ?_
    refine go_bipush (nI 6) (by decide) dR_finish_110 ?_
    refine go_irem (by decide) dR_finish_112 ?_
    rw [q_rem _ (by omega), show (6 * p + uM (xC s)) % 6 = uM (xC s) by omega]
    first | refine go_iaddN dR_finish_113 ?_ | refine go_iadd dR_finish_113 ?_
    refine go_iconst (nI 3) (by decide) dR_finish_114 ?_
    refine go_cV (k' := (0, 0)) dR_finish_115 _ csR_197 (hS.s sh_163) rfl imR_tell seR_tell rfl (okR_tell (d := 0) w G p s (nI (4000 + uM (xC s))) 3 hS h hn) (by omega) (by decide) (Nat.le_of_ble_eq_true rfl) (fun r G1 hr hn => ?_)
    obtain ⟨rfl, X1, o1⟩ := hr
    have nn1 : G1.2.1 163 36 = nI (xN s) := X1.nn
    have hS := o1.St hS
    refine go_aload_n dR_finish_118 rfl rfl ?_
    refine go_dup dR_finish_119 ?_
    refine go_getV dR_finish_120 flR_200 rfl (hS.s sh_163) (by first | assumption | (simp (disch := omega) only [wi_I, ro_I, wi_In, wi_Is]; done) | (simp (disch := omega) only [wi_I, ro_I, wi_In, wi_Is]; first | assumption | rfl) | rfl) ?_
    refine go_iconst (nI 1) (by decide) dR_finish_123 ?_
    first | refine go_isubN (by omega) dR_finish_124 ?_ | refine go_isub dR_finish_124 ?_
    refine go_putI dR_finish_125 fpR_200 rfl (hS.s sh_163) ?_
    refine go_iload_n dR_finish_128 rfl rfl ?_
    refine go_ireturn rfl dR_finish_129 ?_
    first | (have q := h.f2f hN c97; exact ⟨rfl, q, ho.tr oX.m1⟩) | (have q := X1.f2t hN c97; exact ⟨rfl, q, (ho.tr o1.x).tr oX.m1⟩)
set_option maxRecDepth 100000 in
theorem R_f1 (w : am_W) {d : Nat} {P : Option am_V → am_G → Prop} (hd : 1 ≤ d) (G0 : am_G) (p : Nat) (l1 l3 l4 : Option am_V) :
    ∀ (r : Nat) (s : xT) (G : am_G), xH s - uB (xC s) = r → 1 ≤ xN s → xN s ≤ 12 → xH s ≤ 1000 → uB (xC s) ≤ 1000 → lNn s.1 + r < 1000000 → St0 G → xR p G s → oX G0 G → (∀ (X : am_G), St0 X → xR p X (xLeft r s) → oX G0 X → am_Go w jR_finish d (0, 0) 69 [some (.inr (some 163)), l1, some (.inl (nI (xN s - 1))), l3, l4] [] X P) → am_Go w jR_finish d (0, 0) 29 [some (.inr (some 163)), l1, some (.inl (nI (xN s - 1))), l3, l4] [] G P := by
  intro r
  induction r with
  | zero =>
    intro s G hr hN h12 hH hB hn hS h ho K
    have hh := h.hh
    have bs := h.bs hN
    refine go_aload_n dR_finish_29 rfl rfl ?_
    refine go_getV dR_finish_30 flR_203 rfl (hS.s sh_163) (by first | assumption | (simp (disch := omega) only [wi_I, ro_I, wi_In, wi_Is]; done) | (simp (disch := omega) only [wi_I, ro_I, wi_In, wi_Is]; first | assumption | rfl) | rfl) ?_
    refine go_aload_n dR_finish_33 rfl rfl ?_
    refine go_getO (a := 188) dR_finish_34 flR_83 rfl (hS.s sh_163) (hS.r rt_fBase) ?_
    refine go_iload_n dR_finish_37 rfl rfl ?_
    first | refine go_ialV (hS.s sh_188) (by omega) (by decide) (by assumption) dR_finish_38 ?_ | refine go_ialoadN (hS.s sh_188) (by omega) (by decide) dR_finish_38 ?_
    refine go_icmp_leN (by omega) (by omega) dR_finish_39 (tgt := 69) (by decide) (fun c1 => ?_) (fun c1 => absurd c1 (by omega))
    exact K G hS h ho
  | succ r ih =>
    intro s G hr hN h12 hH hB hn hS h ho K
    have hh := h.hh
    have bs := h.bs hN
    have lk := h.lk (k := xH s - 1) (by omega)
    refine go_aload_n dR_finish_29 rfl rfl ?_
    refine go_getV dR_finish_30 flR_203 rfl (hS.s sh_163) (by first | assumption | (simp (disch := omega) only [wi_I, ro_I, wi_In, wi_Is]; done) | (simp (disch := omega) only [wi_I, ro_I, wi_In, wi_Is]; first | assumption | rfl) | rfl) ?_
    refine go_aload_n dR_finish_33 rfl rfl ?_
    refine go_getO (a := 188) dR_finish_34 flR_83 rfl (hS.s sh_163) (hS.r rt_fBase) ?_
    refine go_iload_n dR_finish_37 rfl rfl ?_
    first | refine go_ialV (hS.s sh_188) (by omega) (by decide) (by assumption) dR_finish_38 ?_ | refine go_ialoadN (hS.s sh_188) (by omega) (by decide) dR_finish_38 ?_
    refine go_icmp_leN (by omega) (by omega) dR_finish_39 (tgt := 69) (by decide) (fun c1 => absurd c1 (by omega)) (fun c1 => ?_)
    refine go_aload_n dR_finish_42 rfl rfl ?_
    refine go_dup dR_finish_43 ?_
    refine go_getV dR_finish_44 flR_203 rfl (hS.s sh_163) (by first | assumption | (simp (disch := omega) only [wi_I, ro_I, wi_In, wi_Is]; done) | (simp (disch := omega) only [wi_I, ro_I, wi_In, wi_Is]; first | assumption | rfl) | rfl) ?_
    refine go_iconst (nI 1) (by decide) dR_finish_47 ?_
    first | refine go_isubN (by omega) dR_finish_48 ?_ | refine go_isub dR_finish_48 ?_
    refine go_putI dR_finish_49 fpR_203 rfl (hS.s sh_163) ?_
    refine go_aload_n dR_finish_52 rfl rfl ?_
    refine go_aload_n dR_finish_53 rfl rfl ?_
    refine go_getO (a := 184) dR_finish_54 flR_71 rfl (hS.s sh_163) (hS.r rt_entered) ?_
    refine go_aload_n dR_finish_57 rfl rfl ?_
    refine go_getV dR_finish_58 flR_203 rfl (hS.s sh_163) (by first | assumption | (simp (disch := omega) only [wi_I, ro_I, wi_In, wi_Is]; done) | (simp (disch := omega) only [wi_I, ro_I, wi_In, wi_Is]; first | assumption | rfl) | rfl) ?_
    refine go_ialV (hS.s sh_184) (by omega) (by decide) (wi_V (by decide) lk) dR_finish_61 ?_
    refine go_iconst (nI 3) (by decide) dR_finish_62 ?_
    refine go_cV (k' := (0, 0)) (G := am_wi G 163 35 (nI (xH s - 1))) dR_finish_63 _ csR_197 (hS.s sh_163) rfl imR_tell seR_tell rfl (okR_tell (d := 0) w _ p (xHeld s (xH s - 1) (xE s)) (nI (xE s (xH s - 1))) 3 (by exact hS) h.less (show lNn s.1 < 1000000 by omega)) (by omega) (by decide) (Nat.le_of_ble_eq_true rfl) (fun r G1 hr hn => ?_)
    obtain ⟨rfl, X1, o1⟩ := hr
    have hS := o1.St (G := am_wi G 163 35 (nI (xH s - 1))) hS
    refine go_goto dR_finish_66 (tgt := 29) (by decide) ?_
    refine ih (xTell (xHeld s (xH s - 1) (xE s)) (nI (xE s (xH s - 1))) 3) G1 (show xH s - 1 - uB (xC s) = r by omega) hN h12 (show xH s - 1 ≤ 1000 by omega) hB (show lNn s.1 + 1 + r < 1000000 by omega) hS X1 ((ho.tr (oX.w3 ⟨by decide, by decide⟩)).tr o1.x) K
set_option maxRecDepth 100000 in
theorem okR_finishB (w : am_W) {d : Nat} (hd : 2 ≤ d) (G : am_G) (p o : Nat) (s : xT) (Q : Nat → mT) (hp : p < 2) (hN : 1 ≤ xN s) (h12 : xN s ≤ 12) (hm : uM (xC s) < 6) (hB : uB (xC s) ≤ 1000) (hM : lM s.1 + xH s ≤ 1000) (hn : lNn s.1 + xH s < 900000) (hS : St0 G) (h : xR p G s) (hR : hldR G p Q) (hs : ¬ uB (xC s) < xH s) : am_Ok w jR_finish d (0, 0) [.inr (some 163), .inl (nI o)] G (fun r G' => r = some (.inl (nI (xFin Q s o).2)) ∧ xR p G' (xFin Q s o).1 ∧ oX G G') := by
  refine am_ok_of rfl (Nat.le_of_ble_eq_true rfl) ?_
  show am_Go w jR_finish d (0, 0) 0 [some (.inr (some 163)), some (.inl (nI o)), none, none, none] [] G _
  have nn := h.nn
  have hh := h.hh
  have bs := h.bs hN
  have e1 : xFin Q s o = (xF2 Q s, o) := by unfold xFin xF1; rw [if_neg hs, if_neg hs]
  rw [e1]
  refine go_aload_n dR_finish_0 rfl rfl ?_
  refine go_getV dR_finish_1 flR_200 rfl (hS.s sh_163) (by first | assumption | (simp (disch := omega) only [wi_I, ro_I, wi_In, wi_Is]; done) | (simp (disch := omega) only [wi_I, ro_I, wi_In, wi_Is]; first | assumption | rfl) | rfl) ?_
  refine go_iconst (nI 1) (by decide) dR_finish_4 ?_
  first | refine go_isubN (by omega) dR_finish_5 ?_ | refine go_isub dR_finish_5 ?_
  refine go_istore_n dR_finish_6 rfl (Nat.le_of_ble_eq_true rfl) ?_
  refine go_iload_n dR_finish_7 rfl rfl ?_
  refine go_istore_n dR_finish_8 rfl (Nat.le_of_ble_eq_true rfl) ?_
  refine go_aload_n dR_finish_9 rfl rfl ?_
  refine go_getV dR_finish_10 flR_203 rfl (hS.s sh_163) (by first | assumption | (simp (disch := omega) only [wi_I, ro_I, wi_In, wi_Is]; done) | (simp (disch := omega) only [wi_I, ro_I, wi_In, wi_Is]; first | assumption | rfl) | rfl) ?_
  refine go_aload_n dR_finish_13 rfl rfl ?_
  refine go_getO (a := 188) dR_finish_14 flR_83 rfl (hS.s sh_163) (hS.r rt_fBase) ?_
  refine go_iload_n dR_finish_17 rfl rfl ?_
  first | refine go_ialV (hS.s sh_188) (by omega) (by decide) (by assumption) dR_finish_18 ?_ | refine go_ialoadN (hS.s sh_188) (by omega) (by decide) dR_finish_18 ?_
  refine go_icmp_leN (by omega) (by omega) dR_finish_19 (tgt := 26) (by decide) (fun c1 => ?_) (fun c1 => absurd c1 hs)
  refine go_iconst (am_b false) (by decide) dR_finish_26 ?_
  refine go_istore dR_finish_27 (Nat.le_of_ble_eq_true rfl) ?_
  refine R_f1 w (by omega) G p _ _ _ 0 s G (by omega) hN h12 (by omega) hB (by omega) hS h oX.rf (fun X SX HX ox => ?_)
  refine go_iload dR_finish_69 rfl ?_
  refine go_if_eqB dR_finish_71 (tgt := 86) (by decide) (fun c1 => ?_) (fun c1 => absurd c1 (by decide))
  exact R_f2 w (by omega) G X p o s Q _ _ hp hN h12 hm (by omega) SX HX (hR.x ox) ox
set_option maxRecDepth 100000 in
theorem okR_finishA (w : am_W) {d : Nat} (hd : 2 ≤ d) (G : am_G) (p o : Nat) (s : xT) (Q : Nat → mT) (hp : p < 2) (hN : 1 ≤ xN s) (h12 : xN s ≤ 12) (hm : uM (xC s) < 6) (hB : uB (xC s) ≤ 1000) (hM : lM s.1 + xH s ≤ 1000) (hn : lNn s.1 + xH s < 900000) (hS : St0 G) (h : xR p G s) (hR : hldR G p Q) (hs : uB (xC s) < xH s) : am_Ok w jR_finish d (0, 0) [.inr (some 163), .inl (nI o)] G (fun r G' => r = some (.inl (nI (xFin Q s o).2)) ∧ xR p G' (xFin Q s o).1 ∧ oX G G') := by
  refine am_ok_of rfl (Nat.le_of_ble_eq_true rfl) ?_
  show am_Go w jR_finish d (0, 0) 0 [some (.inr (some 163)), some (.inl (nI o)), none, none, none] [] G _
  have nn := h.nn
  have hh := h.hh
  have bs := h.bs hN
  have e1 : xFin Q s o = (xF2 Q (xF1 s), lM s.1 + 1) := by unfold xFin; rw [if_pos hs]
  have e2 : xF1 s = xTell (xMake (xLeft (xH s - uB (xC s)) s) 3) (nI 3) 4 := by unfold xF1; rw [if_pos hs]
  rw [e1]
  obtain ⟨y1, y2, -, y4, -⟩ := xLeft_eq (xH s - uB (xC s)) s
  obtain ⟨z1, z2, -⟩ := xF1_c (s := s)
  have y5 : xH (xLeft (xH s - uB (xC s)) s) = xH s - (xH s - uB (xC s)) := congrArg (fun q => q.2.2.1.1) y1
  refine go_aload_n dR_finish_0 rfl rfl ?_
  refine go_getV dR_finish_1 flR_200 rfl (hS.s sh_163) (by first | assumption | (simp (disch := omega) only [wi_I, ro_I, wi_In, wi_Is]; done) | (simp (disch := omega) only [wi_I, ro_I, wi_In, wi_Is]; first | assumption | rfl) | rfl) ?_
  refine go_iconst (nI 1) (by decide) dR_finish_4 ?_
  first | refine go_isubN (by omega) dR_finish_5 ?_ | refine go_isub dR_finish_5 ?_
  refine go_istore_n dR_finish_6 rfl (Nat.le_of_ble_eq_true rfl) ?_
  refine go_iload_n dR_finish_7 rfl rfl ?_
  refine go_istore_n dR_finish_8 rfl (Nat.le_of_ble_eq_true rfl) ?_
  refine go_aload_n dR_finish_9 rfl rfl ?_
  refine go_getV dR_finish_10 flR_203 rfl (hS.s sh_163) (by first | assumption | (simp (disch := omega) only [wi_I, ro_I, wi_In, wi_Is]; done) | (simp (disch := omega) only [wi_I, ro_I, wi_In, wi_Is]; first | assumption | rfl) | rfl) ?_
  refine go_aload_n dR_finish_13 rfl rfl ?_
  refine go_getO (a := 188) dR_finish_14 flR_83 rfl (hS.s sh_163) (hS.r rt_fBase) ?_
  refine go_iload_n dR_finish_17 rfl rfl ?_
  first | refine go_ialV (hS.s sh_188) (by omega) (by decide) (by assumption) dR_finish_18 ?_ | refine go_ialoadN (hS.s sh_188) (by omega) (by decide) dR_finish_18 ?_
  refine go_icmp_leN (by omega) (by omega) dR_finish_19 (tgt := 26) (by decide) (fun c1 => absurd c1 (by omega)) (fun c1 => ?_)
  refine go_iconst (am_b true) (by decide) dR_finish_22 ?_
  refine go_goto dR_finish_23 (tgt := 27) (by decide) ?_
  refine go_istore dR_finish_27 (Nat.le_of_ble_eq_true rfl) ?_
  refine R_f1 w (by omega) G p _ _ _ (xH s - uB (xC s)) s G rfl hN h12 (by omega) hB (by omega) hS h oX.rf (fun X SX HX ox => ?_)
  refine go_iload dR_finish_69 rfl ?_
  refine go_if_eqB dR_finish_71 (tgt := 86) (by decide) (fun c1 => absurd c1 (by decide)) (fun c1 => ?_)
  have hS := SX
  refine go_aload_n dR_finish_74 rfl rfl ?_
  refine go_iconst (nI 3) (by decide) dR_finish_75 ?_
  refine go_cV (k' := (0, 0)) dR_finish_76 _ csR_209 (hS.s sh_163) rfl imR_make seR_make rfl (okR_make (d := 1) w (by decide) X p (xLeft (xH s - uB (xC s)) s) 3 SX HX (by omega) (by omega)) (by omega) (by decide) (Nat.le_of_ble_eq_true rfl) (fun r G1 hr hn => ?_)
  obtain ⟨rfl, X1, o1⟩ := hr
  rw [y2]
  have hS := o1.St hS
  refine go_istore_n dR_finish_79 rfl (Nat.le_of_ble_eq_true rfl) ?_
  refine go_aload_n dR_finish_80 rfl rfl ?_
  refine go_iconst (nI 3) (by decide) dR_finish_81 ?_
  refine go_iconst (nI 4) (by decide) dR_finish_82 ?_
  refine go_cV (k' := (0, 0)) dR_finish_83 _ csR_197 (hS.s sh_163) rfl imR_tell seR_tell rfl (okR_tell (d := 1) w G1 p (xMake (xLeft (xH s - uB (xC s)) s) 3) (nI 3) 4 hS X1 (show lNn (xLeft (xH s - uB (xC s)) s).1 + 1 < 1000000 by omega)) (by omega) (by decide) (Nat.le_of_ble_eq_true rfl) (fun r G1 hr hn => ?_)
  obtain ⟨rfl, X2, o2⟩ := hr
  have hS := o2.St hS
  have X3 : xR p G1 (xF1 s) := by rw [e2]; exact X2
  have hl : lNn (xF1 s).1 < 1000000 := by have := (xF1_n (s := s)).2.2.1; omega
  have := R_f2 w (d := d) (by omega) G G1 p (lM s.1 + 1) (xF1 s) Q (some (.inl (nI o))) (some (.inl (am_b true))) hp (by rw [z2]; exact hN) (by rw [z2]; exact h12) (by rw [z1]; exact hm) hl hS X3 (hR.x ((ox.tr o1).tr o2.x)) ((ox.tr o1).tr o2.x)
  rw [z2] at this
  exact this
theorem okR_finish (w : am_W) {d : Nat} (hd : 2 ≤ d) (G : am_G) (p o : Nat) (s : xT) (Q : Nat → mT) (hp : p < 2) (hN : 1 ≤ xN s) (h12 : xN s ≤ 12) (hm : uM (xC s) < 6) (hB : uB (xC s) ≤ 1000) (hM : lM s.1 + xH s ≤ 1000) (hn : lNn s.1 + xH s < 900000) (hS : St0 G) (h : xR p G s) (hR : hldR G p Q) : am_Ok w jR_finish d (0, 0) [.inr (some 163), .inl (nI o)] G (fun r G' => r = some (.inl (nI (xFin Q s o).2)) ∧ xR p G' (xFin Q s o).1 ∧ oX G G') := by
  by_cases hs : uB (xC s) < xH s
  · exact okR_finishA w hd G p o s Q hp hN h12 hm hB hM hn hS h hR hs
  · exact okR_finishB w hd G p o s Q hp hN h12 hm hB hM hn hS h hR hs
