theorem sh_109 : SH[109]? = some (0, 6) := by decide +kernel
/-- what lies where, of the machine and its ledger; of a frame; of a program -/
def cQ (G : am_G) (h : Nat) : Prop := G.1[109]? = some (0, 6) ∧ G.1[110]? = some (5, 12) ∧ G.1[111]? = some (1, 1001) ∧ G.1[112]? = some (1, 1001) ∧ G.1[113]? = some (1, 1000) ∧ G.1[h]? = some (0, 4) ∧ G.1[h + 1]? = some (1, 120) ∧ G.2.2 109 0 = some 110 ∧ G.2.2 109 1 = some 111 ∧ G.2.2 109 2 = some 112 ∧ G.2.2 109 3 = some 113 ∧ G.2.2 h 0 = some (h + 1)
def fQ (G : am_G) (i : Nat) : Prop := G.1[114 + 3 * i]? = some (0, 5) ∧ G.1[115 + 3 * i]? = some (1, 8) ∧ G.1[116 + 3 * i]? = some (1, 8) ∧ G.2.2 110 i = some (114 + 3 * i) ∧ G.2.2 (114 + 3 * i) 0 = some (115 + 3 * i) ∧ G.2.2 (114 + 3 * i) 1 = some (116 + 3 * i)
theorem St0.cq {G : am_G} {h : Nat} (hS : St0 G) (hh : h = 159 ∨ h = 161) : cQ G h := by
  refine ⟨hS.s (by decide +kernel), hS.s (by decide +kernel), hS.s (by decide +kernel), hS.s (by decide +kernel), hS.s (by decide +kernel), ?_, ?_, hS.r (by decide +kernel), hS.r (by decide +kernel), hS.r (by decide +kernel), hS.r (by decide +kernel), ?_⟩
  · rcases hh with e | e <;> subst e <;> exact hS.s (by decide +kernel)
  · rcases hh with e | e <;> subst e <;> exact hS.s (by decide +kernel)
  · rcases hh with e | e <;> subst e <;> exact hS.r (by decide +kernel)
theorem St0.fq {G : am_G} {i : Nat} (hS : St0 G) (hi : i < 12) : fQ G i := ⟨hS.s (fr_l1 i hi).1, hS.s (fr_l1 i hi).2.1, hS.s (fr_l1 i hi).2.2, hS.r (fr_l2 i hi).2.2, hS.r (fr_l2 i hi).1, hS.r (fr_l2 i hi).2.1⟩
theorem oM.im {h : Nat} {G G' : am_G} {q : Nat} (ho : oM h G G') (hm : isM G q) : isM G' q := by
  unfold isM
  rw [ho.1, ho.2.1]
  exact hm
theorem hldP.m {G G' : am_G} {v h : Nat} {Q : Nat → mT} (q : hldP G v Q) (hv : v < 2) (hh : h = 159 ∨ h = 161) (ho : oM h G G') : hldP G' v Q := fun a ha => ⟨ho.im (q a ha).1, (q a ha).2.1.same (fun i h1 h2 => ho.2.2 i (by unfold mo at h1 h2; omega)), (q a ha).2.2.1, (q a ha).2.2.2⟩
theorem cL.tA {G : am_G} {h : Nat} {l : lT} {e : Int32} (q : cL G h l) (hn : lNn l < 120) : cL (am_wi (am_wi G (h + 1) (lNn l) e) h 6 (nI (lNn l + 1))) h (lTell l e) := by
  obtain ⟨a1, a2, a3, a4, a5, a6, a7⟩ := q
  refine ⟨?_, ?_, ?_, ?_, ?_, ?_, fun i h1 h2 => ?_⟩
  · simp (disch := omega) only [wi_I, wi_In, wi_Is]; exact a1
  · simp (disch := omega) only [wi_I, wi_In, wi_Is]; exact a2
  · simp (disch := omega) only [wi_I, wi_In, wi_Is]; exact a3
  · simp (disch := omega) only [wi_I, wi_In, wi_Is]; exact a4
  · simp (disch := omega) only [wi_I, wi_In, wi_Is]; rfl
  · simp (disch := omega) only [wi_I, wi_In, wi_Is]; exact a6
  · have h1 : i < lNn l + 1 := h1
    show _ = va_up (lK l) (lNn l) e i
    by_cases ei : i = lNn l
    · rw [ei, am_up_eq]; simp (disch := omega) only [wi_I, wi_In, wi_Is]
    · rw [am_up_ne ei]; simp (disch := omega) only [wi_I, wi_In, wi_Is]; exact a7 i (show i < lNn l by omega) h2
theorem cL.tB {G : am_G} {h : Nat} {l : lT} {e : Int32} (q : cL G h l) (hn : 120 ≤ lNn l) : cL (am_wi G h 6 (nI (lNn l + 1))) h (lTell l e) := by
  obtain ⟨a1, a2, a3, a4, a5, a6, a7⟩ := q
  refine ⟨?_, ?_, ?_, ?_, ?_, ?_, fun i h1 h2 => ?_⟩
  · simp (disch := omega) only [wi_I, wi_In, wi_Is]; exact a1
  · simp (disch := omega) only [wi_I, wi_In, wi_Is]; exact a2
  · simp (disch := omega) only [wi_I, wi_In, wi_Is]; exact a3
  · simp (disch := omega) only [wi_I, wi_In, wi_Is]; exact a4
  · simp (disch := omega) only [wi_I, wi_In, wi_Is]; rfl
  · simp (disch := omega) only [wi_I, wi_In, wi_Is]; exact a6
  · show _ = va_up (lK l) (lNn l) e i
    rw [am_up_ne (by omega)]; simp (disch := omega) only [wi_I, wi_In, wi_Is]; exact a7 i (show i < lNn l by omega) h2
theorem oLg.a {G : am_G} {h k : Nat} {x y : Int32} : oLg h G (am_wi (am_wi G (h + 1) k x) h 6 y) := ⟨(oR.wi (Or.inr rfl)).tr (oR.wi (Or.inl rfl)), by simp (disch := omega) only [wi_I, wi_In]⟩
theorem oLg.b {G : am_G} {h : Nat} {y : Int32} : oLg h G (am_wi G h 6 y) := ⟨oR.wi (Or.inl rfl), by simp (disch := omega) only [wi_In]⟩
theorem oM.p {h : Nat} {G : am_G} {i k : Nat} {x : Int32} (hi : i < 12) (r : Nat) (hr : r ≤ 2) : oM h G (am_wi G (114 + 3 * i + r) k x) := oM.w ⟨by omega, by omega⟩
theorem mx_n {a b : Nat} (ha : a < 1000) (hb : b < 1000) : (if nI a < nI b then nI b else nI a) = nI (Nat.max a b) := by
  by_cases q : a < b
  · rw [if_pos ((nI_ltI (by omega) (by omega)).mpr q), show Nat.max a b = b from Nat.max_eq_right (by omega)]
  · rw [if_neg (fun e => q ((nI_ltI (by omega) (by omega)).mp e)), show Nat.max a b = a from Nat.max_eq_left (by omega)]
def A_bg (G : am_G) (f : Nat) (m h : Int32) : am_G := am_wi (am_wi (am_wi (am_wi (am_wi G f 5 m) f 6 h) f 3 (nI 0)) f 4 (nI 0)) f 2 (nI 0)
section Oc
variable {Q : Nat → mT} {s : xT} {c p h t : Nat} {F : Nat → uT} {V : Nat → Option Int32} {G G' : am_G}
/-- what openFrame does but for its entry -/
def M_of (G : am_G) (h n mx : Nat) (c hd : Int32) : am_G := A_bg (am_wi (am_wi G 109 6 (nI (n + 1))) h 5 (nI mx)) (114 + 3 * n) c hd
theorem M_of_o {n mx : Nat} {x y : Int32} (hn : n < 12) : oM h G (M_of G h n mx x y) := by
  have a : ∀ {G : am_G} {k : Nat} {v : Int32}, oM h G (am_wi G (114 + 3 * n) k v) := oM.w ⟨by omega, by omega⟩
  exact ((oM.w ⟨by decide, by decide⟩).tr oM.l).tr ((((a.tr a).tr a).tr a).tr a)
theorem cX.of (q : cX p h G s t true) (h12 : xN s < 12) (hF : ∀ i, i < xN s → F i = if i + 1 < xN s then xF s i else xC s) (v5 : ∀ a, a < 8 → ∀ v, V a = some v → G.2.1 (115 + 3 * xN s) a = v) : cX p h (M_of G h (xN s) (Nat.max (lX s.1) (xN s + 1)) (nI c) (nI (xH s))) (xMost (s.1, s.2.1, s.2.2.1, s.2.2.2.1, (xN s + 1, F, (c, 0, 0, xH s, (fun _ => nI 0), V)), xO s)) t false := by
  have hh := q.hh
  unfold M_of A_bg
  refine q.opn h12 hF (fun r r1 r2 r3 => ?_) rfl (fun k hk => ?_) ?_ ?_ (fun k hk => ?_) ?_ ?_ ?_ ?_ v5
  all_goals simp (disch := omega) only [wi_I, wi_In, wi_Is]
theorem xOpen_t2 (hL : mL (Q c) = true) : xOpen Q s c F V = xTell (xMost (s.1, s.2.1, s.2.2.1, s.2.2.2.1, (xN s + 1, F, (c, 0, 0, xH s, (fun _ => nI 0), V)), xO s)) (nI (4000 + c)) 2 := by
  unfold xOpen
  dsimp only
  rw [if_pos hL]
/-- a frame below, and what lies in the latest frame's numbers -/
def xTwo (s : xT) (f : uT) (V : Nat → Option Int32) : xT := (s.1, s.2.1, s.2.2.1, s.2.2.2.1, (xN s, va_up (xF s) (xN s - 2) f, (uM (xC s), uP (xC s), uD (xC s), uB (xC s), uV (xC s), V)), xO s)
theorem va_up2 {α : Type} {g : Nat → α} {i : Nat} {x y : α} : va_up (va_up g i x) i y = va_up g i y := by
  funext k
  by_cases e : k = i
  · rw [e, am_up_eq, am_up_eq]
  · rw [am_up_ne e, am_up_ne e, am_up_ne e]
theorem xTwo_o {f g : uT} {V' : Nat → Option Int32} (hN : 1 ≤ xN s) : xTwo (xOpen Q s c (va_up (xF s) (xN s - 1) g) V') f V = xOpen Q s c (va_up (xF s) (xN s - 1) f) V := by
  have key : ∀ n, n = xN s - 1 → va_up (va_up (xF s) (xN s - 1) g) n f = va_up (xF s) (xN s - 1) f := fun n e => by rw [e, va_up2]
  have e := key (xN s + 1 - 2) (by omega)
  cases hL : mL (Q c) with
  | true =>
    rw [xOpen_t2 hL, xOpen_t2 hL]
    show (_, _, _, _, (xN s + 1, va_up (va_up (xF s) (xN s - 1) g) (xN s + 1 - 2) f, _), _) = _
    rw [e]
    rfl
  | false =>
    rw [xOpen_f hL, xOpen_f hL]
    show (_, _, _, _, (xN s + 1, va_up (va_up (xF s) (xN s - 1) g) (xN s + 1 - 2) f, _), _) = _
    rw [e]
    rfl
theorem cX.two {D : Nat} (q : cX p h G s t false) (hN : 2 ≤ xN s) (hD : D ≤ uD (xF s (xN s - 2))) (w0 : G'.2.2 = G.2.2) (w1 : ∀ r, r ≠ 114 + 3 * (xN s - 2) → r ≠ 115 + 3 * (xN s - 1) → G'.2.1 r = G.2.1 r) (w2 : ∀ k, k ≠ 2 → G'.2.1 (114 + 3 * (xN s - 2)) k = G.2.1 (114 + 3 * (xN s - 2)) k) (w3 : G'.2.1 (114 + 3 * (xN s - 2)) 2 = nI D) (w4 : ∀ a, a < 8 → ∀ v, V a = some v → G'.2.1 (115 + 3 * (xN s - 1)) a = v) : cX p h G' (xTwo s (uM (xF s (xN s - 2)), uP (xF s (xN s - 2)), D, uB (xF s (xN s - 2)), uV (xF s (xN s - 2)), uL (xF s (xN s - 2))) V) t false := by
  obtain ⟨⟨a1, a2, a3, a4, a5, a6, a7⟩, ⟨b1, b2, b3, hh⟩, ⟨r1, r2⟩, c', d, e, f, g, i, j, l, n12⟩ := q
  refine ⟨⟨?_, ?_, ?_, ?_, ?_, ?_, fun i h1 h2 => ?_⟩, ⟨?_, ?_, ?_, hh⟩, ⟨by rw [w0]; exact r1, by rw [w0]; exact r2⟩, fun o h1 h2 => ?_, fun k hk => ?_, fun k hk => ?_, fun hk => ?_, fun _ hb => absurd hb (by decide), fun _ _ => ?_, fun hn => ?_, fun z hz => ?_, n12⟩
  · rw [w1 h (by omega) (by omega)]; exact a1
  · rw [w1 h (by omega) (by omega)]; exact a2
  · rw [w1 h (by omega) (by omega)]; exact a3
  · rw [w1 h (by omega) (by omega)]; exact a4
  · rw [w1 h (by omega) (by omega)]; exact a5
  · rw [w1 h (by omega) (by omega)]; exact a6
  · rw [w1 (h + 1) (by omega) (by omega)]; exact a7 i h1 h2
  · rw [w1 109 (by omega) (by omega)]; exact b1
  · rw [w1 109 (by omega) (by omega)]; exact b2
  · rw [w1 109 (by omega) (by omega)]; exact b3
  · rw [w1 111 (by omega) (by omega), w1 112 (by omega) (by omega)]; exact c' o h1 h2
  · rw [w1 113 (by omega) (by omega)]; exact d k hk
  · have hk : k + 1 < xN s := hk
    show cF G' k (va_up (xF s) (xN s - 2) _ k) ∧ cP G' k (uP (va_up (xF s) (xN s - 2) _ k))
    by_cases ek : k = xN s - 2
    · rw [ek, am_up_eq]
      obtain ⟨⟨⟨z1, z2, z3, z4⟩, y, x⟩, u1, u2⟩ := e (xN s - 2) (by omega)
      refine ⟨⟨⟨?_, ?_, w3, show D ≤ 8 by omega⟩, fun d hd => ?_, fun a ha v hv => ?_⟩, ?_, ?_⟩
      · rw [w2 5 (by decide)]; exact z1
      · rw [w2 6 (by decide)]; exact z2
      · rw [w1 _ (by omega) (by omega)]; exact y d (by have hd : d < D := hd; omega)
      · rw [w1 _ (by omega) (by omega)]; exact x a ha v hv
      · rw [w2 3 (by decide)]; exact u1
      · rw [w2 4 (by decide)]; exact u2
    · rw [am_up_ne ek]
      exact ⟨(e k hk).1.same (fun z _ => by rw [w1 _ (by omega) (by omega)]) (w1 _ (by omega) (by omega)) (w1 _ (by omega) (by omega)), (e k hk).2.same (fun z _ => by rw [w1 _ (by omega) (by omega)])⟩
  · change cF G' (xN s - 1) _
    obtain ⟨⟨z1, z2, z3, z4⟩, y, x⟩ := f (by omega)
    refine ⟨⟨?_, ?_, ?_, z4⟩, fun d hd => ?_, w4⟩
    · rw [w1 _ (by omega) (by omega)]; exact z1
    · rw [w1 _ (by omega) (by omega)]; exact z2
    · rw [w1 _ (by omega) (by omega)]; exact z3
    · rw [w1 _ (by omega) (by omega)]; exact y d hd
  · change G'.2.1 (114 + 3 * (xN s - 1)) 4 = _
    rw [w1 _ (by omega) (by omega)]; exact i (by omega) rfl
  · rw [w1 h (by omega) (by omega)]; exact j hn
  · rw [w1 h (by omega) (by omega)]; exact l z hz
theorem cX.m0 {b b' : Bool} (q : cX p h G s t b) (hN : xN s = 0) : cX p h G s t b' := by
  obtain ⟨a, b, r, c, d, e, f, g, i, j, k, n12⟩ := q
  exact ⟨a, b, r, c, d, e, f, fun q => absurd q (by omega), fun q => absurd q (by omega), j, k, n12⟩
end Oc

/-- what rowFor answers -/
def rRes (q : Option Nat) : Int32 := match q with
  | some r => nI r
  | none => -2
set_option maxRecDepth 100000 in
theorem un_b : ∀ t, t < 8 → ∀ u, u < 8 → decide (¬ ((am_sf 2 t >>> (nI u &&& 31)) &&& nI 1 = 0)) = und t u := by decide +kernel
theorem nI_m2 {r : Nat} (hr : r < 100) : ¬ nI r = -2 := fun e => by
  have h1 : (nI r).toInt = (-2 : Int32).toInt := by rw [e]
  rw [nI_toInt (by omega)] at h1
  have h2 : (-2 : Int32).toInt = -2 := by decide
  omega
theorem nI_m5 {r : Nat} (hr : r < 100) : ¬ nI r = -5 := fun e => by
  have h1 : (nI r).toInt = (-5 : Int32).toInt := by rw [e]
  rw [nI_toInt (by omega)] at h1
  have h2 : (-5 : Int32).toInt = -5 := by decide
  omega
section Cf
variable {Q : Nat → mT} {s : xT} {p h t : Nat} {G : am_G}
theorem cX.f2t (q : cX p h G (xTell s (nI (4000 + uM (xC s))) 3) t true) (hN : 1 ≤ xN s) (hL : mL (Q (uM (xC s))) = true) : cX p h (am_wi G 109 6 (nI (xN s - 1))) (xF2 Q s) t true := by
  rw [xF2_t hL]
  exact cX.down q hN
theorem cX.f2f (q : cX p h G s t true) (hN : 1 ≤ xN s) (hL : mL (Q (uM (xC s))) = false) : cX p h (am_wi G 109 6 (nI (xN s - 1))) (xF2 Q s) t true := by
  rw [xF2_f hL]
  exact cX.down q hN
theorem cX.hvt {o a : Nat} (q : cX p h G (xTell (xHad (xSet s (uHave (xC s) o a))) (nI (xY s o)) 5) t false) : cX p h G (xHave s o a) t false := q
end Cf

set_option maxRecDepth 100000 in
theorem okA_begin (w : am_W) {d : Nat} (G : am_G) (i : Nat) (hi : i < 12) (hS : St0 G) (x y : Int32) : am_Ok w jA_begin d (0, 0) [.inr (some (114 + 3 * i)), .inl x, .inl y] G (fun r G' => r = none ∧ G' = A_bg G (114 + 3 * i) x y) := by
  refine am_ok_of rfl (Nat.le_of_ble_eq_true rfl) ?_
  show am_Go w jA_begin d (0, 0) 0 [some (.inr (some (114 + 3 * i))), some (.inl x), some (.inl y)] [] G _
  obtain ⟨f0, f1, f2, f3, f4, f5⟩ := hS.fq (i := i) (hi)
  refine go_aload_n dA_begin_0 rfl rfl ?_
  refine go_iload_n dA_begin_1 rfl rfl ?_
  refine go_putI dA_begin_2 fpA_18 rfl (by assumption) ?_
  refine go_aload_n dA_begin_5 rfl rfl ?_
  refine go_iload_n dA_begin_6 rfl rfl ?_
  refine go_putI dA_begin_7 fpA_22 rfl (by assumption) ?_
  refine go_aload_n dA_begin_10 rfl rfl ?_
  refine go_iconst (nI 0) (by decide) dA_begin_11 ?_
  refine go_putI dA_begin_12 fpA_25 rfl (by assumption) ?_
  refine go_aload_n dA_begin_15 rfl rfl ?_
  refine go_iconst (nI 0) (by decide) dA_begin_16 ?_
  refine go_putI dA_begin_17 fpA_28 rfl (by assumption) ?_
  refine go_aload_n dA_begin_20 rfl rfl ?_
  refine go_iconst (nI 0) (by decide) dA_begin_21 ?_
  refine go_putI dA_begin_22 fpA_31 rfl (by assumption) ?_
  refine go_return rfl dA_begin_25 ?_
  exact ⟨rfl, rfl⟩
set_option maxRecDepth 100000 in
theorem okA_push (w : am_W) {d : Nat} (G : am_G) (i : Nat) (hi : i < 12) (hS : St0 G) (D : Nat) (v : Int32) (h8 : D < 8) (hD : G.2.1 (114 + 3 * i) 2 = nI D) : am_Ok w jA_push d (0, 0) [.inr (some (114 + 3 * i)), .inl v] G (fun r G' => r = none ∧ G' = am_wi (am_wi G (116 + 3 * i) D v) (114 + 3 * i) 2 (nI (D + 1))) := by
  refine am_ok_of rfl (Nat.le_of_ble_eq_true rfl) ?_
  show am_Go w jA_push d (0, 0) 0 [some (.inr (some (114 + 3 * i))), some (.inl v)] [] G _
  obtain ⟨f0, f1, f2, f3, f4, f5⟩ := hS.fq (i := i) (hi)
  refine go_aload_n dA_push_0 rfl rfl ?_
  refine go_getV dA_push_1 flA_31 rfl (by assumption) (by first | assumption | (simp (disch := omega) only [wi_I, ro_I, wi_In, wi_Is]; done) | (simp (disch := omega) only [wi_I, ro_I, wi_In, wi_Is]; first | assumption | rfl) | rfl) ?_
  refine go_bipush (nI 8) (by decide) dA_push_4 ?_
  refine go_icmp_geN (by omega) (by decide) dA_push_6 (tgt := 29) (by decide) (fun c1 => absurd c1 (by omega)) (fun c1 => ?_)
  refine go_aload_n dA_push_9 rfl rfl ?_
  refine go_getO dA_push_10 flA_15 rfl (by assumption) (by assumption) ?_
  refine go_aload_n dA_push_13 rfl rfl ?_
  refine go_getV dA_push_14 flA_31 rfl (by assumption) (by first | assumption | (simp (disch := omega) only [wi_I, ro_I, wi_In, wi_Is]; done) | (simp (disch := omega) only [wi_I, ro_I, wi_In, wi_Is]; first | assumption | rfl) | rfl) ?_
  refine go_iload_n dA_push_17 rfl rfl ?_
  refine go_iastoreN (by assumption) (by omega) (by decide) dA_push_18 ?_
  refine go_aload_n dA_push_19 rfl rfl ?_
  refine go_dup dA_push_20 ?_
  refine go_getV dA_push_21 flA_31 rfl (by assumption) (by first | assumption | (simp (disch := omega) only [wi_I, ro_I, wi_In, wi_Is]; done) | (simp (disch := omega) only [wi_I, ro_I, wi_In, wi_Is]; first | assumption | rfl) | rfl) ?_
  refine go_iconst (nI 1) (by decide) dA_push_24 ?_
  first | refine go_iaddN dA_push_25 ?_ | refine go_iadd dA_push_25 ?_
  refine go_putI dA_push_26 fpA_31 rfl (by assumption) ?_
  refine go_return rfl dA_push_29 ?_
  exact ⟨rfl, rfl⟩
set_option maxRecDepth 100000 in
theorem okA_pop (w : am_W) {d : Nat} (G : am_G) (i : Nat) (hi : i < 12) (hS : St0 G) (D : Nat) (h1 : 1 ≤ D) (h8 : D ≤ 8) (hD : G.2.1 (114 + 3 * i) 2 = nI D) : am_Ok w jA_pop d (0, 0) [.inr (some (114 + 3 * i))] G (fun r G' => r = some (.inl (G.2.1 (116 + 3 * i) (D - 1))) ∧ G' = am_wi G (114 + 3 * i) 2 (nI (D - 1))) := by
  refine am_ok_of rfl (Nat.le_of_ble_eq_true rfl) ?_
  show am_Go w jA_pop d (0, 0) 0 [some (.inr (some (114 + 3 * i)))] [] G _
  obtain ⟨f0, f1, f2, f3, f4, f5⟩ := hS.fq (i := i) (hi)
  refine go_aload_n dA_pop_0 rfl rfl ?_
  refine go_getV dA_pop_1 flA_31 rfl (by assumption) (by first | assumption | (simp (disch := omega) only [wi_I, ro_I, wi_In, wi_Is]; done) | (simp (disch := omega) only [wi_I, ro_I, wi_In, wi_Is]; first | assumption | rfl) | rfl) ?_
  refine go_if_neN (by omega) dA_pop_4 (tgt := 9) (by decide) (fun c1 => ?_) (fun c1 => absurd c1 (by omega))
  refine go_aload_n dA_pop_9 rfl rfl ?_
  refine go_dup dA_pop_10 ?_
  refine go_getV dA_pop_11 flA_31 rfl (by assumption) (by first | assumption | (simp (disch := omega) only [wi_I, ro_I, wi_In, wi_Is]; done) | (simp (disch := omega) only [wi_I, ro_I, wi_In, wi_Is]; first | assumption | rfl) | rfl) ?_
  refine go_iconst (nI 1) (by decide) dA_pop_14 ?_
  first | refine go_isubN (by omega) dA_pop_15 ?_ | refine go_isub dA_pop_15 ?_
  refine go_putI dA_pop_16 fpA_31 rfl (by assumption) ?_
  refine go_aload_n dA_pop_19 rfl rfl ?_
  refine go_getO dA_pop_20 flA_15 rfl (by assumption) (by assumption) ?_
  refine go_aload_n dA_pop_23 rfl rfl ?_
  refine go_getV dA_pop_24 flA_31 rfl (by assumption) (by first | assumption | (simp (disch := omega) only [wi_I, ro_I, wi_In, wi_Is]; done) | (simp (disch := omega) only [wi_I, ro_I, wi_In, wi_Is]; first | assumption | rfl) | rfl) ?_
  refine go_ialV f2 (by omega) (by decide) (wi_V (by omega) rfl) dA_pop_27 ?_
  refine go_ireturn rfl dA_pop_28 ?_
  exact ⟨rfl, rfl⟩
set_option maxRecDepth 100000 in
theorem okA_goOnWith (w : am_W) {d : Nat} (hd : 1 ≤ d) (G : am_G) (i : Nat) (hi : i < 12) (hS : St0 G) (v x : Int32) : am_Ok w jA_goOnWith d (0, 0) [.inr (some (114 + 3 * i)), .inl v, .inl x] G (fun r G' => r = none ∧ G' = am_wi (am_wi (am_wi (am_wi G (114 + 3 * i) 2 (nI 0)) (116 + 3 * i) 0 v) (114 + 3 * i) 2 (nI 1)) (114 + 3 * i) 4 x) := by
  refine am_ok_of rfl (Nat.le_of_ble_eq_true rfl) ?_
  show am_Go w jA_goOnWith d (0, 0) 0 [some (.inr (some (114 + 3 * i))), some (.inl v), some (.inl x)] [] G _
  obtain ⟨f0, f1, f2, f3, f4, f5⟩ := hS.fq (i := i) (hi)
  refine go_aload_n dA_goOnWith_0 rfl rfl ?_
  refine go_iconst (nI 0) (by decide) dA_goOnWith_1 ?_
  refine go_putI dA_goOnWith_2 fpA_31 rfl (by assumption) ?_
  refine go_aload_n dA_goOnWith_5 rfl rfl ?_
  refine go_iload_n dA_goOnWith_6 rfl rfl ?_
  refine go_cV (k' := (0, 0)) dA_goOnWith_7 _ csA_34 (by assumption) rfl imA_push seA_push rfl (okA_push (d := 0) w _ i hi (by exact hS) 0 v (by decide) wi_Is) (by omega) (by decide) (Nat.le_of_ble_eq_true rfl) (fun r G1 hr hn => ?_)
  obtain ⟨rfl, hG⟩ := hr
  rw [hG]
  clear hG hn
  refine go_aload_n dA_goOnWith_10 rfl rfl ?_
  refine go_iload_n dA_goOnWith_11 rfl rfl ?_
  refine go_putI dA_goOnWith_12 fpA_28 rfl (by assumption) ?_
  refine go_return rfl dA_goOnWith_15 ?_
  exact ⟨rfl, rfl⟩
set_option maxRecDepth 100000 in
theorem okL_note (w : am_W) {d : Nat} (G : am_G) (h k : Nat) (v : Int32) (l : lT) (hh : h = 159 ∨ h = 161) (hS : St0 G) (hl : cL G h l) (hn : lNn l < 1000000) : am_Ok w jL_note d (0, 0) [.inr (some h), .inl (nI k), .inl v] G (fun r G' => r = none ∧ cL G' h (lTell l (nI 16 * v + nI k)) ∧ oLg h G G') := by
  refine am_ok_of rfl (Nat.le_of_ble_eq_true rfl) ?_
  show am_Go w jL_note d (0, 0) 0 [some (.inr (some h)), some (.inl (nI k)), some (.inl v)] [] G _
  obtain ⟨k9, k10, k11, k12, k13, kh, kh1, g0, g1, g2, g3, gh⟩ := hS.cq hh
  have en : G.2.1 h 6 = nI (lNn l) := hl.2.2.2.2.1
  refine go_aload_n dL_note_0 rfl rfl ?_
  refine go_getV dL_note_1 flL_31 rfl (by assumption) (by first | assumption | (simp (disch := omega) only [wi_I, ro_I, wi_In, wi_Is]; done) | (simp (disch := omega) only [wi_I, ro_I, wi_In, wi_Is]; first | assumption | rfl) | rfl) ?_
  refine go_bipush (nI 120) (by decide) dL_note_4 ?_
  refine go_icmp_geN (by omega) (by decide) dL_note_6 (tgt := 24) (by decide) (fun c6 => ?_) (fun c6 => ?_)
  · refine go_aload_n dL_note_24 rfl rfl ?_
    refine go_dup dL_note_25 ?_
    refine go_getV dL_note_26 flL_31 rfl (by assumption) (by first | assumption | (simp (disch := omega) only [wi_I, ro_I, wi_In, wi_Is]; done) | (simp (disch := omega) only [wi_I, ro_I, wi_In, wi_Is]; first | assumption | rfl) | rfl) ?_
    refine go_iconst (nI 1) (by decide) dL_note_29 ?_
    first | refine go_iaddN dL_note_30 ?_ | refine go_iadd dL_note_30 ?_
    refine go_putI dL_note_31 fpL_31 rfl (by assumption) ?_
    refine go_return rfl dL_note_34 ?_
    first | (have q : 120 ≤ lNn l := c6; exact ⟨rfl, hl.tB q, oLg.b⟩) | (have q : lNn l < 120 := c6; exact ⟨rfl, hl.tA q, oLg.a⟩)
  · refine go_aload_n dL_note_9 rfl rfl ?_
    refine go_getO dL_note_10 flL_9 rfl (by assumption) (by assumption) ?_
    refine go_aload_n dL_note_13 rfl rfl ?_
    refine go_getV dL_note_14 flL_31 rfl (by assumption) (by first | assumption | (simp (disch := omega) only [wi_I, ro_I, wi_In, wi_Is]; done) | (simp (disch := omega) only [wi_I, ro_I, wi_In, wi_Is]; first | assumption | rfl) | rfl) ?_
    refine go_bipush (nI 16) (by decide) dL_note_17 ?_
    refine go_iload_n dL_note_19 rfl rfl ?_
    refine (go_imul dL_note_20 ?_)
    refine go_iload_n dL_note_21 rfl rfl ?_
    refine (go_iadd dL_note_22 ?_)
    refine go_iastoreN (by assumption) (by omega) (by decide) dL_note_23 ?_
    refine go_aload_n dL_note_24 rfl rfl ?_
    refine go_dup dL_note_25 ?_
    refine go_getV dL_note_26 flL_31 rfl (by assumption) (by first | assumption | (simp (disch := omega) only [wi_I, ro_I, wi_In, wi_Is]; done) | (simp (disch := omega) only [wi_I, ro_I, wi_In, wi_Is]; first | assumption | rfl) | rfl) ?_
    refine go_iconst (nI 1) (by decide) dL_note_29 ?_
    first | refine go_iaddN dL_note_30 ?_ | refine go_iadd dL_note_30 ?_
    refine go_putI dL_note_31 fpL_31 rfl (by assumption) ?_
    refine go_return rfl dL_note_34 ?_
    first | (have q : 120 ≤ lNn l := c6; exact ⟨rfl, hl.tB q, oLg.b⟩) | (have q : lNn l < 120 := c6; exact ⟨rfl, hl.tA q, oLg.a⟩)
set_option maxRecDepth 100000 in
theorem okM_make (w : am_W) {d : Nat} (hd : 1 ≤ d) (G : am_G) (p h t : Nat) (b : Bool) (s : xT) (k : Nat) (hS : St0 G) (X : cX p h G s t b) (hM : lM s.1 < 1000) (hn : lNn s.1 < 1000000) : am_Ok w jM_make d (0, 0) [.inr (some 109), .inl (nI k)] G (fun r G' => r = some (.inl (nI (lM s.1 + 1))) ∧ cX p h G' (xMake s k) t b ∧ oM h G G') := by
  refine am_ok_of rfl (Nat.le_of_ble_eq_true rfl) ?_
  show am_Go w jM_make d (0, 0) 0 [some (.inr (some 109)), some (.inl (nI k))] [] G _
  have hh := X.hh
  obtain ⟨k9, k10, k11, k12, k13, kh, kh1, g0, g1, g2, g3, gh⟩ := hS.cq hh
  have lg := X.lg
  have pr := X.pr
  have mk : G.2.1 h 4 = nI (lM s.1) := X.1.2.2.1
  refine go_aload_n dM_make_0 rfl rfl ?_
  refine go_getO dM_make_1 flM_32 rfl (by assumption) (by assumption) ?_
  refine go_getV dM_make_4 flM_182 rfl (by assumption) (by first | assumption | (simp (disch := omega) only [wi_I, ro_I, wi_In, wi_Is]; done) | (simp (disch := omega) only [wi_I, ro_I, wi_In, wi_Is]; first | assumption | rfl) | rfl) ?_
  refine go_sipush (nI 1000) (by decide) dM_make_7 ?_
  refine go_icmp_geN (by omega) (by decide) dM_make_10 (tgt := 26) (by decide) (fun c1 => absurd c1 (by omega)) (fun c1 => ?_)
  refine go_aload_n dM_make_13 rfl rfl ?_
  refine go_getO dM_make_14 flM_32 rfl (by assumption) (by assumption) ?_
  refine go_dup dM_make_17 ?_
  refine go_getV dM_make_18 flM_182 rfl (by assumption) (by first | assumption | (simp (disch := omega) only [wi_I, ro_I, wi_In, wi_Is]; done) | (simp (disch := omega) only [wi_I, ro_I, wi_In, wi_Is]; first | assumption | rfl) | rfl) ?_
  refine go_iconst (nI 1) (by decide) dM_make_21 ?_
  first | refine go_iaddN dM_make_22 ?_ | refine go_iadd dM_make_22 ?_
  refine go_putI dM_make_23 fpM_182 rfl (by assumption) ?_
  refine go_aload_n dM_make_26 rfl rfl ?_
  refine go_getO dM_make_27 flM_17 rfl (by assumption) (by assumption) ?_
  refine go_aload_n dM_make_30 rfl rfl ?_
  refine go_getO dM_make_31 flM_32 rfl (by assumption) (by assumption) ?_
  refine go_getV dM_make_34 flM_182 rfl (by assumption) (by first | assumption | (simp (disch := omega) only [wi_I, ro_I, wi_In, wi_Is]; done) | (simp (disch := omega) only [wi_I, ro_I, wi_In, wi_Is]; first | assumption | rfl) | rfl) ?_
  refine go_iload_n dM_make_37 rfl rfl ?_
  refine go_iastoreN (by assumption) (by omega) (by decide) dM_make_38 ?_
  refine go_aload_n dM_make_39 rfl rfl ?_
  refine go_getO dM_make_40 flM_21 rfl (by assumption) (by assumption) ?_
  refine go_aload_n dM_make_43 rfl rfl ?_
  refine go_getO dM_make_44 flM_32 rfl (by assumption) (by assumption) ?_
  refine go_getV dM_make_47 flM_182 rfl (by assumption) (by first | assumption | (simp (disch := omega) only [wi_I, ro_I, wi_In, wi_Is]; done) | (simp (disch := omega) only [wi_I, ro_I, wi_In, wi_Is]; first | assumption | rfl) | rfl) ?_
  refine go_iconst (nI 0) (by decide) dM_make_50 ?_
  refine go_iastoreN (by assumption) (by omega) (by decide) dM_make_51 ?_
  refine go_aload_n dM_make_52 rfl rfl ?_
  refine go_getO dM_make_53 flM_32 rfl (by assumption) (by assumption) ?_
  refine go_iconst (nI 1) (by decide) dM_make_56 ?_
  refine go_iload_n dM_make_57 rfl rfl ?_
  refine go_cV (k' := (0, 0)) dM_make_58 _ csM_96 (by assumption) rfl imL_note seL_note rfl (okL_note (d := 0) w _ h 1 (nI k) (xMade s k).1 hh (by exact hS) X.made.1 hn) (by omega) (by decide) (Nat.le_of_ble_eq_true rfl) (fun r G1 hr hn => ?_)
  obtain ⟨rfl, L1, o1⟩ := hr
  have X1 : cX p h G1 (xMake s k) t b := X.made.tell L1 o1
  have oq : oM h G G1 := ((oM.l.tr (oM.w ⟨by decide, by decide⟩)).tr (oM.w ⟨by decide, by decide⟩)).tr o1.m
  have hS := oq.St hS
  obtain ⟨k9, k10, k11, k12, k13, kh, kh1, g0, g1, g2, g3, gh⟩ := hS.cq hh
  have lg := X1.lg
  have mk1 : G1.2.1 h 4 = nI (lM s.1 + 1) := X1.1.2.2.1
  refine go_aload_n dM_make_61 rfl rfl ?_
  refine go_getO dM_make_62 flM_32 rfl (by assumption) (by assumption) ?_
  refine go_getV dM_make_65 flM_182 rfl (by assumption) (by first | assumption | (simp (disch := omega) only [wi_I, ro_I, wi_In, wi_Is]; done) | (simp (disch := omega) only [wi_I, ro_I, wi_In, wi_Is]; first | assumption | rfl) | rfl) ?_
  refine go_ireturn rfl dM_make_68 ?_
  exact ⟨rfl, X1, oq⟩
set_option maxRecDepth 100000 in
theorem okM_throwObject (w : am_W) {d : Nat} (hd : 1 ≤ d) (G : am_G) (p h t : Nat) (b : Bool) (s : xT) (u : Nat) (hS : St0 G) (X : cX p h G s t b) (h1 : 1 ≤ u) (h2 : u ≤ lM s.1) (hM : lM s.1 ≤ 1000) (hn : lNn s.1 < 1000000) : am_Ok w jM_throwObject d (0, 0) [.inr (some 109), .inl (nI u)] G (fun r G' => r = none ∧ cX p h G' (xTell s (nI (xY s u)) 4) u b ∧ oM h G G') := by
  refine am_ok_of rfl (Nat.le_of_ble_eq_true rfl) ?_
  show am_Go w jM_throwObject d (0, 0) 0 [some (.inr (some 109)), some (.inl (nI u))] [] G _
  have hh := X.hh
  obtain ⟨k9, k10, k11, k12, k13, kh, kh1, g0, g1, g2, g3, gh⟩ := hS.cq hh
  have lg := X.lg
  have pr := X.pr
  have oy := X.oy h1 h2
  refine go_aload_n dM_throwObject_0 rfl rfl ?_
  refine go_iload_n dM_throwObject_1 rfl rfl ?_
  refine go_putI dM_throwObject_2 fpM_48 rfl (by assumption) ?_
  refine go_aload_n dM_throwObject_5 rfl rfl ?_
  refine go_getO dM_throwObject_6 flM_32 rfl (by assumption) (by assumption) ?_
  refine go_iconst (nI 4) (by decide) dM_throwObject_9 ?_
  refine go_aload_n dM_throwObject_10 rfl rfl ?_
  refine go_getO dM_throwObject_11 flM_17 rfl (by assumption) (by assumption) ?_
  refine go_iload_n dM_throwObject_14 rfl rfl ?_
  refine go_ialV k11 (by omega) (by decide) (wi_V (by decide) oy) dM_throwObject_15 ?_
  refine go_cV (k' := (0, 0)) dM_throwObject_16 _ csM_96 (by assumption) rfl imL_note seL_note rfl (okL_note (d := 0) w _ h 4 (nI (xY s u)) s.1 hh (by exact hS) X.thr.1 hn) (by omega) (by decide) (Nat.le_of_ble_eq_true rfl) (fun r G1 hr hn => ?_)
  obtain ⟨rfl, L1, o1⟩ := hr
  refine go_return rfl dM_throwObject_19 ?_
  exact ⟨rfl, (X.thr).tell L1 o1, (oM.w ⟨by decide, by decide⟩).tr o1.m⟩
set_option maxRecDepth 100000 in
theorem okM_throwNew (w : am_W) {d : Nat} (hd : 2 ≤ d) (G : am_G) (p h t : Nat) (b : Bool) (s : xT) (k : Nat) (hS : St0 G) (X : cX p h G s t b) (hM : lM s.1 < 1000) (hn : lNn s.1 < 900000) : am_Ok w jM_throwNew d (0, 0) [.inr (some 109), .inl (nI k)] G (fun r G' => r = none ∧ cX p h G' (xNew s k).1 (xNew s k).2 b ∧ oM h G G') := by
  refine am_ok_of rfl (Nat.le_of_ble_eq_true rfl) ?_
  show am_Go w jM_throwNew d (0, 0) 0 [some (.inr (some 109)), some (.inl (nI k))] [] G _
  have k9 := hS.s sh_109
  refine go_aload_n dM_throwNew_0 rfl rfl ?_
  refine go_aload_n dM_throwNew_1 rfl rfl ?_
  refine go_iload_n dM_throwNew_2 rfl rfl ?_
  refine go_cV (k' := (0, 0)) dM_throwNew_3 _ csM_125 (by assumption) rfl imM_make seM_make rfl (okM_make (d := 1) w (by decide) G p h t b s k hS X (by omega) (by omega)) (by omega) (by decide) (Nat.le_of_ble_eq_true rfl) (fun r G1 hr hn => ?_)
  obtain ⟨rfl, X1, o1⟩ := hr
  have hS := o1.St hS
  have k9 := hS.s sh_109
  refine go_cV (k' := (0, 0)) dM_throwNew_6 _ csM_166 (by assumption) rfl imM_throwObject seM_throwObject rfl (okM_throwObject (d := 1) w (by decide) G1 p h t b (xMake s k) (lM s.1 + 1) hS X1 (by omega) (Nat.le_refl _) (show lM s.1 + 1 ≤ 1000 by omega) (show lNn s.1 + 1 < 1000000 by omega)) (by omega) (by decide) (Nat.le_of_ble_eq_true rfl) (fun r G1 hr hn => ?_)
  obtain ⟨rfl, X2, o2⟩ := hr
  have ey : xY (xMake s k) (lM s.1 + 1) = k := am_up_eq
  rw [ey] at X2
  refine go_return rfl dM_throwNew_9 ?_
  exact ⟨rfl, X2, o1.tr o2⟩
set_option maxRecDepth 100000 in
theorem okM_openFrame (w : am_W) {d : Nat} (hd : 1 ≤ d) (G : am_G) (p h t c : Nat) (s : xT) (Q : Nat → mT) (F : Nat → uT) (V : Nat → Option Int32) (hp : p < 2) (hc : c < 6) (h12 : xN s < 12) (hX : lX s.1 ≤ 12) (hn : lNn s.1 < 1000000) (hS : St0 G) (X : cX p h G s t true) (hP : hldP G p Q) (hF : ∀ i, i < xN s → F i = if i + 1 < xN s then xF s i else xC s) (hV : ∀ a, a < 8 → ∀ v, V a = some v → G.2.1 (115 + 3 * xN s) a = v) : am_Ok w jM_openFrame d (0, 0) [.inr (some 109), .inl (nI c)] G (fun r G' => r = some (.inr (some (114 + 3 * xN s))) ∧ cX p h G' (xOpen Q s c F V) t false ∧ oM h G G') := by
  refine am_ok_of rfl (Nat.le_of_ble_eq_true rfl) ?_
  show am_Go w jM_openFrame d (0, 0) 0 [some (.inr (some 109)), some (.inl (nI c)), none] [] G _
  have hh := X.hh
  obtain ⟨k9, k10, k11, k12, k13, kh, kh1, g0, g1, g2, g3, gh⟩ := hS.cq hh
  have lg := X.lg
  have pr := X.pr
  obtain ⟨f0, f1, f2, f3, f4, f5⟩ := hS.fq (i := xN s) (h12)
  have nn := X.nn
  have hd1 := X.hd
  have ms : G.2.1 h 5 = nI (lX s.1) := X.1.2.2.2.1
  refine go_aload_n dM_openFrame_0 rfl rfl ?_
  refine go_getO dM_openFrame_1 flM_11 rfl (by assumption) (by assumption) ?_
  refine go_aload_n dM_openFrame_4 rfl rfl ?_
  refine go_getV dM_openFrame_5 flM_41 rfl (by assumption) (by first | assumption | (simp (disch := omega) only [wi_I, ro_I, wi_In, wi_Is]; done) | (simp (disch := omega) only [wi_I, ro_I, wi_In, wi_Is]; first | assumption | rfl) | rfl) ?_
  refine go_aaO (t := 2) (by decide) k10 h12 (by decide) f3 dM_openFrame_8 ?_
  refine go_astore_n dM_openFrame_9 rfl (Nat.le_of_ble_eq_true rfl) ?_
  refine go_aload_n dM_openFrame_10 rfl rfl ?_
  refine go_dup dM_openFrame_11 ?_
  refine go_getV dM_openFrame_12 flM_41 rfl (by assumption) (by first | assumption | (simp (disch := omega) only [wi_I, ro_I, wi_In, wi_Is]; done) | (simp (disch := omega) only [wi_I, ro_I, wi_In, wi_Is]; first | assumption | rfl) | rfl) ?_
  refine go_iconst (nI 1) (by decide) dM_openFrame_15 ?_
  first | refine go_iaddN dM_openFrame_16 ?_ | refine go_iadd dM_openFrame_16 ?_
  refine go_putI dM_openFrame_17 fpM_41 rfl (by assumption) ?_
  refine go_aload_n dM_openFrame_20 rfl rfl ?_
  refine go_getO dM_openFrame_21 flM_32 rfl (by assumption) (by assumption) ?_
  refine go_aload_n dM_openFrame_24 rfl rfl ?_
  refine go_getO dM_openFrame_25 flM_32 rfl (by assumption) (by assumption) ?_
  refine go_getV dM_openFrame_28 flM_71 rfl (by assumption) (by first | assumption | (simp (disch := omega) only [wi_I, ro_I, wi_In, wi_Is]; done) | (simp (disch := omega) only [wi_I, ro_I, wi_In, wi_Is]; first | assumption | rfl) | rfl) ?_
  refine go_aload_n dM_openFrame_31 rfl rfl ?_
  refine go_getV dM_openFrame_32 flM_41 rfl (by assumption) (by first | assumption | (simp (disch := omega) only [wi_I, ro_I, wi_In, wi_Is]; done) | (simp (disch := omega) only [wi_I, ro_I, wi_In, wi_Is]; first | assumption | rfl) | rfl) ?_
  refine go_max (by omega) (Nat.le_of_ble_eq_true rfl) lkM_74 max_st math_in max_co dM_openFrame_35 ?_
  rw [mx_n (by omega) (by omega)]
  refine go_putI dM_openFrame_38 fpM_71 rfl (by assumption) ?_
  refine go_aload_n dM_openFrame_41 rfl rfl ?_
  refine go_iload_n dM_openFrame_42 rfl rfl ?_
  refine go_aload_n dM_openFrame_43 rfl rfl ?_
  refine go_getV dM_openFrame_44 flM_45 rfl (by assumption) (by first | assumption | (simp (disch := omega) only [wi_I, ro_I, wi_In, wi_Is]; done) | (simp (disch := omega) only [wi_I, ro_I, wi_In, wi_Is]; first | assumption | rfl) | rfl) ?_
  refine go_cV (k' := (0, 0)) dM_openFrame_47 _ csM_80 (by assumption) rfl imA_begin seA_begin rfl (okA_begin (d := 0) w _ (xN s) h12 (by exact hS) (nI c) (nI (xH s))) (by omega) (by decide) (Nat.le_of_ble_eq_true rfl) (fun r G1 hr hn => ?_)
  obtain ⟨rfl, hG⟩ := hr
  have X1 : cX p h G1 (xMost (s.1, s.2.1, s.2.2.1, s.2.2.2.1, (xN s + 1, F, (c, 0, 0, xH s, (fun _ => nI 0), V)), xO s)) t false := by rw [hG]; exact X.of h12 hF hV
  have o1 : oM h G G1 := by rw [hG]; exact M_of_o h12
  clear hG hn
  have hS := o1.St hS
  obtain ⟨k9, k10, k11, k12, k13, kh, kh1, g0, g1, g2, g3, gh⟩ := hS.cq hh
  have lg := X1.lg
  have pr := X1.pr
  obtain ⟨p1, p2, p3, p4⟩ := pr_l p hp
  have u1 := hS.s p1
  have u2 := hS.s p2
  have u3 := hS.r p3
  have u4 := hS.r (pm_l p hp c hc)
  have hP1 := hP.m hp hh o1
  have um := (hP1 c hc).1.1
  have lk := (hP1 c hc).2.1.1.2.2.2
  refine go_aload_n dM_openFrame_50 rfl rfl ?_
  refine go_getO dM_openFrame_51 flM_28 rfl (by assumption) (by assumption) ?_
  refine go_getO dM_openFrame_54 flM_84 rfl (by assumption) (by assumption) ?_
  refine go_iload_n dM_openFrame_57 rfl rfl ?_
  refine go_aaO (t := 1) (by decide) u2 hc (by decide) u4 dM_openFrame_58 ?_
  refine go_getV dM_openFrame_59 flM_90 rfl (by assumption) (by first | assumption | (simp (disch := omega) only [wi_I, ro_I, wi_In, wi_Is]; done) | (simp (disch := omega) only [wi_I, ro_I, wi_In, wi_Is]; first | assumption | rfl) | rfl) ?_
  refine go_if_eqB dM_openFrame_62 (tgt := 78) (by decide) (fun c62 => ?_) (fun c62 => ?_)
  · refine go_aload_n dM_openFrame_78 rfl rfl ?_
    refine go_areturn rfl rfl dM_openFrame_79 ?_
    first | (have q := xOpen_f (s := s) (F := F) (V := V) c62; rw [q]; exact ⟨rfl, X1, o1⟩) | (have q := xOpen_t2 (s := s) (F := F) (V := V) c62; rw [q]; exact ⟨rfl, X2, o1.tr o2.m⟩)
  · refine go_aload_n dM_openFrame_65 rfl rfl ?_
    refine go_getO dM_openFrame_66 flM_32 rfl (by assumption) (by assumption) ?_
    refine go_iconst (nI 2) (by decide) dM_openFrame_69 ?_
    refine go_sipush (nI 4000) (by decide) dM_openFrame_70 ?_
    refine go_iload_n dM_openFrame_73 rfl rfl ?_
    first | refine go_iaddN dM_openFrame_74 ?_ | refine go_iadd dM_openFrame_74 ?_
    refine go_cV (k' := (0, 0)) dM_openFrame_75 _ csM_96 (by assumption) rfl imL_note seL_note rfl (okL_note (d := 0) w G1 h 2 (nI (4000 + c)) _ hh hS X1.1 hn) (by omega) (by decide) (Nat.le_of_ble_eq_true rfl) (fun r G1 hr hn => ?_)
    obtain ⟨rfl, L1, o2⟩ := hr
    have X2 := X1.tell L1 o2
    refine go_aload_n dM_openFrame_78 rfl rfl ?_
    refine go_areturn rfl rfl dM_openFrame_79 ?_
    first | (have q := xOpen_f (s := s) (F := F) (V := V) c62; rw [q]; exact ⟨rfl, X1, o1⟩) | (have q := xOpen_t2 (s := s) (F := F) (V := V) c62; rw [q]; exact ⟨rfl, X2, o1.tr o2.m⟩)
set_option maxRecDepth 100000 in
theorem M_c2 (w : am_W) {d : Nat} (hd : 1 ≤ d) (G0 G : am_G) (p h t : Nat) (s : xT) (Q : Nat → mT) (hp : p < 2) (hN : 1 ≤ xN s) (hm : uM (xC s) < 6) (hn : lNn s.1 < 1000000) (hS : St0 G) (X : cX p h G s t true) (hP : hldP G p Q) (ho : oM h G0 G) : am_Go w jM_closeFrame d (0, 0) 69 [some (.inr (some 109)), some (.inr (some (114 + 3 * (xN s - 1))))] [] G (fun r G' => r = none ∧ cX p h G' (xF2 Q s) t true ∧ oM h G0 G') := by
  have h12 := X.n12
  have hh := X.hh
  obtain ⟨k9, k10, k11, k12, k13, kh, kh1, g0, g1, g2, g3, gh⟩ := hS.cq hh
  have lg := X.lg
  have pr := X.pr
  obtain ⟨f0, f1, f2, f3, f4, f5⟩ := hS.fq (i := xN s - 1) (by omega)
  have nn := X.nn
  obtain ⟨⟨nu, -, -, -⟩, -⟩ := X.cf hN
  obtain ⟨p1, p2, p3, p4⟩ := pr_l p hp
  have u1 := hS.s p1
  have u2 := hS.s p2
  have u3 := hS.r p3
  have u4 := hS.r (pm_l p hp _ hm)
  have um := (hP _ hm).1.1
  have lk := (hP _ hm).2.1.1.2.2.2
  refine go_aload_n dM_closeFrame_69 rfl rfl ?_
  refine go_getO dM_closeFrame_70 flM_28 rfl (by assumption) (by assumption) ?_
  refine go_getO dM_closeFrame_73 flM_84 rfl (by assumption) (by assumption) ?_
  refine go_aload_n dM_closeFrame_76 rfl rfl ?_
  refine go_getV dM_closeFrame_77 flM_99 rfl (by assumption) (by first | assumption | (simp (disch := omega) only [wi_I, ro_I, wi_In, wi_Is]; done) | (simp (disch := omega) only [wi_I, ro_I, wi_In, wi_Is]; first | assumption | rfl) | rfl) ?_
  refine go_aaO (t := 1) (by decide) u2 hm (by decide) u4 dM_closeFrame_80 ?_
  refine go_getV dM_closeFrame_81 flM_90 rfl (by assumption) (by first | assumption | (simp (disch := omega) only [wi_I, ro_I, wi_In, wi_Is]; done) | (simp (disch := omega) only [wi_I, ro_I, wi_In, wi_Is]; first | assumption | rfl) | rfl) ?_
  refine go_if_eqB dM_closeFrame_84 (tgt := 103) (by decide) (fun c84 => ?_) (fun c84 => ?_)
  · refine go_aload_n dM_closeFrame_103 rfl rfl ?_
    refine go_dup dM_closeFrame_104 ?_
    refine go_getV dM_closeFrame_105 flM_41 rfl (by assumption) (by first | assumption | (simp (disch := omega) only [wi_I, ro_I, wi_In, wi_Is]; done) | (simp (disch := omega) only [wi_I, ro_I, wi_In, wi_Is]; first | assumption | rfl) | rfl) ?_
    refine go_iconst (nI 1) (by decide) dM_closeFrame_108 ?_
    first | refine go_isubN (by omega) dM_closeFrame_109 ?_ | refine go_isub dM_closeFrame_109 ?_
    refine go_putI dM_closeFrame_110 fpM_41 rfl (by assumption) ?_
    refine go_return rfl dM_closeFrame_113 ?_
    first | (have q := X.f2f hN c84; exact ⟨rfl, q, ho.tr (oM.w ⟨by decide, by decide⟩)⟩) | (have q := X1.f2t hN c84; exact ⟨rfl, q, (ho.tr o1.m).tr (oM.w ⟨by decide, by decide⟩)⟩)
  · refine go_aload_n dM_closeFrame_87 rfl rfl ?_
    refine go_getO dM_closeFrame_88 flM_32 rfl (by assumption) (by assumption) ?_
    refine go_iconst (nI 3) (by decide) dM_closeFrame_91 ?_
    refine go_sipush (nI 4000) (by decide) dM_closeFrame_92 ?_
    refine go_aload_n dM_closeFrame_95 rfl rfl ?_
    refine go_getV dM_closeFrame_96 flM_99 rfl (by assumption) (by first | assumption | (simp (disch := omega) only [wi_I, ro_I, wi_In, wi_Is]; done) | (simp (disch := omega) only [wi_I, ro_I, wi_In, wi_Is]; first | assumption | rfl) | rfl) ?_
    first | refine go_iaddN dM_closeFrame_99 ?_ | refine go_iadd dM_closeFrame_99 ?_
    refine go_cV (k' := (0, 0)) dM_closeFrame_100 _ csM_96 (by assumption) rfl imL_note seL_note rfl (okL_note (d := 0) w G h 3 (nI (4000 + uM (xC s))) s.1 hh hS X.1 hn) (by omega) (by decide) (Nat.le_of_ble_eq_true rfl) (fun r G1 hr hn => ?_)
    obtain ⟨rfl, L1, o1⟩ := hr
    have X1 : cX p h G1 (xTell s (nI (4000 + uM (xC s))) 3) t true := X.tell L1 o1
    have hS := o1.m.St hS
    have k9 := hS.s sh_109
    have nn1 : G1.2.1 109 6 = nI (xN s) := X1.nn
    refine go_aload_n dM_closeFrame_103 rfl rfl ?_
    refine go_dup dM_closeFrame_104 ?_
    refine go_getV dM_closeFrame_105 flM_41 rfl (by assumption) (by first | assumption | (simp (disch := omega) only [wi_I, ro_I, wi_In, wi_Is]; done) | (simp (disch := omega) only [wi_I, ro_I, wi_In, wi_Is]; first | assumption | rfl) | rfl) ?_
    refine go_iconst (nI 1) (by decide) dM_closeFrame_108 ?_
    first | refine go_isubN (by omega) dM_closeFrame_109 ?_ | refine go_isub dM_closeFrame_109 ?_
    refine go_putI dM_closeFrame_110 fpM_41 rfl (by assumption) ?_
    refine go_return rfl dM_closeFrame_113 ?_
    first | (have q := X.f2f hN c84; exact ⟨rfl, q, ho.tr (oM.w ⟨by decide, by decide⟩)⟩) | (have q := X1.f2t hN c84; exact ⟨rfl, q, (ho.tr o1.m).tr (oM.w ⟨by decide, by decide⟩)⟩)
set_option maxRecDepth 100000 in
theorem M_c1 (w : am_W) {d : Nat} {P : Option am_V → am_G → Prop} (hd : 1 ≤ d) (G0 : am_G) (p h t : Nat) :
    ∀ (r : Nat) (s : xT) (G : am_G), xH s - uB (xC s) = r → 1 ≤ xN s → xH s ≤ 1000 → uB (xC s) ≤ 1000 → lNn s.1 + r < 1000000 → St0 G → cX p h G s t true → oM h G0 G → (∀ (X : am_G), St0 X → cX p h X (xLeft r s) t true → oM h G0 X → am_Go w jM_closeFrame d (0, 0) 64 [some (.inr (some 109)), some (.inr (some (114 + 3 * (xN s - 1))))] [] X P) → am_Go w jM_closeFrame d (0, 0) 23 [some (.inr (some 109)), some (.inr (some (114 + 3 * (xN s - 1))))] [] G P := by
  intro r
  induction r with
  | zero =>
    intro s G hr hN hH hB hn hS X ho K
    have h12 := X.n12
    have hh := X.hh
    obtain ⟨k9, k10, k11, k12, k13, kh, kh1, g0, g1, g2, g3, gh⟩ := hS.cq hh
    have lg := X.lg
    have pr := X.pr
    obtain ⟨f0, f1, f2, f3, f4, f5⟩ := hS.fq (i := xN s - 1) (by omega)
    have hd1 := X.hd
    obtain ⟨⟨-, bs, -, -⟩, -⟩ := X.cf hN
    refine go_aload_n dM_closeFrame_23 rfl rfl ?_
    refine go_getV dM_closeFrame_24 flM_45 rfl (by assumption) (by first | assumption | (simp (disch := omega) only [wi_I, ro_I, wi_In, wi_Is]; done) | (simp (disch := omega) only [wi_I, ro_I, wi_In, wi_Is]; first | assumption | rfl) | rfl) ?_
    refine go_aload_n dM_closeFrame_27 rfl rfl ?_
    refine go_getV dM_closeFrame_28 flM_173 rfl (by assumption) (by first | assumption | (simp (disch := omega) only [wi_I, ro_I, wi_In, wi_Is]; done) | (simp (disch := omega) only [wi_I, ro_I, wi_In, wi_Is]; first | assumption | rfl) | rfl) ?_
    refine go_icmp_leN (by omega) (by omega) dM_closeFrame_31 (tgt := 64) (by decide) (fun c1 => ?_) (fun c1 => absurd c1 (by omega))
    exact K G hS X ho
  | succ r ih =>
    intro s G hr hN hH hB hn hS X ho K
    have h12 := X.n12
    have lk := X.lk (k := xH s - 1) (by omega)
    have hh := X.hh
    obtain ⟨k9, k10, k11, k12, k13, kh, kh1, g0, g1, g2, g3, gh⟩ := hS.cq hh
    have lg := X.lg
    have pr := X.pr
    obtain ⟨f0, f1, f2, f3, f4, f5⟩ := hS.fq (i := xN s - 1) (by omega)
    have hd1 := X.hd
    obtain ⟨⟨-, bs, -, -⟩, -⟩ := X.cf hN
    refine go_aload_n dM_closeFrame_23 rfl rfl ?_
    refine go_getV dM_closeFrame_24 flM_45 rfl (by assumption) (by first | assumption | (simp (disch := omega) only [wi_I, ro_I, wi_In, wi_Is]; done) | (simp (disch := omega) only [wi_I, ro_I, wi_In, wi_Is]; first | assumption | rfl) | rfl) ?_
    refine go_aload_n dM_closeFrame_27 rfl rfl ?_
    refine go_getV dM_closeFrame_28 flM_173 rfl (by assumption) (by first | assumption | (simp (disch := omega) only [wi_I, ro_I, wi_In, wi_Is]; done) | (simp (disch := omega) only [wi_I, ro_I, wi_In, wi_Is]; first | assumption | rfl) | rfl) ?_
    refine go_icmp_leN (by omega) (by omega) dM_closeFrame_31 (tgt := 64) (by decide) (fun c1 => absurd c1 (by omega)) (fun c1 => ?_)
    refine go_aload_n dM_closeFrame_34 rfl rfl ?_
    refine go_dup dM_closeFrame_35 ?_
    refine go_getV dM_closeFrame_36 flM_45 rfl (by assumption) (by first | assumption | (simp (disch := omega) only [wi_I, ro_I, wi_In, wi_Is]; done) | (simp (disch := omega) only [wi_I, ro_I, wi_In, wi_Is]; first | assumption | rfl) | rfl) ?_
    refine go_iconst (nI 1) (by decide) dM_closeFrame_39 ?_
    first | refine go_isubN (by omega) dM_closeFrame_40 ?_ | refine go_isub dM_closeFrame_40 ?_
    refine go_putI dM_closeFrame_41 fpM_45 rfl (by assumption) ?_
    refine go_aload_n dM_closeFrame_44 rfl rfl ?_
    refine go_getO dM_closeFrame_45 flM_32 rfl (by assumption) (by assumption) ?_
    refine go_iconst (nI 3) (by decide) dM_closeFrame_48 ?_
    refine go_aload_n dM_closeFrame_49 rfl rfl ?_
    refine go_getO dM_closeFrame_50 flM_24 rfl (by assumption) (by assumption) ?_
    refine go_aload_n dM_closeFrame_53 rfl rfl ?_
    refine go_getV dM_closeFrame_54 flM_45 rfl (by assumption) (by first | assumption | (simp (disch := omega) only [wi_I, ro_I, wi_In, wi_Is]; done) | (simp (disch := omega) only [wi_I, ro_I, wi_In, wi_Is]; first | assumption | rfl) | rfl) ?_
    refine go_ialV k13 (by omega) (by decide) (wi_V (by decide) lk) dM_closeFrame_57 ?_
    refine go_cV (k' := (0, 0)) dM_closeFrame_58 _ csM_96 (by assumption) rfl imL_note seL_note rfl (okL_note (d := 0) w _ h 3 (nI (xE s (xH s - 1))) s.1 hh (by exact hS) X.less.1 (by omega)) (by omega) (by decide) (Nat.le_of_ble_eq_true rfl) (fun r G1 hr hn => ?_)
    obtain ⟨rfl, L1, o1⟩ := hr
    have X1 : cX p h G1 (xTell (xHeld s (xH s - 1) (xE s)) (nI (xE s (xH s - 1))) 3) t true := X.less.tell L1 o1
    have oq : oM h G G1 := (oM.w ⟨by decide, by decide⟩).tr o1.m
    refine go_goto dM_closeFrame_61 (tgt := 23) (by decide) ?_
    refine ih (xTell (xHeld s (xH s - 1) (xE s)) (nI (xE s (xH s - 1))) 3) G1 (show xH s - 1 - uB (xC s) = r by omega) hN (show xH s - 1 ≤ 1000 by omega) hB (show lNn s.1 + 1 + r < 1000000 by omega) (oq.St hS) X1 (ho.tr oq) K
set_option maxRecDepth 100000 in
theorem okM_closeB (w : am_W) {d : Nat} (hd : 3 ≤ d) (G : am_G) (p h t : Nat) (s : xT) (Q : Nat → mT) (hp : p < 2) (hN : 1 ≤ xN s) (hm : uM (xC s) < 6) (hB : uB (xC s) ≤ 1000) (hM : lM s.1 + xH s ≤ 1000) (hn : lNn s.1 + xH s < 900000) (hS : St0 G) (X : cX p h G s t true) (hP : hldP G p Q) (hs : ¬ uB (xC s) < xH s) : am_Ok w jM_closeFrame d (0, 0) [.inr (some 109)] G (fun r G' => r = none ∧ cX p h G' (xFin Q s t).1 (xFin Q s t).2 true ∧ oM h G G') := by
  refine am_ok_of rfl (Nat.le_of_ble_eq_true rfl) ?_
  show am_Go w jM_closeFrame d (0, 0) 0 [some (.inr (some 109)), none] [] G _
  have h12 := X.n12
  have hh := X.hh
  obtain ⟨k9, k10, k11, k12, k13, kh, kh1, g0, g1, g2, g3, gh⟩ := hS.cq hh
  have lg := X.lg
  have pr := X.pr
  obtain ⟨f0, f1, f2, f3, f4, f5⟩ := hS.fq (i := xN s - 1) (by omega)
  have hd1 := X.hd
  obtain ⟨⟨-, bs, -, -⟩, -⟩ := X.cf hN
  have nn := X.nn
  have e1 : xFin Q s t = (xF2 Q s, t) := by unfold xFin xF1; rw [if_neg hs, if_neg hs]
  rw [e1]
  refine go_aload_n dM_closeFrame_0 rfl rfl ?_
  refine go_getO dM_closeFrame_1 flM_11 rfl (by assumption) (by assumption) ?_
  refine go_aload_n dM_closeFrame_4 rfl rfl ?_
  refine go_getV dM_closeFrame_5 flM_41 rfl (by assumption) (by first | assumption | (simp (disch := omega) only [wi_I, ro_I, wi_In, wi_Is]; done) | (simp (disch := omega) only [wi_I, ro_I, wi_In, wi_Is]; first | assumption | rfl) | rfl) ?_
  refine go_iconst (nI 1) (by decide) dM_closeFrame_8 ?_
  first | refine go_isubN (by omega) dM_closeFrame_9 ?_ | refine go_isub dM_closeFrame_9 ?_
  refine go_aaO (t := 2) (by decide) k10 (show xN s - 1 < 12 by omega) (by decide) f3 dM_closeFrame_10 ?_
  refine go_astore_n dM_closeFrame_11 rfl (Nat.le_of_ble_eq_true rfl) ?_
  refine go_aload_n dM_closeFrame_12 rfl rfl ?_
  refine go_getV dM_closeFrame_13 flM_45 rfl (by assumption) (by first | assumption | (simp (disch := omega) only [wi_I, ro_I, wi_In, wi_Is]; done) | (simp (disch := omega) only [wi_I, ro_I, wi_In, wi_Is]; first | assumption | rfl) | rfl) ?_
  refine go_aload_n dM_closeFrame_16 rfl rfl ?_
  refine go_getV dM_closeFrame_17 flM_173 rfl (by assumption) (by first | assumption | (simp (disch := omega) only [wi_I, ro_I, wi_In, wi_Is]; done) | (simp (disch := omega) only [wi_I, ro_I, wi_In, wi_Is]; first | assumption | rfl) | rfl) ?_
  refine go_icmp_leN (by omega) (by omega) dM_closeFrame_20 (tgt := 69) (by decide) (fun c1 => ?_) (fun c1 => absurd c1 hs)
  exact M_c2 w (by omega) G G p h t s Q hp hN hm (by omega) hS X hP oM.rf
set_option maxRecDepth 100000 in
theorem okM_closeA (w : am_W) {d : Nat} (hd : 3 ≤ d) (G : am_G) (p h t : Nat) (s : xT) (Q : Nat → mT) (hp : p < 2) (hN : 1 ≤ xN s) (hm : uM (xC s) < 6) (hB : uB (xC s) ≤ 1000) (hM : lM s.1 + xH s ≤ 1000) (hn : lNn s.1 + xH s < 900000) (hS : St0 G) (X : cX p h G s t true) (hP : hldP G p Q) (hs : uB (xC s) < xH s) : am_Ok w jM_closeFrame d (0, 0) [.inr (some 109)] G (fun r G' => r = none ∧ cX p h G' (xFin Q s t).1 (xFin Q s t).2 true ∧ oM h G G') := by
  refine am_ok_of rfl (Nat.le_of_ble_eq_true rfl) ?_
  show am_Go w jM_closeFrame d (0, 0) 0 [some (.inr (some 109)), none] [] G _
  have h12 := X.n12
  have hh := X.hh
  obtain ⟨k9, k10, k11, k12, k13, kh, kh1, g0, g1, g2, g3, gh⟩ := hS.cq hh
  have lg := X.lg
  have pr := X.pr
  obtain ⟨f0, f1, f2, f3, f4, f5⟩ := hS.fq (i := xN s - 1) (by omega)
  have hd1 := X.hd
  obtain ⟨⟨-, bs, -, -⟩, -⟩ := X.cf hN
  have nn := X.nn
  have e1 : xFin Q s t = (xF2 Q (xF1 s), lM s.1 + 1) := by unfold xFin; rw [if_pos hs]
  have e2 : xF1 s = xTell (xMake (xLeft (xH s - uB (xC s)) s) 3) (nI 3) 4 := by unfold xF1; rw [if_pos hs]
  rw [e1]
  obtain ⟨y1, y2, -, y4, -⟩ := xLeft_eq (xH s - uB (xC s)) s
  obtain ⟨z1, z2, -⟩ := xF1_c (s := s)
  have y5 : xH (xLeft (xH s - uB (xC s)) s) = xH s - (xH s - uB (xC s)) := congrArg (fun q => q.2.2.1.1) y1
  refine go_aload_n dM_closeFrame_0 rfl rfl ?_
  refine go_getO dM_closeFrame_1 flM_11 rfl (by assumption) (by assumption) ?_
  refine go_aload_n dM_closeFrame_4 rfl rfl ?_
  refine go_getV dM_closeFrame_5 flM_41 rfl (by assumption) (by first | assumption | (simp (disch := omega) only [wi_I, ro_I, wi_In, wi_Is]; done) | (simp (disch := omega) only [wi_I, ro_I, wi_In, wi_Is]; first | assumption | rfl) | rfl) ?_
  refine go_iconst (nI 1) (by decide) dM_closeFrame_8 ?_
  first | refine go_isubN (by omega) dM_closeFrame_9 ?_ | refine go_isub dM_closeFrame_9 ?_
  refine go_aaO (t := 2) (by decide) k10 (show xN s - 1 < 12 by omega) (by decide) f3 dM_closeFrame_10 ?_
  refine go_astore_n dM_closeFrame_11 rfl (Nat.le_of_ble_eq_true rfl) ?_
  refine go_aload_n dM_closeFrame_12 rfl rfl ?_
  refine go_getV dM_closeFrame_13 flM_45 rfl (by assumption) (by first | assumption | (simp (disch := omega) only [wi_I, ro_I, wi_In, wi_Is]; done) | (simp (disch := omega) only [wi_I, ro_I, wi_In, wi_Is]; first | assumption | rfl) | rfl) ?_
  refine go_aload_n dM_closeFrame_16 rfl rfl ?_
  refine go_getV dM_closeFrame_17 flM_173 rfl (by assumption) (by first | assumption | (simp (disch := omega) only [wi_I, ro_I, wi_In, wi_Is]; done) | (simp (disch := omega) only [wi_I, ro_I, wi_In, wi_Is]; first | assumption | rfl) | rfl) ?_
  refine go_icmp_leN (by omega) (by omega) dM_closeFrame_20 (tgt := 69) (by decide) (fun c1 => absurd c1 (by omega)) (fun c1 => ?_)
  refine M_c1 w (by omega) G p h t (xH s - uB (xC s)) s G rfl hN (by omega) hB (by omega) hS X oM.rf (fun Y SY HY oy => ?_)
  have hS := SY
  have k9 := hS.s sh_109
  refine go_aload_n dM_closeFrame_64 rfl rfl ?_
  refine go_iconst (nI 3) (by decide) dM_closeFrame_65 ?_
  refine go_cV (k' := (0, 0)) dM_closeFrame_66 _ csM_156 (by assumption) rfl imM_throwNew seM_throwNew rfl (okM_throwNew (d := 2) w (by decide) Y p h t true (xLeft (xH s - uB (xC s)) s) 3 SY HY (by omega) (by omega)) (by omega) (by decide) (Nat.le_of_ble_eq_true rfl) (fun r G1 hr hn => ?_)
  obtain ⟨rfl, X2, o2⟩ := hr
  have hS := o2.St hS
  have X3 : cX p h G1 (xF1 s) (lM s.1 + 1) true := by rw [e2]; rw [← y2]; exact X2
  have hl : lNn (xF1 s).1 < 1000000 := by have := (xF1_n (s := s)).2.2.1; omega
  have := M_c2 w (d := d) (by omega) G G1 p h (lM s.1 + 1) (xF1 s) Q hp (by rw [z2]; exact hN) (by rw [z1]; exact hm) hl hS X3 (hP.m hp hh (oy.tr o2)) (oy.tr o2)
  rw [z2] at this
  exact this
theorem okM_closeFrame (w : am_W) {d : Nat} (hd : 3 ≤ d) (G : am_G) (p h t : Nat) (s : xT) (Q : Nat → mT) (hp : p < 2) (hN : 1 ≤ xN s) (hm : uM (xC s) < 6) (hB : uB (xC s) ≤ 1000) (hM : lM s.1 + xH s ≤ 1000) (hn : lNn s.1 + xH s < 900000) (hS : St0 G) (X : cX p h G s t true) (hP : hldP G p Q) : am_Ok w jM_closeFrame d (0, 0) [.inr (some 109)] G (fun r G' => r = none ∧ cX p h G' (xFin Q s t).1 (xFin Q s t).2 true ∧ oM h G G') := by
  by_cases hs : uB (xC s) < xH s
  · exact okM_closeA w hd G p h t s Q hp hN hm hB hM hn hS X hP hs
  · exact okM_closeB w hd G p h t s Q hp hN hm hB hM hn hS X hP hs
theorem xRow_h {M : mT} {p t r k : Nat} (h : ¬ (mF M k ≤ p ∧ p < mE M k)) : xRow M p t (r + 1) k = xRow M p t r (k + 1) := if_neg (fun q => h q.1)
set_option maxRecDepth 100000 in
theorem E_rf (w : am_W) {d : Nat} (hd : 1 ≤ d) (G : am_G) (q P t : Nat) (M : mT) (hM : hldM G q M) (hPp : P < 200) (ht : t < 8) : ∀ (r k : Nat), k + r = mR M → xRow M P t (mR M) 0 = xRow M P t r k → am_Go w jE_rowFor d (0, 0) 2 [some (.inr (some q)), some (.inl (nI P)), some (.inl (nI t)), some (.inl (nI k))] [] G (fun r G' => r = some (.inl (rRes (xRow M P t (mR M) 0))) ∧ G' = G) := by
  have hmv := hM.2.2.1
  have hn6 := hmv.1
  have hr8 := hmv.2.1
  have rw1 := hM.2.1.1.2.1
  have hM1 := hM.1
  obtain ⟨hs, ⟨r0, r1, r2, r3, r4, r5, r6⟩, s1, s2, s3, s4, s5, s6, s7⟩ := id hM1
  intro r
  induction r with
  | zero =>
    intro k hk hx
    refine go_iload_n dE_rowFor_2 rfl rfl ?_
    refine go_aload_n dE_rowFor_3 rfl rfl ?_
    refine go_getV dE_rowFor_4 flE_37 rfl (by assumption) (by first | assumption | (simp (disch := omega) only [wi_I, ro_I, wi_In, wi_Is]; done) | (simp (disch := omega) only [wi_I, ro_I, wi_In, wi_Is]; first | assumption | rfl) | rfl) ?_
    refine go_icmp_geN (by omega) (by omega) dE_rowFor_7 (tgt := 44) (by decide) (fun c1 => ?_) (fun c1 => absurd c1 (by omega))
    refine go_bipush (-2) (by decide) dE_rowFor_44 ?_
    refine go_ireturn rfl dE_rowFor_46 ?_
    exact ⟨by rw [hx]; rfl, rfl⟩
  | succ r ih =>
    intro k hk hx
    have hkr : k < mR M := by omega
    obtain ⟨e1, e2, e3, e4⟩ := hM.2.1.2.2 k hkr
    obtain ⟨b1, b2, b3, b4⟩ := hmv.2.2.2.2 k hkr
    refine go_iload_n dE_rowFor_2 rfl rfl ?_
    refine go_aload_n dE_rowFor_3 rfl rfl ?_
    refine go_getV dE_rowFor_4 flE_37 rfl (by assumption) (by first | assumption | (simp (disch := omega) only [wi_I, ro_I, wi_In, wi_Is]; done) | (simp (disch := omega) only [wi_I, ro_I, wi_In, wi_Is]; first | assumption | rfl) | rfl) ?_
    refine go_icmp_geN (by omega) (by omega) dE_rowFor_7 (tgt := 44) (by decide) (fun c1 => absurd c1 (by omega)) (fun c1 => ?_)
    refine go_aload_n dE_rowFor_10 rfl rfl ?_
    refine go_iload_n dE_rowFor_11 rfl rfl ?_
    refine go_iload_n dE_rowFor_12 rfl rfl ?_
    refine go_cV (k' := (0, 0)) dE_rowFor_13 _ csE_67 (by assumption) rfl imE_rowCovers seE_rowCovers rfl (okE_rowCovers (d := 0) w G q k (nI P) (by omega) hM1) (by omega) (by decide) (Nat.le_of_ble_eq_true rfl) (fun r G1 hr hn => ?_)
    obtain ⟨rfl, hG⟩ := hr
    rw [hG]
    clear hG hn
    rw [e1, e2, hit_dec (by omega) (by omega) (by omega)]
    refine go_if_eqB dE_rowFor_16 (tgt := 38) (by decide) (fun c16 => ?_) (fun c16 => ?_)
    · refine go_inc dE_rowFor_38 rfl ?_
      refine go_goto dE_rowFor_41 (tgt := 2) (by decide) ?_
      first | exact ih (k + 1) (by omega) (hx.trans (xRow_c c33)) | exact ih (k + 1) (by omega) (hx.trans (xRow_h (of_decide_eq_false c16)))
    · refine go_getstatic (q := 2) (by decide) dE_rowFor_19 gsE_70 ?_
      refine go_iload_n dE_rowFor_22 rfl rfl ?_
      refine go_ialoadS (q := 2) (by decide) (vp_in_nI ht (by decide)) dE_rowFor_23 ?_
      rw [nI_clamp (by omega)]
      refine go_aload_n dE_rowFor_24 rfl rfl ?_
      refine go_getO dE_rowFor_25 flE_30 rfl (by assumption) (by assumption) ?_
      refine go_iload_n dE_rowFor_28 rfl rfl ?_
      refine go_ialV s7 (by omega) (by decide) e4 dE_rowFor_29 ?_
      refine go_cS (k' := (0, 0)) dE_rowFor_30 _ csE_73 stF_hasBit rfl (okF_hasBit (d := 0) w G (am_sf 2 t) (nI (mY M k))) (by omega) (by decide) (Nat.le_of_ble_eq_true rfl) (fun r G1 hr hn => ?_)
      obtain ⟨rfl, hG⟩ := hr
      rw [hG]
      clear hG hn
      rw [un_b t ht _ b4]
      refine go_if_eqB dE_rowFor_33 (tgt := 38) (by decide) (fun c33 => ?_) (fun c33 => ?_)
      · refine go_inc dE_rowFor_38 rfl ?_
        refine go_goto dE_rowFor_41 (tgt := 2) (by decide) ?_
        first | exact ih (k + 1) (by omega) (hx.trans (xRow_c c33)) | exact ih (k + 1) (by omega) (hx.trans (xRow_h (of_decide_eq_false c16)))
      · refine go_iload_n dE_rowFor_36 rfl rfl ?_
        refine go_ireturn rfl dE_rowFor_37 ?_
        exact ⟨by rw [hx, xRow_y (of_decide_eq_true c16).1 (of_decide_eq_true c16).2 c33]; rfl, rfl⟩
set_option maxRecDepth 100000 in
theorem okE_rowFor (w : am_W) {d : Nat} (hd : 1 ≤ d) (G : am_G) (q P t : Nat) (M : mT) (hM : hldM G q M) (hPp : P < 200) (ht : t < 8) : am_Ok w jE_rowFor d (0, 0) [.inr (some q), .inl (nI P), .inl (nI t)] G (fun r G' => r = some (.inl (rRes (xRow M P t (mR M) 0))) ∧ G' = G) := by
  refine am_ok_of rfl (Nat.le_of_ble_eq_true rfl) ?_
  show am_Go w jE_rowFor d (0, 0) 0 [some (.inr (some q)), some (.inl (nI P)), some (.inl (nI t)), none] [] G _
  refine go_iconst (nI 0) (by decide) dE_rowFor_0 ?_
  refine go_istore_n dE_rowFor_1 rfl (Nat.le_of_ble_eq_true rfl) ?_
  exact E_rf w hd G q P t M hM hPp ht (mR M) 0 (by omega) rfl
/-- the end of the search -/
theorem cX.endr {p h u t' : Nat} {G : am_G} {Q : Nat → mT} {s : xT} (X : cX p h (am_wi G h 1 (nI (16 + xY s u))) (xEnd s (16 + xY s u)) t' true) (hN : xN s = 0) : ∃ t', cX p h (am_wi G h 1 (nI (16 + xY s u))) (xRaise Q 0 s u) t' false ∧ (xO (xRaise Q 0 s u) = none → t' = 0) := ⟨t', X.m0 hN, (fun e => by cases e)⟩
set_option maxRecDepth 100000 in
theorem M_fr (w : am_W) {d : Nat} (hd : 4 ≤ d) (G0 : am_G) (p h m : Nat) (Q : Nat → mT) (Z : Nat → fM) (hp : p < 2) :
    ∀ (n : Nat) (s : xT) (u : Nat) (G : am_G) (l2 l3 l4 : Option am_V), n = xN s → tB Q Z m s → (1 ≤ xN s → tyM Q Z m (lM s.1) (xC s)) → 1 ≤ u → u ≤ lM s.1 → lM s.1 + xH s ≤ 1000 → lNn s.1 + xH s + 3 * n + 1 < 900000 → lH s.1 < 900000 → St0 G → cX p h G s u true → hldP G p Q → oM h G0 G → am_Go w jM_findRow d (0, 0) 5 [some (.inr (some 109)), some (.inl (nI n)), l2, l3, l4] [] G (fun r G' => r = none ∧ (∃ t', cX p h G' (xRaise Q n s u) t' false ∧ (xO (xRaise Q n s u) = none → t' = 0)) ∧ oM h G0 G') := by
  intro n
  induction n with
  | zero =>
    intro s u G l2 l3 l4 hn hb hc h1 h2 hM hl hH hS X hP ho
    have th := X.th
    have oy := X.oy h1 h2
    have hh := X.hh
    obtain ⟨k9, k10, k11, k12, k13, kh, kh1, g0, g1, g2, g3, gh⟩ := hS.cq hh
    have lg := X.lg
    have pr := X.pr
    refine go_iload_n dM_findRow_5 rfl rfl ?_
    refine go_if_leN (by omega) dM_findRow_6 (tgt := 127) (by decide) (fun c1 => ?_) (fun c1 => absurd c1 (by omega))
    refine go_aload_n dM_findRow_127 rfl rfl ?_
    refine go_getV dM_findRow_128 flM_48 rfl (by assumption) (by first | assumption | (simp (disch := omega) only [wi_I, ro_I, wi_In, wi_Is]; done) | (simp (disch := omega) only [wi_I, ro_I, wi_In, wi_Is]; first | assumption | rfl) | rfl) ?_
    refine go_if_eqN (by omega) dM_findRow_131 (tgt := 153) (by decide) (fun c1 => absurd c1 (by omega)) (fun c1 => ?_)
    refine go_aload_n dM_findRow_134 rfl rfl ?_
    refine go_getO dM_findRow_135 flM_32 rfl (by assumption) (by assumption) ?_
    refine go_bipush (nI 16) (by decide) dM_findRow_138 ?_
    refine go_aload_n dM_findRow_140 rfl rfl ?_
    refine go_getO dM_findRow_141 flM_17 rfl (by assumption) (by assumption) ?_
    refine go_aload_n dM_findRow_144 rfl rfl ?_
    refine go_getV dM_findRow_145 flM_48 rfl (by assumption) (by first | assumption | (simp (disch := omega) only [wi_I, ro_I, wi_In, wi_Is]; done) | (simp (disch := omega) only [wi_I, ro_I, wi_In, wi_Is]; first | assumption | rfl) | rfl) ?_
    refine go_ialV k11 (by omega) (by decide) oy dM_findRow_148 ?_
    first | refine go_iaddN dM_findRow_149 ?_ | refine go_iadd dM_findRow_149 ?_
    refine go_putI dM_findRow_150 fpM_58 rfl (by assumption) ?_
    refine go_return rfl dM_findRow_153 ?_
    exact ⟨rfl, cX.endr X.fin hn.symm, ho.tr oM.l⟩
  | succ n ih =>
    intro s u G l2 l3 l4 hn hb hc h1 h2 hM hl hH hS X hP ho
    have th := X.th
    have oy := X.oy h1 h2
    have hN : 1 ≤ xN s := by omega
    have h12 := X.n12
    have ty8 := hb.1 u h1 h2
    obtain ⟨t1, -, t3, t4, -⟩ := hc hN
    have hn6 := (hP _ t1).2.2.1.1
    have hh := X.hh
    obtain ⟨k9, k10, k11, k12, k13, kh, kh1, g0, g1, g2, g3, gh⟩ := hS.cq hh
    have lg := X.lg
    have pr := X.pr
    obtain ⟨f0, f1, f2, f3, f4, f5⟩ := hS.fq (i := xN s - 1) (by omega)
    have nn := X.nn
    obtain ⟨⟨nu, -, -, -⟩, -⟩ := X.cf hN
    have pl := (X.cp hN).1
    obtain ⟨p1, p2, p3, p4⟩ := pr_l p hp
    have u1 := hS.s p1
    have u2 := hS.s p2
    have u3 := hS.r p3
    have u4 := hS.r (pm_l p hp _ t1)
    have um := (hP _ t1).1.1
    obtain ⟨-, ⟨r0, r1, r2, r3, r4, r5, r6⟩, s1, s2, s3, s4, s5, s6, s7⟩ := (hP _ t1).1
    refine go_iload_n dM_findRow_5 rfl rfl ?_
    refine go_if_leN (by omega) dM_findRow_6 (tgt := 127) (by decide) (fun c1 => absurd c1 (by omega)) (fun c1 => ?_)
    refine go_aload_n dM_findRow_9 rfl rfl ?_
    refine go_getV dM_findRow_10 flM_48 rfl (by assumption) (by first | assumption | (simp (disch := omega) only [wi_I, ro_I, wi_In, wi_Is]; done) | (simp (disch := omega) only [wi_I, ro_I, wi_In, wi_Is]; first | assumption | rfl) | rfl) ?_
    refine go_if_eqN (by omega) dM_findRow_13 (tgt := 127) (by decide) (fun c1 => absurd c1 (by omega)) (fun c1 => ?_)
    refine go_aload_n dM_findRow_16 rfl rfl ?_
    refine go_getO dM_findRow_17 flM_11 rfl (by assumption) (by assumption) ?_
    refine go_iload_n dM_findRow_20 rfl rfl ?_
    refine go_iconst (nI 1) (by decide) dM_findRow_21 ?_
    refine go_isubN (by omega) dM_findRow_22 ?_
    rw [show n + 1 - 1 = xN s - 1 by omega]
    refine go_aaO (t := 2) (by decide) k10 (show xN s - 1 < 12 by omega) (by decide) f3 dM_findRow_23 ?_
    refine go_astore_n dM_findRow_24 rfl (Nat.le_of_ble_eq_true rfl) ?_
    refine go_aload_n dM_findRow_25 rfl rfl ?_
    refine go_getO dM_findRow_26 flM_28 rfl (by assumption) (by assumption) ?_
    refine go_getO dM_findRow_29 flM_84 rfl (by assumption) (by assumption) ?_
    refine go_aload_n dM_findRow_32 rfl rfl ?_
    refine go_getV dM_findRow_33 flM_99 rfl (by assumption) (by first | assumption | (simp (disch := omega) only [wi_I, ro_I, wi_In, wi_Is]; done) | (simp (disch := omega) only [wi_I, ro_I, wi_In, wi_Is]; first | assumption | rfl) | rfl) ?_
    refine go_aaO (t := 1) (by decide) u2 t1 (by decide) u4 dM_findRow_36 ?_
    refine go_astore_n dM_findRow_37 rfl (Nat.le_of_ble_eq_true rfl) ?_
    refine go_aload_n dM_findRow_38 rfl rfl ?_
    refine go_aload_n dM_findRow_39 rfl rfl ?_
    refine go_getV dM_findRow_40 flM_105 rfl (by assumption) (by first | assumption | (simp (disch := omega) only [wi_I, ro_I, wi_In, wi_Is]; done) | (simp (disch := omega) only [wi_I, ro_I, wi_In, wi_Is]; first | assumption | rfl) | rfl) ?_
    refine go_aload_n dM_findRow_43 rfl rfl ?_
    refine go_getO dM_findRow_44 flM_17 rfl (by assumption) (by assumption) ?_
    refine go_aload_n dM_findRow_47 rfl rfl ?_
    refine go_getV dM_findRow_48 flM_48 rfl (by assumption) (by first | assumption | (simp (disch := omega) only [wi_I, ro_I, wi_In, wi_Is]; done) | (simp (disch := omega) only [wi_I, ro_I, wi_In, wi_Is]; first | assumption | rfl) | rfl) ?_
    refine go_ialV k11 (by omega) (by decide) oy dM_findRow_51 ?_
    refine go_cV (k' := (0, 0)) dM_findRow_52 _ csM_191 (by assumption) rfl imE_rowFor seE_rowFor rfl (okE_rowFor (d := 1) w (by decide) G _ (uP (xC s)) (xY s u) _ (hP _ t1) (by omega) ty8) (by omega) (by decide) (Nat.le_of_ble_eq_true rfl) (fun r G1 hr hn => ?_)
    obtain ⟨rfl, hG⟩ := hr
    rw [hG]
    clear hG hn
    cases he : xRow (Q (uM (xC s))) (uP (xC s)) (xY s u) (mR (Q (uM (xC s)))) 0 with
    | none =>
      rw [show rRes none = -2 from rfl]
      refine go_istore dM_findRow_55 (Nat.le_of_ble_eq_true rfl) ?_
      refine go_iload dM_findRow_57 rfl ?_
      refine go_bipush (-2) (by decide) dM_findRow_59 ?_
      refine go_icmp_ne dM_findRow_61 (tgt := 71) (by decide) (fun c1 => absurd rfl c1) (fun c1 => ?_)
      refine go_aload_n dM_findRow_64 rfl rfl ?_
      refine go_cV (k' := (0, 0)) dM_findRow_65 _ csM_140 (by assumption) rfl imM_closeFrame seM_closeFrame rfl (okM_closeFrame (d := 3) w (by decide) G p h u s Q hp hN t1 t4 hM (by omega) hS X hP) (by omega) (by decide) (Nat.le_of_ble_eq_true rfl) (fun r G1 hr hn => ?_)
      obtain ⟨rfl, X1, o1⟩ := hr
      obtain ⟨f1, f2, f3, f4, f5, f6, f7, f8, f9, f10, f11, f12⟩ := xFin_ty (Q := Q) (o := u) hb hN h2
      refine go_goto dM_findRow_68 (tgt := 121) (by decide) ?_
      refine go_iinc dM_findRow_121 rfl ?_
      rw [nM_d, nM_1]
      refine go_goto dM_findRow_124 (tgt := 5) (by decide) ?_
      rw [xRaise_n he]
      exact ih _ _ G1 _ _ _ (by omega) f1 (fun q => (f2 q).m) (f6 h1) f5 (by omega) (by omega) (by omega) (o1.St hS) X1 (hP.m hp hh o1) (ho.tr o1)
    | some q =>
      rw [show rRes (some q) = nI q from rfl]
      obtain ⟨q1, -⟩ := xRow_some he
      have hq8 := (hP _ t1).2.2.1.2.1
      obtain ⟨-, -, e3, -⟩ := (hP _ t1).2.1.2.2 q (by omega)
      refine go_istore dM_findRow_55 (Nat.le_of_ble_eq_true rfl) ?_
      refine go_iload dM_findRow_57 rfl ?_
      refine go_bipush (-2) (by decide) dM_findRow_59 ?_
      refine go_icmp_ne dM_findRow_61 (tgt := 71) (by decide) (fun c1 => ?_) (fun c1 => absurd c1 (nI_m2 (by omega)))
      refine go_aload_n dM_findRow_71 rfl rfl ?_
      refine go_aload_n dM_findRow_72 rfl rfl ?_
      refine go_getV dM_findRow_73 flM_48 rfl (by assumption) (by first | assumption | (simp (disch := omega) only [wi_I, ro_I, wi_In, wi_Is]; done) | (simp (disch := omega) only [wi_I, ro_I, wi_In, wi_Is]; first | assumption | rfl) | rfl) ?_
      refine go_aload_n dM_findRow_76 rfl rfl ?_
      refine go_getO dM_findRow_77 flM_194 rfl (by assumption) (by assumption) ?_
      refine go_iload dM_findRow_80 rfl ?_
      refine go_ialV s6 (by omega) (by decide) e3 dM_findRow_82 ?_
      refine go_cV (k' := (0, 0)) dM_findRow_83 _ csM_197 (by assumption) rfl imA_goOnWith seA_goOnWith rfl (okA_goOnWith (d := 1) w (by decide) G (xN s - 1) (by omega) hS (nI u) (nI (mP (Q (uM (xC s))) q))) (by omega) (by decide) (Nat.le_of_ble_eq_true rfl) (fun r G1 hr hn => ?_)
      obtain ⟨rfl, hG⟩ := hr
      have X1 : cX p h G1 (xSet s (uHave (xC s) u (mP (Q (uM (xC s))) q))) u false := by rw [hG]; exact X.hav hN
      have o1 : oM h G G1 := by rw [hG]; exact (((oM.w ⟨by omega, by omega⟩).tr (oM.w ⟨by omega, by omega⟩)).tr (oM.w ⟨by omega, by omega⟩)).tr (oM.w ⟨by omega, by omega⟩)
      clear hG hn
      have hS := o1.St hS
      obtain ⟨k9, k10, k11, k12, k13, kh, kh1, g0, g1, g2, g3, gh⟩ := hS.cq hh
      have lg := X1.lg
      have th1 : G1.2.1 109 8 = nI u := X1.th
      have oy1 : G1.2.1 111 u = nI (xY s u) := X1.oy h1 h2
      have hd1 : G1.2.1 h 7 = nI (lH s.1) := X1.1.2.2.2.2.2.1
      refine go_aload_n dM_findRow_86 rfl rfl ?_
      refine go_getO dM_findRow_87 flM_32 rfl (by assumption) (by assumption) ?_
      refine go_dup dM_findRow_90 ?_
      refine go_getV dM_findRow_91 flM_200 rfl (by assumption) (by first | assumption | (simp (disch := omega) only [wi_I, ro_I, wi_In, wi_Is]; done) | (simp (disch := omega) only [wi_I, ro_I, wi_In, wi_Is]; first | assumption | rfl) | rfl) ?_
      refine go_iconst (nI 1) (by decide) dM_findRow_94 ?_
      first | refine go_iaddN dM_findRow_95 ?_ | refine go_iadd dM_findRow_95 ?_
      refine go_putI dM_findRow_96 fpM_200 rfl (by assumption) ?_
      refine go_aload_n dM_findRow_99 rfl rfl ?_
      refine go_getO dM_findRow_100 flM_32 rfl (by assumption) (by assumption) ?_
      refine go_iconst (nI 5) (by decide) dM_findRow_103 ?_
      refine go_aload_n dM_findRow_104 rfl rfl ?_
      refine go_getO dM_findRow_105 flM_17 rfl (by assumption) (by assumption) ?_
      refine go_aload_n dM_findRow_108 rfl rfl ?_
      refine go_getV dM_findRow_109 flM_48 rfl (by assumption) (by first | assumption | (simp (disch := omega) only [wi_I, ro_I, wi_In, wi_Is]; done) | (simp (disch := omega) only [wi_I, ro_I, wi_In, wi_Is]; first | assumption | rfl) | rfl) ?_
      refine go_ialV k11 (by omega) (by decide) (wi_V (by omega) oy1) dM_findRow_112 ?_
      refine go_cV (k' := (0, 0)) dM_findRow_113 _ csM_96 (by assumption) rfl imL_note seL_note rfl (okL_note (d := 0) w _ h 5 (nI (xY s u)) _ hh (by exact hS) X1.had.1 (show lNn s.1 < 1000000 by omega)) (by omega) (by decide) (Nat.le_of_ble_eq_true rfl) (fun r G1 hr hn => ?_)
      obtain ⟨rfl, L3, o3⟩ := hr
      have X3 : cX p h G1 (xTell (xHad (xSet s (uHave (xC s) u (mP (Q (uM (xC s))) q)))) (nI (xY s u)) 5) u false := X1.had.tell L3 o3
      have oq : oM h G G1 := (o1.tr oM.l).tr o3.m
      have hS := o3.m.St (G := am_wi _ h 7 (nI (lH s.1 + 1))) hS
      have k9 := hS.s sh_109
      refine go_aload_n dM_findRow_116 rfl rfl ?_
      refine go_iconst (nI 0) (by decide) dM_findRow_117 ?_
      refine go_putI dM_findRow_118 fpM_48 rfl (by assumption) ?_
      refine go_iinc dM_findRow_121 rfl ?_
      rw [nM_d, nM_1]
      refine go_goto dM_findRow_124 (tgt := 5) (by decide) ?_
      have X4 := X3.thr (u := 0)
      have S4 : St0 (am_wi G1 109 8 (nI 0)) := hS
      have k94 := S4.s sh_109
      have th4 : (am_wi G1 109 8 (nI 0)).2.1 109 8 = nI 0 := wi_Is
      refine go_iload_n dM_findRow_5 rfl rfl ?_
      refine go_if_leN (by omega) dM_findRow_6 (tgt := 127) (by decide) (fun c1 => ?_) (fun c1 => ?_)
      · refine go_aload_n dM_findRow_127 rfl rfl ?_
        refine go_getV dM_findRow_128 flM_48 rfl k94 th4 ?_
        refine go_if_eqN (by decide) dM_findRow_131 (tgt := 153) (by decide) (fun c2 => ?_) (fun c2 => absurd rfl c2)
        refine go_return rfl dM_findRow_153 ?_
        exact ⟨rfl, ⟨0, by rw [xRaise_s he]; exact X4.hvt, fun _ => rfl⟩, (ho.tr oq).tr (oM.w ⟨by decide, by decide⟩)⟩
      · refine go_aload_n dM_findRow_9 rfl rfl ?_
        refine go_getV dM_findRow_10 flM_48 rfl k94 th4 ?_
        refine go_if_eqN (by decide) dM_findRow_13 (tgt := 127) (by decide) (fun c2 => ?_) (fun c2 => absurd rfl c2)
        refine go_aload_n dM_findRow_127 rfl rfl ?_
        refine go_getV dM_findRow_128 flM_48 rfl k94 th4 ?_
        refine go_if_eqN (by decide) dM_findRow_131 (tgt := 153) (by decide) (fun c3 => ?_) (fun c3 => absurd rfl c3)
        refine go_return rfl dM_findRow_153 ?_
        exact ⟨rfl, ⟨0, by rw [xRaise_s he]; exact X4.hvt, fun _ => rfl⟩, (ho.tr oq).tr (oM.w ⟨by decide, by decide⟩)⟩
set_option maxRecDepth 100000 in
theorem okM_findRow (w : am_W) {d : Nat} (hd : 4 ≤ d) (G : am_G) (p h m u : Nat) (s : xT) (Q : Nat → mT) (Z : Nat → fM) (hp : p < 2) (hb : tB Q Z m s) (hc : 1 ≤ xN s → tyM Q Z m (lM s.1) (xC s)) (h1 : 1 ≤ u) (h2 : u ≤ lM s.1) (hM : lM s.1 + xH s ≤ 1000) (hl : lNn s.1 + xH s < 800000) (hH : lH s.1 < 900000) (hS : St0 G) (X : cX p h G s u true) (hP : hldP G p Q) : am_Ok w jM_findRow d (0, 0) [.inr (some 109)] G (fun r G' => r = none ∧ (∃ t', cX p h G' (xRaise Q (xN s) s u) t' false ∧ (xO (xRaise Q (xN s) s u) = none → t' = 0)) ∧ oM h G G') := by
  refine am_ok_of rfl (Nat.le_of_ble_eq_true rfl) ?_
  show am_Go w jM_findRow d (0, 0) 0 [some (.inr (some 109)), none, none, none, none] [] G _
  have k9 := hS.s sh_109
  have nn := X.nn
  refine go_aload_n dM_findRow_0 rfl rfl ?_
  refine go_getV dM_findRow_1 flM_41 rfl (by assumption) (by first | assumption | (simp (disch := omega) only [wi_I, ro_I, wi_In, wi_Is]; done) | (simp (disch := omega) only [wi_I, ro_I, wi_In, wi_Is]; first | assumption | rfl) | rfl) ?_
  refine go_istore_n dM_findRow_4 rfl (Nat.le_of_ble_eq_true rfl) ?_
  exact M_fr w hd G p h m Q Z hp (xN s) s u G _ _ _ rfl hb hc h1 h2 hM (by have := X.n12; omega) hH hS X hP oM.rf
