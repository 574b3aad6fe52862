section Xi
variable {Q : Nat → mT} {s : xT} {a b k : Nat} {A B : Int32}
theorem xIns_op (h : mO (Q (uM (xC s))) (uP (xC s)) = k) (hA : mA (Q (uM (xC s))) (uP (xC s)) = A) (hB : mB (Q (uM (xC s))) (uP (xC s)) = B) : xIns Q s = xDo Q s k A B := by
  unfold xIns
  rw [h, hA, hB]
theorem xd_2 (ha : a < 8) : xDo Q s 2 (nI a) B = xOn s (uPush (xC s) (uGet (xC s) a)) := by
  show xOn s (uPush (xC s) (uGet (xC s) (nI a).toNatClampNeg)) = _
  rw [nI_clamp (by omega)]
theorem xd_3 (ha : a < 8) : xDo Q s 3 (nI a) B = xOn s (uSt (uPop (xC s)) a (uTop (xC s))) := by
  show xOn s (uSt (uPop (xC s)) (nI a).toNatClampNeg (uTop (xC s))) = _
  rw [nI_clamp (by omega)]
theorem xd_11 (hb : b < 120) : xDo Q s 11 A (nI b) = (xSet s (uGo (xC s) b), 0) := by
  show (xSet s (uGo (xC s) (nI b).toNatClampNeg), 0) = _
  rw [nI_clamp (by omega)]
theorem xd_12 (hb : b < 120) : xDo Q s 12 A (nI b) = (xSet s (uGo (uPop (xC s)) (if cnd A (uTop (xC s)) = true then b else uP (xC s) + 1)), 0) := by
  show (xSet s (uGo (uPop (xC s)) (if cnd A (uTop (xC s)) = true then (nI b).toNatClampNeg else uP (xC s) + 1)), 0) = _
  rw [nI_clamp (by omega)]
theorem xd_14 (ha : a < 8) : xDo Q s 14 (nI a) B = xOn (xMake s a) (uPush (xC s) (nI (lM s.1 + 1))) := by
  show xOn (xMake s (nI a).toNatClampNeg) (uPush (xC s) (nI (lM s.1 + 1))) = _
  rw [nI_clamp (by omega)]
theorem xd_17 (hb : b < 120) : xDo Q s 17 A (nI b) = (xSet s (uGo (uPop (xC s)) (if uTop (xC s) = nI 0 then b else uP (xC s) + 1)), 0) := by
  show (xSet s (uGo (uPop (xC s)) (if uTop (xC s) = nI 0 then (nI b).toNatClampNeg else uP (xC s) + 1)), 0) = _
  rw [nI_clamp (by omega)]
theorem xd_21 (ha : a < 6) : xDo Q s 21 (nI a) B = if xN s = 12 then xNew s 4 else (xCall Q s a, 0) := by
  show (if xN s = 12 then xNew s 4 else (xCall Q s (nI a).toNatClampNeg, 0)) = _
  rw [nI_clamp (by omega)]
theorem xd_23 (hb : b < 120) : xDo Q s 23 A (nI b) = (xSet s (uGo (uPush (xC s) (nI (uP (xC s) + 1))) b), 0) := by
  show (xSet s (uGo (uPush (xC s) (nI (uP (xC s) + 1))) (nI b).toNatClampNeg), 0) = _
  rw [nI_clamp (by omega)]
theorem xd_24 {j : Nat} (ha : a < 8) (hj : j < 61) (hg : uGet (xC s) a = nI j) : xDo Q s 24 (nI a) B = (xSet s (uGo (xC s) j), 0) := by
  show (xSet s (uGo (xC s) (uGet (xC s) (nI a).toNatClampNeg).toNatClampNeg), 0) = _
  rw [nI_clamp (n := a) (by omega), hg, nI_clamp (by omega)]
theorem xd_27 (ha : a < 8) : xDo Q s 27 (nI a) B = xOn s (uSt (xC s) a (uGet (xC s) a + B)) := by
  show xOn s (uSt (xC s) (nI a).toNatClampNeg (uGet (xC s) (nI a).toNatClampNeg + B)) = _
  rw [nI_clamp (by omega)]
theorem xObj_0 {t : xT} {x : Int32} {q : xT × Nat} (hx : x = nI 0) : xObj t x q = xNew t 2 := if_pos hx
theorem xObj_1 {t : xT} {x : Int32} {q : xT × Nat} {o : Nat} (hx : x = nI o) (h1 : 1 ≤ o) (h2 : o ≤ 1000) : xObj t x q = q := if_neg (fun e => by
  rw [hx] at e
  have := (nI_eq (by omega) (by decide)).mp e
  omega)
theorem uDup {f : uT} (h : 1 ≤ uD f) : uPush (uPop f) (uTop f) = f := by
  show (uM f, uP f, uD f - 1 + 1, uB f, va_up (uV f) (uD f - 1) (uV f (uD f - 1)), uL f) = _
  have e : va_up (uV f) (uD f - 1) (uV f (uD f - 1)) = uV f := by
    funext i
    by_cases e : i = uD f - 1
    · rw [e, am_up_eq]
    · rw [am_up_ne e]
  rw [e, Nat.sub_add_cancel h]
theorem cnd_0t {v : Int32} (h : v = 0) : cnd (nI 0) v = true := by unfold cnd; rw [if_pos rfl]; exact decide_eq_true h
theorem cnd_0f {v : Int32} (h : ¬ v = 0) : cnd (nI 0) v = false := by unfold cnd; rw [if_pos rfl]; exact decide_eq_false h
theorem cnd_1t {v : Int32} (h : ¬ v = 0) : cnd (nI 1) v = true := by unfold cnd; rw [if_neg (by decide), if_pos rfl]; exact decide_eq_true h
theorem cnd_1f {v : Int32} (h : v = 0) : cnd (nI 1) v = false := by unfold cnd; rw [if_neg (by decide), if_pos rfl]; exact decide_eq_false (fun q => q h)
theorem cnd_2t {v : Int32} (h : ¬ 0 ≤ v) : cnd (nI 2) v = true := by unfold cnd; rw [if_neg (by decide), if_neg (by decide)]; exact decide_eq_true (i_nle.mp h)
theorem cnd_2f {v : Int32} (h : 0 ≤ v) : cnd (nI 2) v = false := by unfold cnd; rw [if_neg (by decide), if_neg (by decide)]; exact decide_eq_false (i_nlt.mpr h)
end Xi
section Xg
variable {p : Nat} {G : am_G} {s : xT} {f : uT} {a b : Nat}
theorem xR.gt {c : Prop} [Decidable c] (h : xR p G (xSet s f)) (hN : 1 ≤ xN s) (hc : c) : xR p (am_wi G 186 (xN s - 1) (nI a)) (xSet s (uGo f (if c then a else b))) := by
  rw [if_pos hc]
  exact xR.go h hN
theorem xR.gf {c : Prop} [Decidable c] (h : xR p G (xSet s f)) (hN : 1 ≤ xN s) (hc : ¬ c) : xR p (am_wi G 186 (xN s - 1) (nI b)) (xSet s (uGo f (if c then a else b))) := by
  rw [if_neg hc]
  exact xR.go h hN
theorem nt_f {c : Bool} (h : c = false) : ¬ c = true := by rw [h]; decide
end Xg

set_option maxRecDepth 100000 in
theorem okR_sum7 (w : am_W) {d : Nat} (hd : 1 ≤ d) (G : am_G) (p : Nat) (s : xT) (x y : Int32) (hN : 1 ≤ xN s) (h12 : xN s ≤ 12) (h8 : uD (xC s) < 8) (hS : St0 G) (h : xR p G s) : am_Ok w jR_sum d (0, 0) [.inr (some 163), .inl (nI 7), .inl x, .inl y] G (fun r G' => r = none ∧ xR p G' (xSet s (uGo (uPush (xC s) (x + y)) (uP (xC s) + 1))) ∧ oX G G') := by
  refine am_ok_of rfl (Nat.le_of_ble_eq_true rfl) ?_
  show am_Go w jR_sum d (0, 0) 0 [some (.inr (some 163)), some (.inl (nI 7)), some (.inl x), some (.inl y)] [] G _
  refine go_iload_n dR_sum_0 rfl rfl ?_
  refine go_bipush (nI 10) (by decide) dR_sum_1 ?_
  refine go_icmp_neN (by decide) (by decide) dR_sum_3 (tgt := 16) (by decide) (fun c1 => ?_) (fun c1 => absurd c1 (by decide))
  refine go_aload_n dR_sum_16 rfl rfl ?_
  refine go_iload_n dR_sum_17 rfl rfl ?_
  refine go_bipush (nI 7) (by decide) dR_sum_18 ?_
  refine go_icmp_neN (by decide) (by decide) dR_sum_20 (tgt := 29) (by decide) (fun c1 => absurd c1 (by decide)) (fun c1 => ?_)
  refine go_iload_n dR_sum_23 rfl rfl ?_
  refine go_iload_n dR_sum_24 rfl rfl ?_
  refine go_iadd dR_sum_25 ?_
  refine go_goto dR_sum_26 (tgt := 56) (by decide) ?_
  refine go_cV (k' := (0, 0)) dR_sum_56 _ csR_244 (hS.s sh_163) rfl imR_give seR_give rfl (okR_give (d := 0) w G p s hN h12 (x + y) h8 hS h) (by omega) (by decide) (Nat.le_of_ble_eq_true rfl) (fun r G1 hr hn => ?_)
  obtain ⟨rfl, X1, o1⟩ := hr
  have nn2 : G1.2.1 163 36 = nI (xN s) := X1.nn
  have pl2 : G1.2.1 186 (xN s - 1) = nI (uP (xC s)) := X1.pl hN
  have hS := o1.St hS
  refine go_aload_n dR_sum_59 rfl rfl ?_
  refine go_getO (a := 186) dR_sum_60 flR_77 rfl (hS.s sh_163) (hS.r rt_fPlace) ?_
  refine go_aload_n dR_sum_63 rfl rfl ?_
  refine go_getV dR_sum_64 flR_200 rfl (hS.s sh_163) (by first | assumption | (simp (disch := omega) only [wi_I, ro_I, wi_In, wi_Is]; done) | (simp (disch := omega) only [wi_I, ro_I, wi_In, wi_Is]; first | assumption | rfl) | rfl) ?_
  refine go_iconst (nI 1) (by decide) dR_sum_67 ?_
  first | refine go_isubN (by omega) dR_sum_68 ?_ | refine go_isub dR_sum_68 ?_
  refine go_dup2 dR_sum_69 ?_
  first | refine go_ialV (hS.s sh_186) (by omega) (by decide) (by assumption) dR_sum_70 ?_ | refine go_ialoadN (hS.s sh_186) (by omega) (by decide) dR_sum_70 ?_
  refine go_iconst (nI 1) (by decide) dR_sum_71 ?_
  first | refine go_iaddN dR_sum_72 ?_ | refine go_iadd dR_sum_72 ?_
  refine go_iastoreN (hS.s sh_186) (by omega) (by decide) dR_sum_73 ?_
  refine go_return rfl dR_sum_74 ?_
  exact ⟨rfl, X1.go hN, o1.tr (oX.wi ⟨by decide, by decide⟩)⟩
set_option maxRecDepth 100000 in
theorem okR_sum8 (w : am_W) {d : Nat} (hd : 1 ≤ d) (G : am_G) (p : Nat) (s : xT) (x y : Int32) (hN : 1 ≤ xN s) (h12 : xN s ≤ 12) (h8 : uD (xC s) < 8) (hS : St0 G) (h : xR p G s) : am_Ok w jR_sum d (0, 0) [.inr (some 163), .inl (nI 8), .inl x, .inl y] G (fun r G' => r = none ∧ xR p G' (xSet s (uGo (uPush (xC s) (x - y)) (uP (xC s) + 1))) ∧ oX G G') := by
  refine am_ok_of rfl (Nat.le_of_ble_eq_true rfl) ?_
  show am_Go w jR_sum d (0, 0) 0 [some (.inr (some 163)), some (.inl (nI 8)), some (.inl x), some (.inl y)] [] G _
  refine go_iload_n dR_sum_0 rfl rfl ?_
  refine go_bipush (nI 10) (by decide) dR_sum_1 ?_
  refine go_icmp_neN (by decide) (by decide) dR_sum_3 (tgt := 16) (by decide) (fun c1 => ?_) (fun c1 => absurd c1 (by decide))
  refine go_aload_n dR_sum_16 rfl rfl ?_
  refine go_iload_n dR_sum_17 rfl rfl ?_
  refine go_bipush (nI 7) (by decide) dR_sum_18 ?_
  refine go_icmp_neN (by decide) (by decide) dR_sum_20 (tgt := 29) (by decide) (fun c1 => ?_) (fun c1 => absurd c1 (by decide))
  refine go_iload_n dR_sum_29 rfl rfl ?_
  refine go_bipush (nI 8) (by decide) dR_sum_30 ?_
  refine go_icmp_neN (by decide) (by decide) dR_sum_32 (tgt := 41) (by decide) (fun c1 => absurd c1 (by decide)) (fun c1 => ?_)
  refine go_iload_n dR_sum_35 rfl rfl ?_
  refine go_iload_n dR_sum_36 rfl rfl ?_
  refine go_isub dR_sum_37 ?_
  refine go_goto dR_sum_38 (tgt := 56) (by decide) ?_
  refine go_cV (k' := (0, 0)) dR_sum_56 _ csR_244 (hS.s sh_163) rfl imR_give seR_give rfl (okR_give (d := 0) w G p s hN h12 (x - y) h8 hS h) (by omega) (by decide) (Nat.le_of_ble_eq_true rfl) (fun r G1 hr hn => ?_)
  obtain ⟨rfl, X1, o1⟩ := hr
  have nn2 : G1.2.1 163 36 = nI (xN s) := X1.nn
  have pl2 : G1.2.1 186 (xN s - 1) = nI (uP (xC s)) := X1.pl hN
  have hS := o1.St hS
  refine go_aload_n dR_sum_59 rfl rfl ?_
  refine go_getO (a := 186) dR_sum_60 flR_77 rfl (hS.s sh_163) (hS.r rt_fPlace) ?_
  refine go_aload_n dR_sum_63 rfl rfl ?_
  refine go_getV dR_sum_64 flR_200 rfl (hS.s sh_163) (by first | assumption | (simp (disch := omega) only [wi_I, ro_I, wi_In, wi_Is]; done) | (simp (disch := omega) only [wi_I, ro_I, wi_In, wi_Is]; first | assumption | rfl) | rfl) ?_
  refine go_iconst (nI 1) (by decide) dR_sum_67 ?_
  first | refine go_isubN (by omega) dR_sum_68 ?_ | refine go_isub dR_sum_68 ?_
  refine go_dup2 dR_sum_69 ?_
  first | refine go_ialV (hS.s sh_186) (by omega) (by decide) (by assumption) dR_sum_70 ?_ | refine go_ialoadN (hS.s sh_186) (by omega) (by decide) dR_sum_70 ?_
  refine go_iconst (nI 1) (by decide) dR_sum_71 ?_
  first | refine go_iaddN dR_sum_72 ?_ | refine go_iadd dR_sum_72 ?_
  refine go_iastoreN (hS.s sh_186) (by omega) (by decide) dR_sum_73 ?_
  refine go_return rfl dR_sum_74 ?_
  exact ⟨rfl, X1.go hN, o1.tr (oX.wi ⟨by decide, by decide⟩)⟩
set_option maxRecDepth 100000 in
theorem okR_sum9 (w : am_W) {d : Nat} (hd : 1 ≤ d) (G : am_G) (p : Nat) (s : xT) (x y : Int32) (hN : 1 ≤ xN s) (h12 : xN s ≤ 12) (h8 : uD (xC s) < 8) (hS : St0 G) (h : xR p G s) : am_Ok w jR_sum d (0, 0) [.inr (some 163), .inl (nI 9), .inl x, .inl y] G (fun r G' => r = none ∧ xR p G' (xSet s (uGo (uPush (xC s) (x * y)) (uP (xC s) + 1))) ∧ oX G G') := by
  refine am_ok_of rfl (Nat.le_of_ble_eq_true rfl) ?_
  show am_Go w jR_sum d (0, 0) 0 [some (.inr (some 163)), some (.inl (nI 9)), some (.inl x), some (.inl y)] [] G _
  refine go_iload_n dR_sum_0 rfl rfl ?_
  refine go_bipush (nI 10) (by decide) dR_sum_1 ?_
  refine go_icmp_neN (by decide) (by decide) dR_sum_3 (tgt := 16) (by decide) (fun c1 => ?_) (fun c1 => absurd c1 (by decide))
  refine go_aload_n dR_sum_16 rfl rfl ?_
  refine go_iload_n dR_sum_17 rfl rfl ?_
  refine go_bipush (nI 7) (by decide) dR_sum_18 ?_
  refine go_icmp_neN (by decide) (by decide) dR_sum_20 (tgt := 29) (by decide) (fun c1 => ?_) (fun c1 => absurd c1 (by decide))
  refine go_iload_n dR_sum_29 rfl rfl ?_
  refine go_bipush (nI 8) (by decide) dR_sum_30 ?_
  refine go_icmp_neN (by decide) (by decide) dR_sum_32 (tgt := 41) (by decide) (fun c1 => ?_) (fun c1 => absurd c1 (by decide))
  refine go_iload_n dR_sum_41 rfl rfl ?_
  refine go_bipush (nI 9) (by decide) dR_sum_42 ?_
  refine go_icmp_neN (by decide) (by decide) dR_sum_44 (tgt := 53) (by decide) (fun c1 => absurd c1 (by decide)) (fun c1 => ?_)
  refine go_iload_n dR_sum_47 rfl rfl ?_
  refine go_iload_n dR_sum_48 rfl rfl ?_
  refine go_imul dR_sum_49 ?_
  refine go_goto dR_sum_50 (tgt := 56) (by decide) ?_
  refine go_cV (k' := (0, 0)) dR_sum_56 _ csR_244 (hS.s sh_163) rfl imR_give seR_give rfl (okR_give (d := 0) w G p s hN h12 (x * y) h8 hS h) (by omega) (by decide) (Nat.le_of_ble_eq_true rfl) (fun r G1 hr hn => ?_)
  obtain ⟨rfl, X1, o1⟩ := hr
  have nn2 : G1.2.1 163 36 = nI (xN s) := X1.nn
  have pl2 : G1.2.1 186 (xN s - 1) = nI (uP (xC s)) := X1.pl hN
  have hS := o1.St hS
  refine go_aload_n dR_sum_59 rfl rfl ?_
  refine go_getO (a := 186) dR_sum_60 flR_77 rfl (hS.s sh_163) (hS.r rt_fPlace) ?_
  refine go_aload_n dR_sum_63 rfl rfl ?_
  refine go_getV dR_sum_64 flR_200 rfl (hS.s sh_163) (by first | assumption | (simp (disch := omega) only [wi_I, ro_I, wi_In, wi_Is]; done) | (simp (disch := omega) only [wi_I, ro_I, wi_In, wi_Is]; first | assumption | rfl) | rfl) ?_
  refine go_iconst (nI 1) (by decide) dR_sum_67 ?_
  first | refine go_isubN (by omega) dR_sum_68 ?_ | refine go_isub dR_sum_68 ?_
  refine go_dup2 dR_sum_69 ?_
  first | refine go_ialV (hS.s sh_186) (by omega) (by decide) (by assumption) dR_sum_70 ?_ | refine go_ialoadN (hS.s sh_186) (by omega) (by decide) dR_sum_70 ?_
  refine go_iconst (nI 1) (by decide) dR_sum_71 ?_
  first | refine go_iaddN dR_sum_72 ?_ | refine go_iadd dR_sum_72 ?_
  refine go_iastoreN (hS.s sh_186) (by omega) (by decide) dR_sum_73 ?_
  refine go_return rfl dR_sum_74 ?_
  exact ⟨rfl, X1.go hN, o1.tr (oX.wi ⟨by decide, by decide⟩)⟩
set_option maxRecDepth 100000 in
theorem okR_sum10 (w : am_W) {d : Nat} (hd : 1 ≤ d) (G : am_G) (p : Nat) (s : xT) (x y : Int32) (hN : 1 ≤ xN s) (h12 : xN s ≤ 12) (h8 : uD (xC s) < 8) (hS : St0 G) (h : xR p G s) (hy : ¬ y = nI 0) : am_Ok w jR_sum d (0, 0) [.inr (some 163), .inl (nI 10), .inl x, .inl y] G (fun r G' => r = none ∧ xR p G' (xSet s (uGo (uPush (xC s) (x / y)) (uP (xC s) + 1))) ∧ oX G G') := by
  refine am_ok_of rfl (Nat.le_of_ble_eq_true rfl) ?_
  show am_Go w jR_sum d (0, 0) 0 [some (.inr (some 163)), some (.inl (nI 10)), some (.inl x), some (.inl y)] [] G _
  refine go_iload_n dR_sum_0 rfl rfl ?_
  refine go_bipush (nI 10) (by decide) dR_sum_1 ?_
  refine go_icmp_neN (by decide) (by decide) dR_sum_3 (tgt := 16) (by decide) (fun c1 => absurd c1 (by decide)) (fun c1 => ?_)
  refine go_iload_n dR_sum_6 rfl rfl ?_
  refine go_if_ne dR_sum_7 (tgt := 16) (by decide) (fun c1 => ?_) (fun c1 => absurd (c1.trans nI_0.symm) hy)
  refine go_aload_n dR_sum_16 rfl rfl ?_
  refine go_iload_n dR_sum_17 rfl rfl ?_
  refine go_bipush (nI 7) (by decide) dR_sum_18 ?_
  refine go_icmp_neN (by decide) (by decide) dR_sum_20 (tgt := 29) (by decide) (fun c1 => ?_) (fun c1 => absurd c1 (by decide))
  refine go_iload_n dR_sum_29 rfl rfl ?_
  refine go_bipush (nI 8) (by decide) dR_sum_30 ?_
  refine go_icmp_neN (by decide) (by decide) dR_sum_32 (tgt := 41) (by decide) (fun c1 => ?_) (fun c1 => absurd c1 (by decide))
  refine go_iload_n dR_sum_41 rfl rfl ?_
  refine go_bipush (nI 9) (by decide) dR_sum_42 ?_
  refine go_icmp_neN (by decide) (by decide) dR_sum_44 (tgt := 53) (by decide) (fun c1 => ?_) (fun c1 => absurd c1 (by decide))
  refine go_iload_n dR_sum_53 rfl rfl ?_
  refine go_iload_n dR_sum_54 rfl rfl ?_
  refine go_idiv (fun q => hy (q.trans nI_0.symm)) dR_sum_55 ?_
  refine go_cV (k' := (0, 0)) dR_sum_56 _ csR_244 (hS.s sh_163) rfl imR_give seR_give rfl (okR_give (d := 0) w G p s hN h12 (x / y) h8 hS h) (by omega) (by decide) (Nat.le_of_ble_eq_true rfl) (fun r G1 hr hn => ?_)
  obtain ⟨rfl, X1, o1⟩ := hr
  have nn2 : G1.2.1 163 36 = nI (xN s) := X1.nn
  have pl2 : G1.2.1 186 (xN s - 1) = nI (uP (xC s)) := X1.pl hN
  have hS := o1.St hS
  refine go_aload_n dR_sum_59 rfl rfl ?_
  refine go_getO (a := 186) dR_sum_60 flR_77 rfl (hS.s sh_163) (hS.r rt_fPlace) ?_
  refine go_aload_n dR_sum_63 rfl rfl ?_
  refine go_getV dR_sum_64 flR_200 rfl (hS.s sh_163) (by first | assumption | (simp (disch := omega) only [wi_I, ro_I, wi_In, wi_Is]; done) | (simp (disch := omega) only [wi_I, ro_I, wi_In, wi_Is]; first | assumption | rfl) | rfl) ?_
  refine go_iconst (nI 1) (by decide) dR_sum_67 ?_
  first | refine go_isubN (by omega) dR_sum_68 ?_ | refine go_isub dR_sum_68 ?_
  refine go_dup2 dR_sum_69 ?_
  first | refine go_ialV (hS.s sh_186) (by omega) (by decide) (by assumption) dR_sum_70 ?_ | refine go_ialoadN (hS.s sh_186) (by omega) (by decide) dR_sum_70 ?_
  refine go_iconst (nI 1) (by decide) dR_sum_71 ?_
  first | refine go_iaddN dR_sum_72 ?_ | refine go_iadd dR_sum_72 ?_
  refine go_iastoreN (hS.s sh_186) (by omega) (by decide) dR_sum_73 ?_
  refine go_return rfl dR_sum_74 ?_
  exact ⟨rfl, X1.go hN, o1.tr (oX.wi ⟨by decide, by decide⟩)⟩
set_option maxRecDepth 100000 in
theorem okR_sum0 (w : am_W) {d : Nat} (hd : 5 ≤ d) (G : am_G) (p : Nat) (s : xT) (x : Int32) (hS : St0 G) (h : xR p G s) (m : Nat) (Q : Nat → mT) (Z : Nat → fM) (hp : p < 2) (hv : ∀ a, a < 6 → mV (Q a)) (hb : tB Q Z m s) (hc : tyM Q Z m (lM s.1) (xC s)) (hB : rBd s) (hR : hldR G p Q) : am_Ok w jR_sum d (0, 0) [.inr (some 163), .inl (nI 10), .inl x, .inl (nI 0)] G (fun r G' => r = none ∧ xR p G' (xAft Q (xNew s 1)) ∧ oX G G') := by
  refine am_ok_of rfl (Nat.le_of_ble_eq_true rfl) ?_
  show am_Go w jR_sum d (0, 0) 0 [some (.inr (some 163)), some (.inl (nI 10)), some (.inl x), some (.inl (nI 0))] [] G _
  refine go_iload_n dR_sum_0 rfl rfl ?_
  refine go_bipush (nI 10) (by decide) dR_sum_1 ?_
  refine go_icmp_neN (by decide) (by decide) dR_sum_3 (tgt := 16) (by decide) (fun c1 => absurd c1 (by decide)) (fun c1 => ?_)
  refine go_iload_n dR_sum_6 rfl rfl ?_
  refine go_if_neN (by decide) dR_sum_7 (tgt := 16) (by decide) (fun c1 => absurd rfl c1) (fun c1 => ?_)
  refine go_aload_n dR_sum_10 rfl rfl ?_
  refine go_iconst (nI 1) (by decide) dR_sum_11 ?_
  refine go_cV (k' := (0, 0)) dR_sum_12 _ csR_231 (hS.s sh_163) rfl imR_machine seR_machine rfl (okR_machine (d := 4) w (by decide) G p m 1 s Q Z hp hv hb (fun _ => hc) (by decide) hB hS h hR) (by omega) (by decide) (Nat.le_of_ble_eq_true rfl) (fun r G1 hr hn => ?_)
  obtain ⟨rfl, X1, o1⟩ := hr
  refine go_return rfl dR_sum_15 ?_
  exact ⟨rfl, X1, o1⟩
set_option maxRecDepth 100000 in
theorem okR_on0 (w : am_W) {d : Nat} (hd : 5 ≤ d) (G : am_G) (p : Nat) (s : xT) (k y : Int32) (hS : St0 G) (h : xR p G s) (m : Nat) (Q : Nat → mT) (Z : Nat → fM) (hp : p < 2) (hv : ∀ a, a < 6 → mV (Q a)) (hb : tB Q Z m s) (hc : tyM Q Z m (lM s.1) (xC s)) (hB : rBd s) (hR : hldR G p Q) : am_Ok w jR_onObject d (0, 0) [.inr (some 163), .inl k, .inl (nI 0), .inl y] G (fun r G' => r = none ∧ xR p G' (xAft Q (xNew s 2)) ∧ oX G G') := by
  refine am_ok_of rfl (Nat.le_of_ble_eq_true rfl) ?_
  show am_Go w jR_onObject d (0, 0) 0 [some (.inr (some 163)), some (.inl k), some (.inl (nI 0)), some (.inl y)] [] G _
  refine go_iload_n dR_onObject_0 rfl rfl ?_
  refine go_if_neN (by decide) dR_onObject_1 (tgt := 10) (by decide) (fun c1 => absurd rfl c1) (fun c1 => ?_)
  refine go_aload_n dR_onObject_4 rfl rfl ?_
  refine go_iconst (nI 2) (by decide) dR_onObject_5 ?_
  refine go_cV (k' := (0, 0)) dR_onObject_6 _ csR_231 (hS.s sh_163) rfl imR_machine seR_machine rfl (okR_machine (d := 4) w (by decide) G p m 2 s Q Z hp hv hb (fun _ => hc) (by decide) hB hS h hR) (by omega) (by decide) (Nat.le_of_ble_eq_true rfl) (fun r G1 hr hn => ?_)
  obtain ⟨rfl, X1, o1⟩ := hr
  refine go_return rfl dR_onObject_9 ?_
  exact ⟨rfl, X1, o1⟩
set_option maxRecDepth 100000 in
theorem okR_on20 (w : am_W) {d : Nat} (hd : 4 ≤ d) (G : am_G) (p : Nat) (s : xT) (u : Nat) (y : Int32) (hS : St0 G) (h : xR p G s) (h1 : 1 ≤ u) (h2 : u ≤ lM s.1) (hM : lM s.1 ≤ 1000) (m : Nat) (Q : Nat → mT) (Z : Nat → fM) (hp : p < 2) (hv : ∀ a, a < 6 → mV (Q a)) (hb : tB Q Z m s) (hc : tyM Q Z m (lM s.1) (xC s)) (hB : rBd s) (hR : hldR G p Q) : am_Ok w jR_onObject d (0, 0) [.inr (some 163), .inl (nI 20), .inl (nI u), .inl y] G (fun r G' => r = none ∧ xR p G' (xAft Q (xTell s (nI (xY s u)) 4, u)) ∧ oX G G') := by
  refine am_ok_of rfl (Nat.le_of_ble_eq_true rfl) ?_
  show am_Go w jR_onObject d (0, 0) 0 [some (.inr (some 163)), some (.inl (nI 20)), some (.inl (nI u)), some (.inl y)] [] G _
  obtain ⟨n1, n2, n3, n4⟩ := hB
  have oy := h.oy h1 h2
  refine go_iload_n dR_onObject_0 rfl rfl ?_
  refine go_if_neN (by omega) dR_onObject_1 (tgt := 10) (by decide) (fun c1 => ?_) (fun c1 => absurd c1 (by omega))
  refine go_iload_n dR_onObject_10 rfl rfl ?_
  refine go_bipush (nI 20) (by decide) dR_onObject_11 ?_
  refine go_icmp_neN (by decide) (by decide) dR_onObject_13 (tgt := 35) (by decide) (fun c1 => absurd c1 (by decide)) (fun c1 => ?_)
  refine go_aload_n dR_onObject_16 rfl rfl ?_
  refine go_aload_n dR_onObject_17 rfl rfl ?_
  refine go_getO (a := 182) dR_onObject_18 flR_65 rfl (hS.s sh_163) (hS.r rt_objectType) ?_
  refine go_iload_n dR_onObject_21 rfl rfl ?_
  refine go_iconst (nI 1) (by decide) dR_onObject_22 ?_
  first | refine go_isubN (by omega) dR_onObject_23 ?_ | refine go_isub dR_onObject_23 ?_
  first | refine go_ialV (hS.s sh_182) (by omega) (by decide) (by assumption) dR_onObject_24 ?_ | refine go_ialoadN (hS.s sh_182) (by omega) (by decide) dR_onObject_24 ?_
  refine go_iconst (nI 4) (by decide) dR_onObject_25 ?_
  refine go_cV (k' := (0, 0)) dR_onObject_26 _ csR_197 (hS.s sh_163) rfl imR_tell seR_tell rfl (okR_tell (d := 0) w G p s (nI (xY s u)) 4 hS h (by omega)) (by omega) (by decide) (Nat.le_of_ble_eq_true rfl) (fun r G1 hr hn => ?_)
  obtain ⟨rfl, X1, o1⟩ := hr
  have hS := o1.St hS
  refine go_aload_n dR_onObject_29 rfl rfl ?_
  refine go_iload_n dR_onObject_30 rfl rfl ?_
  refine go_cV (k' := (0, 0)) dR_onObject_31 _ csR_228 (hS.s sh_163) rfl imR_raise seR_raise rfl (okR_raise (d := 3) w (by decide) G1 p m u (xTell s (nI (xY s u)) 4) Q Z hp hv hb (fun _ => hc) h1 h2 (show lM s.1 + xH s ≤ 1000 by omega) (show lNn s.1 + 1 + xH s < 800000 by omega) (show lH s.1 < 900000 by omega) hS X1 (hR.x o1.x)) (by omega) (by decide) (Nat.le_of_ble_eq_true rfl) (fun r G1 hr hn => ?_)
  obtain ⟨rfl, X2, o2⟩ := hr
  refine go_return rfl dR_onObject_34 ?_
  exact ⟨rfl, by unfold xAft; rw [if_neg (show ¬ u = 0 by omega)]; exact X2, o1.x.tr o2⟩
set_option maxRecDepth 100000 in
theorem okR_on19 (w : am_W) {d : Nat} (hd : 6 ≤ d) (G : am_G) (p : Nat) (s : xT) (u : Nat) (y : Int32) (hS : St0 G) (h : xR p G s) (h1 : 1 ≤ u) (h2 : u ≤ lM s.1) (hM : lM s.1 ≤ 1000) (hN : 1 ≤ xN s) (h12 : xN s ≤ 12) (m : Nat) (Q : Nat → mT) (Z : Nat → fM) (hp : p < 2) (hv : ∀ a, a < 6 → mV (Q a)) (hb : tB Q Z m s) (hc : tyM Q Z m (lM s.1) (xC s)) (hB : rBd s) (hR : hldR G p Q) : am_Ok w jR_onObject d (0, 0) [.inr (some 163), .inl (nI 19), .inl (nI u), .inl y] G (fun r G' => r = none ∧ xR p G' (xAft Q (xLeave s (xC s) u)) ∧ oX G G') := by
  refine am_ok_of rfl (Nat.le_of_ble_eq_true rfl) ?_
  show am_Go w jR_onObject d (0, 0) 0 [some (.inr (some 163)), some (.inl (nI 19)), some (.inl (nI u)), some (.inl y)] [] G _
  refine go_iload_n dR_onObject_0 rfl rfl ?_
  refine go_if_neN (by omega) dR_onObject_1 (tgt := 10) (by decide) (fun c1 => ?_) (fun c1 => absurd c1 (by omega))
  refine go_iload_n dR_onObject_10 rfl rfl ?_
  refine go_bipush (nI 20) (by decide) dR_onObject_11 ?_
  refine go_icmp_neN (by decide) (by decide) dR_onObject_13 (tgt := 35) (by decide) (fun c1 => ?_) (fun c1 => absurd c1 (by decide))
  refine go_iload_n dR_onObject_35 rfl rfl ?_
  refine go_bipush (nI 19) (by decide) dR_onObject_36 ?_
  refine go_icmp_neN (by decide) (by decide) dR_onObject_38 (tgt := 47) (by decide) (fun c1 => absurd c1 (by decide)) (fun c1 => ?_)
  refine go_aload_n dR_onObject_41 rfl rfl ?_
  refine go_iload_n dR_onObject_42 rfl rfl ?_
  refine go_cV (k' := (0, 0)) dR_onObject_43 _ csR_247 (hS.s sh_163) rfl imR_release seR_release rfl (okR_release (d := 5) w (by decide) G p m u s Q Z hp hv hb hN hc (by omega) hB hS h hR) (by omega) (by decide) (Nat.le_of_ble_eq_true rfl) (fun r G1 hr hn => ?_)
  obtain ⟨rfl, X1, o1⟩ := hr
  refine go_return rfl dR_onObject_46 ?_
  exact ⟨rfl, X1, o1⟩
set_option maxRecDepth 100000 in
theorem okR_on15 (w : am_W) {d : Nat} (hd : 1 ≤ d) (G : am_G) (p : Nat) (s : xT) (u : Nat) (y : Int32) (hS : St0 G) (h : xR p G s) (h1 : 1 ≤ u) (h2 : u ≤ lM s.1) (hM : lM s.1 ≤ 1000) (hN : 1 ≤ xN s) (h12 : xN s ≤ 12) (h8 : uD (xC s) < 8) : am_Ok w jR_onObject d (0, 0) [.inr (some 163), .inl (nI 15), .inl (nI u), .inl y] G (fun r G' => r = none ∧ xR p G' (xSet s (uGo (uPush (xC s) (xI s u)) (uP (xC s) + 1))) ∧ oX G G') := by
  refine am_ok_of rfl (Nat.le_of_ble_eq_true rfl) ?_
  show am_Go w jR_onObject d (0, 0) 0 [some (.inr (some 163)), some (.inl (nI 15)), some (.inl (nI u)), some (.inl y)] [] G _
  have oy := h.oy h1 h2
  have oi := h.oi h1 h2
  refine go_iload_n dR_onObject_0 rfl rfl ?_
  refine go_if_neN (by omega) dR_onObject_1 (tgt := 10) (by decide) (fun c1 => ?_) (fun c1 => absurd c1 (by omega))
  refine go_iload_n dR_onObject_10 rfl rfl ?_
  refine go_bipush (nI 20) (by decide) dR_onObject_11 ?_
  refine go_icmp_neN (by decide) (by decide) dR_onObject_13 (tgt := 35) (by decide) (fun c1 => ?_) (fun c1 => absurd c1 (by decide))
  refine go_iload_n dR_onObject_35 rfl rfl ?_
  refine go_bipush (nI 19) (by decide) dR_onObject_36 ?_
  refine go_icmp_neN (by decide) (by decide) dR_onObject_38 (tgt := 47) (by decide) (fun c1 => ?_) (fun c1 => absurd c1 (by decide))
  refine go_iload_n dR_onObject_47 rfl rfl ?_
  refine go_bipush (nI 15) (by decide) dR_onObject_48 ?_
  refine go_icmp_neN (by decide) (by decide) dR_onObject_50 (tgt := 68) (by decide) (fun c1 => absurd c1 (by decide)) (fun c1 => ?_)
  refine go_aload_n dR_onObject_53 rfl rfl ?_
  refine go_aload_n dR_onObject_54 rfl rfl ?_
  refine go_getO (a := 183) dR_onObject_55 flR_68 rfl (hS.s sh_163) (hS.r rt_item) ?_
  refine go_iload_n dR_onObject_58 rfl rfl ?_
  refine go_iconst (nI 1) (by decide) dR_onObject_59 ?_
  first | refine go_isubN (by omega) dR_onObject_60 ?_ | refine go_isub dR_onObject_60 ?_
  first | refine go_ialV (hS.s sh_183) (by omega) (by decide) (by assumption) dR_onObject_61 ?_ | refine go_ialoadN (hS.s sh_183) (by omega) (by decide) dR_onObject_61 ?_
  refine go_cV (k' := (0, 0)) dR_onObject_62 _ csR_244 (hS.s sh_163) rfl imR_give seR_give rfl (okR_give (d := 0) w G p s hN h12 (xI s u) h8 hS h) (by omega) (by decide) (Nat.le_of_ble_eq_true rfl) (fun r G1 hr hn => ?_)
  obtain ⟨rfl, X1, o1⟩ := hr
  have nn2 : G1.2.1 163 36 = nI (xN s) := X1.nn
  have pl2 : G1.2.1 186 (xN s - 1) = nI (uP (xC s)) := X1.pl hN
  have hS := o1.St hS
  refine go_goto dR_onObject_65 (tgt := 133) (by decide) ?_
  refine go_aload_n dR_onObject_133 rfl rfl ?_
  refine go_getO (a := 186) dR_onObject_134 flR_77 rfl (hS.s sh_163) (hS.r rt_fPlace) ?_
  refine go_aload_n dR_onObject_137 rfl rfl ?_
  refine go_getV dR_onObject_138 flR_200 rfl (hS.s sh_163) (by first | assumption | (simp (disch := omega) only [wi_I, ro_I, wi_In, wi_Is]; done) | (simp (disch := omega) only [wi_I, ro_I, wi_In, wi_Is]; first | assumption | rfl) | rfl) ?_
  refine go_iconst (nI 1) (by decide) dR_onObject_141 ?_
  first | refine go_isubN (by omega) dR_onObject_142 ?_ | refine go_isub dR_onObject_142 ?_
  refine go_dup2 dR_onObject_143 ?_
  first | refine go_ialV (hS.s sh_186) (by omega) (by decide) (by assumption) dR_onObject_144 ?_ | refine go_ialoadN (hS.s sh_186) (by omega) (by decide) dR_onObject_144 ?_
  refine go_iconst (nI 1) (by decide) dR_onObject_145 ?_
  first | refine go_iaddN dR_onObject_146 ?_ | refine go_iadd dR_onObject_146 ?_
  refine go_iastoreN (hS.s sh_186) (by omega) (by decide) dR_onObject_147 ?_
  refine go_return rfl dR_onObject_148 ?_
  exact ⟨rfl, X1.go hN, o1.tr (oX.wi ⟨by decide, by decide⟩)⟩
set_option maxRecDepth 100000 in
theorem okR_on26 (w : am_W) {d : Nat} (hd : 1 ≤ d) (G : am_G) (p : Nat) (s : xT) (u : Nat) (y : Int32) (hS : St0 G) (h : xR p G s) (h1 : 1 ≤ u) (h2 : u ≤ lM s.1) (hM : lM s.1 ≤ 1000) (hN : 1 ≤ xN s) (h12 : xN s ≤ 12) (h8 : uD (xC s) < 8) : am_Ok w jR_onObject d (0, 0) [.inr (some 163), .inl (nI 26), .inl (nI u), .inl y] G (fun r G' => r = none ∧ xR p G' (xSet s (uGo (uPush (xC s) (nI (xY s u))) (uP (xC s) + 1))) ∧ oX G G') := by
  refine am_ok_of rfl (Nat.le_of_ble_eq_true rfl) ?_
  show am_Go w jR_onObject d (0, 0) 0 [some (.inr (some 163)), some (.inl (nI 26)), some (.inl (nI u)), some (.inl y)] [] G _
  have oy := h.oy h1 h2
  have oi := h.oi h1 h2
  refine go_iload_n dR_onObject_0 rfl rfl ?_
  refine go_if_neN (by omega) dR_onObject_1 (tgt := 10) (by decide) (fun c1 => ?_) (fun c1 => absurd c1 (by omega))
  refine go_iload_n dR_onObject_10 rfl rfl ?_
  refine go_bipush (nI 20) (by decide) dR_onObject_11 ?_
  refine go_icmp_neN (by decide) (by decide) dR_onObject_13 (tgt := 35) (by decide) (fun c1 => ?_) (fun c1 => absurd c1 (by decide))
  refine go_iload_n dR_onObject_35 rfl rfl ?_
  refine go_bipush (nI 19) (by decide) dR_onObject_36 ?_
  refine go_icmp_neN (by decide) (by decide) dR_onObject_38 (tgt := 47) (by decide) (fun c1 => ?_) (fun c1 => absurd c1 (by decide))
  refine go_iload_n dR_onObject_47 rfl rfl ?_
  refine go_bipush (nI 15) (by decide) dR_onObject_48 ?_
  refine go_icmp_neN (by decide) (by decide) dR_onObject_50 (tgt := 68) (by decide) (fun c1 => ?_) (fun c1 => absurd c1 (by decide))
  refine go_iload_n dR_onObject_68 rfl rfl ?_
  refine go_bipush (nI 26) (by decide) dR_onObject_69 ?_
  refine go_icmp_neN (by decide) (by decide) dR_onObject_71 (tgt := 89) (by decide) (fun c1 => absurd c1 (by decide)) (fun c1 => ?_)
  refine go_aload_n dR_onObject_74 rfl rfl ?_
  refine go_aload_n dR_onObject_75 rfl rfl ?_
  refine go_getO (a := 182) dR_onObject_76 flR_65 rfl (hS.s sh_163) (hS.r rt_objectType) ?_
  refine go_iload_n dR_onObject_79 rfl rfl ?_
  refine go_iconst (nI 1) (by decide) dR_onObject_80 ?_
  first | refine go_isubN (by omega) dR_onObject_81 ?_ | refine go_isub dR_onObject_81 ?_
  first | refine go_ialV (hS.s sh_182) (by omega) (by decide) (by assumption) dR_onObject_82 ?_ | refine go_ialoadN (hS.s sh_182) (by omega) (by decide) dR_onObject_82 ?_
  refine go_cV (k' := (0, 0)) dR_onObject_83 _ csR_244 (hS.s sh_163) rfl imR_give seR_give rfl (okR_give (d := 0) w G p s hN h12 (nI (xY s u)) h8 hS h) (by omega) (by decide) (Nat.le_of_ble_eq_true rfl) (fun r G1 hr hn => ?_)
  obtain ⟨rfl, X1, o1⟩ := hr
  have nn2 : G1.2.1 163 36 = nI (xN s) := X1.nn
  have pl2 : G1.2.1 186 (xN s - 1) = nI (uP (xC s)) := X1.pl hN
  have hS := o1.St hS
  refine go_goto dR_onObject_86 (tgt := 133) (by decide) ?_
  refine go_aload_n dR_onObject_133 rfl rfl ?_
  refine go_getO (a := 186) dR_onObject_134 flR_77 rfl (hS.s sh_163) (hS.r rt_fPlace) ?_
  refine go_aload_n dR_onObject_137 rfl rfl ?_
  refine go_getV dR_onObject_138 flR_200 rfl (hS.s sh_163) (by first | assumption | (simp (disch := omega) only [wi_I, ro_I, wi_In, wi_Is]; done) | (simp (disch := omega) only [wi_I, ro_I, wi_In, wi_Is]; first | assumption | rfl) | rfl) ?_
  refine go_iconst (nI 1) (by decide) dR_onObject_141 ?_
  first | refine go_isubN (by omega) dR_onObject_142 ?_ | refine go_isub dR_onObject_142 ?_
  refine go_dup2 dR_onObject_143 ?_
  first | refine go_ialV (hS.s sh_186) (by omega) (by decide) (by assumption) dR_onObject_144 ?_ | refine go_ialoadN (hS.s sh_186) (by omega) (by decide) dR_onObject_144 ?_
  refine go_iconst (nI 1) (by decide) dR_onObject_145 ?_
  first | refine go_iaddN dR_onObject_146 ?_ | refine go_iadd dR_onObject_146 ?_
  refine go_iastoreN (hS.s sh_186) (by omega) (by decide) dR_onObject_147 ?_
  refine go_return rfl dR_onObject_148 ?_
  exact ⟨rfl, X1.go hN, o1.tr (oX.wi ⟨by decide, by decide⟩)⟩
set_option maxRecDepth 100000 in
theorem okR_on16 (w : am_W) {d : Nat} (hd : 1 ≤ d) (G : am_G) (p : Nat) (s : xT) (u : Nat) (y : Int32) (hS : St0 G) (h : xR p G s) (h1 : 1 ≤ u) (h2 : u ≤ lM s.1) (hM : lM s.1 ≤ 1000) (hN : 1 ≤ xN s) (h12 : xN s ≤ 12) : am_Ok w jR_onObject d (0, 0) [.inr (some 163), .inl (nI 16), .inl (nI u), .inl y] G (fun r G' => r = none ∧ xR p G' (xSet (xItem s u y) (uGo (xC s) (uP (xC s) + 1))) ∧ oX G G') := by
  refine am_ok_of rfl (Nat.le_of_ble_eq_true rfl) ?_
  show am_Go w jR_onObject d (0, 0) 0 [some (.inr (some 163)), some (.inl (nI 16)), some (.inl (nI u)), some (.inl y)] [] G _
  have nn := h.nn
  have pl := h.pl hN
  refine go_iload_n dR_onObject_0 rfl rfl ?_
  refine go_if_neN (by omega) dR_onObject_1 (tgt := 10) (by decide) (fun c1 => ?_) (fun c1 => absurd c1 (by omega))
  refine go_iload_n dR_onObject_10 rfl rfl ?_
  refine go_bipush (nI 20) (by decide) dR_onObject_11 ?_
  refine go_icmp_neN (by decide) (by decide) dR_onObject_13 (tgt := 35) (by decide) (fun c1 => ?_) (fun c1 => absurd c1 (by decide))
  refine go_iload_n dR_onObject_35 rfl rfl ?_
  refine go_bipush (nI 19) (by decide) dR_onObject_36 ?_
  refine go_icmp_neN (by decide) (by decide) dR_onObject_38 (tgt := 47) (by decide) (fun c1 => ?_) (fun c1 => absurd c1 (by decide))
  refine go_iload_n dR_onObject_47 rfl rfl ?_
  refine go_bipush (nI 15) (by decide) dR_onObject_48 ?_
  refine go_icmp_neN (by decide) (by decide) dR_onObject_50 (tgt := 68) (by decide) (fun c1 => ?_) (fun c1 => absurd c1 (by decide))
  refine go_iload_n dR_onObject_68 rfl rfl ?_
  refine go_bipush (nI 26) (by decide) dR_onObject_69 ?_
  refine go_icmp_neN (by decide) (by decide) dR_onObject_71 (tgt := 89) (by decide) (fun c1 => ?_) (fun c1 => absurd c1 (by decide))
  refine go_iload_n dR_onObject_89 rfl rfl ?_
  refine go_bipush (nI 16) (by decide) dR_onObject_90 ?_
  refine go_icmp_neN (by decide) (by decide) dR_onObject_92 (tgt := 107) (by decide) (fun c1 => absurd c1 (by decide)) (fun c1 => ?_)
  refine go_aload_n dR_onObject_95 rfl rfl ?_
  refine go_getO (a := 183) dR_onObject_96 flR_68 rfl (hS.s sh_163) (hS.r rt_item) ?_
  refine go_iload_n dR_onObject_99 rfl rfl ?_
  refine go_iconst (nI 1) (by decide) dR_onObject_100 ?_
  first | refine go_isubN (by omega) dR_onObject_101 ?_ | refine go_isub dR_onObject_101 ?_
  refine go_iload_n dR_onObject_102 rfl rfl ?_
  refine go_iastoreN (hS.s sh_183) (by omega) (by decide) dR_onObject_103 ?_
  refine go_goto dR_onObject_104 (tgt := 133) (by decide) ?_
  refine go_aload_n dR_onObject_133 rfl rfl ?_
  refine go_getO (a := 186) dR_onObject_134 flR_77 rfl (hS.s sh_163) (hS.r rt_fPlace) ?_
  refine go_aload_n dR_onObject_137 rfl rfl ?_
  refine go_getV dR_onObject_138 flR_200 rfl (hS.s sh_163) (by first | assumption | (simp (disch := omega) only [wi_I, ro_I, wi_In, wi_Is]; done) | (simp (disch := omega) only [wi_I, ro_I, wi_In, wi_Is]; first | assumption | rfl) | rfl) ?_
  refine go_iconst (nI 1) (by decide) dR_onObject_141 ?_
  first | refine go_isubN (by omega) dR_onObject_142 ?_ | refine go_isub dR_onObject_142 ?_
  refine go_dup2 dR_onObject_143 ?_
  refine go_ialV (hS.s sh_186) (by omega) (by decide) (wi_V (by decide) pl) dR_onObject_144 ?_
  refine go_iconst (nI 1) (by decide) dR_onObject_145 ?_
  first | refine go_iaddN dR_onObject_146 ?_ | refine go_iadd dR_onObject_146 ?_
  refine go_iastoreN (hS.s sh_186) (by omega) (by decide) dR_onObject_147 ?_
  refine go_return rfl dR_onObject_148 ?_
  exact ⟨rfl, (h.item h1).go hN, (oX.wi ⟨by decide, by decide⟩).tr (oX.wi ⟨by decide, by decide⟩)⟩
set_option maxRecDepth 100000 in
theorem okR_on18 (w : am_W) {d : Nat} (hd : 1 ≤ d) (G : am_G) (p : Nat) (s : xT) (u : Nat) (y : Int32) (hS : St0 G) (h : xR p G s) (h1 : 1 ≤ u) (h2 : u ≤ lM s.1) (hM : lM s.1 ≤ 1000) (hN : 1 ≤ xN s) (h12 : xN s ≤ 12) (hH : xH s < 1000) (hn0 : lNn s.1 < 100000) : am_Ok w jR_onObject d (0, 0) [.inr (some 163), .inl (nI 18), .inl (nI u), .inl y] G (fun r G' => r = none ∧ xR p G' (xSet (xTell (xHeld s (xH s + 1) (va_up (xE s) (xH s) u)) (nI u) 2) (uGo (xC s) (uP (xC s) + 1))) ∧ oX G G') := by
  refine am_ok_of rfl (Nat.le_of_ble_eq_true rfl) ?_
  show am_Go w jR_onObject d (0, 0) 0 [some (.inr (some 163)), some (.inl (nI 18)), some (.inl (nI u)), some (.inl y)] [] G _
  have hh := h.hh
  refine go_iload_n dR_onObject_0 rfl rfl ?_
  refine go_if_neN (by omega) dR_onObject_1 (tgt := 10) (by decide) (fun c1 => ?_) (fun c1 => absurd c1 (by omega))
  refine go_iload_n dR_onObject_10 rfl rfl ?_
  refine go_bipush (nI 20) (by decide) dR_onObject_11 ?_
  refine go_icmp_neN (by decide) (by decide) dR_onObject_13 (tgt := 35) (by decide) (fun c1 => ?_) (fun c1 => absurd c1 (by decide))
  refine go_iload_n dR_onObject_35 rfl rfl ?_
  refine go_bipush (nI 19) (by decide) dR_onObject_36 ?_
  refine go_icmp_neN (by decide) (by decide) dR_onObject_38 (tgt := 47) (by decide) (fun c1 => ?_) (fun c1 => absurd c1 (by decide))
  refine go_iload_n dR_onObject_47 rfl rfl ?_
  refine go_bipush (nI 15) (by decide) dR_onObject_48 ?_
  refine go_icmp_neN (by decide) (by decide) dR_onObject_50 (tgt := 68) (by decide) (fun c1 => ?_) (fun c1 => absurd c1 (by decide))
  refine go_iload_n dR_onObject_68 rfl rfl ?_
  refine go_bipush (nI 26) (by decide) dR_onObject_69 ?_
  refine go_icmp_neN (by decide) (by decide) dR_onObject_71 (tgt := 89) (by decide) (fun c1 => ?_) (fun c1 => absurd c1 (by decide))
  refine go_iload_n dR_onObject_89 rfl rfl ?_
  refine go_bipush (nI 16) (by decide) dR_onObject_90 ?_
  refine go_icmp_neN (by decide) (by decide) dR_onObject_92 (tgt := 107) (by decide) (fun c1 => ?_) (fun c1 => absurd c1 (by decide))
  refine go_aload_n dR_onObject_107 rfl rfl ?_
  refine go_getO (a := 184) dR_onObject_108 flR_71 rfl (hS.s sh_163) (hS.r rt_entered) ?_
  refine go_aload_n dR_onObject_111 rfl rfl ?_
  refine go_getV dR_onObject_112 flR_203 rfl (hS.s sh_163) (by first | assumption | (simp (disch := omega) only [wi_I, ro_I, wi_In, wi_Is]; done) | (simp (disch := omega) only [wi_I, ro_I, wi_In, wi_Is]; first | assumption | rfl) | rfl) ?_
  refine go_iload_n dR_onObject_115 rfl rfl ?_
  refine go_iastoreN (hS.s sh_184) (by omega) (by decide) dR_onObject_116 ?_
  refine go_aload_n dR_onObject_117 rfl rfl ?_
  refine go_dup dR_onObject_118 ?_
  refine go_getV dR_onObject_119 flR_203 rfl (hS.s sh_163) (by first | assumption | (simp (disch := omega) only [wi_I, ro_I, wi_In, wi_Is]; done) | (simp (disch := omega) only [wi_I, ro_I, wi_In, wi_Is]; first | assumption | rfl) | rfl) ?_
  refine go_iconst (nI 1) (by decide) dR_onObject_122 ?_
  first | refine go_iaddN dR_onObject_123 ?_ | refine go_iadd dR_onObject_123 ?_
  refine go_putI dR_onObject_124 fpR_203 rfl (hS.s sh_163) ?_
  refine go_aload_n dR_onObject_127 rfl rfl ?_
  refine go_iload_n dR_onObject_128 rfl rfl ?_
  refine go_iconst (nI 2) (by decide) dR_onObject_129 ?_
  refine go_cV (k' := (0, 0)) (G := am_wi (am_wi G 184 (xH s) (nI u)) 163 35 (nI (xH s + 1))) dR_onObject_130 _ csR_197 (hS.s sh_163) rfl imR_tell seR_tell rfl (okR_tell (d := 0) w _ p (xHeld s (xH s + 1) (va_up (xE s) (xH s) u)) (nI u) 2 (by exact hS) h.enter (show lNn s.1 < 1000000 by omega)) (by omega) (by decide) (Nat.le_of_ble_eq_true rfl) (fun r G1 hr hn => ?_)
  obtain ⟨rfl, X1, o1⟩ := hr
  have nn2 : G1.2.1 163 36 = nI (xN s) := X1.nn
  have pl2 : G1.2.1 186 (xN s - 1) = nI (uP (xC s)) := X1.pl hN
  have hS := o1.St (G := am_wi (am_wi G 184 (xH s) (nI u)) 163 35 (nI (xH s + 1))) hS
  refine go_aload_n dR_onObject_133 rfl rfl ?_
  refine go_getO (a := 186) dR_onObject_134 flR_77 rfl (hS.s sh_163) (hS.r rt_fPlace) ?_
  refine go_aload_n dR_onObject_137 rfl rfl ?_
  refine go_getV dR_onObject_138 flR_200 rfl (hS.s sh_163) (by first | assumption | (simp (disch := omega) only [wi_I, ro_I, wi_In, wi_Is]; done) | (simp (disch := omega) only [wi_I, ro_I, wi_In, wi_Is]; first | assumption | rfl) | rfl) ?_
  refine go_iconst (nI 1) (by decide) dR_onObject_141 ?_
  first | refine go_isubN (by omega) dR_onObject_142 ?_ | refine go_isub dR_onObject_142 ?_
  refine go_dup2 dR_onObject_143 ?_
  first | refine go_ialV (hS.s sh_186) (by omega) (by decide) (by assumption) dR_onObject_144 ?_ | refine go_ialoadN (hS.s sh_186) (by omega) (by decide) dR_onObject_144 ?_
  refine go_iconst (nI 1) (by decide) dR_onObject_145 ?_
  first | refine go_iaddN dR_onObject_146 ?_ | refine go_iadd dR_onObject_146 ?_
  refine go_iastoreN (hS.s sh_186) (by omega) (by decide) dR_onObject_147 ?_
  refine go_return rfl dR_onObject_148 ?_
  exact ⟨rfl, X1.go hN, ((((oX.wi ⟨by decide, by decide⟩).tr (oX.w3 ⟨by decide, by decide⟩))).tr o1.x).tr (oX.wi ⟨by decide, by decide⟩)⟩
set_option maxRecDepth 100000 in
theorem R_stp (w : am_W) {d : Nat} {P : Option am_V → am_G → Prop} (G : am_G) (p : Nat) (s : xT) (Q : Nat → mT) (hp : p < 2) (hN : 1 ≤ xN s) (h12 : xN s ≤ 12) (t1 : uM (xC s) < 6) (t3 : uP (xC s) < mN (Q (uM (xC s)))) (hn6 : mN (Q (uM (xC s))) ≤ 60) (hS : St0 G) (h : xR p G s) (hR : hldR G p Q) (K : am_Go w jR_step d (0, 0) 60 [some (.inr (some 163)), some (.inl (nI (xN s - 1))), some (.inl (nI (6 * p + uM (xC s)))), some (.inl (nI (60 * (6 * p + uM (xC s)) + uP (xC s)))), some (.inl (nI (mO (Q (uM (xC s))) (uP (xC s))))), some (.inl (mA (Q (uM (xC s))) (uP (xC s)))), some (.inl (mB (Q (uM (xC s))) (uP (xC s)))), some (.inl (nI (uP (xC s) + 1))), none, none, none, none, none, none] [] G P) : am_Go w jR_step d (0, 0) 0 [some (.inr (some 163)), none, none, none, none, none, none, none, none, none, none, none, none, none] [] G P := by
  have nn := h.nn
  have mt := h.m hN
  have pl := h.pl hN
  obtain ⟨m1, m2, m3⟩ := (hR _ t1).1.2.1 _ t3
  refine go_aload_n dR_step_0 rfl rfl ?_
  refine go_getV dR_step_1 flR_200 rfl (hS.s sh_163) (by first | assumption | (simp (disch := omega) only [wi_I, ro_I, wi_In, wi_Is]; done) | (simp (disch := omega) only [wi_I, ro_I, wi_In, wi_Is]; first | assumption | rfl) | rfl) ?_
  refine go_iconst (nI 1) (by decide) dR_step_4 ?_
  first | refine go_isubN (by omega) dR_step_5 ?_ | refine go_isub dR_step_5 ?_
  refine go_istore_n dR_step_6 rfl (Nat.le_of_ble_eq_true rfl) ?_
  refine go_aload_n dR_step_7 rfl rfl ?_
  refine go_getO (a := 185) dR_step_8 flR_74 rfl (hS.s sh_163) (hS.r rt_fMethod) ?_
  refine go_iload_n dR_step_11 rfl rfl ?_
  first | refine go_ialV (hS.s sh_185) (by omega) (by decide) (by assumption) dR_step_12 ?_ | refine go_ialoadN (hS.s sh_185) (by omega) (by decide) dR_step_12 ?_
  refine go_istore_n dR_step_13 rfl (Nat.le_of_ble_eq_true rfl) ?_
  refine go_bipush (nI 60) (by decide) dR_step_14 ?_
  refine go_iload_n dR_step_16 rfl rfl ?_
  first | refine go_imulN dR_step_17 ?_ | refine go_imul dR_step_17 ?_
  refine go_aload_n dR_step_18 rfl rfl ?_
  refine go_getO (a := 186) dR_step_19 flR_77 rfl (hS.s sh_163) (hS.r rt_fPlace) ?_
  refine go_iload_n dR_step_22 rfl rfl ?_
  first | refine go_ialV (hS.s sh_186) (by omega) (by decide) (by assumption) dR_step_23 ?_ | refine go_ialoadN (hS.s sh_186) (by omega) (by decide) dR_step_23 ?_
  first | refine go_iaddN dR_step_24 ?_ | refine go_iadd dR_step_24 ?_
  refine go_istore_n dR_step_25 rfl (Nat.le_of_ble_eq_true rfl) ?_
  refine go_aload_n dR_step_26 rfl rfl ?_
  refine go_getO (a := 164) dR_step_27 flR_7 rfl (hS.s sh_163) (hS.r rt_op) ?_
  refine go_iload_n dR_step_30 rfl rfl ?_
  refine go_ialV (hS.s sh_164) (by omega) (by decide) m1 dR_step_31 ?_
  refine go_istore dR_step_32 (Nat.le_of_ble_eq_true rfl) ?_
  refine go_aload_n dR_step_34 rfl rfl ?_
  refine go_getO (a := 165) dR_step_35 flR_13 rfl (hS.s sh_163) (hS.r rt_one) ?_
  refine go_iload_n dR_step_38 rfl rfl ?_
  refine go_ialV (hS.s sh_165) (by omega) (by decide) m2 dR_step_39 ?_
  refine go_istore dR_step_40 (Nat.le_of_ble_eq_true rfl) ?_
  refine go_aload_n dR_step_42 rfl rfl ?_
  refine go_getO (a := 166) dR_step_43 flR_16 rfl (hS.s sh_163) (hS.r rt_two) ?_
  refine go_iload_n dR_step_46 rfl rfl ?_
  refine go_ialV (hS.s sh_166) (by omega) (by decide) m3 dR_step_47 ?_
  refine go_istore dR_step_48 (Nat.le_of_ble_eq_true rfl) ?_
  refine go_aload_n dR_step_50 rfl rfl ?_
  refine go_getO (a := 186) dR_step_51 flR_77 rfl (hS.s sh_163) (hS.r rt_fPlace) ?_
  refine go_iload_n dR_step_54 rfl rfl ?_
  first | refine go_ialV (hS.s sh_186) (by omega) (by decide) (by assumption) dR_step_55 ?_ | refine go_ialoadN (hS.s sh_186) (by omega) (by decide) dR_step_55 ?_
  refine go_iconst (nI 1) (by decide) dR_step_56 ?_
  first | refine go_iaddN dR_step_57 ?_ | refine go_iadd dR_step_57 ?_
  refine go_istore dR_step_58 (Nat.le_of_ble_eq_true rfl) ?_
  exact K
set_option maxRecDepth 100000 in
theorem okR_st0 (w : am_W) {d : Nat} (hd : 1 ≤ d) (G : am_G) (p m : Nat) (s : xT) (Q : Nat → mT) (Z : Nat → fM) (hp : p < 2) (hv : ∀ a, a < 6 → mV (Q a)) (hz : zSol Q Z m) (hb : tB Q Z m s) (hN : 1 ≤ xN s) (hc : tyR Q Z m (lM s.1) (xC s)) (hB : rBd s) (hS : St0 G) (h : xR p G s) (hR : hldR G p Q) (hop : mO (Q (uM (xC s))) (uP (xC s)) = 0) : am_Ok w jR_step d (0, 0) [.inr (some 163)] G (fun r G' => r = none ∧ xR p G' (xSet s (uGo (xC s) (uP (xC s) + 1))) ∧ oX G G') := by
  refine am_ok_of rfl (Nat.le_of_ble_eq_true rfl) ?_
  show am_Go w jR_step d (0, 0) 0 [some (.inr (some 163)), none, none, none, none, none, none, none, none, none, none, none, none, none] [] G _
  have nn := h.nn
  have dp := h.dp hN
  have d8 := h.d8 hN
  have h12 := hb.2.2.1
  obtain ⟨t1, -, t3, t4, -⟩ := id hc
  have hn6 := (hv _ t1).1
  obtain ⟨n1, n2, n3, n4⟩ := id hB
  refine R_stp w G p s Q hp hN h12 t1 t3 hn6 hS h hR ?_
  rw [hop]
  refine go_iload dR_step_60 rfl ?_
  refine go_bipush (nI 7) (by decide) dR_step_62 ?_
  refine go_icmp_ltN (by decide) (by decide) dR_step_64 (tgt := 97) (by decide) (fun c1 => ?_) (fun c1 => absurd c1 (by decide))
  refine go_iload dR_step_97 rfl ?_
  refine go_bipush (nI 15) (by decide) dR_step_99 ?_
  refine go_icmp_eqN (by decide) (by decide) dR_step_101 (tgt := 132) (by decide) (fun c1 => absurd c1 (by decide)) (fun c1 => ?_)
  refine go_iload dR_step_104 rfl ?_
  refine go_bipush (nI 16) (by decide) dR_step_106 ?_
  refine go_icmp_eqN (by decide) (by decide) dR_step_108 (tgt := 132) (by decide) (fun c1 => absurd c1 (by decide)) (fun c1 => ?_)
  refine go_iload dR_step_111 rfl ?_
  refine go_bipush (nI 18) (by decide) dR_step_113 ?_
  refine go_icmp_ltN (by decide) (by decide) dR_step_115 (tgt := 125) (by decide) (fun c1 => ?_) (fun c1 => absurd c1 (by decide))
  refine go_iload dR_step_125 rfl ?_
  refine go_bipush (nI 26) (by decide) dR_step_127 ?_
  refine go_icmp_neN (by decide) (by decide) dR_step_129 (tgt := 166) (by decide) (fun c1 => ?_) (fun c1 => absurd c1 (by decide))
  refine go_iload dR_step_166 rfl ?_
  refine go_bipush (nI 21) (by decide) dR_step_168 ?_
  refine go_icmp_neN (by decide) (by decide) dR_step_170 (tgt := 188) (by decide) (fun c1 => ?_) (fun c1 => absurd c1 (by decide))
  refine go_iload dR_step_188 rfl ?_
  refine go_bipush (nI 22) (by decide) dR_step_190 ?_
  refine go_icmp_neN (by decide) (by decide) dR_step_192 (tgt := 208) (by decide) (fun c1 => ?_) (fun c1 => absurd c1 (by decide))
  refine go_iload dR_step_208 rfl ?_
  refine go_tableOut dR_step_210 (by decide) (tgt := 604) (by decide) ?_
  refine go_aload_n dR_step_604 rfl rfl ?_
  refine go_getO (a := 186) dR_step_605 flR_77 rfl (hS.s sh_163) (hS.r rt_fPlace) ?_
  refine go_iload_n dR_step_608 rfl rfl ?_
  refine go_iload dR_step_609 rfl ?_
  refine go_iastoreN (hS.s sh_186) (by omega) (by decide) dR_step_611 ?_
  refine go_return rfl dR_step_612 ?_
  exact ⟨rfl, h.go hN, (oX.wi ⟨by decide, by decide⟩)⟩
set_option maxRecDepth 100000 in
theorem okR_st1 (w : am_W) {d : Nat} (hd : 1 ≤ d) (G : am_G) (p m : Nat) (s : xT) (Q : Nat → mT) (Z : Nat → fM) (hp : p < 2) (hv : ∀ a, a < 6 → mV (Q a)) (hz : zSol Q Z m) (hb : tB Q Z m s) (hN : 1 ≤ xN s) (hc : tyR Q Z m (lM s.1) (xC s)) (hB : rBd s) (hS : St0 G) (h : xR p G s) (hR : hldR G p Q) (hop : mO (Q (uM (xC s))) (uP (xC s)) = 1) (h8 : uD (xC s) < 8) : am_Ok w jR_step d (0, 0) [.inr (some 163)] G (fun r G' => r = none ∧ xR p G' (xSet s (uGo (uPush (xC s) (mA (Q (uM (xC s))) (uP (xC s)))) (uP (xC s) + 1))) ∧ oX G G') := by
  refine am_ok_of rfl (Nat.le_of_ble_eq_true rfl) ?_
  show am_Go w jR_step d (0, 0) 0 [some (.inr (some 163)), none, none, none, none, none, none, none, none, none, none, none, none, none] [] G _
  have nn := h.nn
  have dp := h.dp hN
  have d8 := h.d8 hN
  have h12 := hb.2.2.1
  obtain ⟨t1, -, t3, t4, -⟩ := id hc
  have hn6 := (hv _ t1).1
  obtain ⟨n1, n2, n3, n4⟩ := id hB
  refine R_stp w G p s Q hp hN h12 t1 t3 hn6 hS h hR ?_
  rw [hop]
  refine go_iload dR_step_60 rfl ?_
  refine go_bipush (nI 7) (by decide) dR_step_62 ?_
  refine go_icmp_ltN (by decide) (by decide) dR_step_64 (tgt := 97) (by decide) (fun c1 => ?_) (fun c1 => absurd c1 (by decide))
  refine go_iload dR_step_97 rfl ?_
  refine go_bipush (nI 15) (by decide) dR_step_99 ?_
  refine go_icmp_eqN (by decide) (by decide) dR_step_101 (tgt := 132) (by decide) (fun c1 => absurd c1 (by decide)) (fun c1 => ?_)
  refine go_iload dR_step_104 rfl ?_
  refine go_bipush (nI 16) (by decide) dR_step_106 ?_
  refine go_icmp_eqN (by decide) (by decide) dR_step_108 (tgt := 132) (by decide) (fun c1 => absurd c1 (by decide)) (fun c1 => ?_)
  refine go_iload dR_step_111 rfl ?_
  refine go_bipush (nI 18) (by decide) dR_step_113 ?_
  refine go_icmp_ltN (by decide) (by decide) dR_step_115 (tgt := 125) (by decide) (fun c1 => ?_) (fun c1 => absurd c1 (by decide))
  refine go_iload dR_step_125 rfl ?_
  refine go_bipush (nI 26) (by decide) dR_step_127 ?_
  refine go_icmp_neN (by decide) (by decide) dR_step_129 (tgt := 166) (by decide) (fun c1 => ?_) (fun c1 => absurd c1 (by decide))
  refine go_iload dR_step_166 rfl ?_
  refine go_bipush (nI 21) (by decide) dR_step_168 ?_
  refine go_icmp_neN (by decide) (by decide) dR_step_170 (tgt := 188) (by decide) (fun c1 => ?_) (fun c1 => absurd c1 (by decide))
  refine go_iload dR_step_188 rfl ?_
  refine go_bipush (nI 22) (by decide) dR_step_190 ?_
  refine go_icmp_neN (by decide) (by decide) dR_step_192 (tgt := 208) (by decide) (fun c1 => ?_) (fun c1 => absurd c1 (by decide))
  refine go_iload dR_step_208 rfl ?_
  refine go_tableIn dR_step_210 (by decide) (by decide) (off := 122) rfl (tgt := 332) (by decide) ?_
  refine go_aload_n dR_step_332 rfl rfl ?_
  refine go_iload dR_step_333 rfl ?_
  refine go_cV (k' := (0, 0)) dR_step_335 _ csR_244 (hS.s sh_163) rfl imR_give seR_give rfl (okR_give (d := 0) w G p s hN h12 (mA (Q (uM (xC s))) (uP (xC s))) (h8) hS h) (by omega) (by decide) (Nat.le_of_ble_eq_true rfl) (fun r G1 hr hn => ?_)
  obtain ⟨rfl, X1, o1⟩ := hr
  have hS := o1.St hS
  refine go_goto dR_step_338 (tgt := 604) (by decide) ?_
  refine go_aload_n dR_step_604 rfl rfl ?_
  refine go_getO (a := 186) dR_step_605 flR_77 rfl (hS.s sh_163) (hS.r rt_fPlace) ?_
  refine go_iload_n dR_step_608 rfl rfl ?_
  refine go_iload dR_step_609 rfl ?_
  refine go_iastoreN (hS.s sh_186) (by omega) (by decide) dR_step_611 ?_
  refine go_return rfl dR_step_612 ?_
  exact ⟨rfl, X1.go hN, o1.tr (oX.wi ⟨by decide, by decide⟩)⟩
set_option maxRecDepth 100000 in
theorem okR_st2 (w : am_W) {d : Nat} (hd : 1 ≤ d) (G : am_G) (p m : Nat) (s : xT) (Q : Nat → mT) (Z : Nat → fM) (hp : p < 2) (hv : ∀ a, a < 6 → mV (Q a)) (hz : zSol Q Z m) (hb : tB Q Z m s) (hN : 1 ≤ xN s) (hc : tyR Q Z m (lM s.1) (xC s)) (hB : rBd s) (hS : St0 G) (h : xR p G s) (hR : hldR G p Q) (hop : mO (Q (uM (xC s))) (uP (xC s)) = 2) (a : Nat) (hA : mA (Q (uM (xC s))) (uP (xC s)) = nI a) (ha : a < 8) (h8 : uD (xC s) < 8) (hl : uL (xC s) a = some (uGet (xC s) a)) : am_Ok w jR_step d (0, 0) [.inr (some 163)] G (fun r G' => r = none ∧ xR p G' (xSet s (uGo (uPush (xC s) (uGet (xC s) a)) (uP (xC s) + 1))) ∧ oX G G') := by
  refine am_ok_of rfl (Nat.le_of_ble_eq_true rfl) ?_
  show am_Go w jR_step d (0, 0) 0 [some (.inr (some 163)), none, none, none, none, none, none, none, none, none, none, none, none, none] [] G _
  have nn := h.nn
  have dp := h.dp hN
  have d8 := h.d8 hN
  have h12 := hb.2.2.1
  obtain ⟨t1, -, t3, t4, -⟩ := id hc
  have hn6 := (hv _ t1).1
  obtain ⟨n1, n2, n3, n4⟩ := id hB
  have lc := h.lc hN ha hl
  refine R_stp w G p s Q hp hN h12 t1 t3 hn6 hS h hR ?_
  rw [hop]
  rw [hA]
  refine go_iload dR_step_60 rfl ?_
  refine go_bipush (nI 7) (by decide) dR_step_62 ?_
  refine go_icmp_ltN (by decide) (by decide) dR_step_64 (tgt := 97) (by decide) (fun c1 => ?_) (fun c1 => absurd c1 (by decide))
  refine go_iload dR_step_97 rfl ?_
  refine go_bipush (nI 15) (by decide) dR_step_99 ?_
  refine go_icmp_eqN (by decide) (by decide) dR_step_101 (tgt := 132) (by decide) (fun c1 => absurd c1 (by decide)) (fun c1 => ?_)
  refine go_iload dR_step_104 rfl ?_
  refine go_bipush (nI 16) (by decide) dR_step_106 ?_
  refine go_icmp_eqN (by decide) (by decide) dR_step_108 (tgt := 132) (by decide) (fun c1 => absurd c1 (by decide)) (fun c1 => ?_)
  refine go_iload dR_step_111 rfl ?_
  refine go_bipush (nI 18) (by decide) dR_step_113 ?_
  refine go_icmp_ltN (by decide) (by decide) dR_step_115 (tgt := 125) (by decide) (fun c1 => ?_) (fun c1 => absurd c1 (by decide))
  refine go_iload dR_step_125 rfl ?_
  refine go_bipush (nI 26) (by decide) dR_step_127 ?_
  refine go_icmp_neN (by decide) (by decide) dR_step_129 (tgt := 166) (by decide) (fun c1 => ?_) (fun c1 => absurd c1 (by decide))
  refine go_iload dR_step_166 rfl ?_
  refine go_bipush (nI 21) (by decide) dR_step_168 ?_
  refine go_icmp_neN (by decide) (by decide) dR_step_170 (tgt := 188) (by decide) (fun c1 => ?_) (fun c1 => absurd c1 (by decide))
  refine go_iload dR_step_188 rfl ?_
  refine go_bipush (nI 22) (by decide) dR_step_190 ?_
  refine go_icmp_neN (by decide) (by decide) dR_step_192 (tgt := 208) (by decide) (fun c1 => ?_) (fun c1 => absurd c1 (by decide))
  refine go_iload dR_step_208 rfl ?_
  refine go_tableIn dR_step_210 (by decide) (by decide) (off := 131) rfl (tgt := 341) (by decide) ?_
  refine go_aload_n dR_step_341 rfl rfl ?_
  refine go_aload_n dR_step_342 rfl rfl ?_
  refine go_getO (a := 190) dR_step_343 flR_89 rfl (hS.s sh_163) (hS.r rt_fLocal) ?_
  refine go_bipush (nI 8) (by decide) dR_step_346 ?_
  refine go_iload_n dR_step_348 rfl rfl ?_
  first | refine go_imulN dR_step_349 ?_ | refine go_imul dR_step_349 ?_
  refine go_iload dR_step_350 rfl ?_
  first | refine go_iaddN dR_step_352 ?_ | refine go_iadd dR_step_352 ?_
  refine go_ialV (hS.s sh_190) (by omega) (by decide) lc dR_step_353 ?_
  refine go_cV (k' := (0, 0)) dR_step_354 _ csR_244 (hS.s sh_163) rfl imR_give seR_give rfl (okR_give (d := 0) w G p s hN h12 (uGet (xC s) a) (h8) hS h) (by omega) (by decide) (Nat.le_of_ble_eq_true rfl) (fun r G1 hr hn => ?_)
  obtain ⟨rfl, X1, o1⟩ := hr
  have hS := o1.St hS
  refine go_goto dR_step_357 (tgt := 604) (by decide) ?_
  refine go_aload_n dR_step_604 rfl rfl ?_
  refine go_getO (a := 186) dR_step_605 flR_77 rfl (hS.s sh_163) (hS.r rt_fPlace) ?_
  refine go_iload_n dR_step_608 rfl rfl ?_
  refine go_iload dR_step_609 rfl ?_
  refine go_iastoreN (hS.s sh_186) (by omega) (by decide) dR_step_611 ?_
  refine go_return rfl dR_step_612 ?_
  exact ⟨rfl, X1.go hN, o1.tr (oX.wi ⟨by decide, by decide⟩)⟩
set_option maxRecDepth 100000 in
theorem okR_st3 (w : am_W) {d : Nat} (hd : 1 ≤ d) (G : am_G) (p m : Nat) (s : xT) (Q : Nat → mT) (Z : Nat → fM) (hp : p < 2) (hv : ∀ a, a < 6 → mV (Q a)) (hz : zSol Q Z m) (hb : tB Q Z m s) (hN : 1 ≤ xN s) (hc : tyR Q Z m (lM s.1) (xC s)) (hB : rBd s) (hS : St0 G) (h : xR p G s) (hR : hldR G p Q) (hop : mO (Q (uM (xC s))) (uP (xC s)) = 3) (a : Nat) (hA : mA (Q (uM (xC s))) (uP (xC s)) = nI a) (ha : a < 8) (hD : 1 ≤ uD (xC s)) : am_Ok w jR_step d (0, 0) [.inr (some 163)] G (fun r G' => r = none ∧ xR p G' (xSet s (uGo (uSt (uPop (xC s)) a (uTop (xC s))) (uP (xC s) + 1))) ∧ oX G G') := by
  refine am_ok_of rfl (Nat.le_of_ble_eq_true rfl) ?_
  show am_Go w jR_step d (0, 0) 0 [some (.inr (some 163)), none, none, none, none, none, none, none, none, none, none, none, none, none] [] G _
  have nn := h.nn
  have dp := h.dp hN
  have d8 := h.d8 hN
  have h12 := hb.2.2.1
  obtain ⟨t1, -, t3, t4, -⟩ := id hc
  have hn6 := (hv _ t1).1
  obtain ⟨n1, n2, n3, n4⟩ := id hB
  refine R_stp w G p s Q hp hN h12 t1 t3 hn6 hS h hR ?_
  rw [hop]
  rw [hA]
  refine go_iload dR_step_60 rfl ?_
  refine go_bipush (nI 7) (by decide) dR_step_62 ?_
  refine go_icmp_ltN (by decide) (by decide) dR_step_64 (tgt := 97) (by decide) (fun c1 => ?_) (fun c1 => absurd c1 (by decide))
  refine go_iload dR_step_97 rfl ?_
  refine go_bipush (nI 15) (by decide) dR_step_99 ?_
  refine go_icmp_eqN (by decide) (by decide) dR_step_101 (tgt := 132) (by decide) (fun c1 => absurd c1 (by decide)) (fun c1 => ?_)
  refine go_iload dR_step_104 rfl ?_
  refine go_bipush (nI 16) (by decide) dR_step_106 ?_
  refine go_icmp_eqN (by decide) (by decide) dR_step_108 (tgt := 132) (by decide) (fun c1 => absurd c1 (by decide)) (fun c1 => ?_)
  refine go_iload dR_step_111 rfl ?_
  refine go_bipush (nI 18) (by decide) dR_step_113 ?_
  refine go_icmp_ltN (by decide) (by decide) dR_step_115 (tgt := 125) (by decide) (fun c1 => ?_) (fun c1 => absurd c1 (by decide))
  refine go_iload dR_step_125 rfl ?_
  refine go_bipush (nI 26) (by decide) dR_step_127 ?_
  refine go_icmp_neN (by decide) (by decide) dR_step_129 (tgt := 166) (by decide) (fun c1 => ?_) (fun c1 => absurd c1 (by decide))
  refine go_iload dR_step_166 rfl ?_
  refine go_bipush (nI 21) (by decide) dR_step_168 ?_
  refine go_icmp_neN (by decide) (by decide) dR_step_170 (tgt := 188) (by decide) (fun c1 => ?_) (fun c1 => absurd c1 (by decide))
  refine go_iload dR_step_188 rfl ?_
  refine go_bipush (nI 22) (by decide) dR_step_190 ?_
  refine go_icmp_neN (by decide) (by decide) dR_step_192 (tgt := 208) (by decide) (fun c1 => ?_) (fun c1 => absurd c1 (by decide))
  refine go_iload dR_step_208 rfl ?_
  refine go_tableIn dR_step_210 (by decide) (by decide) (off := 150) rfl (tgt := 360) (by decide) ?_
  refine go_aload_n dR_step_360 rfl rfl ?_
  refine go_getO (a := 190) dR_step_361 flR_89 rfl (hS.s sh_163) (hS.r rt_fLocal) ?_
  refine go_bipush (nI 8) (by decide) dR_step_364 ?_
  refine go_iload_n dR_step_366 rfl rfl ?_
  first | refine go_imulN dR_step_367 ?_ | refine go_imul dR_step_367 ?_
  refine go_iload dR_step_368 rfl ?_
  first | refine go_iaddN dR_step_370 ?_ | refine go_iadd dR_step_370 ?_
  refine go_aload_n dR_step_371 rfl rfl ?_
  refine go_cV (k' := (0, 0)) dR_step_372 _ csR_234 (hS.s sh_163) rfl imR_pop seR_pop rfl (okR_pop (d := 0) w G p (s) hN h12 (hD) hS h) (by omega) (by decide) (Nat.le_of_ble_eq_true rfl) (fun r G1 hr hn => ?_)
  obtain ⟨rfl, X1, o1, -⟩ := hr
  have X1 : xR p G1 (xSet s (uPop (xC s))) := X1
  have hS := o1.St hS
  refine go_iastoreN (hS.s sh_190) (by omega) (by decide) dR_step_375 ?_
  refine go_goto dR_step_376 (tgt := 604) (by decide) ?_
  refine go_aload_n dR_step_604 rfl rfl ?_
  refine go_getO (a := 186) dR_step_605 flR_77 rfl (hS.s sh_163) (hS.r rt_fPlace) ?_
  refine go_iload_n dR_step_608 rfl rfl ?_
  refine go_iload dR_step_609 rfl ?_
  refine go_iastoreN (hS.s sh_186) (by omega) (by decide) dR_step_611 ?_
  refine go_return rfl dR_step_612 ?_
  exact ⟨rfl, (X1.st hN ha).go hN, (o1.tr (oX.wi ⟨by decide, by decide⟩)).tr (oX.wi ⟨by decide, by decide⟩)⟩
set_option maxRecDepth 100000 in
theorem okR_st4 (w : am_W) {d : Nat} (hd : 1 ≤ d) (G : am_G) (p m : Nat) (s : xT) (Q : Nat → mT) (Z : Nat → fM) (hp : p < 2) (hv : ∀ a, a < 6 → mV (Q a)) (hz : zSol Q Z m) (hb : tB Q Z m s) (hN : 1 ≤ xN s) (hc : tyR Q Z m (lM s.1) (xC s)) (hB : rBd s) (hS : St0 G) (h : xR p G s) (hR : hldR G p Q) (hop : mO (Q (uM (xC s))) (uP (xC s)) = 4) (hD : 1 ≤ uD (xC s)) : am_Ok w jR_step d (0, 0) [.inr (some 163)] G (fun r G' => r = none ∧ xR p G' (xSet s (uGo (uPop (xC s)) (uP (xC s) + 1))) ∧ oX G G') := by
  refine am_ok_of rfl (Nat.le_of_ble_eq_true rfl) ?_
  show am_Go w jR_step d (0, 0) 0 [some (.inr (some 163)), none, none, none, none, none, none, none, none, none, none, none, none, none] [] G _
  have nn := h.nn
  have dp := h.dp hN
  have d8 := h.d8 hN
  have h12 := hb.2.2.1
  obtain ⟨t1, -, t3, t4, -⟩ := id hc
  have hn6 := (hv _ t1).1
  obtain ⟨n1, n2, n3, n4⟩ := id hB
  refine R_stp w G p s Q hp hN h12 t1 t3 hn6 hS h hR ?_
  rw [hop]
  refine go_iload dR_step_60 rfl ?_
  refine go_bipush (nI 7) (by decide) dR_step_62 ?_
  refine go_icmp_ltN (by decide) (by decide) dR_step_64 (tgt := 97) (by decide) (fun c1 => ?_) (fun c1 => absurd c1 (by decide))
  refine go_iload dR_step_97 rfl ?_
  refine go_bipush (nI 15) (by decide) dR_step_99 ?_
  refine go_icmp_eqN (by decide) (by decide) dR_step_101 (tgt := 132) (by decide) (fun c1 => absurd c1 (by decide)) (fun c1 => ?_)
  refine go_iload dR_step_104 rfl ?_
  refine go_bipush (nI 16) (by decide) dR_step_106 ?_
  refine go_icmp_eqN (by decide) (by decide) dR_step_108 (tgt := 132) (by decide) (fun c1 => absurd c1 (by decide)) (fun c1 => ?_)
  refine go_iload dR_step_111 rfl ?_
  refine go_bipush (nI 18) (by decide) dR_step_113 ?_
  refine go_icmp_ltN (by decide) (by decide) dR_step_115 (tgt := 125) (by decide) (fun c1 => ?_) (fun c1 => absurd c1 (by decide))
  refine go_iload dR_step_125 rfl ?_
  refine go_bipush (nI 26) (by decide) dR_step_127 ?_
  refine go_icmp_neN (by decide) (by decide) dR_step_129 (tgt := 166) (by decide) (fun c1 => ?_) (fun c1 => absurd c1 (by decide))
  refine go_iload dR_step_166 rfl ?_
  refine go_bipush (nI 21) (by decide) dR_step_168 ?_
  refine go_icmp_neN (by decide) (by decide) dR_step_170 (tgt := 188) (by decide) (fun c1 => ?_) (fun c1 => absurd c1 (by decide))
  refine go_iload dR_step_188 rfl ?_
  refine go_bipush (nI 22) (by decide) dR_step_190 ?_
  refine go_icmp_neN (by decide) (by decide) dR_step_192 (tgt := 208) (by decide) (fun c1 => ?_) (fun c1 => absurd c1 (by decide))
  refine go_iload dR_step_208 rfl ?_
  refine go_tableIn dR_step_210 (by decide) (by decide) (off := 169) rfl (tgt := 379) (by decide) ?_
  refine go_aload_n dR_step_379 rfl rfl ?_
  refine go_cV (k' := (0, 0)) dR_step_380 _ csR_234 (hS.s sh_163) rfl imR_pop seR_pop rfl (okR_pop (d := 0) w G p (s) hN h12 (hD) hS h) (by omega) (by decide) (Nat.le_of_ble_eq_true rfl) (fun r G1 hr hn => ?_)
  obtain ⟨rfl, X1, o1, -⟩ := hr
  have X1 : xR p G1 (xSet s (uPop (xC s))) := X1
  have hS := o1.St hS
  refine go_pop dR_step_383 ?_
  refine go_goto dR_step_384 (tgt := 604) (by decide) ?_
  refine go_aload_n dR_step_604 rfl rfl ?_
  refine go_getO (a := 186) dR_step_605 flR_77 rfl (hS.s sh_163) (hS.r rt_fPlace) ?_
  refine go_iload_n dR_step_608 rfl rfl ?_
  refine go_iload dR_step_609 rfl ?_
  refine go_iastoreN (hS.s sh_186) (by omega) (by decide) dR_step_611 ?_
  refine go_return rfl dR_step_612 ?_
  exact ⟨rfl, X1.go hN, o1.tr (oX.wi ⟨by decide, by decide⟩)⟩
set_option maxRecDepth 100000 in
theorem okR_st5 (w : am_W) {d : Nat} (hd : 1 ≤ d) (G : am_G) (p m : Nat) (s : xT) (Q : Nat → mT) (Z : Nat → fM) (hp : p < 2) (hv : ∀ a, a < 6 → mV (Q a)) (hz : zSol Q Z m) (hb : tB Q Z m s) (hN : 1 ≤ xN s) (hc : tyR Q Z m (lM s.1) (xC s)) (hB : rBd s) (hS : St0 G) (h : xR p G s) (hR : hldR G p Q) (hop : mO (Q (uM (xC s))) (uP (xC s)) = 5) (hD : 1 ≤ uD (xC s)) (h8 : uD (xC s) < 8) : am_Ok w jR_step d (0, 0) [.inr (some 163)] G (fun r G' => r = none ∧ xR p G' (xSet s (uGo (uPush (uPush (uPop (xC s)) (uTop (xC s))) (uTop (xC s))) (uP (xC s) + 1))) ∧ oX G G') := by
  refine am_ok_of rfl (Nat.le_of_ble_eq_true rfl) ?_
  show am_Go w jR_step d (0, 0) 0 [some (.inr (some 163)), none, none, none, none, none, none, none, none, none, none, none, none, none] [] G _
  have nn := h.nn
  have dp := h.dp hN
  have d8 := h.d8 hN
  have h12 := hb.2.2.1
  obtain ⟨t1, -, t3, t4, -⟩ := id hc
  have hn6 := (hv _ t1).1
  obtain ⟨n1, n2, n3, n4⟩ := id hB
  have vl : G.2.1 189 (8 * (xN s - 1) + uD (xC s) - 1) = uTop (xC s) := by rw [show 8 * (xN s - 1) + uD (xC s) - 1 = 8 * (xN s - 1) + (uD (xC s) - 1) by omega]; exact h.vl hN (by omega)
  rw [uDup hD]
  refine R_stp w G p s Q hp hN h12 t1 t3 hn6 hS h hR ?_
  rw [hop]
  refine go_iload dR_step_60 rfl ?_
  refine go_bipush (nI 7) (by decide) dR_step_62 ?_
  refine go_icmp_ltN (by decide) (by decide) dR_step_64 (tgt := 97) (by decide) (fun c1 => ?_) (fun c1 => absurd c1 (by decide))
  refine go_iload dR_step_97 rfl ?_
  refine go_bipush (nI 15) (by decide) dR_step_99 ?_
  refine go_icmp_eqN (by decide) (by decide) dR_step_101 (tgt := 132) (by decide) (fun c1 => absurd c1 (by decide)) (fun c1 => ?_)
  refine go_iload dR_step_104 rfl ?_
  refine go_bipush (nI 16) (by decide) dR_step_106 ?_
  refine go_icmp_eqN (by decide) (by decide) dR_step_108 (tgt := 132) (by decide) (fun c1 => absurd c1 (by decide)) (fun c1 => ?_)
  refine go_iload dR_step_111 rfl ?_
  refine go_bipush (nI 18) (by decide) dR_step_113 ?_
  refine go_icmp_ltN (by decide) (by decide) dR_step_115 (tgt := 125) (by decide) (fun c1 => ?_) (fun c1 => absurd c1 (by decide))
  refine go_iload dR_step_125 rfl ?_
  refine go_bipush (nI 26) (by decide) dR_step_127 ?_
  refine go_icmp_neN (by decide) (by decide) dR_step_129 (tgt := 166) (by decide) (fun c1 => ?_) (fun c1 => absurd c1 (by decide))
  refine go_iload dR_step_166 rfl ?_
  refine go_bipush (nI 21) (by decide) dR_step_168 ?_
  refine go_icmp_neN (by decide) (by decide) dR_step_170 (tgt := 188) (by decide) (fun c1 => ?_) (fun c1 => absurd c1 (by decide))
  refine go_iload dR_step_188 rfl ?_
  refine go_bipush (nI 22) (by decide) dR_step_190 ?_
  refine go_icmp_neN (by decide) (by decide) dR_step_192 (tgt := 208) (by decide) (fun c1 => ?_) (fun c1 => absurd c1 (by decide))
  refine go_iload dR_step_208 rfl ?_
  refine go_tableIn dR_step_210 (by decide) (by decide) (off := 177) rfl (tgt := 387) (by decide) ?_
  refine go_aload_n dR_step_387 rfl rfl ?_
  refine go_aload_n dR_step_388 rfl rfl ?_
  refine go_getO (a := 189) dR_step_389 flR_86 rfl (hS.s sh_163) (hS.r rt_value) ?_
  refine go_bipush (nI 8) (by decide) dR_step_392 ?_
  refine go_iload_n dR_step_394 rfl rfl ?_
  first | refine go_imulN dR_step_395 ?_ | refine go_imul dR_step_395 ?_
  refine go_aload_n dR_step_396 rfl rfl ?_
  refine go_getO (a := 187) dR_step_397 flR_80 rfl (hS.s sh_163) (hS.r rt_fDepth) ?_
  refine go_iload_n dR_step_400 rfl rfl ?_
  first | refine go_ialV (hS.s sh_187) (by omega) (by decide) (by assumption) dR_step_401 ?_ | refine go_ialoadN (hS.s sh_187) (by omega) (by decide) dR_step_401 ?_
  first | refine go_iaddN dR_step_402 ?_ | refine go_iadd dR_step_402 ?_
  refine go_iconst (nI 1) (by decide) dR_step_403 ?_
  first | refine go_isubN (by omega) dR_step_404 ?_ | refine go_isub dR_step_404 ?_
  refine go_ialV (hS.s sh_189) (by omega) (by decide) vl dR_step_405 ?_
  refine go_cV (k' := (0, 0)) dR_step_406 _ csR_244 (hS.s sh_163) rfl imR_give seR_give rfl (okR_give (d := 0) w G p s hN h12 (uTop (xC s)) (h8) hS h) (by omega) (by decide) (Nat.le_of_ble_eq_true rfl) (fun r G1 hr hn => ?_)
  obtain ⟨rfl, X1, o1⟩ := hr
  have hS := o1.St hS
  refine go_goto dR_step_409 (tgt := 604) (by decide) ?_
  refine go_aload_n dR_step_604 rfl rfl ?_
  refine go_getO (a := 186) dR_step_605 flR_77 rfl (hS.s sh_163) (hS.r rt_fPlace) ?_
  refine go_iload_n dR_step_608 rfl rfl ?_
  refine go_iload dR_step_609 rfl ?_
  refine go_iastoreN (hS.s sh_186) (by omega) (by decide) dR_step_611 ?_
  refine go_return rfl dR_step_612 ?_
  exact ⟨rfl, X1.go hN, o1.tr (oX.wi ⟨by decide, by decide⟩)⟩
set_option maxRecDepth 100000 in
theorem okR_st6 (w : am_W) {d : Nat} (hd : 1 ≤ d) (G : am_G) (p m : Nat) (s : xT) (Q : Nat → mT) (Z : Nat → fM) (hp : p < 2) (hv : ∀ a, a < 6 → mV (Q a)) (hz : zSol Q Z m) (hb : tB Q Z m s) (hN : 1 ≤ xN s) (hc : tyR Q Z m (lM s.1) (xC s)) (hB : rBd s) (hS : St0 G) (h : xR p G s) (hR : hldR G p Q) (hop : mO (Q (uM (xC s))) (uP (xC s)) = 6) (hD : 2 ≤ uD (xC s)) : am_Ok w jR_step d (0, 0) [.inr (some 163)] G (fun r G' => r = none ∧ xR p G' (xSet s (uGo (uPush (uPush (uPop (uPop (xC s))) (uTop (xC s))) (uTop (uPop (xC s)))) (uP (xC s) + 1))) ∧ oX G G') := by
  refine am_ok_of rfl (Nat.le_of_ble_eq_true rfl) ?_
  show am_Go w jR_step d (0, 0) 0 [some (.inr (some 163)), none, none, none, none, none, none, none, none, none, none, none, none, none] [] G _
  have nn := h.nn
  have dp := h.dp hN
  have d8 := h.d8 hN
  have h12 := hb.2.2.1
  obtain ⟨t1, -, t3, t4, -⟩ := id hc
  have hn6 := (hv _ t1).1
  obtain ⟨n1, n2, n3, n4⟩ := id hB
  refine R_stp w G p s Q hp hN h12 t1 t3 hn6 hS h hR ?_
  rw [hop]
  refine go_iload dR_step_60 rfl ?_
  refine go_bipush (nI 7) (by decide) dR_step_62 ?_
  refine go_icmp_ltN (by decide) (by decide) dR_step_64 (tgt := 97) (by decide) (fun c1 => ?_) (fun c1 => absurd c1 (by decide))
  refine go_iload dR_step_97 rfl ?_
  refine go_bipush (nI 15) (by decide) dR_step_99 ?_
  refine go_icmp_eqN (by decide) (by decide) dR_step_101 (tgt := 132) (by decide) (fun c1 => absurd c1 (by decide)) (fun c1 => ?_)
  refine go_iload dR_step_104 rfl ?_
  refine go_bipush (nI 16) (by decide) dR_step_106 ?_
  refine go_icmp_eqN (by decide) (by decide) dR_step_108 (tgt := 132) (by decide) (fun c1 => absurd c1 (by decide)) (fun c1 => ?_)
  refine go_iload dR_step_111 rfl ?_
  refine go_bipush (nI 18) (by decide) dR_step_113 ?_
  refine go_icmp_ltN (by decide) (by decide) dR_step_115 (tgt := 125) (by decide) (fun c1 => ?_) (fun c1 => absurd c1 (by decide))
  refine go_iload dR_step_125 rfl ?_
  refine go_bipush (nI 26) (by decide) dR_step_127 ?_
  refine go_icmp_neN (by decide) (by decide) dR_step_129 (tgt := 166) (by decide) (fun c1 => ?_) (fun c1 => absurd c1 (by decide))
  refine go_iload dR_step_166 rfl ?_
  refine go_bipush (nI 21) (by decide) dR_step_168 ?_
  refine go_icmp_neN (by decide) (by decide) dR_step_170 (tgt := 188) (by decide) (fun c1 => ?_) (fun c1 => absurd c1 (by decide))
  refine go_iload dR_step_188 rfl ?_
  refine go_bipush (nI 22) (by decide) dR_step_190 ?_
  refine go_icmp_neN (by decide) (by decide) dR_step_192 (tgt := 208) (by decide) (fun c1 => ?_) (fun c1 => absurd c1 (by decide))
  refine go_iload dR_step_208 rfl ?_
  refine go_tableIn dR_step_210 (by decide) (by decide) (off := 202) rfl (tgt := 412) (by decide) ?_
  refine go_aload_n dR_step_412 rfl rfl ?_
  refine go_cV (k' := (0, 0)) dR_step_413 _ csR_234 (hS.s sh_163) rfl imR_pop seR_pop rfl (okR_pop (d := 0) w G p (s) hN h12 (show 1 ≤ uD (xC s) by omega) hS h) (by omega) (by decide) (Nat.le_of_ble_eq_true rfl) (fun r G1 hr hn => ?_)
  obtain ⟨rfl, X1, o1, -⟩ := hr
  have X1 : xR p G1 (xSet s (uPop (xC s))) := X1
  have hS := o1.St hS
  refine go_istore dR_step_416 (Nat.le_of_ble_eq_true rfl) ?_
  refine go_aload_n dR_step_418 rfl rfl ?_
  refine go_cV (k' := (0, 0)) dR_step_419 _ csR_234 (hS.s sh_163) rfl imR_pop seR_pop rfl (okR_pop (d := 0) w G1 p (xSet s (uPop (xC s))) hN h12 (show 1 ≤ uD (xC s) - 1 by omega) hS X1) (by omega) (by decide) (Nat.le_of_ble_eq_true rfl) (fun r G1 hr hn => ?_)
  obtain ⟨rfl, X2, o2, -⟩ := hr
  have X2 : xR p G1 (xSet s (uPop (uPop (xC s)))) := X2
  have hS := o2.St hS
  refine go_istore dR_step_422 (Nat.le_of_ble_eq_true rfl) ?_
  refine go_aload_n dR_step_424 rfl rfl ?_
  refine go_iload dR_step_425 rfl ?_
  refine go_cV (k' := (0, 0)) dR_step_427 _ csR_244 (hS.s sh_163) rfl imR_give seR_give rfl (okR_give (d := 0) w G1 p (xSet s (uPop (uPop (xC s)))) hN h12 (uTop (xC s)) (show uD (xC s) - 1 - 1 < 8 by omega) hS X2) (by omega) (by decide) (Nat.le_of_ble_eq_true rfl) (fun r G1 hr hn => ?_)
  obtain ⟨rfl, X3, o3⟩ := hr
  have X3 : xR p G1 (xSet s (uPush (uPop (uPop (xC s))) (uTop (xC s)))) := X3
  have hS := o3.St hS
  refine go_aload_n dR_step_430 rfl rfl ?_
  refine go_iload dR_step_431 rfl ?_
  refine go_cV (k' := (0, 0)) dR_step_433 _ csR_244 (hS.s sh_163) rfl imR_give seR_give rfl (okR_give (d := 0) w G1 p (xSet s (uPush (uPop (uPop (xC s))) (uTop (xC s)))) hN h12 (uTop (uPop (xC s))) (show uD (xC s) - 1 - 1 + 1 < 8 by omega) hS X3) (by omega) (by decide) (Nat.le_of_ble_eq_true rfl) (fun r G1 hr hn => ?_)
  obtain ⟨rfl, X4, o4⟩ := hr
  have hS := o4.St hS
  refine go_goto dR_step_436 (tgt := 604) (by decide) ?_
  refine go_aload_n dR_step_604 rfl rfl ?_
  refine go_getO (a := 186) dR_step_605 flR_77 rfl (hS.s sh_163) (hS.r rt_fPlace) ?_
  refine go_iload_n dR_step_608 rfl rfl ?_
  refine go_iload dR_step_609 rfl ?_
  refine go_iastoreN (hS.s sh_186) (by omega) (by decide) dR_step_611 ?_
  refine go_return rfl dR_step_612 ?_
  exact ⟨rfl, X4.go hN, (((o1.tr o2).tr o3).tr o4).tr (oX.wi ⟨by decide, by decide⟩)⟩
set_option maxRecDepth 100000 in
theorem okR_st7 (w : am_W) {d : Nat} (hd : 2 ≤ d) (G : am_G) (p m : Nat) (s : xT) (Q : Nat → mT) (Z : Nat → fM) (hp : p < 2) (hv : ∀ a, a < 6 → mV (Q a)) (hz : zSol Q Z m) (hb : tB Q Z m s) (hN : 1 ≤ xN s) (hc : tyR Q Z m (lM s.1) (xC s)) (hB : rBd s) (hS : St0 G) (h : xR p G s) (hR : hldR G p Q) (hop : mO (Q (uM (xC s))) (uP (xC s)) = 7) (hD : 2 ≤ uD (xC s)) : am_Ok w jR_step d (0, 0) [.inr (some 163)] G (fun r G' => r = none ∧ xR p G' (xSet s (uGo (uPush (uPop (uPop (xC s))) (uTop (uPop (xC s)) + uTop (xC s))) (uP (xC s) + 1))) ∧ oX G G') := by
  refine am_ok_of rfl (Nat.le_of_ble_eq_true rfl) ?_
  show am_Go w jR_step d (0, 0) 0 [some (.inr (some 163)), none, none, none, none, none, none, none, none, none, none, none, none, none] [] G _
  have nn := h.nn
  have dp := h.dp hN
  have d8 := h.d8 hN
  have h12 := hb.2.2.1
  obtain ⟨t1, -, t3, t4, -⟩ := id hc
  have hn6 := (hv _ t1).1
  obtain ⟨n1, n2, n3, n4⟩ := id hB
  refine R_stp w G p s Q hp hN h12 t1 t3 hn6 hS h hR ?_
  rw [hop]
  refine go_iload dR_step_60 rfl ?_
  refine go_bipush (nI 7) (by decide) dR_step_62 ?_
  refine go_icmp_ltN (by decide) (by decide) dR_step_64 (tgt := 97) (by decide) (fun c1 => absurd c1 (by decide)) (fun c1 => ?_)
  refine go_iload dR_step_67 rfl ?_
  refine go_bipush (nI 10) (by decide) dR_step_69 ?_
  refine go_icmp_gtN (by decide) (by decide) dR_step_71 (tgt := 97) (by decide) (fun c1 => absurd c1 (by decide)) (fun c1 => ?_)
  refine go_aload_n dR_step_74 rfl rfl ?_
  refine go_cV (k' := (0, 0)) dR_step_75 _ csR_234 (hS.s sh_163) rfl imR_pop seR_pop rfl (okR_pop (d := 0) w G p (s) hN h12 (show 1 ≤ uD (xC s) by omega) hS h) (by omega) (by decide) (Nat.le_of_ble_eq_true rfl) (fun r G1 hr hn => ?_)
  obtain ⟨rfl, X1, o1, -⟩ := hr
  have X1 : xR p G1 (xSet s (uPop (xC s))) := X1
  have hS := o1.St hS
  refine go_istore dR_step_78 (Nat.le_of_ble_eq_true rfl) ?_
  refine go_aload_n dR_step_80 rfl rfl ?_
  refine go_cV (k' := (0, 0)) dR_step_81 _ csR_234 (hS.s sh_163) rfl imR_pop seR_pop rfl (okR_pop (d := 0) w G1 p (xSet s (uPop (xC s))) hN h12 (show 1 ≤ uD (xC s) - 1 by omega) hS X1) (by omega) (by decide) (Nat.le_of_ble_eq_true rfl) (fun r G1 hr hn => ?_)
  obtain ⟨rfl, X2, o2, -⟩ := hr
  have X2 : xR p G1 (xSet s (uPop (uPop (xC s)))) := X2
  have hS := o2.St hS
  refine go_istore dR_step_84 (Nat.le_of_ble_eq_true rfl) ?_
  refine go_aload_n dR_step_86 rfl rfl ?_
  refine go_iload dR_step_87 rfl ?_
  refine go_iload dR_step_89 rfl ?_
  refine go_iload dR_step_91 rfl ?_
  refine go_cV (k' := (0, 0)) dR_step_93 _ csR_250 (hS.s sh_163) rfl imR_sum seR_sum rfl (okR_sum7 (d := 1) w (by decide) G1 p (xSet s (uPop (uPop (xC s)))) (uTop (uPop (xC s))) (uTop (xC s)) hN h12 (show uD (xC s) - 1 - 1 < 8 by omega) hS X2) (by omega) (by decide) (Nat.le_of_ble_eq_true rfl) (fun r G1 hr hn => ?_)
  obtain ⟨rfl, X3, o3⟩ := hr
  have hS := o3.St hS
  refine go_return rfl dR_step_96 ?_
  exact ⟨rfl, X3, (o1.tr o2).tr o3⟩
set_option maxRecDepth 100000 in
theorem okR_st8 (w : am_W) {d : Nat} (hd : 2 ≤ d) (G : am_G) (p m : Nat) (s : xT) (Q : Nat → mT) (Z : Nat → fM) (hp : p < 2) (hv : ∀ a, a < 6 → mV (Q a)) (hz : zSol Q Z m) (hb : tB Q Z m s) (hN : 1 ≤ xN s) (hc : tyR Q Z m (lM s.1) (xC s)) (hB : rBd s) (hS : St0 G) (h : xR p G s) (hR : hldR G p Q) (hop : mO (Q (uM (xC s))) (uP (xC s)) = 8) (hD : 2 ≤ uD (xC s)) : am_Ok w jR_step d (0, 0) [.inr (some 163)] G (fun r G' => r = none ∧ xR p G' (xSet s (uGo (uPush (uPop (uPop (xC s))) (uTop (uPop (xC s)) - uTop (xC s))) (uP (xC s) + 1))) ∧ oX G G') := by
  refine am_ok_of rfl (Nat.le_of_ble_eq_true rfl) ?_
  show am_Go w jR_step d (0, 0) 0 [some (.inr (some 163)), none, none, none, none, none, none, none, none, none, none, none, none, none] [] G _
  have nn := h.nn
  have dp := h.dp hN
  have d8 := h.d8 hN
  have h12 := hb.2.2.1
  obtain ⟨t1, -, t3, t4, -⟩ := id hc
  have hn6 := (hv _ t1).1
  obtain ⟨n1, n2, n3, n4⟩ := id hB
  refine R_stp w G p s Q hp hN h12 t1 t3 hn6 hS h hR ?_
  rw [hop]
  refine go_iload dR_step_60 rfl ?_
  refine go_bipush (nI 7) (by decide) dR_step_62 ?_
  refine go_icmp_ltN (by decide) (by decide) dR_step_64 (tgt := 97) (by decide) (fun c1 => absurd c1 (by decide)) (fun c1 => ?_)
  refine go_iload dR_step_67 rfl ?_
  refine go_bipush (nI 10) (by decide) dR_step_69 ?_
  refine go_icmp_gtN (by decide) (by decide) dR_step_71 (tgt := 97) (by decide) (fun c1 => absurd c1 (by decide)) (fun c1 => ?_)
  refine go_aload_n dR_step_74 rfl rfl ?_
  refine go_cV (k' := (0, 0)) dR_step_75 _ csR_234 (hS.s sh_163) rfl imR_pop seR_pop rfl (okR_pop (d := 0) w G p (s) hN h12 (show 1 ≤ uD (xC s) by omega) hS h) (by omega) (by decide) (Nat.le_of_ble_eq_true rfl) (fun r G1 hr hn => ?_)
  obtain ⟨rfl, X1, o1, -⟩ := hr
  have X1 : xR p G1 (xSet s (uPop (xC s))) := X1
  have hS := o1.St hS
  refine go_istore dR_step_78 (Nat.le_of_ble_eq_true rfl) ?_
  refine go_aload_n dR_step_80 rfl rfl ?_
  refine go_cV (k' := (0, 0)) dR_step_81 _ csR_234 (hS.s sh_163) rfl imR_pop seR_pop rfl (okR_pop (d := 0) w G1 p (xSet s (uPop (xC s))) hN h12 (show 1 ≤ uD (xC s) - 1 by omega) hS X1) (by omega) (by decide) (Nat.le_of_ble_eq_true rfl) (fun r G1 hr hn => ?_)
  obtain ⟨rfl, X2, o2, -⟩ := hr
  have X2 : xR p G1 (xSet s (uPop (uPop (xC s)))) := X2
  have hS := o2.St hS
  refine go_istore dR_step_84 (Nat.le_of_ble_eq_true rfl) ?_
  refine go_aload_n dR_step_86 rfl rfl ?_
  refine go_iload dR_step_87 rfl ?_
  refine go_iload dR_step_89 rfl ?_
  refine go_iload dR_step_91 rfl ?_
  refine go_cV (k' := (0, 0)) dR_step_93 _ csR_250 (hS.s sh_163) rfl imR_sum seR_sum rfl (okR_sum8 (d := 1) w (by decide) G1 p (xSet s (uPop (uPop (xC s)))) (uTop (uPop (xC s))) (uTop (xC s)) hN h12 (show uD (xC s) - 1 - 1 < 8 by omega) hS X2) (by omega) (by decide) (Nat.le_of_ble_eq_true rfl) (fun r G1 hr hn => ?_)
  obtain ⟨rfl, X3, o3⟩ := hr
  have hS := o3.St hS
  refine go_return rfl dR_step_96 ?_
  exact ⟨rfl, X3, (o1.tr o2).tr o3⟩
set_option maxRecDepth 100000 in
theorem okR_st9 (w : am_W) {d : Nat} (hd : 2 ≤ d) (G : am_G) (p m : Nat) (s : xT) (Q : Nat → mT) (Z : Nat → fM) (hp : p < 2) (hv : ∀ a, a < 6 → mV (Q a)) (hz : zSol Q Z m) (hb : tB Q Z m s) (hN : 1 ≤ xN s) (hc : tyR Q Z m (lM s.1) (xC s)) (hB : rBd s) (hS : St0 G) (h : xR p G s) (hR : hldR G p Q) (hop : mO (Q (uM (xC s))) (uP (xC s)) = 9) (hD : 2 ≤ uD (xC s)) : am_Ok w jR_step d (0, 0) [.inr (some 163)] G (fun r G' => r = none ∧ xR p G' (xSet s (uGo (uPush (uPop (uPop (xC s))) (uTop (uPop (xC s)) * uTop (xC s))) (uP (xC s) + 1))) ∧ oX G G') := by
  refine am_ok_of rfl (Nat.le_of_ble_eq_true rfl) ?_
  show am_Go w jR_step d (0, 0) 0 [some (.inr (some 163)), none, none, none, none, none, none, none, none, none, none, none, none, none] [] G _
  have nn := h.nn
  have dp := h.dp hN
  have d8 := h.d8 hN
  have h12 := hb.2.2.1
  obtain ⟨t1, -, t3, t4, -⟩ := id hc
  have hn6 := (hv _ t1).1
  obtain ⟨n1, n2, n3, n4⟩ := id hB
  refine R_stp w G p s Q hp hN h12 t1 t3 hn6 hS h hR ?_
  rw [hop]
  refine go_iload dR_step_60 rfl ?_
  refine go_bipush (nI 7) (by decide) dR_step_62 ?_
  refine go_icmp_ltN (by decide) (by decide) dR_step_64 (tgt := 97) (by decide) (fun c1 => absurd c1 (by decide)) (fun c1 => ?_)
  refine go_iload dR_step_67 rfl ?_
  refine go_bipush (nI 10) (by decide) dR_step_69 ?_
  refine go_icmp_gtN (by decide) (by decide) dR_step_71 (tgt := 97) (by decide) (fun c1 => absurd c1 (by decide)) (fun c1 => ?_)
  refine go_aload_n dR_step_74 rfl rfl ?_
  refine go_cV (k' := (0, 0)) dR_step_75 _ csR_234 (hS.s sh_163) rfl imR_pop seR_pop rfl (okR_pop (d := 0) w G p (s) hN h12 (show 1 ≤ uD (xC s) by omega) hS h) (by omega) (by decide) (Nat.le_of_ble_eq_true rfl) (fun r G1 hr hn => ?_)
  obtain ⟨rfl, X1, o1, -⟩ := hr
  have X1 : xR p G1 (xSet s (uPop (xC s))) := X1
  have hS := o1.St hS
  refine go_istore dR_step_78 (Nat.le_of_ble_eq_true rfl) ?_
  refine go_aload_n dR_step_80 rfl rfl ?_
  refine go_cV (k' := (0, 0)) dR_step_81 _ csR_234 (hS.s sh_163) rfl imR_pop seR_pop rfl (okR_pop (d := 0) w G1 p (xSet s (uPop (xC s))) hN h12 (show 1 ≤ uD (xC s) - 1 by omega) hS X1) (by omega) (by decide) (Nat.le_of_ble_eq_true rfl) (fun r G1 hr hn => ?_)
  obtain ⟨rfl, X2, o2, -⟩ := hr
  have X2 : xR p G1 (xSet s (uPop (uPop (xC s)))) := X2
  have hS := o2.St hS
  refine go_istore dR_step_84 (Nat.le_of_ble_eq_true rfl) ?_
  refine go_aload_n dR_step_86 rfl rfl ?_
  refine go_iload dR_step_87 rfl ?_
  refine go_iload dR_step_89 rfl ?_
  refine go_iload dR_step_91 rfl ?_
  refine go_cV (k' := (0, 0)) dR_step_93 _ csR_250 (hS.s sh_163) rfl imR_sum seR_sum rfl (okR_sum9 (d := 1) w (by decide) G1 p (xSet s (uPop (uPop (xC s)))) (uTop (uPop (xC s))) (uTop (xC s)) hN h12 (show uD (xC s) - 1 - 1 < 8 by omega) hS X2) (by omega) (by decide) (Nat.le_of_ble_eq_true rfl) (fun r G1 hr hn => ?_)
  obtain ⟨rfl, X3, o3⟩ := hr
  have hS := o3.St hS
  refine go_return rfl dR_step_96 ?_
  exact ⟨rfl, X3, (o1.tr o2).tr o3⟩
set_option maxRecDepth 100000 in
theorem okR_st10 (w : am_W) {d : Nat} (hd : 2 ≤ d) (G : am_G) (p m : Nat) (s : xT) (Q : Nat → mT) (Z : Nat → fM) (hp : p < 2) (hv : ∀ a, a < 6 → mV (Q a)) (hz : zSol Q Z m) (hb : tB Q Z m s) (hN : 1 ≤ xN s) (hc : tyR Q Z m (lM s.1) (xC s)) (hB : rBd s) (hS : St0 G) (h : xR p G s) (hR : hldR G p Q) (hop : mO (Q (uM (xC s))) (uP (xC s)) = 10) (hD : 2 ≤ uD (xC s)) (hy : ¬ uTop (xC s) = nI 0) : am_Ok w jR_step d (0, 0) [.inr (some 163)] G (fun r G' => r = none ∧ xR p G' (xSet s (uGo (uPush (uPop (uPop (xC s))) (uTop (uPop (xC s)) / uTop (xC s))) (uP (xC s) + 1))) ∧ oX G G') := by
  refine am_ok_of rfl (Nat.le_of_ble_eq_true rfl) ?_
  show am_Go w jR_step d (0, 0) 0 [some (.inr (some 163)), none, none, none, none, none, none, none, none, none, none, none, none, none] [] G _
  have nn := h.nn
  have dp := h.dp hN
  have d8 := h.d8 hN
  have h12 := hb.2.2.1
  obtain ⟨t1, -, t3, t4, -⟩ := id hc
  have hn6 := (hv _ t1).1
  obtain ⟨n1, n2, n3, n4⟩ := id hB
  refine R_stp w G p s Q hp hN h12 t1 t3 hn6 hS h hR ?_
  rw [hop]
  refine go_iload dR_step_60 rfl ?_
  refine go_bipush (nI 7) (by decide) dR_step_62 ?_
  refine go_icmp_ltN (by decide) (by decide) dR_step_64 (tgt := 97) (by decide) (fun c1 => absurd c1 (by decide)) (fun c1 => ?_)
  refine go_iload dR_step_67 rfl ?_
  refine go_bipush (nI 10) (by decide) dR_step_69 ?_
  refine go_icmp_gtN (by decide) (by decide) dR_step_71 (tgt := 97) (by decide) (fun c1 => absurd c1 (by decide)) (fun c1 => ?_)
  refine go_aload_n dR_step_74 rfl rfl ?_
  refine go_cV (k' := (0, 0)) dR_step_75 _ csR_234 (hS.s sh_163) rfl imR_pop seR_pop rfl (okR_pop (d := 0) w G p (s) hN h12 (show 1 ≤ uD (xC s) by omega) hS h) (by omega) (by decide) (Nat.le_of_ble_eq_true rfl) (fun r G1 hr hn => ?_)
  obtain ⟨rfl, X1, o1, -⟩ := hr
  have X1 : xR p G1 (xSet s (uPop (xC s))) := X1
  have hS := o1.St hS
  refine go_istore dR_step_78 (Nat.le_of_ble_eq_true rfl) ?_
  refine go_aload_n dR_step_80 rfl rfl ?_
  refine go_cV (k' := (0, 0)) dR_step_81 _ csR_234 (hS.s sh_163) rfl imR_pop seR_pop rfl (okR_pop (d := 0) w G1 p (xSet s (uPop (xC s))) hN h12 (show 1 ≤ uD (xC s) - 1 by omega) hS X1) (by omega) (by decide) (Nat.le_of_ble_eq_true rfl) (fun r G1 hr hn => ?_)
  obtain ⟨rfl, X2, o2, -⟩ := hr
  have X2 : xR p G1 (xSet s (uPop (uPop (xC s)))) := X2
  have hS := o2.St hS
  refine go_istore dR_step_84 (Nat.le_of_ble_eq_true rfl) ?_
  refine go_aload_n dR_step_86 rfl rfl ?_
  refine go_iload dR_step_87 rfl ?_
  refine go_iload dR_step_89 rfl ?_
  refine go_iload dR_step_91 rfl ?_
  refine go_cV (k' := (0, 0)) dR_step_93 _ csR_250 (hS.s sh_163) rfl imR_sum seR_sum rfl (okR_sum10 (d := 1) w (by decide) G1 p (xSet s (uPop (uPop (xC s)))) (uTop (uPop (xC s))) (uTop (xC s)) hN h12 (show uD (xC s) - 1 - 1 < 8 by omega) hS X2 hy) (by omega) (by decide) (Nat.le_of_ble_eq_true rfl) (fun r G1 hr hn => ?_)
  obtain ⟨rfl, X3, o3⟩ := hr
  have hS := o3.St hS
  refine go_return rfl dR_step_96 ?_
  exact ⟨rfl, X3, (o1.tr o2).tr o3⟩
set_option maxRecDepth 100000 in
theorem okR_st10z (w : am_W) {d : Nat} (hd : 6 ≤ d) (G : am_G) (p m : Nat) (s : xT) (Q : Nat → mT) (Z : Nat → fM) (hp : p < 2) (hv : ∀ a, a < 6 → mV (Q a)) (hz : zSol Q Z m) (hb : tB Q Z m s) (hN : 1 ≤ xN s) (hc : tyR Q Z m (lM s.1) (xC s)) (hB : rBd s) (hS : St0 G) (h : xR p G s) (hR : hldR G p Q) (hop : mO (Q (uM (xC s))) (uP (xC s)) = 10) (hD : 2 ≤ uD (xC s)) (hy : uTop (xC s) = nI 0) : am_Ok w jR_step d (0, 0) [.inr (some 163)] G (fun r G' => r = none ∧ xR p G' (xAft Q (xNew (xSet s (uPop (uPop (xC s)))) 1)) ∧ oX G G') := by
  refine am_ok_of rfl (Nat.le_of_ble_eq_true rfl) ?_
  show am_Go w jR_step d (0, 0) 0 [some (.inr (some 163)), none, none, none, none, none, none, none, none, none, none, none, none, none] [] G _
  have nn := h.nn
  have dp := h.dp hN
  have d8 := h.d8 hN
  have h12 := hb.2.2.1
  obtain ⟨t1, -, t3, t4, -⟩ := id hc
  have hn6 := (hv _ t1).1
  obtain ⟨n1, n2, n3, n4⟩ := id hB
  refine R_stp w G p s Q hp hN h12 t1 t3 hn6 hS h hR ?_
  rw [hop]
  refine go_iload dR_step_60 rfl ?_
  refine go_bipush (nI 7) (by decide) dR_step_62 ?_
  refine go_icmp_ltN (by decide) (by decide) dR_step_64 (tgt := 97) (by decide) (fun c1 => absurd c1 (by decide)) (fun c1 => ?_)
  refine go_iload dR_step_67 rfl ?_
  refine go_bipush (nI 10) (by decide) dR_step_69 ?_
  refine go_icmp_gtN (by decide) (by decide) dR_step_71 (tgt := 97) (by decide) (fun c1 => absurd c1 (by decide)) (fun c1 => ?_)
  refine go_aload_n dR_step_74 rfl rfl ?_
  refine go_cV (k' := (0, 0)) dR_step_75 _ csR_234 (hS.s sh_163) rfl imR_pop seR_pop rfl (okR_pop (d := 0) w G p (s) hN h12 (show 1 ≤ uD (xC s) by omega) hS h) (by omega) (by decide) (Nat.le_of_ble_eq_true rfl) (fun r G1 hr hn => ?_)
  obtain ⟨rfl, X1, o1, -⟩ := hr
  have X1 : xR p G1 (xSet s (uPop (xC s))) := X1
  have hS := o1.St hS
  rw [hy]
  refine go_istore dR_step_78 (Nat.le_of_ble_eq_true rfl) ?_
  refine go_aload_n dR_step_80 rfl rfl ?_
  refine go_cV (k' := (0, 0)) dR_step_81 _ csR_234 (hS.s sh_163) rfl imR_pop seR_pop rfl (okR_pop (d := 0) w G1 p (xSet s (uPop (xC s))) hN h12 (show 1 ≤ uD (xC s) - 1 by omega) hS X1) (by omega) (by decide) (Nat.le_of_ble_eq_true rfl) (fun r G1 hr hn => ?_)
  obtain ⟨rfl, X2, o2, -⟩ := hr
  have X2 : xR p G1 (xSet s (uPop (uPop (xC s)))) := X2
  have hS := o2.St hS
  refine go_istore dR_step_84 (Nat.le_of_ble_eq_true rfl) ?_
  refine go_aload_n dR_step_86 rfl rfl ?_
  refine go_iload dR_step_87 rfl ?_
  refine go_iload dR_step_89 rfl ?_
  refine go_iload dR_step_91 rfl ?_
  refine go_cV (k' := (0, 0)) dR_step_93 _ csR_250 (hS.s sh_163) rfl imR_sum seR_sum rfl (okR_sum0 (d := 5) w (by decide) G1 p (xSet s (uPop (uPop (xC s)))) (uTop (uPop (xC s))) hS X2 m Q Z hp hv hb (hc.md rfl rfl rfl rfl) hB (hR.x (o1.tr o2))) (by omega) (by decide) (Nat.le_of_ble_eq_true rfl) (fun r G1 hr hn => ?_)
  obtain ⟨rfl, X3, o3⟩ := hr
  have hS := o3.St hS
  refine go_return rfl dR_step_96 ?_
  exact ⟨rfl, X3, (o1.tr o2).tr o3⟩
set_option maxRecDepth 100000 in
theorem okR_st11 (w : am_W) {d : Nat} (hd : 1 ≤ d) (G : am_G) (p m : Nat) (s : xT) (Q : Nat → mT) (Z : Nat → fM) (hp : p < 2) (hv : ∀ a, a < 6 → mV (Q a)) (hz : zSol Q Z m) (hb : tB Q Z m s) (hN : 1 ≤ xN s) (hc : tyR Q Z m (lM s.1) (xC s)) (hB : rBd s) (hS : St0 G) (h : xR p G s) (hR : hldR G p Q) (hop : mO (Q (uM (xC s))) (uP (xC s)) = 11) (b : Nat) (hBb : mB (Q (uM (xC s))) (uP (xC s)) = nI b) : am_Ok w jR_step d (0, 0) [.inr (some 163)] G (fun r G' => r = none ∧ xR p G' (xSet s (uGo (xC s) b)) ∧ oX G G') := by
  refine am_ok_of rfl (Nat.le_of_ble_eq_true rfl) ?_
  show am_Go w jR_step d (0, 0) 0 [some (.inr (some 163)), none, none, none, none, none, none, none, none, none, none, none, none, none] [] G _
  have nn := h.nn
  have dp := h.dp hN
  have d8 := h.d8 hN
  have h12 := hb.2.2.1
  obtain ⟨t1, -, t3, t4, -⟩ := id hc
  have hn6 := (hv _ t1).1
  obtain ⟨n1, n2, n3, n4⟩ := id hB
  refine R_stp w G p s Q hp hN h12 t1 t3 hn6 hS h hR ?_
  rw [hop]
  rw [hBb]
  refine go_iload dR_step_60 rfl ?_
  refine go_bipush (nI 7) (by decide) dR_step_62 ?_
  refine go_icmp_ltN (by decide) (by decide) dR_step_64 (tgt := 97) (by decide) (fun c1 => absurd c1 (by decide)) (fun c1 => ?_)
  refine go_iload dR_step_67 rfl ?_
  refine go_bipush (nI 10) (by decide) dR_step_69 ?_
  refine go_icmp_gtN (by decide) (by decide) dR_step_71 (tgt := 97) (by decide) (fun c1 => ?_) (fun c1 => absurd c1 (by decide))
  refine go_iload dR_step_97 rfl ?_
  refine go_bipush (nI 15) (by decide) dR_step_99 ?_
  refine go_icmp_eqN (by decide) (by decide) dR_step_101 (tgt := 132) (by decide) (fun c1 => absurd c1 (by decide)) (fun c1 => ?_)
  refine go_iload dR_step_104 rfl ?_
  refine go_bipush (nI 16) (by decide) dR_step_106 ?_
  refine go_icmp_eqN (by decide) (by decide) dR_step_108 (tgt := 132) (by decide) (fun c1 => absurd c1 (by decide)) (fun c1 => ?_)
  refine go_iload dR_step_111 rfl ?_
  refine go_bipush (nI 18) (by decide) dR_step_113 ?_
  refine go_icmp_ltN (by decide) (by decide) dR_step_115 (tgt := 125) (by decide) (fun c1 => ?_) (fun c1 => absurd c1 (by decide))
  refine go_iload dR_step_125 rfl ?_
  refine go_bipush (nI 26) (by decide) dR_step_127 ?_
  refine go_icmp_neN (by decide) (by decide) dR_step_129 (tgt := 166) (by decide) (fun c1 => ?_) (fun c1 => absurd c1 (by decide))
  refine go_iload dR_step_166 rfl ?_
  refine go_bipush (nI 21) (by decide) dR_step_168 ?_
  refine go_icmp_neN (by decide) (by decide) dR_step_170 (tgt := 188) (by decide) (fun c1 => ?_) (fun c1 => absurd c1 (by decide))
  refine go_iload dR_step_188 rfl ?_
  refine go_bipush (nI 22) (by decide) dR_step_190 ?_
  refine go_icmp_neN (by decide) (by decide) dR_step_192 (tgt := 208) (by decide) (fun c1 => ?_) (fun c1 => absurd c1 (by decide))
  refine go_iload dR_step_208 rfl ?_
  refine go_tableIn dR_step_210 (by decide) (by decide) (off := 229) rfl (tgt := 439) (by decide) ?_
  refine go_iload dR_step_439 rfl ?_
  refine go_istore dR_step_441 (Nat.le_of_ble_eq_true rfl) ?_
  refine go_goto dR_step_443 (tgt := 604) (by decide) ?_
  refine go_aload_n dR_step_604 rfl rfl ?_
  refine go_getO (a := 186) dR_step_605 flR_77 rfl (hS.s sh_163) (hS.r rt_fPlace) ?_
  refine go_iload_n dR_step_608 rfl rfl ?_
  refine go_iload dR_step_609 rfl ?_
  refine go_iastoreN (hS.s sh_186) (by omega) (by decide) dR_step_611 ?_
  refine go_return rfl dR_step_612 ?_
  exact ⟨rfl, h.go hN, (oX.wi ⟨by decide, by decide⟩)⟩
set_option maxRecDepth 100000 in
theorem okR_st12_0 (w : am_W) {d : Nat} (hd : 1 ≤ d) (G : am_G) (p m : Nat) (s : xT) (Q : Nat → mT) (Z : Nat → fM) (hp : p < 2) (hv : ∀ a, a < 6 → mV (Q a)) (hz : zSol Q Z m) (hb : tB Q Z m s) (hN : 1 ≤ xN s) (hc : tyR Q Z m (lM s.1) (xC s)) (hB : rBd s) (hS : St0 G) (h : xR p G s) (hR : hldR G p Q) (hop : mO (Q (uM (xC s))) (uP (xC s)) = 12) (b : Nat) (hBb : mB (Q (uM (xC s))) (uP (xC s)) = nI b) (hA : mA (Q (uM (xC s))) (uP (xC s)) = nI 0) (hD : 1 ≤ uD (xC s)) : am_Ok w jR_step d (0, 0) [.inr (some 163)] G (fun r G' => r = none ∧ xR p G' (xSet s (uGo (uPop (xC s)) (if cnd (nI 0) (uTop (xC s)) = true then b else uP (xC s) + 1))) ∧ oX G G') := by
  refine am_ok_of rfl (Nat.le_of_ble_eq_true rfl) ?_
  show am_Go w jR_step d (0, 0) 0 [some (.inr (some 163)), none, none, none, none, none, none, none, none, none, none, none, none, none] [] G _
  have nn := h.nn
  have dp := h.dp hN
  have d8 := h.d8 hN
  have h12 := hb.2.2.1
  obtain ⟨t1, -, t3, t4, -⟩ := id hc
  have hn6 := (hv _ t1).1
  obtain ⟨n1, n2, n3, n4⟩ := id hB
  refine R_stp w G p s Q hp hN h12 t1 t3 hn6 hS h hR ?_
  rw [hop]
  rw [hA]
  rw [hBb]
  refine go_iload dR_step_60 rfl ?_
  refine go_bipush (nI 7) (by decide) dR_step_62 ?_
  refine go_icmp_ltN (by decide) (by decide) dR_step_64 (tgt := 97) (by decide) (fun c1 => absurd c1 (by decide)) (fun c1 => ?_)
  refine go_iload dR_step_67 rfl ?_
  refine go_bipush (nI 10) (by decide) dR_step_69 ?_
  refine go_icmp_gtN (by decide) (by decide) dR_step_71 (tgt := 97) (by decide) (fun c1 => ?_) (fun c1 => absurd c1 (by decide))
  refine go_iload dR_step_97 rfl ?_
  refine go_bipush (nI 15) (by decide) dR_step_99 ?_
  refine go_icmp_eqN (by decide) (by decide) dR_step_101 (tgt := 132) (by decide) (fun c1 => absurd c1 (by decide)) (fun c1 => ?_)
  refine go_iload dR_step_104 rfl ?_
  refine go_bipush (nI 16) (by decide) dR_step_106 ?_
  refine go_icmp_eqN (by decide) (by decide) dR_step_108 (tgt := 132) (by decide) (fun c1 => absurd c1 (by decide)) (fun c1 => ?_)
  refine go_iload dR_step_111 rfl ?_
  refine go_bipush (nI 18) (by decide) dR_step_113 ?_
  refine go_icmp_ltN (by decide) (by decide) dR_step_115 (tgt := 125) (by decide) (fun c1 => ?_) (fun c1 => absurd c1 (by decide))
  refine go_iload dR_step_125 rfl ?_
  refine go_bipush (nI 26) (by decide) dR_step_127 ?_
  refine go_icmp_neN (by decide) (by decide) dR_step_129 (tgt := 166) (by decide) (fun c1 => ?_) (fun c1 => absurd c1 (by decide))
  refine go_iload dR_step_166 rfl ?_
  refine go_bipush (nI 21) (by decide) dR_step_168 ?_
  refine go_icmp_neN (by decide) (by decide) dR_step_170 (tgt := 188) (by decide) (fun c1 => ?_) (fun c1 => absurd c1 (by decide))
  refine go_iload dR_step_188 rfl ?_
  refine go_bipush (nI 22) (by decide) dR_step_190 ?_
  refine go_icmp_neN (by decide) (by decide) dR_step_192 (tgt := 208) (by decide) (fun c1 => ?_) (fun c1 => absurd c1 (by decide))
  refine go_iload dR_step_208 rfl ?_
  refine go_tableIn dR_step_210 (by decide) (by decide) (off := 236) rfl (tgt := 446) (by decide) ?_
  refine go_aload_n dR_step_446 rfl rfl ?_
  refine go_cV (k' := (0, 0)) dR_step_447 _ csR_234 (hS.s sh_163) rfl imR_pop seR_pop rfl (okR_pop (d := 0) w G p (s) hN h12 (hD) hS h) (by omega) (by decide) (Nat.le_of_ble_eq_true rfl) (fun r G1 hr hn => ?_)
  obtain ⟨rfl, X1, o1, -⟩ := hr
  have X1 : xR p G1 (xSet s (uPop (xC s))) := X1
  have hS := o1.St hS
  refine go_istore dR_step_450 (Nat.le_of_ble_eq_true rfl) ?_
  refine go_iload dR_step_452 rfl ?_
  refine go_if_neN (by decide) dR_step_454 (tgt := 465) (by decide) (fun c1 => absurd c1 (by decide)) (fun c1 => ?_)
  refine go_iload dR_step_457 rfl ?_
  refine go_if_ne dR_step_459 (tgt := 604) (by decide) (fun c459 => ?_) (fun c459 => ?_)
  · refine go_aload_n dR_step_604 rfl rfl ?_
    refine go_getO (a := 186) dR_step_605 flR_77 rfl (hS.s sh_163) (hS.r rt_fPlace) ?_
    refine go_iload_n dR_step_608 rfl rfl ?_
    refine go_iload dR_step_609 rfl ?_
    refine go_iastoreN (hS.s sh_186) (by omega) (by decide) dR_step_611 ?_
    refine go_return rfl dR_step_612 ?_
    first | (have q := cnd_0t c459; exact ⟨rfl, X1.gt hN q, o1.tr (oX.wi ⟨by decide, by decide⟩)⟩) | (have q := nt_f (cnd_0f c459); exact ⟨rfl, X1.gf hN q, o1.tr (oX.wi ⟨by decide, by decide⟩)⟩)
  · refine go_goto dR_step_462 (tgt := 484) (by decide) ?_
    refine go_iload dR_step_484 rfl ?_
    refine go_istore dR_step_486 (Nat.le_of_ble_eq_true rfl) ?_
    refine go_goto dR_step_488 (tgt := 604) (by decide) ?_
    refine go_aload_n dR_step_604 rfl rfl ?_
    refine go_getO (a := 186) dR_step_605 flR_77 rfl (hS.s sh_163) (hS.r rt_fPlace) ?_
    refine go_iload_n dR_step_608 rfl rfl ?_
    refine go_iload dR_step_609 rfl ?_
    refine go_iastoreN (hS.s sh_186) (by omega) (by decide) dR_step_611 ?_
    refine go_return rfl dR_step_612 ?_
    first | (have q := cnd_0t c459; exact ⟨rfl, X1.gt hN q, o1.tr (oX.wi ⟨by decide, by decide⟩)⟩) | (have q := nt_f (cnd_0f c459); exact ⟨rfl, X1.gf hN q, o1.tr (oX.wi ⟨by decide, by decide⟩)⟩)
set_option maxRecDepth 100000 in
theorem okR_st12_1 (w : am_W) {d : Nat} (hd : 1 ≤ d) (G : am_G) (p m : Nat) (s : xT) (Q : Nat → mT) (Z : Nat → fM) (hp : p < 2) (hv : ∀ a, a < 6 → mV (Q a)) (hz : zSol Q Z m) (hb : tB Q Z m s) (hN : 1 ≤ xN s) (hc : tyR Q Z m (lM s.1) (xC s)) (hB : rBd s) (hS : St0 G) (h : xR p G s) (hR : hldR G p Q) (hop : mO (Q (uM (xC s))) (uP (xC s)) = 12) (b : Nat) (hBb : mB (Q (uM (xC s))) (uP (xC s)) = nI b) (hA : mA (Q (uM (xC s))) (uP (xC s)) = nI 1) (hD : 1 ≤ uD (xC s)) : am_Ok w jR_step d (0, 0) [.inr (some 163)] G (fun r G' => r = none ∧ xR p G' (xSet s (uGo (uPop (xC s)) (if cnd (nI 1) (uTop (xC s)) = true then b else uP (xC s) + 1))) ∧ oX G G') := by
  refine am_ok_of rfl (Nat.le_of_ble_eq_true rfl) ?_
  show am_Go w jR_step d (0, 0) 0 [some (.inr (some 163)), none, none, none, none, none, none, none, none, none, none, none, none, none] [] G _
  have nn := h.nn
  have dp := h.dp hN
  have d8 := h.d8 hN
  have h12 := hb.2.2.1
  obtain ⟨t1, -, t3, t4, -⟩ := id hc
  have hn6 := (hv _ t1).1
  obtain ⟨n1, n2, n3, n4⟩ := id hB
  refine R_stp w G p s Q hp hN h12 t1 t3 hn6 hS h hR ?_
  rw [hop]
  rw [hA]
  rw [hBb]
  refine go_iload dR_step_60 rfl ?_
  refine go_bipush (nI 7) (by decide) dR_step_62 ?_
  refine go_icmp_ltN (by decide) (by decide) dR_step_64 (tgt := 97) (by decide) (fun c1 => absurd c1 (by decide)) (fun c1 => ?_)
  refine go_iload dR_step_67 rfl ?_
  refine go_bipush (nI 10) (by decide) dR_step_69 ?_
  refine go_icmp_gtN (by decide) (by decide) dR_step_71 (tgt := 97) (by decide) (fun c1 => ?_) (fun c1 => absurd c1 (by decide))
  refine go_iload dR_step_97 rfl ?_
  refine go_bipush (nI 15) (by decide) dR_step_99 ?_
  refine go_icmp_eqN (by decide) (by decide) dR_step_101 (tgt := 132) (by decide) (fun c1 => absurd c1 (by decide)) (fun c1 => ?_)
  refine go_iload dR_step_104 rfl ?_
  refine go_bipush (nI 16) (by decide) dR_step_106 ?_
  refine go_icmp_eqN (by decide) (by decide) dR_step_108 (tgt := 132) (by decide) (fun c1 => absurd c1 (by decide)) (fun c1 => ?_)
  refine go_iload dR_step_111 rfl ?_
  refine go_bipush (nI 18) (by decide) dR_step_113 ?_
  refine go_icmp_ltN (by decide) (by decide) dR_step_115 (tgt := 125) (by decide) (fun c1 => ?_) (fun c1 => absurd c1 (by decide))
  refine go_iload dR_step_125 rfl ?_
  refine go_bipush (nI 26) (by decide) dR_step_127 ?_
  refine go_icmp_neN (by decide) (by decide) dR_step_129 (tgt := 166) (by decide) (fun c1 => ?_) (fun c1 => absurd c1 (by decide))
  refine go_iload dR_step_166 rfl ?_
  refine go_bipush (nI 21) (by decide) dR_step_168 ?_
  refine go_icmp_neN (by decide) (by decide) dR_step_170 (tgt := 188) (by decide) (fun c1 => ?_) (fun c1 => absurd c1 (by decide))
  refine go_iload dR_step_188 rfl ?_
  refine go_bipush (nI 22) (by decide) dR_step_190 ?_
  refine go_icmp_neN (by decide) (by decide) dR_step_192 (tgt := 208) (by decide) (fun c1 => ?_) (fun c1 => absurd c1 (by decide))
  refine go_iload dR_step_208 rfl ?_
  refine go_tableIn dR_step_210 (by decide) (by decide) (off := 236) rfl (tgt := 446) (by decide) ?_
  refine go_aload_n dR_step_446 rfl rfl ?_
  refine go_cV (k' := (0, 0)) dR_step_447 _ csR_234 (hS.s sh_163) rfl imR_pop seR_pop rfl (okR_pop (d := 0) w G p (s) hN h12 (hD) hS h) (by omega) (by decide) (Nat.le_of_ble_eq_true rfl) (fun r G1 hr hn => ?_)
  obtain ⟨rfl, X1, o1, -⟩ := hr
  have X1 : xR p G1 (xSet s (uPop (xC s))) := X1
  have hS := o1.St hS
  refine go_istore dR_step_450 (Nat.le_of_ble_eq_true rfl) ?_
  refine go_iload dR_step_452 rfl ?_
  refine go_if_neN (by decide) dR_step_454 (tgt := 465) (by decide) (fun c1 => ?_) (fun c1 => absurd c1 (by decide))
  refine go_iload dR_step_465 rfl ?_
  refine go_iconst (nI 1) (by decide) dR_step_467 ?_
  refine go_icmp_neN (by decide) (by decide) dR_step_468 (tgt := 479) (by decide) (fun c1 => absurd c1 (by decide)) (fun c1 => ?_)
  refine go_iload dR_step_471 rfl ?_
  refine go_if_eq dR_step_473 (tgt := 604) (by decide) (fun c473 => ?_) (fun c473 => ?_)
  · refine go_aload_n dR_step_604 rfl rfl ?_
    refine go_getO (a := 186) dR_step_605 flR_77 rfl (hS.s sh_163) (hS.r rt_fPlace) ?_
    refine go_iload_n dR_step_608 rfl rfl ?_
    refine go_iload dR_step_609 rfl ?_
    refine go_iastoreN (hS.s sh_186) (by omega) (by decide) dR_step_611 ?_
    refine go_return rfl dR_step_612 ?_
    first | (have q := cnd_1t c473; exact ⟨rfl, X1.gt hN q, o1.tr (oX.wi ⟨by decide, by decide⟩)⟩) | (have q := nt_f (cnd_1f c473); exact ⟨rfl, X1.gf hN q, o1.tr (oX.wi ⟨by decide, by decide⟩)⟩)
  · refine go_goto dR_step_476 (tgt := 484) (by decide) ?_
    refine go_iload dR_step_484 rfl ?_
    refine go_istore dR_step_486 (Nat.le_of_ble_eq_true rfl) ?_
    refine go_goto dR_step_488 (tgt := 604) (by decide) ?_
    refine go_aload_n dR_step_604 rfl rfl ?_
    refine go_getO (a := 186) dR_step_605 flR_77 rfl (hS.s sh_163) (hS.r rt_fPlace) ?_
    refine go_iload_n dR_step_608 rfl rfl ?_
    refine go_iload dR_step_609 rfl ?_
    refine go_iastoreN (hS.s sh_186) (by omega) (by decide) dR_step_611 ?_
    refine go_return rfl dR_step_612 ?_
    first | (have q := cnd_1t c473; exact ⟨rfl, X1.gt hN q, o1.tr (oX.wi ⟨by decide, by decide⟩)⟩) | (have q := nt_f (cnd_1f c473); exact ⟨rfl, X1.gf hN q, o1.tr (oX.wi ⟨by decide, by decide⟩)⟩)
set_option maxRecDepth 100000 in
theorem okR_st12_2 (w : am_W) {d : Nat} (hd : 1 ≤ d) (G : am_G) (p m : Nat) (s : xT) (Q : Nat → mT) (Z : Nat → fM) (hp : p < 2) (hv : ∀ a, a < 6 → mV (Q a)) (hz : zSol Q Z m) (hb : tB Q Z m s) (hN : 1 ≤ xN s) (hc : tyR Q Z m (lM s.1) (xC s)) (hB : rBd s) (hS : St0 G) (h : xR p G s) (hR : hldR G p Q) (hop : mO (Q (uM (xC s))) (uP (xC s)) = 12) (b : Nat) (hBb : mB (Q (uM (xC s))) (uP (xC s)) = nI b) (hA : mA (Q (uM (xC s))) (uP (xC s)) = nI 2) (hD : 1 ≤ uD (xC s)) : am_Ok w jR_step d (0, 0) [.inr (some 163)] G (fun r G' => r = none ∧ xR p G' (xSet s (uGo (uPop (xC s)) (if cnd (nI 2) (uTop (xC s)) = true then b else uP (xC s) + 1))) ∧ oX G G') := by
  refine am_ok_of rfl (Nat.le_of_ble_eq_true rfl) ?_
  show am_Go w jR_step d (0, 0) 0 [some (.inr (some 163)), none, none, none, none, none, none, none, none, none, none, none, none, none] [] G _
  have nn := h.nn
  have dp := h.dp hN
  have d8 := h.d8 hN
  have h12 := hb.2.2.1
  obtain ⟨t1, -, t3, t4, -⟩ := id hc
  have hn6 := (hv _ t1).1
  obtain ⟨n1, n2, n3, n4⟩ := id hB
  refine R_stp w G p s Q hp hN h12 t1 t3 hn6 hS h hR ?_
  rw [hop]
  rw [hA]
  rw [hBb]
  refine go_iload dR_step_60 rfl ?_
  refine go_bipush (nI 7) (by decide) dR_step_62 ?_
  refine go_icmp_ltN (by decide) (by decide) dR_step_64 (tgt := 97) (by decide) (fun c1 => absurd c1 (by decide)) (fun c1 => ?_)
  refine go_iload dR_step_67 rfl ?_
  refine go_bipush (nI 10) (by decide) dR_step_69 ?_
  refine go_icmp_gtN (by decide) (by decide) dR_step_71 (tgt := 97) (by decide) (fun c1 => ?_) (fun c1 => absurd c1 (by decide))
  refine go_iload dR_step_97 rfl ?_
  refine go_bipush (nI 15) (by decide) dR_step_99 ?_
  refine go_icmp_eqN (by decide) (by decide) dR_step_101 (tgt := 132) (by decide) (fun c1 => absurd c1 (by decide)) (fun c1 => ?_)
  refine go_iload dR_step_104 rfl ?_
  refine go_bipush (nI 16) (by decide) dR_step_106 ?_
  refine go_icmp_eqN (by decide) (by decide) dR_step_108 (tgt := 132) (by decide) (fun c1 => absurd c1 (by decide)) (fun c1 => ?_)
  refine go_iload dR_step_111 rfl ?_
  refine go_bipush (nI 18) (by decide) dR_step_113 ?_
  refine go_icmp_ltN (by decide) (by decide) dR_step_115 (tgt := 125) (by decide) (fun c1 => ?_) (fun c1 => absurd c1 (by decide))
  refine go_iload dR_step_125 rfl ?_
  refine go_bipush (nI 26) (by decide) dR_step_127 ?_
  refine go_icmp_neN (by decide) (by decide) dR_step_129 (tgt := 166) (by decide) (fun c1 => ?_) (fun c1 => absurd c1 (by decide))
  refine go_iload dR_step_166 rfl ?_
  refine go_bipush (nI 21) (by decide) dR_step_168 ?_
  refine go_icmp_neN (by decide) (by decide) dR_step_170 (tgt := 188) (by decide) (fun c1 => ?_) (fun c1 => absurd c1 (by decide))
  refine go_iload dR_step_188 rfl ?_
  refine go_bipush (nI 22) (by decide) dR_step_190 ?_
  refine go_icmp_neN (by decide) (by decide) dR_step_192 (tgt := 208) (by decide) (fun c1 => ?_) (fun c1 => absurd c1 (by decide))
  refine go_iload dR_step_208 rfl ?_
  refine go_tableIn dR_step_210 (by decide) (by decide) (off := 236) rfl (tgt := 446) (by decide) ?_
  refine go_aload_n dR_step_446 rfl rfl ?_
  refine go_cV (k' := (0, 0)) dR_step_447 _ csR_234 (hS.s sh_163) rfl imR_pop seR_pop rfl (okR_pop (d := 0) w G p (s) hN h12 (hD) hS h) (by omega) (by decide) (Nat.le_of_ble_eq_true rfl) (fun r G1 hr hn => ?_)
  obtain ⟨rfl, X1, o1, -⟩ := hr
  have X1 : xR p G1 (xSet s (uPop (xC s))) := X1
  have hS := o1.St hS
  refine go_istore dR_step_450 (Nat.le_of_ble_eq_true rfl) ?_
  refine go_iload dR_step_452 rfl ?_
  refine go_if_neN (by decide) dR_step_454 (tgt := 465) (by decide) (fun c1 => ?_) (fun c1 => absurd c1 (by decide))
  refine go_iload dR_step_465 rfl ?_
  refine go_iconst (nI 1) (by decide) dR_step_467 ?_
  refine go_icmp_neN (by decide) (by decide) dR_step_468 (tgt := 479) (by decide) (fun c1 => ?_) (fun c1 => absurd c1 (by decide))
  refine go_iload dR_step_479 rfl ?_
  refine go_if_ge dR_step_481 (tgt := 604) (by decide) (fun c481 => ?_) (fun c481 => ?_)
  · refine go_aload_n dR_step_604 rfl rfl ?_
    refine go_getO (a := 186) dR_step_605 flR_77 rfl (hS.s sh_163) (hS.r rt_fPlace) ?_
    refine go_iload_n dR_step_608 rfl rfl ?_
    refine go_iload dR_step_609 rfl ?_
    refine go_iastoreN (hS.s sh_186) (by omega) (by decide) dR_step_611 ?_
    refine go_return rfl dR_step_612 ?_
    first | (have q := cnd_2t c481; exact ⟨rfl, X1.gt hN q, o1.tr (oX.wi ⟨by decide, by decide⟩)⟩) | (have q := nt_f (cnd_2f c481); exact ⟨rfl, X1.gf hN q, o1.tr (oX.wi ⟨by decide, by decide⟩)⟩)
  · refine go_iload dR_step_484 rfl ?_
    refine go_istore dR_step_486 (Nat.le_of_ble_eq_true rfl) ?_
    refine go_goto dR_step_488 (tgt := 604) (by decide) ?_
    refine go_aload_n dR_step_604 rfl rfl ?_
    refine go_getO (a := 186) dR_step_605 flR_77 rfl (hS.s sh_163) (hS.r rt_fPlace) ?_
    refine go_iload_n dR_step_608 rfl rfl ?_
    refine go_iload dR_step_609 rfl ?_
    refine go_iastoreN (hS.s sh_186) (by omega) (by decide) dR_step_611 ?_
    refine go_return rfl dR_step_612 ?_
    first | (have q := cnd_2t c481; exact ⟨rfl, X1.gt hN q, o1.tr (oX.wi ⟨by decide, by decide⟩)⟩) | (have q := nt_f (cnd_2f c481); exact ⟨rfl, X1.gf hN q, o1.tr (oX.wi ⟨by decide, by decide⟩)⟩)
set_option maxRecDepth 100000 in
theorem okR_st13 (w : am_W) {d : Nat} (hd : 1 ≤ d) (G : am_G) (p m : Nat) (s : xT) (Q : Nat → mT) (Z : Nat → fM) (hp : p < 2) (hv : ∀ a, a < 6 → mV (Q a)) (hz : zSol Q Z m) (hb : tB Q Z m s) (hN : 1 ≤ xN s) (hc : tyR Q Z m (lM s.1) (xC s)) (hB : rBd s) (hS : St0 G) (h : xR p G s) (hR : hldR G p Q) (hop : mO (Q (uM (xC s))) (uP (xC s)) = 13) (h8 : uD (xC s) < 8) : am_Ok w jR_step d (0, 0) [.inr (some 163)] G (fun r G' => r = none ∧ xR p G' (xSet s (uGo (uPush (xC s) (nI 0)) (uP (xC s) + 1))) ∧ oX G G') := by
  refine am_ok_of rfl (Nat.le_of_ble_eq_true rfl) ?_
  show am_Go w jR_step d (0, 0) 0 [some (.inr (some 163)), none, none, none, none, none, none, none, none, none, none, none, none, none] [] G _
  have nn := h.nn
  have dp := h.dp hN
  have d8 := h.d8 hN
  have h12 := hb.2.2.1
  obtain ⟨t1, -, t3, t4, -⟩ := id hc
  have hn6 := (hv _ t1).1
  obtain ⟨n1, n2, n3, n4⟩ := id hB
  refine R_stp w G p s Q hp hN h12 t1 t3 hn6 hS h hR ?_
  rw [hop]
  refine go_iload dR_step_60 rfl ?_
  refine go_bipush (nI 7) (by decide) dR_step_62 ?_
  refine go_icmp_ltN (by decide) (by decide) dR_step_64 (tgt := 97) (by decide) (fun c1 => absurd c1 (by decide)) (fun c1 => ?_)
  refine go_iload dR_step_67 rfl ?_
  refine go_bipush (nI 10) (by decide) dR_step_69 ?_
  refine go_icmp_gtN (by decide) (by decide) dR_step_71 (tgt := 97) (by decide) (fun c1 => ?_) (fun c1 => absurd c1 (by decide))
  refine go_iload dR_step_97 rfl ?_
  refine go_bipush (nI 15) (by decide) dR_step_99 ?_
  refine go_icmp_eqN (by decide) (by decide) dR_step_101 (tgt := 132) (by decide) (fun c1 => absurd c1 (by decide)) (fun c1 => ?_)
  refine go_iload dR_step_104 rfl ?_
  refine go_bipush (nI 16) (by decide) dR_step_106 ?_
  refine go_icmp_eqN (by decide) (by decide) dR_step_108 (tgt := 132) (by decide) (fun c1 => absurd c1 (by decide)) (fun c1 => ?_)
  refine go_iload dR_step_111 rfl ?_
  refine go_bipush (nI 18) (by decide) dR_step_113 ?_
  refine go_icmp_ltN (by decide) (by decide) dR_step_115 (tgt := 125) (by decide) (fun c1 => ?_) (fun c1 => absurd c1 (by decide))
  refine go_iload dR_step_125 rfl ?_
  refine go_bipush (nI 26) (by decide) dR_step_127 ?_
  refine go_icmp_neN (by decide) (by decide) dR_step_129 (tgt := 166) (by decide) (fun c1 => ?_) (fun c1 => absurd c1 (by decide))
  refine go_iload dR_step_166 rfl ?_
  refine go_bipush (nI 21) (by decide) dR_step_168 ?_
  refine go_icmp_neN (by decide) (by decide) dR_step_170 (tgt := 188) (by decide) (fun c1 => ?_) (fun c1 => absurd c1 (by decide))
  refine go_iload dR_step_188 rfl ?_
  refine go_bipush (nI 22) (by decide) dR_step_190 ?_
  refine go_icmp_neN (by decide) (by decide) dR_step_192 (tgt := 208) (by decide) (fun c1 => ?_) (fun c1 => absurd c1 (by decide))
  refine go_iload dR_step_208 rfl ?_
  refine go_tableIn dR_step_210 (by decide) (by decide) (off := 281) rfl (tgt := 491) (by decide) ?_
  refine go_aload_n dR_step_491 rfl rfl ?_
  refine go_iconst (nI 0) (by decide) dR_step_492 ?_
  refine go_cV (k' := (0, 0)) dR_step_493 _ csR_244 (hS.s sh_163) rfl imR_give seR_give rfl (okR_give (d := 0) w G p s hN h12 (nI 0) (h8) hS h) (by omega) (by decide) (Nat.le_of_ble_eq_true rfl) (fun r G1 hr hn => ?_)
  obtain ⟨rfl, X1, o1⟩ := hr
  have hS := o1.St hS
  refine go_goto dR_step_496 (tgt := 604) (by decide) ?_
  refine go_aload_n dR_step_604 rfl rfl ?_
  refine go_getO (a := 186) dR_step_605 flR_77 rfl (hS.s sh_163) (hS.r rt_fPlace) ?_
  refine go_iload_n dR_step_608 rfl rfl ?_
  refine go_iload dR_step_609 rfl ?_
  refine go_iastoreN (hS.s sh_186) (by omega) (by decide) dR_step_611 ?_
  refine go_return rfl dR_step_612 ?_
  exact ⟨rfl, X1.go hN, o1.tr (oX.wi ⟨by decide, by decide⟩)⟩
set_option maxRecDepth 100000 in
theorem okR_st14 (w : am_W) {d : Nat} (hd : 2 ≤ d) (G : am_G) (p m : Nat) (s : xT) (Q : Nat → mT) (Z : Nat → fM) (hp : p < 2) (hv : ∀ a, a < 6 → mV (Q a)) (hz : zSol Q Z m) (hb : tB Q Z m s) (hN : 1 ≤ xN s) (hc : tyR Q Z m (lM s.1) (xC s)) (hB : rBd s) (hS : St0 G) (h : xR p G s) (hR : hldR G p Q) (hop : mO (Q (uM (xC s))) (uP (xC s)) = 14) (a : Nat) (hA : mA (Q (uM (xC s))) (uP (xC s)) = nI a) (h8 : uD (xC s) < 8) : am_Ok w jR_step d (0, 0) [.inr (some 163)] G (fun r G' => r = none ∧ xR p G' (xSet (xMake s a) (uGo (uPush (xC s) (nI (lM s.1 + 1))) (uP (xC s) + 1))) ∧ oX G G') := by
  refine am_ok_of rfl (Nat.le_of_ble_eq_true rfl) ?_
  show am_Go w jR_step d (0, 0) 0 [some (.inr (some 163)), none, none, none, none, none, none, none, none, none, none, none, none, none] [] G _
  have nn := h.nn
  have dp := h.dp hN
  have d8 := h.d8 hN
  have h12 := hb.2.2.1
  obtain ⟨t1, -, t3, t4, -⟩ := id hc
  have hn6 := (hv _ t1).1
  obtain ⟨n1, n2, n3, n4⟩ := id hB
  refine R_stp w G p s Q hp hN h12 t1 t3 hn6 hS h hR ?_
  rw [hop]
  rw [hA]
  refine go_iload dR_step_60 rfl ?_
  refine go_bipush (nI 7) (by decide) dR_step_62 ?_
  refine go_icmp_ltN (by decide) (by decide) dR_step_64 (tgt := 97) (by decide) (fun c1 => absurd c1 (by decide)) (fun c1 => ?_)
  refine go_iload dR_step_67 rfl ?_
  refine go_bipush (nI 10) (by decide) dR_step_69 ?_
  refine go_icmp_gtN (by decide) (by decide) dR_step_71 (tgt := 97) (by decide) (fun c1 => ?_) (fun c1 => absurd c1 (by decide))
  refine go_iload dR_step_97 rfl ?_
  refine go_bipush (nI 15) (by decide) dR_step_99 ?_
  refine go_icmp_eqN (by decide) (by decide) dR_step_101 (tgt := 132) (by decide) (fun c1 => absurd c1 (by decide)) (fun c1 => ?_)
  refine go_iload dR_step_104 rfl ?_
  refine go_bipush (nI 16) (by decide) dR_step_106 ?_
  refine go_icmp_eqN (by decide) (by decide) dR_step_108 (tgt := 132) (by decide) (fun c1 => absurd c1 (by decide)) (fun c1 => ?_)
  refine go_iload dR_step_111 rfl ?_
  refine go_bipush (nI 18) (by decide) dR_step_113 ?_
  refine go_icmp_ltN (by decide) (by decide) dR_step_115 (tgt := 125) (by decide) (fun c1 => ?_) (fun c1 => absurd c1 (by decide))
  refine go_iload dR_step_125 rfl ?_
  refine go_bipush (nI 26) (by decide) dR_step_127 ?_
  refine go_icmp_neN (by decide) (by decide) dR_step_129 (tgt := 166) (by decide) (fun c1 => ?_) (fun c1 => absurd c1 (by decide))
  refine go_iload dR_step_166 rfl ?_
  refine go_bipush (nI 21) (by decide) dR_step_168 ?_
  refine go_icmp_neN (by decide) (by decide) dR_step_170 (tgt := 188) (by decide) (fun c1 => ?_) (fun c1 => absurd c1 (by decide))
  refine go_iload dR_step_188 rfl ?_
  refine go_bipush (nI 22) (by decide) dR_step_190 ?_
  refine go_icmp_neN (by decide) (by decide) dR_step_192 (tgt := 208) (by decide) (fun c1 => ?_) (fun c1 => absurd c1 (by decide))
  refine go_iload dR_step_208 rfl ?_
  refine go_tableIn dR_step_210 (by decide) (by decide) (off := 289) rfl (tgt := 499) (by decide) ?_
  refine go_aload_n dR_step_499 rfl rfl ?_
  refine go_iload dR_step_500 rfl ?_
  refine go_cV (k' := (0, 0)) dR_step_502 _ csR_209 (hS.s sh_163) rfl imR_make seR_make rfl (okR_make (d := 1) w (by decide) G p s a hS h (by omega) (by omega)) (by omega) (by decide) (Nat.le_of_ble_eq_true rfl) (fun r G1 hr hn => ?_)
  obtain ⟨rfl, X1, o1⟩ := hr
  have hS := o1.St hS
  refine go_istore dR_step_505 (Nat.le_of_ble_eq_true rfl) ?_
  refine go_aload_n dR_step_507 rfl rfl ?_
  refine go_iload dR_step_508 rfl ?_
  refine go_cV (k' := (0, 0)) dR_step_510 _ csR_244 (hS.s sh_163) rfl imR_give seR_give rfl (okR_give (d := 0) w G1 p (xMake s a) hN h12 (nI (lM s.1 + 1)) (h8) hS X1) (by omega) (by decide) (Nat.le_of_ble_eq_true rfl) (fun r G1 hr hn => ?_)
  obtain ⟨rfl, X2, o2⟩ := hr
  have hS := o2.St hS
  refine go_goto dR_step_513 (tgt := 604) (by decide) ?_
  refine go_aload_n dR_step_604 rfl rfl ?_
  refine go_getO (a := 186) dR_step_605 flR_77 rfl (hS.s sh_163) (hS.r rt_fPlace) ?_
  refine go_iload_n dR_step_608 rfl rfl ?_
  refine go_iload dR_step_609 rfl ?_
  refine go_iastoreN (hS.s sh_186) (by omega) (by decide) dR_step_611 ?_
  refine go_return rfl dR_step_612 ?_
  exact ⟨rfl, X2.go hN, (o1.tr o2).tr (oX.wi ⟨by decide, by decide⟩)⟩
set_option maxRecDepth 100000 in
theorem okR_st17 (w : am_W) {d : Nat} (hd : 1 ≤ d) (G : am_G) (p m : Nat) (s : xT) (Q : Nat → mT) (Z : Nat → fM) (hp : p < 2) (hv : ∀ a, a < 6 → mV (Q a)) (hz : zSol Q Z m) (hb : tB Q Z m s) (hN : 1 ≤ xN s) (hc : tyR Q Z m (lM s.1) (xC s)) (hB : rBd s) (hS : St0 G) (h : xR p G s) (hR : hldR G p Q) (hop : mO (Q (uM (xC s))) (uP (xC s)) = 17) (b : Nat) (hBb : mB (Q (uM (xC s))) (uP (xC s)) = nI b) (hD : 1 ≤ uD (xC s)) : am_Ok w jR_step d (0, 0) [.inr (some 163)] G (fun r G' => r = none ∧ xR p G' (xSet s (uGo (uPop (xC s)) (if uTop (xC s) = nI 0 then b else uP (xC s) + 1))) ∧ oX G G') := by
  refine am_ok_of rfl (Nat.le_of_ble_eq_true rfl) ?_
  show am_Go w jR_step d (0, 0) 0 [some (.inr (some 163)), none, none, none, none, none, none, none, none, none, none, none, none, none] [] G _
  have nn := h.nn
  have dp := h.dp hN
  have d8 := h.d8 hN
  have h12 := hb.2.2.1
  obtain ⟨t1, -, t3, t4, -⟩ := id hc
  have hn6 := (hv _ t1).1
  obtain ⟨n1, n2, n3, n4⟩ := id hB
  refine R_stp w G p s Q hp hN h12 t1 t3 hn6 hS h hR ?_
  rw [hop]
  rw [hBb]
  refine go_iload dR_step_60 rfl ?_
  refine go_bipush (nI 7) (by decide) dR_step_62 ?_
  refine go_icmp_ltN (by decide) (by decide) dR_step_64 (tgt := 97) (by decide) (fun c1 => absurd c1 (by decide)) (fun c1 => ?_)
  refine go_iload dR_step_67 rfl ?_
  refine go_bipush (nI 10) (by decide) dR_step_69 ?_
  refine go_icmp_gtN (by decide) (by decide) dR_step_71 (tgt := 97) (by decide) (fun c1 => ?_) (fun c1 => absurd c1 (by decide))
  refine go_iload dR_step_97 rfl ?_
  refine go_bipush (nI 15) (by decide) dR_step_99 ?_
  refine go_icmp_eqN (by decide) (by decide) dR_step_101 (tgt := 132) (by decide) (fun c1 => absurd c1 (by decide)) (fun c1 => ?_)
  refine go_iload dR_step_104 rfl ?_
  refine go_bipush (nI 16) (by decide) dR_step_106 ?_
  refine go_icmp_eqN (by decide) (by decide) dR_step_108 (tgt := 132) (by decide) (fun c1 => absurd c1 (by decide)) (fun c1 => ?_)
  refine go_iload dR_step_111 rfl ?_
  refine go_bipush (nI 18) (by decide) dR_step_113 ?_
  refine go_icmp_ltN (by decide) (by decide) dR_step_115 (tgt := 125) (by decide) (fun c1 => ?_) (fun c1 => absurd c1 (by decide))
  refine go_iload dR_step_125 rfl ?_
  refine go_bipush (nI 26) (by decide) dR_step_127 ?_
  refine go_icmp_neN (by decide) (by decide) dR_step_129 (tgt := 166) (by decide) (fun c1 => ?_) (fun c1 => absurd c1 (by decide))
  refine go_iload dR_step_166 rfl ?_
  refine go_bipush (nI 21) (by decide) dR_step_168 ?_
  refine go_icmp_neN (by decide) (by decide) dR_step_170 (tgt := 188) (by decide) (fun c1 => ?_) (fun c1 => absurd c1 (by decide))
  refine go_iload dR_step_188 rfl ?_
  refine go_bipush (nI 22) (by decide) dR_step_190 ?_
  refine go_icmp_neN (by decide) (by decide) dR_step_192 (tgt := 208) (by decide) (fun c1 => ?_) (fun c1 => absurd c1 (by decide))
  refine go_iload dR_step_208 rfl ?_
  refine go_tableIn dR_step_210 (by decide) (by decide) (off := 306) rfl (tgt := 516) (by decide) ?_
  refine go_aload_n dR_step_516 rfl rfl ?_
  refine go_cV (k' := (0, 0)) dR_step_517 _ csR_234 (hS.s sh_163) rfl imR_pop seR_pop rfl (okR_pop (d := 0) w G p (s) hN h12 (hD) hS h) (by omega) (by decide) (Nat.le_of_ble_eq_true rfl) (fun r G1 hr hn => ?_)
  obtain ⟨rfl, X1, o1, -⟩ := hr
  have X1 : xR p G1 (xSet s (uPop (xC s))) := X1
  have hS := o1.St hS
  refine go_istore dR_step_520 (Nat.le_of_ble_eq_true rfl) ?_
  refine go_iload dR_step_522 rfl ?_
  refine go_if_ne dR_step_524 (tgt := 604) (by decide) (fun c524 => ?_) (fun c524 => ?_)
  · refine go_aload_n dR_step_604 rfl rfl ?_
    refine go_getO (a := 186) dR_step_605 flR_77 rfl (hS.s sh_163) (hS.r rt_fPlace) ?_
    refine go_iload_n dR_step_608 rfl rfl ?_
    refine go_iload dR_step_609 rfl ?_
    refine go_iastoreN (hS.s sh_186) (by omega) (by decide) dR_step_611 ?_
    refine go_return rfl dR_step_612 ?_
    first | (have q := c524.trans nI_0.symm; exact ⟨rfl, X1.gt hN q, o1.tr (oX.wi ⟨by decide, by decide⟩)⟩) | (have q : ¬ uTop (xC s) = nI 0 := fun q => c524 (q.trans nI_0); exact ⟨rfl, X1.gf hN q, o1.tr (oX.wi ⟨by decide, by decide⟩)⟩)
  · refine go_iload dR_step_527 rfl ?_
    refine go_istore dR_step_529 (Nat.le_of_ble_eq_true rfl) ?_
    refine go_goto dR_step_531 (tgt := 604) (by decide) ?_
    refine go_aload_n dR_step_604 rfl rfl ?_
    refine go_getO (a := 186) dR_step_605 flR_77 rfl (hS.s sh_163) (hS.r rt_fPlace) ?_
    refine go_iload_n dR_step_608 rfl rfl ?_
    refine go_iload dR_step_609 rfl ?_
    refine go_iastoreN (hS.s sh_186) (by omega) (by decide) dR_step_611 ?_
    refine go_return rfl dR_step_612 ?_
    first | (have q := c524.trans nI_0.symm; exact ⟨rfl, X1.gt hN q, o1.tr (oX.wi ⟨by decide, by decide⟩)⟩) | (have q : ¬ uTop (xC s) = nI 0 := fun q => c524 (q.trans nI_0); exact ⟨rfl, X1.gf hN q, o1.tr (oX.wi ⟨by decide, by decide⟩)⟩)
set_option maxRecDepth 100000 in
theorem okR_st23 (w : am_W) {d : Nat} (hd : 1 ≤ d) (G : am_G) (p m : Nat) (s : xT) (Q : Nat → mT) (Z : Nat → fM) (hp : p < 2) (hv : ∀ a, a < 6 → mV (Q a)) (hz : zSol Q Z m) (hb : tB Q Z m s) (hN : 1 ≤ xN s) (hc : tyR Q Z m (lM s.1) (xC s)) (hB : rBd s) (hS : St0 G) (h : xR p G s) (hR : hldR G p Q) (hop : mO (Q (uM (xC s))) (uP (xC s)) = 23) (b : Nat) (hBb : mB (Q (uM (xC s))) (uP (xC s)) = nI b) (h8 : uD (xC s) < 8) : am_Ok w jR_step d (0, 0) [.inr (some 163)] G (fun r G' => r = none ∧ xR p G' (xSet s (uGo (uPush (xC s) (nI (uP (xC s) + 1))) b)) ∧ oX G G') := by
  refine am_ok_of rfl (Nat.le_of_ble_eq_true rfl) ?_
  show am_Go w jR_step d (0, 0) 0 [some (.inr (some 163)), none, none, none, none, none, none, none, none, none, none, none, none, none] [] G _
  have nn := h.nn
  have dp := h.dp hN
  have d8 := h.d8 hN
  have h12 := hb.2.2.1
  obtain ⟨t1, -, t3, t4, -⟩ := id hc
  have hn6 := (hv _ t1).1
  obtain ⟨n1, n2, n3, n4⟩ := id hB
  refine R_stp w G p s Q hp hN h12 t1 t3 hn6 hS h hR ?_
  rw [hop]
  rw [hBb]
  refine go_iload dR_step_60 rfl ?_
  refine go_bipush (nI 7) (by decide) dR_step_62 ?_
  refine go_icmp_ltN (by decide) (by decide) dR_step_64 (tgt := 97) (by decide) (fun c1 => absurd c1 (by decide)) (fun c1 => ?_)
  refine go_iload dR_step_67 rfl ?_
  refine go_bipush (nI 10) (by decide) dR_step_69 ?_
  refine go_icmp_gtN (by decide) (by decide) dR_step_71 (tgt := 97) (by decide) (fun c1 => ?_) (fun c1 => absurd c1 (by decide))
  refine go_iload dR_step_97 rfl ?_
  refine go_bipush (nI 15) (by decide) dR_step_99 ?_
  refine go_icmp_eqN (by decide) (by decide) dR_step_101 (tgt := 132) (by decide) (fun c1 => absurd c1 (by decide)) (fun c1 => ?_)
  refine go_iload dR_step_104 rfl ?_
  refine go_bipush (nI 16) (by decide) dR_step_106 ?_
  refine go_icmp_eqN (by decide) (by decide) dR_step_108 (tgt := 132) (by decide) (fun c1 => absurd c1 (by decide)) (fun c1 => ?_)
  refine go_iload dR_step_111 rfl ?_
  refine go_bipush (nI 18) (by decide) dR_step_113 ?_
  refine go_icmp_ltN (by decide) (by decide) dR_step_115 (tgt := 125) (by decide) (fun c1 => absurd c1 (by decide)) (fun c1 => ?_)
  refine go_iload dR_step_118 rfl ?_
  refine go_bipush (nI 20) (by decide) dR_step_120 ?_
  refine go_icmp_leN (by decide) (by decide) dR_step_122 (tgt := 132) (by decide) (fun c1 => absurd c1 (by decide)) (fun c1 => ?_)
  refine go_iload dR_step_125 rfl ?_
  refine go_bipush (nI 26) (by decide) dR_step_127 ?_
  refine go_icmp_neN (by decide) (by decide) dR_step_129 (tgt := 166) (by decide) (fun c1 => ?_) (fun c1 => absurd c1 (by decide))
  refine go_iload dR_step_166 rfl ?_
  refine go_bipush (nI 21) (by decide) dR_step_168 ?_
  refine go_icmp_neN (by decide) (by decide) dR_step_170 (tgt := 188) (by decide) (fun c1 => ?_) (fun c1 => absurd c1 (by decide))
  refine go_iload dR_step_188 rfl ?_
  refine go_bipush (nI 22) (by decide) dR_step_190 ?_
  refine go_icmp_neN (by decide) (by decide) dR_step_192 (tgt := 208) (by decide) (fun c1 => ?_) (fun c1 => absurd c1 (by decide))
  refine go_iload dR_step_208 rfl ?_
  refine go_tableIn dR_step_210 (by decide) (by decide) (off := 324) rfl (tgt := 534) (by decide) ?_
  refine go_aload_n dR_step_534 rfl rfl ?_
  refine go_iload dR_step_535 rfl ?_
  refine go_cV (k' := (0, 0)) dR_step_537 _ csR_244 (hS.s sh_163) rfl imR_give seR_give rfl (okR_give (d := 0) w G p s hN h12 (nI (uP (xC s) + 1)) (h8) hS h) (by omega) (by decide) (Nat.le_of_ble_eq_true rfl) (fun r G1 hr hn => ?_)
  obtain ⟨rfl, X1, o1⟩ := hr
  have hS := o1.St hS
  refine go_iload dR_step_540 rfl ?_
  refine go_istore dR_step_542 (Nat.le_of_ble_eq_true rfl) ?_
  refine go_goto dR_step_544 (tgt := 604) (by decide) ?_
  refine go_aload_n dR_step_604 rfl rfl ?_
  refine go_getO (a := 186) dR_step_605 flR_77 rfl (hS.s sh_163) (hS.r rt_fPlace) ?_
  refine go_iload_n dR_step_608 rfl rfl ?_
  refine go_iload dR_step_609 rfl ?_
  refine go_iastoreN (hS.s sh_186) (by omega) (by decide) dR_step_611 ?_
  refine go_return rfl dR_step_612 ?_
  exact ⟨rfl, X1.go hN, o1.tr (oX.wi ⟨by decide, by decide⟩)⟩
set_option maxRecDepth 100000 in
theorem okR_st24 (w : am_W) {d : Nat} (hd : 1 ≤ d) (G : am_G) (p m : Nat) (s : xT) (Q : Nat → mT) (Z : Nat → fM) (hp : p < 2) (hv : ∀ a, a < 6 → mV (Q a)) (hz : zSol Q Z m) (hb : tB Q Z m s) (hN : 1 ≤ xN s) (hc : tyR Q Z m (lM s.1) (xC s)) (hB : rBd s) (hS : St0 G) (h : xR p G s) (hR : hldR G p Q) (hop : mO (Q (uM (xC s))) (uP (xC s)) = 24) (a : Nat) (hA : mA (Q (uM (xC s))) (uP (xC s)) = nI a) (j : Nat) (ha : a < 8) (hl : uL (xC s) a = some (uGet (xC s) a)) (hj : uGet (xC s) a = nI j) : am_Ok w jR_step d (0, 0) [.inr (some 163)] G (fun r G' => r = none ∧ xR p G' (xSet s (uGo (xC s) j)) ∧ oX G G') := by
  refine am_ok_of rfl (Nat.le_of_ble_eq_true rfl) ?_
  show am_Go w jR_step d (0, 0) 0 [some (.inr (some 163)), none, none, none, none, none, none, none, none, none, none, none, none, none] [] G _
  have nn := h.nn
  have dp := h.dp hN
  have d8 := h.d8 hN
  have h12 := hb.2.2.1
  obtain ⟨t1, -, t3, t4, -⟩ := id hc
  have hn6 := (hv _ t1).1
  obtain ⟨n1, n2, n3, n4⟩ := id hB
  have lc := (h.lc hN ha hl).trans hj
  refine R_stp w G p s Q hp hN h12 t1 t3 hn6 hS h hR ?_
  rw [hop]
  rw [hA]
  refine go_iload dR_step_60 rfl ?_
  refine go_bipush (nI 7) (by decide) dR_step_62 ?_
  refine go_icmp_ltN (by decide) (by decide) dR_step_64 (tgt := 97) (by decide) (fun c1 => absurd c1 (by decide)) (fun c1 => ?_)
  refine go_iload dR_step_67 rfl ?_
  refine go_bipush (nI 10) (by decide) dR_step_69 ?_
  refine go_icmp_gtN (by decide) (by decide) dR_step_71 (tgt := 97) (by decide) (fun c1 => ?_) (fun c1 => absurd c1 (by decide))
  refine go_iload dR_step_97 rfl ?_
  refine go_bipush (nI 15) (by decide) dR_step_99 ?_
  refine go_icmp_eqN (by decide) (by decide) dR_step_101 (tgt := 132) (by decide) (fun c1 => absurd c1 (by decide)) (fun c1 => ?_)
  refine go_iload dR_step_104 rfl ?_
  refine go_bipush (nI 16) (by decide) dR_step_106 ?_
  refine go_icmp_eqN (by decide) (by decide) dR_step_108 (tgt := 132) (by decide) (fun c1 => absurd c1 (by decide)) (fun c1 => ?_)
  refine go_iload dR_step_111 rfl ?_
  refine go_bipush (nI 18) (by decide) dR_step_113 ?_
  refine go_icmp_ltN (by decide) (by decide) dR_step_115 (tgt := 125) (by decide) (fun c1 => absurd c1 (by decide)) (fun c1 => ?_)
  refine go_iload dR_step_118 rfl ?_
  refine go_bipush (nI 20) (by decide) dR_step_120 ?_
  refine go_icmp_leN (by decide) (by decide) dR_step_122 (tgt := 132) (by decide) (fun c1 => absurd c1 (by decide)) (fun c1 => ?_)
  refine go_iload dR_step_125 rfl ?_
  refine go_bipush (nI 26) (by decide) dR_step_127 ?_
  refine go_icmp_neN (by decide) (by decide) dR_step_129 (tgt := 166) (by decide) (fun c1 => ?_) (fun c1 => absurd c1 (by decide))
  refine go_iload dR_step_166 rfl ?_
  refine go_bipush (nI 21) (by decide) dR_step_168 ?_
  refine go_icmp_neN (by decide) (by decide) dR_step_170 (tgt := 188) (by decide) (fun c1 => ?_) (fun c1 => absurd c1 (by decide))
  refine go_iload dR_step_188 rfl ?_
  refine go_bipush (nI 22) (by decide) dR_step_190 ?_
  refine go_icmp_neN (by decide) (by decide) dR_step_192 (tgt := 208) (by decide) (fun c1 => ?_) (fun c1 => absurd c1 (by decide))
  refine go_iload dR_step_208 rfl ?_
  refine go_tableIn dR_step_210 (by decide) (by decide) (off := 337) rfl (tgt := 547) (by decide) ?_
  refine go_aload_n dR_step_547 rfl rfl ?_
  refine go_getO (a := 190) dR_step_548 flR_89 rfl (hS.s sh_163) (hS.r rt_fLocal) ?_
  refine go_bipush (nI 8) (by decide) dR_step_551 ?_
  refine go_iload_n dR_step_553 rfl rfl ?_
  first | refine go_imulN dR_step_554 ?_ | refine go_imul dR_step_554 ?_
  refine go_iload dR_step_555 rfl ?_
  first | refine go_iaddN dR_step_557 ?_ | refine go_iadd dR_step_557 ?_
  refine go_ialV (hS.s sh_190) (by omega) (by decide) lc dR_step_558 ?_
  refine go_istore dR_step_559 (Nat.le_of_ble_eq_true rfl) ?_
  refine go_goto dR_step_561 (tgt := 604) (by decide) ?_
  refine go_aload_n dR_step_604 rfl rfl ?_
  refine go_getO (a := 186) dR_step_605 flR_77 rfl (hS.s sh_163) (hS.r rt_fPlace) ?_
  refine go_iload_n dR_step_608 rfl rfl ?_
  refine go_iload dR_step_609 rfl ?_
  refine go_iastoreN (hS.s sh_186) (by omega) (by decide) dR_step_611 ?_
  refine go_return rfl dR_step_612 ?_
  exact ⟨rfl, h.go hN, (oX.wi ⟨by decide, by decide⟩)⟩
set_option maxRecDepth 100000 in
theorem okR_st25 (w : am_W) {d : Nat} (hd : 1 ≤ d) (G : am_G) (p m : Nat) (s : xT) (Q : Nat → mT) (Z : Nat → fM) (hp : p < 2) (hv : ∀ a, a < 6 → mV (Q a)) (hz : zSol Q Z m) (hb : tB Q Z m s) (hN : 1 ≤ xN s) (hc : tyR Q Z m (lM s.1) (xC s)) (hB : rBd s) (hS : St0 G) (h : xR p G s) (hR : hldR G p Q) (hop : mO (Q (uM (xC s))) (uP (xC s)) = 25) (hD : 1 ≤ uD (xC s)) : am_Ok w jR_step d (0, 0) [.inr (some 163)] G (fun r G' => r = none ∧ xR p G' (xSet (xTell s (uTop (xC s) &&& nI 65535) 0) (uGo (uPop (xC s)) (uP (xC s) + 1))) ∧ oX G G') := by
  refine am_ok_of rfl (Nat.le_of_ble_eq_true rfl) ?_
  show am_Go w jR_step d (0, 0) 0 [some (.inr (some 163)), none, none, none, none, none, none, none, none, none, none, none, none, none] [] G _
  have nn := h.nn
  have dp := h.dp hN
  have d8 := h.d8 hN
  have h12 := hb.2.2.1
  obtain ⟨t1, -, t3, t4, -⟩ := id hc
  have hn6 := (hv _ t1).1
  obtain ⟨n1, n2, n3, n4⟩ := id hB
  refine R_stp w G p s Q hp hN h12 t1 t3 hn6 hS h hR ?_
  rw [hop]
  refine go_iload dR_step_60 rfl ?_
  refine go_bipush (nI 7) (by decide) dR_step_62 ?_
  refine go_icmp_ltN (by decide) (by decide) dR_step_64 (tgt := 97) (by decide) (fun c1 => absurd c1 (by decide)) (fun c1 => ?_)
  refine go_iload dR_step_67 rfl ?_
  refine go_bipush (nI 10) (by decide) dR_step_69 ?_
  refine go_icmp_gtN (by decide) (by decide) dR_step_71 (tgt := 97) (by decide) (fun c1 => ?_) (fun c1 => absurd c1 (by decide))
  refine go_iload dR_step_97 rfl ?_
  refine go_bipush (nI 15) (by decide) dR_step_99 ?_
  refine go_icmp_eqN (by decide) (by decide) dR_step_101 (tgt := 132) (by decide) (fun c1 => absurd c1 (by decide)) (fun c1 => ?_)
  refine go_iload dR_step_104 rfl ?_
  refine go_bipush (nI 16) (by decide) dR_step_106 ?_
  refine go_icmp_eqN (by decide) (by decide) dR_step_108 (tgt := 132) (by decide) (fun c1 => absurd c1 (by decide)) (fun c1 => ?_)
  refine go_iload dR_step_111 rfl ?_
  refine go_bipush (nI 18) (by decide) dR_step_113 ?_
  refine go_icmp_ltN (by decide) (by decide) dR_step_115 (tgt := 125) (by decide) (fun c1 => absurd c1 (by decide)) (fun c1 => ?_)
  refine go_iload dR_step_118 rfl ?_
  refine go_bipush (nI 20) (by decide) dR_step_120 ?_
  refine go_icmp_leN (by decide) (by decide) dR_step_122 (tgt := 132) (by decide) (fun c1 => absurd c1 (by decide)) (fun c1 => ?_)
  refine go_iload dR_step_125 rfl ?_
  refine go_bipush (nI 26) (by decide) dR_step_127 ?_
  refine go_icmp_neN (by decide) (by decide) dR_step_129 (tgt := 166) (by decide) (fun c1 => ?_) (fun c1 => absurd c1 (by decide))
  refine go_iload dR_step_166 rfl ?_
  refine go_bipush (nI 21) (by decide) dR_step_168 ?_
  refine go_icmp_neN (by decide) (by decide) dR_step_170 (tgt := 188) (by decide) (fun c1 => ?_) (fun c1 => absurd c1 (by decide))
  refine go_iload dR_step_188 rfl ?_
  refine go_bipush (nI 22) (by decide) dR_step_190 ?_
  refine go_icmp_neN (by decide) (by decide) dR_step_192 (tgt := 208) (by decide) (fun c1 => ?_) (fun c1 => absurd c1 (by decide))
  refine go_iload dR_step_208 rfl ?_
  refine go_tableIn dR_step_210 (by decide) (by decide) (off := 354) rfl (tgt := 564) (by decide) ?_
  refine go_aload_n dR_step_564 rfl rfl ?_
  refine go_cV (k' := (0, 0)) dR_step_565 _ csR_234 (hS.s sh_163) rfl imR_pop seR_pop rfl (okR_pop (d := 0) w G p (s) hN h12 (hD) hS h) (by omega) (by decide) (Nat.le_of_ble_eq_true rfl) (fun r G1 hr hn => ?_)
  obtain ⟨rfl, X1, o1, -⟩ := hr
  have X1 : xR p G1 (xSet s (uPop (xC s))) := X1
  have hS := o1.St hS
  refine go_istore dR_step_568 (Nat.le_of_ble_eq_true rfl) ?_
  refine go_aload_n dR_step_570 rfl rfl ?_
  refine go_iload dR_step_571 rfl ?_
  refine go_ldcw kcR_263 dR_step_573 ?_
  refine go_iand dR_step_576 ?_
  refine go_iconst (nI 0) (by decide) dR_step_577 ?_
  refine go_cV (k' := (0, 0)) dR_step_578 _ csR_197 (hS.s sh_163) rfl imR_tell seR_tell rfl (okR_tell (d := 0) w G1 p (xSet s (uPop (xC s))) (uTop (xC s) &&& nI 65535) 0 hS X1 (show lNn s.1 < 1000000 by omega)) (by omega) (by decide) (Nat.le_of_ble_eq_true rfl) (fun r G1 hr hn => ?_)
  obtain ⟨rfl, X2, o2⟩ := hr
  have hS := o2.St hS
  refine go_goto dR_step_581 (tgt := 604) (by decide) ?_
  refine go_aload_n dR_step_604 rfl rfl ?_
  refine go_getO (a := 186) dR_step_605 flR_77 rfl (hS.s sh_163) (hS.r rt_fPlace) ?_
  refine go_iload_n dR_step_608 rfl rfl ?_
  refine go_iload dR_step_609 rfl ?_
  refine go_iastoreN (hS.s sh_186) (by omega) (by decide) dR_step_611 ?_
  refine go_return rfl dR_step_612 ?_
  exact ⟨rfl, X2.go hN, (o1.tr o2.x).tr (oX.wi ⟨by decide, by decide⟩)⟩
set_option maxRecDepth 100000 in
theorem okR_st27 (w : am_W) {d : Nat} (hd : 1 ≤ d) (G : am_G) (p m : Nat) (s : xT) (Q : Nat → mT) (Z : Nat → fM) (hp : p < 2) (hv : ∀ a, a < 6 → mV (Q a)) (hz : zSol Q Z m) (hb : tB Q Z m s) (hN : 1 ≤ xN s) (hc : tyR Q Z m (lM s.1) (xC s)) (hB : rBd s) (hS : St0 G) (h : xR p G s) (hR : hldR G p Q) (hop : mO (Q (uM (xC s))) (uP (xC s)) = 27) (a : Nat) (hA : mA (Q (uM (xC s))) (uP (xC s)) = nI a) (ha : a < 8) (hl : uL (xC s) a = some (uGet (xC s) a)) : am_Ok w jR_step d (0, 0) [.inr (some 163)] G (fun r G' => r = none ∧ xR p G' (xSet s (uGo (uSt (xC s) a (uGet (xC s) a + mB (Q (uM (xC s))) (uP (xC s)))) (uP (xC s) + 1))) ∧ oX G G') := by
  refine am_ok_of rfl (Nat.le_of_ble_eq_true rfl) ?_
  show am_Go w jR_step d (0, 0) 0 [some (.inr (some 163)), none, none, none, none, none, none, none, none, none, none, none, none, none] [] G _
  have nn := h.nn
  have dp := h.dp hN
  have d8 := h.d8 hN
  have h12 := hb.2.2.1
  obtain ⟨t1, -, t3, t4, -⟩ := id hc
  have hn6 := (hv _ t1).1
  obtain ⟨n1, n2, n3, n4⟩ := id hB
  have lc := h.lc hN ha hl
  refine R_stp w G p s Q hp hN h12 t1 t3 hn6 hS h hR ?_
  rw [hop]
  rw [hA]
  refine go_iload dR_step_60 rfl ?_
  refine go_bipush (nI 7) (by decide) dR_step_62 ?_
  refine go_icmp_ltN (by decide) (by decide) dR_step_64 (tgt := 97) (by decide) (fun c1 => absurd c1 (by decide)) (fun c1 => ?_)
  refine go_iload dR_step_67 rfl ?_
  refine go_bipush (nI 10) (by decide) dR_step_69 ?_
  refine go_icmp_gtN (by decide) (by decide) dR_step_71 (tgt := 97) (by decide) (fun c1 => ?_) (fun c1 => absurd c1 (by decide))
  refine go_iload dR_step_97 rfl ?_
  refine go_bipush (nI 15) (by decide) dR_step_99 ?_
  refine go_icmp_eqN (by decide) (by decide) dR_step_101 (tgt := 132) (by decide) (fun c1 => absurd c1 (by decide)) (fun c1 => ?_)
  refine go_iload dR_step_104 rfl ?_
  refine go_bipush (nI 16) (by decide) dR_step_106 ?_
  refine go_icmp_eqN (by decide) (by decide) dR_step_108 (tgt := 132) (by decide) (fun c1 => absurd c1 (by decide)) (fun c1 => ?_)
  refine go_iload dR_step_111 rfl ?_
  refine go_bipush (nI 18) (by decide) dR_step_113 ?_
  refine go_icmp_ltN (by decide) (by decide) dR_step_115 (tgt := 125) (by decide) (fun c1 => absurd c1 (by decide)) (fun c1 => ?_)
  refine go_iload dR_step_118 rfl ?_
  refine go_bipush (nI 20) (by decide) dR_step_120 ?_
  refine go_icmp_leN (by decide) (by decide) dR_step_122 (tgt := 132) (by decide) (fun c1 => absurd c1 (by decide)) (fun c1 => ?_)
  refine go_iload dR_step_125 rfl ?_
  refine go_bipush (nI 26) (by decide) dR_step_127 ?_
  refine go_icmp_neN (by decide) (by decide) dR_step_129 (tgt := 166) (by decide) (fun c1 => ?_) (fun c1 => absurd c1 (by decide))
  refine go_iload dR_step_166 rfl ?_
  refine go_bipush (nI 21) (by decide) dR_step_168 ?_
  refine go_icmp_neN (by decide) (by decide) dR_step_170 (tgt := 188) (by decide) (fun c1 => ?_) (fun c1 => absurd c1 (by decide))
  refine go_iload dR_step_188 rfl ?_
  refine go_bipush (nI 22) (by decide) dR_step_190 ?_
  refine go_icmp_neN (by decide) (by decide) dR_step_192 (tgt := 208) (by decide) (fun c1 => ?_) (fun c1 => absurd c1 (by decide))
  refine go_iload dR_step_208 rfl ?_
  refine go_tableIn dR_step_210 (by decide) (by decide) (off := 374) rfl (tgt := 584) (by decide) ?_
  refine go_aload_n dR_step_584 rfl rfl ?_
  refine go_getO (a := 190) dR_step_585 flR_89 rfl (hS.s sh_163) (hS.r rt_fLocal) ?_
  refine go_bipush (nI 8) (by decide) dR_step_588 ?_
  refine go_iload_n dR_step_590 rfl rfl ?_
  first | refine go_imulN dR_step_591 ?_ | refine go_imul dR_step_591 ?_
  refine go_iload dR_step_592 rfl ?_
  first | refine go_iaddN dR_step_594 ?_ | refine go_iadd dR_step_594 ?_
  refine go_dup2 dR_step_595 ?_
  refine go_ialV (hS.s sh_190) (by omega) (by decide) lc dR_step_596 ?_
  refine go_iload dR_step_597 rfl ?_
  refine go_iadd dR_step_599 ?_
  refine go_iastoreN (hS.s sh_190) (by omega) (by decide) dR_step_600 ?_
  refine go_goto dR_step_601 (tgt := 604) (by decide) ?_
  refine go_aload_n dR_step_604 rfl rfl ?_
  refine go_getO (a := 186) dR_step_605 flR_77 rfl (hS.s sh_163) (hS.r rt_fPlace) ?_
  refine go_iload_n dR_step_608 rfl rfl ?_
  refine go_iload dR_step_609 rfl ?_
  refine go_iastoreN (hS.s sh_186) (by omega) (by decide) dR_step_611 ?_
  refine go_return rfl dR_step_612 ?_
  exact ⟨rfl, (h.st hN ha).go hN, (oX.wi ⟨by decide, by decide⟩).tr (oX.wi ⟨by decide, by decide⟩)⟩
set_option maxRecDepth 100000 in
theorem okR_st15 (w : am_W) {d : Nat} (hd : 2 ≤ d) (G : am_G) (p m : Nat) (s : xT) (Q : Nat → mT) (Z : Nat → fM) (hp : p < 2) (hv : ∀ a, a < 6 → mV (Q a)) (hz : zSol Q Z m) (hb : tB Q Z m s) (hN : 1 ≤ xN s) (hc : tyR Q Z m (lM s.1) (xC s)) (hB : rBd s) (hS : St0 G) (h : xR p G s) (hR : hldR G p Q) (hop : mO (Q (uM (xC s))) (uP (xC s)) = 15) (u : Nat) (hu : uTop (xC s) = nI u) (h1 : 1 ≤ u) (h2 : u ≤ lM s.1) (hD : 1 ≤ uD (xC s)) : am_Ok w jR_step d (0, 0) [.inr (some 163)] G (fun r G' => r = none ∧ xR p G' (xSet s (uGo (uPush (uPop (xC s)) (xI s u)) (uP (xC s) + 1))) ∧ oX G G') := by
  refine am_ok_of rfl (Nat.le_of_ble_eq_true rfl) ?_
  show am_Go w jR_step d (0, 0) 0 [some (.inr (some 163)), none, none, none, none, none, none, none, none, none, none, none, none, none] [] G _
  have nn := h.nn
  have dp := h.dp hN
  have d8 := h.d8 hN
  have h12 := hb.2.2.1
  obtain ⟨t1, -, t3, t4, -⟩ := id hc
  have hn6 := (hv _ t1).1
  obtain ⟨n1, n2, n3, n4⟩ := id hB
  refine R_stp w G p s Q hp hN h12 t1 t3 hn6 hS h hR ?_
  rw [hop]
  refine go_iload dR_step_60 rfl ?_
  refine go_bipush (nI 7) (by decide) dR_step_62 ?_
  refine go_icmp_ltN (by decide) (by decide) dR_step_64 (tgt := 97) (by decide) (fun c1 => absurd c1 (by decide)) (fun c1 => ?_)
  refine go_iload dR_step_67 rfl ?_
  refine go_bipush (nI 10) (by decide) dR_step_69 ?_
  refine go_icmp_gtN (by decide) (by decide) dR_step_71 (tgt := 97) (by decide) (fun c1 => ?_) (fun c1 => absurd c1 (by decide))
  refine go_iload dR_step_97 rfl ?_
  refine go_bipush (nI 15) (by decide) dR_step_99 ?_
  refine go_icmp_eqN (by decide) (by decide) dR_step_101 (tgt := 132) (by decide) (fun c1 => ?_) (fun c1 => absurd c1 (by decide))
  refine go_iload dR_step_132 rfl ?_
  refine go_bipush (nI 16) (by decide) dR_step_134 ?_
  refine go_icmp_neN (by decide) (by decide) dR_step_136 (tgt := 146) (by decide) (fun c1 => ?_) (fun c1 => absurd c1 (by decide))
  refine go_iconst (nI 0) (by decide) dR_step_146 ?_
  refine go_istore dR_step_147 (Nat.le_of_ble_eq_true rfl) ?_
  refine go_aload_n dR_step_149 rfl rfl ?_
  refine go_cV (k' := (0, 0)) dR_step_150 _ csR_234 (hS.s sh_163) rfl imR_pop seR_pop rfl (okR_pop (d := 0) w G p (s) hN h12 (hD) hS h) (by omega) (by decide) (Nat.le_of_ble_eq_true rfl) (fun r G1 hr hn => ?_)
  obtain ⟨rfl, X1, o1, -⟩ := hr
  have X1 : xR p G1 (xSet s (uPop (xC s))) := X1
  have hS := o1.St hS
  rw [hu]
  refine go_istore dR_step_153 (Nat.le_of_ble_eq_true rfl) ?_
  refine go_aload_n dR_step_155 rfl rfl ?_
  refine go_iload dR_step_156 rfl ?_
  refine go_iload dR_step_158 rfl ?_
  refine go_iload dR_step_160 rfl ?_
  refine go_cV (k' := (0, 0)) dR_step_162 _ csR_254 (hS.s sh_163) rfl imR_onObject seR_onObject rfl (okR_on15 (d := 1) w (by decide) G1 p (xSet s (uPop (xC s))) u (nI 0) hS X1 h1 h2 (show lM s.1 ≤ 1000 by omega) hN h12 (show uD (xC s) - 1 < 8 by omega)) (by omega) (by decide) (Nat.le_of_ble_eq_true rfl) (fun r G1 hr hn => ?_)
  obtain ⟨rfl, X2, o2⟩ := hr
  have hS := o2.St hS
  refine go_return rfl dR_step_165 ?_
  exact ⟨rfl, X2, o1.tr o2⟩
set_option maxRecDepth 100000 in
theorem okR_st15z (w : am_W) {d : Nat} (hd : 6 ≤ d) (G : am_G) (p m : Nat) (s : xT) (Q : Nat → mT) (Z : Nat → fM) (hp : p < 2) (hv : ∀ a, a < 6 → mV (Q a)) (hz : zSol Q Z m) (hb : tB Q Z m s) (hN : 1 ≤ xN s) (hc : tyR Q Z m (lM s.1) (xC s)) (hB : rBd s) (hS : St0 G) (h : xR p G s) (hR : hldR G p Q) (hop : mO (Q (uM (xC s))) (uP (xC s)) = 15) (hu : uTop (xC s) = nI 0) (hD : 1 ≤ uD (xC s)) : am_Ok w jR_step d (0, 0) [.inr (some 163)] G (fun r G' => r = none ∧ xR p G' (xAft Q (xNew (xSet s (uPop (xC s))) 2)) ∧ oX G G') := by
  refine am_ok_of rfl (Nat.le_of_ble_eq_true rfl) ?_
  show am_Go w jR_step d (0, 0) 0 [some (.inr (some 163)), none, none, none, none, none, none, none, none, none, none, none, none, none] [] G _
  have nn := h.nn
  have dp := h.dp hN
  have d8 := h.d8 hN
  have h12 := hb.2.2.1
  obtain ⟨t1, -, t3, t4, -⟩ := id hc
  have hn6 := (hv _ t1).1
  obtain ⟨n1, n2, n3, n4⟩ := id hB
  refine R_stp w G p s Q hp hN h12 t1 t3 hn6 hS h hR ?_
  rw [hop]
  refine go_iload dR_step_60 rfl ?_
  refine go_bipush (nI 7) (by decide) dR_step_62 ?_
  refine go_icmp_ltN (by decide) (by decide) dR_step_64 (tgt := 97) (by decide) (fun c1 => absurd c1 (by decide)) (fun c1 => ?_)
  refine go_iload dR_step_67 rfl ?_
  refine go_bipush (nI 10) (by decide) dR_step_69 ?_
  refine go_icmp_gtN (by decide) (by decide) dR_step_71 (tgt := 97) (by decide) (fun c1 => ?_) (fun c1 => absurd c1 (by decide))
  refine go_iload dR_step_97 rfl ?_
  refine go_bipush (nI 15) (by decide) dR_step_99 ?_
  refine go_icmp_eqN (by decide) (by decide) dR_step_101 (tgt := 132) (by decide) (fun c1 => ?_) (fun c1 => absurd c1 (by decide))
  refine go_iload dR_step_132 rfl ?_
  refine go_bipush (nI 16) (by decide) dR_step_134 ?_
  refine go_icmp_neN (by decide) (by decide) dR_step_136 (tgt := 146) (by decide) (fun c1 => ?_) (fun c1 => absurd c1 (by decide))
  refine go_iconst (nI 0) (by decide) dR_step_146 ?_
  refine go_istore dR_step_147 (Nat.le_of_ble_eq_true rfl) ?_
  refine go_aload_n dR_step_149 rfl rfl ?_
  refine go_cV (k' := (0, 0)) dR_step_150 _ csR_234 (hS.s sh_163) rfl imR_pop seR_pop rfl (okR_pop (d := 0) w G p (s) hN h12 (hD) hS h) (by omega) (by decide) (Nat.le_of_ble_eq_true rfl) (fun r G1 hr hn => ?_)
  obtain ⟨rfl, X1, o1, -⟩ := hr
  have X1 : xR p G1 (xSet s (uPop (xC s))) := X1
  have hS := o1.St hS
  rw [hu]
  refine go_istore dR_step_153 (Nat.le_of_ble_eq_true rfl) ?_
  refine go_aload_n dR_step_155 rfl rfl ?_
  refine go_iload dR_step_156 rfl ?_
  refine go_iload dR_step_158 rfl ?_
  refine go_iload dR_step_160 rfl ?_
  refine go_cV (k' := (0, 0)) dR_step_162 _ csR_254 (hS.s sh_163) rfl imR_onObject seR_onObject rfl (okR_on0 (d := 5) w (by decide) G1 p (xSet s (uPop (xC s))) (nI 15) (nI 0) hS X1 m Q Z hp hv hb (hc.md rfl rfl rfl rfl) hB (hR.x o1)) (by omega) (by decide) (Nat.le_of_ble_eq_true rfl) (fun r G1 hr hn => ?_)
  obtain ⟨rfl, X2, o2⟩ := hr
  have hS := o2.St hS
  refine go_return rfl dR_step_165 ?_
  exact ⟨rfl, X2, o1.tr o2⟩
set_option maxRecDepth 100000 in
theorem okR_st26 (w : am_W) {d : Nat} (hd : 2 ≤ d) (G : am_G) (p m : Nat) (s : xT) (Q : Nat → mT) (Z : Nat → fM) (hp : p < 2) (hv : ∀ a, a < 6 → mV (Q a)) (hz : zSol Q Z m) (hb : tB Q Z m s) (hN : 1 ≤ xN s) (hc : tyR Q Z m (lM s.1) (xC s)) (hB : rBd s) (hS : St0 G) (h : xR p G s) (hR : hldR G p Q) (hop : mO (Q (uM (xC s))) (uP (xC s)) = 26) (u : Nat) (hu : uTop (xC s) = nI u) (h1 : 1 ≤ u) (h2 : u ≤ lM s.1) (hD : 1 ≤ uD (xC s)) : am_Ok w jR_step d (0, 0) [.inr (some 163)] G (fun r G' => r = none ∧ xR p G' (xSet s (uGo (uPush (uPop (xC s)) (nI (xY s u))) (uP (xC s) + 1))) ∧ oX G G') := by
  refine am_ok_of rfl (Nat.le_of_ble_eq_true rfl) ?_
  show am_Go w jR_step d (0, 0) 0 [some (.inr (some 163)), none, none, none, none, none, none, none, none, none, none, none, none, none] [] G _
  have nn := h.nn
  have dp := h.dp hN
  have d8 := h.d8 hN
  have h12 := hb.2.2.1
  obtain ⟨t1, -, t3, t4, -⟩ := id hc
  have hn6 := (hv _ t1).1
  obtain ⟨n1, n2, n3, n4⟩ := id hB
  refine R_stp w G p s Q hp hN h12 t1 t3 hn6 hS h hR ?_
  rw [hop]
  refine go_iload dR_step_60 rfl ?_
  refine go_bipush (nI 7) (by decide) dR_step_62 ?_
  refine go_icmp_ltN (by decide) (by decide) dR_step_64 (tgt := 97) (by decide) (fun c1 => absurd c1 (by decide)) (fun c1 => ?_)
  refine go_iload dR_step_67 rfl ?_
  refine go_bipush (nI 10) (by decide) dR_step_69 ?_
  refine go_icmp_gtN (by decide) (by decide) dR_step_71 (tgt := 97) (by decide) (fun c1 => ?_) (fun c1 => absurd c1 (by decide))
  refine go_iload dR_step_97 rfl ?_
  refine go_bipush (nI 15) (by decide) dR_step_99 ?_
  refine go_icmp_eqN (by decide) (by decide) dR_step_101 (tgt := 132) (by decide) (fun c1 => absurd c1 (by decide)) (fun c1 => ?_)
  refine go_iload dR_step_104 rfl ?_
  refine go_bipush (nI 16) (by decide) dR_step_106 ?_
  refine go_icmp_eqN (by decide) (by decide) dR_step_108 (tgt := 132) (by decide) (fun c1 => absurd c1 (by decide)) (fun c1 => ?_)
  refine go_iload dR_step_111 rfl ?_
  refine go_bipush (nI 18) (by decide) dR_step_113 ?_
  refine go_icmp_ltN (by decide) (by decide) dR_step_115 (tgt := 125) (by decide) (fun c1 => absurd c1 (by decide)) (fun c1 => ?_)
  refine go_iload dR_step_118 rfl ?_
  refine go_bipush (nI 20) (by decide) dR_step_120 ?_
  refine go_icmp_leN (by decide) (by decide) dR_step_122 (tgt := 132) (by decide) (fun c1 => absurd c1 (by decide)) (fun c1 => ?_)
  refine go_iload dR_step_125 rfl ?_
  refine go_bipush (nI 26) (by decide) dR_step_127 ?_
  refine go_icmp_neN (by decide) (by decide) dR_step_129 (tgt := 166) (by decide) (fun c1 => absurd c1 (by decide)) (fun c1 => ?_)
  refine go_iload dR_step_132 rfl ?_
  refine go_bipush (nI 16) (by decide) dR_step_134 ?_
  refine go_icmp_neN (by decide) (by decide) dR_step_136 (tgt := 146) (by decide) (fun c1 => ?_) (fun c1 => absurd c1 (by decide))
  refine go_iconst (nI 0) (by decide) dR_step_146 ?_
  refine go_istore dR_step_147 (Nat.le_of_ble_eq_true rfl) ?_
  refine go_aload_n dR_step_149 rfl rfl ?_
  refine go_cV (k' := (0, 0)) dR_step_150 _ csR_234 (hS.s sh_163) rfl imR_pop seR_pop rfl (okR_pop (d := 0) w G p (s) hN h12 (hD) hS h) (by omega) (by decide) (Nat.le_of_ble_eq_true rfl) (fun r G1 hr hn => ?_)
  obtain ⟨rfl, X1, o1, -⟩ := hr
  have X1 : xR p G1 (xSet s (uPop (xC s))) := X1
  have hS := o1.St hS
  rw [hu]
  refine go_istore dR_step_153 (Nat.le_of_ble_eq_true rfl) ?_
  refine go_aload_n dR_step_155 rfl rfl ?_
  refine go_iload dR_step_156 rfl ?_
  refine go_iload dR_step_158 rfl ?_
  refine go_iload dR_step_160 rfl ?_
  refine go_cV (k' := (0, 0)) dR_step_162 _ csR_254 (hS.s sh_163) rfl imR_onObject seR_onObject rfl (okR_on26 (d := 1) w (by decide) G1 p (xSet s (uPop (xC s))) u (nI 0) hS X1 h1 h2 (show lM s.1 ≤ 1000 by omega) hN h12 (show uD (xC s) - 1 < 8 by omega)) (by omega) (by decide) (Nat.le_of_ble_eq_true rfl) (fun r G1 hr hn => ?_)
  obtain ⟨rfl, X2, o2⟩ := hr
  have hS := o2.St hS
  refine go_return rfl dR_step_165 ?_
  exact ⟨rfl, X2, o1.tr o2⟩
set_option maxRecDepth 100000 in
theorem okR_st26z (w : am_W) {d : Nat} (hd : 6 ≤ d) (G : am_G) (p m : Nat) (s : xT) (Q : Nat → mT) (Z : Nat → fM) (hp : p < 2) (hv : ∀ a, a < 6 → mV (Q a)) (hz : zSol Q Z m) (hb : tB Q Z m s) (hN : 1 ≤ xN s) (hc : tyR Q Z m (lM s.1) (xC s)) (hB : rBd s) (hS : St0 G) (h : xR p G s) (hR : hldR G p Q) (hop : mO (Q (uM (xC s))) (uP (xC s)) = 26) (hu : uTop (xC s) = nI 0) (hD : 1 ≤ uD (xC s)) : am_Ok w jR_step d (0, 0) [.inr (some 163)] G (fun r G' => r = none ∧ xR p G' (xAft Q (xNew (xSet s (uPop (xC s))) 2)) ∧ oX G G') := by
  refine am_ok_of rfl (Nat.le_of_ble_eq_true rfl) ?_
  show am_Go w jR_step d (0, 0) 0 [some (.inr (some 163)), none, none, none, none, none, none, none, none, none, none, none, none, none] [] G _
  have nn := h.nn
  have dp := h.dp hN
  have d8 := h.d8 hN
  have h12 := hb.2.2.1
  obtain ⟨t1, -, t3, t4, -⟩ := id hc
  have hn6 := (hv _ t1).1
  obtain ⟨n1, n2, n3, n4⟩ := id hB
  refine R_stp w G p s Q hp hN h12 t1 t3 hn6 hS h hR ?_
  rw [hop]
  refine go_iload dR_step_60 rfl ?_
  refine go_bipush (nI 7) (by decide) dR_step_62 ?_
  refine go_icmp_ltN (by decide) (by decide) dR_step_64 (tgt := 97) (by decide) (fun c1 => absurd c1 (by decide)) (fun c1 => ?_)
  refine go_iload dR_step_67 rfl ?_
  refine go_bipush (nI 10) (by decide) dR_step_69 ?_
  refine go_icmp_gtN (by decide) (by decide) dR_step_71 (tgt := 97) (by decide) (fun c1 => ?_) (fun c1 => absurd c1 (by decide))
  refine go_iload dR_step_97 rfl ?_
  refine go_bipush (nI 15) (by decide) dR_step_99 ?_
  refine go_icmp_eqN (by decide) (by decide) dR_step_101 (tgt := 132) (by decide) (fun c1 => absurd c1 (by decide)) (fun c1 => ?_)
  refine go_iload dR_step_104 rfl ?_
  refine go_bipush (nI 16) (by decide) dR_step_106 ?_
  refine go_icmp_eqN (by decide) (by decide) dR_step_108 (tgt := 132) (by decide) (fun c1 => absurd c1 (by decide)) (fun c1 => ?_)
  refine go_iload dR_step_111 rfl ?_
  refine go_bipush (nI 18) (by decide) dR_step_113 ?_
  refine go_icmp_ltN (by decide) (by decide) dR_step_115 (tgt := 125) (by decide) (fun c1 => absurd c1 (by decide)) (fun c1 => ?_)
  refine go_iload dR_step_118 rfl ?_
  refine go_bipush (nI 20) (by decide) dR_step_120 ?_
  refine go_icmp_leN (by decide) (by decide) dR_step_122 (tgt := 132) (by decide) (fun c1 => absurd c1 (by decide)) (fun c1 => ?_)
  refine go_iload dR_step_125 rfl ?_
  refine go_bipush (nI 26) (by decide) dR_step_127 ?_
  refine go_icmp_neN (by decide) (by decide) dR_step_129 (tgt := 166) (by decide) (fun c1 => absurd c1 (by decide)) (fun c1 => ?_)
  refine go_iload dR_step_132 rfl ?_
  refine go_bipush (nI 16) (by decide) dR_step_134 ?_
  refine go_icmp_neN (by decide) (by decide) dR_step_136 (tgt := 146) (by decide) (fun c1 => ?_) (fun c1 => absurd c1 (by decide))
  refine go_iconst (nI 0) (by decide) dR_step_146 ?_
  refine go_istore dR_step_147 (Nat.le_of_ble_eq_true rfl) ?_
  refine go_aload_n dR_step_149 rfl rfl ?_
  refine go_cV (k' := (0, 0)) dR_step_150 _ csR_234 (hS.s sh_163) rfl imR_pop seR_pop rfl (okR_pop (d := 0) w G p (s) hN h12 (hD) hS h) (by omega) (by decide) (Nat.le_of_ble_eq_true rfl) (fun r G1 hr hn => ?_)
  obtain ⟨rfl, X1, o1, -⟩ := hr
  have X1 : xR p G1 (xSet s (uPop (xC s))) := X1
  have hS := o1.St hS
  rw [hu]
  refine go_istore dR_step_153 (Nat.le_of_ble_eq_true rfl) ?_
  refine go_aload_n dR_step_155 rfl rfl ?_
  refine go_iload dR_step_156 rfl ?_
  refine go_iload dR_step_158 rfl ?_
  refine go_iload dR_step_160 rfl ?_
  refine go_cV (k' := (0, 0)) dR_step_162 _ csR_254 (hS.s sh_163) rfl imR_onObject seR_onObject rfl (okR_on0 (d := 5) w (by decide) G1 p (xSet s (uPop (xC s))) (nI 26) (nI 0) hS X1 m Q Z hp hv hb (hc.md rfl rfl rfl rfl) hB (hR.x o1)) (by omega) (by decide) (Nat.le_of_ble_eq_true rfl) (fun r G1 hr hn => ?_)
  obtain ⟨rfl, X2, o2⟩ := hr
  have hS := o2.St hS
  refine go_return rfl dR_step_165 ?_
  exact ⟨rfl, X2, o1.tr o2⟩
set_option maxRecDepth 100000 in
theorem okR_st18 (w : am_W) {d : Nat} (hd : 2 ≤ d) (G : am_G) (p m : Nat) (s : xT) (Q : Nat → mT) (Z : Nat → fM) (hp : p < 2) (hv : ∀ a, a < 6 → mV (Q a)) (hz : zSol Q Z m) (hb : tB Q Z m s) (hN : 1 ≤ xN s) (hc : tyR Q Z m (lM s.1) (xC s)) (hB : rBd s) (hS : St0 G) (h : xR p G s) (hR : hldR G p Q) (hop : mO (Q (uM (xC s))) (uP (xC s)) = 18) (u : Nat) (hu : uTop (xC s) = nI u) (h1 : 1 ≤ u) (h2 : u ≤ lM s.1) (hD : 1 ≤ uD (xC s)) : am_Ok w jR_step d (0, 0) [.inr (some 163)] G (fun r G' => r = none ∧ xR p G' (xSet (xTell (xHeld s (xH s + 1) (va_up (xE s) (xH s) u)) (nI u) 2) (uGo (uPop (xC s)) (uP (xC s) + 1))) ∧ oX G G') := by
  refine am_ok_of rfl (Nat.le_of_ble_eq_true rfl) ?_
  show am_Go w jR_step d (0, 0) 0 [some (.inr (some 163)), none, none, none, none, none, none, none, none, none, none, none, none, none] [] G _
  have nn := h.nn
  have dp := h.dp hN
  have d8 := h.d8 hN
  have h12 := hb.2.2.1
  obtain ⟨t1, -, t3, t4, -⟩ := id hc
  have hn6 := (hv _ t1).1
  obtain ⟨n1, n2, n3, n4⟩ := id hB
  refine R_stp w G p s Q hp hN h12 t1 t3 hn6 hS h hR ?_
  rw [hop]
  refine go_iload dR_step_60 rfl ?_
  refine go_bipush (nI 7) (by decide) dR_step_62 ?_
  refine go_icmp_ltN (by decide) (by decide) dR_step_64 (tgt := 97) (by decide) (fun c1 => absurd c1 (by decide)) (fun c1 => ?_)
  refine go_iload dR_step_67 rfl ?_
  refine go_bipush (nI 10) (by decide) dR_step_69 ?_
  refine go_icmp_gtN (by decide) (by decide) dR_step_71 (tgt := 97) (by decide) (fun c1 => ?_) (fun c1 => absurd c1 (by decide))
  refine go_iload dR_step_97 rfl ?_
  refine go_bipush (nI 15) (by decide) dR_step_99 ?_
  refine go_icmp_eqN (by decide) (by decide) dR_step_101 (tgt := 132) (by decide) (fun c1 => absurd c1 (by decide)) (fun c1 => ?_)
  refine go_iload dR_step_104 rfl ?_
  refine go_bipush (nI 16) (by decide) dR_step_106 ?_
  refine go_icmp_eqN (by decide) (by decide) dR_step_108 (tgt := 132) (by decide) (fun c1 => absurd c1 (by decide)) (fun c1 => ?_)
  refine go_iload dR_step_111 rfl ?_
  refine go_bipush (nI 18) (by decide) dR_step_113 ?_
  refine go_icmp_ltN (by decide) (by decide) dR_step_115 (tgt := 125) (by decide) (fun c1 => absurd c1 (by decide)) (fun c1 => ?_)
  refine go_iload dR_step_118 rfl ?_
  refine go_bipush (nI 20) (by decide) dR_step_120 ?_
  refine go_icmp_leN (by decide) (by decide) dR_step_122 (tgt := 132) (by decide) (fun c1 => ?_) (fun c1 => absurd c1 (by decide))
  refine go_iload dR_step_132 rfl ?_
  refine go_bipush (nI 16) (by decide) dR_step_134 ?_
  refine go_icmp_neN (by decide) (by decide) dR_step_136 (tgt := 146) (by decide) (fun c1 => ?_) (fun c1 => absurd c1 (by decide))
  refine go_iconst (nI 0) (by decide) dR_step_146 ?_
  refine go_istore dR_step_147 (Nat.le_of_ble_eq_true rfl) ?_
  refine go_aload_n dR_step_149 rfl rfl ?_
  refine go_cV (k' := (0, 0)) dR_step_150 _ csR_234 (hS.s sh_163) rfl imR_pop seR_pop rfl (okR_pop (d := 0) w G p (s) hN h12 (hD) hS h) (by omega) (by decide) (Nat.le_of_ble_eq_true rfl) (fun r G1 hr hn => ?_)
  obtain ⟨rfl, X1, o1, -⟩ := hr
  have X1 : xR p G1 (xSet s (uPop (xC s))) := X1
  have hS := o1.St hS
  rw [hu]
  refine go_istore dR_step_153 (Nat.le_of_ble_eq_true rfl) ?_
  refine go_aload_n dR_step_155 rfl rfl ?_
  refine go_iload dR_step_156 rfl ?_
  refine go_iload dR_step_158 rfl ?_
  refine go_iload dR_step_160 rfl ?_
  refine go_cV (k' := (0, 0)) dR_step_162 _ csR_254 (hS.s sh_163) rfl imR_onObject seR_onObject rfl (okR_on18 (d := 1) w (by decide) G1 p (xSet s (uPop (xC s))) u (nI 0) hS X1 h1 h2 (show lM s.1 ≤ 1000 by omega) hN h12 (show xH s < 1000 by omega) (show lNn s.1 < 100000 by omega)) (by omega) (by decide) (Nat.le_of_ble_eq_true rfl) (fun r G1 hr hn => ?_)
  obtain ⟨rfl, X2, o2⟩ := hr
  have hS := o2.St hS
  refine go_return rfl dR_step_165 ?_
  exact ⟨rfl, X2, o1.tr o2⟩
set_option maxRecDepth 100000 in
theorem okR_st18z (w : am_W) {d : Nat} (hd : 6 ≤ d) (G : am_G) (p m : Nat) (s : xT) (Q : Nat → mT) (Z : Nat → fM) (hp : p < 2) (hv : ∀ a, a < 6 → mV (Q a)) (hz : zSol Q Z m) (hb : tB Q Z m s) (hN : 1 ≤ xN s) (hc : tyR Q Z m (lM s.1) (xC s)) (hB : rBd s) (hS : St0 G) (h : xR p G s) (hR : hldR G p Q) (hop : mO (Q (uM (xC s))) (uP (xC s)) = 18) (hu : uTop (xC s) = nI 0) (hD : 1 ≤ uD (xC s)) : am_Ok w jR_step d (0, 0) [.inr (some 163)] G (fun r G' => r = none ∧ xR p G' (xAft Q (xNew (xSet s (uPop (xC s))) 2)) ∧ oX G G') := by
  refine am_ok_of rfl (Nat.le_of_ble_eq_true rfl) ?_
  show am_Go w jR_step d (0, 0) 0 [some (.inr (some 163)), none, none, none, none, none, none, none, none, none, none, none, none, none] [] G _
  have nn := h.nn
  have dp := h.dp hN
  have d8 := h.d8 hN
  have h12 := hb.2.2.1
  obtain ⟨t1, -, t3, t4, -⟩ := id hc
  have hn6 := (hv _ t1).1
  obtain ⟨n1, n2, n3, n4⟩ := id hB
  refine R_stp w G p s Q hp hN h12 t1 t3 hn6 hS h hR ?_
  rw [hop]
  refine go_iload dR_step_60 rfl ?_
  refine go_bipush (nI 7) (by decide) dR_step_62 ?_
  refine go_icmp_ltN (by decide) (by decide) dR_step_64 (tgt := 97) (by decide) (fun c1 => absurd c1 (by decide)) (fun c1 => ?_)
  refine go_iload dR_step_67 rfl ?_
  refine go_bipush (nI 10) (by decide) dR_step_69 ?_
  refine go_icmp_gtN (by decide) (by decide) dR_step_71 (tgt := 97) (by decide) (fun c1 => ?_) (fun c1 => absurd c1 (by decide))
  refine go_iload dR_step_97 rfl ?_
  refine go_bipush (nI 15) (by decide) dR_step_99 ?_
  refine go_icmp_eqN (by decide) (by decide) dR_step_101 (tgt := 132) (by decide) (fun c1 => absurd c1 (by decide)) (fun c1 => ?_)
  refine go_iload dR_step_104 rfl ?_
  refine go_bipush (nI 16) (by decide) dR_step_106 ?_
  refine go_icmp_eqN (by decide) (by decide) dR_step_108 (tgt := 132) (by decide) (fun c1 => absurd c1 (by decide)) (fun c1 => ?_)
  refine go_iload dR_step_111 rfl ?_
  refine go_bipush (nI 18) (by decide) dR_step_113 ?_
  refine go_icmp_ltN (by decide) (by decide) dR_step_115 (tgt := 125) (by decide) (fun c1 => absurd c1 (by decide)) (fun c1 => ?_)
  refine go_iload dR_step_118 rfl ?_
  refine go_bipush (nI 20) (by decide) dR_step_120 ?_
  refine go_icmp_leN (by decide) (by decide) dR_step_122 (tgt := 132) (by decide) (fun c1 => ?_) (fun c1 => absurd c1 (by decide))
  refine go_iload dR_step_132 rfl ?_
  refine go_bipush (nI 16) (by decide) dR_step_134 ?_
  refine go_icmp_neN (by decide) (by decide) dR_step_136 (tgt := 146) (by decide) (fun c1 => ?_) (fun c1 => absurd c1 (by decide))
  refine go_iconst (nI 0) (by decide) dR_step_146 ?_
  refine go_istore dR_step_147 (Nat.le_of_ble_eq_true rfl) ?_
  refine go_aload_n dR_step_149 rfl rfl ?_
  refine go_cV (k' := (0, 0)) dR_step_150 _ csR_234 (hS.s sh_163) rfl imR_pop seR_pop rfl (okR_pop (d := 0) w G p (s) hN h12 (hD) hS h) (by omega) (by decide) (Nat.le_of_ble_eq_true rfl) (fun r G1 hr hn => ?_)
  obtain ⟨rfl, X1, o1, -⟩ := hr
  have X1 : xR p G1 (xSet s (uPop (xC s))) := X1
  have hS := o1.St hS
  rw [hu]
  refine go_istore dR_step_153 (Nat.le_of_ble_eq_true rfl) ?_
  refine go_aload_n dR_step_155 rfl rfl ?_
  refine go_iload dR_step_156 rfl ?_
  refine go_iload dR_step_158 rfl ?_
  refine go_iload dR_step_160 rfl ?_
  refine go_cV (k' := (0, 0)) dR_step_162 _ csR_254 (hS.s sh_163) rfl imR_onObject seR_onObject rfl (okR_on0 (d := 5) w (by decide) G1 p (xSet s (uPop (xC s))) (nI 18) (nI 0) hS X1 m Q Z hp hv hb (hc.md rfl rfl rfl rfl) hB (hR.x o1)) (by omega) (by decide) (Nat.le_of_ble_eq_true rfl) (fun r G1 hr hn => ?_)
  obtain ⟨rfl, X2, o2⟩ := hr
  have hS := o2.St hS
  refine go_return rfl dR_step_165 ?_
  exact ⟨rfl, X2, o1.tr o2⟩
set_option maxRecDepth 100000 in
theorem okR_st19 (w : am_W) {d : Nat} (hd : 7 ≤ d) (G : am_G) (p m : Nat) (s : xT) (Q : Nat → mT) (Z : Nat → fM) (hp : p < 2) (hv : ∀ a, a < 6 → mV (Q a)) (hz : zSol Q Z m) (hb : tB Q Z m s) (hN : 1 ≤ xN s) (hc : tyR Q Z m (lM s.1) (xC s)) (hB : rBd s) (hS : St0 G) (h : xR p G s) (hR : hldR G p Q) (hop : mO (Q (uM (xC s))) (uP (xC s)) = 19) (u : Nat) (hu : uTop (xC s) = nI u) (h1 : 1 ≤ u) (h2 : u ≤ lM s.1) (hD : 1 ≤ uD (xC s)) : am_Ok w jR_step d (0, 0) [.inr (some 163)] G (fun r G' => r = none ∧ xR p G' (xAft Q (xLeave s (uPop (xC s)) u)) ∧ oX G G') := by
  refine am_ok_of rfl (Nat.le_of_ble_eq_true rfl) ?_
  show am_Go w jR_step d (0, 0) 0 [some (.inr (some 163)), none, none, none, none, none, none, none, none, none, none, none, none, none] [] G _
  have nn := h.nn
  have dp := h.dp hN
  have d8 := h.d8 hN
  have h12 := hb.2.2.1
  obtain ⟨t1, -, t3, t4, -⟩ := id hc
  have hn6 := (hv _ t1).1
  obtain ⟨n1, n2, n3, n4⟩ := id hB
  refine R_stp w G p s Q hp hN h12 t1 t3 hn6 hS h hR ?_
  rw [hop]
  refine go_iload dR_step_60 rfl ?_
  refine go_bipush (nI 7) (by decide) dR_step_62 ?_
  refine go_icmp_ltN (by decide) (by decide) dR_step_64 (tgt := 97) (by decide) (fun c1 => absurd c1 (by decide)) (fun c1 => ?_)
  refine go_iload dR_step_67 rfl ?_
  refine go_bipush (nI 10) (by decide) dR_step_69 ?_
  refine go_icmp_gtN (by decide) (by decide) dR_step_71 (tgt := 97) (by decide) (fun c1 => ?_) (fun c1 => absurd c1 (by decide))
  refine go_iload dR_step_97 rfl ?_
  refine go_bipush (nI 15) (by decide) dR_step_99 ?_
  refine go_icmp_eqN (by decide) (by decide) dR_step_101 (tgt := 132) (by decide) (fun c1 => absurd c1 (by decide)) (fun c1 => ?_)
  refine go_iload dR_step_104 rfl ?_
  refine go_bipush (nI 16) (by decide) dR_step_106 ?_
  refine go_icmp_eqN (by decide) (by decide) dR_step_108 (tgt := 132) (by decide) (fun c1 => absurd c1 (by decide)) (fun c1 => ?_)
  refine go_iload dR_step_111 rfl ?_
  refine go_bipush (nI 18) (by decide) dR_step_113 ?_
  refine go_icmp_ltN (by decide) (by decide) dR_step_115 (tgt := 125) (by decide) (fun c1 => absurd c1 (by decide)) (fun c1 => ?_)
  refine go_iload dR_step_118 rfl ?_
  refine go_bipush (nI 20) (by decide) dR_step_120 ?_
  refine go_icmp_leN (by decide) (by decide) dR_step_122 (tgt := 132) (by decide) (fun c1 => ?_) (fun c1 => absurd c1 (by decide))
  refine go_iload dR_step_132 rfl ?_
  refine go_bipush (nI 16) (by decide) dR_step_134 ?_
  refine go_icmp_neN (by decide) (by decide) dR_step_136 (tgt := 146) (by decide) (fun c1 => ?_) (fun c1 => absurd c1 (by decide))
  refine go_iconst (nI 0) (by decide) dR_step_146 ?_
  refine go_istore dR_step_147 (Nat.le_of_ble_eq_true rfl) ?_
  refine go_aload_n dR_step_149 rfl rfl ?_
  refine go_cV (k' := (0, 0)) dR_step_150 _ csR_234 (hS.s sh_163) rfl imR_pop seR_pop rfl (okR_pop (d := 0) w G p (s) hN h12 (hD) hS h) (by omega) (by decide) (Nat.le_of_ble_eq_true rfl) (fun r G1 hr hn => ?_)
  obtain ⟨rfl, X1, o1, -⟩ := hr
  have X1 : xR p G1 (xSet s (uPop (xC s))) := X1
  have hS := o1.St hS
  rw [hu]
  refine go_istore dR_step_153 (Nat.le_of_ble_eq_true rfl) ?_
  refine go_aload_n dR_step_155 rfl rfl ?_
  refine go_iload dR_step_156 rfl ?_
  refine go_iload dR_step_158 rfl ?_
  refine go_iload dR_step_160 rfl ?_
  refine go_cV (k' := (0, 0)) dR_step_162 _ csR_254 (hS.s sh_163) rfl imR_onObject seR_onObject rfl (okR_on19 (d := 6) w (by decide) G1 p (xSet s (uPop (xC s))) u (nI 0) hS X1 h1 h2 (show lM s.1 ≤ 1000 by omega) hN h12 m Q Z hp hv hb (hc.md rfl rfl rfl rfl) hB (hR.x o1)) (by omega) (by decide) (Nat.le_of_ble_eq_true rfl) (fun r G1 hr hn => ?_)
  obtain ⟨rfl, X2, o2⟩ := hr
  have hS := o2.St hS
  refine go_return rfl dR_step_165 ?_
  exact ⟨rfl, X2, o1.tr o2⟩
set_option maxRecDepth 100000 in
theorem okR_st19z (w : am_W) {d : Nat} (hd : 6 ≤ d) (G : am_G) (p m : Nat) (s : xT) (Q : Nat → mT) (Z : Nat → fM) (hp : p < 2) (hv : ∀ a, a < 6 → mV (Q a)) (hz : zSol Q Z m) (hb : tB Q Z m s) (hN : 1 ≤ xN s) (hc : tyR Q Z m (lM s.1) (xC s)) (hB : rBd s) (hS : St0 G) (h : xR p G s) (hR : hldR G p Q) (hop : mO (Q (uM (xC s))) (uP (xC s)) = 19) (hu : uTop (xC s) = nI 0) (hD : 1 ≤ uD (xC s)) : am_Ok w jR_step d (0, 0) [.inr (some 163)] G (fun r G' => r = none ∧ xR p G' (xAft Q (xNew (xSet s (uPop (xC s))) 2)) ∧ oX G G') := by
  refine am_ok_of rfl (Nat.le_of_ble_eq_true rfl) ?_
  show am_Go w jR_step d (0, 0) 0 [some (.inr (some 163)), none, none, none, none, none, none, none, none, none, none, none, none, none] [] G _
  have nn := h.nn
  have dp := h.dp hN
  have d8 := h.d8 hN
  have h12 := hb.2.2.1
  obtain ⟨t1, -, t3, t4, -⟩ := id hc
  have hn6 := (hv _ t1).1
  obtain ⟨n1, n2, n3, n4⟩ := id hB
  refine R_stp w G p s Q hp hN h12 t1 t3 hn6 hS h hR ?_
  rw [hop]
  refine go_iload dR_step_60 rfl ?_
  refine go_bipush (nI 7) (by decide) dR_step_62 ?_
  refine go_icmp_ltN (by decide) (by decide) dR_step_64 (tgt := 97) (by decide) (fun c1 => absurd c1 (by decide)) (fun c1 => ?_)
  refine go_iload dR_step_67 rfl ?_
  refine go_bipush (nI 10) (by decide) dR_step_69 ?_
  refine go_icmp_gtN (by decide) (by decide) dR_step_71 (tgt := 97) (by decide) (fun c1 => ?_) (fun c1 => absurd c1 (by decide))
  refine go_iload dR_step_97 rfl ?_
  refine go_bipush (nI 15) (by decide) dR_step_99 ?_
  refine go_icmp_eqN (by decide) (by decide) dR_step_101 (tgt := 132) (by decide) (fun c1 => absurd c1 (by decide)) (fun c1 => ?_)
  refine go_iload dR_step_104 rfl ?_
  refine go_bipush (nI 16) (by decide) dR_step_106 ?_
  refine go_icmp_eqN (by decide) (by decide) dR_step_108 (tgt := 132) (by decide) (fun c1 => absurd c1 (by decide)) (fun c1 => ?_)
  refine go_iload dR_step_111 rfl ?_
  refine go_bipush (nI 18) (by decide) dR_step_113 ?_
  refine go_icmp_ltN (by decide) (by decide) dR_step_115 (tgt := 125) (by decide) (fun c1 => absurd c1 (by decide)) (fun c1 => ?_)
  refine go_iload dR_step_118 rfl ?_
  refine go_bipush (nI 20) (by decide) dR_step_120 ?_
  refine go_icmp_leN (by decide) (by decide) dR_step_122 (tgt := 132) (by decide) (fun c1 => ?_) (fun c1 => absurd c1 (by decide))
  refine go_iload dR_step_132 rfl ?_
  refine go_bipush (nI 16) (by decide) dR_step_134 ?_
  refine go_icmp_neN (by decide) (by decide) dR_step_136 (tgt := 146) (by decide) (fun c1 => ?_) (fun c1 => absurd c1 (by decide))
  refine go_iconst (nI 0) (by decide) dR_step_146 ?_
  refine go_istore dR_step_147 (Nat.le_of_ble_eq_true rfl) ?_
  refine go_aload_n dR_step_149 rfl rfl ?_
  refine go_cV (k' := (0, 0)) dR_step_150 _ csR_234 (hS.s sh_163) rfl imR_pop seR_pop rfl (okR_pop (d := 0) w G p (s) hN h12 (hD) hS h) (by omega) (by decide) (Nat.le_of_ble_eq_true rfl) (fun r G1 hr hn => ?_)
  obtain ⟨rfl, X1, o1, -⟩ := hr
  have X1 : xR p G1 (xSet s (uPop (xC s))) := X1
  have hS := o1.St hS
  rw [hu]
  refine go_istore dR_step_153 (Nat.le_of_ble_eq_true rfl) ?_
  refine go_aload_n dR_step_155 rfl rfl ?_
  refine go_iload dR_step_156 rfl ?_
  refine go_iload dR_step_158 rfl ?_
  refine go_iload dR_step_160 rfl ?_
  refine go_cV (k' := (0, 0)) dR_step_162 _ csR_254 (hS.s sh_163) rfl imR_onObject seR_onObject rfl (okR_on0 (d := 5) w (by decide) G1 p (xSet s (uPop (xC s))) (nI 19) (nI 0) hS X1 m Q Z hp hv hb (hc.md rfl rfl rfl rfl) hB (hR.x o1)) (by omega) (by decide) (Nat.le_of_ble_eq_true rfl) (fun r G1 hr hn => ?_)
  obtain ⟨rfl, X2, o2⟩ := hr
  have hS := o2.St hS
  refine go_return rfl dR_step_165 ?_
  exact ⟨rfl, X2, o1.tr o2⟩
set_option maxRecDepth 100000 in
theorem okR_st20 (w : am_W) {d : Nat} (hd : 5 ≤ d) (G : am_G) (p m : Nat) (s : xT) (Q : Nat → mT) (Z : Nat → fM) (hp : p < 2) (hv : ∀ a, a < 6 → mV (Q a)) (hz : zSol Q Z m) (hb : tB Q Z m s) (hN : 1 ≤ xN s) (hc : tyR Q Z m (lM s.1) (xC s)) (hB : rBd s) (hS : St0 G) (h : xR p G s) (hR : hldR G p Q) (hop : mO (Q (uM (xC s))) (uP (xC s)) = 20) (u : Nat) (hu : uTop (xC s) = nI u) (h1 : 1 ≤ u) (h2 : u ≤ lM s.1) (hD : 1 ≤ uD (xC s)) : am_Ok w jR_step d (0, 0) [.inr (some 163)] G (fun r G' => r = none ∧ xR p G' (xAft Q (xTell (xSet s (uPop (xC s))) (nI (xY s u)) 4, u)) ∧ oX G G') := by
  refine am_ok_of rfl (Nat.le_of_ble_eq_true rfl) ?_
  show am_Go w jR_step d (0, 0) 0 [some (.inr (some 163)), none, none, none, none, none, none, none, none, none, none, none, none, none] [] G _
  have nn := h.nn
  have dp := h.dp hN
  have d8 := h.d8 hN
  have h12 := hb.2.2.1
  obtain ⟨t1, -, t3, t4, -⟩ := id hc
  have hn6 := (hv _ t1).1
  obtain ⟨n1, n2, n3, n4⟩ := id hB
  refine R_stp w G p s Q hp hN h12 t1 t3 hn6 hS h hR ?_
  rw [hop]
  refine go_iload dR_step_60 rfl ?_
  refine go_bipush (nI 7) (by decide) dR_step_62 ?_
  refine go_icmp_ltN (by decide) (by decide) dR_step_64 (tgt := 97) (by decide) (fun c1 => absurd c1 (by decide)) (fun c1 => ?_)
  refine go_iload dR_step_67 rfl ?_
  refine go_bipush (nI 10) (by decide) dR_step_69 ?_
  refine go_icmp_gtN (by decide) (by decide) dR_step_71 (tgt := 97) (by decide) (fun c1 => ?_) (fun c1 => absurd c1 (by decide))
  refine go_iload dR_step_97 rfl ?_
  refine go_bipush (nI 15) (by decide) dR_step_99 ?_
  refine go_icmp_eqN (by decide) (by decide) dR_step_101 (tgt := 132) (by decide) (fun c1 => absurd c1 (by decide)) (fun c1 => ?_)
  refine go_iload dR_step_104 rfl ?_
  refine go_bipush (nI 16) (by decide) dR_step_106 ?_
  refine go_icmp_eqN (by decide) (by decide) dR_step_108 (tgt := 132) (by decide) (fun c1 => absurd c1 (by decide)) (fun c1 => ?_)
  refine go_iload dR_step_111 rfl ?_
  refine go_bipush (nI 18) (by decide) dR_step_113 ?_
  refine go_icmp_ltN (by decide) (by decide) dR_step_115 (tgt := 125) (by decide) (fun c1 => absurd c1 (by decide)) (fun c1 => ?_)
  refine go_iload dR_step_118 rfl ?_
  refine go_bipush (nI 20) (by decide) dR_step_120 ?_
  refine go_icmp_leN (by decide) (by decide) dR_step_122 (tgt := 132) (by decide) (fun c1 => ?_) (fun c1 => absurd c1 (by decide))
  refine go_iload dR_step_132 rfl ?_
  refine go_bipush (nI 16) (by decide) dR_step_134 ?_
  refine go_icmp_neN (by decide) (by decide) dR_step_136 (tgt := 146) (by decide) (fun c1 => ?_) (fun c1 => absurd c1 (by decide))
  refine go_iconst (nI 0) (by decide) dR_step_146 ?_
  refine go_istore dR_step_147 (Nat.le_of_ble_eq_true rfl) ?_
  refine go_aload_n dR_step_149 rfl rfl ?_
  refine go_cV (k' := (0, 0)) dR_step_150 _ csR_234 (hS.s sh_163) rfl imR_pop seR_pop rfl (okR_pop (d := 0) w G p (s) hN h12 (hD) hS h) (by omega) (by decide) (Nat.le_of_ble_eq_true rfl) (fun r G1 hr hn => ?_)
  obtain ⟨rfl, X1, o1, -⟩ := hr
  have X1 : xR p G1 (xSet s (uPop (xC s))) := X1
  have hS := o1.St hS
  rw [hu]
  refine go_istore dR_step_153 (Nat.le_of_ble_eq_true rfl) ?_
  refine go_aload_n dR_step_155 rfl rfl ?_
  refine go_iload dR_step_156 rfl ?_
  refine go_iload dR_step_158 rfl ?_
  refine go_iload dR_step_160 rfl ?_
  refine go_cV (k' := (0, 0)) dR_step_162 _ csR_254 (hS.s sh_163) rfl imR_onObject seR_onObject rfl (okR_on20 (d := 4) w (by decide) G1 p (xSet s (uPop (xC s))) u (nI 0) hS X1 h1 h2 (show lM s.1 ≤ 1000 by omega) m Q Z hp hv hb (hc.md rfl rfl rfl rfl) hB (hR.x o1)) (by omega) (by decide) (Nat.le_of_ble_eq_true rfl) (fun r G1 hr hn => ?_)
  obtain ⟨rfl, X2, o2⟩ := hr
  have hS := o2.St hS
  refine go_return rfl dR_step_165 ?_
  exact ⟨rfl, X2, o1.tr o2⟩
set_option maxRecDepth 100000 in
theorem okR_st20z (w : am_W) {d : Nat} (hd : 6 ≤ d) (G : am_G) (p m : Nat) (s : xT) (Q : Nat → mT) (Z : Nat → fM) (hp : p < 2) (hv : ∀ a, a < 6 → mV (Q a)) (hz : zSol Q Z m) (hb : tB Q Z m s) (hN : 1 ≤ xN s) (hc : tyR Q Z m (lM s.1) (xC s)) (hB : rBd s) (hS : St0 G) (h : xR p G s) (hR : hldR G p Q) (hop : mO (Q (uM (xC s))) (uP (xC s)) = 20) (hu : uTop (xC s) = nI 0) (hD : 1 ≤ uD (xC s)) : am_Ok w jR_step d (0, 0) [.inr (some 163)] G (fun r G' => r = none ∧ xR p G' (xAft Q (xNew (xSet s (uPop (xC s))) 2)) ∧ oX G G') := by
  refine am_ok_of rfl (Nat.le_of_ble_eq_true rfl) ?_
  show am_Go w jR_step d (0, 0) 0 [some (.inr (some 163)), none, none, none, none, none, none, none, none, none, none, none, none, none] [] G _
  have nn := h.nn
  have dp := h.dp hN
  have d8 := h.d8 hN
  have h12 := hb.2.2.1
  obtain ⟨t1, -, t3, t4, -⟩ := id hc
  have hn6 := (hv _ t1).1
  obtain ⟨n1, n2, n3, n4⟩ := id hB
  refine R_stp w G p s Q hp hN h12 t1 t3 hn6 hS h hR ?_
  rw [hop]
  refine go_iload dR_step_60 rfl ?_
  refine go_bipush (nI 7) (by decide) dR_step_62 ?_
  refine go_icmp_ltN (by decide) (by decide) dR_step_64 (tgt := 97) (by decide) (fun c1 => absurd c1 (by decide)) (fun c1 => ?_)
  refine go_iload dR_step_67 rfl ?_
  refine go_bipush (nI 10) (by decide) dR_step_69 ?_
  refine go_icmp_gtN (by decide) (by decide) dR_step_71 (tgt := 97) (by decide) (fun c1 => ?_) (fun c1 => absurd c1 (by decide))
  refine go_iload dR_step_97 rfl ?_
  refine go_bipush (nI 15) (by decide) dR_step_99 ?_
  refine go_icmp_eqN (by decide) (by decide) dR_step_101 (tgt := 132) (by decide) (fun c1 => absurd c1 (by decide)) (fun c1 => ?_)
  refine go_iload dR_step_104 rfl ?_
  refine go_bipush (nI 16) (by decide) dR_step_106 ?_
  refine go_icmp_eqN (by decide) (by decide) dR_step_108 (tgt := 132) (by decide) (fun c1 => absurd c1 (by decide)) (fun c1 => ?_)
  refine go_iload dR_step_111 rfl ?_
  refine go_bipush (nI 18) (by decide) dR_step_113 ?_
  refine go_icmp_ltN (by decide) (by decide) dR_step_115 (tgt := 125) (by decide) (fun c1 => absurd c1 (by decide)) (fun c1 => ?_)
  refine go_iload dR_step_118 rfl ?_
  refine go_bipush (nI 20) (by decide) dR_step_120 ?_
  refine go_icmp_leN (by decide) (by decide) dR_step_122 (tgt := 132) (by decide) (fun c1 => ?_) (fun c1 => absurd c1 (by decide))
  refine go_iload dR_step_132 rfl ?_
  refine go_bipush (nI 16) (by decide) dR_step_134 ?_
  refine go_icmp_neN (by decide) (by decide) dR_step_136 (tgt := 146) (by decide) (fun c1 => ?_) (fun c1 => absurd c1 (by decide))
  refine go_iconst (nI 0) (by decide) dR_step_146 ?_
  refine go_istore dR_step_147 (Nat.le_of_ble_eq_true rfl) ?_
  refine go_aload_n dR_step_149 rfl rfl ?_
  refine go_cV (k' := (0, 0)) dR_step_150 _ csR_234 (hS.s sh_163) rfl imR_pop seR_pop rfl (okR_pop (d := 0) w G p (s) hN h12 (hD) hS h) (by omega) (by decide) (Nat.le_of_ble_eq_true rfl) (fun r G1 hr hn => ?_)
  obtain ⟨rfl, X1, o1, -⟩ := hr
  have X1 : xR p G1 (xSet s (uPop (xC s))) := X1
  have hS := o1.St hS
  rw [hu]
  refine go_istore dR_step_153 (Nat.le_of_ble_eq_true rfl) ?_
  refine go_aload_n dR_step_155 rfl rfl ?_
  refine go_iload dR_step_156 rfl ?_
  refine go_iload dR_step_158 rfl ?_
  refine go_iload dR_step_160 rfl ?_
  refine go_cV (k' := (0, 0)) dR_step_162 _ csR_254 (hS.s sh_163) rfl imR_onObject seR_onObject rfl (okR_on0 (d := 5) w (by decide) G1 p (xSet s (uPop (xC s))) (nI 20) (nI 0) hS X1 m Q Z hp hv hb (hc.md rfl rfl rfl rfl) hB (hR.x o1)) (by omega) (by decide) (Nat.le_of_ble_eq_true rfl) (fun r G1 hr hn => ?_)
  obtain ⟨rfl, X2, o2⟩ := hr
  have hS := o2.St hS
  refine go_return rfl dR_step_165 ?_
  exact ⟨rfl, X2, o1.tr o2⟩
set_option maxRecDepth 100000 in
theorem okR_st16 (w : am_W) {d : Nat} (hd : 2 ≤ d) (G : am_G) (p m : Nat) (s : xT) (Q : Nat → mT) (Z : Nat → fM) (hp : p < 2) (hv : ∀ a, a < 6 → mV (Q a)) (hz : zSol Q Z m) (hb : tB Q Z m s) (hN : 1 ≤ xN s) (hc : tyR Q Z m (lM s.1) (xC s)) (hB : rBd s) (hS : St0 G) (h : xR p G s) (hR : hldR G p Q) (hop : mO (Q (uM (xC s))) (uP (xC s)) = 16) (u : Nat) (hu : uTop (uPop (xC s)) = nI u) (h1 : 1 ≤ u) (h2 : u ≤ lM s.1) (hD : 2 ≤ uD (xC s)) : am_Ok w jR_step d (0, 0) [.inr (some 163)] G (fun r G' => r = none ∧ xR p G' (xSet (xItem s u (uTop (xC s))) (uGo (uPop (uPop (xC s))) (uP (xC s) + 1))) ∧ oX G G') := by
  refine am_ok_of rfl (Nat.le_of_ble_eq_true rfl) ?_
  show am_Go w jR_step d (0, 0) 0 [some (.inr (some 163)), none, none, none, none, none, none, none, none, none, none, none, none, none] [] G _
  have nn := h.nn
  have dp := h.dp hN
  have d8 := h.d8 hN
  have h12 := hb.2.2.1
  obtain ⟨t1, -, t3, t4, -⟩ := id hc
  have hn6 := (hv _ t1).1
  obtain ⟨n1, n2, n3, n4⟩ := id hB
  refine R_stp w G p s Q hp hN h12 t1 t3 hn6 hS h hR ?_
  rw [hop]
  refine go_iload dR_step_60 rfl ?_
  refine go_bipush (nI 7) (by decide) dR_step_62 ?_
  refine go_icmp_ltN (by decide) (by decide) dR_step_64 (tgt := 97) (by decide) (fun c1 => absurd c1 (by decide)) (fun c1 => ?_)
  refine go_iload dR_step_67 rfl ?_
  refine go_bipush (nI 10) (by decide) dR_step_69 ?_
  refine go_icmp_gtN (by decide) (by decide) dR_step_71 (tgt := 97) (by decide) (fun c1 => ?_) (fun c1 => absurd c1 (by decide))
  refine go_iload dR_step_97 rfl ?_
  refine go_bipush (nI 15) (by decide) dR_step_99 ?_
  refine go_icmp_eqN (by decide) (by decide) dR_step_101 (tgt := 132) (by decide) (fun c1 => absurd c1 (by decide)) (fun c1 => ?_)
  refine go_iload dR_step_104 rfl ?_
  refine go_bipush (nI 16) (by decide) dR_step_106 ?_
  refine go_icmp_eqN (by decide) (by decide) dR_step_108 (tgt := 132) (by decide) (fun c1 => ?_) (fun c1 => absurd c1 (by decide))
  refine go_iload dR_step_132 rfl ?_
  refine go_bipush (nI 16) (by decide) dR_step_134 ?_
  refine go_icmp_neN (by decide) (by decide) dR_step_136 (tgt := 146) (by decide) (fun c1 => absurd c1 (by decide)) (fun c1 => ?_)
  refine go_aload_n dR_step_139 rfl rfl ?_
  refine go_cV (k' := (0, 0)) dR_step_140 _ csR_234 (hS.s sh_163) rfl imR_pop seR_pop rfl (okR_pop (d := 0) w G p (s) hN h12 (show 1 ≤ uD (xC s) by omega) hS h) (by omega) (by decide) (Nat.le_of_ble_eq_true rfl) (fun r G1 hr hn => ?_)
  obtain ⟨rfl, X1, o1, -⟩ := hr
  have X1 : xR p G1 (xSet s (uPop (xC s))) := X1
  have hS := o1.St hS
  refine go_goto dR_step_143 (tgt := 147) (by decide) ?_
  refine go_istore dR_step_147 (Nat.le_of_ble_eq_true rfl) ?_
  refine go_aload_n dR_step_149 rfl rfl ?_
  refine go_cV (k' := (0, 0)) dR_step_150 _ csR_234 (hS.s sh_163) rfl imR_pop seR_pop rfl (okR_pop (d := 0) w G1 p (xSet s (uPop (xC s))) hN h12 (show 1 ≤ uD (xC s) - 1 by omega) hS X1) (by omega) (by decide) (Nat.le_of_ble_eq_true rfl) (fun r G1 hr hn => ?_)
  obtain ⟨rfl, X2, o2, -⟩ := hr
  have X2 : xR p G1 (xSet s (uPop (uPop (xC s)))) := X2
  have hS := o2.St hS
  change am_Go w jR_step d (0, 0) 153 _ [.inl (uTop (uPop (xC s)))] _ _
  rw [hu]
  refine go_istore dR_step_153 (Nat.le_of_ble_eq_true rfl) ?_
  refine go_aload_n dR_step_155 rfl rfl ?_
  refine go_iload dR_step_156 rfl ?_
  refine go_iload dR_step_158 rfl ?_
  refine go_iload dR_step_160 rfl ?_
  refine go_cV (k' := (0, 0)) dR_step_162 _ csR_254 (hS.s sh_163) rfl imR_onObject seR_onObject rfl (okR_on16 (d := 1) w (by decide) G1 p (xSet s (uPop (uPop (xC s)))) u (uTop (xC s)) hS X2 h1 h2 (show lM s.1 ≤ 1000 by omega) hN h12) (by omega) (by decide) (Nat.le_of_ble_eq_true rfl) (fun r G1 hr hn => ?_)
  obtain ⟨rfl, X3, o3⟩ := hr
  have hS := o3.St hS
  refine go_return rfl dR_step_165 ?_
  exact ⟨rfl, X3, (o1.tr o2).tr o3⟩
set_option maxRecDepth 100000 in
theorem okR_st16z (w : am_W) {d : Nat} (hd : 6 ≤ d) (G : am_G) (p m : Nat) (s : xT) (Q : Nat → mT) (Z : Nat → fM) (hp : p < 2) (hv : ∀ a, a < 6 → mV (Q a)) (hz : zSol Q Z m) (hb : tB Q Z m s) (hN : 1 ≤ xN s) (hc : tyR Q Z m (lM s.1) (xC s)) (hB : rBd s) (hS : St0 G) (h : xR p G s) (hR : hldR G p Q) (hop : mO (Q (uM (xC s))) (uP (xC s)) = 16) (hu : uTop (uPop (xC s)) = nI 0) (hD : 2 ≤ uD (xC s)) : am_Ok w jR_step d (0, 0) [.inr (some 163)] G (fun r G' => r = none ∧ xR p G' (xAft Q (xNew (xSet s (uPop (uPop (xC s)))) 2)) ∧ oX G G') := by
  refine am_ok_of rfl (Nat.le_of_ble_eq_true rfl) ?_
  show am_Go w jR_step d (0, 0) 0 [some (.inr (some 163)), none, none, none, none, none, none, none, none, none, none, none, none, none] [] G _
  have nn := h.nn
  have dp := h.dp hN
  have d8 := h.d8 hN
  have h12 := hb.2.2.1
  obtain ⟨t1, -, t3, t4, -⟩ := id hc
  have hn6 := (hv _ t1).1
  obtain ⟨n1, n2, n3, n4⟩ := id hB
  refine R_stp w G p s Q hp hN h12 t1 t3 hn6 hS h hR ?_
  rw [hop]
  refine go_iload dR_step_60 rfl ?_
  refine go_bipush (nI 7) (by decide) dR_step_62 ?_
  refine go_icmp_ltN (by decide) (by decide) dR_step_64 (tgt := 97) (by decide) (fun c1 => absurd c1 (by decide)) (fun c1 => ?_)
  refine go_iload dR_step_67 rfl ?_
  refine go_bipush (nI 10) (by decide) dR_step_69 ?_
  refine go_icmp_gtN (by decide) (by decide) dR_step_71 (tgt := 97) (by decide) (fun c1 => ?_) (fun c1 => absurd c1 (by decide))
  refine go_iload dR_step_97 rfl ?_
  refine go_bipush (nI 15) (by decide) dR_step_99 ?_
  refine go_icmp_eqN (by decide) (by decide) dR_step_101 (tgt := 132) (by decide) (fun c1 => absurd c1 (by decide)) (fun c1 => ?_)
  refine go_iload dR_step_104 rfl ?_
  refine go_bipush (nI 16) (by decide) dR_step_106 ?_
  refine go_icmp_eqN (by decide) (by decide) dR_step_108 (tgt := 132) (by decide) (fun c1 => ?_) (fun c1 => absurd c1 (by decide))
  refine go_iload dR_step_132 rfl ?_
  refine go_bipush (nI 16) (by decide) dR_step_134 ?_
  refine go_icmp_neN (by decide) (by decide) dR_step_136 (tgt := 146) (by decide) (fun c1 => absurd c1 (by decide)) (fun c1 => ?_)
  refine go_aload_n dR_step_139 rfl rfl ?_
  refine go_cV (k' := (0, 0)) dR_step_140 _ csR_234 (hS.s sh_163) rfl imR_pop seR_pop rfl (okR_pop (d := 0) w G p (s) hN h12 (show 1 ≤ uD (xC s) by omega) hS h) (by omega) (by decide) (Nat.le_of_ble_eq_true rfl) (fun r G1 hr hn => ?_)
  obtain ⟨rfl, X1, o1, -⟩ := hr
  have X1 : xR p G1 (xSet s (uPop (xC s))) := X1
  have hS := o1.St hS
  refine go_goto dR_step_143 (tgt := 147) (by decide) ?_
  refine go_istore dR_step_147 (Nat.le_of_ble_eq_true rfl) ?_
  refine go_aload_n dR_step_149 rfl rfl ?_
  refine go_cV (k' := (0, 0)) dR_step_150 _ csR_234 (hS.s sh_163) rfl imR_pop seR_pop rfl (okR_pop (d := 0) w G1 p (xSet s (uPop (xC s))) hN h12 (show 1 ≤ uD (xC s) - 1 by omega) hS X1) (by omega) (by decide) (Nat.le_of_ble_eq_true rfl) (fun r G1 hr hn => ?_)
  obtain ⟨rfl, X2, o2, -⟩ := hr
  have X2 : xR p G1 (xSet s (uPop (uPop (xC s)))) := X2
  have hS := o2.St hS
  change am_Go w jR_step d (0, 0) 153 _ [.inl (uTop (uPop (xC s)))] _ _
  rw [hu]
  refine go_istore dR_step_153 (Nat.le_of_ble_eq_true rfl) ?_
  refine go_aload_n dR_step_155 rfl rfl ?_
  refine go_iload dR_step_156 rfl ?_
  refine go_iload dR_step_158 rfl ?_
  refine go_iload dR_step_160 rfl ?_
  refine go_cV (k' := (0, 0)) dR_step_162 _ csR_254 (hS.s sh_163) rfl imR_onObject seR_onObject rfl (okR_on0 (d := 5) w (by decide) G1 p (xSet s (uPop (uPop (xC s)))) (nI 16) (uTop (xC s)) hS X2 m Q Z hp hv hb (hc.md rfl rfl rfl rfl) hB (hR.x (o1.tr o2))) (by omega) (by decide) (Nat.le_of_ble_eq_true rfl) (fun r G1 hr hn => ?_)
  obtain ⟨rfl, X3, o3⟩ := hr
  have hS := o3.St hS
  refine go_return rfl dR_step_165 ?_
  exact ⟨rfl, X3, (o1.tr o2).tr o3⟩
set_option maxRecDepth 100000 in
theorem okR_st21 (w : am_W) {d : Nat} (hd : 6 ≤ d) (G : am_G) (p m : Nat) (s : xT) (Q : Nat → mT) (Z : Nat → fM) (hp : p < 2) (hv : ∀ a, a < 6 → mV (Q a)) (hz : zSol Q Z m) (hb : tB Q Z m s) (hN : 1 ≤ xN s) (hc : tyR Q Z m (lM s.1) (xC s)) (hB : rBd s) (hS : St0 G) (h : xR p G s) (hR : hldR G p Q) (hop : mO (Q (uM (xC s))) (uP (xC s)) = 21) (a : Nat) (hA : mA (Q (uM (xC s))) (uP (xC s)) = nI a) (ha : a < 6) (hD : mG (Q a) ≤ uD (xC s)) (hlt : xN s < 12) : am_Ok w jR_step d (0, 0) [.inr (some 163)] G (fun r G' => r = none ∧ xR p G' (xCall Q s a) ∧ oX G G') := by
  refine am_ok_of rfl (Nat.le_of_ble_eq_true rfl) ?_
  show am_Go w jR_step d (0, 0) 0 [some (.inr (some 163)), none, none, none, none, none, none, none, none, none, none, none, none, none] [] G _
  have nn := h.nn
  have dp := h.dp hN
  have d8 := h.d8 hN
  have h12 := hb.2.2.1
  obtain ⟨t1, -, t3, t4, -⟩ := id hc
  have hn6 := (hv _ t1).1
  obtain ⟨n1, n2, n3, n4⟩ := id hB
  refine R_stp w G p s Q hp hN h12 t1 t3 hn6 hS h hR ?_
  rw [hop]
  rw [hA]
  refine go_iload dR_step_60 rfl ?_
  refine go_bipush (nI 7) (by decide) dR_step_62 ?_
  refine go_icmp_ltN (by decide) (by decide) dR_step_64 (tgt := 97) (by decide) (fun c1 => absurd c1 (by decide)) (fun c1 => ?_)
  refine go_iload dR_step_67 rfl ?_
  refine go_bipush (nI 10) (by decide) dR_step_69 ?_
  refine go_icmp_gtN (by decide) (by decide) dR_step_71 (tgt := 97) (by decide) (fun c1 => ?_) (fun c1 => absurd c1 (by decide))
  refine go_iload dR_step_97 rfl ?_
  refine go_bipush (nI 15) (by decide) dR_step_99 ?_
  refine go_icmp_eqN (by decide) (by decide) dR_step_101 (tgt := 132) (by decide) (fun c1 => absurd c1 (by decide)) (fun c1 => ?_)
  refine go_iload dR_step_104 rfl ?_
  refine go_bipush (nI 16) (by decide) dR_step_106 ?_
  refine go_icmp_eqN (by decide) (by decide) dR_step_108 (tgt := 132) (by decide) (fun c1 => absurd c1 (by decide)) (fun c1 => ?_)
  refine go_iload dR_step_111 rfl ?_
  refine go_bipush (nI 18) (by decide) dR_step_113 ?_
  refine go_icmp_ltN (by decide) (by decide) dR_step_115 (tgt := 125) (by decide) (fun c1 => absurd c1 (by decide)) (fun c1 => ?_)
  refine go_iload dR_step_118 rfl ?_
  refine go_bipush (nI 20) (by decide) dR_step_120 ?_
  refine go_icmp_leN (by decide) (by decide) dR_step_122 (tgt := 132) (by decide) (fun c1 => absurd c1 (by decide)) (fun c1 => ?_)
  refine go_iload dR_step_125 rfl ?_
  refine go_bipush (nI 26) (by decide) dR_step_127 ?_
  refine go_icmp_neN (by decide) (by decide) dR_step_129 (tgt := 166) (by decide) (fun c1 => ?_) (fun c1 => absurd c1 (by decide))
  refine go_iload dR_step_166 rfl ?_
  refine go_bipush (nI 21) (by decide) dR_step_168 ?_
  refine go_icmp_neN (by decide) (by decide) dR_step_170 (tgt := 188) (by decide) (fun c1 => absurd c1 (by decide)) (fun c1 => ?_)
  refine go_aload_n dR_step_173 rfl rfl ?_
  refine go_iload_n dR_step_174 rfl rfl ?_
  refine go_bipush (nI 6) (by decide) dR_step_175 ?_
  refine go_idiv (by decide) dR_step_177 ?_
  rw [q_div _ (by omega)]
  refine go_bipush (nI 6) (by decide) dR_step_178 ?_
  first | refine go_imulN dR_step_180 ?_ | refine go_imul dR_step_180 ?_
  refine go_iload dR_step_181 rfl ?_
  refine go_iaddN dR_step_183 ?_
  rw [show (6 * p + uM (xC s)) / 6 * 6 + a = 6 * p + a by omega]
  refine go_cV (k' := (0, 0)) dR_step_184 _ csR_257 (hS.s sh_163) rfl imR_call seR_call rfl (okR_callB (d := 5) w (by decide) G p m a s Q Z hp ha hv hb hN (hc.md rfl rfl rfl rfl) hD hB hS h hR hlt) (by omega) (by decide) (Nat.le_of_ble_eq_true rfl) (fun r G1 hr hn => ?_)
  obtain ⟨rfl, X1, o1⟩ := hr
  have hS := o1.St hS
  refine go_return rfl dR_step_187 ?_
  exact ⟨rfl, X1, o1⟩
set_option maxRecDepth 100000 in
theorem okR_st21z (w : am_W) {d : Nat} (hd : 6 ≤ d) (G : am_G) (p m : Nat) (s : xT) (Q : Nat → mT) (Z : Nat → fM) (hp : p < 2) (hv : ∀ a, a < 6 → mV (Q a)) (hz : zSol Q Z m) (hb : tB Q Z m s) (hN : 1 ≤ xN s) (hc : tyR Q Z m (lM s.1) (xC s)) (hB : rBd s) (hS : St0 G) (h : xR p G s) (hR : hldR G p Q) (hop : mO (Q (uM (xC s))) (uP (xC s)) = 21) (a : Nat) (hA : mA (Q (uM (xC s))) (uP (xC s)) = nI a) (ha : a < 6) (hD : mG (Q a) ≤ uD (xC s)) (hlt : xN s = 12) : am_Ok w jR_step d (0, 0) [.inr (some 163)] G (fun r G' => r = none ∧ xR p G' (xAft Q (xNew s 4)) ∧ oX G G') := by
  refine am_ok_of rfl (Nat.le_of_ble_eq_true rfl) ?_
  show am_Go w jR_step d (0, 0) 0 [some (.inr (some 163)), none, none, none, none, none, none, none, none, none, none, none, none, none] [] G _
  have nn := h.nn
  have dp := h.dp hN
  have d8 := h.d8 hN
  have h12 := hb.2.2.1
  obtain ⟨t1, -, t3, t4, -⟩ := id hc
  have hn6 := (hv _ t1).1
  obtain ⟨n1, n2, n3, n4⟩ := id hB
  refine R_stp w G p s Q hp hN h12 t1 t3 hn6 hS h hR ?_
  rw [hop]
  rw [hA]
  refine go_iload dR_step_60 rfl ?_
  refine go_bipush (nI 7) (by decide) dR_step_62 ?_
  refine go_icmp_ltN (by decide) (by decide) dR_step_64 (tgt := 97) (by decide) (fun c1 => absurd c1 (by decide)) (fun c1 => ?_)
  refine go_iload dR_step_67 rfl ?_
  refine go_bipush (nI 10) (by decide) dR_step_69 ?_
  refine go_icmp_gtN (by decide) (by decide) dR_step_71 (tgt := 97) (by decide) (fun c1 => ?_) (fun c1 => absurd c1 (by decide))
  refine go_iload dR_step_97 rfl ?_
  refine go_bipush (nI 15) (by decide) dR_step_99 ?_
  refine go_icmp_eqN (by decide) (by decide) dR_step_101 (tgt := 132) (by decide) (fun c1 => absurd c1 (by decide)) (fun c1 => ?_)
  refine go_iload dR_step_104 rfl ?_
  refine go_bipush (nI 16) (by decide) dR_step_106 ?_
  refine go_icmp_eqN (by decide) (by decide) dR_step_108 (tgt := 132) (by decide) (fun c1 => absurd c1 (by decide)) (fun c1 => ?_)
  refine go_iload dR_step_111 rfl ?_
  refine go_bipush (nI 18) (by decide) dR_step_113 ?_
  refine go_icmp_ltN (by decide) (by decide) dR_step_115 (tgt := 125) (by decide) (fun c1 => absurd c1 (by decide)) (fun c1 => ?_)
  refine go_iload dR_step_118 rfl ?_
  refine go_bipush (nI 20) (by decide) dR_step_120 ?_
  refine go_icmp_leN (by decide) (by decide) dR_step_122 (tgt := 132) (by decide) (fun c1 => absurd c1 (by decide)) (fun c1 => ?_)
  refine go_iload dR_step_125 rfl ?_
  refine go_bipush (nI 26) (by decide) dR_step_127 ?_
  refine go_icmp_neN (by decide) (by decide) dR_step_129 (tgt := 166) (by decide) (fun c1 => ?_) (fun c1 => absurd c1 (by decide))
  refine go_iload dR_step_166 rfl ?_
  refine go_bipush (nI 21) (by decide) dR_step_168 ?_
  refine go_icmp_neN (by decide) (by decide) dR_step_170 (tgt := 188) (by decide) (fun c1 => absurd c1 (by decide)) (fun c1 => ?_)
  refine go_aload_n dR_step_173 rfl rfl ?_
  refine go_iload_n dR_step_174 rfl rfl ?_
  refine go_bipush (nI 6) (by decide) dR_step_175 ?_
  refine go_idiv (by decide) dR_step_177 ?_
  rw [q_div _ (by omega)]
  refine go_bipush (nI 6) (by decide) dR_step_178 ?_
  first | refine go_imulN dR_step_180 ?_ | refine go_imul dR_step_180 ?_
  refine go_iload dR_step_181 rfl ?_
  refine go_iaddN dR_step_183 ?_
  rw [show (6 * p + uM (xC s)) / 6 * 6 + a = 6 * p + a by omega]
  refine go_cV (k' := (0, 0)) dR_step_184 _ csR_257 (hS.s sh_163) rfl imR_call seR_call rfl (okR_callA (d := 5) w (by decide) G p m a s Q Z hp ha hv hb hN (hc.md rfl rfl rfl rfl) hD hB hS h hR hlt) (by omega) (by decide) (Nat.le_of_ble_eq_true rfl) (fun r G1 hr hn => ?_)
  obtain ⟨rfl, X1, o1⟩ := hr
  have hS := o1.St hS
  refine go_return rfl dR_step_187 ?_
  exact ⟨rfl, X1, o1⟩
set_option maxRecDepth 100000 in
theorem okR_st22 (w : am_W) {d : Nat} (hd : 5 ≤ d) (G : am_G) (p m : Nat) (s : xT) (Q : Nat → mT) (Z : Nat → fM) (hp : p < 2) (hv : ∀ a, a < 6 → mV (Q a)) (hz : zSol Q Z m) (hb : tB Q Z m s) (hN : 1 ≤ xN s) (hc : tyR Q Z m (lM s.1) (xC s)) (hB : rBd s) (hS : St0 G) (h : xR p G s) (hR : hldR G p Q) (hop : mO (Q (uM (xC s))) (uP (xC s)) = 22) (hD : 1 ≤ uD (xC s)) : am_Ok w jR_step d (0, 0) [.inr (some 163)] G (fun r G' => r = none ∧ xR p G' (xAft Q (xBack (xFin Q (xSet s (uPop (xC s))) 0) (uTop (xC s)))) ∧ oX G G') := by
  refine am_ok_of rfl (Nat.le_of_ble_eq_true rfl) ?_
  show am_Go w jR_step d (0, 0) 0 [some (.inr (some 163)), none, none, none, none, none, none, none, none, none, none, none, none, none] [] G _
  have nn := h.nn
  have dp := h.dp hN
  have d8 := h.d8 hN
  have h12 := hb.2.2.1
  obtain ⟨t1, -, t3, t4, -⟩ := id hc
  have hn6 := (hv _ t1).1
  obtain ⟨n1, n2, n3, n4⟩ := id hB
  refine R_stp w G p s Q hp hN h12 t1 t3 hn6 hS h hR ?_
  rw [hop]
  refine go_iload dR_step_60 rfl ?_
  refine go_bipush (nI 7) (by decide) dR_step_62 ?_
  refine go_icmp_ltN (by decide) (by decide) dR_step_64 (tgt := 97) (by decide) (fun c1 => absurd c1 (by decide)) (fun c1 => ?_)
  refine go_iload dR_step_67 rfl ?_
  refine go_bipush (nI 10) (by decide) dR_step_69 ?_
  refine go_icmp_gtN (by decide) (by decide) dR_step_71 (tgt := 97) (by decide) (fun c1 => ?_) (fun c1 => absurd c1 (by decide))
  refine go_iload dR_step_97 rfl ?_
  refine go_bipush (nI 15) (by decide) dR_step_99 ?_
  refine go_icmp_eqN (by decide) (by decide) dR_step_101 (tgt := 132) (by decide) (fun c1 => absurd c1 (by decide)) (fun c1 => ?_)
  refine go_iload dR_step_104 rfl ?_
  refine go_bipush (nI 16) (by decide) dR_step_106 ?_
  refine go_icmp_eqN (by decide) (by decide) dR_step_108 (tgt := 132) (by decide) (fun c1 => absurd c1 (by decide)) (fun c1 => ?_)
  refine go_iload dR_step_111 rfl ?_
  refine go_bipush (nI 18) (by decide) dR_step_113 ?_
  refine go_icmp_ltN (by decide) (by decide) dR_step_115 (tgt := 125) (by decide) (fun c1 => absurd c1 (by decide)) (fun c1 => ?_)
  refine go_iload dR_step_118 rfl ?_
  refine go_bipush (nI 20) (by decide) dR_step_120 ?_
  refine go_icmp_leN (by decide) (by decide) dR_step_122 (tgt := 132) (by decide) (fun c1 => absurd c1 (by decide)) (fun c1 => ?_)
  refine go_iload dR_step_125 rfl ?_
  refine go_bipush (nI 26) (by decide) dR_step_127 ?_
  refine go_icmp_neN (by decide) (by decide) dR_step_129 (tgt := 166) (by decide) (fun c1 => ?_) (fun c1 => absurd c1 (by decide))
  refine go_iload dR_step_166 rfl ?_
  refine go_bipush (nI 21) (by decide) dR_step_168 ?_
  refine go_icmp_neN (by decide) (by decide) dR_step_170 (tgt := 188) (by decide) (fun c1 => ?_) (fun c1 => absurd c1 (by decide))
  refine go_iload dR_step_188 rfl ?_
  refine go_bipush (nI 22) (by decide) dR_step_190 ?_
  refine go_icmp_neN (by decide) (by decide) dR_step_192 (tgt := 208) (by decide) (fun c1 => absurd c1 (by decide)) (fun c1 => ?_)
  refine go_aload_n dR_step_195 rfl rfl ?_
  refine go_cV (k' := (0, 0)) dR_step_196 _ csR_234 (hS.s sh_163) rfl imR_pop seR_pop rfl (okR_pop (d := 0) w G p (s) hN h12 (hD) hS h) (by omega) (by decide) (Nat.le_of_ble_eq_true rfl) (fun r G1 hr hn => ?_)
  obtain ⟨rfl, X1, o1, -⟩ := hr
  have X1 : xR p G1 (xSet s (uPop (xC s))) := X1
  have hS := o1.St hS
  refine go_istore dR_step_199 (Nat.le_of_ble_eq_true rfl) ?_
  refine go_aload_n dR_step_201 rfl rfl ?_
  refine go_iload dR_step_202 rfl ?_
  refine go_cV (k' := (0, 0)) dR_step_204 _ csR_260 (hS.s sh_163) rfl imR_back seR_back rfl (okR_back (d := 4) w (by decide) G1 p m (xSet s (uPop (xC s))) (uTop (xC s)) Q Z hp hv hz hb hN (hc.md rfl rfl rfl rfl) hB hS X1 (hR.x o1)) (by omega) (by decide) (Nat.le_of_ble_eq_true rfl) (fun r G1 hr hn => ?_)
  obtain ⟨rfl, X2, o2⟩ := hr
  have hS := o2.St hS
  refine go_return rfl dR_step_207 ?_
  exact ⟨rfl, X2, o1.tr o2⟩
