section Cg
variable {p h t : Nat} {G : am_G} {s : xT} {f : uT} {a b : Nat}
theorem cX.gt {c : Prop} [Decidable c] (q : cX p h G (xSet s f) t true) (hN : 1 ≤ xN s) (hc : c) : cX p h (am_wi G (114 + 3 * (xN s - 1)) 4 (nI a)) (xSet s (uGo f (if c then a else b))) t false := by
  rw [if_pos hc]
  exact cX.nxt q hN
theorem cX.gf {c : Prop} [Decidable c] (q : cX p h G (xSet s f) t true) (hN : 1 ≤ xN s) (hc : ¬ c) : cX p h G (xSet s (uGo f (if c then a else uP f + 1))) t false := by
  rw [if_neg hc]
  exact cX.ms q hN
theorem cX.sh {i : Nat} (q : cX p h G s t true) (hi : i < xH s) : cX p h (am_ro (am_wi G 109 7 (nI (xH s - 1))) 113 (va_cpy ((am_wi G 109 7 (nI (xH s - 1))).2.1 113) ((am_wi G 109 7 (nI (xH s - 1))).2.1 113) (i + 1) i (xH s - 1 - i))) (xHeld s (xH s - 1) (fun k => if k < i then xE s k else xE s (k + 1))) t true := by
  refine cX.lks (G := am_wi G 109 7 (nI (xH s - 1))) (s := xHeld s (xH s - 1) (xE s)) q.less (fun r hr => ro_I hr) rfl (fun k hk => ?_)
  have hk : k < xH s - 1 := hk
  rw [ro_Is]
  unfold va_cpy
  by_cases e : k < i
  · rw [if_neg (by omega), if_pos e, wi_I (by decide)]; exact q.lk (by omega)
  · rw [if_pos (by omega), if_neg e, wi_I (by decide), show i + 1 + (k - i) = k + 1 by omega]; exact q.lk (by omega)
end Cg

set_option maxRecDepth 100000 in
theorem okA_popX (w : am_W) {d : Nat} (G : am_G) (p h t : Nat) (b : Bool) (s : xT) (hN : 1 ≤ xN s) (hS : St0 G) (X : cX p h G s t b) (hD : 1 ≤ uD (xC s)) : am_Ok w jA_pop d (0, 0) [.inr (some (114 + 3 * (xN s - 1)))] G (fun r G' => r = some (.inl (uTop (xC s))) ∧ cX p h G' (xSet s (uPop (xC s))) t b ∧ oM h G G') := by
  refine am_ok_of rfl (Nat.le_of_ble_eq_true rfl) ?_
  show am_Go w jA_pop d (0, 0) 0 [some (.inr (some (114 + 3 * (xN s - 1))))] [] G _
  have h12 := X.n12
  obtain ⟨f0, f1, f2, f3, f4, f5⟩ := hS.fq (i := xN s - 1) (by omega)
  obtain ⟨⟨cnu, cbs, cdp, cd8⟩, cvl, clc⟩ := X.cf hN
  have vl := cvl (uD (xC s) - 1) (by omega)
  refine go_aload_n dA_pop_0 rfl rfl ?_
  refine go_getV dA_pop_1 flA_31 rfl (by assumption) (by first | assumption | (simp (disch := omega) only [wi_I, ro_I, wi_In, wi_Is]; done) | (simp (disch := omega) only [wi_I, ro_I, wi_In, wi_Is]; first | assumption | rfl) | rfl) ?_
  refine go_if_neN (by omega) dA_pop_4 (tgt := 9) (by decide) (fun c1 => ?_) (fun c1 => absurd c1 (by omega))
  refine go_aload_n dA_pop_9 rfl rfl ?_
  refine go_dup dA_pop_10 ?_
  refine go_getV dA_pop_11 flA_31 rfl (by assumption) (by first | assumption | (simp (disch := omega) only [wi_I, ro_I, wi_In, wi_Is]; done) | (simp (disch := omega) only [wi_I, ro_I, wi_In, wi_Is]; first | assumption | rfl) | rfl) ?_
  refine go_iconst (nI 1) (by decide) dA_pop_14 ?_
  first | refine go_isubN (by omega) dA_pop_15 ?_ | refine go_isub dA_pop_15 ?_
  refine go_putI dA_pop_16 fpA_31 rfl (by assumption) ?_
  refine go_aload_n dA_pop_19 rfl rfl ?_
  refine go_getO dA_pop_20 flA_15 rfl (by assumption) (by assumption) ?_
  refine go_aload_n dA_pop_23 rfl rfl ?_
  refine go_getV dA_pop_24 flA_31 rfl (by assumption) (by first | assumption | (simp (disch := omega) only [wi_I, ro_I, wi_In, wi_Is]; done) | (simp (disch := omega) only [wi_I, ro_I, wi_In, wi_Is]; first | assumption | rfl) | rfl) ?_
  refine go_ialV f2 (by omega) (by decide) (wi_V (by omega) vl) dA_pop_27 ?_
  refine go_ireturn rfl dA_pop_28 ?_
  exact ⟨rfl, X.pop hN, oM.w ⟨by omega, by omega⟩⟩
set_option maxRecDepth 100000 in
theorem okA_pushX (w : am_W) {d : Nat} (G : am_G) (p h t : Nat) (b : Bool) (s : xT) (hN : 1 ≤ xN s) (v : Int32) (hS : St0 G) (X : cX p h G s t b) (h8 : uD (xC s) < 8) : am_Ok w jA_push d (0, 0) [.inr (some (114 + 3 * (xN s - 1))), .inl v] G (fun r G' => r = none ∧ cX p h G' (xSet s (uPush (xC s) v)) t b ∧ oM h G G') := by
  refine am_ok_of rfl (Nat.le_of_ble_eq_true rfl) ?_
  show am_Go w jA_push d (0, 0) 0 [some (.inr (some (114 + 3 * (xN s - 1)))), some (.inl v)] [] G _
  have h12 := X.n12
  obtain ⟨f0, f1, f2, f3, f4, f5⟩ := hS.fq (i := xN s - 1) (by omega)
  obtain ⟨⟨cnu, cbs, cdp, cd8⟩, cvl, clc⟩ := X.cf hN
  refine go_aload_n dA_push_0 rfl rfl ?_
  refine go_getV dA_push_1 flA_31 rfl (by assumption) (by first | assumption | (simp (disch := omega) only [wi_I, ro_I, wi_In, wi_Is]; done) | (simp (disch := omega) only [wi_I, ro_I, wi_In, wi_Is]; first | assumption | rfl) | rfl) ?_
  refine go_bipush (nI 8) (by decide) dA_push_4 ?_
  refine go_icmp_geN (by omega) (by decide) dA_push_6 (tgt := 29) (by decide) (fun c1 => absurd c1 (by omega)) (fun c1 => ?_)
  refine go_aload_n dA_push_9 rfl rfl ?_
  refine go_getO dA_push_10 flA_15 rfl (by assumption) (by assumption) ?_
  refine go_aload_n dA_push_13 rfl rfl ?_
  refine go_getV dA_push_14 flA_31 rfl (by assumption) (by first | assumption | (simp (disch := omega) only [wi_I, ro_I, wi_In, wi_Is]; done) | (simp (disch := omega) only [wi_I, ro_I, wi_In, wi_Is]; first | assumption | rfl) | rfl) ?_
  refine go_iload_n dA_push_17 rfl rfl ?_
  refine go_iastoreN (by assumption) (by omega) (by decide) dA_push_18 ?_
  refine go_aload_n dA_push_19 rfl rfl ?_
  refine go_dup dA_push_20 ?_
  refine go_getV dA_push_21 flA_31 rfl (by assumption) (by first | assumption | (simp (disch := omega) only [wi_I, ro_I, wi_In, wi_Is]; done) | (simp (disch := omega) only [wi_I, ro_I, wi_In, wi_Is]; first | assumption | rfl) | rfl) ?_
  refine go_iconst (nI 1) (by decide) dA_push_24 ?_
  first | refine go_iaddN dA_push_25 ?_ | refine go_iadd dA_push_25 ?_
  refine go_putI dA_push_26 fpA_31 rfl (by assumption) ?_
  refine go_return rfl dA_push_29 ?_
  exact ⟨rfl, X.push hN h8, (oM.w ⟨by omega, by omega⟩).tr (oM.w ⟨by omega, by omega⟩)⟩
set_option maxRecDepth 100000 in
theorem okM_ul3 (w : am_W) {d : Nat} (hd : 1 ≤ d) (G : am_G) (p h : Nat) (s : xT) (hN : 1 ≤ xN s) (hS : St0 G) (X : cX p h G s 0 true) (a : Nat) (y : Int32) (ha : a < 8) (hD : 1 ≤ uD (xC s)) : am_Ok w jM_useLocal d (0, 0) [.inr (some 109), .inr (some (114 + 3 * (xN s - 1))), .inl (nI 3), .inl (nI a), .inl y] G (fun r G' => r = none ∧ cX p h G' (xSet s (uGo (uSt (uPop (xC s)) a (uTop (xC s))) (uP (xC s) + 1))) 0 false ∧ oM h G G') := by
  refine am_ok_of rfl (Nat.le_of_ble_eq_true rfl) ?_
  show am_Go w jM_useLocal d (0, 0) 0 [some (.inr (some 109)), some (.inr (some (114 + 3 * (xN s - 1)))), some (.inl (nI 3)), some (.inl (nI a)), some (.inl y)] [] G _
  have h12 := X.n12
  have hh := X.hh
  obtain ⟨k9, k10, k11, k12, k13, kh, kh1, g0, g1, g2, g3, gh⟩ := hS.cq hh
  obtain ⟨f0, f1, f2, f3, f4, f5⟩ := hS.fq (i := xN s - 1) (by omega)
  have lg := X.lg
  obtain ⟨⟨cnu, cbs, cdp, cd8⟩, cvl, clc⟩ := X.cf hN
  refine go_iload_n dM_useLocal_0 rfl rfl ?_
  refine go_iconst (nI 3) (by decide) dM_useLocal_1 ?_
  refine go_icmp_neN (by decide) (by decide) dM_useLocal_2 (tgt := 18) (by decide) (fun c1 => absurd c1 (by decide)) (fun c1 => ?_)
  refine go_aload_n dM_useLocal_5 rfl rfl ?_
  refine go_getO dM_useLocal_6 flM_55 rfl (by assumption) (by assumption) ?_
  refine go_iload_n dM_useLocal_9 rfl rfl ?_
  refine go_aload_n dM_useLocal_10 rfl rfl ?_
  refine go_cV (k' := (0, 0)) dM_useLocal_11 _ csM_136 (by assumption) rfl imA_pop seA_pop rfl (okA_popX (d := 0) w G p h 0 true (s) hN hS X (hD)) (by omega) (by decide) (Nat.le_of_ble_eq_true rfl) (fun r G1 hr hn => ?_)
  obtain ⟨rfl, X1, o1⟩ := hr
  have X1 : cX p h G1 (xSet s (uPop (xC s))) 0 true := X1
  have hS := o1.St hS
  obtain ⟨f0, f1, f2, f3, f4, f5⟩ := hS.fq (i := xN s - 1) (by omega)
  have k9 := hS.s sh_109
  refine go_iastoreN (by assumption) (by omega) (by decide) dM_useLocal_14 ?_
  refine go_goto dM_useLocal_15 (tgt := 48) (by decide) ?_
  refine go_return rfl dM_useLocal_48 ?_
  exact ⟨rfl, cX.ms (X1.st hN) hN, o1.tr (oM.w ⟨by omega, by omega⟩)⟩
set_option maxRecDepth 100000 in
theorem okM_ul27 (w : am_W) {d : Nat} (hd : 1 ≤ d) (G : am_G) (p h : Nat) (s : xT) (hN : 1 ≤ xN s) (hS : St0 G) (X : cX p h G s 0 true) (a : Nat) (y : Int32) (ha : a < 8) (hl : uL (xC s) a = some (uGet (xC s) a)) : am_Ok w jM_useLocal d (0, 0) [.inr (some 109), .inr (some (114 + 3 * (xN s - 1))), .inl (nI 27), .inl (nI a), .inl y] G (fun r G' => r = none ∧ cX p h G' (xSet s (uGo (uSt (xC s) a (uGet (xC s) a + y)) (uP (xC s) + 1))) 0 false ∧ oM h G G') := by
  refine am_ok_of rfl (Nat.le_of_ble_eq_true rfl) ?_
  show am_Go w jM_useLocal d (0, 0) 0 [some (.inr (some 109)), some (.inr (some (114 + 3 * (xN s - 1)))), some (.inl (nI 27)), some (.inl (nI a)), some (.inl y)] [] G _
  have h12 := X.n12
  have hh := X.hh
  obtain ⟨k9, k10, k11, k12, k13, kh, kh1, g0, g1, g2, g3, gh⟩ := hS.cq hh
  obtain ⟨f0, f1, f2, f3, f4, f5⟩ := hS.fq (i := xN s - 1) (by omega)
  have lg := X.lg
  obtain ⟨⟨cnu, cbs, cdp, cd8⟩, cvl, clc⟩ := X.cf hN
  refine go_iload_n dM_useLocal_0 rfl rfl ?_
  refine go_iconst (nI 3) (by decide) dM_useLocal_1 ?_
  refine go_icmp_neN (by decide) (by decide) dM_useLocal_2 (tgt := 18) (by decide) (fun c1 => ?_) (fun c1 => absurd c1 (by decide))
  refine go_iload_n dM_useLocal_18 rfl rfl ?_
  refine go_bipush (nI 27) (by decide) dM_useLocal_19 ?_
  refine go_icmp_neN (by decide) (by decide) dM_useLocal_21 (tgt := 38) (by decide) (fun c1 => absurd c1 (by decide)) (fun c1 => ?_)
  refine go_aload_n dM_useLocal_24 rfl rfl ?_
  refine go_getO dM_useLocal_25 flM_55 rfl (by assumption) (by assumption) ?_
  refine go_iload_n dM_useLocal_28 rfl rfl ?_
  refine go_dup2 dM_useLocal_29 ?_
  refine go_ialV f1 (by omega) (by decide) (clc a ha _ hl) dM_useLocal_30 ?_
  refine go_iload dM_useLocal_31 rfl ?_
  refine (go_iadd dM_useLocal_33 ?_)
  refine go_iastoreN (by assumption) (by omega) (by decide) dM_useLocal_34 ?_
  refine go_goto dM_useLocal_35 (tgt := 48) (by decide) ?_
  refine go_return rfl dM_useLocal_48 ?_
  exact ⟨rfl, cX.ms (X.st hN) hN, (oM.w ⟨by omega, by omega⟩)⟩
set_option maxRecDepth 100000 in
theorem okM_ul24 (w : am_W) {d : Nat} (hd : 1 ≤ d) (G : am_G) (p h : Nat) (s : xT) (hN : 1 ≤ xN s) (hS : St0 G) (X : cX p h G s 0 true) (a : Nat) (y : Int32) (ha : a < 8) (j : Nat) (hl : uL (xC s) a = some (uGet (xC s) a)) (hj : uGet (xC s) a = nI j) : am_Ok w jM_useLocal d (0, 0) [.inr (some 109), .inr (some (114 + 3 * (xN s - 1))), .inl (nI 24), .inl (nI a), .inl y] G (fun r G' => r = none ∧ cX p h G' (xSet s (uGo (xC s) j)) 0 false ∧ oM h G G') := by
  refine am_ok_of rfl (Nat.le_of_ble_eq_true rfl) ?_
  show am_Go w jM_useLocal d (0, 0) 0 [some (.inr (some 109)), some (.inr (some (114 + 3 * (xN s - 1)))), some (.inl (nI 24)), some (.inl (nI a)), some (.inl y)] [] G _
  have h12 := X.n12
  have hh := X.hh
  obtain ⟨k9, k10, k11, k12, k13, kh, kh1, g0, g1, g2, g3, gh⟩ := hS.cq hh
  obtain ⟨f0, f1, f2, f3, f4, f5⟩ := hS.fq (i := xN s - 1) (by omega)
  have lg := X.lg
  obtain ⟨⟨cnu, cbs, cdp, cd8⟩, cvl, clc⟩ := X.cf hN
  refine go_iload_n dM_useLocal_0 rfl rfl ?_
  refine go_iconst (nI 3) (by decide) dM_useLocal_1 ?_
  refine go_icmp_neN (by decide) (by decide) dM_useLocal_2 (tgt := 18) (by decide) (fun c1 => ?_) (fun c1 => absurd c1 (by decide))
  refine go_iload_n dM_useLocal_18 rfl rfl ?_
  refine go_bipush (nI 27) (by decide) dM_useLocal_19 ?_
  refine go_icmp_neN (by decide) (by decide) dM_useLocal_21 (tgt := 38) (by decide) (fun c1 => ?_) (fun c1 => absurd c1 (by decide))
  refine go_aload_n dM_useLocal_38 rfl rfl ?_
  refine go_aload_n dM_useLocal_39 rfl rfl ?_
  refine go_getO dM_useLocal_40 flM_55 rfl (by assumption) (by assumption) ?_
  refine go_iload_n dM_useLocal_43 rfl rfl ?_
  refine go_ialV f1 (by omega) (by decide) ((clc a ha _ hl).trans hj) dM_useLocal_44 ?_
  refine go_putI dM_useLocal_45 fpM_102 rfl (by assumption) ?_
  refine go_return rfl dM_useLocal_48 ?_
  exact ⟨rfl, X.nxt hN, (oM.w ⟨by omega, by omega⟩)⟩
set_option maxRecDepth 100000 in
theorem okM_sh4 (w : am_W) {d : Nat} (hd : 1 ≤ d) (G : am_G) (p h : Nat) (s : xT) (hN : 1 ≤ xN s) (hS : St0 G) (X : cX p h G s 0 true) (hD : 1 ≤ uD (xC s)) : am_Ok w jM_shuffle d (0, 0) [.inr (some 109), .inr (some (114 + 3 * (xN s - 1))), .inl (nI 4)] G (fun r G' => r = none ∧ cX p h G' (xSet s (uGo (uPop (xC s)) (uP (xC s) + 1))) 0 false ∧ oM h G G') := by
  refine am_ok_of rfl (Nat.le_of_ble_eq_true rfl) ?_
  show am_Go w jM_shuffle d (0, 0) 0 [some (.inr (some 109)), some (.inr (some (114 + 3 * (xN s - 1)))), some (.inl (nI 4)), none, none] [] G _
  have h12 := X.n12
  have hh := X.hh
  obtain ⟨k9, k10, k11, k12, k13, kh, kh1, g0, g1, g2, g3, gh⟩ := hS.cq hh
  obtain ⟨f0, f1, f2, f3, f4, f5⟩ := hS.fq (i := xN s - 1) (by omega)
  have lg := X.lg
  obtain ⟨⟨cnu, cbs, cdp, cd8⟩, cvl, clc⟩ := X.cf hN
  refine go_aload_n dM_shuffle_0 rfl rfl ?_
  refine go_cV (k' := (0, 0)) dM_shuffle_1 _ csM_136 (by assumption) rfl imA_pop seA_pop rfl (okA_popX (d := 0) w G p h 0 true (s) hN hS X (hD)) (by omega) (by decide) (Nat.le_of_ble_eq_true rfl) (fun r G1 hr hn => ?_)
  obtain ⟨rfl, X1, o1⟩ := hr
  have X1 : cX p h G1 (xSet s (uPop (xC s))) 0 true := X1
  have hS := o1.St hS
  obtain ⟨f0, f1, f2, f3, f4, f5⟩ := hS.fq (i := xN s - 1) (by omega)
  have k9 := hS.s sh_109
  refine go_istore_n dM_shuffle_4 rfl (Nat.le_of_ble_eq_true rfl) ?_
  refine go_iload_n dM_shuffle_5 rfl rfl ?_
  refine go_iconst (nI 5) (by decide) dM_shuffle_6 ?_
  refine go_icmp_neN (by decide) (by decide) dM_shuffle_7 (tgt := 23) (by decide) (fun c1 => ?_) (fun c1 => absurd c1 (by decide))
  refine go_iload_n dM_shuffle_23 rfl rfl ?_
  refine go_bipush (nI 6) (by decide) dM_shuffle_24 ?_
  refine go_icmp_neN (by decide) (by decide) dM_shuffle_26 (tgt := 46) (by decide) (fun c1 => ?_) (fun c1 => absurd c1 (by decide))
  refine go_return rfl dM_shuffle_46 ?_
  exact ⟨rfl, cX.ms X1 hN, o1⟩
set_option maxRecDepth 100000 in
theorem okM_sh5 (w : am_W) {d : Nat} (hd : 1 ≤ d) (G : am_G) (p h : Nat) (s : xT) (hN : 1 ≤ xN s) (hS : St0 G) (X : cX p h G s 0 true) (hD : 1 ≤ uD (xC s)) (h8 : uD (xC s) < 8) : am_Ok w jM_shuffle d (0, 0) [.inr (some 109), .inr (some (114 + 3 * (xN s - 1))), .inl (nI 5)] G (fun r G' => r = none ∧ cX p h G' (xSet s (uGo (uPush (uPush (uPop (xC s)) (uTop (xC s))) (uTop (xC s))) (uP (xC s) + 1))) 0 false ∧ oM h G G') := by
  refine am_ok_of rfl (Nat.le_of_ble_eq_true rfl) ?_
  show am_Go w jM_shuffle d (0, 0) 0 [some (.inr (some 109)), some (.inr (some (114 + 3 * (xN s - 1)))), some (.inl (nI 5)), none, none] [] G _
  have h12 := X.n12
  have hh := X.hh
  obtain ⟨k9, k10, k11, k12, k13, kh, kh1, g0, g1, g2, g3, gh⟩ := hS.cq hh
  obtain ⟨f0, f1, f2, f3, f4, f5⟩ := hS.fq (i := xN s - 1) (by omega)
  have lg := X.lg
  obtain ⟨⟨cnu, cbs, cdp, cd8⟩, cvl, clc⟩ := X.cf hN
  refine go_aload_n dM_shuffle_0 rfl rfl ?_
  refine go_cV (k' := (0, 0)) dM_shuffle_1 _ csM_136 (by assumption) rfl imA_pop seA_pop rfl (okA_popX (d := 0) w G p h 0 true (s) hN hS X (hD)) (by omega) (by decide) (Nat.le_of_ble_eq_true rfl) (fun r G1 hr hn => ?_)
  obtain ⟨rfl, X1, o1⟩ := hr
  have X1 : cX p h G1 (xSet s (uPop (xC s))) 0 true := X1
  have hS := o1.St hS
  obtain ⟨f0, f1, f2, f3, f4, f5⟩ := hS.fq (i := xN s - 1) (by omega)
  have k9 := hS.s sh_109
  refine go_istore_n dM_shuffle_4 rfl (Nat.le_of_ble_eq_true rfl) ?_
  refine go_iload_n dM_shuffle_5 rfl rfl ?_
  refine go_iconst (nI 5) (by decide) dM_shuffle_6 ?_
  refine go_icmp_neN (by decide) (by decide) dM_shuffle_7 (tgt := 23) (by decide) (fun c1 => absurd c1 (by decide)) (fun c1 => ?_)
  refine go_aload_n dM_shuffle_10 rfl rfl ?_
  refine go_iload_n dM_shuffle_11 rfl rfl ?_
  refine go_cV (k' := (0, 0)) dM_shuffle_12 _ csM_117 (by assumption) rfl imA_push seA_push rfl (okA_pushX (d := 0) w G1 p h 0 true (xSet s (uPop (xC s))) hN (uTop (xC s)) hS X1 (show uD (xC s) - 1 < 8 by omega)) (by omega) (by decide) (Nat.le_of_ble_eq_true rfl) (fun r G1 hr hn => ?_)
  obtain ⟨rfl, X2, o2⟩ := hr
  have X2 : cX p h G1 (xSet s (uPush (uPop (xC s)) (uTop (xC s)))) 0 true := X2
  have hS := o2.St hS
  obtain ⟨f0, f1, f2, f3, f4, f5⟩ := hS.fq (i := xN s - 1) (by omega)
  have k9 := hS.s sh_109
  refine go_aload_n dM_shuffle_15 rfl rfl ?_
  refine go_iload_n dM_shuffle_16 rfl rfl ?_
  refine go_cV (k' := (0, 0)) dM_shuffle_17 _ csM_117 (by assumption) rfl imA_push seA_push rfl (okA_pushX (d := 0) w G1 p h 0 true (xSet s (uPush (uPop (xC s)) (uTop (xC s)))) hN (uTop (xC s)) hS X2 (show uD (xC s) - 1 + 1 < 8 by omega)) (by omega) (by decide) (Nat.le_of_ble_eq_true rfl) (fun r G1 hr hn => ?_)
  obtain ⟨rfl, X3, o3⟩ := hr
  have X3 : cX p h G1 (xSet s (uPush (uPush (uPop (xC s)) (uTop (xC s))) (uTop (xC s)))) 0 true := X3
  have hS := o3.St hS
  obtain ⟨f0, f1, f2, f3, f4, f5⟩ := hS.fq (i := xN s - 1) (by omega)
  have k9 := hS.s sh_109
  refine go_goto dM_shuffle_20 (tgt := 46) (by decide) ?_
  refine go_return rfl dM_shuffle_46 ?_
  exact ⟨rfl, cX.ms X3 hN, (o1.tr o2).tr o3⟩
set_option maxRecDepth 100000 in
theorem okM_sh6 (w : am_W) {d : Nat} (hd : 1 ≤ d) (G : am_G) (p h : Nat) (s : xT) (hN : 1 ≤ xN s) (hS : St0 G) (X : cX p h G s 0 true) (hD : 2 ≤ uD (xC s)) : am_Ok w jM_shuffle d (0, 0) [.inr (some 109), .inr (some (114 + 3 * (xN s - 1))), .inl (nI 6)] G (fun r G' => r = none ∧ cX p h G' (xSet s (uGo (uPush (uPush (uPop (uPop (xC s))) (uTop (xC s))) (uTop (uPop (xC s)))) (uP (xC s) + 1))) 0 false ∧ oM h G G') := by
  refine am_ok_of rfl (Nat.le_of_ble_eq_true rfl) ?_
  show am_Go w jM_shuffle d (0, 0) 0 [some (.inr (some 109)), some (.inr (some (114 + 3 * (xN s - 1)))), some (.inl (nI 6)), none, none] [] G _
  have h12 := X.n12
  have hh := X.hh
  obtain ⟨k9, k10, k11, k12, k13, kh, kh1, g0, g1, g2, g3, gh⟩ := hS.cq hh
  obtain ⟨f0, f1, f2, f3, f4, f5⟩ := hS.fq (i := xN s - 1) (by omega)
  have lg := X.lg
  obtain ⟨⟨cnu, cbs, cdp, cd8⟩, cvl, clc⟩ := X.cf hN
  refine go_aload_n dM_shuffle_0 rfl rfl ?_
  refine go_cV (k' := (0, 0)) dM_shuffle_1 _ csM_136 (by assumption) rfl imA_pop seA_pop rfl (okA_popX (d := 0) w G p h 0 true (s) hN hS X (by omega)) (by omega) (by decide) (Nat.le_of_ble_eq_true rfl) (fun r G1 hr hn => ?_)
  obtain ⟨rfl, X1, o1⟩ := hr
  have X1 : cX p h G1 (xSet s (uPop (xC s))) 0 true := X1
  have hS := o1.St hS
  obtain ⟨f0, f1, f2, f3, f4, f5⟩ := hS.fq (i := xN s - 1) (by omega)
  have k9 := hS.s sh_109
  refine go_istore_n dM_shuffle_4 rfl (Nat.le_of_ble_eq_true rfl) ?_
  refine go_iload_n dM_shuffle_5 rfl rfl ?_
  refine go_iconst (nI 5) (by decide) dM_shuffle_6 ?_
  refine go_icmp_neN (by decide) (by decide) dM_shuffle_7 (tgt := 23) (by decide) (fun c1 => ?_) (fun c1 => absurd c1 (by decide))
  refine go_iload_n dM_shuffle_23 rfl rfl ?_
  refine go_bipush (nI 6) (by decide) dM_shuffle_24 ?_
  refine go_icmp_neN (by decide) (by decide) dM_shuffle_26 (tgt := 46) (by decide) (fun c1 => absurd c1 (by decide)) (fun c1 => ?_)
  refine go_aload_n dM_shuffle_29 rfl rfl ?_
  refine go_cV (k' := (0, 0)) dM_shuffle_30 _ csM_136 (by assumption) rfl imA_pop seA_pop rfl (okA_popX (d := 0) w G1 p h 0 true (xSet s (uPop (xC s))) hN hS X1 (show 1 ≤ uD (xC s) - 1 by omega)) (by omega) (by decide) (Nat.le_of_ble_eq_true rfl) (fun r G1 hr hn => ?_)
  obtain ⟨rfl, X2, o2⟩ := hr
  have X2 : cX p h G1 (xSet s (uPop (uPop (xC s)))) 0 true := X2
  have hS := o2.St hS
  obtain ⟨f0, f1, f2, f3, f4, f5⟩ := hS.fq (i := xN s - 1) (by omega)
  have k9 := hS.s sh_109
  refine go_istore dM_shuffle_33 (Nat.le_of_ble_eq_true rfl) ?_
  refine go_aload_n dM_shuffle_35 rfl rfl ?_
  refine go_iload_n dM_shuffle_36 rfl rfl ?_
  refine go_cV (k' := (0, 0)) dM_shuffle_37 _ csM_117 (by assumption) rfl imA_push seA_push rfl (okA_pushX (d := 0) w G1 p h 0 true (xSet s (uPop (uPop (xC s)))) hN (uTop (xC s)) hS X2 (show uD (xC s) - 1 - 1 < 8 by omega)) (by omega) (by decide) (Nat.le_of_ble_eq_true rfl) (fun r G1 hr hn => ?_)
  obtain ⟨rfl, X3, o3⟩ := hr
  have X3 : cX p h G1 (xSet s (uPush (uPop (uPop (xC s))) (uTop (xC s)))) 0 true := X3
  have hS := o3.St hS
  obtain ⟨f0, f1, f2, f3, f4, f5⟩ := hS.fq (i := xN s - 1) (by omega)
  have k9 := hS.s sh_109
  refine go_aload_n dM_shuffle_40 rfl rfl ?_
  refine go_iload dM_shuffle_41 rfl ?_
  refine go_cV (k' := (0, 0)) dM_shuffle_43 _ csM_117 (by assumption) rfl imA_push seA_push rfl (okA_pushX (d := 0) w G1 p h 0 true (xSet s (uPush (uPop (uPop (xC s))) (uTop (xC s)))) hN (uTop (uPop (xC s))) hS X3 (show uD (xC s) - 1 - 1 + 1 < 8 by omega)) (by omega) (by decide) (Nat.le_of_ble_eq_true rfl) (fun r G1 hr hn => ?_)
  obtain ⟨rfl, X4, o4⟩ := hr
  have X4 : cX p h G1 (xSet s (uPush (uPush (uPop (uPop (xC s))) (uTop (xC s))) (uTop (uPop (xC s))))) 0 true := X4
  have hS := o4.St hS
  obtain ⟨f0, f1, f2, f3, f4, f5⟩ := hS.fq (i := xN s - 1) (by omega)
  have k9 := hS.s sh_109
  refine go_return rfl dM_shuffle_46 ?_
  exact ⟨rfl, cX.ms X4 hN, ((o1.tr o2).tr o3).tr o4⟩
set_option maxRecDepth 100000 in
theorem okM_rk7 (w : am_W) {d : Nat} (hd : 1 ≤ d) (G : am_G) (p h : Nat) (s : xT) (hN : 1 ≤ xN s) (hS : St0 G) (X : cX p h G s 0 true) (hD : 2 ≤ uD (xC s)) : am_Ok w jM_reckon d (0, 0) [.inr (some 109), .inr (some (114 + 3 * (xN s - 1))), .inl (nI 7)] G (fun r G' => r = none ∧ cX p h G' (xSet s (uGo (uPush (uPop (uPop (xC s))) (uTop (uPop (xC s)) + uTop (xC s))) (uP (xC s) + 1))) 0 false ∧ oM h G G') := by
  refine am_ok_of rfl (Nat.le_of_ble_eq_true rfl) ?_
  show am_Go w jM_reckon d (0, 0) 0 [some (.inr (some 109)), some (.inr (some (114 + 3 * (xN s - 1)))), some (.inl (nI 7)), none, none] [] G _
  have h12 := X.n12
  have hh := X.hh
  obtain ⟨k9, k10, k11, k12, k13, kh, kh1, g0, g1, g2, g3, gh⟩ := hS.cq hh
  obtain ⟨f0, f1, f2, f3, f4, f5⟩ := hS.fq (i := xN s - 1) (by omega)
  have lg := X.lg
  obtain ⟨⟨cnu, cbs, cdp, cd8⟩, cvl, clc⟩ := X.cf hN
  refine go_aload_n dM_reckon_0 rfl rfl ?_
  refine go_cV (k' := (0, 0)) dM_reckon_1 _ csM_136 (by assumption) rfl imA_pop seA_pop rfl (okA_popX (d := 0) w G p h 0 true (s) hN hS X (by omega)) (by omega) (by decide) (Nat.le_of_ble_eq_true rfl) (fun r G1 hr hn => ?_)
  obtain ⟨rfl, X1, o1⟩ := hr
  have X1 : cX p h G1 (xSet s (uPop (xC s))) 0 true := X1
  have hS := o1.St hS
  obtain ⟨f0, f1, f2, f3, f4, f5⟩ := hS.fq (i := xN s - 1) (by omega)
  have k9 := hS.s sh_109
  refine go_istore_n dM_reckon_4 rfl (Nat.le_of_ble_eq_true rfl) ?_
  refine go_aload_n dM_reckon_5 rfl rfl ?_
  refine go_cV (k' := (0, 0)) dM_reckon_6 _ csM_136 (by assumption) rfl imA_pop seA_pop rfl (okA_popX (d := 0) w G1 p h 0 true (xSet s (uPop (xC s))) hN hS X1 (show 1 ≤ uD (xC s) - 1 by omega)) (by omega) (by decide) (Nat.le_of_ble_eq_true rfl) (fun r G1 hr hn => ?_)
  obtain ⟨rfl, X2, o2⟩ := hr
  have X2 : cX p h G1 (xSet s (uPop (uPop (xC s)))) 0 true := X2
  have hS := o2.St hS
  obtain ⟨f0, f1, f2, f3, f4, f5⟩ := hS.fq (i := xN s - 1) (by omega)
  have k9 := hS.s sh_109
  refine go_istore dM_reckon_9 (Nat.le_of_ble_eq_true rfl) ?_
  refine go_iload_n dM_reckon_11 rfl rfl ?_
  refine go_bipush (nI 7) (by decide) dM_reckon_12 ?_
  refine go_icmp_neN (by decide) (by decide) dM_reckon_14 (tgt := 28) (by decide) (fun c1 => absurd c1 (by decide)) (fun c1 => ?_)
  refine go_aload_n dM_reckon_17 rfl rfl ?_
  refine go_iload dM_reckon_18 rfl ?_
  refine go_iload_n dM_reckon_20 rfl rfl ?_
  refine (go_iadd dM_reckon_21 ?_)
  refine go_cV (k' := (0, 0)) dM_reckon_22 _ csM_117 (by assumption) rfl imA_push seA_push rfl (okA_pushX (d := 0) w G1 p h 0 true (xSet s (uPop (uPop (xC s)))) hN (uTop (uPop (xC s)) + uTop (xC s)) hS X2 (show uD (xC s) - 1 - 1 < 8 by omega)) (by omega) (by decide) (Nat.le_of_ble_eq_true rfl) (fun r G1 hr hn => ?_)
  obtain ⟨rfl, X3, o3⟩ := hr
  have X3 : cX p h G1 (xSet s (uPush (uPop (uPop (xC s))) (uTop (uPop (xC s)) + uTop (xC s)))) 0 true := X3
  have hS := o3.St hS
  obtain ⟨f0, f1, f2, f3, f4, f5⟩ := hS.fq (i := xN s - 1) (by omega)
  have k9 := hS.s sh_109
  refine go_goto dM_reckon_25 (tgt := 82) (by decide) ?_
  refine go_return rfl dM_reckon_82 ?_
  exact ⟨rfl, cX.ms X3 hN, (o1.tr o2).tr o3⟩
set_option maxRecDepth 100000 in
theorem okM_rk8 (w : am_W) {d : Nat} (hd : 1 ≤ d) (G : am_G) (p h : Nat) (s : xT) (hN : 1 ≤ xN s) (hS : St0 G) (X : cX p h G s 0 true) (hD : 2 ≤ uD (xC s)) : am_Ok w jM_reckon d (0, 0) [.inr (some 109), .inr (some (114 + 3 * (xN s - 1))), .inl (nI 8)] G (fun r G' => r = none ∧ cX p h G' (xSet s (uGo (uPush (uPop (uPop (xC s))) (uTop (uPop (xC s)) - uTop (xC s))) (uP (xC s) + 1))) 0 false ∧ oM h G G') := by
  refine am_ok_of rfl (Nat.le_of_ble_eq_true rfl) ?_
  show am_Go w jM_reckon d (0, 0) 0 [some (.inr (some 109)), some (.inr (some (114 + 3 * (xN s - 1)))), some (.inl (nI 8)), none, none] [] G _
  have h12 := X.n12
  have hh := X.hh
  obtain ⟨k9, k10, k11, k12, k13, kh, kh1, g0, g1, g2, g3, gh⟩ := hS.cq hh
  obtain ⟨f0, f1, f2, f3, f4, f5⟩ := hS.fq (i := xN s - 1) (by omega)
  have lg := X.lg
  obtain ⟨⟨cnu, cbs, cdp, cd8⟩, cvl, clc⟩ := X.cf hN
  refine go_aload_n dM_reckon_0 rfl rfl ?_
  refine go_cV (k' := (0, 0)) dM_reckon_1 _ csM_136 (by assumption) rfl imA_pop seA_pop rfl (okA_popX (d := 0) w G p h 0 true (s) hN hS X (by omega)) (by omega) (by decide) (Nat.le_of_ble_eq_true rfl) (fun r G1 hr hn => ?_)
  obtain ⟨rfl, X1, o1⟩ := hr
  have X1 : cX p h G1 (xSet s (uPop (xC s))) 0 true := X1
  have hS := o1.St hS
  obtain ⟨f0, f1, f2, f3, f4, f5⟩ := hS.fq (i := xN s - 1) (by omega)
  have k9 := hS.s sh_109
  refine go_istore_n dM_reckon_4 rfl (Nat.le_of_ble_eq_true rfl) ?_
  refine go_aload_n dM_reckon_5 rfl rfl ?_
  refine go_cV (k' := (0, 0)) dM_reckon_6 _ csM_136 (by assumption) rfl imA_pop seA_pop rfl (okA_popX (d := 0) w G1 p h 0 true (xSet s (uPop (xC s))) hN hS X1 (show 1 ≤ uD (xC s) - 1 by omega)) (by omega) (by decide) (Nat.le_of_ble_eq_true rfl) (fun r G1 hr hn => ?_)
  obtain ⟨rfl, X2, o2⟩ := hr
  have X2 : cX p h G1 (xSet s (uPop (uPop (xC s)))) 0 true := X2
  have hS := o2.St hS
  obtain ⟨f0, f1, f2, f3, f4, f5⟩ := hS.fq (i := xN s - 1) (by omega)
  have k9 := hS.s sh_109
  refine go_istore dM_reckon_9 (Nat.le_of_ble_eq_true rfl) ?_
  refine go_iload_n dM_reckon_11 rfl rfl ?_
  refine go_bipush (nI 7) (by decide) dM_reckon_12 ?_
  refine go_icmp_neN (by decide) (by decide) dM_reckon_14 (tgt := 28) (by decide) (fun c1 => ?_) (fun c1 => absurd c1 (by decide))
  refine go_iload_n dM_reckon_28 rfl rfl ?_
  refine go_bipush (nI 8) (by decide) dM_reckon_29 ?_
  refine go_icmp_neN (by decide) (by decide) dM_reckon_31 (tgt := 45) (by decide) (fun c1 => absurd c1 (by decide)) (fun c1 => ?_)
  refine go_aload_n dM_reckon_34 rfl rfl ?_
  refine go_iload dM_reckon_35 rfl ?_
  refine go_iload_n dM_reckon_37 rfl rfl ?_
  refine (go_isub dM_reckon_38 ?_)
  refine go_cV (k' := (0, 0)) dM_reckon_39 _ csM_117 (by assumption) rfl imA_push seA_push rfl (okA_pushX (d := 0) w G1 p h 0 true (xSet s (uPop (uPop (xC s)))) hN (uTop (uPop (xC s)) - uTop (xC s)) hS X2 (show uD (xC s) - 1 - 1 < 8 by omega)) (by omega) (by decide) (Nat.le_of_ble_eq_true rfl) (fun r G1 hr hn => ?_)
  obtain ⟨rfl, X3, o3⟩ := hr
  have X3 : cX p h G1 (xSet s (uPush (uPop (uPop (xC s))) (uTop (uPop (xC s)) - uTop (xC s)))) 0 true := X3
  have hS := o3.St hS
  obtain ⟨f0, f1, f2, f3, f4, f5⟩ := hS.fq (i := xN s - 1) (by omega)
  have k9 := hS.s sh_109
  refine go_goto dM_reckon_42 (tgt := 82) (by decide) ?_
  refine go_return rfl dM_reckon_82 ?_
  exact ⟨rfl, cX.ms X3 hN, (o1.tr o2).tr o3⟩
set_option maxRecDepth 100000 in
theorem okM_rk9 (w : am_W) {d : Nat} (hd : 1 ≤ d) (G : am_G) (p h : Nat) (s : xT) (hN : 1 ≤ xN s) (hS : St0 G) (X : cX p h G s 0 true) (hD : 2 ≤ uD (xC s)) : am_Ok w jM_reckon d (0, 0) [.inr (some 109), .inr (some (114 + 3 * (xN s - 1))), .inl (nI 9)] G (fun r G' => r = none ∧ cX p h G' (xSet s (uGo (uPush (uPop (uPop (xC s))) (uTop (uPop (xC s)) * uTop (xC s))) (uP (xC s) + 1))) 0 false ∧ oM h G G') := by
  refine am_ok_of rfl (Nat.le_of_ble_eq_true rfl) ?_
  show am_Go w jM_reckon d (0, 0) 0 [some (.inr (some 109)), some (.inr (some (114 + 3 * (xN s - 1)))), some (.inl (nI 9)), none, none] [] G _
  have h12 := X.n12
  have hh := X.hh
  obtain ⟨k9, k10, k11, k12, k13, kh, kh1, g0, g1, g2, g3, gh⟩ := hS.cq hh
  obtain ⟨f0, f1, f2, f3, f4, f5⟩ := hS.fq (i := xN s - 1) (by omega)
  have lg := X.lg
  obtain ⟨⟨cnu, cbs, cdp, cd8⟩, cvl, clc⟩ := X.cf hN
  refine go_aload_n dM_reckon_0 rfl rfl ?_
  refine go_cV (k' := (0, 0)) dM_reckon_1 _ csM_136 (by assumption) rfl imA_pop seA_pop rfl (okA_popX (d := 0) w G p h 0 true (s) hN hS X (by omega)) (by omega) (by decide) (Nat.le_of_ble_eq_true rfl) (fun r G1 hr hn => ?_)
  obtain ⟨rfl, X1, o1⟩ := hr
  have X1 : cX p h G1 (xSet s (uPop (xC s))) 0 true := X1
  have hS := o1.St hS
  obtain ⟨f0, f1, f2, f3, f4, f5⟩ := hS.fq (i := xN s - 1) (by omega)
  have k9 := hS.s sh_109
  refine go_istore_n dM_reckon_4 rfl (Nat.le_of_ble_eq_true rfl) ?_
  refine go_aload_n dM_reckon_5 rfl rfl ?_
  refine go_cV (k' := (0, 0)) dM_reckon_6 _ csM_136 (by assumption) rfl imA_pop seA_pop rfl (okA_popX (d := 0) w G1 p h 0 true (xSet s (uPop (xC s))) hN hS X1 (show 1 ≤ uD (xC s) - 1 by omega)) (by omega) (by decide) (Nat.le_of_ble_eq_true rfl) (fun r G1 hr hn => ?_)
  obtain ⟨rfl, X2, o2⟩ := hr
  have X2 : cX p h G1 (xSet s (uPop (uPop (xC s)))) 0 true := X2
  have hS := o2.St hS
  obtain ⟨f0, f1, f2, f3, f4, f5⟩ := hS.fq (i := xN s - 1) (by omega)
  have k9 := hS.s sh_109
  refine go_istore dM_reckon_9 (Nat.le_of_ble_eq_true rfl) ?_
  refine go_iload_n dM_reckon_11 rfl rfl ?_
  refine go_bipush (nI 7) (by decide) dM_reckon_12 ?_
  refine go_icmp_neN (by decide) (by decide) dM_reckon_14 (tgt := 28) (by decide) (fun c1 => ?_) (fun c1 => absurd c1 (by decide))
  refine go_iload_n dM_reckon_28 rfl rfl ?_
  refine go_bipush (nI 8) (by decide) dM_reckon_29 ?_
  refine go_icmp_neN (by decide) (by decide) dM_reckon_31 (tgt := 45) (by decide) (fun c1 => ?_) (fun c1 => absurd c1 (by decide))
  refine go_iload_n dM_reckon_45 rfl rfl ?_
  refine go_bipush (nI 9) (by decide) dM_reckon_46 ?_
  refine go_icmp_neN (by decide) (by decide) dM_reckon_48 (tgt := 62) (by decide) (fun c1 => absurd c1 (by decide)) (fun c1 => ?_)
  refine go_aload_n dM_reckon_51 rfl rfl ?_
  refine go_iload dM_reckon_52 rfl ?_
  refine go_iload_n dM_reckon_54 rfl rfl ?_
  refine (go_imul dM_reckon_55 ?_)
  refine go_cV (k' := (0, 0)) dM_reckon_56 _ csM_117 (by assumption) rfl imA_push seA_push rfl (okA_pushX (d := 0) w G1 p h 0 true (xSet s (uPop (uPop (xC s)))) hN (uTop (uPop (xC s)) * uTop (xC s)) hS X2 (show uD (xC s) - 1 - 1 < 8 by omega)) (by omega) (by decide) (Nat.le_of_ble_eq_true rfl) (fun r G1 hr hn => ?_)
  obtain ⟨rfl, X3, o3⟩ := hr
  have X3 : cX p h G1 (xSet s (uPush (uPop (uPop (xC s))) (uTop (uPop (xC s)) * uTop (xC s)))) 0 true := X3
  have hS := o3.St hS
  obtain ⟨f0, f1, f2, f3, f4, f5⟩ := hS.fq (i := xN s - 1) (by omega)
  have k9 := hS.s sh_109
  refine go_goto dM_reckon_59 (tgt := 82) (by decide) ?_
  refine go_return rfl dM_reckon_82 ?_
  exact ⟨rfl, cX.ms X3 hN, (o1.tr o2).tr o3⟩
set_option maxRecDepth 100000 in
theorem okM_rk10 (w : am_W) {d : Nat} (hd : 1 ≤ d) (G : am_G) (p h : Nat) (s : xT) (hN : 1 ≤ xN s) (hS : St0 G) (X : cX p h G s 0 true) (hD : 2 ≤ uD (xC s)) (hy : ¬ uTop (xC s) = nI 0) : am_Ok w jM_reckon d (0, 0) [.inr (some 109), .inr (some (114 + 3 * (xN s - 1))), .inl (nI 10)] G (fun r G' => r = none ∧ cX p h G' (xSet s (uGo (uPush (uPop (uPop (xC s))) (uTop (uPop (xC s)) / uTop (xC s))) (uP (xC s) + 1))) 0 false ∧ oM h G G') := by
  refine am_ok_of rfl (Nat.le_of_ble_eq_true rfl) ?_
  show am_Go w jM_reckon d (0, 0) 0 [some (.inr (some 109)), some (.inr (some (114 + 3 * (xN s - 1)))), some (.inl (nI 10)), none, none] [] G _
  have h12 := X.n12
  have hh := X.hh
  obtain ⟨k9, k10, k11, k12, k13, kh, kh1, g0, g1, g2, g3, gh⟩ := hS.cq hh
  obtain ⟨f0, f1, f2, f3, f4, f5⟩ := hS.fq (i := xN s - 1) (by omega)
  have lg := X.lg
  obtain ⟨⟨cnu, cbs, cdp, cd8⟩, cvl, clc⟩ := X.cf hN
  refine go_aload_n dM_reckon_0 rfl rfl ?_
  refine go_cV (k' := (0, 0)) dM_reckon_1 _ csM_136 (by assumption) rfl imA_pop seA_pop rfl (okA_popX (d := 0) w G p h 0 true (s) hN hS X (by omega)) (by omega) (by decide) (Nat.le_of_ble_eq_true rfl) (fun r G1 hr hn => ?_)
  obtain ⟨rfl, X1, o1⟩ := hr
  have X1 : cX p h G1 (xSet s (uPop (xC s))) 0 true := X1
  have hS := o1.St hS
  obtain ⟨f0, f1, f2, f3, f4, f5⟩ := hS.fq (i := xN s - 1) (by omega)
  have k9 := hS.s sh_109
  refine go_istore_n dM_reckon_4 rfl (Nat.le_of_ble_eq_true rfl) ?_
  refine go_aload_n dM_reckon_5 rfl rfl ?_
  refine go_cV (k' := (0, 0)) dM_reckon_6 _ csM_136 (by assumption) rfl imA_pop seA_pop rfl (okA_popX (d := 0) w G1 p h 0 true (xSet s (uPop (xC s))) hN hS X1 (show 1 ≤ uD (xC s) - 1 by omega)) (by omega) (by decide) (Nat.le_of_ble_eq_true rfl) (fun r G1 hr hn => ?_)
  obtain ⟨rfl, X2, o2⟩ := hr
  have X2 : cX p h G1 (xSet s (uPop (uPop (xC s)))) 0 true := X2
  have hS := o2.St hS
  obtain ⟨f0, f1, f2, f3, f4, f5⟩ := hS.fq (i := xN s - 1) (by omega)
  have k9 := hS.s sh_109
  refine go_istore dM_reckon_9 (Nat.le_of_ble_eq_true rfl) ?_
  refine go_iload_n dM_reckon_11 rfl rfl ?_
  refine go_bipush (nI 7) (by decide) dM_reckon_12 ?_
  refine go_icmp_neN (by decide) (by decide) dM_reckon_14 (tgt := 28) (by decide) (fun c1 => ?_) (fun c1 => absurd c1 (by decide))
  refine go_iload_n dM_reckon_28 rfl rfl ?_
  refine go_bipush (nI 8) (by decide) dM_reckon_29 ?_
  refine go_icmp_neN (by decide) (by decide) dM_reckon_31 (tgt := 45) (by decide) (fun c1 => ?_) (fun c1 => absurd c1 (by decide))
  refine go_iload_n dM_reckon_45 rfl rfl ?_
  refine go_bipush (nI 9) (by decide) dM_reckon_46 ?_
  refine go_icmp_neN (by decide) (by decide) dM_reckon_48 (tgt := 62) (by decide) (fun c1 => ?_) (fun c1 => absurd c1 (by decide))
  refine go_iload_n dM_reckon_62 rfl rfl ?_
  refine go_if_eq dM_reckon_63 (tgt := 77) (by decide) (fun c1 => absurd (c1.trans nI_0.symm) hy) (fun c1 => ?_)
  refine go_aload_n dM_reckon_66 rfl rfl ?_
  refine go_iload dM_reckon_67 rfl ?_
  refine go_iload_n dM_reckon_69 rfl rfl ?_
  refine go_idiv c1 dM_reckon_70 ?_
  refine go_cV (k' := (0, 0)) dM_reckon_71 _ csM_117 (by assumption) rfl imA_push seA_push rfl (okA_pushX (d := 0) w G1 p h 0 true (xSet s (uPop (uPop (xC s)))) hN (uTop (uPop (xC s)) / uTop (xC s)) hS X2 (show uD (xC s) - 1 - 1 < 8 by omega)) (by omega) (by decide) (Nat.le_of_ble_eq_true rfl) (fun r G1 hr hn => ?_)
  obtain ⟨rfl, X3, o3⟩ := hr
  have X3 : cX p h G1 (xSet s (uPush (uPop (uPop (xC s))) (uTop (uPop (xC s)) / uTop (xC s)))) 0 true := X3
  have hS := o3.St hS
  obtain ⟨f0, f1, f2, f3, f4, f5⟩ := hS.fq (i := xN s - 1) (by omega)
  have k9 := hS.s sh_109
  refine go_goto dM_reckon_74 (tgt := 82) (by decide) ?_
  refine go_return rfl dM_reckon_82 ?_
  exact ⟨rfl, cX.ms X3 hN, (o1.tr o2).tr o3⟩
set_option maxRecDepth 100000 in
theorem okM_rk10z (w : am_W) {d : Nat} (hd : 3 ≤ d) (G : am_G) (p h : Nat) (s : xT) (hN : 1 ≤ xN s) (hS : St0 G) (X : cX p h G s 0 true) (hD : 2 ≤ uD (xC s)) (hy : uTop (xC s) = nI 0) (hM : lM s.1 < 1000) (hn : lNn s.1 < 800000) : am_Ok w jM_reckon d (0, 0) [.inr (some 109), .inr (some (114 + 3 * (xN s - 1))), .inl (nI 10)] G (fun r G' => r = none ∧ cX p h G' ((xNew (xSet s (uPop (uPop (xC s)))) 1).1) (xNew (xSet s (uPop (uPop (xC s)))) 1).2 true ∧ oM h G G') := by
  refine am_ok_of rfl (Nat.le_of_ble_eq_true rfl) ?_
  show am_Go w jM_reckon d (0, 0) 0 [some (.inr (some 109)), some (.inr (some (114 + 3 * (xN s - 1)))), some (.inl (nI 10)), none, none] [] G _
  have h12 := X.n12
  have hh := X.hh
  obtain ⟨k9, k10, k11, k12, k13, kh, kh1, g0, g1, g2, g3, gh⟩ := hS.cq hh
  obtain ⟨f0, f1, f2, f3, f4, f5⟩ := hS.fq (i := xN s - 1) (by omega)
  have lg := X.lg
  obtain ⟨⟨cnu, cbs, cdp, cd8⟩, cvl, clc⟩ := X.cf hN
  refine go_aload_n dM_reckon_0 rfl rfl ?_
  refine go_cV (k' := (0, 0)) dM_reckon_1 _ csM_136 (by assumption) rfl imA_pop seA_pop rfl (okA_popX (d := 0) w G p h 0 true (s) hN hS X (by omega)) (by omega) (by decide) (Nat.le_of_ble_eq_true rfl) (fun r G1 hr hn => ?_)
  obtain ⟨rfl, X1, o1⟩ := hr
  have X1 : cX p h G1 (xSet s (uPop (xC s))) 0 true := X1
  have hS := o1.St hS
  obtain ⟨f0, f1, f2, f3, f4, f5⟩ := hS.fq (i := xN s - 1) (by omega)
  have k9 := hS.s sh_109
  rw [hy]
  refine go_istore_n dM_reckon_4 rfl (Nat.le_of_ble_eq_true rfl) ?_
  refine go_aload_n dM_reckon_5 rfl rfl ?_
  refine go_cV (k' := (0, 0)) dM_reckon_6 _ csM_136 (by assumption) rfl imA_pop seA_pop rfl (okA_popX (d := 0) w G1 p h 0 true (xSet s (uPop (xC s))) hN hS X1 (show 1 ≤ uD (xC s) - 1 by omega)) (by omega) (by decide) (Nat.le_of_ble_eq_true rfl) (fun r G1 hr hn => ?_)
  obtain ⟨rfl, X2, o2⟩ := hr
  have X2 : cX p h G1 (xSet s (uPop (uPop (xC s)))) 0 true := X2
  have hS := o2.St hS
  obtain ⟨f0, f1, f2, f3, f4, f5⟩ := hS.fq (i := xN s - 1) (by omega)
  have k9 := hS.s sh_109
  refine go_istore dM_reckon_9 (Nat.le_of_ble_eq_true rfl) ?_
  refine go_iload_n dM_reckon_11 rfl rfl ?_
  refine go_bipush (nI 7) (by decide) dM_reckon_12 ?_
  refine go_icmp_neN (by decide) (by decide) dM_reckon_14 (tgt := 28) (by decide) (fun c1 => ?_) (fun c1 => absurd c1 (by decide))
  refine go_iload_n dM_reckon_28 rfl rfl ?_
  refine go_bipush (nI 8) (by decide) dM_reckon_29 ?_
  refine go_icmp_neN (by decide) (by decide) dM_reckon_31 (tgt := 45) (by decide) (fun c1 => ?_) (fun c1 => absurd c1 (by decide))
  refine go_iload_n dM_reckon_45 rfl rfl ?_
  refine go_bipush (nI 9) (by decide) dM_reckon_46 ?_
  refine go_icmp_neN (by decide) (by decide) dM_reckon_48 (tgt := 62) (by decide) (fun c1 => ?_) (fun c1 => absurd c1 (by decide))
  refine go_iload_n dM_reckon_62 rfl rfl ?_
  refine go_if_eqN (by decide) dM_reckon_63 (tgt := 77) (by decide) (fun c1 => ?_) (fun c1 => absurd rfl c1)
  refine go_aload_n dM_reckon_77 rfl rfl ?_
  refine go_iconst (nI 1) (by decide) dM_reckon_78 ?_
  refine go_cV (k' := (0, 0)) dM_reckon_79 _ csM_156 (by assumption) rfl imM_throwNew seM_throwNew rfl (okM_throwNew (d := 2) w (by decide) G1 p h 0 true (xSet s (uPop (uPop (xC s)))) 1 hS X2 hM (show lNn s.1 < 900000 by omega)) (by omega) (by decide) (Nat.le_of_ble_eq_true rfl) (fun r G1 hr hn => ?_)
  obtain ⟨rfl, X3, o3⟩ := hr
  have hS := o3.St hS
  refine go_return rfl dM_reckon_82 ?_
  exact ⟨rfl, X3, (o1.tr o2).tr o3⟩
set_option maxRecDepth 100000 in
theorem okM_holds0 (w : am_W) {d : Nat} (G : am_G) (v : Int32) : am_Ok w jM_holds d (0, 0) [.inl (nI 0), .inl v] G (fun r G' => r = some (.inl (am_b (cnd (nI 0) v))) ∧ G' = G) := by
  refine am_ok_of rfl (Nat.le_of_ble_eq_true rfl) ?_
  show am_Go w jM_holds d (0, 0) 0 [some (.inl (nI 0)), some (.inl v)] [] G _
  refine go_iload_n dM_holds_0 rfl rfl ?_
  refine go_if_neN (by decide) dM_holds_1 (tgt := 14) (by decide) (fun c1 => absurd c1 (by decide)) (fun c1 => ?_)
  refine go_iload_n dM_holds_4 rfl rfl ?_
  refine go_if_ne dM_holds_5 (tgt := 12) (by decide) (fun c5 => ?_) (fun c5 => ?_)
  · refine go_iconst (am_b false) (by decide) dM_holds_12 ?_
    refine go_zreturn rfl (by first | exact Or.inl rfl | exact Or.inr rfl | exact am_b_01 _) dM_holds_13 ?_
    first | (have q := cnd_0t c5; rw [q]; exact ⟨rfl, rfl⟩) | (have q := cnd_0f c5; rw [q]; exact ⟨rfl, rfl⟩)
  · refine go_iconst (am_b true) (by decide) dM_holds_8 ?_
    refine go_goto dM_holds_9 (tgt := 13) (by decide) ?_
    refine go_zreturn rfl (by first | exact Or.inl rfl | exact Or.inr rfl | exact am_b_01 _) dM_holds_13 ?_
    first | (have q := cnd_0t c5; rw [q]; exact ⟨rfl, rfl⟩) | (have q := cnd_0f c5; rw [q]; exact ⟨rfl, rfl⟩)
set_option maxRecDepth 100000 in
theorem okM_holds1 (w : am_W) {d : Nat} (G : am_G) (v : Int32) : am_Ok w jM_holds d (0, 0) [.inl (nI 1), .inl v] G (fun r G' => r = some (.inl (am_b (cnd (nI 1) v))) ∧ G' = G) := by
  refine am_ok_of rfl (Nat.le_of_ble_eq_true rfl) ?_
  show am_Go w jM_holds d (0, 0) 0 [some (.inl (nI 1)), some (.inl v)] [] G _
  refine go_iload_n dM_holds_0 rfl rfl ?_
  refine go_if_neN (by decide) dM_holds_1 (tgt := 14) (by decide) (fun c1 => ?_) (fun c1 => absurd c1 (by decide))
  refine go_iload_n dM_holds_14 rfl rfl ?_
  refine go_iconst (nI 1) (by decide) dM_holds_15 ?_
  refine go_icmp_neN (by decide) (by decide) dM_holds_16 (tgt := 31) (by decide) (fun c1 => absurd c1 (by decide)) (fun c1 => ?_)
  refine go_iload_n dM_holds_19 rfl rfl ?_
  refine go_if_eq dM_holds_20 (tgt := 27) (by decide) (fun c20 => ?_) (fun c20 => ?_)
  · refine go_iconst (am_b false) (by decide) dM_holds_27 ?_
    refine go_goto dM_holds_28 (tgt := 40) (by decide) ?_
    refine go_zreturn rfl (by first | exact Or.inl rfl | exact Or.inr rfl | exact am_b_01 _) dM_holds_40 ?_
    first | (have q := cnd_1t c20; rw [q]; exact ⟨rfl, rfl⟩) | (have q := cnd_1f c20; rw [q]; exact ⟨rfl, rfl⟩)
  · refine go_iconst (am_b true) (by decide) dM_holds_23 ?_
    refine go_goto dM_holds_24 (tgt := 40) (by decide) ?_
    refine go_zreturn rfl (by first | exact Or.inl rfl | exact Or.inr rfl | exact am_b_01 _) dM_holds_40 ?_
    first | (have q := cnd_1t c20; rw [q]; exact ⟨rfl, rfl⟩) | (have q := cnd_1f c20; rw [q]; exact ⟨rfl, rfl⟩)
set_option maxRecDepth 100000 in
theorem okM_holds2 (w : am_W) {d : Nat} (G : am_G) (v : Int32) : am_Ok w jM_holds d (0, 0) [.inl (nI 2), .inl v] G (fun r G' => r = some (.inl (am_b (cnd (nI 2) v))) ∧ G' = G) := by
  refine am_ok_of rfl (Nat.le_of_ble_eq_true rfl) ?_
  show am_Go w jM_holds d (0, 0) 0 [some (.inl (nI 2)), some (.inl v)] [] G _
  refine go_iload_n dM_holds_0 rfl rfl ?_
  refine go_if_neN (by decide) dM_holds_1 (tgt := 14) (by decide) (fun c1 => ?_) (fun c1 => absurd c1 (by decide))
  refine go_iload_n dM_holds_14 rfl rfl ?_
  refine go_iconst (nI 1) (by decide) dM_holds_15 ?_
  refine go_icmp_neN (by decide) (by decide) dM_holds_16 (tgt := 31) (by decide) (fun c1 => ?_) (fun c1 => absurd c1 (by decide))
  refine go_iload_n dM_holds_31 rfl rfl ?_
  refine go_if_ge dM_holds_32 (tgt := 39) (by decide) (fun c32 => ?_) (fun c32 => ?_)
  · refine go_iconst (am_b false) (by decide) dM_holds_39 ?_
    refine go_zreturn rfl (by first | exact Or.inl rfl | exact Or.inr rfl | exact am_b_01 _) dM_holds_40 ?_
    first | (have q := cnd_2t c32; rw [q]; exact ⟨rfl, rfl⟩) | (have q := cnd_2f c32; rw [q]; exact ⟨rfl, rfl⟩)
  · refine go_iconst (am_b true) (by decide) dM_holds_35 ?_
    refine go_goto dM_holds_36 (tgt := 40) (by decide) ?_
    refine go_zreturn rfl (by first | exact Or.inl rfl | exact Or.inr rfl | exact am_b_01 _) dM_holds_40 ?_
    first | (have q := cnd_2t c32; rw [q]; exact ⟨rfl, rfl⟩) | (have q := cnd_2f c32; rw [q]; exact ⟨rfl, rfl⟩)
set_option maxRecDepth 100000 in
theorem okM_tu11 (w : am_W) {d : Nat} (hd : 1 ≤ d) (G : am_G) (p h : Nat) (s : xT) (hN : 1 ≤ xN s) (hS : St0 G) (X : cX p h G s 0 true) (x : Int32) (j : Nat) : am_Ok w jM_turn d (0, 0) [.inr (some 109), .inr (some (114 + 3 * (xN s - 1))), .inl (nI 11), .inl x, .inl (nI j)] G (fun r G' => r = none ∧ cX p h G' (xSet s (uGo (xC s) j)) 0 false ∧ oM h G G') := by
  refine am_ok_of rfl (Nat.le_of_ble_eq_true rfl) ?_
  show am_Go w jM_turn d (0, 0) 0 [some (.inr (some 109)), some (.inr (some (114 + 3 * (xN s - 1)))), some (.inl (nI 11)), some (.inl x), some (.inl (nI j)), none] [] G _
  have h12 := X.n12
  have hh := X.hh
  obtain ⟨k9, k10, k11, k12, k13, kh, kh1, g0, g1, g2, g3, gh⟩ := hS.cq hh
  obtain ⟨f0, f1, f2, f3, f4, f5⟩ := hS.fq (i := xN s - 1) (by omega)
  have lg := X.lg
  obtain ⟨⟨cnu, cbs, cdp, cd8⟩, cvl, clc⟩ := X.cf hN
  refine go_iconst (am_b true) (by decide) dM_turn_0 ?_
  refine go_istore dM_turn_1 (Nat.le_of_ble_eq_true rfl) ?_
  refine go_iload_n dM_turn_3 rfl rfl ?_
  refine go_bipush (nI 12) (by decide) dM_turn_4 ?_
  refine go_icmp_neN (by decide) (by decide) dM_turn_6 (tgt := 22) (by decide) (fun c1 => ?_) (fun c1 => absurd c1 (by decide))
  refine go_iload_n dM_turn_22 rfl rfl ?_
  refine go_bipush (nI 17) (by decide) dM_turn_23 ?_
  refine go_icmp_neN (by decide) (by decide) dM_turn_25 (tgt := 45) (by decide) (fun c1 => ?_) (fun c1 => absurd c1 (by decide))
  refine go_iload_n dM_turn_45 rfl rfl ?_
  refine go_bipush (nI 23) (by decide) dM_turn_46 ?_
  refine go_icmp_neN (by decide) (by decide) dM_turn_48 (tgt := 59) (by decide) (fun c1 => ?_) (fun c1 => absurd c1 (by decide))
  refine go_iload dM_turn_59 rfl ?_
  refine go_if_eqB dM_turn_61 (tgt := 70) (by decide) (fun c1 => absurd c1 (by decide)) (fun c1 => ?_)
  refine go_aload_n dM_turn_64 rfl rfl ?_
  refine go_iload dM_turn_65 rfl ?_
  refine go_putI dM_turn_67 fpM_102 rfl (by assumption) ?_
  refine go_return rfl dM_turn_70 ?_
  exact ⟨rfl, X.nxt hN, (oM.w ⟨by omega, by omega⟩)⟩
set_option maxRecDepth 100000 in
theorem okM_tu12_0 (w : am_W) {d : Nat} (hd : 1 ≤ d) (G : am_G) (p h : Nat) (s : xT) (hN : 1 ≤ xN s) (hS : St0 G) (X : cX p h G s 0 true) (j : Nat) (hD : 1 ≤ uD (xC s)) : am_Ok w jM_turn d (0, 0) [.inr (some 109), .inr (some (114 + 3 * (xN s - 1))), .inl (nI 12), .inl (nI 0), .inl (nI j)] G (fun r G' => r = none ∧ cX p h G' (xSet s (uGo (uPop (xC s)) (if cnd (nI 0) (uTop (xC s)) = true then j else uP (xC s) + 1))) 0 false ∧ oM h G G') := by
  refine am_ok_of rfl (Nat.le_of_ble_eq_true rfl) ?_
  show am_Go w jM_turn d (0, 0) 0 [some (.inr (some 109)), some (.inr (some (114 + 3 * (xN s - 1)))), some (.inl (nI 12)), some (.inl (nI 0)), some (.inl (nI j)), none] [] G _
  have h12 := X.n12
  have hh := X.hh
  obtain ⟨k9, k10, k11, k12, k13, kh, kh1, g0, g1, g2, g3, gh⟩ := hS.cq hh
  obtain ⟨f0, f1, f2, f3, f4, f5⟩ := hS.fq (i := xN s - 1) (by omega)
  have lg := X.lg
  obtain ⟨⟨cnu, cbs, cdp, cd8⟩, cvl, clc⟩ := X.cf hN
  refine go_iconst (am_b true) (by decide) dM_turn_0 ?_
  refine go_istore dM_turn_1 (Nat.le_of_ble_eq_true rfl) ?_
  refine go_iload_n dM_turn_3 rfl rfl ?_
  refine go_bipush (nI 12) (by decide) dM_turn_4 ?_
  refine go_icmp_neN (by decide) (by decide) dM_turn_6 (tgt := 22) (by decide) (fun c1 => absurd c1 (by decide)) (fun c1 => ?_)
  refine go_iload_n dM_turn_9 rfl rfl ?_
  refine go_aload_n dM_turn_10 rfl rfl ?_
  refine go_cV (k' := (0, 0)) dM_turn_11 _ csM_136 (by assumption) rfl imA_pop seA_pop rfl (okA_popX (d := 0) w G p h 0 true (s) hN hS X (hD)) (by omega) (by decide) (Nat.le_of_ble_eq_true rfl) (fun r G1 hr hn => ?_)
  obtain ⟨rfl, X1, o1⟩ := hr
  have X1 : cX p h G1 (xSet s (uPop (xC s))) 0 true := X1
  have hS := o1.St hS
  obtain ⟨f0, f1, f2, f3, f4, f5⟩ := hS.fq (i := xN s - 1) (by omega)
  have k9 := hS.s sh_109
  refine go_cS (k' := (0, 0)) dM_turn_14 _ csM_159 stM_holds rfl (okM_holds0 (d := 0) w G1 (uTop (xC s))) (by omega) (by decide) (Nat.le_of_ble_eq_true rfl) (fun r G1 hr hn => ?_)
  obtain ⟨rfl, hG⟩ := hr
  rw [hG]
  clear hG hn
  refine go_istore dM_turn_17 (Nat.le_of_ble_eq_true rfl) ?_
  refine go_goto dM_turn_19 (tgt := 59) (by decide) ?_
  refine go_iload dM_turn_59 rfl ?_
  refine go_if_eqB dM_turn_61 (tgt := 70) (by decide) (fun c61 => ?_) (fun c61 => ?_)
  · refine go_return rfl dM_turn_70 ?_
    first | (have q := nt_f c61; exact ⟨rfl, cX.gf (f := uPop (xC s)) X1 hN q, o1⟩) | exact ⟨rfl, cX.gt X1 hN c61, o1.tr (oM.w ⟨by omega, by omega⟩)⟩
  · refine go_aload_n dM_turn_64 rfl rfl ?_
    refine go_iload dM_turn_65 rfl ?_
    refine go_putI dM_turn_67 fpM_102 rfl (by assumption) ?_
    refine go_return rfl dM_turn_70 ?_
    first | (have q := nt_f c61; exact ⟨rfl, cX.gf (f := uPop (xC s)) X1 hN q, o1⟩) | exact ⟨rfl, cX.gt X1 hN c61, o1.tr (oM.w ⟨by omega, by omega⟩)⟩
set_option maxRecDepth 100000 in
theorem okM_tu12_1 (w : am_W) {d : Nat} (hd : 1 ≤ d) (G : am_G) (p h : Nat) (s : xT) (hN : 1 ≤ xN s) (hS : St0 G) (X : cX p h G s 0 true) (j : Nat) (hD : 1 ≤ uD (xC s)) : am_Ok w jM_turn d (0, 0) [.inr (some 109), .inr (some (114 + 3 * (xN s - 1))), .inl (nI 12), .inl (nI 1), .inl (nI j)] G (fun r G' => r = none ∧ cX p h G' (xSet s (uGo (uPop (xC s)) (if cnd (nI 1) (uTop (xC s)) = true then j else uP (xC s) + 1))) 0 false ∧ oM h G G') := by
  refine am_ok_of rfl (Nat.le_of_ble_eq_true rfl) ?_
  show am_Go w jM_turn d (0, 0) 0 [some (.inr (some 109)), some (.inr (some (114 + 3 * (xN s - 1)))), some (.inl (nI 12)), some (.inl (nI 1)), some (.inl (nI j)), none] [] G _
  have h12 := X.n12
  have hh := X.hh
  obtain ⟨k9, k10, k11, k12, k13, kh, kh1, g0, g1, g2, g3, gh⟩ := hS.cq hh
  obtain ⟨f0, f1, f2, f3, f4, f5⟩ := hS.fq (i := xN s - 1) (by omega)
  have lg := X.lg
  obtain ⟨⟨cnu, cbs, cdp, cd8⟩, cvl, clc⟩ := X.cf hN
  refine go_iconst (am_b true) (by decide) dM_turn_0 ?_
  refine go_istore dM_turn_1 (Nat.le_of_ble_eq_true rfl) ?_
  refine go_iload_n dM_turn_3 rfl rfl ?_
  refine go_bipush (nI 12) (by decide) dM_turn_4 ?_
  refine go_icmp_neN (by decide) (by decide) dM_turn_6 (tgt := 22) (by decide) (fun c1 => absurd c1 (by decide)) (fun c1 => ?_)
  refine go_iload_n dM_turn_9 rfl rfl ?_
  refine go_aload_n dM_turn_10 rfl rfl ?_
  refine go_cV (k' := (0, 0)) dM_turn_11 _ csM_136 (by assumption) rfl imA_pop seA_pop rfl (okA_popX (d := 0) w G p h 0 true (s) hN hS X (hD)) (by omega) (by decide) (Nat.le_of_ble_eq_true rfl) (fun r G1 hr hn => ?_)
  obtain ⟨rfl, X1, o1⟩ := hr
  have X1 : cX p h G1 (xSet s (uPop (xC s))) 0 true := X1
  have hS := o1.St hS
  obtain ⟨f0, f1, f2, f3, f4, f5⟩ := hS.fq (i := xN s - 1) (by omega)
  have k9 := hS.s sh_109
  refine go_cS (k' := (0, 0)) dM_turn_14 _ csM_159 stM_holds rfl (okM_holds1 (d := 0) w G1 (uTop (xC s))) (by omega) (by decide) (Nat.le_of_ble_eq_true rfl) (fun r G1 hr hn => ?_)
  obtain ⟨rfl, hG⟩ := hr
  rw [hG]
  clear hG hn
  refine go_istore dM_turn_17 (Nat.le_of_ble_eq_true rfl) ?_
  refine go_goto dM_turn_19 (tgt := 59) (by decide) ?_
  refine go_iload dM_turn_59 rfl ?_
  refine go_if_eqB dM_turn_61 (tgt := 70) (by decide) (fun c61 => ?_) (fun c61 => ?_)
  · refine go_return rfl dM_turn_70 ?_
    first | (have q := nt_f c61; exact ⟨rfl, cX.gf (f := uPop (xC s)) X1 hN q, o1⟩) | exact ⟨rfl, cX.gt X1 hN c61, o1.tr (oM.w ⟨by omega, by omega⟩)⟩
  · refine go_aload_n dM_turn_64 rfl rfl ?_
    refine go_iload dM_turn_65 rfl ?_
    refine go_putI dM_turn_67 fpM_102 rfl (by assumption) ?_
    refine go_return rfl dM_turn_70 ?_
    first | (have q := nt_f c61; exact ⟨rfl, cX.gf (f := uPop (xC s)) X1 hN q, o1⟩) | exact ⟨rfl, cX.gt X1 hN c61, o1.tr (oM.w ⟨by omega, by omega⟩)⟩
set_option maxRecDepth 100000 in
theorem okM_tu12_2 (w : am_W) {d : Nat} (hd : 1 ≤ d) (G : am_G) (p h : Nat) (s : xT) (hN : 1 ≤ xN s) (hS : St0 G) (X : cX p h G s 0 true) (j : Nat) (hD : 1 ≤ uD (xC s)) : am_Ok w jM_turn d (0, 0) [.inr (some 109), .inr (some (114 + 3 * (xN s - 1))), .inl (nI 12), .inl (nI 2), .inl (nI j)] G (fun r G' => r = none ∧ cX p h G' (xSet s (uGo (uPop (xC s)) (if cnd (nI 2) (uTop (xC s)) = true then j else uP (xC s) + 1))) 0 false ∧ oM h G G') := by
  refine am_ok_of rfl (Nat.le_of_ble_eq_true rfl) ?_
  show am_Go w jM_turn d (0, 0) 0 [some (.inr (some 109)), some (.inr (some (114 + 3 * (xN s - 1)))), some (.inl (nI 12)), some (.inl (nI 2)), some (.inl (nI j)), none] [] G _
  have h12 := X.n12
  have hh := X.hh
  obtain ⟨k9, k10, k11, k12, k13, kh, kh1, g0, g1, g2, g3, gh⟩ := hS.cq hh
  obtain ⟨f0, f1, f2, f3, f4, f5⟩ := hS.fq (i := xN s - 1) (by omega)
  have lg := X.lg
  obtain ⟨⟨cnu, cbs, cdp, cd8⟩, cvl, clc⟩ := X.cf hN
  refine go_iconst (am_b true) (by decide) dM_turn_0 ?_
  refine go_istore dM_turn_1 (Nat.le_of_ble_eq_true rfl) ?_
  refine go_iload_n dM_turn_3 rfl rfl ?_
  refine go_bipush (nI 12) (by decide) dM_turn_4 ?_
  refine go_icmp_neN (by decide) (by decide) dM_turn_6 (tgt := 22) (by decide) (fun c1 => absurd c1 (by decide)) (fun c1 => ?_)
  refine go_iload_n dM_turn_9 rfl rfl ?_
  refine go_aload_n dM_turn_10 rfl rfl ?_
  refine go_cV (k' := (0, 0)) dM_turn_11 _ csM_136 (by assumption) rfl imA_pop seA_pop rfl (okA_popX (d := 0) w G p h 0 true (s) hN hS X (hD)) (by omega) (by decide) (Nat.le_of_ble_eq_true rfl) (fun r G1 hr hn => ?_)
  obtain ⟨rfl, X1, o1⟩ := hr
  have X1 : cX p h G1 (xSet s (uPop (xC s))) 0 true := X1
  have hS := o1.St hS
  obtain ⟨f0, f1, f2, f3, f4, f5⟩ := hS.fq (i := xN s - 1) (by omega)
  have k9 := hS.s sh_109
  refine go_cS (k' := (0, 0)) dM_turn_14 _ csM_159 stM_holds rfl (okM_holds2 (d := 0) w G1 (uTop (xC s))) (by omega) (by decide) (Nat.le_of_ble_eq_true rfl) (fun r G1 hr hn => ?_)
  obtain ⟨rfl, hG⟩ := hr
  rw [hG]
  clear hG hn
  refine go_istore dM_turn_17 (Nat.le_of_ble_eq_true rfl) ?_
  refine go_goto dM_turn_19 (tgt := 59) (by decide) ?_
  refine go_iload dM_turn_59 rfl ?_
  refine go_if_eqB dM_turn_61 (tgt := 70) (by decide) (fun c61 => ?_) (fun c61 => ?_)
  · refine go_return rfl dM_turn_70 ?_
    first | (have q := nt_f c61; exact ⟨rfl, cX.gf (f := uPop (xC s)) X1 hN q, o1⟩) | exact ⟨rfl, cX.gt X1 hN c61, o1.tr (oM.w ⟨by omega, by omega⟩)⟩
  · refine go_aload_n dM_turn_64 rfl rfl ?_
    refine go_iload dM_turn_65 rfl ?_
    refine go_putI dM_turn_67 fpM_102 rfl (by assumption) ?_
    refine go_return rfl dM_turn_70 ?_
    first | (have q := nt_f c61; exact ⟨rfl, cX.gf (f := uPop (xC s)) X1 hN q, o1⟩) | exact ⟨rfl, cX.gt X1 hN c61, o1.tr (oM.w ⟨by omega, by omega⟩)⟩
set_option maxRecDepth 100000 in
theorem okM_tu17 (w : am_W) {d : Nat} (hd : 1 ≤ d) (G : am_G) (p h : Nat) (s : xT) (hN : 1 ≤ xN s) (hS : St0 G) (X : cX p h G s 0 true) (x : Int32) (j : Nat) (hD : 1 ≤ uD (xC s)) : am_Ok w jM_turn d (0, 0) [.inr (some 109), .inr (some (114 + 3 * (xN s - 1))), .inl (nI 17), .inl x, .inl (nI j)] G (fun r G' => r = none ∧ cX p h G' (xSet s (uGo (uPop (xC s)) (if uTop (xC s) = nI 0 then j else uP (xC s) + 1))) 0 false ∧ oM h G G') := by
  refine am_ok_of rfl (Nat.le_of_ble_eq_true rfl) ?_
  show am_Go w jM_turn d (0, 0) 0 [some (.inr (some 109)), some (.inr (some (114 + 3 * (xN s - 1)))), some (.inl (nI 17)), some (.inl x), some (.inl (nI j)), none] [] G _
  have h12 := X.n12
  have hh := X.hh
  obtain ⟨k9, k10, k11, k12, k13, kh, kh1, g0, g1, g2, g3, gh⟩ := hS.cq hh
  obtain ⟨f0, f1, f2, f3, f4, f5⟩ := hS.fq (i := xN s - 1) (by omega)
  have lg := X.lg
  obtain ⟨⟨cnu, cbs, cdp, cd8⟩, cvl, clc⟩ := X.cf hN
  refine go_iconst (am_b true) (by decide) dM_turn_0 ?_
  refine go_istore dM_turn_1 (Nat.le_of_ble_eq_true rfl) ?_
  refine go_iload_n dM_turn_3 rfl rfl ?_
  refine go_bipush (nI 12) (by decide) dM_turn_4 ?_
  refine go_icmp_neN (by decide) (by decide) dM_turn_6 (tgt := 22) (by decide) (fun c1 => ?_) (fun c1 => absurd c1 (by decide))
  refine go_iload_n dM_turn_22 rfl rfl ?_
  refine go_bipush (nI 17) (by decide) dM_turn_23 ?_
  refine go_icmp_neN (by decide) (by decide) dM_turn_25 (tgt := 45) (by decide) (fun c1 => absurd c1 (by decide)) (fun c1 => ?_)
  refine go_aload_n dM_turn_28 rfl rfl ?_
  refine go_cV (k' := (0, 0)) dM_turn_29 _ csM_136 (by assumption) rfl imA_pop seA_pop rfl (okA_popX (d := 0) w G p h 0 true (s) hN hS X (hD)) (by omega) (by decide) (Nat.le_of_ble_eq_true rfl) (fun r G1 hr hn => ?_)
  obtain ⟨rfl, X1, o1⟩ := hr
  have X1 : cX p h G1 (xSet s (uPop (xC s))) 0 true := X1
  have hS := o1.St hS
  obtain ⟨f0, f1, f2, f3, f4, f5⟩ := hS.fq (i := xN s - 1) (by omega)
  have k9 := hS.s sh_109
  refine go_if_ne dM_turn_32 (tgt := 39) (by decide) (fun c32 => ?_) (fun c32 => ?_)
  · refine go_iconst (am_b false) (by decide) dM_turn_39 ?_
    refine go_istore dM_turn_40 (Nat.le_of_ble_eq_true rfl) ?_
    refine go_goto dM_turn_42 (tgt := 59) (by decide) ?_
    refine go_iload dM_turn_59 rfl ?_
    refine go_if_eqB dM_turn_61 (tgt := 70) (by decide) (fun c61 => ?_) (fun c61 => ?_)
    · refine go_return rfl dM_turn_70 ?_
      first | exact absurd c61 (by decide) | (have q := c32.trans nI_0.symm; exact ⟨rfl, cX.gt X1 hN q, o1.tr (oM.w ⟨by omega, by omega⟩)⟩) | (have q : ¬ uTop (xC s) = nI 0 := fun q => c32 (q.trans nI_0); exact ⟨rfl, cX.gf (f := uPop (xC s)) X1 hN q, o1⟩)
    · refine go_aload_n dM_turn_64 rfl rfl ?_
      refine go_iload dM_turn_65 rfl ?_
      refine go_putI dM_turn_67 fpM_102 rfl (by assumption) ?_
      refine go_return rfl dM_turn_70 ?_
      first | exact absurd c61 (by decide) | (have q := c32.trans nI_0.symm; exact ⟨rfl, cX.gt X1 hN q, o1.tr (oM.w ⟨by omega, by omega⟩)⟩) | (have q : ¬ uTop (xC s) = nI 0 := fun q => c32 (q.trans nI_0); exact ⟨rfl, cX.gf (f := uPop (xC s)) X1 hN q, o1⟩)
  · refine go_iconst (am_b true) (by decide) dM_turn_35 ?_
    refine go_goto dM_turn_36 (tgt := 40) (by decide) ?_
    refine go_istore dM_turn_40 (Nat.le_of_ble_eq_true rfl) ?_
    refine go_goto dM_turn_42 (tgt := 59) (by decide) ?_
    refine go_iload dM_turn_59 rfl ?_
    refine go_if_eqB dM_turn_61 (tgt := 70) (by decide) (fun c61 => ?_) (fun c61 => ?_)
    · refine go_return rfl dM_turn_70 ?_
      first | exact absurd c61 (by decide) | (have q := c32.trans nI_0.symm; exact ⟨rfl, cX.gt X1 hN q, o1.tr (oM.w ⟨by omega, by omega⟩)⟩) | (have q : ¬ uTop (xC s) = nI 0 := fun q => c32 (q.trans nI_0); exact ⟨rfl, cX.gf (f := uPop (xC s)) X1 hN q, o1⟩)
    · refine go_aload_n dM_turn_64 rfl rfl ?_
      refine go_iload dM_turn_65 rfl ?_
      refine go_putI dM_turn_67 fpM_102 rfl (by assumption) ?_
      refine go_return rfl dM_turn_70 ?_
      first | exact absurd c61 (by decide) | (have q := c32.trans nI_0.symm; exact ⟨rfl, cX.gt X1 hN q, o1.tr (oM.w ⟨by omega, by omega⟩)⟩) | (have q : ¬ uTop (xC s) = nI 0 := fun q => c32 (q.trans nI_0); exact ⟨rfl, cX.gf (f := uPop (xC s)) X1 hN q, o1⟩)
set_option maxRecDepth 100000 in
theorem okM_tu23 (w : am_W) {d : Nat} (hd : 1 ≤ d) (G : am_G) (p h : Nat) (s : xT) (hN : 1 ≤ xN s) (hS : St0 G) (X : cX p h G s 0 true) (x : Int32) (j : Nat) (h8 : uD (xC s) < 8) : am_Ok w jM_turn d (0, 0) [.inr (some 109), .inr (some (114 + 3 * (xN s - 1))), .inl (nI 23), .inl x, .inl (nI j)] G (fun r G' => r = none ∧ cX p h G' (xSet s (uGo (uPush (xC s) (nI (uP (xC s) + 1))) j)) 0 false ∧ oM h G G') := by
  refine am_ok_of rfl (Nat.le_of_ble_eq_true rfl) ?_
  show am_Go w jM_turn d (0, 0) 0 [some (.inr (some 109)), some (.inr (some (114 + 3 * (xN s - 1)))), some (.inl (nI 23)), some (.inl x), some (.inl (nI j)), none] [] G _
  have h12 := X.n12
  have hh := X.hh
  obtain ⟨k9, k10, k11, k12, k13, kh, kh1, g0, g1, g2, g3, gh⟩ := hS.cq hh
  obtain ⟨f0, f1, f2, f3, f4, f5⟩ := hS.fq (i := xN s - 1) (by omega)
  have lg := X.lg
  obtain ⟨⟨cnu, cbs, cdp, cd8⟩, cvl, clc⟩ := X.cf hN
  refine go_iconst (am_b true) (by decide) dM_turn_0 ?_
  refine go_istore dM_turn_1 (Nat.le_of_ble_eq_true rfl) ?_
  refine go_iload_n dM_turn_3 rfl rfl ?_
  refine go_bipush (nI 12) (by decide) dM_turn_4 ?_
  refine go_icmp_neN (by decide) (by decide) dM_turn_6 (tgt := 22) (by decide) (fun c1 => ?_) (fun c1 => absurd c1 (by decide))
  refine go_iload_n dM_turn_22 rfl rfl ?_
  refine go_bipush (nI 17) (by decide) dM_turn_23 ?_
  refine go_icmp_neN (by decide) (by decide) dM_turn_25 (tgt := 45) (by decide) (fun c1 => ?_) (fun c1 => absurd c1 (by decide))
  refine go_iload_n dM_turn_45 rfl rfl ?_
  refine go_bipush (nI 23) (by decide) dM_turn_46 ?_
  refine go_icmp_neN (by decide) (by decide) dM_turn_48 (tgt := 59) (by decide) (fun c1 => absurd c1 (by decide)) (fun c1 => ?_)
  refine go_aload_n dM_turn_51 rfl rfl ?_
  refine go_aload_n dM_turn_52 rfl rfl ?_
  refine go_getV dM_turn_53 flM_102 rfl (by assumption) (X.cp hN).2 ?_
  refine go_cV (k' := (0, 0)) dM_turn_56 _ csM_117 (by assumption) rfl imA_push seA_push rfl (okA_pushX (d := 0) w G p h 0 true (s) hN (nI (uP (xC s) + 1)) hS X (h8)) (by omega) (by decide) (Nat.le_of_ble_eq_true rfl) (fun r G1 hr hn => ?_)
  obtain ⟨rfl, X1, o1⟩ := hr
  have X1 : cX p h G1 (xSet s (uPush (xC s) (nI (uP (xC s) + 1)))) 0 true := X1
  have hS := o1.St hS
  obtain ⟨f0, f1, f2, f3, f4, f5⟩ := hS.fq (i := xN s - 1) (by omega)
  have k9 := hS.s sh_109
  refine go_iload dM_turn_59 rfl ?_
  refine go_if_eqB dM_turn_61 (tgt := 70) (by decide) (fun c1 => absurd c1 (by decide)) (fun c1 => ?_)
  refine go_aload_n dM_turn_64 rfl rfl ?_
  refine go_iload dM_turn_65 rfl ?_
  refine go_putI dM_turn_67 fpM_102 rfl (by assumption) ?_
  refine go_return rfl dM_turn_70 ?_
  exact ⟨rfl, X1.nxt hN, o1.tr (oM.w ⟨by omega, by omega⟩)⟩
set_option maxRecDepth 100000 in
theorem okM_enterLock (w : am_W) {d : Nat} (hd : 1 ≤ d) (G : am_G) (p h u : Nat) (s : xT) (hS : St0 G) (X : cX p h G s 0 true) (hH : xH s < 1000) (hn : lNn s.1 < 1000000) : am_Ok w jM_enterLock d (0, 0) [.inr (some 109), .inl (nI u)] G (fun r G' => r = none ∧ cX p h G' (xTell (xHeld s (xH s + 1) (va_up (xE s) (xH s) u)) (nI u) 2) 0 true ∧ oM h G G') := by
  refine am_ok_of rfl (Nat.le_of_ble_eq_true rfl) ?_
  show am_Go w jM_enterLock d (0, 0) 0 [some (.inr (some 109)), some (.inl (nI u))] [] G _
  have hh := X.hh
  obtain ⟨k9, k10, k11, k12, k13, kh, kh1, g0, g1, g2, g3, gh⟩ := hS.cq hh
  have lg := X.lg
  have hd1 := X.hd
  refine go_aload_n dM_enterLock_0 rfl rfl ?_
  refine go_getV dM_enterLock_1 flM_45 rfl (by assumption) (by first | assumption | (simp (disch := omega) only [wi_I, ro_I, wi_In, wi_Is]; done) | (simp (disch := omega) only [wi_I, ro_I, wi_In, wi_Is]; first | assumption | rfl) | rfl) ?_
  refine go_aload_n dM_enterLock_4 rfl rfl ?_
  refine go_getO dM_enterLock_5 flM_24 rfl (by assumption) (by assumption) ?_
  refine go_alen (t := 0) k13 (by decide) dM_enterLock_8 ?_
  refine go_icmp_geN (by omega) (by decide) dM_enterLock_9 (tgt := 32) (by decide) (fun c1 => absurd c1 (by omega)) (fun c1 => ?_)
  refine go_aload_n dM_enterLock_12 rfl rfl ?_
  refine go_getO dM_enterLock_13 flM_24 rfl (by assumption) (by assumption) ?_
  refine go_aload_n dM_enterLock_16 rfl rfl ?_
  refine go_getV dM_enterLock_17 flM_45 rfl (by assumption) (by first | assumption | (simp (disch := omega) only [wi_I, ro_I, wi_In, wi_Is]; done) | (simp (disch := omega) only [wi_I, ro_I, wi_In, wi_Is]; first | assumption | rfl) | rfl) ?_
  refine go_iload_n dM_enterLock_20 rfl rfl ?_
  refine go_iastoreN (by assumption) (by omega) (by decide) dM_enterLock_21 ?_
  refine go_aload_n dM_enterLock_22 rfl rfl ?_
  refine go_dup dM_enterLock_23 ?_
  refine go_getV dM_enterLock_24 flM_45 rfl (by assumption) (by first | assumption | (simp (disch := omega) only [wi_I, ro_I, wi_In, wi_Is]; done) | (simp (disch := omega) only [wi_I, ro_I, wi_In, wi_Is]; first | assumption | rfl) | rfl) ?_
  refine go_iconst (nI 1) (by decide) dM_enterLock_27 ?_
  first | refine go_iaddN dM_enterLock_28 ?_ | refine go_iadd dM_enterLock_28 ?_
  refine go_putI dM_enterLock_29 fpM_45 rfl (by assumption) ?_
  refine go_aload_n dM_enterLock_32 rfl rfl ?_
  refine go_getO dM_enterLock_33 flM_32 rfl (by assumption) (by assumption) ?_
  refine go_iconst (nI 2) (by decide) dM_enterLock_36 ?_
  refine go_iload_n dM_enterLock_37 rfl rfl ?_
  refine go_cV (k' := (0, 0)) dM_enterLock_38 _ csM_96 (by assumption) rfl imL_note seL_note rfl (okL_note (d := 0) w _ h 2 (nI u) s.1 hh (by exact hS) X.enter.1 hn) (by omega) (by decide) (Nat.le_of_ble_eq_true rfl) (fun r G1 hr hn => ?_)
  obtain ⟨rfl, L1, o1⟩ := hr
  refine go_return rfl dM_enterLock_41 ?_
  exact ⟨rfl, X.enter.tell L1 o1, ((oM.w ⟨by decide, by decide⟩).tr (oM.w ⟨by decide, by decide⟩)).tr o1.m⟩
set_option maxRecDepth 100000 in
theorem M_ll (w : am_W) {d : Nat} {P : Option am_V → am_G → Prop} (G : am_G) (p h u : Nat) (s : xT) (hN : 1 ≤ xN s) (hu : u ≤ 1000) (hB : uB (xC s) ≤ 1000) (hH : xH s ≤ 1000) (hE : ∀ k, k < xH s → xE s k ≤ 1000) (hS : St0 G) (X : cX p h G s 0 true)
    (K1 : ∀ r, r ≤ uB (xC s) → r ≤ 1000 → xFind (xE s) (uB (xC s)) u (xH s) = none → am_Go w jM_leaveLock d (0, 0) 31 [some (.inr (some 109)), some (.inr (some (114 + 3 * (xN s - 1)))), some (.inl (nI u)), some (.inl (nM r))] [] G P)
    (K2 : ∀ i, i < xH s → uB (xC s) ≤ i → xFind (xE s) (uB (xC s)) u (xH s) = some i → am_Go w jM_leaveLock d (0, 0) 31 [some (.inr (some 109)), some (.inr (some (114 + 3 * (xN s - 1)))), some (.inl (nI u)), some (.inl (nI i))] [] G P) :
    ∀ (r : Nat), r ≤ xH s → xFind (xE s) (uB (xC s)) u (xH s) = xFind (xE s) (uB (xC s)) u r → am_Go w jM_leaveLock d (0, 0) 7 [some (.inr (some 109)), some (.inr (some (114 + 3 * (xN s - 1)))), some (.inl (nI u)), some (.inl (nM r))] [] G P := by
  have h12 := X.n12
  have hh := X.hh
  obtain ⟨k9, k10, k11, k12, k13, kh, kh1, g0, g1, g2, g3, gh⟩ := hS.cq hh
  obtain ⟨f0, f1, f2, f3, f4, f5⟩ := hS.fq (i := xN s - 1) (by omega)
  have lg := X.lg
  obtain ⟨⟨cnu, cbs, cdp, cd8⟩, cvl, clc⟩ := X.cf hN
  intro r
  induction r with
  | zero =>
    intro hr hx
    refine go_iload_n dM_leaveLock_7 rfl rfl ?_
    refine go_aload_n dM_leaveLock_8 rfl rfl ?_
    refine go_getV dM_leaveLock_9 flM_173 rfl (by assumption) (by first | assumption | (simp (disch := omega) only [wi_I, ro_I, wi_In, wi_Is]; done) | (simp (disch := omega) only [wi_I, ro_I, wi_In, wi_Is]; first | assumption | rfl) | rfl) ?_
    refine go_icmp_lt dM_leaveLock_12 (tgt := 31) (by decide) (fun c1 => ?_) (fun c1 => absurd ((nM_ltb (by omega) (by omega)).mpr (Nat.zero_le _)) c1)
    exact K1 0 (Nat.zero_le _) (Nat.zero_le _) hx
  | succ r ih =>
    intro hr hx
    have lk := X.lk (k := r) (by omega)
    have hE1 := hE r (by omega)
    refine go_iload_n dM_leaveLock_7 rfl rfl ?_
    refine go_aload_n dM_leaveLock_8 rfl rfl ?_
    refine go_getV dM_leaveLock_9 flM_173 rfl (by assumption) (by first | assumption | (simp (disch := omega) only [wi_I, ro_I, wi_In, wi_Is]; done) | (simp (disch := omega) only [wi_I, ro_I, wi_In, wi_Is]; first | assumption | rfl) | rfl) ?_
    refine go_icmp_lt dM_leaveLock_12 (tgt := 31) (by decide) (fun c1 => ?_) (fun c1 => ?_)
    · have c2 := (nM_ltb (by omega) (by omega)).mp c1
      exact K1 (r + 1) c2 (by omega) (hx.trans (xFind_0 c2))
    · have c2 : uB (xC s) ≤ r := by
        rcases Nat.lt_or_ge r (uB (xC s)) with q | q
        · exact absurd ((nM_ltb (by omega) (by omega)).mpr q) c1
        · exact q
      rw [nM_1]
      refine go_aload_n dM_leaveLock_15 rfl rfl ?_
      refine go_getO dM_leaveLock_16 flM_24 rfl (by assumption) (by assumption) ?_
      refine go_iload_n dM_leaveLock_19 rfl rfl ?_
      refine go_ialV k13 (by omega) (by decide) lk dM_leaveLock_20 ?_
      refine go_iload_n dM_leaveLock_21 rfl rfl ?_
      refine go_icmp_eqN (by omega) (by omega) dM_leaveLock_22 (tgt := 31) (by decide) (fun c22 => ?_) (fun c22 => ?_)
      · exact K2 r (by omega) c2 (hx.trans (xFind_y c2 c22))
      · refine go_iinc dM_leaveLock_25 rfl ?_
        rw [nM_d]
        refine go_goto dM_leaveLock_28 (tgt := 7) (by decide) ?_
        exact ih (by omega) (hx.trans (xFind_n c2 c22))
set_option maxRecDepth 100000 in
theorem okM_leaveB (w : am_W) {d : Nat} (hd : 1 ≤ d) (G : am_G) (p h u : Nat) (s : xT) (hN : 1 ≤ xN s) (hu : u ≤ 1000) (hB : uB (xC s) ≤ 1000) (hH : xH s ≤ 1000) (hE : ∀ k, k < xH s → xE s k ≤ 1000) (hn : lNn s.1 < 1000000) (hS : St0 G) (X : cX p h G s 0 true) (hf : xFind (xE s) (uB (xC s)) u (xH s) = none) : am_Ok w jM_leaveLock d (0, 0) [.inr (some 109), .inr (some (114 + 3 * (xN s - 1))), .inl (nI u)] G (fun r G' => r = some (.inl (am_b false)) ∧ G' = G) := by
  refine am_ok_of rfl (Nat.le_of_ble_eq_true rfl) ?_
  show am_Go w jM_leaveLock d (0, 0) 0 [some (.inr (some 109)), some (.inr (some (114 + 3 * (xN s - 1)))), some (.inl (nI u)), none] [] G _
  have h12 := X.n12
  have hh := X.hh
  obtain ⟨k9, k10, k11, k12, k13, kh, kh1, g0, g1, g2, g3, gh⟩ := hS.cq hh
  obtain ⟨f0, f1, f2, f3, f4, f5⟩ := hS.fq (i := xN s - 1) (by omega)
  have lg := X.lg
  obtain ⟨⟨cnu, cbs, cdp, cd8⟩, cvl, clc⟩ := X.cf hN
  have hd1 := X.hd
  refine go_aload_n dM_leaveLock_0 rfl rfl ?_
  refine go_getV dM_leaveLock_1 flM_45 rfl (by assumption) (by first | assumption | (simp (disch := omega) only [wi_I, ro_I, wi_In, wi_Is]; done) | (simp (disch := omega) only [wi_I, ro_I, wi_In, wi_Is]; first | assumption | rfl) | rfl) ?_
  refine go_iconst (nI 1) (by decide) dM_leaveLock_4 ?_
  refine (go_isub dM_leaveLock_5 ?_)
  change am_Go w jM_leaveLock d (0, 0) 6 _ [.inl (nM (xH s))] _ _
  refine go_istore_n dM_leaveLock_6 rfl (Nat.le_of_ble_eq_true rfl) ?_
  refine M_ll w G p h u s hN hu hB hH hE hS X (fun r h1 h9 q => ?_) (fun i hi hbi q => ?_) (xH s) (Nat.le_refl _) rfl
  · refine go_iload_n dM_leaveLock_31 rfl rfl ?_
    refine go_aload_n dM_leaveLock_32 rfl rfl ?_
    refine go_getV dM_leaveLock_33 flM_173 rfl (by assumption) (by first | assumption | (simp (disch := omega) only [wi_I, ro_I, wi_In, wi_Is]; done) | (simp (disch := omega) only [wi_I, ro_I, wi_In, wi_Is]; first | assumption | rfl) | rfl) ?_
    refine go_icmp_ge dM_leaveLock_36 (tgt := 41) (by decide) (fun c1 => ?_) (fun c1 => ?_)
    · exact absurd ((nM_ltb (by omega) (by omega)).mpr h1) (fun q => absurd c1 (i_nle.mpr q))
    · refine go_iconst (am_b false) (by decide) dM_leaveLock_39 ?_
      refine go_zreturn rfl (by first | exact Or.inl rfl | exact Or.inr rfl | exact am_b_01 _) dM_leaveLock_40 ?_
      exact ⟨rfl, rfl⟩
  · rw [hf] at q; cases q
set_option maxRecDepth 100000 in
theorem okM_leaveA (w : am_W) {d : Nat} (hd : 1 ≤ d) (G : am_G) (p h u : Nat) (s : xT) (hN : 1 ≤ xN s) (hu : u ≤ 1000) (hB : uB (xC s) ≤ 1000) (hH : xH s ≤ 1000) (hE : ∀ k, k < xH s → xE s k ≤ 1000) (hn : lNn s.1 < 1000000) (hS : St0 G) (X : cX p h G s 0 true) (k : Nat) (hf : xFind (xE s) (uB (xC s)) u (xH s) = some k) : am_Ok w jM_leaveLock d (0, 0) [.inr (some 109), .inr (some (114 + 3 * (xN s - 1))), .inl (nI u)] G (fun r G' => r = some (.inl (am_b true)) ∧ cX p h G' (xTell (xHeld s (xH s - 1) (fun j => if j < k then xE s j else xE s (j + 1))) (nI u) 3) 0 true ∧ oM h G G') := by
  refine am_ok_of rfl (Nat.le_of_ble_eq_true rfl) ?_
  show am_Go w jM_leaveLock d (0, 0) 0 [some (.inr (some 109)), some (.inr (some (114 + 3 * (xN s - 1)))), some (.inl (nI u)), none] [] G _
  have h12 := X.n12
  have hh := X.hh
  obtain ⟨k9, k10, k11, k12, k13, kh, kh1, g0, g1, g2, g3, gh⟩ := hS.cq hh
  obtain ⟨f0, f1, f2, f3, f4, f5⟩ := hS.fq (i := xN s - 1) (by omega)
  have lg := X.lg
  obtain ⟨⟨cnu, cbs, cdp, cd8⟩, cvl, clc⟩ := X.cf hN
  have hd1 := X.hd
  refine go_aload_n dM_leaveLock_0 rfl rfl ?_
  refine go_getV dM_leaveLock_1 flM_45 rfl (by assumption) (by first | assumption | (simp (disch := omega) only [wi_I, ro_I, wi_In, wi_Is]; done) | (simp (disch := omega) only [wi_I, ro_I, wi_In, wi_Is]; first | assumption | rfl) | rfl) ?_
  refine go_iconst (nI 1) (by decide) dM_leaveLock_4 ?_
  refine (go_isub dM_leaveLock_5 ?_)
  change am_Go w jM_leaveLock d (0, 0) 6 _ [.inl (nM (xH s))] _ _
  refine go_istore_n dM_leaveLock_6 rfl (Nat.le_of_ble_eq_true rfl) ?_
  refine M_ll w G p h u s hN hu hB hH hE hS X (fun r h1 h9 q => ?_) (fun i hi hbi q => ?_) (xH s) (Nat.le_refl _) rfl
  · rw [hf] at q; cases q
  · rw [hf] at q; cases q
    refine go_iload_n dM_leaveLock_31 rfl rfl ?_
    refine go_aload_n dM_leaveLock_32 rfl rfl ?_
    refine go_getV dM_leaveLock_33 flM_173 rfl (by assumption) (by first | assumption | (simp (disch := omega) only [wi_I, ro_I, wi_In, wi_Is]; done) | (simp (disch := omega) only [wi_I, ro_I, wi_In, wi_Is]; first | assumption | rfl) | rfl) ?_
    refine go_icmp_geN (by omega) (by omega) dM_leaveLock_36 (tgt := 41) (by decide) (fun c1 => ?_) (fun c1 => absurd c1 (by omega))
    refine go_aload_n dM_leaveLock_41 rfl rfl ?_
    refine go_dup dM_leaveLock_42 ?_
    refine go_getV dM_leaveLock_43 flM_45 rfl (by assumption) (by first | assumption | (simp (disch := omega) only [wi_I, ro_I, wi_In, wi_Is]; done) | (simp (disch := omega) only [wi_I, ro_I, wi_In, wi_Is]; first | assumption | rfl) | rfl) ?_
    refine go_iconst (nI 1) (by decide) dM_leaveLock_46 ?_
    first | refine go_isubN (by omega) dM_leaveLock_47 ?_ | refine go_isub dM_leaveLock_47 ?_
    refine go_putI dM_leaveLock_48 fpM_45 rfl (by assumption) ?_
    refine go_aload_n dM_leaveLock_51 rfl rfl ?_
    refine go_getO dM_leaveLock_52 flM_24 rfl (by assumption) (by assumption) ?_
    refine go_iload_n dM_leaveLock_55 rfl rfl ?_
    refine go_iconst (nI 1) (by decide) dM_leaveLock_56 ?_
    first | refine go_iaddN dM_leaveLock_57 ?_ | refine go_iadd dM_leaveLock_57 ?_
    refine go_aload_n dM_leaveLock_58 rfl rfl ?_
    refine go_getO dM_leaveLock_59 flM_24 rfl (by assumption) (by assumption) ?_
    refine go_iload_n dM_leaveLock_62 rfl rfl ?_
    refine go_aload_n dM_leaveLock_63 rfl rfl ?_
    refine go_getV dM_leaveLock_64 flM_45 rfl (by assumption) (by first | assumption | (simp (disch := omega) only [wi_I, ro_I, wi_In, wi_Is]; done) | (simp (disch := omega) only [wi_I, ro_I, wi_In, wi_Is]; first | assumption | rfl) | rfl) ?_
    refine go_iload_n dM_leaveLock_67 rfl rfl ?_
    first | refine go_isubN (by omega) dM_leaveLock_68 ?_ | refine go_isub dM_leaveLock_68 ?_
    refine go_cp dM_leaveLock_69 lkM_176 (by omega) (by assumption) (by assumption) (by omega) (by omega) (by decide) (by decide) (Nat.le_of_ble_eq_true rfl) ?_
    refine go_aload_n dM_leaveLock_72 rfl rfl ?_
    refine go_getO dM_leaveLock_73 flM_32 rfl (by assumption) (by assumption) ?_
    refine go_iconst (nI 3) (by decide) dM_leaveLock_76 ?_
    refine go_iload_n dM_leaveLock_77 rfl rfl ?_
    refine go_cV (k' := (0, 0)) dM_leaveLock_78 _ csM_96 (by assumption) rfl imL_note seL_note rfl (okL_note (d := 0) w _ h 3 (nI u) s.1 hh (by exact hS) (cX.sh X hi).1 hn) (by omega) (by decide) (Nat.le_of_ble_eq_true rfl) (fun r G1 hr hn => ?_)
    obtain ⟨rfl, L1, o1⟩ := hr
    refine go_iconst (am_b true) (by decide) dM_leaveLock_81 ?_
    refine go_zreturn rfl (by first | exact Or.inl rfl | exact Or.inr rfl | exact am_b_01 _) dM_leaveLock_82 ?_
    exact ⟨rfl, (cX.sh X hi).tell L1 o1, ((oM.w ⟨by decide, by decide⟩).tr (oR.ro (Or.inl ⟨by decide, by decide⟩))).tr o1.m⟩
set_option maxRecDepth 100000 in
theorem okM_gbA (w : am_W) {d : Nat} (G : am_G) (p h t : Nat) (s : xT) (v : Int32) (hS : St0 G) (X : cX p h G s t true) (ht : 0 < t) (ht2 : t < 10000) : am_Ok w jM_giveBack d (0, 0) [.inr (some 109), .inl v] G (fun r G' => r = none ∧ G' = G) := by
  refine am_ok_of rfl (Nat.le_of_ble_eq_true rfl) ?_
  show am_Go w jM_giveBack d (0, 0) 0 [some (.inr (some 109)), some (.inl v)] [] G _
  have hh := X.hh
  obtain ⟨k9, k10, k11, k12, k13, kh, kh1, g0, g1, g2, g3, gh⟩ := hS.cq hh
  have lg := X.lg
  have th := X.th
  have nn := X.nn
  have h12 := X.n12
  refine go_aload_n dM_giveBack_0 rfl rfl ?_
  refine go_getV dM_giveBack_1 flM_48 rfl (by assumption) (by first | assumption | (simp (disch := omega) only [wi_I, ro_I, wi_In, wi_Is]; done) | (simp (disch := omega) only [wi_I, ro_I, wi_In, wi_Is]; first | assumption | rfl) | rfl) ?_
  refine go_if_eqN (by omega) dM_giveBack_4 (tgt := 8) (by decide) (fun c1 => absurd c1 (by omega)) (fun c1 => ?_)
  refine go_return rfl dM_giveBack_7 ?_
  exact ⟨rfl, rfl⟩
set_option maxRecDepth 100000 in
theorem okM_gbB (w : am_W) {d : Nat} (hd : 1 ≤ d) (G : am_G) (p h : Nat) (s : xT) (v : Int32) (hS : St0 G) (X : cX p h G s 0 true) (hN : 1 ≤ xN s) (h8 : uD (xC s) < 8) : am_Ok w jM_giveBack d (0, 0) [.inr (some 109), .inl v] G (fun r G' => r = none ∧ cX p h G' (xSet s (uGo (uPush (xC s) v) (uP (xC s) + 1))) 0 false ∧ oM h G G') := by
  refine am_ok_of rfl (Nat.le_of_ble_eq_true rfl) ?_
  show am_Go w jM_giveBack d (0, 0) 0 [some (.inr (some 109)), some (.inl v)] [] G _
  have hh := X.hh
  obtain ⟨k9, k10, k11, k12, k13, kh, kh1, g0, g1, g2, g3, gh⟩ := hS.cq hh
  have lg := X.lg
  have th := X.th
  have nn := X.nn
  have h12 := X.n12
  obtain ⟨f0, f1, f2, f3, f4, f5⟩ := hS.fq (i := xN s - 1) (by omega)
  refine go_aload_n dM_giveBack_0 rfl rfl ?_
  refine go_getV dM_giveBack_1 flM_48 rfl (by assumption) (by first | assumption | (simp (disch := omega) only [wi_I, ro_I, wi_In, wi_Is]; done) | (simp (disch := omega) only [wi_I, ro_I, wi_In, wi_Is]; first | assumption | rfl) | rfl) ?_
  refine go_if_eqN (by decide) dM_giveBack_4 (tgt := 8) (by decide) (fun c1 => ?_) (fun c1 => absurd rfl c1)
  refine go_aload_n dM_giveBack_8 rfl rfl ?_
  refine go_getV dM_giveBack_9 flM_41 rfl (by assumption) (by first | assumption | (simp (disch := omega) only [wi_I, ro_I, wi_In, wi_Is]; done) | (simp (disch := omega) only [wi_I, ro_I, wi_In, wi_Is]; first | assumption | rfl) | rfl) ?_
  refine go_if_leN (by omega) dM_giveBack_12 (tgt := 33) (by decide) (fun c1 => absurd c1 (by omega)) (fun c1 => ?_)
  refine go_aload_n dM_giveBack_15 rfl rfl ?_
  refine go_getO dM_giveBack_16 flM_11 rfl (by assumption) (by assumption) ?_
  refine go_aload_n dM_giveBack_19 rfl rfl ?_
  refine go_getV dM_giveBack_20 flM_41 rfl (by assumption) (by first | assumption | (simp (disch := omega) only [wi_I, ro_I, wi_In, wi_Is]; done) | (simp (disch := omega) only [wi_I, ro_I, wi_In, wi_Is]; first | assumption | rfl) | rfl) ?_
  refine go_iconst (nI 1) (by decide) dM_giveBack_23 ?_
  first | refine go_isubN (by omega) dM_giveBack_24 ?_ | refine go_isub dM_giveBack_24 ?_
  refine go_aaO (t := 2) (by decide) k10 (show xN s - 1 < 12 by omega) (by decide) f3 dM_giveBack_25 ?_
  refine go_iload_n dM_giveBack_26 rfl rfl ?_
  refine go_cV (k' := (0, 0)) dM_giveBack_27 _ csM_117 (by assumption) rfl imA_push seA_push rfl (okA_pushX (d := 0) w G p h 0 true (s) hN (v) hS X (h8)) (by omega) (by decide) (Nat.le_of_ble_eq_true rfl) (fun r G1 hr hn => ?_)
  obtain ⟨rfl, X1, o1⟩ := hr
  have X1 : cX p h G1 (xSet s (uPush (xC s) v)) 0 true := X1
  have hS := o1.St hS
  refine go_goto dM_giveBack_30 (tgt := 49) (by decide) ?_
  refine go_return rfl dM_giveBack_49 ?_
  exact ⟨rfl, cX.ms X1 hN, o1⟩
set_option maxRecDepth 100000 in
theorem okM_gbC (w : am_W) {d : Nat} (G : am_G) (p h : Nat) (s : xT) (v : Int32) (hS : St0 G) (X : cX p h G s 0 true) (hN : xN s = 0) : am_Ok w jM_giveBack d (0, 0) [.inr (some 109), .inl v] G (fun r G' => r = none ∧ cX p h G' (xVal s v) 0 false ∧ oM h G G') := by
  refine am_ok_of rfl (Nat.le_of_ble_eq_true rfl) ?_
  show am_Go w jM_giveBack d (0, 0) 0 [some (.inr (some 109)), some (.inl v)] [] G _
  have hh := X.hh
  obtain ⟨k9, k10, k11, k12, k13, kh, kh1, g0, g1, g2, g3, gh⟩ := hS.cq hh
  have lg := X.lg
  have th := X.th
  have nn := X.nn
  have h12 := X.n12
  refine go_aload_n dM_giveBack_0 rfl rfl ?_
  refine go_getV dM_giveBack_1 flM_48 rfl (by assumption) (by first | assumption | (simp (disch := omega) only [wi_I, ro_I, wi_In, wi_Is]; done) | (simp (disch := omega) only [wi_I, ro_I, wi_In, wi_Is]; first | assumption | rfl) | rfl) ?_
  refine go_if_eqN (by decide) dM_giveBack_4 (tgt := 8) (by decide) (fun c1 => ?_) (fun c1 => absurd rfl c1)
  refine go_aload_n dM_giveBack_8 rfl rfl ?_
  refine go_getV dM_giveBack_9 flM_41 rfl (by assumption) (by first | assumption | (simp (disch := omega) only [wi_I, ro_I, wi_In, wi_Is]; done) | (simp (disch := omega) only [wi_I, ro_I, wi_In, wi_Is]; first | assumption | rfl) | rfl) ?_
  refine go_if_leN (by omega) dM_giveBack_12 (tgt := 33) (by decide) (fun c1 => ?_) (fun c1 => absurd c1 (by omega))
  refine go_aload_n dM_giveBack_33 rfl rfl ?_
  refine go_getO dM_giveBack_34 flM_32 rfl (by assumption) (by assumption) ?_
  refine go_iload_n dM_giveBack_37 rfl rfl ?_
  refine go_putI dM_giveBack_38 fpM_188 rfl (by assumption) ?_
  refine go_aload_n dM_giveBack_41 rfl rfl ?_
  refine go_getO dM_giveBack_42 flM_32 rfl (by assumption) (by assumption) ?_
  refine go_iconst (nI 0) (by decide) dM_giveBack_45 ?_
  refine go_putI dM_giveBack_46 fpM_58 rfl (by assumption) ?_
  refine go_return rfl dM_giveBack_49 ?_
  exact ⟨rfl, X.val.m0 hN, oM.l.tr oM.l⟩
