section Ch
variable {Q : Nat → mT} {s : xT} {c : Nat} {F : Nat → uT} {V : Nat → Option Int32}
theorem xOpen_N : xN (xOpen Q s c F V) = xN s + 1 ∧ xF (xOpen Q s c F V) = F ∧ lM (xOpen Q s c F V).1 = lM s.1 := by
  cases hL : mL (Q c) with
  | true => rw [xOpen_t2 hL]; exact ⟨rfl, rfl, rfl⟩
  | false => rw [xOpen_f hL]; exact ⟨rfl, rfl, rfl⟩
/-- the memory while a callee takes its arguments: r are still to be taken -/
def bgI (G1 X : am_G) (s : xT) (n r : Nat) : Prop := X.1 = G1.1 ∧ X.2.2 = G1.2.2 ∧ (∀ i, i ≠ 114 + 3 * (xN s - 1) → i ≠ 115 + 3 * xN s → X.2.1 i = G1.2.1 i) ∧ (∀ k, k ≠ 2 → X.2.1 (114 + 3 * (xN s - 1)) k = G1.2.1 (114 + 3 * (xN s - 1)) k) ∧ X.2.1 (114 + 3 * (xN s - 1)) 2 = nI (uD (xC s) - (n - r)) ∧ ∀ k, r ≤ k → k < n → X.2.1 (115 + 3 * xN s) k = uV (xC s) (uD (xC s) - n + k)
theorem bgI.nx {G1 X : am_G} {n r : Nat} (h : bgI G1 X s n (r + 1)) (hN : 1 ≤ xN s) (hr : r + 1 ≤ n) (hD : n ≤ uD (xC s)) : bgI G1 (am_wi (am_wi X (114 + 3 * (xN s - 1)) 2 (nI (uD (xC s) - (n - (r + 1)) - 1))) (115 + 3 * xN s) r (uV (xC s) (uD (xC s) - (n - (r + 1)) - 1))) s n r := by
  obtain ⟨a, b, c, d, e, f⟩ := h
  refine ⟨a, b, fun i h1 h2 => ?_, fun k hk => ?_, ?_, fun k k1 k2 => ?_⟩
  · simp (disch := omega) only [wi_I]; exact c i h1 h2
  · simp (disch := omega) only [wi_I, wi_In]; exact d k hk
  · rw [wi_I (by omega), wi_Is, show uD (xC s) - (n - (r + 1)) - 1 = uD (xC s) - (n - r) by omega]
  · by_cases ek : k = r
    · rw [ek, wi_Is, show uD (xC s) - (n - (r + 1)) - 1 = uD (xC s) - n + r by omega]
    · rw [wi_In ek, wi_I (by omega)]; exact f k (by omega) k2
theorem bgI.St {G1 X : am_G} {n r : Nat} (h : bgI G1 X s n r) (hS : St0 G1) : St0 X := ⟨h.1.trans hS.1, fun q hq => by rw [h.2.1]; exact hS.2 q hq⟩
theorem bgI.o {G1 X : am_G} {n r hh : Nat} (h : bgI G1 X s n r) (hN : xN s < 12) : oM hh G1 X := ⟨h.1, h.2.1, fun i hi => h.2.2.1 i (fun e => hi (Or.inl ⟨by omega, by omega⟩)) (fun e => hi (Or.inl ⟨by omega, by omega⟩))⟩
theorem cX.call {p h t : Nat} {G1 X : am_G} (q : cX p h G1 (xOpen Q s c (va_up (xF s) (xN s - 1) (xC s)) (fun _ => none)) t false) (hN : 1 ≤ xN s) (h8 : mG (Q c) ≤ 8) (hI : bgI G1 X s (mG (Q c)) 0) : cX p h X (xCall Q s c) t false := by
  obtain ⟨e1, e2, -⟩ := xOpen_N (Q := Q) (s := s) (c := c) (F := va_up (xF s) (xN s - 1) (xC s)) (V := fun _ => none)
  have e3 : xF (xOpen Q s c (va_up (xF s) (xN s - 1) (xC s)) (fun _ => none)) (xN (xOpen Q s c (va_up (xF s) (xN s - 1) (xC s)) (fun _ => none)) - 2) = xC s := by
    rw [e1, e2, show xN s + 1 - 2 = xN s - 1 by omega, am_up_eq]
  obtain ⟨a, b, c1, d, e, f⟩ := hI
  have := cX.two (G' := X) (D := uD (xC s) - mG (Q c)) (V := fun i => if i < mG (Q c) then some (uV (xC s) (uD (xC s) - mG (Q c) + i)) else none) q (by rw [e1]; omega) (by rw [e3]; omega) b (fun r h1 h2 => ?_) (fun k hk => ?_) ?_ (fun a' ha v hv => ?_)
  · rw [e3, xTwo_o hN] at this
    exact this
  · rw [e1] at h1 h2
    exact c1 r (by rw [show xN s - 1 = xN s + 1 - 2 by omega]; exact h1) (by rw [show xN s + 1 - 1 = xN s by omega] at h2; exact h2)
  · rw [e1, show xN s + 1 - 2 = xN s - 1 by omega]; exact d k hk
  · rw [e1, show xN s + 1 - 2 = xN s - 1 by omega]; rw [Nat.sub_zero] at e; exact e
  · rw [e1, show xN s + 1 - 1 = xN s by omega]
    have hv : (if a' < mG (Q c) then some (uV (xC s) (uD (xC s) - mG (Q c) + a')) else none) = some v := hv
    split at hv
    · rename_i hl; cases hv; exact f a' (Nat.zero_le _) hl
    · cases hv
end Ch
/-- behind an instruction -/
def xPost (p h : Nat) (G : am_G) (q : xT × Nat) : Prop := (q.2 = 0 → cX p h G q.1 0 false) ∧ (q.2 ≠ 0 → cX p h G q.1 q.2 true)
theorem xPost.z {p h : Nat} {G : am_G} {s : xT} (X : cX p h G s 0 false) : xPost p h G (s, 0) := ⟨fun _ => X, fun q => absurd rfl q⟩
theorem xPost.n {p h : Nat} {G : am_G} {q : xT × Nat} (hq : q.2 ≠ 0) (X : cX p h G q.1 q.2 true) : xPost p h G q := ⟨fun e => absurd e hq, fun _ => X⟩
theorem xPost.b1 {p h : Nat} {G : am_G} {q : xT × Nat} {v : Int32} (hq : 0 < q.2) (X : cX p h G q.1 q.2 true) : xPost p h G (xBack q v) := by
  unfold xBack
  rw [if_neg (by omega)]
  exact .n (by omega) X
theorem xPost.b2 {p h : Nat} {G : am_G} {q : xT × Nat} {v : Int32} (hq : q.2 = 0) (hN : xN q.1 = 0) (X : cX p h G (xVal q.1 v) 0 false) : xPost p h G (xBack q v) := by
  unfold xBack
  rw [if_pos hq, if_pos hN]
  exact .z X
theorem xPost.b3 {p h : Nat} {G : am_G} {q : xT × Nat} {v : Int32} (hq : q.2 = 0) (hN : ¬ xN q.1 = 0) (X : cX p h G (xSet q.1 (uGo (uPush (xC q.1) v) (uP (xC q.1) + 1))) 0 false) : xPost p h G (xBack q v) := by
  unfold xBack
  rw [if_pos hq, if_neg hN]
  exact .z X

set_option maxRecDepth 100000 in
theorem okM_uo0 (w : am_W) {d : Nat} (hd : 0 ≤ d) (G : am_G) (p h : Nat) (s : xT) (hN : 1 ≤ xN s) (hS : St0 G) (X : cX p h G s 0 true) : am_Ok w jM_useObject d (0, 0) [.inr (some 109), .inr (some (114 + 3 * (xN s - 1))), .inl (nI 0)] G (fun r G' => r = none ∧ cX p h G' (xSet s (uGo (xC s) (uP (xC s) + 1))) 0 false ∧ oM h G G') := by
  refine am_ok_of rfl (Nat.le_of_ble_eq_true rfl) ?_
  show am_Go w jM_useObject d (0, 0) 0 [some (.inr (some 109)), some (.inr (some (114 + 3 * (xN s - 1)))), some (.inl (nI 0)), none, none, none] [] G _
  have h12 := X.n12
  have hh := X.hh
  obtain ⟨k9, k10, k11, k12, k13, kh, kh1, g0, g1, g2, g3, gh⟩ := hS.cq hh
  obtain ⟨f0, f1, f2, f3, f4, f5⟩ := hS.fq (i := xN s - 1) (by omega)
  have lg := X.lg
  obtain ⟨⟨cnu, cbs, cdp, cd8⟩, cvl, clc⟩ := X.cf hN
  refine go_iload_n dM_useObject_0 rfl rfl ?_
  refine go_bipush (nI 15) (by decide) dM_useObject_1 ?_
  refine go_icmp_ltN (by decide) (by decide) dM_useObject_3 (tgt := 12) (by decide) (fun c1 => ?_) (fun c1 => absurd c1 (by decide))
  refine go_iload_n dM_useObject_12 rfl rfl ?_
  refine go_bipush (nI 26) (by decide) dM_useObject_13 ?_
  refine go_icmp_neN (by decide) (by decide) dM_useObject_15 (tgt := 22) (by decide) (fun c1 => ?_) (fun c1 => absurd c1 (by decide))
  refine go_iconst (am_b false) (by decide) dM_useObject_22 ?_
  refine go_istore_n dM_useObject_23 rfl (Nat.le_of_ble_eq_true rfl) ?_
  refine go_iload_n dM_useObject_24 rfl rfl ?_
  refine go_if_neB dM_useObject_25 (tgt := 29) (by decide) (fun c1 => absurd c1 (by decide)) (fun c1 => ?_)
  refine go_return rfl dM_useObject_28 ?_
  exact ⟨rfl, X.ms hN, oM.rf⟩
set_option maxRecDepth 100000 in
theorem okM_uo15 (w : am_W) {d : Nat} (hd : 1 ≤ d) (G : am_G) (p h : Nat) (s : xT) (hN : 1 ≤ xN s) (hS : St0 G) (X : cX p h G s 0 true) (u : Nat) (hu : uTop (xC s) = nI u) (h1 : 1 ≤ u) (h2 : u ≤ lM s.1) (hD : 1 ≤ uD (xC s)) (hM : lM s.1 ≤ 1000) : am_Ok w jM_useObject d (0, 0) [.inr (some 109), .inr (some (114 + 3 * (xN s - 1))), .inl (nI 15)] G (fun r G' => r = none ∧ cX p h G' (xSet s (uGo (uPush (uPop (xC s)) (xI s u)) (uP (xC s) + 1))) 0 false ∧ oM h G G') := by
  refine am_ok_of rfl (Nat.le_of_ble_eq_true rfl) ?_
  show am_Go w jM_useObject d (0, 0) 0 [some (.inr (some 109)), some (.inr (some (114 + 3 * (xN s - 1)))), some (.inl (nI 15)), none, none, none] [] G _
  have h12 := X.n12
  have hh := X.hh
  obtain ⟨k9, k10, k11, k12, k13, kh, kh1, g0, g1, g2, g3, gh⟩ := hS.cq hh
  obtain ⟨f0, f1, f2, f3, f4, f5⟩ := hS.fq (i := xN s - 1) (by omega)
  have lg := X.lg
  obtain ⟨⟨cnu, cbs, cdp, cd8⟩, cvl, clc⟩ := X.cf hN
  refine go_iload_n dM_useObject_0 rfl rfl ?_
  refine go_bipush (nI 15) (by decide) dM_useObject_1 ?_
  refine go_icmp_ltN (by decide) (by decide) dM_useObject_3 (tgt := 12) (by decide) (fun c1 => absurd c1 (by decide)) (fun c1 => ?_)
  refine go_iload_n dM_useObject_6 rfl rfl ?_
  refine go_bipush (nI 20) (by decide) dM_useObject_7 ?_
  refine go_icmp_leN (by decide) (by decide) dM_useObject_9 (tgt := 18) (by decide) (fun c1 => ?_) (fun c1 => absurd c1 (by decide))
  refine go_iconst (am_b true) (by decide) dM_useObject_18 ?_
  refine go_goto dM_useObject_19 (tgt := 23) (by decide) ?_
  refine go_istore_n dM_useObject_23 rfl (Nat.le_of_ble_eq_true rfl) ?_
  refine go_iload_n dM_useObject_24 rfl rfl ?_
  refine go_if_neB dM_useObject_25 (tgt := 29) (by decide) (fun c1 => ?_) (fun c1 => absurd c1 (by decide))
  refine go_iload_n dM_useObject_29 rfl rfl ?_
  refine go_bipush (nI 16) (by decide) dM_useObject_30 ?_
  refine go_icmp_neN (by decide) (by decide) dM_useObject_32 (tgt := 42) (by decide) (fun c1 => ?_) (fun c1 => absurd c1 (by decide))
  refine go_iconst (nI 0) (by decide) dM_useObject_42 ?_
  refine go_istore dM_useObject_43 (Nat.le_of_ble_eq_true rfl) ?_
  refine go_aload_n dM_useObject_45 rfl rfl ?_
  refine go_cV (k' := (0, 0)) dM_useObject_46 _ csM_136 (by assumption) rfl imA_pop seA_pop rfl (okA_popX (d := 0) w G p h 0 true (s) hN hS X (hD)) (by omega) (by decide) (Nat.le_of_ble_eq_true rfl) (fun r G1 hr hn => ?_)
  obtain ⟨rfl, X1, o1⟩ := hr
  rw [hu]
  have X1 : cX p h G1 (xSet s (uPop (xC s))) 0 true := X1
  have hS := o1.St hS
  obtain ⟨k9, k10, k11, k12, k13, kh, kh1, g0, g1, g2, g3, gh⟩ := hS.cq hh
  obtain ⟨f0, f1, f2, f3, f4, f5⟩ := hS.fq (i := xN s - 1) (by omega)
  have lg := X1.lg
  have oy1 : G1.2.1 111 u = nI (xY s u) := X1.oy h1 h2
  have oi1 : G1.2.1 112 u = xI s u := X1.oi h1 h2
  refine go_istore dM_useObject_49 (Nat.le_of_ble_eq_true rfl) ?_
  refine go_iload dM_useObject_51 rfl ?_
  refine go_if_neN (by omega) dM_useObject_53 (tgt := 64) (by decide) (fun c1 => ?_) (fun c1 => absurd c1 (by omega))
  refine go_iload_n dM_useObject_64 rfl rfl ?_
  refine go_bipush (nI 15) (by decide) dM_useObject_65 ?_
  refine go_icmp_neN (by decide) (by decide) dM_useObject_67 (tgt := 84) (by decide) (fun c1 => absurd c1 (by decide)) (fun c1 => ?_)
  refine go_aload_n dM_useObject_70 rfl rfl ?_
  refine go_aload_n dM_useObject_71 rfl rfl ?_
  refine go_getO dM_useObject_72 flM_21 rfl (by assumption) (by assumption) ?_
  refine go_iload dM_useObject_75 rfl ?_
  refine go_ialV k12 (by omega) (by decide) oi1 dM_useObject_77 ?_
  refine go_cV (k' := (0, 0)) dM_useObject_78 _ csM_117 (by assumption) rfl imA_push seA_push rfl (okA_pushX (d := 0) w G1 p h 0 true (xSet s (uPop (xC s))) hN (xI s u) hS X1 (show uD (xC s) - 1 < 8 by omega)) (by omega) (by decide) (Nat.le_of_ble_eq_true rfl) (fun r G1 hr hn => ?_)
  obtain ⟨rfl, X2, o2⟩ := hr
  have X2 : cX p h G1 (xSet s (uPush (uPop (xC s)) (xI s u))) 0 true := X2
  have hS := o2.St hS
  refine go_goto dM_useObject_81 (tgt := 167) (by decide) ?_
  refine go_return rfl dM_useObject_167 ?_
  exact ⟨rfl, cX.ms X2 hN, o1.tr o2⟩
set_option maxRecDepth 100000 in
theorem okM_uo26 (w : am_W) {d : Nat} (hd : 1 ≤ d) (G : am_G) (p h : Nat) (s : xT) (hN : 1 ≤ xN s) (hS : St0 G) (X : cX p h G s 0 true) (u : Nat) (hu : uTop (xC s) = nI u) (h1 : 1 ≤ u) (h2 : u ≤ lM s.1) (hD : 1 ≤ uD (xC s)) (hM : lM s.1 ≤ 1000) : am_Ok w jM_useObject d (0, 0) [.inr (some 109), .inr (some (114 + 3 * (xN s - 1))), .inl (nI 26)] G (fun r G' => r = none ∧ cX p h G' (xSet s (uGo (uPush (uPop (xC s)) (nI (xY s u))) (uP (xC s) + 1))) 0 false ∧ oM h G G') := by
  refine am_ok_of rfl (Nat.le_of_ble_eq_true rfl) ?_
  show am_Go w jM_useObject d (0, 0) 0 [some (.inr (some 109)), some (.inr (some (114 + 3 * (xN s - 1)))), some (.inl (nI 26)), none, none, none] [] G _
  have h12 := X.n12
  have hh := X.hh
  obtain ⟨k9, k10, k11, k12, k13, kh, kh1, g0, g1, g2, g3, gh⟩ := hS.cq hh
  obtain ⟨f0, f1, f2, f3, f4, f5⟩ := hS.fq (i := xN s - 1) (by omega)
  have lg := X.lg
  obtain ⟨⟨cnu, cbs, cdp, cd8⟩, cvl, clc⟩ := X.cf hN
  refine go_iload_n dM_useObject_0 rfl rfl ?_
  refine go_bipush (nI 15) (by decide) dM_useObject_1 ?_
  refine go_icmp_ltN (by decide) (by decide) dM_useObject_3 (tgt := 12) (by decide) (fun c1 => absurd c1 (by decide)) (fun c1 => ?_)
  refine go_iload_n dM_useObject_6 rfl rfl ?_
  refine go_bipush (nI 20) (by decide) dM_useObject_7 ?_
  refine go_icmp_leN (by decide) (by decide) dM_useObject_9 (tgt := 18) (by decide) (fun c1 => absurd c1 (by decide)) (fun c1 => ?_)
  refine go_iload_n dM_useObject_12 rfl rfl ?_
  refine go_bipush (nI 26) (by decide) dM_useObject_13 ?_
  refine go_icmp_neN (by decide) (by decide) dM_useObject_15 (tgt := 22) (by decide) (fun c1 => absurd c1 (by decide)) (fun c1 => ?_)
  refine go_iconst (am_b true) (by decide) dM_useObject_18 ?_
  refine go_goto dM_useObject_19 (tgt := 23) (by decide) ?_
  refine go_istore_n dM_useObject_23 rfl (Nat.le_of_ble_eq_true rfl) ?_
  refine go_iload_n dM_useObject_24 rfl rfl ?_
  refine go_if_neB dM_useObject_25 (tgt := 29) (by decide) (fun c1 => ?_) (fun c1 => absurd c1 (by decide))
  refine go_iload_n dM_useObject_29 rfl rfl ?_
  refine go_bipush (nI 16) (by decide) dM_useObject_30 ?_
  refine go_icmp_neN (by decide) (by decide) dM_useObject_32 (tgt := 42) (by decide) (fun c1 => ?_) (fun c1 => absurd c1 (by decide))
  refine go_iconst (nI 0) (by decide) dM_useObject_42 ?_
  refine go_istore dM_useObject_43 (Nat.le_of_ble_eq_true rfl) ?_
  refine go_aload_n dM_useObject_45 rfl rfl ?_
  refine go_cV (k' := (0, 0)) dM_useObject_46 _ csM_136 (by assumption) rfl imA_pop seA_pop rfl (okA_popX (d := 0) w G p h 0 true (s) hN hS X (hD)) (by omega) (by decide) (Nat.le_of_ble_eq_true rfl) (fun r G1 hr hn => ?_)
  obtain ⟨rfl, X1, o1⟩ := hr
  rw [hu]
  have X1 : cX p h G1 (xSet s (uPop (xC s))) 0 true := X1
  have hS := o1.St hS
  obtain ⟨k9, k10, k11, k12, k13, kh, kh1, g0, g1, g2, g3, gh⟩ := hS.cq hh
  obtain ⟨f0, f1, f2, f3, f4, f5⟩ := hS.fq (i := xN s - 1) (by omega)
  have lg := X1.lg
  have oy1 : G1.2.1 111 u = nI (xY s u) := X1.oy h1 h2
  have oi1 : G1.2.1 112 u = xI s u := X1.oi h1 h2
  refine go_istore dM_useObject_49 (Nat.le_of_ble_eq_true rfl) ?_
  refine go_iload dM_useObject_51 rfl ?_
  refine go_if_neN (by omega) dM_useObject_53 (tgt := 64) (by decide) (fun c1 => ?_) (fun c1 => absurd c1 (by omega))
  refine go_iload_n dM_useObject_64 rfl rfl ?_
  refine go_bipush (nI 15) (by decide) dM_useObject_65 ?_
  refine go_icmp_neN (by decide) (by decide) dM_useObject_67 (tgt := 84) (by decide) (fun c1 => ?_) (fun c1 => absurd c1 (by decide))
  refine go_iload_n dM_useObject_84 rfl rfl ?_
  refine go_bipush (nI 16) (by decide) dM_useObject_85 ?_
  refine go_icmp_neN (by decide) (by decide) dM_useObject_87 (tgt := 102) (by decide) (fun c1 => ?_) (fun c1 => absurd c1 (by decide))
  refine go_iload_n dM_useObject_102 rfl rfl ?_
  refine go_bipush (nI 26) (by decide) dM_useObject_103 ?_
  refine go_icmp_neN (by decide) (by decide) dM_useObject_105 (tgt := 122) (by decide) (fun c1 => absurd c1 (by decide)) (fun c1 => ?_)
  refine go_aload_n dM_useObject_108 rfl rfl ?_
  refine go_aload_n dM_useObject_109 rfl rfl ?_
  refine go_getO dM_useObject_110 flM_17 rfl (by assumption) (by assumption) ?_
  refine go_iload dM_useObject_113 rfl ?_
  refine go_ialV k11 (by omega) (by decide) oy1 dM_useObject_115 ?_
  refine go_cV (k' := (0, 0)) dM_useObject_116 _ csM_117 (by assumption) rfl imA_push seA_push rfl (okA_pushX (d := 0) w G1 p h 0 true (xSet s (uPop (xC s))) hN (nI (xY s u)) hS X1 (show uD (xC s) - 1 < 8 by omega)) (by omega) (by decide) (Nat.le_of_ble_eq_true rfl) (fun r G1 hr hn => ?_)
  obtain ⟨rfl, X2, o2⟩ := hr
  have X2 : cX p h G1 (xSet s (uPush (uPop (xC s)) (nI (xY s u)))) 0 true := X2
  have hS := o2.St hS
  refine go_goto dM_useObject_119 (tgt := 167) (by decide) ?_
  refine go_return rfl dM_useObject_167 ?_
  exact ⟨rfl, cX.ms X2 hN, o1.tr o2⟩
set_option maxRecDepth 100000 in
theorem okM_uo15z (w : am_W) {d : Nat} (hd : 3 ≤ d) (G : am_G) (p h : Nat) (s : xT) (hN : 1 ≤ xN s) (hS : St0 G) (X : cX p h G s 0 true) (hu : uTop (xC s) = nI 0) (hD : 1 ≤ uD (xC s)) (hM : lM s.1 < 1000) (hn : lNn s.1 < 800000) : am_Ok w jM_useObject d (0, 0) [.inr (some 109), .inr (some (114 + 3 * (xN s - 1))), .inl (nI 15)] G (fun r G' => r = none ∧ cX p h G' ((xNew (xSet s (uPop (xC s))) 2).1) (xNew (xSet s (uPop (xC s))) 2).2 true ∧ oM h G G') := by
  refine am_ok_of rfl (Nat.le_of_ble_eq_true rfl) ?_
  show am_Go w jM_useObject d (0, 0) 0 [some (.inr (some 109)), some (.inr (some (114 + 3 * (xN s - 1)))), some (.inl (nI 15)), none, none, none] [] G _
  have h12 := X.n12
  have hh := X.hh
  obtain ⟨k9, k10, k11, k12, k13, kh, kh1, g0, g1, g2, g3, gh⟩ := hS.cq hh
  obtain ⟨f0, f1, f2, f3, f4, f5⟩ := hS.fq (i := xN s - 1) (by omega)
  have lg := X.lg
  obtain ⟨⟨cnu, cbs, cdp, cd8⟩, cvl, clc⟩ := X.cf hN
  refine go_iload_n dM_useObject_0 rfl rfl ?_
  refine go_bipush (nI 15) (by decide) dM_useObject_1 ?_
  refine go_icmp_ltN (by decide) (by decide) dM_useObject_3 (tgt := 12) (by decide) (fun c1 => absurd c1 (by decide)) (fun c1 => ?_)
  refine go_iload_n dM_useObject_6 rfl rfl ?_
  refine go_bipush (nI 20) (by decide) dM_useObject_7 ?_
  refine go_icmp_leN (by decide) (by decide) dM_useObject_9 (tgt := 18) (by decide) (fun c1 => ?_) (fun c1 => absurd c1 (by decide))
  refine go_iconst (am_b true) (by decide) dM_useObject_18 ?_
  refine go_goto dM_useObject_19 (tgt := 23) (by decide) ?_
  refine go_istore_n dM_useObject_23 rfl (Nat.le_of_ble_eq_true rfl) ?_
  refine go_iload_n dM_useObject_24 rfl rfl ?_
  refine go_if_neB dM_useObject_25 (tgt := 29) (by decide) (fun c1 => ?_) (fun c1 => absurd c1 (by decide))
  refine go_iload_n dM_useObject_29 rfl rfl ?_
  refine go_bipush (nI 16) (by decide) dM_useObject_30 ?_
  refine go_icmp_neN (by decide) (by decide) dM_useObject_32 (tgt := 42) (by decide) (fun c1 => ?_) (fun c1 => absurd c1 (by decide))
  refine go_iconst (nI 0) (by decide) dM_useObject_42 ?_
  refine go_istore dM_useObject_43 (Nat.le_of_ble_eq_true rfl) ?_
  refine go_aload_n dM_useObject_45 rfl rfl ?_
  refine go_cV (k' := (0, 0)) dM_useObject_46 _ csM_136 (by assumption) rfl imA_pop seA_pop rfl (okA_popX (d := 0) w G p h 0 true (s) hN hS X (hD)) (by omega) (by decide) (Nat.le_of_ble_eq_true rfl) (fun r G1 hr hn => ?_)
  obtain ⟨rfl, X1, o1⟩ := hr
  rw [hu]
  have X1 : cX p h G1 (xSet s (uPop (xC s))) 0 true := X1
  have hS := o1.St hS
  obtain ⟨k9, k10, k11, k12, k13, kh, kh1, g0, g1, g2, g3, gh⟩ := hS.cq hh
  obtain ⟨f0, f1, f2, f3, f4, f5⟩ := hS.fq (i := xN s - 1) (by omega)
  have lg := X1.lg
  refine go_istore dM_useObject_49 (Nat.le_of_ble_eq_true rfl) ?_
  refine go_iload dM_useObject_51 rfl ?_
  refine go_if_neN (by decide) dM_useObject_53 (tgt := 64) (by decide) (fun c1 => absurd rfl c1) (fun c1 => ?_)
  refine go_aload_n dM_useObject_56 rfl rfl ?_
  refine go_iconst (nI 2) (by decide) dM_useObject_57 ?_
  refine go_cV (k' := (0, 0)) dM_useObject_58 _ csM_156 (by assumption) rfl imM_throwNew seM_throwNew rfl (okM_throwNew (d := 2) w (by decide) G1 p h 0 true (xSet s (uPop (xC s))) 2 hS X1 hM (show lNn s.1 < 900000 by omega)) (by omega) (by decide) (Nat.le_of_ble_eq_true rfl) (fun r G1 hr hn => ?_)
  obtain ⟨rfl, X2, o2⟩ := hr
  have hS := o2.St hS
  refine go_goto dM_useObject_61 (tgt := 167) (by decide) ?_
  refine go_return rfl dM_useObject_167 ?_
  exact ⟨rfl, X2, o1.tr o2⟩
set_option maxRecDepth 100000 in
theorem okM_uo18z (w : am_W) {d : Nat} (hd : 3 ≤ d) (G : am_G) (p h : Nat) (s : xT) (hN : 1 ≤ xN s) (hS : St0 G) (X : cX p h G s 0 true) (hu : uTop (xC s) = nI 0) (hD : 1 ≤ uD (xC s)) (hM : lM s.1 < 1000) (hn : lNn s.1 < 800000) : am_Ok w jM_useObject d (0, 0) [.inr (some 109), .inr (some (114 + 3 * (xN s - 1))), .inl (nI 18)] G (fun r G' => r = none ∧ cX p h G' ((xNew (xSet s (uPop (xC s))) 2).1) (xNew (xSet s (uPop (xC s))) 2).2 true ∧ oM h G G') := by
  refine am_ok_of rfl (Nat.le_of_ble_eq_true rfl) ?_
  show am_Go w jM_useObject d (0, 0) 0 [some (.inr (some 109)), some (.inr (some (114 + 3 * (xN s - 1)))), some (.inl (nI 18)), none, none, none] [] G _
  have h12 := X.n12
  have hh := X.hh
  obtain ⟨k9, k10, k11, k12, k13, kh, kh1, g0, g1, g2, g3, gh⟩ := hS.cq hh
  obtain ⟨f0, f1, f2, f3, f4, f5⟩ := hS.fq (i := xN s - 1) (by omega)
  have lg := X.lg
  obtain ⟨⟨cnu, cbs, cdp, cd8⟩, cvl, clc⟩ := X.cf hN
  refine go_iload_n dM_useObject_0 rfl rfl ?_
  refine go_bipush (nI 15) (by decide) dM_useObject_1 ?_
  refine go_icmp_ltN (by decide) (by decide) dM_useObject_3 (tgt := 12) (by decide) (fun c1 => absurd c1 (by decide)) (fun c1 => ?_)
  refine go_iload_n dM_useObject_6 rfl rfl ?_
  refine go_bipush (nI 20) (by decide) dM_useObject_7 ?_
  refine go_icmp_leN (by decide) (by decide) dM_useObject_9 (tgt := 18) (by decide) (fun c1 => ?_) (fun c1 => absurd c1 (by decide))
  refine go_iconst (am_b true) (by decide) dM_useObject_18 ?_
  refine go_goto dM_useObject_19 (tgt := 23) (by decide) ?_
  refine go_istore_n dM_useObject_23 rfl (Nat.le_of_ble_eq_true rfl) ?_
  refine go_iload_n dM_useObject_24 rfl rfl ?_
  refine go_if_neB dM_useObject_25 (tgt := 29) (by decide) (fun c1 => ?_) (fun c1 => absurd c1 (by decide))
  refine go_iload_n dM_useObject_29 rfl rfl ?_
  refine go_bipush (nI 16) (by decide) dM_useObject_30 ?_
  refine go_icmp_neN (by decide) (by decide) dM_useObject_32 (tgt := 42) (by decide) (fun c1 => ?_) (fun c1 => absurd c1 (by decide))
  refine go_iconst (nI 0) (by decide) dM_useObject_42 ?_
  refine go_istore dM_useObject_43 (Nat.le_of_ble_eq_true rfl) ?_
  refine go_aload_n dM_useObject_45 rfl rfl ?_
  refine go_cV (k' := (0, 0)) dM_useObject_46 _ csM_136 (by assumption) rfl imA_pop seA_pop rfl (okA_popX (d := 0) w G p h 0 true (s) hN hS X (hD)) (by omega) (by decide) (Nat.le_of_ble_eq_true rfl) (fun r G1 hr hn => ?_)
  obtain ⟨rfl, X1, o1⟩ := hr
  rw [hu]
  have X1 : cX p h G1 (xSet s (uPop (xC s))) 0 true := X1
  have hS := o1.St hS
  obtain ⟨k9, k10, k11, k12, k13, kh, kh1, g0, g1, g2, g3, gh⟩ := hS.cq hh
  obtain ⟨f0, f1, f2, f3, f4, f5⟩ := hS.fq (i := xN s - 1) (by omega)
  have lg := X1.lg
  refine go_istore dM_useObject_49 (Nat.le_of_ble_eq_true rfl) ?_
  refine go_iload dM_useObject_51 rfl ?_
  refine go_if_neN (by decide) dM_useObject_53 (tgt := 64) (by decide) (fun c1 => absurd rfl c1) (fun c1 => ?_)
  refine go_aload_n dM_useObject_56 rfl rfl ?_
  refine go_iconst (nI 2) (by decide) dM_useObject_57 ?_
  refine go_cV (k' := (0, 0)) dM_useObject_58 _ csM_156 (by assumption) rfl imM_throwNew seM_throwNew rfl (okM_throwNew (d := 2) w (by decide) G1 p h 0 true (xSet s (uPop (xC s))) 2 hS X1 hM (show lNn s.1 < 900000 by omega)) (by omega) (by decide) (Nat.le_of_ble_eq_true rfl) (fun r G1 hr hn => ?_)
  obtain ⟨rfl, X2, o2⟩ := hr
  have hS := o2.St hS
  refine go_goto dM_useObject_61 (tgt := 167) (by decide) ?_
  refine go_return rfl dM_useObject_167 ?_
  exact ⟨rfl, X2, o1.tr o2⟩
set_option maxRecDepth 100000 in
theorem okM_uo19z (w : am_W) {d : Nat} (hd : 3 ≤ d) (G : am_G) (p h : Nat) (s : xT) (hN : 1 ≤ xN s) (hS : St0 G) (X : cX p h G s 0 true) (hu : uTop (xC s) = nI 0) (hD : 1 ≤ uD (xC s)) (hM : lM s.1 < 1000) (hn : lNn s.1 < 800000) : am_Ok w jM_useObject d (0, 0) [.inr (some 109), .inr (some (114 + 3 * (xN s - 1))), .inl (nI 19)] G (fun r G' => r = none ∧ cX p h G' ((xNew (xSet s (uPop (xC s))) 2).1) (xNew (xSet s (uPop (xC s))) 2).2 true ∧ oM h G G') := by
  refine am_ok_of rfl (Nat.le_of_ble_eq_true rfl) ?_
  show am_Go w jM_useObject d (0, 0) 0 [some (.inr (some 109)), some (.inr (some (114 + 3 * (xN s - 1)))), some (.inl (nI 19)), none, none, none] [] G _
  have h12 := X.n12
  have hh := X.hh
  obtain ⟨k9, k10, k11, k12, k13, kh, kh1, g0, g1, g2, g3, gh⟩ := hS.cq hh
  obtain ⟨f0, f1, f2, f3, f4, f5⟩ := hS.fq (i := xN s - 1) (by omega)
  have lg := X.lg
  obtain ⟨⟨cnu, cbs, cdp, cd8⟩, cvl, clc⟩ := X.cf hN
  refine go_iload_n dM_useObject_0 rfl rfl ?_
  refine go_bipush (nI 15) (by decide) dM_useObject_1 ?_
  refine go_icmp_ltN (by decide) (by decide) dM_useObject_3 (tgt := 12) (by decide) (fun c1 => absurd c1 (by decide)) (fun c1 => ?_)
  refine go_iload_n dM_useObject_6 rfl rfl ?_
  refine go_bipush (nI 20) (by decide) dM_useObject_7 ?_
  refine go_icmp_leN (by decide) (by decide) dM_useObject_9 (tgt := 18) (by decide) (fun c1 => ?_) (fun c1 => absurd c1 (by decide))
  refine go_iconst (am_b true) (by decide) dM_useObject_18 ?_
  refine go_goto dM_useObject_19 (tgt := 23) (by decide) ?_
  refine go_istore_n dM_useObject_23 rfl (Nat.le_of_ble_eq_true rfl) ?_
  refine go_iload_n dM_useObject_24 rfl rfl ?_
  refine go_if_neB dM_useObject_25 (tgt := 29) (by decide) (fun c1 => ?_) (fun c1 => absurd c1 (by decide))
  refine go_iload_n dM_useObject_29 rfl rfl ?_
  refine go_bipush (nI 16) (by decide) dM_useObject_30 ?_
  refine go_icmp_neN (by decide) (by decide) dM_useObject_32 (tgt := 42) (by decide) (fun c1 => ?_) (fun c1 => absurd c1 (by decide))
  refine go_iconst (nI 0) (by decide) dM_useObject_42 ?_
  refine go_istore dM_useObject_43 (Nat.le_of_ble_eq_true rfl) ?_
  refine go_aload_n dM_useObject_45 rfl rfl ?_
  refine go_cV (k' := (0, 0)) dM_useObject_46 _ csM_136 (by assumption) rfl imA_pop seA_pop rfl (okA_popX (d := 0) w G p h 0 true (s) hN hS X (hD)) (by omega) (by decide) (Nat.le_of_ble_eq_true rfl) (fun r G1 hr hn => ?_)
  obtain ⟨rfl, X1, o1⟩ := hr
  rw [hu]
  have X1 : cX p h G1 (xSet s (uPop (xC s))) 0 true := X1
  have hS := o1.St hS
  obtain ⟨k9, k10, k11, k12, k13, kh, kh1, g0, g1, g2, g3, gh⟩ := hS.cq hh
  obtain ⟨f0, f1, f2, f3, f4, f5⟩ := hS.fq (i := xN s - 1) (by omega)
  have lg := X1.lg
  refine go_istore dM_useObject_49 (Nat.le_of_ble_eq_true rfl) ?_
  refine go_iload dM_useObject_51 rfl ?_
  refine go_if_neN (by decide) dM_useObject_53 (tgt := 64) (by decide) (fun c1 => absurd rfl c1) (fun c1 => ?_)
  refine go_aload_n dM_useObject_56 rfl rfl ?_
  refine go_iconst (nI 2) (by decide) dM_useObject_57 ?_
  refine go_cV (k' := (0, 0)) dM_useObject_58 _ csM_156 (by assumption) rfl imM_throwNew seM_throwNew rfl (okM_throwNew (d := 2) w (by decide) G1 p h 0 true (xSet s (uPop (xC s))) 2 hS X1 hM (show lNn s.1 < 900000 by omega)) (by omega) (by decide) (Nat.le_of_ble_eq_true rfl) (fun r G1 hr hn => ?_)
  obtain ⟨rfl, X2, o2⟩ := hr
  have hS := o2.St hS
  refine go_goto dM_useObject_61 (tgt := 167) (by decide) ?_
  refine go_return rfl dM_useObject_167 ?_
  exact ⟨rfl, X2, o1.tr o2⟩
set_option maxRecDepth 100000 in
theorem okM_uo20z (w : am_W) {d : Nat} (hd : 3 ≤ d) (G : am_G) (p h : Nat) (s : xT) (hN : 1 ≤ xN s) (hS : St0 G) (X : cX p h G s 0 true) (hu : uTop (xC s) = nI 0) (hD : 1 ≤ uD (xC s)) (hM : lM s.1 < 1000) (hn : lNn s.1 < 800000) : am_Ok w jM_useObject d (0, 0) [.inr (some 109), .inr (some (114 + 3 * (xN s - 1))), .inl (nI 20)] G (fun r G' => r = none ∧ cX p h G' ((xNew (xSet s (uPop (xC s))) 2).1) (xNew (xSet s (uPop (xC s))) 2).2 true ∧ oM h G G') := by
  refine am_ok_of rfl (Nat.le_of_ble_eq_true rfl) ?_
  show am_Go w jM_useObject d (0, 0) 0 [some (.inr (some 109)), some (.inr (some (114 + 3 * (xN s - 1)))), some (.inl (nI 20)), none, none, none] [] G _
  have h12 := X.n12
  have hh := X.hh
  obtain ⟨k9, k10, k11, k12, k13, kh, kh1, g0, g1, g2, g3, gh⟩ := hS.cq hh
  obtain ⟨f0, f1, f2, f3, f4, f5⟩ := hS.fq (i := xN s - 1) (by omega)
  have lg := X.lg
  obtain ⟨⟨cnu, cbs, cdp, cd8⟩, cvl, clc⟩ := X.cf hN
  refine go_iload_n dM_useObject_0 rfl rfl ?_
  refine go_bipush (nI 15) (by decide) dM_useObject_1 ?_
  refine go_icmp_ltN (by decide) (by decide) dM_useObject_3 (tgt := 12) (by decide) (fun c1 => absurd c1 (by decide)) (fun c1 => ?_)
  refine go_iload_n dM_useObject_6 rfl rfl ?_
  refine go_bipush (nI 20) (by decide) dM_useObject_7 ?_
  refine go_icmp_leN (by decide) (by decide) dM_useObject_9 (tgt := 18) (by decide) (fun c1 => ?_) (fun c1 => absurd c1 (by decide))
  refine go_iconst (am_b true) (by decide) dM_useObject_18 ?_
  refine go_goto dM_useObject_19 (tgt := 23) (by decide) ?_
  refine go_istore_n dM_useObject_23 rfl (Nat.le_of_ble_eq_true rfl) ?_
  refine go_iload_n dM_useObject_24 rfl rfl ?_
  refine go_if_neB dM_useObject_25 (tgt := 29) (by decide) (fun c1 => ?_) (fun c1 => absurd c1 (by decide))
  refine go_iload_n dM_useObject_29 rfl rfl ?_
  refine go_bipush (nI 16) (by decide) dM_useObject_30 ?_
  refine go_icmp_neN (by decide) (by decide) dM_useObject_32 (tgt := 42) (by decide) (fun c1 => ?_) (fun c1 => absurd c1 (by decide))
  refine go_iconst (nI 0) (by decide) dM_useObject_42 ?_
  refine go_istore dM_useObject_43 (Nat.le_of_ble_eq_true rfl) ?_
  refine go_aload_n dM_useObject_45 rfl rfl ?_
  refine go_cV (k' := (0, 0)) dM_useObject_46 _ csM_136 (by assumption) rfl imA_pop seA_pop rfl (okA_popX (d := 0) w G p h 0 true (s) hN hS X (hD)) (by omega) (by decide) (Nat.le_of_ble_eq_true rfl) (fun r G1 hr hn => ?_)
  obtain ⟨rfl, X1, o1⟩ := hr
  rw [hu]
  have X1 : cX p h G1 (xSet s (uPop (xC s))) 0 true := X1
  have hS := o1.St hS
  obtain ⟨k9, k10, k11, k12, k13, kh, kh1, g0, g1, g2, g3, gh⟩ := hS.cq hh
  obtain ⟨f0, f1, f2, f3, f4, f5⟩ := hS.fq (i := xN s - 1) (by omega)
  have lg := X1.lg
  refine go_istore dM_useObject_49 (Nat.le_of_ble_eq_true rfl) ?_
  refine go_iload dM_useObject_51 rfl ?_
  refine go_if_neN (by decide) dM_useObject_53 (tgt := 64) (by decide) (fun c1 => absurd rfl c1) (fun c1 => ?_)
  refine go_aload_n dM_useObject_56 rfl rfl ?_
  refine go_iconst (nI 2) (by decide) dM_useObject_57 ?_
  refine go_cV (k' := (0, 0)) dM_useObject_58 _ csM_156 (by assumption) rfl imM_throwNew seM_throwNew rfl (okM_throwNew (d := 2) w (by decide) G1 p h 0 true (xSet s (uPop (xC s))) 2 hS X1 hM (show lNn s.1 < 900000 by omega)) (by omega) (by decide) (Nat.le_of_ble_eq_true rfl) (fun r G1 hr hn => ?_)
  obtain ⟨rfl, X2, o2⟩ := hr
  have hS := o2.St hS
  refine go_goto dM_useObject_61 (tgt := 167) (by decide) ?_
  refine go_return rfl dM_useObject_167 ?_
  exact ⟨rfl, X2, o1.tr o2⟩
set_option maxRecDepth 100000 in
theorem okM_uo26z (w : am_W) {d : Nat} (hd : 3 ≤ d) (G : am_G) (p h : Nat) (s : xT) (hN : 1 ≤ xN s) (hS : St0 G) (X : cX p h G s 0 true) (hu : uTop (xC s) = nI 0) (hD : 1 ≤ uD (xC s)) (hM : lM s.1 < 1000) (hn : lNn s.1 < 800000) : am_Ok w jM_useObject d (0, 0) [.inr (some 109), .inr (some (114 + 3 * (xN s - 1))), .inl (nI 26)] G (fun r G' => r = none ∧ cX p h G' ((xNew (xSet s (uPop (xC s))) 2).1) (xNew (xSet s (uPop (xC s))) 2).2 true ∧ oM h G G') := by
  refine am_ok_of rfl (Nat.le_of_ble_eq_true rfl) ?_
  show am_Go w jM_useObject d (0, 0) 0 [some (.inr (some 109)), some (.inr (some (114 + 3 * (xN s - 1)))), some (.inl (nI 26)), none, none, none] [] G _
  have h12 := X.n12
  have hh := X.hh
  obtain ⟨k9, k10, k11, k12, k13, kh, kh1, g0, g1, g2, g3, gh⟩ := hS.cq hh
  obtain ⟨f0, f1, f2, f3, f4, f5⟩ := hS.fq (i := xN s - 1) (by omega)
  have lg := X.lg
  obtain ⟨⟨cnu, cbs, cdp, cd8⟩, cvl, clc⟩ := X.cf hN
  refine go_iload_n dM_useObject_0 rfl rfl ?_
  refine go_bipush (nI 15) (by decide) dM_useObject_1 ?_
  refine go_icmp_ltN (by decide) (by decide) dM_useObject_3 (tgt := 12) (by decide) (fun c1 => absurd c1 (by decide)) (fun c1 => ?_)
  refine go_iload_n dM_useObject_6 rfl rfl ?_
  refine go_bipush (nI 20) (by decide) dM_useObject_7 ?_
  refine go_icmp_leN (by decide) (by decide) dM_useObject_9 (tgt := 18) (by decide) (fun c1 => absurd c1 (by decide)) (fun c1 => ?_)
  refine go_iload_n dM_useObject_12 rfl rfl ?_
  refine go_bipush (nI 26) (by decide) dM_useObject_13 ?_
  refine go_icmp_neN (by decide) (by decide) dM_useObject_15 (tgt := 22) (by decide) (fun c1 => absurd c1 (by decide)) (fun c1 => ?_)
  refine go_iconst (am_b true) (by decide) dM_useObject_18 ?_
  refine go_goto dM_useObject_19 (tgt := 23) (by decide) ?_
  refine go_istore_n dM_useObject_23 rfl (Nat.le_of_ble_eq_true rfl) ?_
  refine go_iload_n dM_useObject_24 rfl rfl ?_
  refine go_if_neB dM_useObject_25 (tgt := 29) (by decide) (fun c1 => ?_) (fun c1 => absurd c1 (by decide))
  refine go_iload_n dM_useObject_29 rfl rfl ?_
  refine go_bipush (nI 16) (by decide) dM_useObject_30 ?_
  refine go_icmp_neN (by decide) (by decide) dM_useObject_32 (tgt := 42) (by decide) (fun c1 => ?_) (fun c1 => absurd c1 (by decide))
  refine go_iconst (nI 0) (by decide) dM_useObject_42 ?_
  refine go_istore dM_useObject_43 (Nat.le_of_ble_eq_true rfl) ?_
  refine go_aload_n dM_useObject_45 rfl rfl ?_
  refine go_cV (k' := (0, 0)) dM_useObject_46 _ csM_136 (by assumption) rfl imA_pop seA_pop rfl (okA_popX (d := 0) w G p h 0 true (s) hN hS X (hD)) (by omega) (by decide) (Nat.le_of_ble_eq_true rfl) (fun r G1 hr hn => ?_)
  obtain ⟨rfl, X1, o1⟩ := hr
  rw [hu]
  have X1 : cX p h G1 (xSet s (uPop (xC s))) 0 true := X1
  have hS := o1.St hS
  obtain ⟨k9, k10, k11, k12, k13, kh, kh1, g0, g1, g2, g3, gh⟩ := hS.cq hh
  obtain ⟨f0, f1, f2, f3, f4, f5⟩ := hS.fq (i := xN s - 1) (by omega)
  have lg := X1.lg
  refine go_istore dM_useObject_49 (Nat.le_of_ble_eq_true rfl) ?_
  refine go_iload dM_useObject_51 rfl ?_
  refine go_if_neN (by decide) dM_useObject_53 (tgt := 64) (by decide) (fun c1 => absurd rfl c1) (fun c1 => ?_)
  refine go_aload_n dM_useObject_56 rfl rfl ?_
  refine go_iconst (nI 2) (by decide) dM_useObject_57 ?_
  refine go_cV (k' := (0, 0)) dM_useObject_58 _ csM_156 (by assumption) rfl imM_throwNew seM_throwNew rfl (okM_throwNew (d := 2) w (by decide) G1 p h 0 true (xSet s (uPop (xC s))) 2 hS X1 hM (show lNn s.1 < 900000 by omega)) (by omega) (by decide) (Nat.le_of_ble_eq_true rfl) (fun r G1 hr hn => ?_)
  obtain ⟨rfl, X2, o2⟩ := hr
  have hS := o2.St hS
  refine go_goto dM_useObject_61 (tgt := 167) (by decide) ?_
  refine go_return rfl dM_useObject_167 ?_
  exact ⟨rfl, X2, o1.tr o2⟩
set_option maxRecDepth 100000 in
theorem okM_uo18 (w : am_W) {d : Nat} (hd : 2 ≤ d) (G : am_G) (p h : Nat) (s : xT) (hN : 1 ≤ xN s) (hS : St0 G) (X : cX p h G s 0 true) (u : Nat) (hu : uTop (xC s) = nI u) (h1 : 1 ≤ u) (h2 : u ≤ lM s.1) (hD : 1 ≤ uD (xC s)) (hH : xH s < 1000) (hM : lM s.1 ≤ 1000) (hn : lNn s.1 < 800000) : am_Ok w jM_useObject d (0, 0) [.inr (some 109), .inr (some (114 + 3 * (xN s - 1))), .inl (nI 18)] G (fun r G' => r = none ∧ cX p h G' (xSet (xTell (xHeld s (xH s + 1) (va_up (xE s) (xH s) u)) (nI u) 2) (uGo (uPop (xC s)) (uP (xC s) + 1))) 0 false ∧ oM h G G') := by
  refine am_ok_of rfl (Nat.le_of_ble_eq_true rfl) ?_
  show am_Go w jM_useObject d (0, 0) 0 [some (.inr (some 109)), some (.inr (some (114 + 3 * (xN s - 1)))), some (.inl (nI 18)), none, none, none] [] G _
  have h12 := X.n12
  have hh := X.hh
  obtain ⟨k9, k10, k11, k12, k13, kh, kh1, g0, g1, g2, g3, gh⟩ := hS.cq hh
  obtain ⟨f0, f1, f2, f3, f4, f5⟩ := hS.fq (i := xN s - 1) (by omega)
  have lg := X.lg
  obtain ⟨⟨cnu, cbs, cdp, cd8⟩, cvl, clc⟩ := X.cf hN
  refine go_iload_n dM_useObject_0 rfl rfl ?_
  refine go_bipush (nI 15) (by decide) dM_useObject_1 ?_
  refine go_icmp_ltN (by decide) (by decide) dM_useObject_3 (tgt := 12) (by decide) (fun c1 => absurd c1 (by decide)) (fun c1 => ?_)
  refine go_iload_n dM_useObject_6 rfl rfl ?_
  refine go_bipush (nI 20) (by decide) dM_useObject_7 ?_
  refine go_icmp_leN (by decide) (by decide) dM_useObject_9 (tgt := 18) (by decide) (fun c1 => ?_) (fun c1 => absurd c1 (by decide))
  refine go_iconst (am_b true) (by decide) dM_useObject_18 ?_
  refine go_goto dM_useObject_19 (tgt := 23) (by decide) ?_
  refine go_istore_n dM_useObject_23 rfl (Nat.le_of_ble_eq_true rfl) ?_
  refine go_iload_n dM_useObject_24 rfl rfl ?_
  refine go_if_neB dM_useObject_25 (tgt := 29) (by decide) (fun c1 => ?_) (fun c1 => absurd c1 (by decide))
  refine go_iload_n dM_useObject_29 rfl rfl ?_
  refine go_bipush (nI 16) (by decide) dM_useObject_30 ?_
  refine go_icmp_neN (by decide) (by decide) dM_useObject_32 (tgt := 42) (by decide) (fun c1 => ?_) (fun c1 => absurd c1 (by decide))
  refine go_iconst (nI 0) (by decide) dM_useObject_42 ?_
  refine go_istore dM_useObject_43 (Nat.le_of_ble_eq_true rfl) ?_
  refine go_aload_n dM_useObject_45 rfl rfl ?_
  refine go_cV (k' := (0, 0)) dM_useObject_46 _ csM_136 (by assumption) rfl imA_pop seA_pop rfl (okA_popX (d := 0) w G p h 0 true (s) hN hS X (hD)) (by omega) (by decide) (Nat.le_of_ble_eq_true rfl) (fun r G1 hr hn => ?_)
  obtain ⟨rfl, X1, o1⟩ := hr
  rw [hu]
  have X1 : cX p h G1 (xSet s (uPop (xC s))) 0 true := X1
  have hS := o1.St hS
  obtain ⟨k9, k10, k11, k12, k13, kh, kh1, g0, g1, g2, g3, gh⟩ := hS.cq hh
  obtain ⟨f0, f1, f2, f3, f4, f5⟩ := hS.fq (i := xN s - 1) (by omega)
  have lg := X1.lg
  refine go_istore dM_useObject_49 (Nat.le_of_ble_eq_true rfl) ?_
  refine go_iload dM_useObject_51 rfl ?_
  refine go_if_neN (by omega) dM_useObject_53 (tgt := 64) (by decide) (fun c1 => ?_) (fun c1 => absurd c1 (by omega))
  refine go_iload_n dM_useObject_64 rfl rfl ?_
  refine go_bipush (nI 15) (by decide) dM_useObject_65 ?_
  refine go_icmp_neN (by decide) (by decide) dM_useObject_67 (tgt := 84) (by decide) (fun c1 => ?_) (fun c1 => absurd c1 (by decide))
  refine go_iload_n dM_useObject_84 rfl rfl ?_
  refine go_bipush (nI 16) (by decide) dM_useObject_85 ?_
  refine go_icmp_neN (by decide) (by decide) dM_useObject_87 (tgt := 102) (by decide) (fun c1 => ?_) (fun c1 => absurd c1 (by decide))
  refine go_iload_n dM_useObject_102 rfl rfl ?_
  refine go_bipush (nI 26) (by decide) dM_useObject_103 ?_
  refine go_icmp_neN (by decide) (by decide) dM_useObject_105 (tgt := 122) (by decide) (fun c1 => ?_) (fun c1 => absurd c1 (by decide))
  refine go_iload_n dM_useObject_122 rfl rfl ?_
  refine go_bipush (nI 18) (by decide) dM_useObject_123 ?_
  refine go_icmp_neN (by decide) (by decide) dM_useObject_125 (tgt := 137) (by decide) (fun c1 => absurd c1 (by decide)) (fun c1 => ?_)
  refine go_aload_n dM_useObject_128 rfl rfl ?_
  refine go_iload dM_useObject_129 rfl ?_
  refine go_cV (k' := (0, 0)) dM_useObject_131 _ csM_163 (by assumption) rfl imM_enterLock seM_enterLock rfl (okM_enterLock (d := 1) w (by decide) G1 p h u (xSet s (uPop (xC s))) hS X1 hH (show lNn s.1 < 1000000 by omega)) (by omega) (by decide) (Nat.le_of_ble_eq_true rfl) (fun r G1 hr hn => ?_)
  obtain ⟨rfl, X2, o2⟩ := hr
  have hS := o2.St hS
  refine go_goto dM_useObject_134 (tgt := 167) (by decide) ?_
  refine go_return rfl dM_useObject_167 ?_
  exact ⟨rfl, cX.ms X2 hN, o1.tr o2⟩
set_option maxRecDepth 100000 in
theorem okM_uo20 (w : am_W) {d : Nat} (hd : 2 ≤ d) (G : am_G) (p h : Nat) (s : xT) (hN : 1 ≤ xN s) (hS : St0 G) (X : cX p h G s 0 true) (u : Nat) (hu : uTop (xC s) = nI u) (h1 : 1 ≤ u) (h2 : u ≤ lM s.1) (hD : 1 ≤ uD (xC s)) (hM : lM s.1 < 1000) (hn : lNn s.1 < 800000) : am_Ok w jM_useObject d (0, 0) [.inr (some 109), .inr (some (114 + 3 * (xN s - 1))), .inl (nI 20)] G (fun r G' => r = none ∧ cX p h G' (xTell (xSet s (uPop (xC s))) (nI (xY s u)) 4) u true ∧ oM h G G') := by
  refine am_ok_of rfl (Nat.le_of_ble_eq_true rfl) ?_
  show am_Go w jM_useObject d (0, 0) 0 [some (.inr (some 109)), some (.inr (some (114 + 3 * (xN s - 1)))), some (.inl (nI 20)), none, none, none] [] G _
  have h12 := X.n12
  have hh := X.hh
  obtain ⟨k9, k10, k11, k12, k13, kh, kh1, g0, g1, g2, g3, gh⟩ := hS.cq hh
  obtain ⟨f0, f1, f2, f3, f4, f5⟩ := hS.fq (i := xN s - 1) (by omega)
  have lg := X.lg
  obtain ⟨⟨cnu, cbs, cdp, cd8⟩, cvl, clc⟩ := X.cf hN
  refine go_iload_n dM_useObject_0 rfl rfl ?_
  refine go_bipush (nI 15) (by decide) dM_useObject_1 ?_
  refine go_icmp_ltN (by decide) (by decide) dM_useObject_3 (tgt := 12) (by decide) (fun c1 => absurd c1 (by decide)) (fun c1 => ?_)
  refine go_iload_n dM_useObject_6 rfl rfl ?_
  refine go_bipush (nI 20) (by decide) dM_useObject_7 ?_
  refine go_icmp_leN (by decide) (by decide) dM_useObject_9 (tgt := 18) (by decide) (fun c1 => ?_) (fun c1 => absurd c1 (by decide))
  refine go_iconst (am_b true) (by decide) dM_useObject_18 ?_
  refine go_goto dM_useObject_19 (tgt := 23) (by decide) ?_
  refine go_istore_n dM_useObject_23 rfl (Nat.le_of_ble_eq_true rfl) ?_
  refine go_iload_n dM_useObject_24 rfl rfl ?_
  refine go_if_neB dM_useObject_25 (tgt := 29) (by decide) (fun c1 => ?_) (fun c1 => absurd c1 (by decide))
  refine go_iload_n dM_useObject_29 rfl rfl ?_
  refine go_bipush (nI 16) (by decide) dM_useObject_30 ?_
  refine go_icmp_neN (by decide) (by decide) dM_useObject_32 (tgt := 42) (by decide) (fun c1 => ?_) (fun c1 => absurd c1 (by decide))
  refine go_iconst (nI 0) (by decide) dM_useObject_42 ?_
  refine go_istore dM_useObject_43 (Nat.le_of_ble_eq_true rfl) ?_
  refine go_aload_n dM_useObject_45 rfl rfl ?_
  refine go_cV (k' := (0, 0)) dM_useObject_46 _ csM_136 (by assumption) rfl imA_pop seA_pop rfl (okA_popX (d := 0) w G p h 0 true (s) hN hS X (hD)) (by omega) (by decide) (Nat.le_of_ble_eq_true rfl) (fun r G1 hr hn => ?_)
  obtain ⟨rfl, X1, o1⟩ := hr
  rw [hu]
  have X1 : cX p h G1 (xSet s (uPop (xC s))) 0 true := X1
  have hS := o1.St hS
  obtain ⟨k9, k10, k11, k12, k13, kh, kh1, g0, g1, g2, g3, gh⟩ := hS.cq hh
  obtain ⟨f0, f1, f2, f3, f4, f5⟩ := hS.fq (i := xN s - 1) (by omega)
  have lg := X1.lg
  refine go_istore dM_useObject_49 (Nat.le_of_ble_eq_true rfl) ?_
  refine go_iload dM_useObject_51 rfl ?_
  refine go_if_neN (by omega) dM_useObject_53 (tgt := 64) (by decide) (fun c1 => ?_) (fun c1 => absurd c1 (by omega))
  refine go_iload_n dM_useObject_64 rfl rfl ?_
  refine go_bipush (nI 15) (by decide) dM_useObject_65 ?_
  refine go_icmp_neN (by decide) (by decide) dM_useObject_67 (tgt := 84) (by decide) (fun c1 => ?_) (fun c1 => absurd c1 (by decide))
  refine go_iload_n dM_useObject_84 rfl rfl ?_
  refine go_bipush (nI 16) (by decide) dM_useObject_85 ?_
  refine go_icmp_neN (by decide) (by decide) dM_useObject_87 (tgt := 102) (by decide) (fun c1 => ?_) (fun c1 => absurd c1 (by decide))
  refine go_iload_n dM_useObject_102 rfl rfl ?_
  refine go_bipush (nI 26) (by decide) dM_useObject_103 ?_
  refine go_icmp_neN (by decide) (by decide) dM_useObject_105 (tgt := 122) (by decide) (fun c1 => ?_) (fun c1 => absurd c1 (by decide))
  refine go_iload_n dM_useObject_122 rfl rfl ?_
  refine go_bipush (nI 18) (by decide) dM_useObject_123 ?_
  refine go_icmp_neN (by decide) (by decide) dM_useObject_125 (tgt := 137) (by decide) (fun c1 => ?_) (fun c1 => absurd c1 (by decide))
  refine go_iload_n dM_useObject_137 rfl rfl ?_
  refine go_bipush (nI 20) (by decide) dM_useObject_138 ?_
  refine go_icmp_neN (by decide) (by decide) dM_useObject_140 (tgt := 152) (by decide) (fun c1 => absurd c1 (by decide)) (fun c1 => ?_)
  refine go_aload_n dM_useObject_143 rfl rfl ?_
  refine go_iload dM_useObject_144 rfl ?_
  refine go_cV (k' := (0, 0)) dM_useObject_146 _ csM_166 (by assumption) rfl imM_throwObject seM_throwObject rfl (okM_throwObject (d := 1) w (by decide) G1 p h 0 true (xSet s (uPop (xC s))) u hS X1 h1 h2 (show lM s.1 ≤ 1000 by omega) (show lNn s.1 < 1000000 by omega)) (by omega) (by decide) (Nat.le_of_ble_eq_true rfl) (fun r G1 hr hn => ?_)
  obtain ⟨rfl, X2, o2⟩ := hr
  have hS := o2.St hS
  refine go_goto dM_useObject_149 (tgt := 167) (by decide) ?_
  refine go_return rfl dM_useObject_167 ?_
  exact ⟨rfl, X2, o1.tr o2⟩
set_option maxRecDepth 100000 in
theorem okM_uo19a (w : am_W) {d : Nat} (hd : 2 ≤ d) (G : am_G) (p h : Nat) (s : xT) (hN : 1 ≤ xN s) (hS : St0 G) (X : cX p h G s 0 true) (u : Nat) (hu : uTop (xC s) = nI u) (h1 : 1 ≤ u) (h2 : u ≤ lM s.1) (hD : 1 ≤ uD (xC s)) (hB : uB (xC s) ≤ 1000) (hH : xH s ≤ 1000) (hE : ∀ k, k < xH s → xE s k ≤ 1000) (hM : lM s.1 < 1000) (hn : lNn s.1 < 800000) (k : Nat) (hf : xFind (xE s) (uB (xC s)) u (xH s) = some k) : am_Ok w jM_useObject d (0, 0) [.inr (some 109), .inr (some (114 + 3 * (xN s - 1))), .inl (nI 19)] G (fun r G' => r = none ∧ cX p h G' (xSet (xTell (xHeld s (xH s - 1) (fun j => if j < k then xE s j else xE s (j + 1))) (nI u) 3) (uGo (uPop (xC s)) (uP (xC s) + 1))) 0 false ∧ oM h G G') := by
  refine am_ok_of rfl (Nat.le_of_ble_eq_true rfl) ?_
  show am_Go w jM_useObject d (0, 0) 0 [some (.inr (some 109)), some (.inr (some (114 + 3 * (xN s - 1)))), some (.inl (nI 19)), none, none, none] [] G _
  have h12 := X.n12
  have hh := X.hh
  obtain ⟨k9, k10, k11, k12, k13, kh, kh1, g0, g1, g2, g3, gh⟩ := hS.cq hh
  obtain ⟨f0, f1, f2, f3, f4, f5⟩ := hS.fq (i := xN s - 1) (by omega)
  have lg := X.lg
  obtain ⟨⟨cnu, cbs, cdp, cd8⟩, cvl, clc⟩ := X.cf hN
  refine go_iload_n dM_useObject_0 rfl rfl ?_
  refine go_bipush (nI 15) (by decide) dM_useObject_1 ?_
  refine go_icmp_ltN (by decide) (by decide) dM_useObject_3 (tgt := 12) (by decide) (fun c1 => absurd c1 (by decide)) (fun c1 => ?_)
  refine go_iload_n dM_useObject_6 rfl rfl ?_
  refine go_bipush (nI 20) (by decide) dM_useObject_7 ?_
  refine go_icmp_leN (by decide) (by decide) dM_useObject_9 (tgt := 18) (by decide) (fun c1 => ?_) (fun c1 => absurd c1 (by decide))
  refine go_iconst (am_b true) (by decide) dM_useObject_18 ?_
  refine go_goto dM_useObject_19 (tgt := 23) (by decide) ?_
  refine go_istore_n dM_useObject_23 rfl (Nat.le_of_ble_eq_true rfl) ?_
  refine go_iload_n dM_useObject_24 rfl rfl ?_
  refine go_if_neB dM_useObject_25 (tgt := 29) (by decide) (fun c1 => ?_) (fun c1 => absurd c1 (by decide))
  refine go_iload_n dM_useObject_29 rfl rfl ?_
  refine go_bipush (nI 16) (by decide) dM_useObject_30 ?_
  refine go_icmp_neN (by decide) (by decide) dM_useObject_32 (tgt := 42) (by decide) (fun c1 => ?_) (fun c1 => absurd c1 (by decide))
  refine go_iconst (nI 0) (by decide) dM_useObject_42 ?_
  refine go_istore dM_useObject_43 (Nat.le_of_ble_eq_true rfl) ?_
  refine go_aload_n dM_useObject_45 rfl rfl ?_
  refine go_cV (k' := (0, 0)) dM_useObject_46 _ csM_136 (by assumption) rfl imA_pop seA_pop rfl (okA_popX (d := 0) w G p h 0 true (s) hN hS X (hD)) (by omega) (by decide) (Nat.le_of_ble_eq_true rfl) (fun r G1 hr hn => ?_)
  obtain ⟨rfl, X1, o1⟩ := hr
  rw [hu]
  have X1 : cX p h G1 (xSet s (uPop (xC s))) 0 true := X1
  have hS := o1.St hS
  obtain ⟨k9, k10, k11, k12, k13, kh, kh1, g0, g1, g2, g3, gh⟩ := hS.cq hh
  obtain ⟨f0, f1, f2, f3, f4, f5⟩ := hS.fq (i := xN s - 1) (by omega)
  have lg := X1.lg
  refine go_istore dM_useObject_49 (Nat.le_of_ble_eq_true rfl) ?_
  refine go_iload dM_useObject_51 rfl ?_
  refine go_if_neN (by omega) dM_useObject_53 (tgt := 64) (by decide) (fun c1 => ?_) (fun c1 => absurd c1 (by omega))
  refine go_iload_n dM_useObject_64 rfl rfl ?_
  refine go_bipush (nI 15) (by decide) dM_useObject_65 ?_
  refine go_icmp_neN (by decide) (by decide) dM_useObject_67 (tgt := 84) (by decide) (fun c1 => ?_) (fun c1 => absurd c1 (by decide))
  refine go_iload_n dM_useObject_84 rfl rfl ?_
  refine go_bipush (nI 16) (by decide) dM_useObject_85 ?_
  refine go_icmp_neN (by decide) (by decide) dM_useObject_87 (tgt := 102) (by decide) (fun c1 => ?_) (fun c1 => absurd c1 (by decide))
  refine go_iload_n dM_useObject_102 rfl rfl ?_
  refine go_bipush (nI 26) (by decide) dM_useObject_103 ?_
  refine go_icmp_neN (by decide) (by decide) dM_useObject_105 (tgt := 122) (by decide) (fun c1 => ?_) (fun c1 => absurd c1 (by decide))
  refine go_iload_n dM_useObject_122 rfl rfl ?_
  refine go_bipush (nI 18) (by decide) dM_useObject_123 ?_
  refine go_icmp_neN (by decide) (by decide) dM_useObject_125 (tgt := 137) (by decide) (fun c1 => ?_) (fun c1 => absurd c1 (by decide))
  refine go_iload_n dM_useObject_137 rfl rfl ?_
  refine go_bipush (nI 20) (by decide) dM_useObject_138 ?_
  refine go_icmp_neN (by decide) (by decide) dM_useObject_140 (tgt := 152) (by decide) (fun c1 => ?_) (fun c1 => absurd c1 (by decide))
  refine go_aload_n dM_useObject_152 rfl rfl ?_
  refine go_aload_n dM_useObject_153 rfl rfl ?_
  refine go_iload dM_useObject_154 rfl ?_
  refine go_cV (k' := (0, 0)) dM_useObject_156 _ csM_169 (by assumption) rfl imM_leaveLock seM_leaveLock rfl (okM_leaveA (d := 1) w (by decide) G1 p h u (xSet s (uPop (xC s))) hN (by omega) hB hH hE (show lNn s.1 < 1000000 by omega) hS X1 k hf) (by omega) (by decide) (Nat.le_of_ble_eq_true rfl) (fun r G1 hr hn => ?_)
  obtain ⟨rfl, X2, o2⟩ := hr
  refine go_if_neB dM_useObject_159 (tgt := 167) (by decide) (fun c1 => ?_) (fun c1 => absurd c1 (by decide))
  refine go_return rfl dM_useObject_167 ?_
  exact ⟨rfl, cX.ms X2 hN, o1.tr o2⟩
set_option maxRecDepth 100000 in
theorem okM_uo19b (w : am_W) {d : Nat} (hd : 3 ≤ d) (G : am_G) (p h : Nat) (s : xT) (hN : 1 ≤ xN s) (hS : St0 G) (X : cX p h G s 0 true) (u : Nat) (hu : uTop (xC s) = nI u) (h1 : 1 ≤ u) (h2 : u ≤ lM s.1) (hD : 1 ≤ uD (xC s)) (hB : uB (xC s) ≤ 1000) (hH : xH s ≤ 1000) (hE : ∀ k, k < xH s → xE s k ≤ 1000) (hM : lM s.1 < 1000) (hn : lNn s.1 < 800000) (hf : xFind (xE s) (uB (xC s)) u (xH s) = none) : am_Ok w jM_useObject d (0, 0) [.inr (some 109), .inr (some (114 + 3 * (xN s - 1))), .inl (nI 19)] G (fun r G' => r = none ∧ cX p h G' ((xNew (xSet s (uPop (xC s))) 3).1) (xNew (xSet s (uPop (xC s))) 3).2 true ∧ oM h G G') := by
  refine am_ok_of rfl (Nat.le_of_ble_eq_true rfl) ?_
  show am_Go w jM_useObject d (0, 0) 0 [some (.inr (some 109)), some (.inr (some (114 + 3 * (xN s - 1)))), some (.inl (nI 19)), none, none, none] [] G _
  have h12 := X.n12
  have hh := X.hh
  obtain ⟨k9, k10, k11, k12, k13, kh, kh1, g0, g1, g2, g3, gh⟩ := hS.cq hh
  obtain ⟨f0, f1, f2, f3, f4, f5⟩ := hS.fq (i := xN s - 1) (by omega)
  have lg := X.lg
  obtain ⟨⟨cnu, cbs, cdp, cd8⟩, cvl, clc⟩ := X.cf hN
  refine go_iload_n dM_useObject_0 rfl rfl ?_
  refine go_bipush (nI 15) (by decide) dM_useObject_1 ?_
  refine go_icmp_ltN (by decide) (by decide) dM_useObject_3 (tgt := 12) (by decide) (fun c1 => absurd c1 (by decide)) (fun c1 => ?_)
  refine go_iload_n dM_useObject_6 rfl rfl ?_
  refine go_bipush (nI 20) (by decide) dM_useObject_7 ?_
  refine go_icmp_leN (by decide) (by decide) dM_useObject_9 (tgt := 18) (by decide) (fun c1 => ?_) (fun c1 => absurd c1 (by decide))
  refine go_iconst (am_b true) (by decide) dM_useObject_18 ?_
  refine go_goto dM_useObject_19 (tgt := 23) (by decide) ?_
  refine go_istore_n dM_useObject_23 rfl (Nat.le_of_ble_eq_true rfl) ?_
  refine go_iload_n dM_useObject_24 rfl rfl ?_
  refine go_if_neB dM_useObject_25 (tgt := 29) (by decide) (fun c1 => ?_) (fun c1 => absurd c1 (by decide))
  refine go_iload_n dM_useObject_29 rfl rfl ?_
  refine go_bipush (nI 16) (by decide) dM_useObject_30 ?_
  refine go_icmp_neN (by decide) (by decide) dM_useObject_32 (tgt := 42) (by decide) (fun c1 => ?_) (fun c1 => absurd c1 (by decide))
  refine go_iconst (nI 0) (by decide) dM_useObject_42 ?_
  refine go_istore dM_useObject_43 (Nat.le_of_ble_eq_true rfl) ?_
  refine go_aload_n dM_useObject_45 rfl rfl ?_
  refine go_cV (k' := (0, 0)) dM_useObject_46 _ csM_136 (by assumption) rfl imA_pop seA_pop rfl (okA_popX (d := 0) w G p h 0 true (s) hN hS X (hD)) (by omega) (by decide) (Nat.le_of_ble_eq_true rfl) (fun r G1 hr hn => ?_)
  obtain ⟨rfl, X1, o1⟩ := hr
  rw [hu]
  have X1 : cX p h G1 (xSet s (uPop (xC s))) 0 true := X1
  have hS := o1.St hS
  obtain ⟨k9, k10, k11, k12, k13, kh, kh1, g0, g1, g2, g3, gh⟩ := hS.cq hh
  obtain ⟨f0, f1, f2, f3, f4, f5⟩ := hS.fq (i := xN s - 1) (by omega)
  have lg := X1.lg
  obtain ⟨Ga, ea⟩ : ∃ Ga, Ga = G1 := ⟨_, rfl⟩
  subst ea
  refine go_istore dM_useObject_49 (Nat.le_of_ble_eq_true rfl) ?_
  refine go_iload dM_useObject_51 rfl ?_
  refine go_if_neN (by omega) dM_useObject_53 (tgt := 64) (by decide) (fun c1 => ?_) (fun c1 => absurd c1 (by omega))
  refine go_iload_n dM_useObject_64 rfl rfl ?_
  refine go_bipush (nI 15) (by decide) dM_useObject_65 ?_
  refine go_icmp_neN (by decide) (by decide) dM_useObject_67 (tgt := 84) (by decide) (fun c1 => ?_) (fun c1 => absurd c1 (by decide))
  refine go_iload_n dM_useObject_84 rfl rfl ?_
  refine go_bipush (nI 16) (by decide) dM_useObject_85 ?_
  refine go_icmp_neN (by decide) (by decide) dM_useObject_87 (tgt := 102) (by decide) (fun c1 => ?_) (fun c1 => absurd c1 (by decide))
  refine go_iload_n dM_useObject_102 rfl rfl ?_
  refine go_bipush (nI 26) (by decide) dM_useObject_103 ?_
  refine go_icmp_neN (by decide) (by decide) dM_useObject_105 (tgt := 122) (by decide) (fun c1 => ?_) (fun c1 => absurd c1 (by decide))
  refine go_iload_n dM_useObject_122 rfl rfl ?_
  refine go_bipush (nI 18) (by decide) dM_useObject_123 ?_
  refine go_icmp_neN (by decide) (by decide) dM_useObject_125 (tgt := 137) (by decide) (fun c1 => ?_) (fun c1 => absurd c1 (by decide))
  refine go_iload_n dM_useObject_137 rfl rfl ?_
  refine go_bipush (nI 20) (by decide) dM_useObject_138 ?_
  refine go_icmp_neN (by decide) (by decide) dM_useObject_140 (tgt := 152) (by decide) (fun c1 => ?_) (fun c1 => absurd c1 (by decide))
  refine go_aload_n dM_useObject_152 rfl rfl ?_
  refine go_aload_n dM_useObject_153 rfl rfl ?_
  refine go_iload dM_useObject_154 rfl ?_
  refine go_cV (k' := (0, 0)) dM_useObject_156 _ csM_169 (by assumption) rfl imM_leaveLock seM_leaveLock rfl (okM_leaveB (d := 1) w (by decide) Ga p h u (xSet s (uPop (xC s))) hN (by omega) hB hH hE (show lNn s.1 < 1000000 by omega) hS X1 hf) (by omega) (by decide) (Nat.le_of_ble_eq_true rfl) (fun r G1 hr hn => ?_)
  obtain ⟨rfl, hG⟩ := hr
  rw [hG]
  clear hG hn
  refine go_if_neB dM_useObject_159 (tgt := 167) (by decide) (fun c1 => absurd c1 (by decide)) (fun c1 => ?_)
  refine go_aload_n dM_useObject_162 rfl rfl ?_
  refine go_iconst (nI 3) (by decide) dM_useObject_163 ?_
  refine go_cV (k' := (0, 0)) dM_useObject_164 _ csM_156 (by assumption) rfl imM_throwNew seM_throwNew rfl (okM_throwNew (d := 2) w (by decide) Ga p h 0 true (xSet s (uPop (xC s))) 3 hS X1 hM (show lNn s.1 < 900000 by omega)) (by omega) (by decide) (Nat.le_of_ble_eq_true rfl) (fun r G1 hr hn => ?_)
  obtain ⟨rfl, X2, o2⟩ := hr
  have hS := o2.St hS
  refine go_return rfl dM_useObject_167 ?_
  exact ⟨rfl, X2, o1.tr o2⟩
set_option maxRecDepth 100000 in
theorem okM_uo16 (w : am_W) {d : Nat} (hd : 1 ≤ d) (G : am_G) (p h : Nat) (s : xT) (hN : 1 ≤ xN s) (hS : St0 G) (X : cX p h G s 0 true) (u : Nat) (hu : uTop (uPop (xC s)) = nI u) (h1 : 1 ≤ u) (h2 : u ≤ lM s.1) (hD : 2 ≤ uD (xC s)) (hM : lM s.1 ≤ 1000) : am_Ok w jM_useObject d (0, 0) [.inr (some 109), .inr (some (114 + 3 * (xN s - 1))), .inl (nI 16)] G (fun r G' => r = none ∧ cX p h G' (xSet (xItem s u (uTop (xC s))) (uGo (uPop (uPop (xC s))) (uP (xC s) + 1))) 0 false ∧ oM h G G') := by
  refine am_ok_of rfl (Nat.le_of_ble_eq_true rfl) ?_
  show am_Go w jM_useObject d (0, 0) 0 [some (.inr (some 109)), some (.inr (some (114 + 3 * (xN s - 1)))), some (.inl (nI 16)), none, none, none] [] G _
  have h12 := X.n12
  have hh := X.hh
  obtain ⟨k9, k10, k11, k12, k13, kh, kh1, g0, g1, g2, g3, gh⟩ := hS.cq hh
  obtain ⟨f0, f1, f2, f3, f4, f5⟩ := hS.fq (i := xN s - 1) (by omega)
  have lg := X.lg
  obtain ⟨⟨cnu, cbs, cdp, cd8⟩, cvl, clc⟩ := X.cf hN
  refine go_iload_n dM_useObject_0 rfl rfl ?_
  refine go_bipush (nI 15) (by decide) dM_useObject_1 ?_
  refine go_icmp_ltN (by decide) (by decide) dM_useObject_3 (tgt := 12) (by decide) (fun c1 => absurd c1 (by decide)) (fun c1 => ?_)
  refine go_iload_n dM_useObject_6 rfl rfl ?_
  refine go_bipush (nI 20) (by decide) dM_useObject_7 ?_
  refine go_icmp_leN (by decide) (by decide) dM_useObject_9 (tgt := 18) (by decide) (fun c1 => ?_) (fun c1 => absurd c1 (by decide))
  refine go_iconst (am_b true) (by decide) dM_useObject_18 ?_
  refine go_goto dM_useObject_19 (tgt := 23) (by decide) ?_
  refine go_istore_n dM_useObject_23 rfl (Nat.le_of_ble_eq_true rfl) ?_
  refine go_iload_n dM_useObject_24 rfl rfl ?_
  refine go_if_neB dM_useObject_25 (tgt := 29) (by decide) (fun c1 => ?_) (fun c1 => absurd c1 (by decide))
  refine go_iload_n dM_useObject_29 rfl rfl ?_
  refine go_bipush (nI 16) (by decide) dM_useObject_30 ?_
  refine go_icmp_neN (by decide) (by decide) dM_useObject_32 (tgt := 42) (by decide) (fun c1 => absurd c1 (by decide)) (fun c1 => ?_)
  refine go_aload_n dM_useObject_35 rfl rfl ?_
  refine go_cV (k' := (0, 0)) dM_useObject_36 _ csM_136 (by assumption) rfl imA_pop seA_pop rfl (okA_popX (d := 0) w G p h 0 true (s) hN hS X (by omega)) (by omega) (by decide) (Nat.le_of_ble_eq_true rfl) (fun r G1 hr hn => ?_)
  obtain ⟨rfl, X1, o1⟩ := hr
  have X1 : cX p h G1 (xSet s (uPop (xC s))) 0 true := X1
  have hS := o1.St hS
  obtain ⟨f0, f1, f2, f3, f4, f5⟩ := hS.fq (i := xN s - 1) (by omega)
  have k9 := hS.s sh_109
  refine go_goto dM_useObject_39 (tgt := 43) (by decide) ?_
  refine go_istore dM_useObject_43 (Nat.le_of_ble_eq_true rfl) ?_
  refine go_aload_n dM_useObject_45 rfl rfl ?_
  refine go_cV (k' := (0, 0)) dM_useObject_46 _ csM_136 (by assumption) rfl imA_pop seA_pop rfl (okA_popX (d := 0) w G1 p h 0 true (xSet s (uPop (xC s))) hN hS X1 (show 1 ≤ uD (xC s) - 1 by omega)) (by omega) (by decide) (Nat.le_of_ble_eq_true rfl) (fun r G1 hr hn => ?_)
  obtain ⟨rfl, X2, o2⟩ := hr
  change am_Go w jM_useObject d (0, 0) 49 _ [.inl (uTop (uPop (xC s)))] _ _
  rw [hu]
  have X2 : cX p h G1 (xSet s (uPop (uPop (xC s)))) 0 true := X2
  have hS := o2.St hS
  obtain ⟨k9, k10, k11, k12, k13, kh, kh1, g0, g1, g2, g3, gh⟩ := hS.cq hh
  have lg := X2.lg
  refine go_istore dM_useObject_49 (Nat.le_of_ble_eq_true rfl) ?_
  refine go_iload dM_useObject_51 rfl ?_
  refine go_if_neN (by omega) dM_useObject_53 (tgt := 64) (by decide) (fun c1 => ?_) (fun c1 => absurd c1 (by omega))
  refine go_iload_n dM_useObject_64 rfl rfl ?_
  refine go_bipush (nI 15) (by decide) dM_useObject_65 ?_
  refine go_icmp_neN (by decide) (by decide) dM_useObject_67 (tgt := 84) (by decide) (fun c1 => ?_) (fun c1 => absurd c1 (by decide))
  refine go_iload_n dM_useObject_84 rfl rfl ?_
  refine go_bipush (nI 16) (by decide) dM_useObject_85 ?_
  refine go_icmp_neN (by decide) (by decide) dM_useObject_87 (tgt := 102) (by decide) (fun c1 => absurd c1 (by decide)) (fun c1 => ?_)
  refine go_aload_n dM_useObject_90 rfl rfl ?_
  refine go_getO dM_useObject_91 flM_21 rfl (by assumption) (by assumption) ?_
  refine go_iload dM_useObject_94 rfl ?_
  refine go_iload dM_useObject_96 rfl ?_
  refine go_iastoreN (by assumption) (by omega) (by decide) dM_useObject_98 ?_
  refine go_goto dM_useObject_99 (tgt := 167) (by decide) ?_
  refine go_return rfl dM_useObject_167 ?_
  exact ⟨rfl, cX.ms X2.item hN, (o1.tr o2).tr (oM.w ⟨by decide, by decide⟩)⟩
set_option maxRecDepth 100000 in
theorem okM_uo16z (w : am_W) {d : Nat} (hd : 3 ≤ d) (G : am_G) (p h : Nat) (s : xT) (hN : 1 ≤ xN s) (hS : St0 G) (X : cX p h G s 0 true) (hu : uTop (uPop (xC s)) = nI 0) (hD : 2 ≤ uD (xC s)) (hM : lM s.1 < 1000) (hn : lNn s.1 < 800000) : am_Ok w jM_useObject d (0, 0) [.inr (some 109), .inr (some (114 + 3 * (xN s - 1))), .inl (nI 16)] G (fun r G' => r = none ∧ cX p h G' ((xNew (xSet s (uPop (uPop (xC s)))) 2).1) (xNew (xSet s (uPop (uPop (xC s)))) 2).2 true ∧ oM h G G') := by
  refine am_ok_of rfl (Nat.le_of_ble_eq_true rfl) ?_
  show am_Go w jM_useObject d (0, 0) 0 [some (.inr (some 109)), some (.inr (some (114 + 3 * (xN s - 1)))), some (.inl (nI 16)), none, none, none] [] G _
  have h12 := X.n12
  have hh := X.hh
  obtain ⟨k9, k10, k11, k12, k13, kh, kh1, g0, g1, g2, g3, gh⟩ := hS.cq hh
  obtain ⟨f0, f1, f2, f3, f4, f5⟩ := hS.fq (i := xN s - 1) (by omega)
  have lg := X.lg
  obtain ⟨⟨cnu, cbs, cdp, cd8⟩, cvl, clc⟩ := X.cf hN
  refine go_iload_n dM_useObject_0 rfl rfl ?_
  refine go_bipush (nI 15) (by decide) dM_useObject_1 ?_
  refine go_icmp_ltN (by decide) (by decide) dM_useObject_3 (tgt := 12) (by decide) (fun c1 => absurd c1 (by decide)) (fun c1 => ?_)
  refine go_iload_n dM_useObject_6 rfl rfl ?_
  refine go_bipush (nI 20) (by decide) dM_useObject_7 ?_
  refine go_icmp_leN (by decide) (by decide) dM_useObject_9 (tgt := 18) (by decide) (fun c1 => ?_) (fun c1 => absurd c1 (by decide))
  refine go_iconst (am_b true) (by decide) dM_useObject_18 ?_
  refine go_goto dM_useObject_19 (tgt := 23) (by decide) ?_
  refine go_istore_n dM_useObject_23 rfl (Nat.le_of_ble_eq_true rfl) ?_
  refine go_iload_n dM_useObject_24 rfl rfl ?_
  refine go_if_neB dM_useObject_25 (tgt := 29) (by decide) (fun c1 => ?_) (fun c1 => absurd c1 (by decide))
  refine go_iload_n dM_useObject_29 rfl rfl ?_
  refine go_bipush (nI 16) (by decide) dM_useObject_30 ?_
  refine go_icmp_neN (by decide) (by decide) dM_useObject_32 (tgt := 42) (by decide) (fun c1 => absurd c1 (by decide)) (fun c1 => ?_)
  refine go_aload_n dM_useObject_35 rfl rfl ?_
  refine go_cV (k' := (0, 0)) dM_useObject_36 _ csM_136 (by assumption) rfl imA_pop seA_pop rfl (okA_popX (d := 0) w G p h 0 true (s) hN hS X (by omega)) (by omega) (by decide) (Nat.le_of_ble_eq_true rfl) (fun r G1 hr hn => ?_)
  obtain ⟨rfl, X1, o1⟩ := hr
  have X1 : cX p h G1 (xSet s (uPop (xC s))) 0 true := X1
  have hS := o1.St hS
  obtain ⟨f0, f1, f2, f3, f4, f5⟩ := hS.fq (i := xN s - 1) (by omega)
  have k9 := hS.s sh_109
  refine go_goto dM_useObject_39 (tgt := 43) (by decide) ?_
  refine go_istore dM_useObject_43 (Nat.le_of_ble_eq_true rfl) ?_
  refine go_aload_n dM_useObject_45 rfl rfl ?_
  refine go_cV (k' := (0, 0)) dM_useObject_46 _ csM_136 (by assumption) rfl imA_pop seA_pop rfl (okA_popX (d := 0) w G1 p h 0 true (xSet s (uPop (xC s))) hN hS X1 (show 1 ≤ uD (xC s) - 1 by omega)) (by omega) (by decide) (Nat.le_of_ble_eq_true rfl) (fun r G1 hr hn => ?_)
  obtain ⟨rfl, X2, o2⟩ := hr
  change am_Go w jM_useObject d (0, 0) 49 _ [.inl (uTop (uPop (xC s)))] _ _
  rw [hu]
  have X2 : cX p h G1 (xSet s (uPop (uPop (xC s)))) 0 true := X2
  have hS := o2.St hS
  obtain ⟨k9, k10, k11, k12, k13, kh, kh1, g0, g1, g2, g3, gh⟩ := hS.cq hh
  have lg := X2.lg
  refine go_istore dM_useObject_49 (Nat.le_of_ble_eq_true rfl) ?_
  refine go_iload dM_useObject_51 rfl ?_
  refine go_if_neN (by decide) dM_useObject_53 (tgt := 64) (by decide) (fun c1 => absurd rfl c1) (fun c1 => ?_)
  refine go_aload_n dM_useObject_56 rfl rfl ?_
  refine go_iconst (nI 2) (by decide) dM_useObject_57 ?_
  refine go_cV (k' := (0, 0)) dM_useObject_58 _ csM_156 (by assumption) rfl imM_throwNew seM_throwNew rfl (okM_throwNew (d := 2) w (by decide) G1 p h 0 true (xSet s (uPop (uPop (xC s)))) 2 hS X2 hM (show lNn s.1 < 900000 by omega)) (by omega) (by decide) (Nat.le_of_ble_eq_true rfl) (fun r G1 hr hn => ?_)
  obtain ⟨rfl, X3, o3⟩ := hr
  have hS := o3.St hS
  refine go_goto dM_useObject_61 (tgt := 167) (by decide) ?_
  refine go_return rfl dM_useObject_167 ?_
  exact ⟨rfl, X3, (o1.tr o2).tr o3⟩
set_option maxRecDepth 100000 in
theorem okM_bcA (w : am_W) {d : Nat} (hd : 3 ≤ d) (G : am_G) (p h : Nat) (s : xT) (hN : 1 ≤ xN s) (hS : St0 G) (X : cX p h G s 0 true) (a : Nat) (hx : xN s = 12) (hM : lM s.1 < 1000) (hn : lNn s.1 < 800000) : am_Ok w jM_beginCall d (0, 0) [.inr (some 109), .inr (some (114 + 3 * (xN s - 1))), .inl (nI a)] G (fun r G' => r = none ∧ cX p h G' ((xNew s 4).1) (xNew s 4).2 true ∧ oM h G G') := by
  refine am_ok_of rfl (Nat.le_of_ble_eq_true rfl) ?_
  show am_Go w jM_beginCall d (0, 0) 0 [some (.inr (some 109)), some (.inr (some (114 + 3 * (xN s - 1)))), some (.inl (nI a)), none, none] [] G _
  have h12 := X.n12
  have hh := X.hh
  obtain ⟨k9, k10, k11, k12, k13, kh, kh1, g0, g1, g2, g3, gh⟩ := hS.cq hh
  obtain ⟨f0, f1, f2, f3, f4, f5⟩ := hS.fq (i := xN s - 1) (by omega)
  have lg := X.lg
  obtain ⟨⟨cnu, cbs, cdp, cd8⟩, cvl, clc⟩ := X.cf hN
  have nn := X.nn
  refine go_aload_n dM_beginCall_0 rfl rfl ?_
  refine go_getV dM_beginCall_1 flM_41 rfl (by assumption) (by first | assumption | (simp (disch := omega) only [wi_I, ro_I, wi_In, wi_Is]; done) | (simp (disch := omega) only [wi_I, ro_I, wi_In, wi_Is]; first | assumption | rfl) | rfl) ?_
  refine go_bipush (nI 12) (by decide) dM_beginCall_4 ?_
  refine go_icmp_ltN (by omega) (by decide) dM_beginCall_6 (tgt := 15) (by decide) (fun c1 => absurd c1 (by omega)) (fun c1 => ?_)
  refine go_aload_n dM_beginCall_9 rfl rfl ?_
  refine go_iconst (nI 4) (by decide) dM_beginCall_10 ?_
  refine go_cV (k' := (0, 0)) dM_beginCall_11 _ csM_156 (by assumption) rfl imM_throwNew seM_throwNew rfl (okM_throwNew (d := 2) w (by decide) G p h 0 true s 4 hS X hM (by omega)) (by omega) (by decide) (Nat.le_of_ble_eq_true rfl) (fun r G1 hr hn => ?_)
  obtain ⟨rfl, X1, o1⟩ := hr
  have hS := o1.St hS
  refine go_return rfl dM_beginCall_14 ?_
  exact ⟨rfl, X1, o1⟩
set_option maxRecDepth 100000 in
theorem M_bc (w : am_W) {d : Nat} {P : Option am_V → am_G → Prop} (hd : 1 ≤ d) (G1 : am_G) (a n : Nat) (s : xT) (hN : 1 ≤ xN s) (h12 : xN s < 12) (hn3 : n ≤ 3) (hD : n ≤ uD (xC s)) (h8 : uD (xC s) ≤ 8) (hV : ∀ d, d < uD (xC s) → G1.2.1 (116 + 3 * (xN s - 1)) d = uV (xC s) d)
    (K : ∀ (X : am_G), bgI G1 X s n 0 → P none X) :
    ∀ (r : Nat) (X : am_G), r ≤ n → St0 X → bgI G1 X s n r → am_Go w jM_beginCall d (0, 0) 37 [some (.inr (some 109)), some (.inr (some (114 + 3 * (xN s - 1)))), some (.inl (nI a)), some (.inr (some (114 + 3 * xN s))), some (.inl (nM r))] [] X P := by
  intro r
  induction r with
  | zero =>
    intro X hr hS hI
    refine go_iload dM_beginCall_37 rfl ?_
    refine go_if_lt dM_beginCall_39 (tgt := 59) (by decide) (fun c1 => ?_) (fun c1 => absurd (by decide) c1)
    refine go_return rfl dM_beginCall_59 ?_
    exact K X hI
  | succ r ih =>
    intro X hr hS hI
    rw [nM_1]
    have dp := hI.2.2.2.2.1
    have vl : X.2.1 (116 + 3 * (xN s - 1)) (uD (xC s) - (n - (r + 1)) - 1) = uV (xC s) (uD (xC s) - (n - (r + 1)) - 1) := by rw [hI.2.2.1 _ (by omega) (by omega)]; exact hV _ (by omega)
    obtain ⟨f0, f1, f2, f3, f4, f5⟩ := hS.fq (i := xN s) (h12)
    have fc := (hS.fq (i := xN s - 1) (by omega)).1
    refine go_iload dM_beginCall_37 rfl ?_
    refine go_if_lt dM_beginCall_39 (tgt := 59) (by decide) (fun c1 => absurd c1 (nI_n0 (by omega))) (fun c1 => ?_)
    refine go_aload_n dM_beginCall_42 rfl rfl ?_
    refine go_getO dM_beginCall_43 flM_55 rfl (by assumption) (by assumption) ?_
    refine go_iload dM_beginCall_46 rfl ?_
    refine go_aload_n dM_beginCall_48 rfl rfl ?_
    refine go_cV (k' := (0, 0)) dM_beginCall_49 [] csM_136 (by assumption) rfl imA_pop seA_pop rfl (okA_pop (d := 0) w X (xN s - 1) (by omega) hS (uD (xC s) - (n - (r + 1))) (by omega) (by omega) dp) (by omega) (by decide) (Nat.le_of_ble_eq_true rfl) (fun r G1 hr hn => ?_)
    obtain ⟨rfl, hG⟩ := hr
    rw [hG, vl]
    clear hG hn
    refine go_iastoreN (by assumption) (by omega) (by decide) dM_beginCall_52 ?_
    refine go_iinc dM_beginCall_53 rfl ?_
    rw [nM_d]
    refine go_goto dM_beginCall_56 (tgt := 37) (by decide) ?_
    exact ih _ (by omega) hS (hI.nx hN hr hD)
set_option maxRecDepth 100000 in
theorem okM_bcB (w : am_W) {d : Nat} (hd : 2 ≤ d) (G : am_G) (p h : Nat) (s : xT) (hN : 1 ≤ xN s) (hS : St0 G) (X : cX p h G s 0 true) (a : Nat) (Q : Nat → mT) (hp : p < 2) (ha : a < 6) (hx : xN s < 12) (hX : lX s.1 ≤ 12) (hn : lNn s.1 < 800000) (hD : mG (Q a) ≤ uD (xC s)) (hP : hldP G p Q) : am_Ok w jM_beginCall d (0, 0) [.inr (some 109), .inr (some (114 + 3 * (xN s - 1))), .inl (nI a)] G (fun r G' => r = none ∧ cX p h G' (xCall Q s a) 0 false ∧ oM h G G') := by
  refine am_ok_of rfl (Nat.le_of_ble_eq_true rfl) ?_
  show am_Go w jM_beginCall d (0, 0) 0 [some (.inr (some 109)), some (.inr (some (114 + 3 * (xN s - 1)))), some (.inl (nI a)), none, none] [] G _
  have h12 := X.n12
  have hh := X.hh
  obtain ⟨k9, k10, k11, k12, k13, kh, kh1, g0, g1, g2, g3, gh⟩ := hS.cq hh
  obtain ⟨f0, f1, f2, f3, f4, f5⟩ := hS.fq (i := xN s - 1) (by omega)
  have lg := X.lg
  obtain ⟨⟨cnu, cbs, cdp, cd8⟩, cvl, clc⟩ := X.cf hN
  have nn := X.nn
  have hg3 := (hP a ha).2.2.1.2.2.1
  refine go_aload_n dM_beginCall_0 rfl rfl ?_
  refine go_getV dM_beginCall_1 flM_41 rfl (by assumption) (by first | assumption | (simp (disch := omega) only [wi_I, ro_I, wi_In, wi_Is]; done) | (simp (disch := omega) only [wi_I, ro_I, wi_In, wi_Is]; first | assumption | rfl) | rfl) ?_
  refine go_bipush (nI 12) (by decide) dM_beginCall_4 ?_
  refine go_icmp_ltN (by omega) (by decide) dM_beginCall_6 (tgt := 15) (by decide) (fun c1 => ?_) (fun c1 => absurd c1 (by omega))
  refine go_aload_n dM_beginCall_15 rfl rfl ?_
  refine go_iload_n dM_beginCall_16 rfl rfl ?_
  refine go_cV (k' := (0, 0)) dM_beginCall_17 _ csM_51 (by assumption) rfl imM_openFrame seM_openFrame rfl (okM_openFrame (d := 1) w (by decide) G p h 0 a s Q (va_up (xF s) (xN s - 1) (xC s)) (fun _ => none) hp ha hx hX (by omega) hS X hP (R_cF (g := xC s) hx) (fun _ _ _ e => by cases e)) (by omega) (by decide) (Nat.le_of_ble_eq_true rfl) (fun r G1 hr hn => ?_)
  obtain ⟨rfl, X1, o1⟩ := hr
  have hS := o1.St hS
  have k9 := hS.s sh_109
  have pr := X1.pr
  obtain ⟨p1, p2, p3, p4⟩ := pr_l p hp
  have u1 := hS.s p1
  have u2 := hS.s p2
  have u3 := hS.r p3
  have u4 := hS.r (pm_l p hp a ha)
  have hP1 := hP.m hp hh o1
  have um := (hP1 a ha).1.1
  have tk := (hP1 a ha).2.1.1.2.2.1
  obtain ⟨eN, eF, -⟩ := xOpen_N (Q := Q) (s := s) (c := a) (F := va_up (xF s) (xN s - 1) (xC s)) (V := fun _ => none)
  have e1 := (X1.2.2.2.2.2.1 (xN s - 1) (by rw [eN]; omega)).1
  rw [eF, am_up_eq] at e1
  have e3 := e1.2.1
  have e4 := e1.1.2.2.1
  refine go_astore_n dM_beginCall_20 rfl (Nat.le_of_ble_eq_true rfl) ?_
  refine go_aload_n dM_beginCall_21 rfl rfl ?_
  refine go_getO dM_beginCall_22 flM_28 rfl (by assumption) (by assumption) ?_
  refine go_getO dM_beginCall_25 flM_84 rfl (by assumption) (by assumption) ?_
  refine go_iload_n dM_beginCall_28 rfl rfl ?_
  refine go_aaO (t := 1) (by decide) u2 ha (by decide) u4 dM_beginCall_29 ?_
  refine go_getV dM_beginCall_30 flM_185 rfl (by assumption) (by first | assumption | (simp (disch := omega) only [wi_I, ro_I, wi_In, wi_Is]; done) | (simp (disch := omega) only [wi_I, ro_I, wi_In, wi_Is]; first | assumption | rfl) | rfl) ?_
  refine go_iconst (nI 1) (by decide) dM_beginCall_33 ?_
  refine (go_isub dM_beginCall_34 ?_)
  change am_Go w jM_beginCall d (0, 0) 35 _ [.inl (nM (mG (Q a)))] _ _
  refine go_istore dM_beginCall_35 (Nat.le_of_ble_eq_true rfl) ?_
  refine M_bc w (by omega) G1 a (mG (Q a)) s hN hx hg3 hD cd8 e3 (fun Y hI => ⟨rfl, X1.call hN (by omega) hI, o1.tr (hI.o hx)⟩) (mG (Q a)) G1 (Nat.le_refl _) hS ⟨rfl, rfl, fun _ _ _ => rfl, fun _ _ => rfl, by rw [Nat.sub_self]; exact e4, fun k h1 h2 => absurd h1 (by omega)⟩
set_option maxRecDepth 100000 in
theorem M_stp (w : am_W) {d : Nat} {P : Option am_V → am_G → Prop} (G : am_G) (p h : Nat) (s : xT) (Q : Nat → mT) (hp : p < 2) (hN : 1 ≤ xN s) (t1 : uM (xC s) < 6) (t3 : uP (xC s) < mN (Q (uM (xC s)))) (hS : St0 G) (X : cX p h G s 0 false) (hP : hldP G p Q)
    (K : ∀ G2, St0 G2 → cX p h G2 s 0 true → hldP G2 p Q → oM h G G2 → am_Go w jM_step d (0, 0) 52 [some (.inr (some 109)), some (.inr (some (114 + 3 * (xN s - 1)))), some (.inr (some (mo p (uM (xC s))))), some (.inl (nI (uP (xC s)))), some (.inl (mA (Q (uM (xC s))) (uP (xC s)))), some (.inl (mB (Q (uM (xC s))) (uP (xC s)))), none] [.inl (nI (mO (Q (uM (xC s))) (uP (xC s))))] G2 P) : am_Go w jM_step d (0, 0) 0 [some (.inr (some 109)), some (.inr (some (114 + 3 * (xN s - 1)))), none, none, none, none, none] [] G P := by
  have hn6 := (hP _ t1).2.2.1.1
  have h12 := X.n12
  have hh := X.hh
  have k9 := hS.s sh_109
  obtain ⟨f0, f1, f2, f3, f4, f5⟩ := hS.fq (i := xN s - 1) (by omega)
  have pr := X.pr
  obtain ⟨⟨nu, -, -, -⟩, -⟩ := X.cf hN
  have cn := X.cn hN
  obtain ⟨p1, p2, p3, p4⟩ := pr_l p hp
  have u1 := hS.s p1
  have u2 := hS.s p2
  have u3 := hS.r p3
  have u4 := hS.r (pm_l p hp _ t1)
  refine go_aload_n dM_step_0 rfl rfl ?_
  refine go_getO dM_step_1 flM_28 rfl (by assumption) (by assumption) ?_
  refine go_getO dM_step_4 flM_84 rfl (by assumption) (by assumption) ?_
  refine go_aload_n dM_step_7 rfl rfl ?_
  refine go_getV dM_step_8 flM_99 rfl (by assumption) (by first | assumption | (simp (disch := omega) only [wi_I, ro_I, wi_In, wi_Is]; done) | (simp (disch := omega) only [wi_I, ro_I, wi_In, wi_Is]; first | assumption | rfl) | rfl) ?_
  refine go_aaO (t := 1) (by decide) u2 t1 (by decide) u4 dM_step_11 ?_
  refine go_astore_n dM_step_12 rfl (Nat.le_of_ble_eq_true rfl) ?_
  refine go_aload_n dM_step_13 rfl rfl ?_
  refine go_getV dM_step_14 flM_102 rfl (by assumption) (by first | assumption | (simp (disch := omega) only [wi_I, ro_I, wi_In, wi_Is]; done) | (simp (disch := omega) only [wi_I, ro_I, wi_In, wi_Is]; first | assumption | rfl) | rfl) ?_
  refine go_istore_n dM_step_17 rfl (Nat.le_of_ble_eq_true rfl) ?_
  refine go_aload_n dM_step_18 rfl rfl ?_
  refine go_iload_n dM_step_19 rfl rfl ?_
  refine go_putI dM_step_20 fpM_105 rfl (by assumption) ?_
  refine go_aload_n dM_step_23 rfl rfl ?_
  refine go_iload_n dM_step_24 rfl rfl ?_
  refine go_iconst (nI 1) (by decide) dM_step_25 ?_
  first | refine go_iaddN dM_step_26 ?_ | refine go_iadd dM_step_26 ?_
  refine go_putI dM_step_27 fpM_102 rfl (by assumption) ?_
  have X2 := X.beg hN
  have o2 : oM h G (am_wi (am_wi G (114 + 3 * (xN s - 1)) 3 (nI (uP (xC s)))) (114 + 3 * (xN s - 1)) 4 (nI (uP (xC s) + 1))) := (oM.w ⟨by omega, by omega⟩).tr (oM.w ⟨by omega, by omega⟩)
  refine go_gen (fun G2 hG2 => ?_)
  rw [← hG2] at X2 o2
  clear hG2
  have hS2 := o2.St hS
  have hP2 := hP.m hp hh o2
  obtain ⟨hs, ⟨r0, r1, r2, r3, r4, r5, r6⟩, s1, s2, s3, s4, s5, s6, s7⟩ := (hP2 _ t1).1
  obtain ⟨m1, m2, m3⟩ := (hP2 _ t1).2.1.2.1 _ t3
  refine go_aload_n dM_step_30 rfl rfl ?_
  refine go_getO dM_step_31 flM_108 rfl (by assumption) (by assumption) ?_
  refine go_iload_n dM_step_34 rfl rfl ?_
  refine go_ialV s2 (by omega) (by decide) m2 dM_step_35 ?_
  refine go_istore dM_step_36 (Nat.le_of_ble_eq_true rfl) ?_
  refine go_aload_n dM_step_38 rfl rfl ?_
  refine go_getO dM_step_39 flM_111 rfl (by assumption) (by assumption) ?_
  refine go_iload_n dM_step_42 rfl rfl ?_
  refine go_ialV s3 (by omega) (by decide) m3 dM_step_43 ?_
  refine go_istore dM_step_44 (Nat.le_of_ble_eq_true rfl) ?_
  refine go_aload_n dM_step_46 rfl rfl ?_
  refine go_getO dM_step_47 flM_114 rfl (by assumption) (by assumption) ?_
  refine go_iload_n dM_step_50 rfl rfl ?_
  refine go_ialV s1 (by omega) (by decide) m1 dM_step_51 ?_
  exact K G2 hS2 X2 hP2 o2
set_option maxRecDepth 100000 in
theorem okM_st1 (w : am_W) {d : Nat} (hd : 1 ≤ d) (G : am_G) (p h m : Nat) (s : xT) (Q : Nat → mT) (Z : Nat → fM) (hp : p < 2) (hz : zSol Q Z m) (hb : tB Q Z m s) (hN : 1 ≤ xN s) (hc : tyR Q Z m (lM s.1) (xC s)) (hB : rBd s) (hS : St0 G) (X : cX p h G s 0 false) (hP : hldP G p Q) (hop : mO (Q (uM (xC s))) (uP (xC s)) = 1) (h8 : uD (xC s) < 8) (hxi : xIns Q s = (xSet s (uGo (uPush (xC s) (mA (Q (uM (xC s))) (uP (xC s)))) (uP (xC s) + 1)), 0)) : am_Ok w jM_step d (0, 0) [.inr (some 109), .inr (some (114 + 3 * (xN s - 1)))] G (fun r G' => r = none ∧ xPost p h G' (xIns Q s) ∧ oM h G G') := by
  refine am_ok_of rfl (Nat.le_of_ble_eq_true rfl) ?_
  show am_Go w jM_step d (0, 0) 0 [some (.inr (some 109)), some (.inr (some (114 + 3 * (xN s - 1)))), none, none, none, none, none] [] G _
  obtain ⟨t1, -, t3, t4, -⟩ := id hc
  have hn6 := (hP _ t1).2.2.1.1
  obtain ⟨n1, n2, n3, n4⟩ := id hB
  refine M_stp w G p h s Q hp hN t1 t3 hS X hP (fun G2 hS2 X hP2 o0 => ?_)
  have hS := hS2
  rw [hop]
  have h12 := X.n12
  have hh := X.hh
  obtain ⟨k9, k10, k11, k12, k13, kh, kh1, g0, g1, g2, g3, gh⟩ := hS.cq hh
  obtain ⟨f0, f1, f2, f3, f4, f5⟩ := hS.fq (i := xN s - 1) (by omega)
  have lg := X.lg
  obtain ⟨⟨cnu, cbs, cdp, cd8⟩, cvl, clc⟩ := X.cf hN
  obtain ⟨hs, ⟨r0, r1, r2, r3, r4, r5, r6⟩, s1, s2, s3, s4, s5, s6, s7⟩ := (hP2 _ t1).1
  obtain ⟨m1, -, -⟩ := (hP2 _ t1).2.1.2.1 _ t3
  rw [hop] at m1
  refine go_tableIn dM_step_52 (by decide) (by decide) (off := 124) rfl (tgt := 176) (by decide) ?_
  refine go_aload_n dM_step_176 rfl rfl ?_
  refine go_iload dM_step_177 rfl ?_
  refine go_cV (k' := (0, 0)) dM_step_179 _ csM_117 (by assumption) rfl imA_push seA_push rfl (okA_pushX (d := 0) w G2 p h 0 true (s) hN (mA (Q (uM (xC s))) (uP (xC s))) hS X (h8)) (by omega) (by decide) (Nat.le_of_ble_eq_true rfl) (fun r G1 hr hn => ?_)
  obtain ⟨rfl, X1, o1⟩ := hr
  have X1 : cX p h G1 (xSet s (uPush (xC s) (mA (Q (uM (xC s))) (uP (xC s))))) 0 true := X1
  have hS := o1.St hS
  refine go_goto dM_step_182 (tgt := 342) (by decide) ?_
  refine go_return rfl dM_step_342 ?_
  exact ⟨rfl, by rw [hxi]; exact xPost.z (cX.ms X1 hN), o0.tr o1⟩
set_option maxRecDepth 100000 in
theorem okM_st2 (w : am_W) {d : Nat} (hd : 1 ≤ d) (G : am_G) (p h m : Nat) (s : xT) (Q : Nat → mT) (Z : Nat → fM) (hp : p < 2) (hz : zSol Q Z m) (hb : tB Q Z m s) (hN : 1 ≤ xN s) (hc : tyR Q Z m (lM s.1) (xC s)) (hB : rBd s) (hS : St0 G) (X : cX p h G s 0 false) (hP : hldP G p Q) (hop : mO (Q (uM (xC s))) (uP (xC s)) = 2) (a : Nat) (hA : mA (Q (uM (xC s))) (uP (xC s)) = nI a) (ha : a < 8) (h8 : uD (xC s) < 8) (hl : uL (xC s) a = some (uGet (xC s) a)) (hxi : xIns Q s = (xSet s (uGo (uPush (xC s) (uGet (xC s) a)) (uP (xC s) + 1)), 0)) : am_Ok w jM_step d (0, 0) [.inr (some 109), .inr (some (114 + 3 * (xN s - 1)))] G (fun r G' => r = none ∧ xPost p h G' (xIns Q s) ∧ oM h G G') := by
  refine am_ok_of rfl (Nat.le_of_ble_eq_true rfl) ?_
  show am_Go w jM_step d (0, 0) 0 [some (.inr (some 109)), some (.inr (some (114 + 3 * (xN s - 1)))), none, none, none, none, none] [] G _
  obtain ⟨t1, -, t3, t4, -⟩ := id hc
  have hn6 := (hP _ t1).2.2.1.1
  obtain ⟨n1, n2, n3, n4⟩ := id hB
  refine M_stp w G p h s Q hp hN t1 t3 hS X hP (fun G2 hS2 X hP2 o0 => ?_)
  have hS := hS2
  rw [hop]
  rw [hA]
  have h12 := X.n12
  have hh := X.hh
  obtain ⟨k9, k10, k11, k12, k13, kh, kh1, g0, g1, g2, g3, gh⟩ := hS.cq hh
  obtain ⟨f0, f1, f2, f3, f4, f5⟩ := hS.fq (i := xN s - 1) (by omega)
  have lg := X.lg
  obtain ⟨⟨cnu, cbs, cdp, cd8⟩, cvl, clc⟩ := X.cf hN
  obtain ⟨hs, ⟨r0, r1, r2, r3, r4, r5, r6⟩, s1, s2, s3, s4, s5, s6, s7⟩ := (hP2 _ t1).1
  obtain ⟨m1, -, -⟩ := (hP2 _ t1).2.1.2.1 _ t3
  rw [hop] at m1
  refine go_tableIn dM_step_52 (by decide) (by decide) (off := 133) rfl (tgt := 185) (by decide) ?_
  refine go_aload_n dM_step_185 rfl rfl ?_
  refine go_aload_n dM_step_186 rfl rfl ?_
  refine go_getO dM_step_187 flM_55 rfl (by assumption) (by assumption) ?_
  refine go_iload dM_step_190 rfl ?_
  refine go_ialV f1 (by omega) (by decide) (clc a ha _ hl) dM_step_192 ?_
  refine go_cV (k' := (0, 0)) dM_step_193 _ csM_117 (by assumption) rfl imA_push seA_push rfl (okA_pushX (d := 0) w G2 p h 0 true (s) hN (uGet (xC s) a) hS X (h8)) (by omega) (by decide) (Nat.le_of_ble_eq_true rfl) (fun r G1 hr hn => ?_)
  obtain ⟨rfl, X1, o1⟩ := hr
  have X1 : cX p h G1 (xSet s (uPush (xC s) (uGet (xC s) a))) 0 true := X1
  have hS := o1.St hS
  refine go_goto dM_step_196 (tgt := 342) (by decide) ?_
  refine go_return rfl dM_step_342 ?_
  exact ⟨rfl, by rw [hxi]; exact xPost.z (cX.ms X1 hN), o0.tr o1⟩
set_option maxRecDepth 100000 in
theorem okM_st13 (w : am_W) {d : Nat} (hd : 1 ≤ d) (G : am_G) (p h m : Nat) (s : xT) (Q : Nat → mT) (Z : Nat → fM) (hp : p < 2) (hz : zSol Q Z m) (hb : tB Q Z m s) (hN : 1 ≤ xN s) (hc : tyR Q Z m (lM s.1) (xC s)) (hB : rBd s) (hS : St0 G) (X : cX p h G s 0 false) (hP : hldP G p Q) (hop : mO (Q (uM (xC s))) (uP (xC s)) = 13) (h8 : uD (xC s) < 8) (hxi : xIns Q s = (xSet s (uGo (uPush (xC s) (nI 0)) (uP (xC s) + 1)), 0)) : am_Ok w jM_step d (0, 0) [.inr (some 109), .inr (some (114 + 3 * (xN s - 1)))] G (fun r G' => r = none ∧ xPost p h G' (xIns Q s) ∧ oM h G G') := by
  refine am_ok_of rfl (Nat.le_of_ble_eq_true rfl) ?_
  show am_Go w jM_step d (0, 0) 0 [some (.inr (some 109)), some (.inr (some (114 + 3 * (xN s - 1)))), none, none, none, none, none] [] G _
  obtain ⟨t1, -, t3, t4, -⟩ := id hc
  have hn6 := (hP _ t1).2.2.1.1
  obtain ⟨n1, n2, n3, n4⟩ := id hB
  refine M_stp w G p h s Q hp hN t1 t3 hS X hP (fun G2 hS2 X hP2 o0 => ?_)
  have hS := hS2
  rw [hop]
  have h12 := X.n12
  have hh := X.hh
  obtain ⟨k9, k10, k11, k12, k13, kh, kh1, g0, g1, g2, g3, gh⟩ := hS.cq hh
  obtain ⟨f0, f1, f2, f3, f4, f5⟩ := hS.fq (i := xN s - 1) (by omega)
  have lg := X.lg
  obtain ⟨⟨cnu, cbs, cdp, cd8⟩, cvl, clc⟩ := X.cf hN
  obtain ⟨hs, ⟨r0, r1, r2, r3, r4, r5, r6⟩, s1, s2, s3, s4, s5, s6, s7⟩ := (hP2 _ t1).1
  obtain ⟨m1, -, -⟩ := (hP2 _ t1).2.1.2.1 _ t3
  rw [hop] at m1
  refine go_tableIn dM_step_52 (by decide) (by decide) (off := 165) rfl (tgt := 217) (by decide) ?_
  refine go_aload_n dM_step_217 rfl rfl ?_
  refine go_iconst (nI 0) (by decide) dM_step_218 ?_
  refine go_cV (k' := (0, 0)) dM_step_219 _ csM_117 (by assumption) rfl imA_push seA_push rfl (okA_pushX (d := 0) w G2 p h 0 true (s) hN (nI 0) hS X (h8)) (by omega) (by decide) (Nat.le_of_ble_eq_true rfl) (fun r G1 hr hn => ?_)
  obtain ⟨rfl, X1, o1⟩ := hr
  have X1 : cX p h G1 (xSet s (uPush (xC s) (nI 0))) 0 true := X1
  have hS := o1.St hS
  refine go_goto dM_step_222 (tgt := 342) (by decide) ?_
  refine go_return rfl dM_step_342 ?_
  exact ⟨rfl, by rw [hxi]; exact xPost.z (cX.ms X1 hN), o0.tr o1⟩
set_option maxRecDepth 100000 in
theorem okM_st14 (w : am_W) {d : Nat} (hd : 2 ≤ d) (G : am_G) (p h m : Nat) (s : xT) (Q : Nat → mT) (Z : Nat → fM) (hp : p < 2) (hz : zSol Q Z m) (hb : tB Q Z m s) (hN : 1 ≤ xN s) (hc : tyR Q Z m (lM s.1) (xC s)) (hB : rBd s) (hS : St0 G) (X : cX p h G s 0 false) (hP : hldP G p Q) (hop : mO (Q (uM (xC s))) (uP (xC s)) = 14) (a : Nat) (hA : mA (Q (uM (xC s))) (uP (xC s)) = nI a) (h8 : uD (xC s) < 8) (hxi : xIns Q s = (xSet (xMake s a) (uGo (uPush (xC s) (nI (lM s.1 + 1))) (uP (xC s) + 1)), 0)) : am_Ok w jM_step d (0, 0) [.inr (some 109), .inr (some (114 + 3 * (xN s - 1)))] G (fun r G' => r = none ∧ xPost p h G' (xIns Q s) ∧ oM h G G') := by
  refine am_ok_of rfl (Nat.le_of_ble_eq_true rfl) ?_
  show am_Go w jM_step d (0, 0) 0 [some (.inr (some 109)), some (.inr (some (114 + 3 * (xN s - 1)))), none, none, none, none, none] [] G _
  obtain ⟨t1, -, t3, t4, -⟩ := id hc
  have hn6 := (hP _ t1).2.2.1.1
  obtain ⟨n1, n2, n3, n4⟩ := id hB
  refine M_stp w G p h s Q hp hN t1 t3 hS X hP (fun G2 hS2 X hP2 o0 => ?_)
  have hS := hS2
  rw [hop]
  rw [hA]
  have h12 := X.n12
  have hh := X.hh
  obtain ⟨k9, k10, k11, k12, k13, kh, kh1, g0, g1, g2, g3, gh⟩ := hS.cq hh
  obtain ⟨f0, f1, f2, f3, f4, f5⟩ := hS.fq (i := xN s - 1) (by omega)
  have lg := X.lg
  obtain ⟨⟨cnu, cbs, cdp, cd8⟩, cvl, clc⟩ := X.cf hN
  obtain ⟨hs, ⟨r0, r1, r2, r3, r4, r5, r6⟩, s1, s2, s3, s4, s5, s6, s7⟩ := (hP2 _ t1).1
  obtain ⟨m1, -, -⟩ := (hP2 _ t1).2.1.2.1 _ t3
  rw [hop] at m1
  refine go_tableIn dM_step_52 (by decide) (by decide) (off := 173) rfl (tgt := 225) (by decide) ?_
  refine go_aload_n dM_step_225 rfl rfl ?_
  refine go_aload_n dM_step_226 rfl rfl ?_
  refine go_iload dM_step_227 rfl ?_
  refine go_cV (k' := (0, 0)) dM_step_229 _ csM_125 (by assumption) rfl imM_make seM_make rfl (okM_make (d := 1) w (by decide) G2 p h 0 true s a hS2 X (by omega) (by omega)) (by omega) (by decide) (Nat.le_of_ble_eq_true rfl) (fun r G1 hr hn => ?_)
  obtain ⟨rfl, X1, o1⟩ := hr
  have hS := o1.St hS
  obtain ⟨f0, f1, f2, f3, f4, f5⟩ := hS.fq (i := xN s - 1) (by omega)
  refine go_cV (k' := (0, 0)) dM_step_232 _ csM_117 (by assumption) rfl imA_push seA_push rfl (okA_pushX (d := 0) w G1 p h 0 true (xMake s a) hN (nI (lM s.1 + 1)) hS X1 (h8)) (by omega) (by decide) (Nat.le_of_ble_eq_true rfl) (fun r G1 hr hn => ?_)
  obtain ⟨rfl, X2, o2⟩ := hr
  have hS := o2.St hS
  refine go_goto dM_step_235 (tgt := 342) (by decide) ?_
  refine go_return rfl dM_step_342 ?_
  exact ⟨rfl, by rw [hxi]; exact xPost.z (cX.ms (s := xSet (xMake s a) (uPush (xC s) (nI (lM s.1 + 1)))) X2 hN), (o0.tr o1).tr o2⟩
set_option maxRecDepth 100000 in
theorem okM_st3 (w : am_W) {d : Nat} (hd : 2 ≤ d) (G : am_G) (p h m : Nat) (s : xT) (Q : Nat → mT) (Z : Nat → fM) (hp : p < 2) (hz : zSol Q Z m) (hb : tB Q Z m s) (hN : 1 ≤ xN s) (hc : tyR Q Z m (lM s.1) (xC s)) (hB : rBd s) (hS : St0 G) (X : cX p h G s 0 false) (hP : hldP G p Q) (hop : mO (Q (uM (xC s))) (uP (xC s)) = 3) (a : Nat) (hA : mA (Q (uM (xC s))) (uP (xC s)) = nI a) (ha : a < 8) (hD : 1 ≤ uD (xC s)) (hxi : xIns Q s = (xSet s (uGo (uSt (uPop (xC s)) a (uTop (xC s))) (uP (xC s) + 1)), 0)) : am_Ok w jM_step d (0, 0) [.inr (some 109), .inr (some (114 + 3 * (xN s - 1)))] G (fun r G' => r = none ∧ xPost p h G' (xIns Q s) ∧ oM h G G') := by
  refine am_ok_of rfl (Nat.le_of_ble_eq_true rfl) ?_
  show am_Go w jM_step d (0, 0) 0 [some (.inr (some 109)), some (.inr (some (114 + 3 * (xN s - 1)))), none, none, none, none, none] [] G _
  obtain ⟨t1, -, t3, t4, -⟩ := id hc
  have hn6 := (hP _ t1).2.2.1.1
  obtain ⟨n1, n2, n3, n4⟩ := id hB
  refine M_stp w G p h s Q hp hN t1 t3 hS X hP (fun G2 hS2 X hP2 o0 => ?_)
  have hS := hS2
  rw [hop]
  rw [hA]
  have h12 := X.n12
  have hh := X.hh
  obtain ⟨k9, k10, k11, k12, k13, kh, kh1, g0, g1, g2, g3, gh⟩ := hS.cq hh
  obtain ⟨f0, f1, f2, f3, f4, f5⟩ := hS.fq (i := xN s - 1) (by omega)
  have lg := X.lg
  obtain ⟨⟨cnu, cbs, cdp, cd8⟩, cvl, clc⟩ := X.cf hN
  obtain ⟨hs, ⟨r0, r1, r2, r3, r4, r5, r6⟩, s1, s2, s3, s4, s5, s6, s7⟩ := (hP2 _ t1).1
  obtain ⟨m1, -, -⟩ := (hP2 _ t1).2.1.2.1 _ t3
  rw [hop] at m1
  refine go_tableIn dM_step_52 (by decide) (by decide) (off := 147) rfl (tgt := 199) (by decide) ?_
  refine go_aload_n dM_step_199 rfl rfl ?_
  refine go_aload_n dM_step_200 rfl rfl ?_
  refine go_aload_n dM_step_201 rfl rfl ?_
  refine go_getO dM_step_202 flM_114 rfl (by assumption) (by assumption) ?_
  refine go_iload_n dM_step_205 rfl rfl ?_
  refine go_ialV s1 (by omega) (by decide) m1 dM_step_206 ?_
  refine go_iload dM_step_207 rfl ?_
  refine go_iload dM_step_209 rfl ?_
  refine go_cV (k' := (0, 0)) dM_step_211 _ csM_121 (by assumption) rfl imM_useLocal seM_useLocal rfl (okM_ul3 (d := 1) w (by decide) G2 p h s hN hS2 X a _ ha hD) (by omega) (by decide) (Nat.le_of_ble_eq_true rfl) (fun r G1 hr hn => ?_)
  obtain ⟨rfl, X1, o1⟩ := hr
  refine go_goto dM_step_214 (tgt := 342) (by decide) ?_
  refine go_return rfl dM_step_342 ?_
  exact ⟨rfl, by rw [hxi]; exact xPost.z (X1), o0.tr o1⟩
set_option maxRecDepth 100000 in
theorem okM_st24 (w : am_W) {d : Nat} (hd : 2 ≤ d) (G : am_G) (p h m : Nat) (s : xT) (Q : Nat → mT) (Z : Nat → fM) (hp : p < 2) (hz : zSol Q Z m) (hb : tB Q Z m s) (hN : 1 ≤ xN s) (hc : tyR Q Z m (lM s.1) (xC s)) (hB : rBd s) (hS : St0 G) (X : cX p h G s 0 false) (hP : hldP G p Q) (hop : mO (Q (uM (xC s))) (uP (xC s)) = 24) (a : Nat) (hA : mA (Q (uM (xC s))) (uP (xC s)) = nI a) (j : Nat) (ha : a < 8) (hl : uL (xC s) a = some (uGet (xC s) a)) (hj : uGet (xC s) a = nI j) (hxi : xIns Q s = (xSet s (uGo (xC s) j), 0)) : am_Ok w jM_step d (0, 0) [.inr (some 109), .inr (some (114 + 3 * (xN s - 1)))] G (fun r G' => r = none ∧ xPost p h G' (xIns Q s) ∧ oM h G G') := by
  refine am_ok_of rfl (Nat.le_of_ble_eq_true rfl) ?_
  show am_Go w jM_step d (0, 0) 0 [some (.inr (some 109)), some (.inr (some (114 + 3 * (xN s - 1)))), none, none, none, none, none] [] G _
  obtain ⟨t1, -, t3, t4, -⟩ := id hc
  have hn6 := (hP _ t1).2.2.1.1
  obtain ⟨n1, n2, n3, n4⟩ := id hB
  refine M_stp w G p h s Q hp hN t1 t3 hS X hP (fun G2 hS2 X hP2 o0 => ?_)
  have hS := hS2
  rw [hop]
  rw [hA]
  have h12 := X.n12
  have hh := X.hh
  obtain ⟨k9, k10, k11, k12, k13, kh, kh1, g0, g1, g2, g3, gh⟩ := hS.cq hh
  obtain ⟨f0, f1, f2, f3, f4, f5⟩ := hS.fq (i := xN s - 1) (by omega)
  have lg := X.lg
  obtain ⟨⟨cnu, cbs, cdp, cd8⟩, cvl, clc⟩ := X.cf hN
  obtain ⟨hs, ⟨r0, r1, r2, r3, r4, r5, r6⟩, s1, s2, s3, s4, s5, s6, s7⟩ := (hP2 _ t1).1
  obtain ⟨m1, -, -⟩ := (hP2 _ t1).2.1.2.1 _ t3
  rw [hop] at m1
  refine go_tableIn dM_step_52 (by decide) (by decide) (off := 147) rfl (tgt := 199) (by decide) ?_
  refine go_aload_n dM_step_199 rfl rfl ?_
  refine go_aload_n dM_step_200 rfl rfl ?_
  refine go_aload_n dM_step_201 rfl rfl ?_
  refine go_getO dM_step_202 flM_114 rfl (by assumption) (by assumption) ?_
  refine go_iload_n dM_step_205 rfl rfl ?_
  refine go_ialV s1 (by omega) (by decide) m1 dM_step_206 ?_
  refine go_iload dM_step_207 rfl ?_
  refine go_iload dM_step_209 rfl ?_
  refine go_cV (k' := (0, 0)) dM_step_211 _ csM_121 (by assumption) rfl imM_useLocal seM_useLocal rfl (okM_ul24 (d := 1) w (by decide) G2 p h s hN hS2 X a _ ha j hl hj) (by omega) (by decide) (Nat.le_of_ble_eq_true rfl) (fun r G1 hr hn => ?_)
  obtain ⟨rfl, X1, o1⟩ := hr
  refine go_goto dM_step_214 (tgt := 342) (by decide) ?_
  refine go_return rfl dM_step_342 ?_
  exact ⟨rfl, by rw [hxi]; exact xPost.z (X1), o0.tr o1⟩
set_option maxRecDepth 100000 in
theorem okM_st27 (w : am_W) {d : Nat} (hd : 2 ≤ d) (G : am_G) (p h m : Nat) (s : xT) (Q : Nat → mT) (Z : Nat → fM) (hp : p < 2) (hz : zSol Q Z m) (hb : tB Q Z m s) (hN : 1 ≤ xN s) (hc : tyR Q Z m (lM s.1) (xC s)) (hB : rBd s) (hS : St0 G) (X : cX p h G s 0 false) (hP : hldP G p Q) (hop : mO (Q (uM (xC s))) (uP (xC s)) = 27) (a : Nat) (hA : mA (Q (uM (xC s))) (uP (xC s)) = nI a) (ha : a < 8) (hl : uL (xC s) a = some (uGet (xC s) a)) (hxi : xIns Q s = (xSet s (uGo (uSt (xC s) a (uGet (xC s) a + mB (Q (uM (xC s))) (uP (xC s)))) (uP (xC s) + 1)), 0)) : am_Ok w jM_step d (0, 0) [.inr (some 109), .inr (some (114 + 3 * (xN s - 1)))] G (fun r G' => r = none ∧ xPost p h G' (xIns Q s) ∧ oM h G G') := by
  refine am_ok_of rfl (Nat.le_of_ble_eq_true rfl) ?_
  show am_Go w jM_step d (0, 0) 0 [some (.inr (some 109)), some (.inr (some (114 + 3 * (xN s - 1)))), none, none, none, none, none] [] G _
  obtain ⟨t1, -, t3, t4, -⟩ := id hc
  have hn6 := (hP _ t1).2.2.1.1
  obtain ⟨n1, n2, n3, n4⟩ := id hB
  refine M_stp w G p h s Q hp hN t1 t3 hS X hP (fun G2 hS2 X hP2 o0 => ?_)
  have hS := hS2
  rw [hop]
  rw [hA]
  have h12 := X.n12
  have hh := X.hh
  obtain ⟨k9, k10, k11, k12, k13, kh, kh1, g0, g1, g2, g3, gh⟩ := hS.cq hh
  obtain ⟨f0, f1, f2, f3, f4, f5⟩ := hS.fq (i := xN s - 1) (by omega)
  have lg := X.lg
  obtain ⟨⟨cnu, cbs, cdp, cd8⟩, cvl, clc⟩ := X.cf hN
  obtain ⟨hs, ⟨r0, r1, r2, r3, r4, r5, r6⟩, s1, s2, s3, s4, s5, s6, s7⟩ := (hP2 _ t1).1
  obtain ⟨m1, -, -⟩ := (hP2 _ t1).2.1.2.1 _ t3
  rw [hop] at m1
  refine go_tableIn dM_step_52 (by decide) (by decide) (off := 147) rfl (tgt := 199) (by decide) ?_
  refine go_aload_n dM_step_199 rfl rfl ?_
  refine go_aload_n dM_step_200 rfl rfl ?_
  refine go_aload_n dM_step_201 rfl rfl ?_
  refine go_getO dM_step_202 flM_114 rfl (by assumption) (by assumption) ?_
  refine go_iload_n dM_step_205 rfl rfl ?_
  refine go_ialV s1 (by omega) (by decide) m1 dM_step_206 ?_
  refine go_iload dM_step_207 rfl ?_
  refine go_iload dM_step_209 rfl ?_
  refine go_cV (k' := (0, 0)) dM_step_211 _ csM_121 (by assumption) rfl imM_useLocal seM_useLocal rfl (okM_ul27 (d := 1) w (by decide) G2 p h s hN hS2 X a _ ha hl) (by omega) (by decide) (Nat.le_of_ble_eq_true rfl) (fun r G1 hr hn => ?_)
  obtain ⟨rfl, X1, o1⟩ := hr
  refine go_goto dM_step_214 (tgt := 342) (by decide) ?_
  refine go_return rfl dM_step_342 ?_
  exact ⟨rfl, by rw [hxi]; exact xPost.z (X1), o0.tr o1⟩
set_option maxRecDepth 100000 in
theorem okM_st11 (w : am_W) {d : Nat} (hd : 2 ≤ d) (G : am_G) (p h m : Nat) (s : xT) (Q : Nat → mT) (Z : Nat → fM) (hp : p < 2) (hz : zSol Q Z m) (hb : tB Q Z m s) (hN : 1 ≤ xN s) (hc : tyR Q Z m (lM s.1) (xC s)) (hB : rBd s) (hS : St0 G) (X : cX p h G s 0 false) (hP : hldP G p Q) (hop : mO (Q (uM (xC s))) (uP (xC s)) = 11) (j : Nat) (hBb : mB (Q (uM (xC s))) (uP (xC s)) = nI j) (hxi : xIns Q s = (xSet s (uGo (xC s) j), 0)) : am_Ok w jM_step d (0, 0) [.inr (some 109), .inr (some (114 + 3 * (xN s - 1)))] G (fun r G' => r = none ∧ xPost p h G' (xIns Q s) ∧ oM h G G') := by
  refine am_ok_of rfl (Nat.le_of_ble_eq_true rfl) ?_
  show am_Go w jM_step d (0, 0) 0 [some (.inr (some 109)), some (.inr (some (114 + 3 * (xN s - 1)))), none, none, none, none, none] [] G _
  obtain ⟨t1, -, t3, t4, -⟩ := id hc
  have hn6 := (hP _ t1).2.2.1.1
  obtain ⟨n1, n2, n3, n4⟩ := id hB
  refine M_stp w G p h s Q hp hN t1 t3 hS X hP (fun G2 hS2 X hP2 o0 => ?_)
  have hS := hS2
  rw [hop]
  rw [hBb]
  have h12 := X.n12
  have hh := X.hh
  obtain ⟨k9, k10, k11, k12, k13, kh, kh1, g0, g1, g2, g3, gh⟩ := hS.cq hh
  obtain ⟨f0, f1, f2, f3, f4, f5⟩ := hS.fq (i := xN s - 1) (by omega)
  have lg := X.lg
  obtain ⟨⟨cnu, cbs, cdp, cd8⟩, cvl, clc⟩ := X.cf hN
  obtain ⟨hs, ⟨r0, r1, r2, r3, r4, r5, r6⟩, s1, s2, s3, s4, s5, s6, s7⟩ := (hP2 _ t1).1
  obtain ⟨m1, -, -⟩ := (hP2 _ t1).2.1.2.1 _ t3
  rw [hop] at m1
  refine go_tableIn dM_step_52 (by decide) (by decide) (off := 186) rfl (tgt := 238) (by decide) ?_
  refine go_aload_n dM_step_238 rfl rfl ?_
  refine go_aload_n dM_step_239 rfl rfl ?_
  refine go_aload_n dM_step_240 rfl rfl ?_
  refine go_getO dM_step_241 flM_114 rfl (by assumption) (by assumption) ?_
  refine go_iload_n dM_step_244 rfl rfl ?_
  refine go_ialV s1 (by omega) (by decide) m1 dM_step_245 ?_
  refine go_iload dM_step_246 rfl ?_
  refine go_iload dM_step_248 rfl ?_
  refine go_cV (k' := (0, 0)) dM_step_250 _ csM_129 (by assumption) rfl imM_turn seM_turn rfl (okM_tu11 (d := 1) w (by decide) G2 p h s hN hS2 X _ j) (by omega) (by decide) (Nat.le_of_ble_eq_true rfl) (fun r G1 hr hn => ?_)
  obtain ⟨rfl, X1, o1⟩ := hr
  refine go_goto dM_step_253 (tgt := 342) (by decide) ?_
  refine go_return rfl dM_step_342 ?_
  exact ⟨rfl, by rw [hxi]; exact xPost.z (X1), o0.tr o1⟩
set_option maxRecDepth 100000 in
theorem okM_st12_0 (w : am_W) {d : Nat} (hd : 2 ≤ d) (G : am_G) (p h m : Nat) (s : xT) (Q : Nat → mT) (Z : Nat → fM) (hp : p < 2) (hz : zSol Q Z m) (hb : tB Q Z m s) (hN : 1 ≤ xN s) (hc : tyR Q Z m (lM s.1) (xC s)) (hB : rBd s) (hS : St0 G) (X : cX p h G s 0 false) (hP : hldP G p Q) (hop : mO (Q (uM (xC s))) (uP (xC s)) = 12) (hA : mA (Q (uM (xC s))) (uP (xC s)) = nI 0) (j : Nat) (hBb : mB (Q (uM (xC s))) (uP (xC s)) = nI j) (hD : 1 ≤ uD (xC s)) (hxi : xIns Q s = (xSet s (uGo (uPop (xC s)) (if cnd (nI 0) (uTop (xC s)) = true then j else uP (xC s) + 1)), 0)) : am_Ok w jM_step d (0, 0) [.inr (some 109), .inr (some (114 + 3 * (xN s - 1)))] G (fun r G' => r = none ∧ xPost p h G' (xIns Q s) ∧ oM h G G') := by
  refine am_ok_of rfl (Nat.le_of_ble_eq_true rfl) ?_
  show am_Go w jM_step d (0, 0) 0 [some (.inr (some 109)), some (.inr (some (114 + 3 * (xN s - 1)))), none, none, none, none, none] [] G _
  obtain ⟨t1, -, t3, t4, -⟩ := id hc
  have hn6 := (hP _ t1).2.2.1.1
  obtain ⟨n1, n2, n3, n4⟩ := id hB
  refine M_stp w G p h s Q hp hN t1 t3 hS X hP (fun G2 hS2 X hP2 o0 => ?_)
  have hS := hS2
  rw [hop]
  rw [hA]
  rw [hBb]
  have h12 := X.n12
  have hh := X.hh
  obtain ⟨k9, k10, k11, k12, k13, kh, kh1, g0, g1, g2, g3, gh⟩ := hS.cq hh
  obtain ⟨f0, f1, f2, f3, f4, f5⟩ := hS.fq (i := xN s - 1) (by omega)
  have lg := X.lg
  obtain ⟨⟨cnu, cbs, cdp, cd8⟩, cvl, clc⟩ := X.cf hN
  obtain ⟨hs, ⟨r0, r1, r2, r3, r4, r5, r6⟩, s1, s2, s3, s4, s5, s6, s7⟩ := (hP2 _ t1).1
  obtain ⟨m1, -, -⟩ := (hP2 _ t1).2.1.2.1 _ t3
  rw [hop] at m1
  refine go_tableIn dM_step_52 (by decide) (by decide) (off := 186) rfl (tgt := 238) (by decide) ?_
  refine go_aload_n dM_step_238 rfl rfl ?_
  refine go_aload_n dM_step_239 rfl rfl ?_
  refine go_aload_n dM_step_240 rfl rfl ?_
  refine go_getO dM_step_241 flM_114 rfl (by assumption) (by assumption) ?_
  refine go_iload_n dM_step_244 rfl rfl ?_
  refine go_ialV s1 (by omega) (by decide) m1 dM_step_245 ?_
  refine go_iload dM_step_246 rfl ?_
  refine go_iload dM_step_248 rfl ?_
  refine go_cV (k' := (0, 0)) dM_step_250 _ csM_129 (by assumption) rfl imM_turn seM_turn rfl (okM_tu12_0 (d := 1) w (by decide) G2 p h s hN hS2 X j hD) (by omega) (by decide) (Nat.le_of_ble_eq_true rfl) (fun r G1 hr hn => ?_)
  obtain ⟨rfl, X1, o1⟩ := hr
  refine go_goto dM_step_253 (tgt := 342) (by decide) ?_
  refine go_return rfl dM_step_342 ?_
  exact ⟨rfl, by rw [hxi]; exact xPost.z (X1), o0.tr o1⟩
set_option maxRecDepth 100000 in
theorem okM_st12_1 (w : am_W) {d : Nat} (hd : 2 ≤ d) (G : am_G) (p h m : Nat) (s : xT) (Q : Nat → mT) (Z : Nat → fM) (hp : p < 2) (hz : zSol Q Z m) (hb : tB Q Z m s) (hN : 1 ≤ xN s) (hc : tyR Q Z m (lM s.1) (xC s)) (hB : rBd s) (hS : St0 G) (X : cX p h G s 0 false) (hP : hldP G p Q) (hop : mO (Q (uM (xC s))) (uP (xC s)) = 12) (hA : mA (Q (uM (xC s))) (uP (xC s)) = nI 1) (j : Nat) (hBb : mB (Q (uM (xC s))) (uP (xC s)) = nI j) (hD : 1 ≤ uD (xC s)) (hxi : xIns Q s = (xSet s (uGo (uPop (xC s)) (if cnd (nI 1) (uTop (xC s)) = true then j else uP (xC s) + 1)), 0)) : am_Ok w jM_step d (0, 0) [.inr (some 109), .inr (some (114 + 3 * (xN s - 1)))] G (fun r G' => r = none ∧ xPost p h G' (xIns Q s) ∧ oM h G G') := by
  refine am_ok_of rfl (Nat.le_of_ble_eq_true rfl) ?_
  show am_Go w jM_step d (0, 0) 0 [some (.inr (some 109)), some (.inr (some (114 + 3 * (xN s - 1)))), none, none, none, none, none] [] G _
  obtain ⟨t1, -, t3, t4, -⟩ := id hc
  have hn6 := (hP _ t1).2.2.1.1
  obtain ⟨n1, n2, n3, n4⟩ := id hB
  refine M_stp w G p h s Q hp hN t1 t3 hS X hP (fun G2 hS2 X hP2 o0 => ?_)
  have hS := hS2
  rw [hop]
  rw [hA]
  rw [hBb]
  have h12 := X.n12
  have hh := X.hh
  obtain ⟨k9, k10, k11, k12, k13, kh, kh1, g0, g1, g2, g3, gh⟩ := hS.cq hh
  obtain ⟨f0, f1, f2, f3, f4, f5⟩ := hS.fq (i := xN s - 1) (by omega)
  have lg := X.lg
  obtain ⟨⟨cnu, cbs, cdp, cd8⟩, cvl, clc⟩ := X.cf hN
  obtain ⟨hs, ⟨r0, r1, r2, r3, r4, r5, r6⟩, s1, s2, s3, s4, s5, s6, s7⟩ := (hP2 _ t1).1
  obtain ⟨m1, -, -⟩ := (hP2 _ t1).2.1.2.1 _ t3
  rw [hop] at m1
  refine go_tableIn dM_step_52 (by decide) (by decide) (off := 186) rfl (tgt := 238) (by decide) ?_
  refine go_aload_n dM_step_238 rfl rfl ?_
  refine go_aload_n dM_step_239 rfl rfl ?_
  refine go_aload_n dM_step_240 rfl rfl ?_
  refine go_getO dM_step_241 flM_114 rfl (by assumption) (by assumption) ?_
  refine go_iload_n dM_step_244 rfl rfl ?_
  refine go_ialV s1 (by omega) (by decide) m1 dM_step_245 ?_
  refine go_iload dM_step_246 rfl ?_
  refine go_iload dM_step_248 rfl ?_
  refine go_cV (k' := (0, 0)) dM_step_250 _ csM_129 (by assumption) rfl imM_turn seM_turn rfl (okM_tu12_1 (d := 1) w (by decide) G2 p h s hN hS2 X j hD) (by omega) (by decide) (Nat.le_of_ble_eq_true rfl) (fun r G1 hr hn => ?_)
  obtain ⟨rfl, X1, o1⟩ := hr
  refine go_goto dM_step_253 (tgt := 342) (by decide) ?_
  refine go_return rfl dM_step_342 ?_
  exact ⟨rfl, by rw [hxi]; exact xPost.z (X1), o0.tr o1⟩
set_option maxRecDepth 100000 in
theorem okM_st12_2 (w : am_W) {d : Nat} (hd : 2 ≤ d) (G : am_G) (p h m : Nat) (s : xT) (Q : Nat → mT) (Z : Nat → fM) (hp : p < 2) (hz : zSol Q Z m) (hb : tB Q Z m s) (hN : 1 ≤ xN s) (hc : tyR Q Z m (lM s.1) (xC s)) (hB : rBd s) (hS : St0 G) (X : cX p h G s 0 false) (hP : hldP G p Q) (hop : mO (Q (uM (xC s))) (uP (xC s)) = 12) (hA : mA (Q (uM (xC s))) (uP (xC s)) = nI 2) (j : Nat) (hBb : mB (Q (uM (xC s))) (uP (xC s)) = nI j) (hD : 1 ≤ uD (xC s)) (hxi : xIns Q s = (xSet s (uGo (uPop (xC s)) (if cnd (nI 2) (uTop (xC s)) = true then j else uP (xC s) + 1)), 0)) : am_Ok w jM_step d (0, 0) [.inr (some 109), .inr (some (114 + 3 * (xN s - 1)))] G (fun r G' => r = none ∧ xPost p h G' (xIns Q s) ∧ oM h G G') := by
  refine am_ok_of rfl (Nat.le_of_ble_eq_true rfl) ?_
  show am_Go w jM_step d (0, 0) 0 [some (.inr (some 109)), some (.inr (some (114 + 3 * (xN s - 1)))), none, none, none, none, none] [] G _
  obtain ⟨t1, -, t3, t4, -⟩ := id hc
  have hn6 := (hP _ t1).2.2.1.1
  obtain ⟨n1, n2, n3, n4⟩ := id hB
  refine M_stp w G p h s Q hp hN t1 t3 hS X hP (fun G2 hS2 X hP2 o0 => ?_)
  have hS := hS2
  rw [hop]
  rw [hA]
  rw [hBb]
  have h12 := X.n12
  have hh := X.hh
  obtain ⟨k9, k10, k11, k12, k13, kh, kh1, g0, g1, g2, g3, gh⟩ := hS.cq hh
  obtain ⟨f0, f1, f2, f3, f4, f5⟩ := hS.fq (i := xN s - 1) (by omega)
  have lg := X.lg
  obtain ⟨⟨cnu, cbs, cdp, cd8⟩, cvl, clc⟩ := X.cf hN
  obtain ⟨hs, ⟨r0, r1, r2, r3, r4, r5, r6⟩, s1, s2, s3, s4, s5, s6, s7⟩ := (hP2 _ t1).1
  obtain ⟨m1, -, -⟩ := (hP2 _ t1).2.1.2.1 _ t3
  rw [hop] at m1
  refine go_tableIn dM_step_52 (by decide) (by decide) (off := 186) rfl (tgt := 238) (by decide) ?_
  refine go_aload_n dM_step_238 rfl rfl ?_
  refine go_aload_n dM_step_239 rfl rfl ?_
  refine go_aload_n dM_step_240 rfl rfl ?_
  refine go_getO dM_step_241 flM_114 rfl (by assumption) (by assumption) ?_
  refine go_iload_n dM_step_244 rfl rfl ?_
  refine go_ialV s1 (by omega) (by decide) m1 dM_step_245 ?_
  refine go_iload dM_step_246 rfl ?_
  refine go_iload dM_step_248 rfl ?_
  refine go_cV (k' := (0, 0)) dM_step_250 _ csM_129 (by assumption) rfl imM_turn seM_turn rfl (okM_tu12_2 (d := 1) w (by decide) G2 p h s hN hS2 X j hD) (by omega) (by decide) (Nat.le_of_ble_eq_true rfl) (fun r G1 hr hn => ?_)
  obtain ⟨rfl, X1, o1⟩ := hr
  refine go_goto dM_step_253 (tgt := 342) (by decide) ?_
  refine go_return rfl dM_step_342 ?_
  exact ⟨rfl, by rw [hxi]; exact xPost.z (X1), o0.tr o1⟩
set_option maxRecDepth 100000 in
theorem okM_st17 (w : am_W) {d : Nat} (hd : 2 ≤ d) (G : am_G) (p h m : Nat) (s : xT) (Q : Nat → mT) (Z : Nat → fM) (hp : p < 2) (hz : zSol Q Z m) (hb : tB Q Z m s) (hN : 1 ≤ xN s) (hc : tyR Q Z m (lM s.1) (xC s)) (hB : rBd s) (hS : St0 G) (X : cX p h G s 0 false) (hP : hldP G p Q) (hop : mO (Q (uM (xC s))) (uP (xC s)) = 17) (j : Nat) (hBb : mB (Q (uM (xC s))) (uP (xC s)) = nI j) (hD : 1 ≤ uD (xC s)) (hxi : xIns Q s = (xSet s (uGo (uPop (xC s)) (if uTop (xC s) = nI 0 then j else uP (xC s) + 1)), 0)) : am_Ok w jM_step d (0, 0) [.inr (some 109), .inr (some (114 + 3 * (xN s - 1)))] G (fun r G' => r = none ∧ xPost p h G' (xIns Q s) ∧ oM h G G') := by
  refine am_ok_of rfl (Nat.le_of_ble_eq_true rfl) ?_
  show am_Go w jM_step d (0, 0) 0 [some (.inr (some 109)), some (.inr (some (114 + 3 * (xN s - 1)))), none, none, none, none, none] [] G _
  obtain ⟨t1, -, t3, t4, -⟩ := id hc
  have hn6 := (hP _ t1).2.2.1.1
  obtain ⟨n1, n2, n3, n4⟩ := id hB
  refine M_stp w G p h s Q hp hN t1 t3 hS X hP (fun G2 hS2 X hP2 o0 => ?_)
  have hS := hS2
  rw [hop]
  rw [hBb]
  have h12 := X.n12
  have hh := X.hh
  obtain ⟨k9, k10, k11, k12, k13, kh, kh1, g0, g1, g2, g3, gh⟩ := hS.cq hh
  obtain ⟨f0, f1, f2, f3, f4, f5⟩ := hS.fq (i := xN s - 1) (by omega)
  have lg := X.lg
  obtain ⟨⟨cnu, cbs, cdp, cd8⟩, cvl, clc⟩ := X.cf hN
  obtain ⟨hs, ⟨r0, r1, r2, r3, r4, r5, r6⟩, s1, s2, s3, s4, s5, s6, s7⟩ := (hP2 _ t1).1
  obtain ⟨m1, -, -⟩ := (hP2 _ t1).2.1.2.1 _ t3
  rw [hop] at m1
  refine go_tableIn dM_step_52 (by decide) (by decide) (off := 186) rfl (tgt := 238) (by decide) ?_
  refine go_aload_n dM_step_238 rfl rfl ?_
  refine go_aload_n dM_step_239 rfl rfl ?_
  refine go_aload_n dM_step_240 rfl rfl ?_
  refine go_getO dM_step_241 flM_114 rfl (by assumption) (by assumption) ?_
  refine go_iload_n dM_step_244 rfl rfl ?_
  refine go_ialV s1 (by omega) (by decide) m1 dM_step_245 ?_
  refine go_iload dM_step_246 rfl ?_
  refine go_iload dM_step_248 rfl ?_
  refine go_cV (k' := (0, 0)) dM_step_250 _ csM_129 (by assumption) rfl imM_turn seM_turn rfl (okM_tu17 (d := 1) w (by decide) G2 p h s hN hS2 X _ j hD) (by omega) (by decide) (Nat.le_of_ble_eq_true rfl) (fun r G1 hr hn => ?_)
  obtain ⟨rfl, X1, o1⟩ := hr
  refine go_goto dM_step_253 (tgt := 342) (by decide) ?_
  refine go_return rfl dM_step_342 ?_
  exact ⟨rfl, by rw [hxi]; exact xPost.z (X1), o0.tr o1⟩
set_option maxRecDepth 100000 in
theorem okM_st23 (w : am_W) {d : Nat} (hd : 2 ≤ d) (G : am_G) (p h m : Nat) (s : xT) (Q : Nat → mT) (Z : Nat → fM) (hp : p < 2) (hz : zSol Q Z m) (hb : tB Q Z m s) (hN : 1 ≤ xN s) (hc : tyR Q Z m (lM s.1) (xC s)) (hB : rBd s) (hS : St0 G) (X : cX p h G s 0 false) (hP : hldP G p Q) (hop : mO (Q (uM (xC s))) (uP (xC s)) = 23) (j : Nat) (hBb : mB (Q (uM (xC s))) (uP (xC s)) = nI j) (h8 : uD (xC s) < 8) (hxi : xIns Q s = (xSet s (uGo (uPush (xC s) (nI (uP (xC s) + 1))) j), 0)) : am_Ok w jM_step d (0, 0) [.inr (some 109), .inr (some (114 + 3 * (xN s - 1)))] G (fun r G' => r = none ∧ xPost p h G' (xIns Q s) ∧ oM h G G') := by
  refine am_ok_of rfl (Nat.le_of_ble_eq_true rfl) ?_
  show am_Go w jM_step d (0, 0) 0 [some (.inr (some 109)), some (.inr (some (114 + 3 * (xN s - 1)))), none, none, none, none, none] [] G _
  obtain ⟨t1, -, t3, t4, -⟩ := id hc
  have hn6 := (hP _ t1).2.2.1.1
  obtain ⟨n1, n2, n3, n4⟩ := id hB
  refine M_stp w G p h s Q hp hN t1 t3 hS X hP (fun G2 hS2 X hP2 o0 => ?_)
  have hS := hS2
  rw [hop]
  rw [hBb]
  have h12 := X.n12
  have hh := X.hh
  obtain ⟨k9, k10, k11, k12, k13, kh, kh1, g0, g1, g2, g3, gh⟩ := hS.cq hh
  obtain ⟨f0, f1, f2, f3, f4, f5⟩ := hS.fq (i := xN s - 1) (by omega)
  have lg := X.lg
  obtain ⟨⟨cnu, cbs, cdp, cd8⟩, cvl, clc⟩ := X.cf hN
  obtain ⟨hs, ⟨r0, r1, r2, r3, r4, r5, r6⟩, s1, s2, s3, s4, s5, s6, s7⟩ := (hP2 _ t1).1
  obtain ⟨m1, -, -⟩ := (hP2 _ t1).2.1.2.1 _ t3
  rw [hop] at m1
  refine go_tableIn dM_step_52 (by decide) (by decide) (off := 186) rfl (tgt := 238) (by decide) ?_
  refine go_aload_n dM_step_238 rfl rfl ?_
  refine go_aload_n dM_step_239 rfl rfl ?_
  refine go_aload_n dM_step_240 rfl rfl ?_
  refine go_getO dM_step_241 flM_114 rfl (by assumption) (by assumption) ?_
  refine go_iload_n dM_step_244 rfl rfl ?_
  refine go_ialV s1 (by omega) (by decide) m1 dM_step_245 ?_
  refine go_iload dM_step_246 rfl ?_
  refine go_iload dM_step_248 rfl ?_
  refine go_cV (k' := (0, 0)) dM_step_250 _ csM_129 (by assumption) rfl imM_turn seM_turn rfl (okM_tu23 (d := 1) w (by decide) G2 p h s hN hS2 X _ j h8) (by omega) (by decide) (Nat.le_of_ble_eq_true rfl) (fun r G1 hr hn => ?_)
  obtain ⟨rfl, X1, o1⟩ := hr
  refine go_goto dM_step_253 (tgt := 342) (by decide) ?_
  refine go_return rfl dM_step_342 ?_
  exact ⟨rfl, by rw [hxi]; exact xPost.z (X1), o0.tr o1⟩
set_option maxRecDepth 100000 in
theorem okM_st4 (w : am_W) {d : Nat} (hd : 2 ≤ d) (G : am_G) (p h m : Nat) (s : xT) (Q : Nat → mT) (Z : Nat → fM) (hp : p < 2) (hz : zSol Q Z m) (hb : tB Q Z m s) (hN : 1 ≤ xN s) (hc : tyR Q Z m (lM s.1) (xC s)) (hB : rBd s) (hS : St0 G) (X : cX p h G s 0 false) (hP : hldP G p Q) (hop : mO (Q (uM (xC s))) (uP (xC s)) = 4) (hD : 1 ≤ uD (xC s)) (hxi : xIns Q s = (xSet s (uGo (uPop (xC s)) (uP (xC s) + 1)), 0)) : am_Ok w jM_step d (0, 0) [.inr (some 109), .inr (some (114 + 3 * (xN s - 1)))] G (fun r G' => r = none ∧ xPost p h G' (xIns Q s) ∧ oM h G G') := by
  refine am_ok_of rfl (Nat.le_of_ble_eq_true rfl) ?_
  show am_Go w jM_step d (0, 0) 0 [some (.inr (some 109)), some (.inr (some (114 + 3 * (xN s - 1)))), none, none, none, none, none] [] G _
  obtain ⟨t1, -, t3, t4, -⟩ := id hc
  have hn6 := (hP _ t1).2.2.1.1
  obtain ⟨n1, n2, n3, n4⟩ := id hB
  refine M_stp w G p h s Q hp hN t1 t3 hS X hP (fun G2 hS2 X hP2 o0 => ?_)
  have hS := hS2
  rw [hop]
  have h12 := X.n12
  have hh := X.hh
  obtain ⟨k9, k10, k11, k12, k13, kh, kh1, g0, g1, g2, g3, gh⟩ := hS.cq hh
  obtain ⟨f0, f1, f2, f3, f4, f5⟩ := hS.fq (i := xN s - 1) (by omega)
  have lg := X.lg
  obtain ⟨⟨cnu, cbs, cdp, cd8⟩, cvl, clc⟩ := X.cf hN
  obtain ⟨hs, ⟨r0, r1, r2, r3, r4, r5, r6⟩, s1, s2, s3, s4, s5, s6, s7⟩ := (hP2 _ t1).1
  obtain ⟨m1, -, -⟩ := (hP2 _ t1).2.1.2.1 _ t3
  rw [hop] at m1
  refine go_tableIn dM_step_52 (by decide) (by decide) (off := 265) rfl (tgt := 317) (by decide) ?_
  refine go_aload_n dM_step_317 rfl rfl ?_
  refine go_aload_n dM_step_318 rfl rfl ?_
  refine go_aload_n dM_step_319 rfl rfl ?_
  refine go_getO dM_step_320 flM_114 rfl (by assumption) (by assumption) ?_
  refine go_iload_n dM_step_323 rfl rfl ?_
  refine go_ialV s1 (by omega) (by decide) m1 dM_step_324 ?_
  refine go_cV (k' := (0, 0)) dM_step_325 _ csM_150 (by assumption) rfl imM_shuffle seM_shuffle rfl (okM_sh4 (d := 1) w (by decide) G2 p h s hN hS2 X hD) (by omega) (by decide) (Nat.le_of_ble_eq_true rfl) (fun r G1 hr hn => ?_)
  obtain ⟨rfl, X1, o1⟩ := hr
  refine go_goto dM_step_328 (tgt := 342) (by decide) ?_
  refine go_return rfl dM_step_342 ?_
  exact ⟨rfl, by rw [hxi]; exact xPost.z (X1), o0.tr o1⟩
set_option maxRecDepth 100000 in
theorem okM_st5 (w : am_W) {d : Nat} (hd : 2 ≤ d) (G : am_G) (p h m : Nat) (s : xT) (Q : Nat → mT) (Z : Nat → fM) (hp : p < 2) (hz : zSol Q Z m) (hb : tB Q Z m s) (hN : 1 ≤ xN s) (hc : tyR Q Z m (lM s.1) (xC s)) (hB : rBd s) (hS : St0 G) (X : cX p h G s 0 false) (hP : hldP G p Q) (hop : mO (Q (uM (xC s))) (uP (xC s)) = 5) (hD : 1 ≤ uD (xC s)) (h8 : uD (xC s) < 8) (hxi : xIns Q s = (xSet s (uGo (uPush (uPush (uPop (xC s)) (uTop (xC s))) (uTop (xC s))) (uP (xC s) + 1)), 0)) : am_Ok w jM_step d (0, 0) [.inr (some 109), .inr (some (114 + 3 * (xN s - 1)))] G (fun r G' => r = none ∧ xPost p h G' (xIns Q s) ∧ oM h G G') := by
  refine am_ok_of rfl (Nat.le_of_ble_eq_true rfl) ?_
  show am_Go w jM_step d (0, 0) 0 [some (.inr (some 109)), some (.inr (some (114 + 3 * (xN s - 1)))), none, none, none, none, none] [] G _
  obtain ⟨t1, -, t3, t4, -⟩ := id hc
  have hn6 := (hP _ t1).2.2.1.1
  obtain ⟨n1, n2, n3, n4⟩ := id hB
  refine M_stp w G p h s Q hp hN t1 t3 hS X hP (fun G2 hS2 X hP2 o0 => ?_)
  have hS := hS2
  rw [hop]
  have h12 := X.n12
  have hh := X.hh
  obtain ⟨k9, k10, k11, k12, k13, kh, kh1, g0, g1, g2, g3, gh⟩ := hS.cq hh
  obtain ⟨f0, f1, f2, f3, f4, f5⟩ := hS.fq (i := xN s - 1) (by omega)
  have lg := X.lg
  obtain ⟨⟨cnu, cbs, cdp, cd8⟩, cvl, clc⟩ := X.cf hN
  obtain ⟨hs, ⟨r0, r1, r2, r3, r4, r5, r6⟩, s1, s2, s3, s4, s5, s6, s7⟩ := (hP2 _ t1).1
  obtain ⟨m1, -, -⟩ := (hP2 _ t1).2.1.2.1 _ t3
  rw [hop] at m1
  refine go_tableIn dM_step_52 (by decide) (by decide) (off := 265) rfl (tgt := 317) (by decide) ?_
  refine go_aload_n dM_step_317 rfl rfl ?_
  refine go_aload_n dM_step_318 rfl rfl ?_
  refine go_aload_n dM_step_319 rfl rfl ?_
  refine go_getO dM_step_320 flM_114 rfl (by assumption) (by assumption) ?_
  refine go_iload_n dM_step_323 rfl rfl ?_
  refine go_ialV s1 (by omega) (by decide) m1 dM_step_324 ?_
  refine go_cV (k' := (0, 0)) dM_step_325 _ csM_150 (by assumption) rfl imM_shuffle seM_shuffle rfl (okM_sh5 (d := 1) w (by decide) G2 p h s hN hS2 X hD h8) (by omega) (by decide) (Nat.le_of_ble_eq_true rfl) (fun r G1 hr hn => ?_)
  obtain ⟨rfl, X1, o1⟩ := hr
  refine go_goto dM_step_328 (tgt := 342) (by decide) ?_
  refine go_return rfl dM_step_342 ?_
  exact ⟨rfl, by rw [hxi]; exact xPost.z (X1), o0.tr o1⟩
set_option maxRecDepth 100000 in
theorem okM_st6 (w : am_W) {d : Nat} (hd : 2 ≤ d) (G : am_G) (p h m : Nat) (s : xT) (Q : Nat → mT) (Z : Nat → fM) (hp : p < 2) (hz : zSol Q Z m) (hb : tB Q Z m s) (hN : 1 ≤ xN s) (hc : tyR Q Z m (lM s.1) (xC s)) (hB : rBd s) (hS : St0 G) (X : cX p h G s 0 false) (hP : hldP G p Q) (hop : mO (Q (uM (xC s))) (uP (xC s)) = 6) (hD : 2 ≤ uD (xC s)) (hxi : xIns Q s = (xSet s (uGo (uPush (uPush (uPop (uPop (xC s))) (uTop (xC s))) (uTop (uPop (xC s)))) (uP (xC s) + 1)), 0)) : am_Ok w jM_step d (0, 0) [.inr (some 109), .inr (some (114 + 3 * (xN s - 1)))] G (fun r G' => r = none ∧ xPost p h G' (xIns Q s) ∧ oM h G G') := by
  refine am_ok_of rfl (Nat.le_of_ble_eq_true rfl) ?_
  show am_Go w jM_step d (0, 0) 0 [some (.inr (some 109)), some (.inr (some (114 + 3 * (xN s - 1)))), none, none, none, none, none] [] G _
  obtain ⟨t1, -, t3, t4, -⟩ := id hc
  have hn6 := (hP _ t1).2.2.1.1
  obtain ⟨n1, n2, n3, n4⟩ := id hB
  refine M_stp w G p h s Q hp hN t1 t3 hS X hP (fun G2 hS2 X hP2 o0 => ?_)
  have hS := hS2
  rw [hop]
  have h12 := X.n12
  have hh := X.hh
  obtain ⟨k9, k10, k11, k12, k13, kh, kh1, g0, g1, g2, g3, gh⟩ := hS.cq hh
  obtain ⟨f0, f1, f2, f3, f4, f5⟩ := hS.fq (i := xN s - 1) (by omega)
  have lg := X.lg
  obtain ⟨⟨cnu, cbs, cdp, cd8⟩, cvl, clc⟩ := X.cf hN
  obtain ⟨hs, ⟨r0, r1, r2, r3, r4, r5, r6⟩, s1, s2, s3, s4, s5, s6, s7⟩ := (hP2 _ t1).1
  obtain ⟨m1, -, -⟩ := (hP2 _ t1).2.1.2.1 _ t3
  rw [hop] at m1
  refine go_tableIn dM_step_52 (by decide) (by decide) (off := 265) rfl (tgt := 317) (by decide) ?_
  refine go_aload_n dM_step_317 rfl rfl ?_
  refine go_aload_n dM_step_318 rfl rfl ?_
  refine go_aload_n dM_step_319 rfl rfl ?_
  refine go_getO dM_step_320 flM_114 rfl (by assumption) (by assumption) ?_
  refine go_iload_n dM_step_323 rfl rfl ?_
  refine go_ialV s1 (by omega) (by decide) m1 dM_step_324 ?_
  refine go_cV (k' := (0, 0)) dM_step_325 _ csM_150 (by assumption) rfl imM_shuffle seM_shuffle rfl (okM_sh6 (d := 1) w (by decide) G2 p h s hN hS2 X hD) (by omega) (by decide) (Nat.le_of_ble_eq_true rfl) (fun r G1 hr hn => ?_)
  obtain ⟨rfl, X1, o1⟩ := hr
  refine go_goto dM_step_328 (tgt := 342) (by decide) ?_
  refine go_return rfl dM_step_342 ?_
  exact ⟨rfl, by rw [hxi]; exact xPost.z (X1), o0.tr o1⟩
set_option maxRecDepth 100000 in
theorem okM_st7 (w : am_W) {d : Nat} (hd : 2 ≤ d) (G : am_G) (p h m : Nat) (s : xT) (Q : Nat → mT) (Z : Nat → fM) (hp : p < 2) (hz : zSol Q Z m) (hb : tB Q Z m s) (hN : 1 ≤ xN s) (hc : tyR Q Z m (lM s.1) (xC s)) (hB : rBd s) (hS : St0 G) (X : cX p h G s 0 false) (hP : hldP G p Q) (hop : mO (Q (uM (xC s))) (uP (xC s)) = 7) (hD : 2 ≤ uD (xC s)) (hxi : xIns Q s = (xSet s (uGo (uPush (uPop (uPop (xC s))) (uTop (uPop (xC s)) + uTop (xC s))) (uP (xC s) + 1)), 0)) : am_Ok w jM_step d (0, 0) [.inr (some 109), .inr (some (114 + 3 * (xN s - 1)))] G (fun r G' => r = none ∧ xPost p h G' (xIns Q s) ∧ oM h G G') := by
  refine am_ok_of rfl (Nat.le_of_ble_eq_true rfl) ?_
  show am_Go w jM_step d (0, 0) 0 [some (.inr (some 109)), some (.inr (some (114 + 3 * (xN s - 1)))), none, none, none, none, none] [] G _
  obtain ⟨t1, -, t3, t4, -⟩ := id hc
  have hn6 := (hP _ t1).2.2.1.1
  obtain ⟨n1, n2, n3, n4⟩ := id hB
  refine M_stp w G p h s Q hp hN t1 t3 hS X hP (fun G2 hS2 X hP2 o0 => ?_)
  have hS := hS2
  rw [hop]
  have h12 := X.n12
  have hh := X.hh
  obtain ⟨k9, k10, k11, k12, k13, kh, kh1, g0, g1, g2, g3, gh⟩ := hS.cq hh
  obtain ⟨f0, f1, f2, f3, f4, f5⟩ := hS.fq (i := xN s - 1) (by omega)
  have lg := X.lg
  obtain ⟨⟨cnu, cbs, cdp, cd8⟩, cvl, clc⟩ := X.cf hN
  obtain ⟨hs, ⟨r0, r1, r2, r3, r4, r5, r6⟩, s1, s2, s3, s4, s5, s6, s7⟩ := (hP2 _ t1).1
  obtain ⟨m1, -, -⟩ := (hP2 _ t1).2.1.2.1 _ t3
  rw [hop] at m1
  refine go_tableIn dM_step_52 (by decide) (by decide) (off := 251) rfl (tgt := 303) (by decide) ?_
  refine go_aload_n dM_step_303 rfl rfl ?_
  refine go_aload_n dM_step_304 rfl rfl ?_
  refine go_aload_n dM_step_305 rfl rfl ?_
  refine go_getO dM_step_306 flM_114 rfl (by assumption) (by assumption) ?_
  refine go_iload_n dM_step_309 rfl rfl ?_
  refine go_ialV s1 (by omega) (by decide) m1 dM_step_310 ?_
  refine go_cV (k' := (0, 0)) dM_step_311 _ csM_147 (by assumption) rfl imM_reckon seM_reckon rfl (okM_rk7 (d := 1) w (by decide) G2 p h s hN hS2 X hD) (by omega) (by decide) (Nat.le_of_ble_eq_true rfl) (fun r G1 hr hn => ?_)
  obtain ⟨rfl, X1, o1⟩ := hr
  refine go_goto dM_step_314 (tgt := 342) (by decide) ?_
  refine go_return rfl dM_step_342 ?_
  exact ⟨rfl, by rw [hxi]; exact xPost.z (X1), o0.tr o1⟩
set_option maxRecDepth 100000 in
theorem okM_st8 (w : am_W) {d : Nat} (hd : 2 ≤ d) (G : am_G) (p h m : Nat) (s : xT) (Q : Nat → mT) (Z : Nat → fM) (hp : p < 2) (hz : zSol Q Z m) (hb : tB Q Z m s) (hN : 1 ≤ xN s) (hc : tyR Q Z m (lM s.1) (xC s)) (hB : rBd s) (hS : St0 G) (X : cX p h G s 0 false) (hP : hldP G p Q) (hop : mO (Q (uM (xC s))) (uP (xC s)) = 8) (hD : 2 ≤ uD (xC s)) (hxi : xIns Q s = (xSet s (uGo (uPush (uPop (uPop (xC s))) (uTop (uPop (xC s)) - uTop (xC s))) (uP (xC s) + 1)), 0)) : am_Ok w jM_step d (0, 0) [.inr (some 109), .inr (some (114 + 3 * (xN s - 1)))] G (fun r G' => r = none ∧ xPost p h G' (xIns Q s) ∧ oM h G G') := by
  refine am_ok_of rfl (Nat.le_of_ble_eq_true rfl) ?_
  show am_Go w jM_step d (0, 0) 0 [some (.inr (some 109)), some (.inr (some (114 + 3 * (xN s - 1)))), none, none, none, none, none] [] G _
  obtain ⟨t1, -, t3, t4, -⟩ := id hc
  have hn6 := (hP _ t1).2.2.1.1
  obtain ⟨n1, n2, n3, n4⟩ := id hB
  refine M_stp w G p h s Q hp hN t1 t3 hS X hP (fun G2 hS2 X hP2 o0 => ?_)
  have hS := hS2
  rw [hop]
  have h12 := X.n12
  have hh := X.hh
  obtain ⟨k9, k10, k11, k12, k13, kh, kh1, g0, g1, g2, g3, gh⟩ := hS.cq hh
  obtain ⟨f0, f1, f2, f3, f4, f5⟩ := hS.fq (i := xN s - 1) (by omega)
  have lg := X.lg
  obtain ⟨⟨cnu, cbs, cdp, cd8⟩, cvl, clc⟩ := X.cf hN
  obtain ⟨hs, ⟨r0, r1, r2, r3, r4, r5, r6⟩, s1, s2, s3, s4, s5, s6, s7⟩ := (hP2 _ t1).1
  obtain ⟨m1, -, -⟩ := (hP2 _ t1).2.1.2.1 _ t3
  rw [hop] at m1
  refine go_tableIn dM_step_52 (by decide) (by decide) (off := 251) rfl (tgt := 303) (by decide) ?_
  refine go_aload_n dM_step_303 rfl rfl ?_
  refine go_aload_n dM_step_304 rfl rfl ?_
  refine go_aload_n dM_step_305 rfl rfl ?_
  refine go_getO dM_step_306 flM_114 rfl (by assumption) (by assumption) ?_
  refine go_iload_n dM_step_309 rfl rfl ?_
  refine go_ialV s1 (by omega) (by decide) m1 dM_step_310 ?_
  refine go_cV (k' := (0, 0)) dM_step_311 _ csM_147 (by assumption) rfl imM_reckon seM_reckon rfl (okM_rk8 (d := 1) w (by decide) G2 p h s hN hS2 X hD) (by omega) (by decide) (Nat.le_of_ble_eq_true rfl) (fun r G1 hr hn => ?_)
  obtain ⟨rfl, X1, o1⟩ := hr
  refine go_goto dM_step_314 (tgt := 342) (by decide) ?_
  refine go_return rfl dM_step_342 ?_
  exact ⟨rfl, by rw [hxi]; exact xPost.z (X1), o0.tr o1⟩
set_option maxRecDepth 100000 in
theorem okM_st9 (w : am_W) {d : Nat} (hd : 2 ≤ d) (G : am_G) (p h m : Nat) (s : xT) (Q : Nat → mT) (Z : Nat → fM) (hp : p < 2) (hz : zSol Q Z m) (hb : tB Q Z m s) (hN : 1 ≤ xN s) (hc : tyR Q Z m (lM s.1) (xC s)) (hB : rBd s) (hS : St0 G) (X : cX p h G s 0 false) (hP : hldP G p Q) (hop : mO (Q (uM (xC s))) (uP (xC s)) = 9) (hD : 2 ≤ uD (xC s)) (hxi : xIns Q s = (xSet s (uGo (uPush (uPop (uPop (xC s))) (uTop (uPop (xC s)) * uTop (xC s))) (uP (xC s) + 1)), 0)) : am_Ok w jM_step d (0, 0) [.inr (some 109), .inr (some (114 + 3 * (xN s - 1)))] G (fun r G' => r = none ∧ xPost p h G' (xIns Q s) ∧ oM h G G') := by
  refine am_ok_of rfl (Nat.le_of_ble_eq_true rfl) ?_
  show am_Go w jM_step d (0, 0) 0 [some (.inr (some 109)), some (.inr (some (114 + 3 * (xN s - 1)))), none, none, none, none, none] [] G _
  obtain ⟨t1, -, t3, t4, -⟩ := id hc
  have hn6 := (hP _ t1).2.2.1.1
  obtain ⟨n1, n2, n3, n4⟩ := id hB
  refine M_stp w G p h s Q hp hN t1 t3 hS X hP (fun G2 hS2 X hP2 o0 => ?_)
  have hS := hS2
  rw [hop]
  have h12 := X.n12
  have hh := X.hh
  obtain ⟨k9, k10, k11, k12, k13, kh, kh1, g0, g1, g2, g3, gh⟩ := hS.cq hh
  obtain ⟨f0, f1, f2, f3, f4, f5⟩ := hS.fq (i := xN s - 1) (by omega)
  have lg := X.lg
  obtain ⟨⟨cnu, cbs, cdp, cd8⟩, cvl, clc⟩ := X.cf hN
  obtain ⟨hs, ⟨r0, r1, r2, r3, r4, r5, r6⟩, s1, s2, s3, s4, s5, s6, s7⟩ := (hP2 _ t1).1
  obtain ⟨m1, -, -⟩ := (hP2 _ t1).2.1.2.1 _ t3
  rw [hop] at m1
  refine go_tableIn dM_step_52 (by decide) (by decide) (off := 251) rfl (tgt := 303) (by decide) ?_
  refine go_aload_n dM_step_303 rfl rfl ?_
  refine go_aload_n dM_step_304 rfl rfl ?_
  refine go_aload_n dM_step_305 rfl rfl ?_
  refine go_getO dM_step_306 flM_114 rfl (by assumption) (by assumption) ?_
  refine go_iload_n dM_step_309 rfl rfl ?_
  refine go_ialV s1 (by omega) (by decide) m1 dM_step_310 ?_
  refine go_cV (k' := (0, 0)) dM_step_311 _ csM_147 (by assumption) rfl imM_reckon seM_reckon rfl (okM_rk9 (d := 1) w (by decide) G2 p h s hN hS2 X hD) (by omega) (by decide) (Nat.le_of_ble_eq_true rfl) (fun r G1 hr hn => ?_)
  obtain ⟨rfl, X1, o1⟩ := hr
  refine go_goto dM_step_314 (tgt := 342) (by decide) ?_
  refine go_return rfl dM_step_342 ?_
  exact ⟨rfl, by rw [hxi]; exact xPost.z (X1), o0.tr o1⟩
set_option maxRecDepth 100000 in
theorem okM_st10 (w : am_W) {d : Nat} (hd : 2 ≤ d) (G : am_G) (p h m : Nat) (s : xT) (Q : Nat → mT) (Z : Nat → fM) (hp : p < 2) (hz : zSol Q Z m) (hb : tB Q Z m s) (hN : 1 ≤ xN s) (hc : tyR Q Z m (lM s.1) (xC s)) (hB : rBd s) (hS : St0 G) (X : cX p h G s 0 false) (hP : hldP G p Q) (hop : mO (Q (uM (xC s))) (uP (xC s)) = 10) (hD : 2 ≤ uD (xC s)) (hy : ¬ uTop (xC s) = nI 0) (hxi : xIns Q s = (xSet s (uGo (uPush (uPop (uPop (xC s))) (uTop (uPop (xC s)) / uTop (xC s))) (uP (xC s) + 1)), 0)) : am_Ok w jM_step d (0, 0) [.inr (some 109), .inr (some (114 + 3 * (xN s - 1)))] G (fun r G' => r = none ∧ xPost p h G' (xIns Q s) ∧ oM h G G') := by
  refine am_ok_of rfl (Nat.le_of_ble_eq_true rfl) ?_
  show am_Go w jM_step d (0, 0) 0 [some (.inr (some 109)), some (.inr (some (114 + 3 * (xN s - 1)))), none, none, none, none, none] [] G _
  obtain ⟨t1, -, t3, t4, -⟩ := id hc
  have hn6 := (hP _ t1).2.2.1.1
  obtain ⟨n1, n2, n3, n4⟩ := id hB
  refine M_stp w G p h s Q hp hN t1 t3 hS X hP (fun G2 hS2 X hP2 o0 => ?_)
  have hS := hS2
  rw [hop]
  have h12 := X.n12
  have hh := X.hh
  obtain ⟨k9, k10, k11, k12, k13, kh, kh1, g0, g1, g2, g3, gh⟩ := hS.cq hh
  obtain ⟨f0, f1, f2, f3, f4, f5⟩ := hS.fq (i := xN s - 1) (by omega)
  have lg := X.lg
  obtain ⟨⟨cnu, cbs, cdp, cd8⟩, cvl, clc⟩ := X.cf hN
  obtain ⟨hs, ⟨r0, r1, r2, r3, r4, r5, r6⟩, s1, s2, s3, s4, s5, s6, s7⟩ := (hP2 _ t1).1
  obtain ⟨m1, -, -⟩ := (hP2 _ t1).2.1.2.1 _ t3
  rw [hop] at m1
  refine go_tableIn dM_step_52 (by decide) (by decide) (off := 251) rfl (tgt := 303) (by decide) ?_
  refine go_aload_n dM_step_303 rfl rfl ?_
  refine go_aload_n dM_step_304 rfl rfl ?_
  refine go_aload_n dM_step_305 rfl rfl ?_
  refine go_getO dM_step_306 flM_114 rfl (by assumption) (by assumption) ?_
  refine go_iload_n dM_step_309 rfl rfl ?_
  refine go_ialV s1 (by omega) (by decide) m1 dM_step_310 ?_
  refine go_cV (k' := (0, 0)) dM_step_311 _ csM_147 (by assumption) rfl imM_reckon seM_reckon rfl (okM_rk10 (d := 1) w (by decide) G2 p h s hN hS2 X hD hy) (by omega) (by decide) (Nat.le_of_ble_eq_true rfl) (fun r G1 hr hn => ?_)
  obtain ⟨rfl, X1, o1⟩ := hr
  refine go_goto dM_step_314 (tgt := 342) (by decide) ?_
  refine go_return rfl dM_step_342 ?_
  exact ⟨rfl, by rw [hxi]; exact xPost.z (X1), o0.tr o1⟩
set_option maxRecDepth 100000 in
theorem okM_st10z (w : am_W) {d : Nat} (hd : 4 ≤ d) (G : am_G) (p h m : Nat) (s : xT) (Q : Nat → mT) (Z : Nat → fM) (hp : p < 2) (hz : zSol Q Z m) (hb : tB Q Z m s) (hN : 1 ≤ xN s) (hc : tyR Q Z m (lM s.1) (xC s)) (hB : rBd s) (hS : St0 G) (X : cX p h G s 0 false) (hP : hldP G p Q) (hop : mO (Q (uM (xC s))) (uP (xC s)) = 10) (hD : 2 ≤ uD (xC s)) (hy : uTop (xC s) = nI 0) (hxi : xIns Q s = xNew (xSet s (uPop (uPop (xC s)))) 1) : am_Ok w jM_step d (0, 0) [.inr (some 109), .inr (some (114 + 3 * (xN s - 1)))] G (fun r G' => r = none ∧ xPost p h G' (xIns Q s) ∧ oM h G G') := by
  refine am_ok_of rfl (Nat.le_of_ble_eq_true rfl) ?_
  show am_Go w jM_step d (0, 0) 0 [some (.inr (some 109)), some (.inr (some (114 + 3 * (xN s - 1)))), none, none, none, none, none] [] G _
  obtain ⟨t1, -, t3, t4, -⟩ := id hc
  have hn6 := (hP _ t1).2.2.1.1
  obtain ⟨n1, n2, n3, n4⟩ := id hB
  refine M_stp w G p h s Q hp hN t1 t3 hS X hP (fun G2 hS2 X hP2 o0 => ?_)
  have hS := hS2
  rw [hop]
  have h12 := X.n12
  have hh := X.hh
  obtain ⟨k9, k10, k11, k12, k13, kh, kh1, g0, g1, g2, g3, gh⟩ := hS.cq hh
  obtain ⟨f0, f1, f2, f3, f4, f5⟩ := hS.fq (i := xN s - 1) (by omega)
  have lg := X.lg
  obtain ⟨⟨cnu, cbs, cdp, cd8⟩, cvl, clc⟩ := X.cf hN
  obtain ⟨hs, ⟨r0, r1, r2, r3, r4, r5, r6⟩, s1, s2, s3, s4, s5, s6, s7⟩ := (hP2 _ t1).1
  obtain ⟨m1, -, -⟩ := (hP2 _ t1).2.1.2.1 _ t3
  rw [hop] at m1
  refine go_tableIn dM_step_52 (by decide) (by decide) (off := 251) rfl (tgt := 303) (by decide) ?_
  refine go_aload_n dM_step_303 rfl rfl ?_
  refine go_aload_n dM_step_304 rfl rfl ?_
  refine go_aload_n dM_step_305 rfl rfl ?_
  refine go_getO dM_step_306 flM_114 rfl (by assumption) (by assumption) ?_
  refine go_iload_n dM_step_309 rfl rfl ?_
  refine go_ialV s1 (by omega) (by decide) m1 dM_step_310 ?_
  refine go_cV (k' := (0, 0)) dM_step_311 _ csM_147 (by assumption) rfl imM_reckon seM_reckon rfl (okM_rk10z (d := 3) w (by decide) G2 p h s hN hS2 X hD hy (by omega) (by omega)) (by omega) (by decide) (Nat.le_of_ble_eq_true rfl) (fun r G1 hr hn => ?_)
  obtain ⟨rfl, X1, o1⟩ := hr
  refine go_goto dM_step_314 (tgt := 342) (by decide) ?_
  refine go_return rfl dM_step_342 ?_
  exact ⟨rfl, by rw [hxi]; exact xPost.n (Nat.succ_ne_zero _) X1, o0.tr o1⟩
set_option maxRecDepth 100000 in
theorem okM_st0 (w : am_W) {d : Nat} (hd : 1 ≤ d) (G : am_G) (p h m : Nat) (s : xT) (Q : Nat → mT) (Z : Nat → fM) (hp : p < 2) (hz : zSol Q Z m) (hb : tB Q Z m s) (hN : 1 ≤ xN s) (hc : tyR Q Z m (lM s.1) (xC s)) (hB : rBd s) (hS : St0 G) (X : cX p h G s 0 false) (hP : hldP G p Q) (hop : mO (Q (uM (xC s))) (uP (xC s)) = 0) (hxi : xIns Q s = (xSet s (uGo (xC s) (uP (xC s) + 1)), 0)) : am_Ok w jM_step d (0, 0) [.inr (some 109), .inr (some (114 + 3 * (xN s - 1)))] G (fun r G' => r = none ∧ xPost p h G' (xIns Q s) ∧ oM h G G') := by
  refine am_ok_of rfl (Nat.le_of_ble_eq_true rfl) ?_
  show am_Go w jM_step d (0, 0) 0 [some (.inr (some 109)), some (.inr (some (114 + 3 * (xN s - 1)))), none, none, none, none, none] [] G _
  obtain ⟨t1, -, t3, t4, -⟩ := id hc
  have hn6 := (hP _ t1).2.2.1.1
  obtain ⟨n1, n2, n3, n4⟩ := id hB
  refine M_stp w G p h s Q hp hN t1 t3 hS X hP (fun G2 hS2 X hP2 o0 => ?_)
  have hS := hS2
  rw [hop]
  have h12 := X.n12
  have hh := X.hh
  obtain ⟨k9, k10, k11, k12, k13, kh, kh1, g0, g1, g2, g3, gh⟩ := hS.cq hh
  obtain ⟨f0, f1, f2, f3, f4, f5⟩ := hS.fq (i := xN s - 1) (by omega)
  have lg := X.lg
  obtain ⟨⟨cnu, cbs, cdp, cd8⟩, cvl, clc⟩ := X.cf hN
  obtain ⟨hs, ⟨r0, r1, r2, r3, r4, r5, r6⟩, s1, s2, s3, s4, s5, s6, s7⟩ := (hP2 _ t1).1
  obtain ⟨m1, -, -⟩ := (hP2 _ t1).2.1.2.1 _ t3
  rw [hop] at m1
  refine go_tableOut dM_step_52 (by decide) (tgt := 331) (by decide) ?_
  refine go_aload_n dM_step_331 rfl rfl ?_
  refine go_aload_n dM_step_332 rfl rfl ?_
  refine go_aload_n dM_step_333 rfl rfl ?_
  refine go_getO dM_step_334 flM_114 rfl (by assumption) (by assumption) ?_
  refine go_iload_n dM_step_337 rfl rfl ?_
  refine go_ialV s1 (by omega) (by decide) m1 dM_step_338 ?_
  refine go_cV (k' := (0, 0)) dM_step_339 _ csM_153 (by assumption) rfl imM_useObject seM_useObject rfl (okM_uo0 (d := 0) w (by decide) G2 p h s hN hS2 X) (by omega) (by decide) (Nat.le_of_ble_eq_true rfl) (fun r G1 hr hn => ?_)
  obtain ⟨rfl, X1, o1⟩ := hr
  refine go_return rfl dM_step_342 ?_
  exact ⟨rfl, by rw [hxi]; exact xPost.z (X1), o0.tr o1⟩
set_option maxRecDepth 100000 in
theorem okM_st15 (w : am_W) {d : Nat} (hd : 2 ≤ d) (G : am_G) (p h m : Nat) (s : xT) (Q : Nat → mT) (Z : Nat → fM) (hp : p < 2) (hz : zSol Q Z m) (hb : tB Q Z m s) (hN : 1 ≤ xN s) (hc : tyR Q Z m (lM s.1) (xC s)) (hB : rBd s) (hS : St0 G) (X : cX p h G s 0 false) (hP : hldP G p Q) (hop : mO (Q (uM (xC s))) (uP (xC s)) = 15) (u : Nat) (hu : uTop (xC s) = nI u) (h1 : 1 ≤ u) (h2 : u ≤ lM s.1) (hD : 1 ≤ uD (xC s)) (hxi : xIns Q s = (xSet s (uGo (uPush (uPop (xC s)) (xI s u)) (uP (xC s) + 1)), 0)) : am_Ok w jM_step d (0, 0) [.inr (some 109), .inr (some (114 + 3 * (xN s - 1)))] G (fun r G' => r = none ∧ xPost p h G' (xIns Q s) ∧ oM h G G') := by
  refine am_ok_of rfl (Nat.le_of_ble_eq_true rfl) ?_
  show am_Go w jM_step d (0, 0) 0 [some (.inr (some 109)), some (.inr (some (114 + 3 * (xN s - 1)))), none, none, none, none, none] [] G _
  obtain ⟨t1, -, t3, t4, -⟩ := id hc
  have hn6 := (hP _ t1).2.2.1.1
  obtain ⟨n1, n2, n3, n4⟩ := id hB
  refine M_stp w G p h s Q hp hN t1 t3 hS X hP (fun G2 hS2 X hP2 o0 => ?_)
  have hS := hS2
  rw [hop]
  have h12 := X.n12
  have hh := X.hh
  obtain ⟨k9, k10, k11, k12, k13, kh, kh1, g0, g1, g2, g3, gh⟩ := hS.cq hh
  obtain ⟨f0, f1, f2, f3, f4, f5⟩ := hS.fq (i := xN s - 1) (by omega)
  have lg := X.lg
  obtain ⟨⟨cnu, cbs, cdp, cd8⟩, cvl, clc⟩ := X.cf hN
  obtain ⟨hs, ⟨r0, r1, r2, r3, r4, r5, r6⟩, s1, s2, s3, s4, s5, s6, s7⟩ := (hP2 _ t1).1
  obtain ⟨m1, -, -⟩ := (hP2 _ t1).2.1.2.1 _ t3
  rw [hop] at m1
  refine go_tableIn dM_step_52 (by decide) (by decide) (off := 279) rfl (tgt := 331) (by decide) ?_
  refine go_aload_n dM_step_331 rfl rfl ?_
  refine go_aload_n dM_step_332 rfl rfl ?_
  refine go_aload_n dM_step_333 rfl rfl ?_
  refine go_getO dM_step_334 flM_114 rfl (by assumption) (by assumption) ?_
  refine go_iload_n dM_step_337 rfl rfl ?_
  refine go_ialV s1 (by omega) (by decide) m1 dM_step_338 ?_
  refine go_cV (k' := (0, 0)) dM_step_339 _ csM_153 (by assumption) rfl imM_useObject seM_useObject rfl (okM_uo15 (d := 1) w (by decide) G2 p h s hN hS2 X u hu h1 h2 hD (by omega)) (by omega) (by decide) (Nat.le_of_ble_eq_true rfl) (fun r G1 hr hn => ?_)
  obtain ⟨rfl, X1, o1⟩ := hr
  refine go_return rfl dM_step_342 ?_
  exact ⟨rfl, by rw [hxi]; exact xPost.z (X1), o0.tr o1⟩
set_option maxRecDepth 100000 in
theorem okM_st26 (w : am_W) {d : Nat} (hd : 2 ≤ d) (G : am_G) (p h m : Nat) (s : xT) (Q : Nat → mT) (Z : Nat → fM) (hp : p < 2) (hz : zSol Q Z m) (hb : tB Q Z m s) (hN : 1 ≤ xN s) (hc : tyR Q Z m (lM s.1) (xC s)) (hB : rBd s) (hS : St0 G) (X : cX p h G s 0 false) (hP : hldP G p Q) (hop : mO (Q (uM (xC s))) (uP (xC s)) = 26) (u : Nat) (hu : uTop (xC s) = nI u) (h1 : 1 ≤ u) (h2 : u ≤ lM s.1) (hD : 1 ≤ uD (xC s)) (hxi : xIns Q s = (xSet s (uGo (uPush (uPop (xC s)) (nI (xY s u))) (uP (xC s) + 1)), 0)) : am_Ok w jM_step d (0, 0) [.inr (some 109), .inr (some (114 + 3 * (xN s - 1)))] G (fun r G' => r = none ∧ xPost p h G' (xIns Q s) ∧ oM h G G') := by
  refine am_ok_of rfl (Nat.le_of_ble_eq_true rfl) ?_
  show am_Go w jM_step d (0, 0) 0 [some (.inr (some 109)), some (.inr (some (114 + 3 * (xN s - 1)))), none, none, none, none, none] [] G _
  obtain ⟨t1, -, t3, t4, -⟩ := id hc
  have hn6 := (hP _ t1).2.2.1.1
  obtain ⟨n1, n2, n3, n4⟩ := id hB
  refine M_stp w G p h s Q hp hN t1 t3 hS X hP (fun G2 hS2 X hP2 o0 => ?_)
  have hS := hS2
  rw [hop]
  have h12 := X.n12
  have hh := X.hh
  obtain ⟨k9, k10, k11, k12, k13, kh, kh1, g0, g1, g2, g3, gh⟩ := hS.cq hh
  obtain ⟨f0, f1, f2, f3, f4, f5⟩ := hS.fq (i := xN s - 1) (by omega)
  have lg := X.lg
  obtain ⟨⟨cnu, cbs, cdp, cd8⟩, cvl, clc⟩ := X.cf hN
  obtain ⟨hs, ⟨r0, r1, r2, r3, r4, r5, r6⟩, s1, s2, s3, s4, s5, s6, s7⟩ := (hP2 _ t1).1
  obtain ⟨m1, -, -⟩ := (hP2 _ t1).2.1.2.1 _ t3
  rw [hop] at m1
  refine go_tableIn dM_step_52 (by decide) (by decide) (off := 279) rfl (tgt := 331) (by decide) ?_
  refine go_aload_n dM_step_331 rfl rfl ?_
  refine go_aload_n dM_step_332 rfl rfl ?_
  refine go_aload_n dM_step_333 rfl rfl ?_
  refine go_getO dM_step_334 flM_114 rfl (by assumption) (by assumption) ?_
  refine go_iload_n dM_step_337 rfl rfl ?_
  refine go_ialV s1 (by omega) (by decide) m1 dM_step_338 ?_
  refine go_cV (k' := (0, 0)) dM_step_339 _ csM_153 (by assumption) rfl imM_useObject seM_useObject rfl (okM_uo26 (d := 1) w (by decide) G2 p h s hN hS2 X u hu h1 h2 hD (by omega)) (by omega) (by decide) (Nat.le_of_ble_eq_true rfl) (fun r G1 hr hn => ?_)
  obtain ⟨rfl, X1, o1⟩ := hr
  refine go_return rfl dM_step_342 ?_
  exact ⟨rfl, by rw [hxi]; exact xPost.z (X1), o0.tr o1⟩
set_option maxRecDepth 100000 in
theorem okM_st18 (w : am_W) {d : Nat} (hd : 3 ≤ d) (G : am_G) (p h m : Nat) (s : xT) (Q : Nat → mT) (Z : Nat → fM) (hp : p < 2) (hz : zSol Q Z m) (hb : tB Q Z m s) (hN : 1 ≤ xN s) (hc : tyR Q Z m (lM s.1) (xC s)) (hB : rBd s) (hS : St0 G) (X : cX p h G s 0 false) (hP : hldP G p Q) (hop : mO (Q (uM (xC s))) (uP (xC s)) = 18) (u : Nat) (hu : uTop (xC s) = nI u) (h1 : 1 ≤ u) (h2 : u ≤ lM s.1) (hD : 1 ≤ uD (xC s)) (hxi : xIns Q s = (xSet (xTell (xHeld s (xH s + 1) (va_up (xE s) (xH s) u)) (nI u) 2) (uGo (uPop (xC s)) (uP (xC s) + 1)), 0)) : am_Ok w jM_step d (0, 0) [.inr (some 109), .inr (some (114 + 3 * (xN s - 1)))] G (fun r G' => r = none ∧ xPost p h G' (xIns Q s) ∧ oM h G G') := by
  refine am_ok_of rfl (Nat.le_of_ble_eq_true rfl) ?_
  show am_Go w jM_step d (0, 0) 0 [some (.inr (some 109)), some (.inr (some (114 + 3 * (xN s - 1)))), none, none, none, none, none] [] G _
  obtain ⟨t1, -, t3, t4, -⟩ := id hc
  have hn6 := (hP _ t1).2.2.1.1
  obtain ⟨n1, n2, n3, n4⟩ := id hB
  refine M_stp w G p h s Q hp hN t1 t3 hS X hP (fun G2 hS2 X hP2 o0 => ?_)
  have hS := hS2
  rw [hop]
  have h12 := X.n12
  have hh := X.hh
  obtain ⟨k9, k10, k11, k12, k13, kh, kh1, g0, g1, g2, g3, gh⟩ := hS.cq hh
  obtain ⟨f0, f1, f2, f3, f4, f5⟩ := hS.fq (i := xN s - 1) (by omega)
  have lg := X.lg
  obtain ⟨⟨cnu, cbs, cdp, cd8⟩, cvl, clc⟩ := X.cf hN
  obtain ⟨hs, ⟨r0, r1, r2, r3, r4, r5, r6⟩, s1, s2, s3, s4, s5, s6, s7⟩ := (hP2 _ t1).1
  obtain ⟨m1, -, -⟩ := (hP2 _ t1).2.1.2.1 _ t3
  rw [hop] at m1
  refine go_tableIn dM_step_52 (by decide) (by decide) (off := 279) rfl (tgt := 331) (by decide) ?_
  refine go_aload_n dM_step_331 rfl rfl ?_
  refine go_aload_n dM_step_332 rfl rfl ?_
  refine go_aload_n dM_step_333 rfl rfl ?_
  refine go_getO dM_step_334 flM_114 rfl (by assumption) (by assumption) ?_
  refine go_iload_n dM_step_337 rfl rfl ?_
  refine go_ialV s1 (by omega) (by decide) m1 dM_step_338 ?_
  refine go_cV (k' := (0, 0)) dM_step_339 _ csM_153 (by assumption) rfl imM_useObject seM_useObject rfl (okM_uo18 (d := 2) w (by decide) G2 p h s hN hS2 X u hu h1 h2 hD (by omega) (by omega) (by omega)) (by omega) (by decide) (Nat.le_of_ble_eq_true rfl) (fun r G1 hr hn => ?_)
  obtain ⟨rfl, X1, o1⟩ := hr
  refine go_return rfl dM_step_342 ?_
  exact ⟨rfl, by rw [hxi]; exact xPost.z (X1), o0.tr o1⟩
set_option maxRecDepth 100000 in
theorem okM_st20 (w : am_W) {d : Nat} (hd : 3 ≤ d) (G : am_G) (p h m : Nat) (s : xT) (Q : Nat → mT) (Z : Nat → fM) (hp : p < 2) (hz : zSol Q Z m) (hb : tB Q Z m s) (hN : 1 ≤ xN s) (hc : tyR Q Z m (lM s.1) (xC s)) (hB : rBd s) (hS : St0 G) (X : cX p h G s 0 false) (hP : hldP G p Q) (hop : mO (Q (uM (xC s))) (uP (xC s)) = 20) (u : Nat) (hu : uTop (xC s) = nI u) (h1 : 1 ≤ u) (h2 : u ≤ lM s.1) (hD : 1 ≤ uD (xC s)) (hxi : xIns Q s = (xTell (xSet s (uPop (xC s))) (nI (xY s u)) 4, u)) : am_Ok w jM_step d (0, 0) [.inr (some 109), .inr (some (114 + 3 * (xN s - 1)))] G (fun r G' => r = none ∧ xPost p h G' (xIns Q s) ∧ oM h G G') := by
  refine am_ok_of rfl (Nat.le_of_ble_eq_true rfl) ?_
  show am_Go w jM_step d (0, 0) 0 [some (.inr (some 109)), some (.inr (some (114 + 3 * (xN s - 1)))), none, none, none, none, none] [] G _
  obtain ⟨t1, -, t3, t4, -⟩ := id hc
  have hn6 := (hP _ t1).2.2.1.1
  obtain ⟨n1, n2, n3, n4⟩ := id hB
  refine M_stp w G p h s Q hp hN t1 t3 hS X hP (fun G2 hS2 X hP2 o0 => ?_)
  have hS := hS2
  rw [hop]
  have h12 := X.n12
  have hh := X.hh
  obtain ⟨k9, k10, k11, k12, k13, kh, kh1, g0, g1, g2, g3, gh⟩ := hS.cq hh
  obtain ⟨f0, f1, f2, f3, f4, f5⟩ := hS.fq (i := xN s - 1) (by omega)
  have lg := X.lg
  obtain ⟨⟨cnu, cbs, cdp, cd8⟩, cvl, clc⟩ := X.cf hN
  obtain ⟨hs, ⟨r0, r1, r2, r3, r4, r5, r6⟩, s1, s2, s3, s4, s5, s6, s7⟩ := (hP2 _ t1).1
  obtain ⟨m1, -, -⟩ := (hP2 _ t1).2.1.2.1 _ t3
  rw [hop] at m1
  refine go_tableIn dM_step_52 (by decide) (by decide) (off := 279) rfl (tgt := 331) (by decide) ?_
  refine go_aload_n dM_step_331 rfl rfl ?_
  refine go_aload_n dM_step_332 rfl rfl ?_
  refine go_aload_n dM_step_333 rfl rfl ?_
  refine go_getO dM_step_334 flM_114 rfl (by assumption) (by assumption) ?_
  refine go_iload_n dM_step_337 rfl rfl ?_
  refine go_ialV s1 (by omega) (by decide) m1 dM_step_338 ?_
  refine go_cV (k' := (0, 0)) dM_step_339 _ csM_153 (by assumption) rfl imM_useObject seM_useObject rfl (okM_uo20 (d := 2) w (by decide) G2 p h s hN hS2 X u hu h1 h2 hD (by omega) (by omega)) (by omega) (by decide) (Nat.le_of_ble_eq_true rfl) (fun r G1 hr hn => ?_)
  obtain ⟨rfl, X1, o1⟩ := hr
  refine go_return rfl dM_step_342 ?_
  exact ⟨rfl, by rw [hxi]; exact xPost.n (show u ≠ 0 by omega) X1, o0.tr o1⟩
set_option maxRecDepth 100000 in
theorem okM_st19a (w : am_W) {d : Nat} (hd : 3 ≤ d) (G : am_G) (p h m : Nat) (s : xT) (Q : Nat → mT) (Z : Nat → fM) (hp : p < 2) (hz : zSol Q Z m) (hb : tB Q Z m s) (hN : 1 ≤ xN s) (hc : tyR Q Z m (lM s.1) (xC s)) (hB : rBd s) (hS : St0 G) (X : cX p h G s 0 false) (hP : hldP G p Q) (hop : mO (Q (uM (xC s))) (uP (xC s)) = 19) (u : Nat) (hu : uTop (xC s) = nI u) (h1 : 1 ≤ u) (h2 : u ≤ lM s.1) (hD : 1 ≤ uD (xC s)) (k : Nat) (hf : xFind (xE s) (uB (xC s)) u (xH s) = some k) (hxi : xIns Q s = (xSet (xTell (xHeld s (xH s - 1) (fun j => if j < k then xE s j else xE s (j + 1))) (nI u) 3) (uGo (uPop (xC s)) (uP (xC s) + 1)), 0)) : am_Ok w jM_step d (0, 0) [.inr (some 109), .inr (some (114 + 3 * (xN s - 1)))] G (fun r G' => r = none ∧ xPost p h G' (xIns Q s) ∧ oM h G G') := by
  refine am_ok_of rfl (Nat.le_of_ble_eq_true rfl) ?_
  show am_Go w jM_step d (0, 0) 0 [some (.inr (some 109)), some (.inr (some (114 + 3 * (xN s - 1)))), none, none, none, none, none] [] G _
  obtain ⟨t1, -, t3, t4, -⟩ := id hc
  have hn6 := (hP _ t1).2.2.1.1
  obtain ⟨n1, n2, n3, n4⟩ := id hB
  refine M_stp w G p h s Q hp hN t1 t3 hS X hP (fun G2 hS2 X hP2 o0 => ?_)
  have hS := hS2
  rw [hop]
  have h12 := X.n12
  have hh := X.hh
  obtain ⟨k9, k10, k11, k12, k13, kh, kh1, g0, g1, g2, g3, gh⟩ := hS.cq hh
  obtain ⟨f0, f1, f2, f3, f4, f5⟩ := hS.fq (i := xN s - 1) (by omega)
  have lg := X.lg
  obtain ⟨⟨cnu, cbs, cdp, cd8⟩, cvl, clc⟩ := X.cf hN
  obtain ⟨hs, ⟨r0, r1, r2, r3, r4, r5, r6⟩, s1, s2, s3, s4, s5, s6, s7⟩ := (hP2 _ t1).1
  obtain ⟨m1, -, -⟩ := (hP2 _ t1).2.1.2.1 _ t3
  rw [hop] at m1
  refine go_tableIn dM_step_52 (by decide) (by decide) (off := 279) rfl (tgt := 331) (by decide) ?_
  refine go_aload_n dM_step_331 rfl rfl ?_
  refine go_aload_n dM_step_332 rfl rfl ?_
  refine go_aload_n dM_step_333 rfl rfl ?_
  refine go_getO dM_step_334 flM_114 rfl (by assumption) (by assumption) ?_
  refine go_iload_n dM_step_337 rfl rfl ?_
  refine go_ialV s1 (by omega) (by decide) m1 dM_step_338 ?_
  refine go_cV (k' := (0, 0)) dM_step_339 _ csM_153 (by assumption) rfl imM_useObject seM_useObject rfl (okM_uo19a (d := 2) w (by decide) G2 p h s hN hS2 X u hu h1 h2 hD t4 (by omega) (fun k hk => by have := (hb.2.1 k hk).2; omega) (by omega) (by omega) k hf) (by omega) (by decide) (Nat.le_of_ble_eq_true rfl) (fun r G1 hr hn => ?_)
  obtain ⟨rfl, X1, o1⟩ := hr
  refine go_return rfl dM_step_342 ?_
  exact ⟨rfl, by rw [hxi]; exact xPost.z (X1), o0.tr o1⟩
set_option maxRecDepth 100000 in
theorem okM_st19b (w : am_W) {d : Nat} (hd : 4 ≤ d) (G : am_G) (p h m : Nat) (s : xT) (Q : Nat → mT) (Z : Nat → fM) (hp : p < 2) (hz : zSol Q Z m) (hb : tB Q Z m s) (hN : 1 ≤ xN s) (hc : tyR Q Z m (lM s.1) (xC s)) (hB : rBd s) (hS : St0 G) (X : cX p h G s 0 false) (hP : hldP G p Q) (hop : mO (Q (uM (xC s))) (uP (xC s)) = 19) (u : Nat) (hu : uTop (xC s) = nI u) (h1 : 1 ≤ u) (h2 : u ≤ lM s.1) (hD : 1 ≤ uD (xC s)) (hf : xFind (xE s) (uB (xC s)) u (xH s) = none) (hxi : xIns Q s = xNew (xSet s (uPop (xC s))) 3) : am_Ok w jM_step d (0, 0) [.inr (some 109), .inr (some (114 + 3 * (xN s - 1)))] G (fun r G' => r = none ∧ xPost p h G' (xIns Q s) ∧ oM h G G') := by
  refine am_ok_of rfl (Nat.le_of_ble_eq_true rfl) ?_
  show am_Go w jM_step d (0, 0) 0 [some (.inr (some 109)), some (.inr (some (114 + 3 * (xN s - 1)))), none, none, none, none, none] [] G _
  obtain ⟨t1, -, t3, t4, -⟩ := id hc
  have hn6 := (hP _ t1).2.2.1.1
  obtain ⟨n1, n2, n3, n4⟩ := id hB
  refine M_stp w G p h s Q hp hN t1 t3 hS X hP (fun G2 hS2 X hP2 o0 => ?_)
  have hS := hS2
  rw [hop]
  have h12 := X.n12
  have hh := X.hh
  obtain ⟨k9, k10, k11, k12, k13, kh, kh1, g0, g1, g2, g3, gh⟩ := hS.cq hh
  obtain ⟨f0, f1, f2, f3, f4, f5⟩ := hS.fq (i := xN s - 1) (by omega)
  have lg := X.lg
  obtain ⟨⟨cnu, cbs, cdp, cd8⟩, cvl, clc⟩ := X.cf hN
  obtain ⟨hs, ⟨r0, r1, r2, r3, r4, r5, r6⟩, s1, s2, s3, s4, s5, s6, s7⟩ := (hP2 _ t1).1
  obtain ⟨m1, -, -⟩ := (hP2 _ t1).2.1.2.1 _ t3
  rw [hop] at m1
  refine go_tableIn dM_step_52 (by decide) (by decide) (off := 279) rfl (tgt := 331) (by decide) ?_
  refine go_aload_n dM_step_331 rfl rfl ?_
  refine go_aload_n dM_step_332 rfl rfl ?_
  refine go_aload_n dM_step_333 rfl rfl ?_
  refine go_getO dM_step_334 flM_114 rfl (by assumption) (by assumption) ?_
  refine go_iload_n dM_step_337 rfl rfl ?_
  refine go_ialV s1 (by omega) (by decide) m1 dM_step_338 ?_
  refine go_cV (k' := (0, 0)) dM_step_339 _ csM_153 (by assumption) rfl imM_useObject seM_useObject rfl (okM_uo19b (d := 3) w (by decide) G2 p h s hN hS2 X u hu h1 h2 hD t4 (by omega) (fun k hk => by have := (hb.2.1 k hk).2; omega) (by omega) (by omega) hf) (by omega) (by decide) (Nat.le_of_ble_eq_true rfl) (fun r G1 hr hn => ?_)
  obtain ⟨rfl, X1, o1⟩ := hr
  refine go_return rfl dM_step_342 ?_
  exact ⟨rfl, by rw [hxi]; exact xPost.n (Nat.succ_ne_zero _) X1, o0.tr o1⟩
set_option maxRecDepth 100000 in
theorem okM_st15z (w : am_W) {d : Nat} (hd : 4 ≤ d) (G : am_G) (p h m : Nat) (s : xT) (Q : Nat → mT) (Z : Nat → fM) (hp : p < 2) (hz : zSol Q Z m) (hb : tB Q Z m s) (hN : 1 ≤ xN s) (hc : tyR Q Z m (lM s.1) (xC s)) (hB : rBd s) (hS : St0 G) (X : cX p h G s 0 false) (hP : hldP G p Q) (hop : mO (Q (uM (xC s))) (uP (xC s)) = 15) (hu : uTop (xC s) = nI 0) (hD : 1 ≤ uD (xC s)) (hxi : xIns Q s = xNew (xSet s (uPop (xC s))) 2) : am_Ok w jM_step d (0, 0) [.inr (some 109), .inr (some (114 + 3 * (xN s - 1)))] G (fun r G' => r = none ∧ xPost p h G' (xIns Q s) ∧ oM h G G') := by
  refine am_ok_of rfl (Nat.le_of_ble_eq_true rfl) ?_
  show am_Go w jM_step d (0, 0) 0 [some (.inr (some 109)), some (.inr (some (114 + 3 * (xN s - 1)))), none, none, none, none, none] [] G _
  obtain ⟨t1, -, t3, t4, -⟩ := id hc
  have hn6 := (hP _ t1).2.2.1.1
  obtain ⟨n1, n2, n3, n4⟩ := id hB
  refine M_stp w G p h s Q hp hN t1 t3 hS X hP (fun G2 hS2 X hP2 o0 => ?_)
  have hS := hS2
  rw [hop]
  have h12 := X.n12
  have hh := X.hh
  obtain ⟨k9, k10, k11, k12, k13, kh, kh1, g0, g1, g2, g3, gh⟩ := hS.cq hh
  obtain ⟨f0, f1, f2, f3, f4, f5⟩ := hS.fq (i := xN s - 1) (by omega)
  have lg := X.lg
  obtain ⟨⟨cnu, cbs, cdp, cd8⟩, cvl, clc⟩ := X.cf hN
  obtain ⟨hs, ⟨r0, r1, r2, r3, r4, r5, r6⟩, s1, s2, s3, s4, s5, s6, s7⟩ := (hP2 _ t1).1
  obtain ⟨m1, -, -⟩ := (hP2 _ t1).2.1.2.1 _ t3
  rw [hop] at m1
  refine go_tableIn dM_step_52 (by decide) (by decide) (off := 279) rfl (tgt := 331) (by decide) ?_
  refine go_aload_n dM_step_331 rfl rfl ?_
  refine go_aload_n dM_step_332 rfl rfl ?_
  refine go_aload_n dM_step_333 rfl rfl ?_
  refine go_getO dM_step_334 flM_114 rfl (by assumption) (by assumption) ?_
  refine go_iload_n dM_step_337 rfl rfl ?_
  refine go_ialV s1 (by omega) (by decide) m1 dM_step_338 ?_
  refine go_cV (k' := (0, 0)) dM_step_339 _ csM_153 (by assumption) rfl imM_useObject seM_useObject rfl (okM_uo15z (d := 3) w (by decide) G2 p h s hN hS2 X hu hD (by omega) (by omega)) (by omega) (by decide) (Nat.le_of_ble_eq_true rfl) (fun r G1 hr hn => ?_)
  obtain ⟨rfl, X1, o1⟩ := hr
  refine go_return rfl dM_step_342 ?_
  exact ⟨rfl, by rw [hxi]; exact xPost.n (Nat.succ_ne_zero _) X1, o0.tr o1⟩
set_option maxRecDepth 100000 in
theorem okM_st18z (w : am_W) {d : Nat} (hd : 4 ≤ d) (G : am_G) (p h m : Nat) (s : xT) (Q : Nat → mT) (Z : Nat → fM) (hp : p < 2) (hz : zSol Q Z m) (hb : tB Q Z m s) (hN : 1 ≤ xN s) (hc : tyR Q Z m (lM s.1) (xC s)) (hB : rBd s) (hS : St0 G) (X : cX p h G s 0 false) (hP : hldP G p Q) (hop : mO (Q (uM (xC s))) (uP (xC s)) = 18) (hu : uTop (xC s) = nI 0) (hD : 1 ≤ uD (xC s)) (hxi : xIns Q s = xNew (xSet s (uPop (xC s))) 2) : am_Ok w jM_step d (0, 0) [.inr (some 109), .inr (some (114 + 3 * (xN s - 1)))] G (fun r G' => r = none ∧ xPost p h G' (xIns Q s) ∧ oM h G G') := by
  refine am_ok_of rfl (Nat.le_of_ble_eq_true rfl) ?_
  show am_Go w jM_step d (0, 0) 0 [some (.inr (some 109)), some (.inr (some (114 + 3 * (xN s - 1)))), none, none, none, none, none] [] G _
  obtain ⟨t1, -, t3, t4, -⟩ := id hc
  have hn6 := (hP _ t1).2.2.1.1
  obtain ⟨n1, n2, n3, n4⟩ := id hB
  refine M_stp w G p h s Q hp hN t1 t3 hS X hP (fun G2 hS2 X hP2 o0 => ?_)
  have hS := hS2
  rw [hop]
  have h12 := X.n12
  have hh := X.hh
  obtain ⟨k9, k10, k11, k12, k13, kh, kh1, g0, g1, g2, g3, gh⟩ := hS.cq hh
  obtain ⟨f0, f1, f2, f3, f4, f5⟩ := hS.fq (i := xN s - 1) (by omega)
  have lg := X.lg
  obtain ⟨⟨cnu, cbs, cdp, cd8⟩, cvl, clc⟩ := X.cf hN
  obtain ⟨hs, ⟨r0, r1, r2, r3, r4, r5, r6⟩, s1, s2, s3, s4, s5, s6, s7⟩ := (hP2 _ t1).1
  obtain ⟨m1, -, -⟩ := (hP2 _ t1).2.1.2.1 _ t3
  rw [hop] at m1
  refine go_tableIn dM_step_52 (by decide) (by decide) (off := 279) rfl (tgt := 331) (by decide) ?_
  refine go_aload_n dM_step_331 rfl rfl ?_
  refine go_aload_n dM_step_332 rfl rfl ?_
  refine go_aload_n dM_step_333 rfl rfl ?_
  refine go_getO dM_step_334 flM_114 rfl (by assumption) (by assumption) ?_
  refine go_iload_n dM_step_337 rfl rfl ?_
  refine go_ialV s1 (by omega) (by decide) m1 dM_step_338 ?_
  refine go_cV (k' := (0, 0)) dM_step_339 _ csM_153 (by assumption) rfl imM_useObject seM_useObject rfl (okM_uo18z (d := 3) w (by decide) G2 p h s hN hS2 X hu hD (by omega) (by omega)) (by omega) (by decide) (Nat.le_of_ble_eq_true rfl) (fun r G1 hr hn => ?_)
  obtain ⟨rfl, X1, o1⟩ := hr
  refine go_return rfl dM_step_342 ?_
  exact ⟨rfl, by rw [hxi]; exact xPost.n (Nat.succ_ne_zero _) X1, o0.tr o1⟩
set_option maxRecDepth 100000 in
theorem okM_st19z (w : am_W) {d : Nat} (hd : 4 ≤ d) (G : am_G) (p h m : Nat) (s : xT) (Q : Nat → mT) (Z : Nat → fM) (hp : p < 2) (hz : zSol Q Z m) (hb : tB Q Z m s) (hN : 1 ≤ xN s) (hc : tyR Q Z m (lM s.1) (xC s)) (hB : rBd s) (hS : St0 G) (X : cX p h G s 0 false) (hP : hldP G p Q) (hop : mO (Q (uM (xC s))) (uP (xC s)) = 19) (hu : uTop (xC s) = nI 0) (hD : 1 ≤ uD (xC s)) (hxi : xIns Q s = xNew (xSet s (uPop (xC s))) 2) : am_Ok w jM_step d (0, 0) [.inr (some 109), .inr (some (114 + 3 * (xN s - 1)))] G (fun r G' => r = none ∧ xPost p h G' (xIns Q s) ∧ oM h G G') := by
  refine am_ok_of rfl (Nat.le_of_ble_eq_true rfl) ?_
  show am_Go w jM_step d (0, 0) 0 [some (.inr (some 109)), some (.inr (some (114 + 3 * (xN s - 1)))), none, none, none, none, none] [] G _
  obtain ⟨t1, -, t3, t4, -⟩ := id hc
  have hn6 := (hP _ t1).2.2.1.1
  obtain ⟨n1, n2, n3, n4⟩ := id hB
  refine M_stp w G p h s Q hp hN t1 t3 hS X hP (fun G2 hS2 X hP2 o0 => ?_)
  have hS := hS2
  rw [hop]
  have h12 := X.n12
  have hh := X.hh
  obtain ⟨k9, k10, k11, k12, k13, kh, kh1, g0, g1, g2, g3, gh⟩ := hS.cq hh
  obtain ⟨f0, f1, f2, f3, f4, f5⟩ := hS.fq (i := xN s - 1) (by omega)
  have lg := X.lg
  obtain ⟨⟨cnu, cbs, cdp, cd8⟩, cvl, clc⟩ := X.cf hN
  obtain ⟨hs, ⟨r0, r1, r2, r3, r4, r5, r6⟩, s1, s2, s3, s4, s5, s6, s7⟩ := (hP2 _ t1).1
  obtain ⟨m1, -, -⟩ := (hP2 _ t1).2.1.2.1 _ t3
  rw [hop] at m1
  refine go_tableIn dM_step_52 (by decide) (by decide) (off := 279) rfl (tgt := 331) (by decide) ?_
  refine go_aload_n dM_step_331 rfl rfl ?_
  refine go_aload_n dM_step_332 rfl rfl ?_
  refine go_aload_n dM_step_333 rfl rfl ?_
  refine go_getO dM_step_334 flM_114 rfl (by assumption) (by assumption) ?_
  refine go_iload_n dM_step_337 rfl rfl ?_
  refine go_ialV s1 (by omega) (by decide) m1 dM_step_338 ?_
  refine go_cV (k' := (0, 0)) dM_step_339 _ csM_153 (by assumption) rfl imM_useObject seM_useObject rfl (okM_uo19z (d := 3) w (by decide) G2 p h s hN hS2 X hu hD (by omega) (by omega)) (by omega) (by decide) (Nat.le_of_ble_eq_true rfl) (fun r G1 hr hn => ?_)
  obtain ⟨rfl, X1, o1⟩ := hr
  refine go_return rfl dM_step_342 ?_
  exact ⟨rfl, by rw [hxi]; exact xPost.n (Nat.succ_ne_zero _) X1, o0.tr o1⟩
set_option maxRecDepth 100000 in
theorem okM_st20z (w : am_W) {d : Nat} (hd : 4 ≤ d) (G : am_G) (p h m : Nat) (s : xT) (Q : Nat → mT) (Z : Nat → fM) (hp : p < 2) (hz : zSol Q Z m) (hb : tB Q Z m s) (hN : 1 ≤ xN s) (hc : tyR Q Z m (lM s.1) (xC s)) (hB : rBd s) (hS : St0 G) (X : cX p h G s 0 false) (hP : hldP G p Q) (hop : mO (Q (uM (xC s))) (uP (xC s)) = 20) (hu : uTop (xC s) = nI 0) (hD : 1 ≤ uD (xC s)) (hxi : xIns Q s = xNew (xSet s (uPop (xC s))) 2) : am_Ok w jM_step d (0, 0) [.inr (some 109), .inr (some (114 + 3 * (xN s - 1)))] G (fun r G' => r = none ∧ xPost p h G' (xIns Q s) ∧ oM h G G') := by
  refine am_ok_of rfl (Nat.le_of_ble_eq_true rfl) ?_
  show am_Go w jM_step d (0, 0) 0 [some (.inr (some 109)), some (.inr (some (114 + 3 * (xN s - 1)))), none, none, none, none, none] [] G _
  obtain ⟨t1, -, t3, t4, -⟩ := id hc
  have hn6 := (hP _ t1).2.2.1.1
  obtain ⟨n1, n2, n3, n4⟩ := id hB
  refine M_stp w G p h s Q hp hN t1 t3 hS X hP (fun G2 hS2 X hP2 o0 => ?_)
  have hS := hS2
  rw [hop]
  have h12 := X.n12
  have hh := X.hh
  obtain ⟨k9, k10, k11, k12, k13, kh, kh1, g0, g1, g2, g3, gh⟩ := hS.cq hh
  obtain ⟨f0, f1, f2, f3, f4, f5⟩ := hS.fq (i := xN s - 1) (by omega)
  have lg := X.lg
  obtain ⟨⟨cnu, cbs, cdp, cd8⟩, cvl, clc⟩ := X.cf hN
  obtain ⟨hs, ⟨r0, r1, r2, r3, r4, r5, r6⟩, s1, s2, s3, s4, s5, s6, s7⟩ := (hP2 _ t1).1
  obtain ⟨m1, -, -⟩ := (hP2 _ t1).2.1.2.1 _ t3
  rw [hop] at m1
  refine go_tableIn dM_step_52 (by decide) (by decide) (off := 279) rfl (tgt := 331) (by decide) ?_
  refine go_aload_n dM_step_331 rfl rfl ?_
  refine go_aload_n dM_step_332 rfl rfl ?_
  refine go_aload_n dM_step_333 rfl rfl ?_
  refine go_getO dM_step_334 flM_114 rfl (by assumption) (by assumption) ?_
  refine go_iload_n dM_step_337 rfl rfl ?_
  refine go_ialV s1 (by omega) (by decide) m1 dM_step_338 ?_
  refine go_cV (k' := (0, 0)) dM_step_339 _ csM_153 (by assumption) rfl imM_useObject seM_useObject rfl (okM_uo20z (d := 3) w (by decide) G2 p h s hN hS2 X hu hD (by omega) (by omega)) (by omega) (by decide) (Nat.le_of_ble_eq_true rfl) (fun r G1 hr hn => ?_)
  obtain ⟨rfl, X1, o1⟩ := hr
  refine go_return rfl dM_step_342 ?_
  exact ⟨rfl, by rw [hxi]; exact xPost.n (Nat.succ_ne_zero _) X1, o0.tr o1⟩
set_option maxRecDepth 100000 in
theorem okM_st26z (w : am_W) {d : Nat} (hd : 4 ≤ d) (G : am_G) (p h m : Nat) (s : xT) (Q : Nat → mT) (Z : Nat → fM) (hp : p < 2) (hz : zSol Q Z m) (hb : tB Q Z m s) (hN : 1 ≤ xN s) (hc : tyR Q Z m (lM s.1) (xC s)) (hB : rBd s) (hS : St0 G) (X : cX p h G s 0 false) (hP : hldP G p Q) (hop : mO (Q (uM (xC s))) (uP (xC s)) = 26) (hu : uTop (xC s) = nI 0) (hD : 1 ≤ uD (xC s)) (hxi : xIns Q s = xNew (xSet s (uPop (xC s))) 2) : am_Ok w jM_step d (0, 0) [.inr (some 109), .inr (some (114 + 3 * (xN s - 1)))] G (fun r G' => r = none ∧ xPost p h G' (xIns Q s) ∧ oM h G G') := by
  refine am_ok_of rfl (Nat.le_of_ble_eq_true rfl) ?_
  show am_Go w jM_step d (0, 0) 0 [some (.inr (some 109)), some (.inr (some (114 + 3 * (xN s - 1)))), none, none, none, none, none] [] G _
  obtain ⟨t1, -, t3, t4, -⟩ := id hc
  have hn6 := (hP _ t1).2.2.1.1
  obtain ⟨n1, n2, n3, n4⟩ := id hB
  refine M_stp w G p h s Q hp hN t1 t3 hS X hP (fun G2 hS2 X hP2 o0 => ?_)
  have hS := hS2
  rw [hop]
  have h12 := X.n12
  have hh := X.hh
  obtain ⟨k9, k10, k11, k12, k13, kh, kh1, g0, g1, g2, g3, gh⟩ := hS.cq hh
  obtain ⟨f0, f1, f2, f3, f4, f5⟩ := hS.fq (i := xN s - 1) (by omega)
  have lg := X.lg
  obtain ⟨⟨cnu, cbs, cdp, cd8⟩, cvl, clc⟩ := X.cf hN
  obtain ⟨hs, ⟨r0, r1, r2, r3, r4, r5, r6⟩, s1, s2, s3, s4, s5, s6, s7⟩ := (hP2 _ t1).1
  obtain ⟨m1, -, -⟩ := (hP2 _ t1).2.1.2.1 _ t3
  rw [hop] at m1
  refine go_tableIn dM_step_52 (by decide) (by decide) (off := 279) rfl (tgt := 331) (by decide) ?_
  refine go_aload_n dM_step_331 rfl rfl ?_
  refine go_aload_n dM_step_332 rfl rfl ?_
  refine go_aload_n dM_step_333 rfl rfl ?_
  refine go_getO dM_step_334 flM_114 rfl (by assumption) (by assumption) ?_
  refine go_iload_n dM_step_337 rfl rfl ?_
  refine go_ialV s1 (by omega) (by decide) m1 dM_step_338 ?_
  refine go_cV (k' := (0, 0)) dM_step_339 _ csM_153 (by assumption) rfl imM_useObject seM_useObject rfl (okM_uo26z (d := 3) w (by decide) G2 p h s hN hS2 X hu hD (by omega) (by omega)) (by omega) (by decide) (Nat.le_of_ble_eq_true rfl) (fun r G1 hr hn => ?_)
  obtain ⟨rfl, X1, o1⟩ := hr
  refine go_return rfl dM_step_342 ?_
  exact ⟨rfl, by rw [hxi]; exact xPost.n (Nat.succ_ne_zero _) X1, o0.tr o1⟩
set_option maxRecDepth 100000 in
theorem okM_st16 (w : am_W) {d : Nat} (hd : 2 ≤ d) (G : am_G) (p h m : Nat) (s : xT) (Q : Nat → mT) (Z : Nat → fM) (hp : p < 2) (hz : zSol Q Z m) (hb : tB Q Z m s) (hN : 1 ≤ xN s) (hc : tyR Q Z m (lM s.1) (xC s)) (hB : rBd s) (hS : St0 G) (X : cX p h G s 0 false) (hP : hldP G p Q) (hop : mO (Q (uM (xC s))) (uP (xC s)) = 16) (u : Nat) (hu : uTop (uPop (xC s)) = nI u) (h1 : 1 ≤ u) (h2 : u ≤ lM s.1) (hD : 2 ≤ uD (xC s)) (hxi : xIns Q s = (xSet (xItem s u (uTop (xC s))) (uGo (uPop (uPop (xC s))) (uP (xC s) + 1)), 0)) : am_Ok w jM_step d (0, 0) [.inr (some 109), .inr (some (114 + 3 * (xN s - 1)))] G (fun r G' => r = none ∧ xPost p h G' (xIns Q s) ∧ oM h G G') := by
  refine am_ok_of rfl (Nat.le_of_ble_eq_true rfl) ?_
  show am_Go w jM_step d (0, 0) 0 [some (.inr (some 109)), some (.inr (some (114 + 3 * (xN s - 1)))), none, none, none, none, none] [] G _
  obtain ⟨t1, -, t3, t4, -⟩ := id hc
  have hn6 := (hP _ t1).2.2.1.1
  obtain ⟨n1, n2, n3, n4⟩ := id hB
  refine M_stp w G p h s Q hp hN t1 t3 hS X hP (fun G2 hS2 X hP2 o0 => ?_)
  have hS := hS2
  rw [hop]
  have h12 := X.n12
  have hh := X.hh
  obtain ⟨k9, k10, k11, k12, k13, kh, kh1, g0, g1, g2, g3, gh⟩ := hS.cq hh
  obtain ⟨f0, f1, f2, f3, f4, f5⟩ := hS.fq (i := xN s - 1) (by omega)
  have lg := X.lg
  obtain ⟨⟨cnu, cbs, cdp, cd8⟩, cvl, clc⟩ := X.cf hN
  obtain ⟨hs, ⟨r0, r1, r2, r3, r4, r5, r6⟩, s1, s2, s3, s4, s5, s6, s7⟩ := (hP2 _ t1).1
  obtain ⟨m1, -, -⟩ := (hP2 _ t1).2.1.2.1 _ t3
  rw [hop] at m1
  refine go_tableIn dM_step_52 (by decide) (by decide) (off := 279) rfl (tgt := 331) (by decide) ?_
  refine go_aload_n dM_step_331 rfl rfl ?_
  refine go_aload_n dM_step_332 rfl rfl ?_
  refine go_aload_n dM_step_333 rfl rfl ?_
  refine go_getO dM_step_334 flM_114 rfl (by assumption) (by assumption) ?_
  refine go_iload_n dM_step_337 rfl rfl ?_
  refine go_ialV s1 (by omega) (by decide) m1 dM_step_338 ?_
  refine go_cV (k' := (0, 0)) dM_step_339 _ csM_153 (by assumption) rfl imM_useObject seM_useObject rfl (okM_uo16 (d := 1) w (by decide) G2 p h s hN hS2 X u hu h1 h2 hD (by omega)) (by omega) (by decide) (Nat.le_of_ble_eq_true rfl) (fun r G1 hr hn => ?_)
  obtain ⟨rfl, X1, o1⟩ := hr
  refine go_return rfl dM_step_342 ?_
  exact ⟨rfl, by rw [hxi]; exact xPost.z (X1), o0.tr o1⟩
set_option maxRecDepth 100000 in
theorem okM_st16z (w : am_W) {d : Nat} (hd : 4 ≤ d) (G : am_G) (p h m : Nat) (s : xT) (Q : Nat → mT) (Z : Nat → fM) (hp : p < 2) (hz : zSol Q Z m) (hb : tB Q Z m s) (hN : 1 ≤ xN s) (hc : tyR Q Z m (lM s.1) (xC s)) (hB : rBd s) (hS : St0 G) (X : cX p h G s 0 false) (hP : hldP G p Q) (hop : mO (Q (uM (xC s))) (uP (xC s)) = 16) (hu : uTop (uPop (xC s)) = nI 0) (hD : 2 ≤ uD (xC s)) (hxi : xIns Q s = xNew (xSet s (uPop (uPop (xC s)))) 2) : am_Ok w jM_step d (0, 0) [.inr (some 109), .inr (some (114 + 3 * (xN s - 1)))] G (fun r G' => r = none ∧ xPost p h G' (xIns Q s) ∧ oM h G G') := by
  refine am_ok_of rfl (Nat.le_of_ble_eq_true rfl) ?_
  show am_Go w jM_step d (0, 0) 0 [some (.inr (some 109)), some (.inr (some (114 + 3 * (xN s - 1)))), none, none, none, none, none] [] G _
  obtain ⟨t1, -, t3, t4, -⟩ := id hc
  have hn6 := (hP _ t1).2.2.1.1
  obtain ⟨n1, n2, n3, n4⟩ := id hB
  refine M_stp w G p h s Q hp hN t1 t3 hS X hP (fun G2 hS2 X hP2 o0 => ?_)
  have hS := hS2
  rw [hop]
  have h12 := X.n12
  have hh := X.hh
  obtain ⟨k9, k10, k11, k12, k13, kh, kh1, g0, g1, g2, g3, gh⟩ := hS.cq hh
  obtain ⟨f0, f1, f2, f3, f4, f5⟩ := hS.fq (i := xN s - 1) (by omega)
  have lg := X.lg
  obtain ⟨⟨cnu, cbs, cdp, cd8⟩, cvl, clc⟩ := X.cf hN
  obtain ⟨hs, ⟨r0, r1, r2, r3, r4, r5, r6⟩, s1, s2, s3, s4, s5, s6, s7⟩ := (hP2 _ t1).1
  obtain ⟨m1, -, -⟩ := (hP2 _ t1).2.1.2.1 _ t3
  rw [hop] at m1
  refine go_tableIn dM_step_52 (by decide) (by decide) (off := 279) rfl (tgt := 331) (by decide) ?_
  refine go_aload_n dM_step_331 rfl rfl ?_
  refine go_aload_n dM_step_332 rfl rfl ?_
  refine go_aload_n dM_step_333 rfl rfl ?_
  refine go_getO dM_step_334 flM_114 rfl (by assumption) (by assumption) ?_
  refine go_iload_n dM_step_337 rfl rfl ?_
  refine go_ialV s1 (by omega) (by decide) m1 dM_step_338 ?_
  refine go_cV (k' := (0, 0)) dM_step_339 _ csM_153 (by assumption) rfl imM_useObject seM_useObject rfl (okM_uo16z (d := 3) w (by decide) G2 p h s hN hS2 X hu hD (by omega) (by omega)) (by omega) (by decide) (Nat.le_of_ble_eq_true rfl) (fun r G1 hr hn => ?_)
  obtain ⟨rfl, X1, o1⟩ := hr
  refine go_return rfl dM_step_342 ?_
  exact ⟨rfl, by rw [hxi]; exact xPost.n (Nat.succ_ne_zero _) X1, o0.tr o1⟩
set_option maxRecDepth 100000 in
theorem okM_st21z (w : am_W) {d : Nat} (hd : 4 ≤ d) (G : am_G) (p h m : Nat) (s : xT) (Q : Nat → mT) (Z : Nat → fM) (hp : p < 2) (hz : zSol Q Z m) (hb : tB Q Z m s) (hN : 1 ≤ xN s) (hc : tyR Q Z m (lM s.1) (xC s)) (hB : rBd s) (hS : St0 G) (X : cX p h G s 0 false) (hP : hldP G p Q) (hop : mO (Q (uM (xC s))) (uP (xC s)) = 21) (a : Nat) (hA : mA (Q (uM (xC s))) (uP (xC s)) = nI a) (hx : xN s = 12) (hxi : xIns Q s = xNew (s) 4) : am_Ok w jM_step d (0, 0) [.inr (some 109), .inr (some (114 + 3 * (xN s - 1)))] G (fun r G' => r = none ∧ xPost p h G' (xIns Q s) ∧ oM h G G') := by
  refine am_ok_of rfl (Nat.le_of_ble_eq_true rfl) ?_
  show am_Go w jM_step d (0, 0) 0 [some (.inr (some 109)), some (.inr (some (114 + 3 * (xN s - 1)))), none, none, none, none, none] [] G _
  obtain ⟨t1, -, t3, t4, -⟩ := id hc
  have hn6 := (hP _ t1).2.2.1.1
  obtain ⟨n1, n2, n3, n4⟩ := id hB
  refine M_stp w G p h s Q hp hN t1 t3 hS X hP (fun G2 hS2 X hP2 o0 => ?_)
  have hS := hS2
  rw [hop]
  rw [hA]
  have h12 := X.n12
  have hh := X.hh
  obtain ⟨k9, k10, k11, k12, k13, kh, kh1, g0, g1, g2, g3, gh⟩ := hS.cq hh
  obtain ⟨f0, f1, f2, f3, f4, f5⟩ := hS.fq (i := xN s - 1) (by omega)
  have lg := X.lg
  obtain ⟨⟨cnu, cbs, cdp, cd8⟩, cvl, clc⟩ := X.cf hN
  obtain ⟨hs, ⟨r0, r1, r2, r3, r4, r5, r6⟩, s1, s2, s3, s4, s5, s6, s7⟩ := (hP2 _ t1).1
  obtain ⟨m1, -, -⟩ := (hP2 _ t1).2.1.2.1 _ t3
  rw [hop] at m1
  refine go_tableIn dM_step_52 (by decide) (by decide) (off := 204) rfl (tgt := 256) (by decide) ?_
  refine go_aload_n dM_step_256 rfl rfl ?_
  refine go_aload_n dM_step_257 rfl rfl ?_
  refine go_iload dM_step_258 rfl ?_
  refine go_cV (k' := (0, 0)) dM_step_260 _ csM_132 (by assumption) rfl imM_beginCall seM_beginCall rfl (okM_bcA (d := 3) w (by decide) G2 p h s hN hS2 X a hx (by omega) (by omega)) (by omega) (by decide) (Nat.le_of_ble_eq_true rfl) (fun r G1 hr hn => ?_)
  obtain ⟨rfl, X1, o1⟩ := hr
  refine go_goto dM_step_263 (tgt := 342) (by decide) ?_
  refine go_return rfl dM_step_342 ?_
  exact ⟨rfl, by rw [hxi]; exact xPost.n (Nat.succ_ne_zero _) X1, o0.tr o1⟩
set_option maxRecDepth 100000 in
theorem okM_st21 (w : am_W) {d : Nat} (hd : 3 ≤ d) (G : am_G) (p h m : Nat) (s : xT) (Q : Nat → mT) (Z : Nat → fM) (hp : p < 2) (hz : zSol Q Z m) (hb : tB Q Z m s) (hN : 1 ≤ xN s) (hc : tyR Q Z m (lM s.1) (xC s)) (hB : rBd s) (hS : St0 G) (X : cX p h G s 0 false) (hP : hldP G p Q) (hop : mO (Q (uM (xC s))) (uP (xC s)) = 21) (a : Nat) (hA : mA (Q (uM (xC s))) (uP (xC s)) = nI a) (ha : a < 6) (hx : xN s < 12) (hD : mG (Q a) ≤ uD (xC s)) (hxi : xIns Q s = (xCall Q s a, 0)) : am_Ok w jM_step d (0, 0) [.inr (some 109), .inr (some (114 + 3 * (xN s - 1)))] G (fun r G' => r = none ∧ xPost p h G' (xIns Q s) ∧ oM h G G') := by
  refine am_ok_of rfl (Nat.le_of_ble_eq_true rfl) ?_
  show am_Go w jM_step d (0, 0) 0 [some (.inr (some 109)), some (.inr (some (114 + 3 * (xN s - 1)))), none, none, none, none, none] [] G _
  obtain ⟨t1, -, t3, t4, -⟩ := id hc
  have hn6 := (hP _ t1).2.2.1.1
  obtain ⟨n1, n2, n3, n4⟩ := id hB
  refine M_stp w G p h s Q hp hN t1 t3 hS X hP (fun G2 hS2 X hP2 o0 => ?_)
  have hS := hS2
  rw [hop]
  rw [hA]
  have h12 := X.n12
  have hh := X.hh
  obtain ⟨k9, k10, k11, k12, k13, kh, kh1, g0, g1, g2, g3, gh⟩ := hS.cq hh
  obtain ⟨f0, f1, f2, f3, f4, f5⟩ := hS.fq (i := xN s - 1) (by omega)
  have lg := X.lg
  obtain ⟨⟨cnu, cbs, cdp, cd8⟩, cvl, clc⟩ := X.cf hN
  obtain ⟨hs, ⟨r0, r1, r2, r3, r4, r5, r6⟩, s1, s2, s3, s4, s5, s6, s7⟩ := (hP2 _ t1).1
  obtain ⟨m1, -, -⟩ := (hP2 _ t1).2.1.2.1 _ t3
  rw [hop] at m1
  refine go_tableIn dM_step_52 (by decide) (by decide) (off := 204) rfl (tgt := 256) (by decide) ?_
  refine go_aload_n dM_step_256 rfl rfl ?_
  refine go_aload_n dM_step_257 rfl rfl ?_
  refine go_iload dM_step_258 rfl ?_
  refine go_cV (k' := (0, 0)) dM_step_260 _ csM_132 (by assumption) rfl imM_beginCall seM_beginCall rfl (okM_bcB (d := 2) w (by decide) G2 p h s hN hS2 X a Q hp ha hx n4 (by omega) hD hP2) (by omega) (by decide) (Nat.le_of_ble_eq_true rfl) (fun r G1 hr hn => ?_)
  obtain ⟨rfl, X1, o1⟩ := hr
  refine go_goto dM_step_263 (tgt := 342) (by decide) ?_
  refine go_return rfl dM_step_342 ?_
  exact ⟨rfl, by rw [hxi]; exact xPost.z (X1), o0.tr o1⟩
set_option maxRecDepth 100000 in
theorem okM_st25 (w : am_W) {d : Nat} (hd : 1 ≤ d) (G : am_G) (p h m : Nat) (s : xT) (Q : Nat → mT) (Z : Nat → fM) (hp : p < 2) (hz : zSol Q Z m) (hb : tB Q Z m s) (hN : 1 ≤ xN s) (hc : tyR Q Z m (lM s.1) (xC s)) (hB : rBd s) (hS : St0 G) (X : cX p h G s 0 false) (hP : hldP G p Q) (hop : mO (Q (uM (xC s))) (uP (xC s)) = 25) (hD : 1 ≤ uD (xC s)) (hxi : xIns Q s = (xSet (xTell s (uTop (xC s) &&& nI 65535) 0) (uGo (uPop (xC s)) (uP (xC s) + 1)), 0)) : am_Ok w jM_step d (0, 0) [.inr (some 109), .inr (some (114 + 3 * (xN s - 1)))] G (fun r G' => r = none ∧ xPost p h G' (xIns Q s) ∧ oM h G G') := by
  refine am_ok_of rfl (Nat.le_of_ble_eq_true rfl) ?_
  show am_Go w jM_step d (0, 0) 0 [some (.inr (some 109)), some (.inr (some (114 + 3 * (xN s - 1)))), none, none, none, none, none] [] G _
  obtain ⟨t1, -, t3, t4, -⟩ := id hc
  have hn6 := (hP _ t1).2.2.1.1
  obtain ⟨n1, n2, n3, n4⟩ := id hB
  refine M_stp w G p h s Q hp hN t1 t3 hS X hP (fun G2 hS2 X hP2 o0 => ?_)
  have hS := hS2
  rw [hop]
  have h12 := X.n12
  have hh := X.hh
  obtain ⟨k9, k10, k11, k12, k13, kh, kh1, g0, g1, g2, g3, gh⟩ := hS.cq hh
  obtain ⟨f0, f1, f2, f3, f4, f5⟩ := hS.fq (i := xN s - 1) (by omega)
  have lg := X.lg
  obtain ⟨⟨cnu, cbs, cdp, cd8⟩, cvl, clc⟩ := X.cf hN
  obtain ⟨hs, ⟨r0, r1, r2, r3, r4, r5, r6⟩, s1, s2, s3, s4, s5, s6, s7⟩ := (hP2 _ t1).1
  obtain ⟨m1, -, -⟩ := (hP2 _ t1).2.1.2.1 _ t3
  rw [hop] at m1
  refine go_tableIn dM_step_52 (by decide) (by decide) (off := 233) rfl (tgt := 285) (by decide) ?_
  refine go_aload_n dM_step_285 rfl rfl ?_
  refine go_getO dM_step_286 flM_32 rfl (by assumption) (by assumption) ?_
  refine go_iconst (nI 0) (by decide) dM_step_289 ?_
  refine go_aload_n dM_step_290 rfl rfl ?_
  refine go_cV (k' := (0, 0)) dM_step_291 _ csM_136 (by assumption) rfl imA_pop seA_pop rfl (okA_popX (d := 0) w G2 p h 0 true (s) hN hS X (hD)) (by omega) (by decide) (Nat.le_of_ble_eq_true rfl) (fun r G1 hr hn => ?_)
  obtain ⟨rfl, X1, o1⟩ := hr
  have X1 : cX p h G1 (xSet s (uPop (xC s))) 0 true := X1
  have hS := o1.St hS
  obtain ⟨k9, k10, k11, k12, k13, kh, kh1, g0, g1, g2, g3, gh⟩ := hS.cq hh
  refine go_ldc kcM_146 dM_step_294 ?_
  refine go_iand dM_step_296 ?_
  refine go_cV (k' := (0, 0)) dM_step_297 _ csM_96 (by assumption) rfl imL_note seL_note rfl (okL_note (d := 0) w G1 h 0 (uTop (xC s) &&& nI 65535) s.1 hh hS X1.1 (by omega)) (by omega) (by decide) (Nat.le_of_ble_eq_true rfl) (fun r G1 hr hn => ?_)
  obtain ⟨rfl, L2, o2⟩ := hr
  refine go_goto dM_step_300 (tgt := 342) (by decide) ?_
  refine go_return rfl dM_step_342 ?_
  exact ⟨rfl, by rw [hxi]; exact xPost.z (cX.ms (X1.tell L2 o2) hN), (o0.tr o1).tr o2.m⟩
set_option maxRecDepth 100000 in
theorem okM_st22a (w : am_W) {d : Nat} (hd : 4 ≤ d) (G : am_G) (p h m : Nat) (s : xT) (Q : Nat → mT) (Z : Nat → fM) (hp : p < 2) (hz : zSol Q Z m) (hb : tB Q Z m s) (hN : 1 ≤ xN s) (hc : tyR Q Z m (lM s.1) (xC s)) (hB : rBd s) (hS : St0 G) (X : cX p h G s 0 false) (hP : hldP G p Q) (hop : mO (Q (uM (xC s))) (uP (xC s)) = 22) (hD : 1 ≤ uD (xC s)) (hq : 0 < (xFin Q (xSet s (uPop (xC s))) 0).2) (hq2 : (xFin Q (xSet s (uPop (xC s))) 0).2 ≤ 1000) (hxi : xIns Q s = xBack (xFin Q (xSet s (uPop (xC s))) 0) (uTop (xC s))) : am_Ok w jM_step d (0, 0) [.inr (some 109), .inr (some (114 + 3 * (xN s - 1)))] G (fun r G' => r = none ∧ xPost p h G' (xIns Q s) ∧ oM h G G') := by
  refine am_ok_of rfl (Nat.le_of_ble_eq_true rfl) ?_
  show am_Go w jM_step d (0, 0) 0 [some (.inr (some 109)), some (.inr (some (114 + 3 * (xN s - 1)))), none, none, none, none, none] [] G _
  obtain ⟨t1, -, t3, t4, -⟩ := id hc
  have hn6 := (hP _ t1).2.2.1.1
  obtain ⟨n1, n2, n3, n4⟩ := id hB
  refine M_stp w G p h s Q hp hN t1 t3 hS X hP (fun G2 hS2 X hP2 o0 => ?_)
  have hS := hS2
  rw [hop]
  have h12 := X.n12
  have hh := X.hh
  obtain ⟨k9, k10, k11, k12, k13, kh, kh1, g0, g1, g2, g3, gh⟩ := hS.cq hh
  obtain ⟨f0, f1, f2, f3, f4, f5⟩ := hS.fq (i := xN s - 1) (by omega)
  have lg := X.lg
  obtain ⟨⟨cnu, cbs, cdp, cd8⟩, cvl, clc⟩ := X.cf hN
  obtain ⟨hs, ⟨r0, r1, r2, r3, r4, r5, r6⟩, s1, s2, s3, s4, s5, s6, s7⟩ := (hP2 _ t1).1
  obtain ⟨m1, -, -⟩ := (hP2 _ t1).2.1.2.1 _ t3
  rw [hop] at m1
  refine go_tableIn dM_step_52 (by decide) (by decide) (off := 214) rfl (tgt := 266) (by decide) ?_
  refine go_aload_n dM_step_266 rfl rfl ?_
  refine go_cV (k' := (0, 0)) dM_step_267 _ csM_136 (by assumption) rfl imA_pop seA_pop rfl (okA_popX (d := 0) w G2 p h 0 true (s) hN hS X (hD)) (by omega) (by decide) (Nat.le_of_ble_eq_true rfl) (fun r G1 hr hn => ?_)
  obtain ⟨rfl, X1, o1⟩ := hr
  have X1 : cX p h G1 (xSet s (uPop (xC s))) 0 true := X1
  have hS := o1.St hS
  have k9 := hS.s sh_109
  refine go_istore dM_step_270 (Nat.le_of_ble_eq_true rfl) ?_
  refine go_aload_n dM_step_272 rfl rfl ?_
  refine go_cV (k' := (0, 0)) dM_step_273 _ csM_140 (by assumption) rfl imM_closeFrame seM_closeFrame rfl (okM_closeFrame (d := 3) w (by decide) G1 p h 0 (xSet s (uPop (xC s))) Q hp hN t1 t4 (show lM s.1 + xH s ≤ 1000 by omega) (show lNn s.1 + xH s < 900000 by omega) hS X1 (hP2.m hp hh o1)) (by omega) (by decide) (Nat.le_of_ble_eq_true rfl) (fun r G1 hr hn => ?_)
  obtain ⟨rfl, X2, o2⟩ := hr
  have hS := o2.St hS
  have k9 := hS.s sh_109
  refine go_aload_n dM_step_276 rfl rfl ?_
  refine go_iload dM_step_277 rfl ?_
  refine go_cV (k' := (0, 0)) dM_step_279 _ csM_143 (by assumption) rfl imM_giveBack seM_giveBack rfl (okM_gbA (d := 0) w G1 p h (xFin Q (xSet s (uPop (xC s))) 0).2 (xFin Q (xSet s (uPop (xC s))) 0).1 (uTop (xC s)) hS X2 hq (by omega)) (by omega) (by decide) (Nat.le_of_ble_eq_true rfl) (fun r G1 hr hn => ?_)
  obtain ⟨rfl, hG⟩ := hr
  rw [hG]
  clear hG hn
  refine go_goto dM_step_282 (tgt := 342) (by decide) ?_
  refine go_return rfl dM_step_342 ?_
  exact ⟨rfl, by rw [hxi]; exact .b1 hq X2, (o0.tr o1).tr o2⟩
set_option maxRecDepth 100000 in
theorem okM_st22b (w : am_W) {d : Nat} (hd : 4 ≤ d) (G : am_G) (p h m : Nat) (s : xT) (Q : Nat → mT) (Z : Nat → fM) (hp : p < 2) (hz : zSol Q Z m) (hb : tB Q Z m s) (hN : 1 ≤ xN s) (hc : tyR Q Z m (lM s.1) (xC s)) (hB : rBd s) (hS : St0 G) (X : cX p h G s 0 false) (hP : hldP G p Q) (hop : mO (Q (uM (xC s))) (uP (xC s)) = 22) (hD : 1 ≤ uD (xC s)) (hq : (xFin Q (xSet s (uPop (xC s))) 0).2 = 0) (hN2 : 1 ≤ xN (xFin Q (xSet s (uPop (xC s))) 0).1) (h8 : uD (xC (xFin Q (xSet s (uPop (xC s))) 0).1) < 8) (hxi : xIns Q s = xBack (xFin Q (xSet s (uPop (xC s))) 0) (uTop (xC s))) : am_Ok w jM_step d (0, 0) [.inr (some 109), .inr (some (114 + 3 * (xN s - 1)))] G (fun r G' => r = none ∧ xPost p h G' (xIns Q s) ∧ oM h G G') := by
  refine am_ok_of rfl (Nat.le_of_ble_eq_true rfl) ?_
  show am_Go w jM_step d (0, 0) 0 [some (.inr (some 109)), some (.inr (some (114 + 3 * (xN s - 1)))), none, none, none, none, none] [] G _
  obtain ⟨t1, -, t3, t4, -⟩ := id hc
  have hn6 := (hP _ t1).2.2.1.1
  obtain ⟨n1, n2, n3, n4⟩ := id hB
  refine M_stp w G p h s Q hp hN t1 t3 hS X hP (fun G2 hS2 X hP2 o0 => ?_)
  have hS := hS2
  rw [hop]
  have h12 := X.n12
  have hh := X.hh
  obtain ⟨k9, k10, k11, k12, k13, kh, kh1, g0, g1, g2, g3, gh⟩ := hS.cq hh
  obtain ⟨f0, f1, f2, f3, f4, f5⟩ := hS.fq (i := xN s - 1) (by omega)
  have lg := X.lg
  obtain ⟨⟨cnu, cbs, cdp, cd8⟩, cvl, clc⟩ := X.cf hN
  obtain ⟨hs, ⟨r0, r1, r2, r3, r4, r5, r6⟩, s1, s2, s3, s4, s5, s6, s7⟩ := (hP2 _ t1).1
  obtain ⟨m1, -, -⟩ := (hP2 _ t1).2.1.2.1 _ t3
  rw [hop] at m1
  refine go_tableIn dM_step_52 (by decide) (by decide) (off := 214) rfl (tgt := 266) (by decide) ?_
  refine go_aload_n dM_step_266 rfl rfl ?_
  refine go_cV (k' := (0, 0)) dM_step_267 _ csM_136 (by assumption) rfl imA_pop seA_pop rfl (okA_popX (d := 0) w G2 p h 0 true (s) hN hS X (hD)) (by omega) (by decide) (Nat.le_of_ble_eq_true rfl) (fun r G1 hr hn => ?_)
  obtain ⟨rfl, X1, o1⟩ := hr
  have X1 : cX p h G1 (xSet s (uPop (xC s))) 0 true := X1
  have hS := o1.St hS
  have k9 := hS.s sh_109
  refine go_istore dM_step_270 (Nat.le_of_ble_eq_true rfl) ?_
  refine go_aload_n dM_step_272 rfl rfl ?_
  refine go_cV (k' := (0, 0)) dM_step_273 _ csM_140 (by assumption) rfl imM_closeFrame seM_closeFrame rfl (okM_closeFrame (d := 3) w (by decide) G1 p h 0 (xSet s (uPop (xC s))) Q hp hN t1 t4 (show lM s.1 + xH s ≤ 1000 by omega) (show lNn s.1 + xH s < 900000 by omega) hS X1 (hP2.m hp hh o1)) (by omega) (by decide) (Nat.le_of_ble_eq_true rfl) (fun r G1 hr hn => ?_)
  obtain ⟨rfl, X2, o2⟩ := hr
  have hS := o2.St hS
  have k9 := hS.s sh_109
  refine go_aload_n dM_step_276 rfl rfl ?_
  refine go_iload dM_step_277 rfl ?_
  refine go_cV (k' := (0, 0)) dM_step_279 _ csM_143 (by assumption) rfl imM_giveBack seM_giveBack rfl (okM_gbB (d := 1) w (by decide) G1 p h (xFin Q (xSet s (uPop (xC s))) 0).1 (uTop (xC s)) hS (hq ▸ X2) hN2 h8) (by omega) (by decide) (Nat.le_of_ble_eq_true rfl) (fun r G1 hr hn => ?_)
  obtain ⟨rfl, X3, o3⟩ := hr
  refine go_goto dM_step_282 (tgt := 342) (by decide) ?_
  refine go_return rfl dM_step_342 ?_
  exact ⟨rfl, by rw [hxi]; exact .b3 hq (by omega) X3, ((o0.tr o1).tr o2).tr o3⟩
set_option maxRecDepth 100000 in
theorem okM_st22c (w : am_W) {d : Nat} (hd : 4 ≤ d) (G : am_G) (p h m : Nat) (s : xT) (Q : Nat → mT) (Z : Nat → fM) (hp : p < 2) (hz : zSol Q Z m) (hb : tB Q Z m s) (hN : 1 ≤ xN s) (hc : tyR Q Z m (lM s.1) (xC s)) (hB : rBd s) (hS : St0 G) (X : cX p h G s 0 false) (hP : hldP G p Q) (hop : mO (Q (uM (xC s))) (uP (xC s)) = 22) (hD : 1 ≤ uD (xC s)) (hq : (xFin Q (xSet s (uPop (xC s))) 0).2 = 0) (hN2 : xN (xFin Q (xSet s (uPop (xC s))) 0).1 = 0) (hxi : xIns Q s = xBack (xFin Q (xSet s (uPop (xC s))) 0) (uTop (xC s))) : am_Ok w jM_step d (0, 0) [.inr (some 109), .inr (some (114 + 3 * (xN s - 1)))] G (fun r G' => r = none ∧ xPost p h G' (xIns Q s) ∧ oM h G G') := by
  refine am_ok_of rfl (Nat.le_of_ble_eq_true rfl) ?_
  show am_Go w jM_step d (0, 0) 0 [some (.inr (some 109)), some (.inr (some (114 + 3 * (xN s - 1)))), none, none, none, none, none] [] G _
  obtain ⟨t1, -, t3, t4, -⟩ := id hc
  have hn6 := (hP _ t1).2.2.1.1
  obtain ⟨n1, n2, n3, n4⟩ := id hB
  refine M_stp w G p h s Q hp hN t1 t3 hS X hP (fun G2 hS2 X hP2 o0 => ?_)
  have hS := hS2
  rw [hop]
  have h12 := X.n12
  have hh := X.hh
  obtain ⟨k9, k10, k11, k12, k13, kh, kh1, g0, g1, g2, g3, gh⟩ := hS.cq hh
  obtain ⟨f0, f1, f2, f3, f4, f5⟩ := hS.fq (i := xN s - 1) (by omega)
  have lg := X.lg
  obtain ⟨⟨cnu, cbs, cdp, cd8⟩, cvl, clc⟩ := X.cf hN
  obtain ⟨hs, ⟨r0, r1, r2, r3, r4, r5, r6⟩, s1, s2, s3, s4, s5, s6, s7⟩ := (hP2 _ t1).1
  obtain ⟨m1, -, -⟩ := (hP2 _ t1).2.1.2.1 _ t3
  rw [hop] at m1
  refine go_tableIn dM_step_52 (by decide) (by decide) (off := 214) rfl (tgt := 266) (by decide) ?_
  refine go_aload_n dM_step_266 rfl rfl ?_
  refine go_cV (k' := (0, 0)) dM_step_267 _ csM_136 (by assumption) rfl imA_pop seA_pop rfl (okA_popX (d := 0) w G2 p h 0 true (s) hN hS X (hD)) (by omega) (by decide) (Nat.le_of_ble_eq_true rfl) (fun r G1 hr hn => ?_)
  obtain ⟨rfl, X1, o1⟩ := hr
  have X1 : cX p h G1 (xSet s (uPop (xC s))) 0 true := X1
  have hS := o1.St hS
  have k9 := hS.s sh_109
  refine go_istore dM_step_270 (Nat.le_of_ble_eq_true rfl) ?_
  refine go_aload_n dM_step_272 rfl rfl ?_
  refine go_cV (k' := (0, 0)) dM_step_273 _ csM_140 (by assumption) rfl imM_closeFrame seM_closeFrame rfl (okM_closeFrame (d := 3) w (by decide) G1 p h 0 (xSet s (uPop (xC s))) Q hp hN t1 t4 (show lM s.1 + xH s ≤ 1000 by omega) (show lNn s.1 + xH s < 900000 by omega) hS X1 (hP2.m hp hh o1)) (by omega) (by decide) (Nat.le_of_ble_eq_true rfl) (fun r G1 hr hn => ?_)
  obtain ⟨rfl, X2, o2⟩ := hr
  have hS := o2.St hS
  have k9 := hS.s sh_109
  refine go_aload_n dM_step_276 rfl rfl ?_
  refine go_iload dM_step_277 rfl ?_
  refine go_cV (k' := (0, 0)) dM_step_279 _ csM_143 (by assumption) rfl imM_giveBack seM_giveBack rfl (okM_gbC (d := 0) w G1 p h (xFin Q (xSet s (uPop (xC s))) 0).1 (uTop (xC s)) hS (hq ▸ X2) hN2) (by omega) (by decide) (Nat.le_of_ble_eq_true rfl) (fun r G1 hr hn => ?_)
  obtain ⟨rfl, X3, o3⟩ := hr
  refine go_goto dM_step_282 (tgt := 342) (by decide) ?_
  refine go_return rfl dM_step_342 ?_
  exact ⟨rfl, by rw [hxi]; exact .b2 hq hN2 X3, ((o0.tr o1).tr o2).tr o3⟩
