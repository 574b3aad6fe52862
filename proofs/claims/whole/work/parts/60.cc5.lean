theorem rt_45 : ∀ q ∈ RT, ¬ (q.1 = 109 ∧ 4 ≤ q.2.1) := by decide +kernel
theorem St0.w4 {G : am_G} {k : Nat} {r : Option Nat} (h : St0 G) (hk : 4 ≤ k) : St0 (am_wr G 109 k r) := ⟨h.1, fun q hq => by
  have h1 := rt_45 q hq
  have h2 := h.2 q hq
  show va_up G.2.2 109 (va_up (G.2.2 109) k r) q.1 q.2.1 = _
  by_cases e : q.1 = 109
  · rw [e, am_up_eq, am_up_ne (fun e2 => h1 ⟨e, by omega⟩), ← e]; exact h2
  · rw [am_up_ne e]; exact h2⟩
/-- only the machine and a ledger have changed, and what the machine holds of programs and ledgers -/
def oW (h : Nat) (G G' : am_G) : Prop := G'.1 = G.1 ∧ (∀ i, ¬ ((109 ≤ i ∧ i ≤ 149) ∨ i = h ∨ i = h + 1) → G'.2.1 i = G.2.1 i) ∧ ∀ i, i ≠ 109 → G'.2.2 i = G.2.2 i
def L_clr (G : am_G) (h : Nat) : am_G := am_wi (am_wi (am_wi (am_wi (am_wi (am_wi (am_wi G h 1 (-5)) h 2 (nI 0)) h 3 (nI 0)) h 4 (nI 0)) h 5 (nI 0)) h 6 (nI 0)) h 7 (nI 0)
section Cp
variable {p h t m : Nat} {G G' : am_G} {s : xT} {b : Bool} {Q : Nat → mT} {F : Nat → uT} {V V' : Nat → Option Int32}
theorem cX.ini (r1 : G.2.2 109 4 = some (2 + 50 * p)) (r2 : G.2.2 109 5 = some h) (hh : h = 159 ∨ h = 161) : cX p h (am_wi (am_wi (am_wi (L_clr G h) 109 6 (nI 0)) 109 7 (nI 0)) 109 8 (nI 0)) x0 0 true := by
  unfold L_clr
  refine ⟨⟨?_, ?_, ?_, ?_, ?_, ?_, fun i h1 h2 => absurd h1 (Nat.not_lt_zero i)⟩, ⟨?_, ?_, ?_, hh⟩, ⟨r1, r2⟩, fun o h1 h2 => absurd (Nat.le_trans h1 h2) (Nat.not_succ_le_zero 0), fun k hk => absurd hk (Nat.not_lt_zero k), fun k hk => absurd hk (Nat.not_lt_zero _), fun hk => absurd hk (Nat.not_succ_le_zero 0), fun hk => absurd hk (Nat.not_succ_le_zero 0), fun hk => absurd hk (Nat.not_succ_le_zero 0), fun _ => ?_, (fun e he => by cases he), Nat.zero_le _⟩
  all_goals simp (disch := omega) only [wi_I, wi_In, wi_Is]
  all_goals rfl
theorem cX.setV (q : cX p h G s t b) (hN : 1 ≤ xN s) (w0 : G'.2.2 = G.2.2) (w1 : ∀ r, r ≠ 115 + 3 * (xN s - 1) → G'.2.1 r = G.2.1 r) (w4 : ∀ a, a < 8 → ∀ v, V a = some v → G'.2.1 (115 + 3 * (xN s - 1)) a = v) : cX p h G' (xSet s (uM (xC s), uP (xC s), uD (xC s), uB (xC s), uV (xC s), V)) t b := by
  obtain ⟨⟨a1, a2, a3, a4, a5, a6, a7⟩, ⟨b1, b2, b3, hh⟩, ⟨r1, r2⟩, c', d, e, f, g, i, j, l, n12⟩ := q
  refine ⟨⟨?_, ?_, ?_, ?_, ?_, ?_, fun i h1 h2 => ?_⟩, ⟨?_, ?_, ?_, hh⟩, ⟨by rw [w0]; exact r1, by rw [w0]; exact r2⟩, fun o h1 h2 => ?_, fun k hk => ?_, fun k hk => ?_, fun hk => ?_, fun hk hb => ?_, fun hk hb => ?_, fun hn => ?_, fun z hz => ?_, n12⟩
  · rw [w1 h (by omega)]; exact a1
  · rw [w1 h (by omega)]; exact a2
  · rw [w1 h (by omega)]; exact a3
  · rw [w1 h (by omega)]; exact a4
  · rw [w1 h (by omega)]; exact a5
  · rw [w1 h (by omega)]; exact a6
  · rw [w1 (h + 1) (by omega)]; exact a7 i h1 h2
  · rw [w1 109 (by omega)]; exact b1
  · rw [w1 109 (by omega)]; exact b2
  · rw [w1 109 (by omega)]; exact b3
  · rw [w1 111 (by omega), w1 112 (by omega)]; exact c' o h1 h2
  · rw [w1 113 (by omega)]; exact d k hk
  · have hk : k + 1 < xN s := hk
    exact ⟨(e k hk).1.same (fun z _ => by rw [w1 _ (by omega)]) (w1 _ (by omega)) (w1 _ (by omega)), (e k hk).2.same (fun z _ => by rw [w1 _ (by omega)])⟩
  · change cF G' (xN s - 1) _
    obtain ⟨⟨z1, z2, z3, z4⟩, y, x⟩ := f hN
    refine ⟨⟨?_, ?_, ?_, z4⟩, fun d hd => ?_, w4⟩
    · rw [w1 _ (by omega)]; exact z1
    · rw [w1 _ (by omega)]; exact z2
    · rw [w1 _ (by omega)]; exact z3
    · rw [w1 _ (by omega)]; exact y d hd
  · change cP G' (xN s - 1) (uP (xC s))
    exact (g hN hb).same (fun z _ => by rw [w1 _ (by omega)])
  · change G'.2.1 (114 + 3 * (xN s - 1)) 4 = _
    rw [w1 _ (by omega)]; exact i hN hb
  · rw [w1 h (by omega)]; exact j hn
  · rw [w1 h (by omega)]; exact l z hz
theorem xOpen_V : xSet (xOpen Q s m F V') (uM (xC (xOpen Q s m F V')), uP (xC (xOpen Q s m F V')), uD (xC (xOpen Q s m F V')), uB (xC (xOpen Q s m F V')), uV (xC (xOpen Q s m F V')), V) = xOpen Q s m F V := by
  cases hL : mL (Q m) with
  | true => rw [xOpen_t2 hL, xOpen_t2 hL]; rfl
  | false => rw [xOpen_f hL, xOpen_f hL]; rfl
theorem cX.iV {x y z : Int32} (q : cX p h G (xOpen Q x0 m F (fun _ => none)) t b) (hn : mG (Q m) ≤ 3) : cX p h (am_wi (am_wi (am_wi G 115 0 x) 115 1 y) 115 2 z) (xOpen Q x0 m F (fun i => if i < mG (Q m) then some (if i = 0 then x else if i = 1 then y else z) else none)) t b := by
  have e1 : xN (xOpen Q x0 m F (fun _ => none)) = 1 := (xOpen_N).1
  have := cX.setV (G' := am_wi (am_wi (am_wi G 115 0 x) 115 1 y) 115 2 z) (V := fun i => if i < mG (Q m) then some (if i = 0 then x else if i = 1 then y else z) else none) q (by rw [e1]; exact Nat.le_refl 1) rfl (fun r hr => ?_) (fun a ha v hv => ?_)
  · rw [xOpen_V] at this
    exact this
  · rw [e1] at hr
    have hr : r ≠ 115 := hr
    simp (disch := omega) only [wi_I]
  · rw [e1]
    show (am_wi (am_wi (am_wi G 115 0 x) 115 1 y) 115 2 z).2.1 115 a = v
    have hv : (if a < mG (Q m) then some (if a = 0 then x else if a = 1 then y else z) else none) = some v := hv
    split at hv
    · cases hv
      rcases (show a = 0 ∨ a = 1 ∨ a = 2 by omega) with e | e | e <;> subst e <;> simp (disch := omega) only [wi_I, wi_In, wi_Is] <;> rfl
    · cases hv
end Cp

theorem okM_step (w : am_W) {d : Nat} (hd : 4 ≤ d) (G : am_G) (p h m : Nat) (s : xT) (Q : Nat → mT) (Z : Nat → fM) (hp : p < 2) (hz : zSol Q Z m) (hb : tB Q Z m s) (hN : 1 ≤ xN s) (hc : tyR Q Z m (lM s.1) (xC s)) (hB : rBd s) (hS : St0 G) (X : cX p h G s 0 false) (hP : hldP G p Q) (hg : xGd (gP Q) (Q (uM (xC s))) (lM s.1) (xC s) (mO (Q (uM (xC s))) (uP (xC s))) (aN (Q (uM (xC s))) (uP (xC s)))) : am_Ok w jM_step d (0, 0) [.inr (some 109), .inr (some (114 + 3 * (xN s - 1)))] G (fun r G' => r = none ∧ xPost p h G' (xIns Q s) ∧ oM h G G') := by
  obtain ⟨t1, -, t3, t4, -⟩ := id hc
  have hm := (hP _ t1).2.2.1
  have hn6 := hm.1
  have h28 := (hm.2.2.2.1 _ t3).1
  have h12 := hb.2.2.1
  have nM1 := hB.1
  have dd : mO (Q (uM (xC s))) (uP (xC s)) = 0 ∨ mO (Q (uM (xC s))) (uP (xC s)) = 1 ∨ mO (Q (uM (xC s))) (uP (xC s)) = 2 ∨ mO (Q (uM (xC s))) (uP (xC s)) = 3 ∨ mO (Q (uM (xC s))) (uP (xC s)) = 4 ∨ mO (Q (uM (xC s))) (uP (xC s)) = 5 ∨ mO (Q (uM (xC s))) (uP (xC s)) = 6 ∨ mO (Q (uM (xC s))) (uP (xC s)) = 7 ∨ mO (Q (uM (xC s))) (uP (xC s)) = 8 ∨ mO (Q (uM (xC s))) (uP (xC s)) = 9 ∨ mO (Q (uM (xC s))) (uP (xC s)) = 10 ∨ mO (Q (uM (xC s))) (uP (xC s)) = 11 ∨ mO (Q (uM (xC s))) (uP (xC s)) = 12 ∨ mO (Q (uM (xC s))) (uP (xC s)) = 13 ∨ mO (Q (uM (xC s))) (uP (xC s)) = 14 ∨ mO (Q (uM (xC s))) (uP (xC s)) = 15 ∨ mO (Q (uM (xC s))) (uP (xC s)) = 16 ∨ mO (Q (uM (xC s))) (uP (xC s)) = 17 ∨ mO (Q (uM (xC s))) (uP (xC s)) = 18 ∨ mO (Q (uM (xC s))) (uP (xC s)) = 19 ∨ mO (Q (uM (xC s))) (uP (xC s)) = 20 ∨ mO (Q (uM (xC s))) (uP (xC s)) = 21 ∨ mO (Q (uM (xC s))) (uP (xC s)) = 22 ∨ mO (Q (uM (xC s))) (uP (xC s)) = 23 ∨ mO (Q (uM (xC s))) (uP (xC s)) = 24 ∨ mO (Q (uM (xC s))) (uP (xC s)) = 25 ∨ mO (Q (uM (xC s))) (uP (xC s)) = 26 ∨ mO (Q (uM (xC s))) (uP (xC s)) = 27 := by omega
  rcases dd with e | e | e | e | e | e | e | e | e | e | e | e | e | e | e | e | e | e | e | e | e | e | e | e | e | e | e | e
  · exact okM_st0 w (by omega) G p h m s Q Z hp hz hb hN hc hB hS X hP e (xIns_op e rfl rfl)
  · rw [e] at hg
    exact okM_st1 w (by omega) G p h m s Q Z hp hz hb hN hc hB hS X hP e hg (xIns_op e rfl rfl)
  · rw [e] at hg
    obtain ⟨eA, ha⟩ := hm.loc t3 (by omega)
    exact okM_st2 w (by omega) G p h m s Q Z hp hz hb hN hc hB hS X hP e _ eA ha hg.1 hg.2 ((xIns_op e eA rfl).trans (xd_2 ha))
  · rw [e] at hg
    obtain ⟨eA, ha⟩ := hm.loc t3 (by omega)
    exact okM_st3 w (by omega) G p h m s Q Z hp hz hb hN hc hB hS X hP e _ eA ha hg ((xIns_op e eA rfl).trans (xd_3 ha))
  · rw [e] at hg
    exact okM_st4 w (by omega) G p h m s Q Z hp hz hb hN hc hB hS X hP e hg (xIns_op e rfl rfl)
  · rw [e] at hg
    exact okM_st5 w (by omega) G p h m s Q Z hp hz hb hN hc hB hS X hP e hg.1 hg.2 (xIns_op e rfl rfl)
  · rw [e] at hg
    exact okM_st6 w (by omega) G p h m s Q Z hp hz hb hN hc hB hS X hP e hg (xIns_op e rfl rfl)
  · rw [e] at hg
    exact okM_st7 w (by omega) G p h m s Q Z hp hz hb hN hc hB hS X hP e hg (xIns_op e rfl rfl)
  · rw [e] at hg
    exact okM_st8 w (by omega) G p h m s Q Z hp hz hb hN hc hB hS X hP e hg (xIns_op e rfl rfl)
  · rw [e] at hg
    exact okM_st9 w (by omega) G p h m s Q Z hp hz hb hN hc hB hS X hP e hg (xIns_op e rfl rfl)
  · rw [e] at hg
    by_cases hy : uTop (xC s) = nI 0
    · exact okM_st10z w (by omega) G p h m s Q Z hp hz hb hN hc hB hS X hP e hg hy ((xIns_op e rfl rfl).trans (xd_10z hy))
    · exact okM_st10 w (by omega) G p h m s Q Z hp hz hb hN hc hB hS X hP e hg hy ((xIns_op e rfl rfl).trans (xd_10 hy))
  · rw [e] at hg
    obtain ⟨eB, hb6⟩ := hm.jmp t3 (by omega)
    exact okM_st11 w (by omega) G p h m s Q Z hp hz hb hN hc hB hS X hP e _ eB ((xIns_op e rfl eB).trans (xd_11 hb6))
  · rw [e] at hg
    obtain ⟨eB, hb6⟩ := hm.jmp t3 (by omega)
    rcases hm.iff t3 e with eA | eA | eA
    · exact okM_st12_0 w (by omega) G p h m s Q Z hp hz hb hN hc hB hS X hP e eA _ eB hg ((xIns_op e eA eB).trans (xd_12 hb6))
    · exact okM_st12_1 w (by omega) G p h m s Q Z hp hz hb hN hc hB hS X hP e eA _ eB hg ((xIns_op e eA eB).trans (xd_12 hb6))
    · exact okM_st12_2 w (by omega) G p h m s Q Z hp hz hb hN hc hB hS X hP e eA _ eB hg ((xIns_op e eA eB).trans (xd_12 hb6))
  · rw [e] at hg
    exact okM_st13 w (by omega) G p h m s Q Z hp hz hb hN hc hB hS X hP e hg (xIns_op e rfl rfl)
  · rw [e] at hg
    obtain ⟨eA, ha⟩ := hm.nw t3 e
    exact okM_st14 w (by omega) G p h m s Q Z hp hz hb hN hc hB hS X hP e _ eA hg ((xIns_op e eA rfl).trans (xd_14 ha))
  · rw [e] at hg
    obtain ⟨hD, u, u1, u2⟩ := hg
    rcases Nat.eq_zero_or_pos u with e0 | h1
    · rw [e0] at u2
      exact okM_st15z w (by omega) G p h m s Q Z hp hz hb hN hc hB hS X hP e u2 hD ((xIns_op e rfl rfl).trans (xd_15z u2))
    · exact okM_st15 w (by omega) G p h m s Q Z hp hz hb hN hc hB hS X hP e u u2 h1 u1 hD ((xIns_op e rfl rfl).trans (xd_15 u2 h1 (by omega)))
  · rw [e] at hg
    obtain ⟨hD, u, u1, u2⟩ := hg
    rcases Nat.eq_zero_or_pos u with e0 | h1
    · rw [e0] at u2
      exact okM_st16z w (by omega) G p h m s Q Z hp hz hb hN hc hB hS X hP e u2 hD ((xIns_op e rfl rfl).trans (xd_16z u2))
    · exact okM_st16 w (by omega) G p h m s Q Z hp hz hb hN hc hB hS X hP e u u2 h1 u1 hD ((xIns_op e rfl rfl).trans (xd_16 u2 h1 (by omega)))
  · rw [e] at hg
    obtain ⟨eB, hb6⟩ := hm.jmp t3 (by omega)
    exact okM_st17 w (by omega) G p h m s Q Z hp hz hb hN hc hB hS X hP e _ eB hg ((xIns_op e rfl eB).trans (xd_17 hb6))
  · rw [e] at hg
    obtain ⟨hD, u, u1, u2⟩ := hg
    rcases Nat.eq_zero_or_pos u with e0 | h1
    · rw [e0] at u2
      exact okM_st18z w (by omega) G p h m s Q Z hp hz hb hN hc hB hS X hP e u2 hD ((xIns_op e rfl rfl).trans (xd_18z u2))
    · exact okM_st18 w (by omega) G p h m s Q Z hp hz hb hN hc hB hS X hP e u u2 h1 u1 hD ((xIns_op e rfl rfl).trans (xd_18 u2 h1 (by omega)))
  · rw [e] at hg
    obtain ⟨hD, u, u1, u2⟩ := hg
    rcases Nat.eq_zero_or_pos u with e0 | h1
    · rw [e0] at u2
      exact okM_st19z w (by omega) G p h m s Q Z hp hz hb hN hc hB hS X hP e u2 hD ((xIns_op e rfl rfl).trans (xd_19z u2))
    · cases hf : xFind (xE s) (uB (xC s)) u (xH s) with
      | none => exact okM_st19b w (by omega) G p h m s Q Z hp hz hb hN hc hB hS X hP e u u2 h1 u1 hD hf (((xIns_op e rfl rfl).trans (xd_19 u2 h1 (by omega))).trans (xLeave_n hf))
      | some k => exact okM_st19a w (by omega) G p h m s Q Z hp hz hb hN hc hB hS X hP e u u2 h1 u1 hD k hf (((xIns_op e rfl rfl).trans (xd_19 u2 h1 (by omega))).trans (xLeave_s hf))
  · rw [e] at hg
    obtain ⟨hD, u, u1, u2⟩ := hg
    rcases Nat.eq_zero_or_pos u with e0 | h1
    · rw [e0] at u2
      exact okM_st20z w (by omega) G p h m s Q Z hp hz hb hN hc hB hS X hP e u2 hD ((xIns_op e rfl rfl).trans (xd_20z u2))
    · exact okM_st20 w (by omega) G p h m s Q Z hp hz hb hN hc hB hS X hP e u u2 h1 u1 hD ((xIns_op e rfl rfl).trans (xd_20 u2 h1 (by omega)))
  · rw [e] at hg
    obtain ⟨eA, ha⟩ := hm.call t3 e
    by_cases h2 : xN s = 12
    · exact okM_st21z w (by omega) G p h m s Q Z hp hz hb hN hc hB hS X hP e _ eA h2 ((xIns_op e eA rfl).trans (xd_21y ha h2))
    · exact okM_st21 w (by omega) G p h m s Q Z hp hz hb hN hc hB hS X hP e _ eA ha (by omega) hg ((xIns_op e eA rfl).trans (xd_21n ha h2))
  · rw [e] at hg
    obtain ⟨f1, f2, f3, f4, f5, f6, f7, f8, f9, f10, f11, f12⟩ := xFin_ty (Q := Q) (Z := Z) (m := m) (s := xSet s (uPop (xC s))) (o := 0) hb hN (Nat.zero_le _)
    have f7 : lM (xFin Q (xSet s (uPop (xC s))) 0).1.1 + xH (xFin Q (xSet s (uPop (xC s))) 0).1 ≤ lM s.1 + xH s := f7
    rcases Nat.eq_zero_or_pos (xFin Q (xSet s (uPop (xC s))) 0).2 with q0 | q1
    · by_cases hn : xN (xFin Q (xSet s (uPop (xC s))) 0).1 = 0
      · exact okM_st22c w (by omega) G p h m s Q Z hp hz hb hN hc hB hS X hP e hg q0 hn (xIns_op e rfl rfl)
      · exact okM_st22b w (by omega) G p h m s Q Z hp hz hb hN hc hB hS X hP e hg q0 (by omega) ((f2 (by omega)).l8 hz) (xIns_op e rfl rfl)
    · exact okM_st22a w (by omega) G p h m s Q Z hp hz hb hN hc hB hS X hP e hg q1 (by omega) (xIns_op e rfl rfl)
  · rw [e] at hg
    obtain ⟨eB, hb6⟩ := hm.jmp t3 (by omega)
    exact okM_st23 w (by omega) G p h m s Q Z hp hz hb hN hc hB hS X hP e _ eB hg ((xIns_op e rfl eB).trans (xd_23 hb6))
  · rw [e] at hg
    obtain ⟨eA, ha⟩ := hm.loc t3 (by omega)
    obtain ⟨hl, j, j1, j2⟩ := hg
    exact okM_st24 w (by omega) G p h m s Q Z hp hz hb hN hc hB hS X hP e _ eA j ha hl j2 ((xIns_op e eA rfl).trans (xd_24 ha (show j < 61 by omega) j2))
  · rw [e] at hg
    exact okM_st25 w (by omega) G p h m s Q Z hp hz hb hN hc hB hS X hP e hg (xIns_op e rfl rfl)
  · rw [e] at hg
    obtain ⟨hD, u, u1, u2⟩ := hg
    rcases Nat.eq_zero_or_pos u with e0 | h1
    · rw [e0] at u2
      exact okM_st26z w (by omega) G p h m s Q Z hp hz hb hN hc hB hS X hP e u2 hD ((xIns_op e rfl rfl).trans (xd_26z u2))
    · exact okM_st26 w (by omega) G p h m s Q Z hp hz hb hN hc hB hS X hP e u u2 h1 u1 hD ((xIns_op e rfl rfl).trans (xd_26 u2 h1 (by omega)))
  · rw [e] at hg
    obtain ⟨eA, ha⟩ := hm.loc t3 (by omega)
    exact okM_st27 w (by omega) G p h m s Q Z hp hz hb hN hc hB hS X hP e _ eA ha hg ((xIns_op e eA rfl).trans (xd_27 ha))
set_option maxRecDepth 100000 in
theorem okL_clear (w : am_W) {d : Nat} (G : am_G) (h : Nat) (hh : h = 159 ∨ h = 161) (hS : St0 G) : am_Ok w jL_clear d (0, 0) [.inr (some h)] G (fun r G' => r = none ∧ G' = L_clr G h) := by
  refine am_ok_of rfl (Nat.le_of_ble_eq_true rfl) ?_
  show am_Go w jL_clear d (0, 0) 0 [some (.inr (some h))] [] G _
  obtain ⟨k9, k10, k11, k12, k13, kh, kh1, g0, g1, g2, g3, gh⟩ := hS.cq hh
  refine go_aload_n dL_clear_0 rfl rfl ?_
  refine go_bipush (-5) (by decide) dL_clear_1 ?_
  refine go_putI dL_clear_3 fpL_15 rfl (by assumption) ?_
  refine go_aload_n dL_clear_6 rfl rfl ?_
  refine go_iconst (nI 0) (by decide) dL_clear_7 ?_
  refine go_putI dL_clear_8 fpL_19 rfl (by assumption) ?_
  refine go_aload_n dL_clear_11 rfl rfl ?_
  refine go_iconst (nI 0) (by decide) dL_clear_12 ?_
  refine go_putI dL_clear_13 fpL_22 rfl (by assumption) ?_
  refine go_aload_n dL_clear_16 rfl rfl ?_
  refine go_iconst (nI 0) (by decide) dL_clear_17 ?_
  refine go_putI dL_clear_18 fpL_25 rfl (by assumption) ?_
  refine go_aload_n dL_clear_21 rfl rfl ?_
  refine go_iconst (nI 0) (by decide) dL_clear_22 ?_
  refine go_putI dL_clear_23 fpL_28 rfl (by assumption) ?_
  refine go_aload_n dL_clear_26 rfl rfl ?_
  refine go_iconst (nI 0) (by decide) dL_clear_27 ?_
  refine go_putI dL_clear_28 fpL_31 rfl (by assumption) ?_
  refine go_aload_n dL_clear_31 rfl rfl ?_
  refine go_iconst (nI 0) (by decide) dL_clear_32 ?_
  refine go_putI dL_clear_33 fpL_34 rfl (by assumption) ?_
  refine go_return rfl dL_clear_36 ?_
  exact ⟨rfl, rfl⟩
set_option maxRecDepth 100000 in
theorem M_pl (w : am_W) {d : Nat} (hd : 5 ≤ d) (G0 : am_G) (p h m : Nat) (Q : Nat → mT) (Z : Nat → fM) (l1 l2 l3 l4 l5 l6 l7 l8 : Option am_V) (hp : p < 2) (hh : h = 159 ∨ h = 161) (hv : ∀ a, a < 6 → mV (Q a)) (hz : zSol Q Z m) :
    ∀ (n : Nat) (s : xT) (t : Nat) (G : am_G), lD s.1 + n ≤ 1000 → xInv Q Z m s → (xO s = none → t = 0) → St0 G → cX p h G s t false → hldP G p Q → oM h G0 G → am_Go w jM_play d (0, 0) 70 [some (.inr (some 109)), l1, l2, l3, l4, l5, l6, l7, l8, some (.inl (nI n))] [] G (fun r G' => r = none ∧ (∃ t', cX p h G' (xRun Q n s) t' false) ∧ oM h G0 G') := by
  intro n
  induction n with
  | zero =>
    intro s t G hn hI ht hS X hP ho
    refine go_iload dM_play_70 rfl ?_
    refine go_if_leN (by decide) dM_play_72 (tgt := 132) (by decide) (fun c1 => ?_) (fun c1 => absurd c1 (by decide))
    refine go_return rfl dM_play_132 ?_
    exact ⟨rfl, ⟨t, X⟩, ho⟩
  | succ n ih =>
    intro s t G hn hI ht hS X hP ho
    have lg := X.lg
    obtain ⟨k9, k10, k11, k12, k13, kh, kh1, g0, g1, g2, g3, gh⟩ := hS.cq hh
    cases hO : xO s with
    | some e =>
      have en := X.2.2.2.2.2.2.2.2.2.2.1 e hO
      have e24 := hI.2.2.2.2.2 e hO
      rw [xRun_e hO]
      refine go_iload dM_play_70 rfl ?_
      refine go_if_leN (by omega) dM_play_72 (tgt := 132) (by decide) (fun c1 => absurd c1 (by omega)) (fun c1 => ?_)
      refine go_aload_n dM_play_75 rfl rfl ?_
      refine go_getO dM_play_76 flM_32 rfl (by assumption) (by assumption) ?_
      refine go_getV dM_play_79 flM_58 rfl (by assumption) (by first | assumption | (simp (disch := omega) only [wi_I, ro_I, wi_In, wi_Is]; done) | (simp (disch := omega) only [wi_I, ro_I, wi_In, wi_Is]; first | assumption | rfl) | rfl) ?_
      refine go_bipush (-5) (by decide) dM_play_82 ?_
      refine go_icmp_ne dM_play_84 (tgt := 132) (by decide) (fun c1 => ?_) (fun c1 => absurd c1 (nI_m5 (by omega)))
      refine go_return rfl dM_play_132 ?_
      exact ⟨rfl, ⟨t, X⟩, ho⟩
    | none =>
      have en := X.2.2.2.2.2.2.2.2.2.1 hO
      have t0 := ht hO
      subst t0
      rw [xRun_s hO]
      obtain ⟨k1, k2, k3⟩ := hI.ins hz hv hO (by omega)
      obtain ⟨i1, i2⟩ := hI.step hz hv hO (by omega)
      obtain ⟨b1, b2, b3⟩ := hI.1 hO
      have h12 := X.n12
      have nn := X.nn
      have dn : G.2.1 h 3 = nI (lD s.1) := X.1.2.1
      have oT : oM h G (am_wi G h 3 (nI (lD s.1 + 1))) := oM.l
      obtain ⟨f0, f1, f2, f3, f4, f5⟩ := hS.fq (i := xN s - 1) (by omega)
      refine go_iload dM_play_70 rfl ?_
      refine go_if_leN (by omega) dM_play_72 (tgt := 132) (by decide) (fun c1 => absurd c1 (by omega)) (fun c1 => ?_)
      refine go_aload_n dM_play_75 rfl rfl ?_
      refine go_getO dM_play_76 flM_32 rfl (by assumption) (by assumption) ?_
      refine go_getV dM_play_79 flM_58 rfl (by assumption) (by first | assumption | (simp (disch := omega) only [wi_I, ro_I, wi_In, wi_Is]; done) | (simp (disch := omega) only [wi_I, ro_I, wi_In, wi_Is]; first | assumption | rfl) | rfl) ?_
      refine go_bipush (-5) (by decide) dM_play_82 ?_
      refine go_icmp_ne dM_play_84 (tgt := 132) (by decide) (fun c1 => absurd rfl c1) (fun c1 => ?_)
      refine go_aload_n dM_play_87 rfl rfl ?_
      refine go_getO dM_play_88 flM_32 rfl (by assumption) (by assumption) ?_
      refine go_dup dM_play_91 ?_
      refine go_getV dM_play_92 flM_61 rfl (by assumption) (by first | assumption | (simp (disch := omega) only [wi_I, ro_I, wi_In, wi_Is]; done) | (simp (disch := omega) only [wi_I, ro_I, wi_In, wi_Is]; first | assumption | rfl) | rfl) ?_
      refine go_iconst (nI 1) (by decide) dM_play_95 ?_
      first | refine go_iaddN dM_play_96 ?_ | refine go_iadd dM_play_96 ?_
      refine go_putI dM_play_97 fpM_61 rfl (by assumption) ?_
      refine go_aload_n dM_play_100 rfl rfl ?_
      refine go_aload_n dM_play_101 rfl rfl ?_
      refine go_getO dM_play_102 flM_11 rfl (by assumption) (by assumption) ?_
      refine go_aload_n dM_play_105 rfl rfl ?_
      refine go_getV dM_play_106 flM_41 rfl (by assumption) (by first | assumption | (simp (disch := omega) only [wi_I, ro_I, wi_In, wi_Is]; done) | (simp (disch := omega) only [wi_I, ro_I, wi_In, wi_Is]; first | assumption | rfl) | rfl) ?_
      refine go_iconst (nI 1) (by decide) dM_play_109 ?_
      first | refine go_isubN (by omega) dM_play_110 ?_ | refine go_isub dM_play_110 ?_
      refine go_aaO (t := 2) (by decide) k10 (show xN s - 1 < 12 by omega) (by decide) f3 dM_play_111 ?_
      refine go_cV (k' := (0, 0)) (G := am_wi G h 3 (nI (lD s.1 + 1))) dM_play_112 _ csM_64 (by assumption) rfl imM_step seM_step rfl (okM_step (d := 4) w (by decide) _ p h m (xTick s) Q Z hp hz b1 b2 b3 (hI.bd (by omega)) (by exact hS) X.tick (hP.m hp hh oT) k3) (by omega) (by decide) (Nat.le_of_ble_eq_true rfl) (fun r G1 hr hn => ?_)
      obtain ⟨rfl, P1, o1⟩ := hr
      have hS1 := o1.St (G := am_wi G h 3 (nI (lD s.1 + 1))) hS
      have k91 := hS1.s sh_109
      have hP1 := (hP.m hp hh oT).m hp hh o1
      obtain ⟨⟨y1, y2, y3, y4⟩, n1, n2, n3, n4, n5⟩ := id k1
      rcases Nat.eq_zero_or_pos (xIns Q (xTick s)).2 with q0 | q1
      · have X1 := P1.1 q0
        have th := X1.th
        have ea : xAft Q (xIns Q (xTick s)) = (xIns Q (xTick s)).1 := if_pos q0
        refine go_aload_n dM_play_115 rfl rfl ?_
        refine go_getV dM_play_116 flM_48 rfl (by assumption) (by first | assumption | (simp (disch := omega) only [wi_I, ro_I, wi_In, wi_Is]; done) | (simp (disch := omega) only [wi_I, ro_I, wi_In, wi_Is]; first | assumption | rfl) | rfl) ?_
        refine go_if_eqN (by decide) dM_play_119 (tgt := 126) (by decide) (fun c1 => ?_) (fun c1 => absurd rfl c1)
        refine go_iinc dM_play_126 rfl ?_
        rw [nM_d, nM_1]
        refine go_goto dM_play_129 (tgt := 70) (by decide) ?_
        rw [ea] at i1 i2 ⊢
        exact ih _ 0 G1 (by omega) i1 (fun _ => rfl) hS1 X1 hP1 ((ho.tr oT).tr o1)
      · have X1 := P1.2 (by omega)
        have th := X1.th
        obtain ⟨w1, w2, w3⟩ := y3 (by omega)
        have ea : xAft Q (xIns Q (xTick s)) = xRaise Q (xN (xIns Q (xTick s)).1) (xIns Q (xTick s)).1 (xIns Q (xTick s)).2 := if_neg (by omega)
        refine go_aload_n dM_play_115 rfl rfl ?_
        refine go_getV dM_play_116 flM_48 rfl (by assumption) (by first | assumption | (simp (disch := omega) only [wi_I, ro_I, wi_In, wi_Is]; done) | (simp (disch := omega) only [wi_I, ro_I, wi_In, wi_Is]; first | assumption | rfl) | rfl) ?_
        refine go_if_eqN (by omega) dM_play_119 (tgt := 126) (by decide) (fun c1 => absurd c1 (by omega)) (fun c1 => ?_)
        refine go_aload_n dM_play_122 rfl rfl ?_
        refine go_cV (k' := (0, 0)) dM_play_123 _ csM_68 (by assumption) rfl imM_findRow seM_findRow rfl (okM_findRow (d := 4) w (by decide) G1 p h m (xIns Q (xTick s)).2 (xIns Q (xTick s)).1 Q Z hp (y1 w1) w3 (by omega) w2 (by omega) (by omega) (by omega) hS1 X1 hP1) (by omega) (by decide) (Nat.le_of_ble_eq_true rfl) (fun r G1 hr hn => ?_)
        obtain ⟨rfl, ⟨t2, z1, z2⟩, o2⟩ := hr
        refine go_iinc dM_play_126 rfl ?_
        rw [nM_d, nM_1]
        refine go_goto dM_play_129 (tgt := 70) (by decide) ?_
        rw [ea] at i1 i2 ⊢
        exact ih _ t2 G1 (by omega) i1 z2 (o2.St hS1) z1 (hP1.m hp hh o2) (((ho.tr oT).tr o1).tr o2)
set_option maxRecDepth 100000 in
theorem okM_play (w : am_W) {d : Nat} (hd : 5 ≤ d) (G : am_G) (p h m lim : Nat) (x y z : Int32) (Q : Nat → mT) (Z : Nat → fM) (hp : p < 2) (hh : h = 159 ∨ h = 161) (hm : m < 6) (hl : lim ≤ 1000) (hz : zSol Q Z m) (hS : St0 G) (hP : hldP G p Q) : am_Ok w jM_play d (0, 0) [.inr (some 109), .inr (some (2 + 50 * p)), .inl (nI m), .inl (nI lim), .inl x, .inl y, .inl z, .inr (some h)] G (fun r G' => r = none ∧ (∃ t', cX p h G' (xRun Q lim (xIni Q m x y z)) t' false) ∧ oW h G G' ∧ St0 G') := by
  refine am_ok_of rfl (Nat.le_of_ble_eq_true rfl) ?_
  show am_Go w jM_play d (0, 0) 0 [some (.inr (some 109)), some (.inr (some (2 + 50 * p))), some (.inl (nI m)), some (.inl (nI lim)), some (.inl x), some (.inl y), some (.inl z), some (.inr (some h)), none, none] [] G _
  have k9 := hS.s sh_109
  have hv : ∀ a, a < 6 → mV (Q a) := fun a ha => (hP a ha).2.2.1
  refine go_aload_n dM_play_0 rfl rfl ?_
  refine go_aload_n dM_play_1 rfl rfl ?_
  refine go_putR dM_play_2 fpM_28 rfl (by assumption) ?_
  refine go_aload_n dM_play_5 rfl rfl ?_
  refine go_aload dM_play_6 rfl ?_
  refine go_putR dM_play_8 fpM_32 rfl (by assumption) ?_
  have S2 : St0 (am_wr (am_wr G 109 4 (some (2 + 50 * p))) 109 5 (some h)) := (hS.w4 (by decide)).w4 (by decide)
  have q4 : (am_wr (am_wr G 109 4 (some (2 + 50 * p))) 109 5 (some h)).2.2 109 4 = some (2 + 50 * p) := by
    show va_up (va_up G.2.2 109 (va_up (G.2.2 109) 4 (some (2 + 50 * p)))) 109 (va_up (va_up G.2.2 109 (va_up (G.2.2 109) 4 (some (2 + 50 * p))) 109) 5 (some h)) 109 4 = _
    rw [am_up_eq, am_up_ne (by decide), am_up_eq, am_up_eq]
  have q5 : (am_wr (am_wr G 109 4 (some (2 + 50 * p))) 109 5 (some h)).2.2 109 5 = some h := by
    show va_up (va_up G.2.2 109 (va_up (G.2.2 109) 4 (some (2 + 50 * p)))) 109 (va_up (va_up G.2.2 109 (va_up (G.2.2 109) 4 (some (2 + 50 * p))) 109) 5 (some h)) 109 5 = _
    rw [am_up_eq, am_up_eq]
  have o2 : oW h G (am_wr (am_wr G 109 4 (some (2 + 50 * p))) 109 5 (some h)) := ⟨rfl, fun _ _ => rfl, fun i hi => by
    show va_up (va_up G.2.2 109 (va_up (G.2.2 109) 4 (some (2 + 50 * p)))) 109 (va_up (va_up G.2.2 109 (va_up (G.2.2 109) 4 (some (2 + 50 * p))) 109) 5 (some h)) i = _
    rw [am_up_ne hi, am_up_ne hi]⟩
  have hP2 : hldP (am_wr (am_wr G 109 4 (some (2 + 50 * p))) 109 5 (some h)) p Q := fun a ha => ⟨S2.m (mo_l p hp a ha), (hP a ha).2.1, (hP a ha).2.2.1, (hP a ha).2.2.2⟩
  refine go_gen (fun G2 hG2 => ?_)
  rw [← hG2] at S2 q4 q5 o2 hP2
  clear hG2
  have hS := S2
  obtain ⟨k9, k10, k11, k12, k13, kh, kh1, g0, g1, g2, g3, gh⟩ := hS.cq hh
  refine go_aload_n dM_play_11 rfl rfl ?_
  refine go_getO dM_play_12 flM_32 rfl (by assumption) (by assumption) ?_
  refine go_cV (k' := (0, 0)) dM_play_15 _ csM_36 (by assumption) rfl imL_clear seL_clear rfl (okL_clear (d := 0) w G2 h hh hS) (by omega) (by decide) (Nat.le_of_ble_eq_true rfl) (fun r G1 hr hn => ?_)
  obtain ⟨rfl, hG⟩ := hr
  rw [hG]
  clear hG hn
  refine go_aload_n dM_play_18 rfl rfl ?_
  refine go_iconst (nI 0) (by decide) dM_play_19 ?_
  refine go_putI dM_play_20 fpM_41 rfl (by assumption) ?_
  refine go_aload_n dM_play_23 rfl rfl ?_
  refine go_iconst (nI 0) (by decide) dM_play_24 ?_
  refine go_putI dM_play_25 fpM_45 rfl (by assumption) ?_
  refine go_aload_n dM_play_28 rfl rfl ?_
  refine go_iconst (nI 0) (by decide) dM_play_29 ?_
  refine go_putI dM_play_30 fpM_48 rfl (by assumption) ?_
  have XI : cX p h (am_wi (am_wi (am_wi (L_clr G2 h) 109 6 (nI 0)) 109 7 (nI 0)) 109 8 (nI 0)) x0 0 true := cX.ini q4 q5 hh
  have lw : ∀ {X : am_G} {k : Nat} {v : Int32}, oM h X (am_wi X h k v) := oM.l
  have mw : ∀ {X : am_G} {k : Nat} {v : Int32}, oM h X (am_wi X 109 k v) := oM.w ⟨by decide, by decide⟩
  have oI : oM h G2 (am_wi (am_wi (am_wi (L_clr G2 h) 109 6 (nI 0)) 109 7 (nI 0)) 109 8 (nI 0)) := (((((((lw.tr lw).tr lw).tr lw).tr lw).tr lw).tr lw).tr (mw.tr mw)).tr mw
  refine go_gen (fun G3 hG3 => ?_)
  rw [← hG3] at XI oI
  clear hG3
  have hS := oI.St hS
  have k9 := hS.s sh_109
  have hP3 := hP2.m hp hh oI
  refine go_aload_n dM_play_33 rfl rfl ?_
  refine go_iload_n dM_play_34 rfl rfl ?_
  refine go_cV (k' := (0, 0)) dM_play_35 _ csM_51 (by assumption) rfl imM_openFrame seM_openFrame rfl (okM_openFrame (d := 1) w (by decide) G3 p h 0 m x0 Q (fun _ => (0, 0, 0, 0, (fun _ => nI 0), fun _ => none)) (fun _ => none) hp hm (by decide) (by decide) (by decide) hS XI hP3 (fun i hi => absurd hi (Nat.not_lt_zero i)) (fun _ _ _ e => by cases e)) (by omega) (by decide) (Nat.le_of_ble_eq_true rfl) (fun r G1 hr hn => ?_)
  obtain ⟨rfl, X1, o4⟩ := hr
  have hS := o4.St hS
  obtain ⟨f0, f1, f2, f3, f4, f5⟩ := hS.fq (i := xN x0) (by decide)
  refine go_astore dM_play_38 (Nat.le_of_ble_eq_true rfl) ?_
  refine go_aload dM_play_40 rfl ?_
  refine go_getO dM_play_42 flM_55 rfl (by assumption) (by assumption) ?_
  refine go_iconst (nI 0) (by decide) dM_play_45 ?_
  refine go_iload dM_play_46 rfl ?_
  refine go_iastoreN (by assumption) (by omega) (by decide) dM_play_48 ?_
  refine go_aload dM_play_49 rfl ?_
  refine go_getO dM_play_51 flM_55 rfl (by assumption) (by assumption) ?_
  refine go_iconst (nI 1) (by decide) dM_play_54 ?_
  refine go_iload dM_play_55 rfl ?_
  refine go_iastoreN (by assumption) (by omega) (by decide) dM_play_57 ?_
  refine go_aload dM_play_58 rfl ?_
  refine go_getO dM_play_60 flM_55 rfl (by assumption) (by assumption) ?_
  refine go_iconst (nI 2) (by decide) dM_play_63 ?_
  refine go_iload dM_play_64 rfl ?_
  refine go_iastoreN (by assumption) (by omega) (by decide) dM_play_66 ?_
  have X2 := X1.iV (x := x) (y := y) (z := z) (hv m hm).2.2.1
  have o5 : oM h G1 (am_wi (am_wi (am_wi G1 115 0 x) 115 1 y) 115 2 z) := ((oM.w ⟨by decide, by decide⟩).tr (oM.w ⟨by decide, by decide⟩)).tr (oM.w ⟨by decide, by decide⟩)
  refine go_gen (fun G5 hG5 => ?_)
  have hG5 : G5 = am_wi (am_wi (am_wi G1 115 0 x) 115 1 y) 115 2 z := hG5
  rw [← hG5] at X2 o5
  clear hG5
  refine go_iload_n dM_play_67 rfl rfl ?_
  refine go_istore dM_play_68 (Nat.le_of_ble_eq_true rfl) ?_
  have X2 : cX p h G5 (xIni Q m x y z) 0 false := X2
  have oA := (oI.tr o4).tr o5
  refine go_post (M_pl w hd G5 p h m Q Z _ _ _ _ _ _ _ _ hp hh hv hz lim (xIni Q m x y z) 0 G5 (by have := (ini_inv (Q := Q) (Z := Z) x y z hm hz).2; omega) (ini_inv x y z hm hz).1 (fun _ => rfl) (o5.St hS) X2 ((hP3.m hp hh o4).m hp hh o5) oM.rf) (fun r6 G6 q => ?_)
  obtain ⟨r7, ⟨t2, X7⟩, o7⟩ := q
  have oB := oA.tr o7
  exact ⟨r7, ⟨t2, X7⟩, ⟨oB.1.trans o2.1, fun i hi => (oB.2.2 i hi).trans (o2.2.1 i hi), fun i hi => by rw [oB.2.1]; exact o2.2.2 i hi⟩, oB.St S2⟩
