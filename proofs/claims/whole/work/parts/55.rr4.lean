section Xo
variable {Q : Nat → mT} {s : xT} {u : Nat} {A B : Int32}
theorem xd_10 (h : ¬ uTop (xC s) = nI 0) : xDo Q s 10 A B = xOn s (uPush (uPop (uPop (xC s))) (uTop (uPop (xC s)) / uTop (xC s))) := if_neg h
theorem xd_10z (h : uTop (xC s) = nI 0) : xDo Q s 10 A B = xNew (xSet s (uPop (uPop (xC s)))) 1 := if_pos h
theorem xd_15z (hu : uTop (xC s) = nI 0) : xDo Q s 15 A B = xNew (xSet s (uPop (xC s))) 2 := xObj_0 hu
theorem xd_16z (hu : uTop (uPop (xC s)) = nI 0) : xDo Q s 16 A B = xNew (xSet s (uPop (uPop (xC s)))) 2 := xObj_0 hu
theorem xd_18z (hu : uTop (xC s) = nI 0) : xDo Q s 18 A B = xNew (xSet s (uPop (xC s))) 2 := xObj_0 hu
theorem xd_19z (hu : uTop (xC s) = nI 0) : xDo Q s 19 A B = xNew (xSet s (uPop (xC s))) 2 := xObj_0 hu
theorem xd_20z (hu : uTop (xC s) = nI 0) : xDo Q s 20 A B = xNew (xSet s (uPop (xC s))) 2 := xObj_0 hu
theorem xd_26z (hu : uTop (xC s) = nI 0) : xDo Q s 26 A B = xNew (xSet s (uPop (xC s))) 2 := xObj_0 hu
theorem cl_u {v : Int32} (hu : v = nI u) (h2 : u ≤ 1000) : v.toNatClampNeg = u := by rw [hu]; exact nI_clamp (by omega)
theorem xd_15 (hu : uTop (xC s) = nI u) (h1 : 1 ≤ u) (h2 : u ≤ 1000) : xDo Q s 15 A B = xOn s (uPush (uPop (xC s)) (xI s u)) := by
  show xObj (xSet s (uPop (xC s))) (uTop (xC s)) (xOn s (uPush (uPop (xC s)) (xI s (uTop (xC s)).toNatClampNeg))) = _
  rw [xObj_1 hu h1 h2, cl_u hu h2]
theorem xd_26 (hu : uTop (xC s) = nI u) (h1 : 1 ≤ u) (h2 : u ≤ 1000) : xDo Q s 26 A B = xOn s (uPush (uPop (xC s)) (nI (xY s u))) := by
  show xObj (xSet s (uPop (xC s))) (uTop (xC s)) (xOn s (uPush (uPop (xC s)) (nI (xY s (uTop (xC s)).toNatClampNeg)))) = _
  rw [xObj_1 hu h1 h2, cl_u hu h2]
theorem xd_16 (hu : uTop (uPop (xC s)) = nI u) (h1 : 1 ≤ u) (h2 : u ≤ 1000) : xDo Q s 16 A B = xOn (xItem s u (uTop (xC s))) (uPop (uPop (xC s))) := by
  show xObj (xSet s (uPop (uPop (xC s)))) (uTop (uPop (xC s))) (xOn (xItem s (uTop (uPop (xC s))).toNatClampNeg (uTop (xC s))) (uPop (uPop (xC s)))) = _
  rw [xObj_1 hu h1 h2, cl_u hu h2]
theorem xd_18 (hu : uTop (xC s) = nI u) (h1 : 1 ≤ u) (h2 : u ≤ 1000) : xDo Q s 18 A B = xOn (xTell (xHeld s (xH s + 1) (va_up (xE s) (xH s) u)) (nI u) 2) (uPop (xC s)) := by
  show xObj (xSet s (uPop (xC s))) (uTop (xC s)) (xOn (xTell (xHeld s (xH s + 1) (va_up (xE s) (xH s) (uTop (xC s)).toNatClampNeg)) (uTop (xC s)) 2) (uPop (xC s))) = _
  rw [xObj_1 hu h1 h2, cl_u hu h2, hu]
theorem xd_19 (hu : uTop (xC s) = nI u) (h1 : 1 ≤ u) (h2 : u ≤ 1000) : xDo Q s 19 A B = xLeave s (uPop (xC s)) u := by
  show xObj (xSet s (uPop (xC s))) (uTop (xC s)) (xLeave s (uPop (xC s)) (uTop (xC s)).toNatClampNeg) = _
  rw [xObj_1 hu h1 h2, cl_u hu h2]
theorem xd_20 (hu : uTop (xC s) = nI u) (h1 : 1 ≤ u) (h2 : u ≤ 1000) : xDo Q s 20 A B = (xTell (xSet s (uPop (xC s))) (nI (xY s u)) 4, u) := by
  show xObj (xSet s (uPop (xC s))) (uTop (xC s)) (xTell (xSet s (uPop (xC s))) (nI (xY s (uTop (xC s)).toNatClampNeg)) 4, (uTop (xC s)).toNatClampNeg) = _
  rw [xObj_1 hu h1 h2, cl_u hu h2]
theorem xd_21y (ha : u < 6) (h : xN s = 12) : xDo Q s 21 (nI u) B = xNew s 4 := by rw [xd_21 ha, if_pos h]
theorem xd_21n (ha : u < 6) (h : ¬ xN s = 12) : xDo Q s 21 (nI u) B = (xCall Q s u, 0) := by rw [xd_21 ha, if_neg h]
end Xo
theorem sf_12 : am_sf 0 12 = nI 2 := by decide +kernel
theorem mV.nw {M : mT} {p : Nat} (hv : mV M) (hp : p < mN M) (h : mO M p = 14) : mA M p = nI (aN M p) ∧ aN M p < 8 := by
  have := hv.a (k := 7) hp (by decide) (sf_loc _ (hv.2.2.2.1 p hp).1 (by omega))
  exact ⟨this.1, by have := this.2; omega⟩
theorem mV.iff {M : mT} {p : Nat} (hv : mV M) (hp : p < mN M) (h : mO M p = 12) : mA M p = nI 0 ∨ mA M p = nI 1 ∨ mA M p = nI 2 := by
  obtain ⟨h1, h2⟩ := hv.a (k := 2) hp (by decide) (by rw [h]; exact sf_12)
  rw [h1]
  rcases (show aN M p = 0 ∨ aN M p = 1 ∨ aN M p = 2 by omega) with e | e | e <;> rw [e]
  · exact Or.inl rfl
  · exact Or.inr (Or.inl rfl)
  · exact Or.inr (Or.inr rfl)
theorem xInv.bd {Q : Nat → mT} {Z : Nat → fM} {m : Nat} {s : xT} (h : xInv Q Z m s) (hl : lD s.1 < 1000) : rBd (xTick s) := by
  obtain ⟨-, n1, n2, n3, n4, n5⟩ := h
  refine ⟨?_, ?_, ?_, n4⟩
  · show lM s.1 + xH s + 1 ≤ 1000; omega
  · show lNn s.1 + xH s ≤ 70000; omega
  · show lH s.1 ≤ 1000; omega
/-- what a run gives -/
def xRes (t : xT) : Int32 := match xO t with
  | none => -5
  | some e => nI e
theorem xRes_n {t : xT} (h : xO t = none) : xRes t = -5 := by unfold xRes; rw [h]
theorem xRes_s {t : xT} {e : Nat} (h : xO t = some e) : xRes t = nI e := by unfold xRes; rw [h]
theorem xRun_e {Q : Nat → mT} {s : xT} {e : Nat} (h : xO s = some e) : ∀ n, xRun Q n s = s
  | 0 => rfl
  | n + 1 => by
    show (if xO s = none then xRun Q n (xAft Q (xIns Q (xTick s))) else s) = s
    rw [if_neg (by rw [h]; exact Option.some_ne_none e)]
theorem xRun_s {Q : Nat → mT} {s : xT} {n : Nat} (h : xO s = none) : xRun Q (n + 1) s = xRun Q n (xAft Q (xIns Q (xTick s))) := if_pos h

theorem okR_step (w : am_W) {d : Nat} (hd : 7 ≤ d) (G : am_G) (p m : Nat) (s : xT) (Q : Nat → mT) (Z : Nat → fM) (hp : p < 2) (hv : ∀ a, a < 6 → mV (Q a)) (hz : zSol Q Z m) (hb : tB Q Z m s) (hN : 1 ≤ xN s) (hc : tyR Q Z m (lM s.1) (xC s)) (hB : rBd s) (hS : St0 G) (h : xR p G s) (hR : hldR G p Q) (hg : xGd (gP Q) (Q (uM (xC s))) (lM s.1) (xC s) (mO (Q (uM (xC s))) (uP (xC s))) (aN (Q (uM (xC s))) (uP (xC s)))) : am_Ok w jR_step d (0, 0) [.inr (some 163)] G (fun r G' => r = none ∧ xR p G' (xAft Q (xIns Q s)) ∧ oX G G') := by
  obtain ⟨t1, -, t3, t4, -⟩ := id hc
  have hm := hv _ t1
  have hn6 := hm.1
  have h28 := (hm.2.2.2.1 _ t3).1
  have h12 := hb.2.2.1
  have nM1 := hB.1
  have dd : mO (Q (uM (xC s))) (uP (xC s)) = 0 ∨ mO (Q (uM (xC s))) (uP (xC s)) = 1 ∨ mO (Q (uM (xC s))) (uP (xC s)) = 2 ∨ mO (Q (uM (xC s))) (uP (xC s)) = 3 ∨ mO (Q (uM (xC s))) (uP (xC s)) = 4 ∨ mO (Q (uM (xC s))) (uP (xC s)) = 5 ∨ mO (Q (uM (xC s))) (uP (xC s)) = 6 ∨ mO (Q (uM (xC s))) (uP (xC s)) = 7 ∨ mO (Q (uM (xC s))) (uP (xC s)) = 8 ∨ mO (Q (uM (xC s))) (uP (xC s)) = 9 ∨ mO (Q (uM (xC s))) (uP (xC s)) = 10 ∨ mO (Q (uM (xC s))) (uP (xC s)) = 11 ∨ mO (Q (uM (xC s))) (uP (xC s)) = 12 ∨ mO (Q (uM (xC s))) (uP (xC s)) = 13 ∨ mO (Q (uM (xC s))) (uP (xC s)) = 14 ∨ mO (Q (uM (xC s))) (uP (xC s)) = 15 ∨ mO (Q (uM (xC s))) (uP (xC s)) = 16 ∨ mO (Q (uM (xC s))) (uP (xC s)) = 17 ∨ mO (Q (uM (xC s))) (uP (xC s)) = 18 ∨ mO (Q (uM (xC s))) (uP (xC s)) = 19 ∨ mO (Q (uM (xC s))) (uP (xC s)) = 20 ∨ mO (Q (uM (xC s))) (uP (xC s)) = 21 ∨ mO (Q (uM (xC s))) (uP (xC s)) = 22 ∨ mO (Q (uM (xC s))) (uP (xC s)) = 23 ∨ mO (Q (uM (xC s))) (uP (xC s)) = 24 ∨ mO (Q (uM (xC s))) (uP (xC s)) = 25 ∨ mO (Q (uM (xC s))) (uP (xC s)) = 26 ∨ mO (Q (uM (xC s))) (uP (xC s)) = 27 := by omega
  rcases dd with e | e | e | e | e | e | e | e | e | e | e | e | e | e | e | e | e | e | e | e | e | e | e | e | e | e | e | e
  · rw [xIns_op e rfl rfl, show xDo Q s 0 (mA (Q (uM (xC s))) (uP (xC s))) (mB (Q (uM (xC s))) (uP (xC s))) = (xSet s (uGo (xC s) (uP (xC s) + 1)), 0) from rfl, xAft_0]
    exact okR_st0 w (by omega) G p m s Q Z hp hv hz hb hN hc hB hS h hR e
  · rw [e] at hg
    rw [xIns_op e rfl rfl, show xDo Q s 1 (mA (Q (uM (xC s))) (uP (xC s))) (mB (Q (uM (xC s))) (uP (xC s))) = (xSet s (uGo (uPush (xC s) (mA (Q (uM (xC s))) (uP (xC s)))) (uP (xC s) + 1)), 0) from rfl, xAft_0]
    exact okR_st1 w (by omega) G p m s Q Z hp hv hz hb hN hc hB hS h hR e hg
  · rw [e] at hg
    obtain ⟨eA, ha⟩ := hm.loc t3 (by omega)
    rw [xIns_op e eA rfl, xd_2 ha]
    unfold xOn
    rw [xAft_0]
    exact okR_st2 w (by omega) G p m s Q Z hp hv hz hb hN hc hB hS h hR e _ eA ha hg.1 hg.2
  · rw [e] at hg
    obtain ⟨eA, ha⟩ := hm.loc t3 (by omega)
    rw [xIns_op e eA rfl, xd_3 ha]
    unfold xOn
    rw [xAft_0]
    exact okR_st3 w (by omega) G p m s Q Z hp hv hz hb hN hc hB hS h hR e _ eA ha hg
  · rw [e] at hg
    rw [xIns_op e rfl rfl, show xDo Q s 4 (mA (Q (uM (xC s))) (uP (xC s))) (mB (Q (uM (xC s))) (uP (xC s))) = (xSet s (uGo (uPop (xC s)) (uP (xC s) + 1)), 0) from rfl, xAft_0]
    exact okR_st4 w (by omega) G p m s Q Z hp hv hz hb hN hc hB hS h hR e hg
  · rw [e] at hg
    rw [xIns_op e rfl rfl, show xDo Q s 5 (mA (Q (uM (xC s))) (uP (xC s))) (mB (Q (uM (xC s))) (uP (xC s))) = (xSet s (uGo (uPush (uPush (uPop (xC s)) (uTop (xC s))) (uTop (xC s))) (uP (xC s) + 1)), 0) from rfl, xAft_0]
    exact okR_st5 w (by omega) G p m s Q Z hp hv hz hb hN hc hB hS h hR e hg.1 hg.2
  · rw [e] at hg
    rw [xIns_op e rfl rfl, show xDo Q s 6 (mA (Q (uM (xC s))) (uP (xC s))) (mB (Q (uM (xC s))) (uP (xC s))) = (xSet s (uGo (uPush (uPush (uPop (uPop (xC s))) (uTop (xC s))) (uTop (uPop (xC s)))) (uP (xC s) + 1)), 0) from rfl, xAft_0]
    exact okR_st6 w (by omega) G p m s Q Z hp hv hz hb hN hc hB hS h hR e hg
  · rw [e] at hg
    rw [xIns_op e rfl rfl, show xDo Q s 7 (mA (Q (uM (xC s))) (uP (xC s))) (mB (Q (uM (xC s))) (uP (xC s))) = (xSet s (uGo (uPush (uPop (uPop (xC s))) (uTop (uPop (xC s)) + uTop (xC s))) (uP (xC s) + 1)), 0) from rfl, xAft_0]
    exact okR_st7 w (by omega) G p m s Q Z hp hv hz hb hN hc hB hS h hR e hg
  · rw [e] at hg
    rw [xIns_op e rfl rfl, show xDo Q s 8 (mA (Q (uM (xC s))) (uP (xC s))) (mB (Q (uM (xC s))) (uP (xC s))) = (xSet s (uGo (uPush (uPop (uPop (xC s))) (uTop (uPop (xC s)) - uTop (xC s))) (uP (xC s) + 1)), 0) from rfl, xAft_0]
    exact okR_st8 w (by omega) G p m s Q Z hp hv hz hb hN hc hB hS h hR e hg
  · rw [e] at hg
    rw [xIns_op e rfl rfl, show xDo Q s 9 (mA (Q (uM (xC s))) (uP (xC s))) (mB (Q (uM (xC s))) (uP (xC s))) = (xSet s (uGo (uPush (uPop (uPop (xC s))) (uTop (uPop (xC s)) * uTop (xC s))) (uP (xC s) + 1)), 0) from rfl, xAft_0]
    exact okR_st9 w (by omega) G p m s Q Z hp hv hz hb hN hc hB hS h hR e hg
  · rw [e] at hg
    by_cases hy : uTop (xC s) = nI 0
    · rw [xIns_op e rfl rfl, xd_10z hy]
      exact okR_st10z w (by omega) G p m s Q Z hp hv hz hb hN hc hB hS h hR e hg hy
    · rw [xIns_op e rfl rfl, xd_10 hy]
      unfold xOn
      rw [xAft_0]
      exact okR_st10 w (by omega) G p m s Q Z hp hv hz hb hN hc hB hS h hR e hg hy
  · rw [e] at hg
    obtain ⟨eB, hb6⟩ := hm.jmp t3 (by omega)
    rw [xIns_op e rfl eB, xd_11 hb6, xAft_0]
    exact okR_st11 w (by omega) G p m s Q Z hp hv hz hb hN hc hB hS h hR e _ eB
  · rw [e] at hg
    obtain ⟨eB, hb6⟩ := hm.jmp t3 (by omega)
    rcases hm.iff t3 e with eA | eA | eA
    · rw [xIns_op e eA eB, xd_12 hb6, xAft_0]
      exact okR_st12_0 w (by omega) G p m s Q Z hp hv hz hb hN hc hB hS h hR e _ eB eA hg
    · rw [xIns_op e eA eB, xd_12 hb6, xAft_0]
      exact okR_st12_1 w (by omega) G p m s Q Z hp hv hz hb hN hc hB hS h hR e _ eB eA hg
    · rw [xIns_op e eA eB, xd_12 hb6, xAft_0]
      exact okR_st12_2 w (by omega) G p m s Q Z hp hv hz hb hN hc hB hS h hR e _ eB eA hg
  · rw [e] at hg
    rw [xIns_op e rfl rfl, show xDo Q s 13 (mA (Q (uM (xC s))) (uP (xC s))) (mB (Q (uM (xC s))) (uP (xC s))) = (xSet s (uGo (uPush (xC s) (nI 0)) (uP (xC s) + 1)), 0) from rfl, xAft_0]
    exact okR_st13 w (by omega) G p m s Q Z hp hv hz hb hN hc hB hS h hR e hg
  · rw [e] at hg
    obtain ⟨eA, ha⟩ := hm.nw t3 e
    rw [xIns_op e eA rfl, xd_14 ha]
    unfold xOn
    rw [xAft_0]
    exact okR_st14 w (by omega) G p m s Q Z hp hv hz hb hN hc hB hS h hR e _ eA hg
  · rw [e] at hg
    obtain ⟨hD, u, u1, u2⟩ := hg
    rcases Nat.eq_zero_or_pos u with e0 | h1
    · rw [e0] at u2
      rw [xIns_op e rfl rfl, xd_15z u2]
      exact okR_st15z w (by omega) G p m s Q Z hp hv hz hb hN hc hB hS h hR e u2 hD
    · rw [xIns_op e rfl rfl, xd_15 u2 h1 (by omega)]
      unfold xOn
      rw [xAft_0]
      exact okR_st15 w (by omega) G p m s Q Z hp hv hz hb hN hc hB hS h hR e u u2 h1 u1 hD
  · rw [e] at hg
    obtain ⟨hD, u, u1, u2⟩ := hg
    rcases Nat.eq_zero_or_pos u with e0 | h1
    · rw [e0] at u2
      rw [xIns_op e rfl rfl, xd_16z u2]
      exact okR_st16z w (by omega) G p m s Q Z hp hv hz hb hN hc hB hS h hR e u2 hD
    · rw [xIns_op e rfl rfl, xd_16 u2 h1 (by omega)]
      unfold xOn
      rw [xAft_0]
      exact okR_st16 w (by omega) G p m s Q Z hp hv hz hb hN hc hB hS h hR e u u2 h1 u1 hD
  · rw [e] at hg
    obtain ⟨eB, hb6⟩ := hm.jmp t3 (by omega)
    rw [xIns_op e rfl eB, xd_17 hb6, xAft_0]
    exact okR_st17 w (by omega) G p m s Q Z hp hv hz hb hN hc hB hS h hR e _ eB hg
  · rw [e] at hg
    obtain ⟨hD, u, u1, u2⟩ := hg
    rcases Nat.eq_zero_or_pos u with e0 | h1
    · rw [e0] at u2
      rw [xIns_op e rfl rfl, xd_18z u2]
      exact okR_st18z w (by omega) G p m s Q Z hp hv hz hb hN hc hB hS h hR e u2 hD
    · rw [xIns_op e rfl rfl, xd_18 u2 h1 (by omega)]
      unfold xOn
      rw [xAft_0]
      exact okR_st18 w (by omega) G p m s Q Z hp hv hz hb hN hc hB hS h hR e u u2 h1 u1 hD
  · rw [e] at hg
    obtain ⟨hD, u, u1, u2⟩ := hg
    rcases Nat.eq_zero_or_pos u with e0 | h1
    · rw [e0] at u2
      rw [xIns_op e rfl rfl, xd_19z u2]
      exact okR_st19z w (by omega) G p m s Q Z hp hv hz hb hN hc hB hS h hR e u2 hD
    · rw [xIns_op e rfl rfl, xd_19 u2 h1 (by omega)]
      exact okR_st19 w (by omega) G p m s Q Z hp hv hz hb hN hc hB hS h hR e u u2 h1 u1 hD
  · rw [e] at hg
    obtain ⟨hD, u, u1, u2⟩ := hg
    rcases Nat.eq_zero_or_pos u with e0 | h1
    · rw [e0] at u2
      rw [xIns_op e rfl rfl, xd_20z u2]
      exact okR_st20z w (by omega) G p m s Q Z hp hv hz hb hN hc hB hS h hR e u2 hD
    · rw [xIns_op e rfl rfl, xd_20 u2 h1 (by omega)]
      exact okR_st20 w (by omega) G p m s Q Z hp hv hz hb hN hc hB hS h hR e u u2 h1 u1 hD
  · rw [e] at hg
    obtain ⟨eA, ha⟩ := hm.call t3 e
    by_cases h2 : xN s = 12
    · rw [xIns_op e eA rfl, xd_21y ha h2]
      exact okR_st21z w (by omega) G p m s Q Z hp hv hz hb hN hc hB hS h hR e _ eA ha hg h2
    · rw [xIns_op e eA rfl, xd_21n ha h2, xAft_0]
      exact okR_st21 w (by omega) G p m s Q Z hp hv hz hb hN hc hB hS h hR e _ eA ha hg (by omega)
  · rw [e] at hg
    rw [xIns_op e rfl rfl]
    exact okR_st22 w (by omega) G p m s Q Z hp hv hz hb hN hc hB hS h hR e hg
  · rw [e] at hg
    obtain ⟨eB, hb6⟩ := hm.jmp t3 (by omega)
    rw [xIns_op e rfl eB, xd_23 hb6, xAft_0]
    exact okR_st23 w (by omega) G p m s Q Z hp hv hz hb hN hc hB hS h hR e _ eB hg
  · rw [e] at hg
    obtain ⟨eA, ha⟩ := hm.loc t3 (by omega)
    obtain ⟨hl, j, j1, j2⟩ := hg
    rw [xIns_op e eA rfl, xd_24 ha (show j < 61 by omega) j2, xAft_0]
    exact okR_st24 w (by omega) G p m s Q Z hp hv hz hb hN hc hB hS h hR e _ eA j ha hl j2
  · rw [e] at hg
    rw [xIns_op e rfl rfl, show xDo Q s 25 (mA (Q (uM (xC s))) (uP (xC s))) (mB (Q (uM (xC s))) (uP (xC s))) = (xSet (xTell s (uTop (xC s) &&& nI 65535) 0) (uGo (uPop (xC s)) (uP (xC s) + 1)), 0) from rfl, xAft_0]
    exact okR_st25 w (by omega) G p m s Q Z hp hv hz hb hN hc hB hS h hR e hg
  · rw [e] at hg
    obtain ⟨hD, u, u1, u2⟩ := hg
    rcases Nat.eq_zero_or_pos u with e0 | h1
    · rw [e0] at u2
      rw [xIns_op e rfl rfl, xd_26z u2]
      exact okR_st26z w (by omega) G p m s Q Z hp hv hz hb hN hc hB hS h hR e u2 hD
    · rw [xIns_op e rfl rfl, xd_26 u2 h1 (by omega)]
      unfold xOn
      rw [xAft_0]
      exact okR_st26 w (by omega) G p m s Q Z hp hv hz hb hN hc hB hS h hR e u u2 h1 u1 hD
  · rw [e] at hg
    obtain ⟨eA, ha⟩ := hm.loc t3 (by omega)
    rw [xIns_op e eA rfl, xd_27 ha]
    unfold xOn
    rw [xAft_0]
    exact okR_st27 w (by omega) G p m s Q Z hp hv hz hb hN hc hB hS h hR e _ eA ha hg
set_option maxRecDepth 100000 in
theorem R_gl (w : am_W) {d : Nat} (hd : 8 ≤ d) (G0 : am_G) (p m lim : Nat) (Q : Nat → mT) (Z : Nat → fM) (l1 l3 l4 l5 : Option am_V) (hp : p < 2) (hv : ∀ a, a < 6 → mV (Q a)) (hz : zSol Q Z m) (hl : lim ≤ 1000) :
    ∀ (n : Nat) (s : xT) (G : am_G), lD s.1 + n = lim → xInv Q Z m s → St0 G → xR p G s → hldR G p Q → oX G0 G → am_Go w jR_go d (0, 0) 73 [some (.inr (some 163)), l1, some (.inl (nI lim)), l3, l4, l5] [] G (fun r G' => r = some (.inl (xRes (xRun Q n s))) ∧ xR p G' (xRun Q n s) ∧ oX G0 G') := by
  intro n
  induction n with
  | zero =>
    intro s G hn hI hS h hR ho
    have dn := h.dn
    cases hO : xO s with
    | some e =>
      obtain ⟨g1, g2⟩ := h.2.2.2.2.2.2.2 e hO
      rw [xRun_e hO, xRes_s hO]
      refine go_aload_n dR_go_73 rfl rfl ?_
      refine go_getV dR_go_74 flR_222 rfl (hS.s sh_163) (by first | assumption | (simp (disch := omega) only [wi_I, ro_I, wi_In, wi_Is]; done) | (simp (disch := omega) only [wi_I, ro_I, wi_In, wi_Is]; first | assumption | rfl) | rfl) ?_
      refine go_if_neB dR_go_77 (tgt := 108) (by decide) (fun c1 => ?_) (fun c1 => absurd c1 (by decide))
      refine go_aload_n dR_go_108 rfl rfl ?_
      refine go_getV dR_go_109 flR_225 rfl (hS.s sh_163) (by first | assumption | (simp (disch := omega) only [wi_I, ro_I, wi_In, wi_Is]; done) | (simp (disch := omega) only [wi_I, ro_I, wi_In, wi_Is]; first | assumption | rfl) | rfl) ?_
      refine go_ireturn rfl dR_go_112 ?_
      exact ⟨rfl, h, ho⟩
    | none =>
      have g1 := h.2.2.2.2.2.2.1 hO
      rw [show xRun Q 0 s = s from rfl, xRes_n hO]
      refine go_aload_n dR_go_73 rfl rfl ?_
      refine go_getV dR_go_74 flR_222 rfl (hS.s sh_163) (by first | assumption | (simp (disch := omega) only [wi_I, ro_I, wi_In, wi_Is]; done) | (simp (disch := omega) only [wi_I, ro_I, wi_In, wi_Is]; first | assumption | rfl) | rfl) ?_
      refine go_if_neB dR_go_77 (tgt := 108) (by decide) (fun c1 => absurd c1 (by decide)) (fun c1 => ?_)
      refine go_aload_n dR_go_80 rfl rfl ?_
      refine go_getV dR_go_81 flR_264 rfl (hS.s sh_163) (by first | assumption | (simp (disch := omega) only [wi_I, ro_I, wi_In, wi_Is]; done) | (simp (disch := omega) only [wi_I, ro_I, wi_In, wi_Is]; first | assumption | rfl) | rfl) ?_
      refine go_iload_n dR_go_84 rfl rfl ?_
      refine go_icmp_neN (by omega) (by omega) dR_go_85 (tgt := 91) (by decide) (fun c1 => absurd (show lD s.1 = lim by omega) c1) (fun c1 => ?_)
      refine go_bipush (-5) (by decide) dR_go_88 ?_
      refine go_ireturn rfl dR_go_90 ?_
      exact ⟨rfl, h, ho⟩
  | succ n ih =>
    intro s G hn hI hS h hR ho
    have dn := h.dn
    cases hO : xO s with
    | some e =>
      obtain ⟨g1, g2⟩ := h.2.2.2.2.2.2.2 e hO
      rw [xRun_e hO, xRes_s hO]
      refine go_aload_n dR_go_73 rfl rfl ?_
      refine go_getV dR_go_74 flR_222 rfl (hS.s sh_163) (by first | assumption | (simp (disch := omega) only [wi_I, ro_I, wi_In, wi_Is]; done) | (simp (disch := omega) only [wi_I, ro_I, wi_In, wi_Is]; first | assumption | rfl) | rfl) ?_
      refine go_if_neB dR_go_77 (tgt := 108) (by decide) (fun c1 => ?_) (fun c1 => absurd c1 (by decide))
      refine go_aload_n dR_go_108 rfl rfl ?_
      refine go_getV dR_go_109 flR_225 rfl (hS.s sh_163) (by first | assumption | (simp (disch := omega) only [wi_I, ro_I, wi_In, wi_Is]; done) | (simp (disch := omega) only [wi_I, ro_I, wi_In, wi_Is]; first | assumption | rfl) | rfl) ?_
      refine go_ireturn rfl dR_go_112 ?_
      exact ⟨rfl, h, ho⟩
    | none =>
      have g1 := h.2.2.2.2.2.2.1 hO
      rw [xRun_s hO]
      obtain ⟨k1, k2, k3⟩ := hI.ins hz hv hO (by omega)
      obtain ⟨i1, i2⟩ := hI.step hz hv hO (by omega)
      obtain ⟨b1, b2, b3⟩ := hI.1 hO
      refine go_aload_n dR_go_73 rfl rfl ?_
      refine go_getV dR_go_74 flR_222 rfl (hS.s sh_163) (by first | assumption | (simp (disch := omega) only [wi_I, ro_I, wi_In, wi_Is]; done) | (simp (disch := omega) only [wi_I, ro_I, wi_In, wi_Is]; first | assumption | rfl) | rfl) ?_
      refine go_if_neB dR_go_77 (tgt := 108) (by decide) (fun c1 => absurd c1 (by decide)) (fun c1 => ?_)
      refine go_aload_n dR_go_80 rfl rfl ?_
      refine go_getV dR_go_81 flR_264 rfl (hS.s sh_163) (by first | assumption | (simp (disch := omega) only [wi_I, ro_I, wi_In, wi_Is]; done) | (simp (disch := omega) only [wi_I, ro_I, wi_In, wi_Is]; first | assumption | rfl) | rfl) ?_
      refine go_iload_n dR_go_84 rfl rfl ?_
      refine go_icmp_neN (by omega) (by omega) dR_go_85 (tgt := 91) (by decide) (fun c1 => ?_) (fun c1 => absurd c1 (by omega))
      refine go_aload_n dR_go_91 rfl rfl ?_
      refine go_dup dR_go_92 ?_
      refine go_getV dR_go_93 flR_264 rfl (hS.s sh_163) (by first | assumption | (simp (disch := omega) only [wi_I, ro_I, wi_In, wi_Is]; done) | (simp (disch := omega) only [wi_I, ro_I, wi_In, wi_Is]; first | assumption | rfl) | rfl) ?_
      refine go_iconst (nI 1) (by decide) dR_go_96 ?_
      first | refine go_iaddN dR_go_97 ?_ | refine go_iadd dR_go_97 ?_
      refine go_putI dR_go_98 fpR_264 rfl (hS.s sh_163) ?_
      refine go_aload_n dR_go_101 rfl rfl ?_
      refine go_cV (k' := (0, 0)) (G := am_wi G 163 38 (nI (lD s.1 + 1))) dR_go_102 _ csR_267 (hS.s sh_163) rfl imR_step seR_step rfl (okR_step (d := 7) w (by decide) _ p m (xTick s) Q Z hp hv hz b1 b2 b3 (hI.bd (by omega)) (by exact hS) h.tick (hR.x (oX.w3 ⟨by decide, by decide⟩)) k3) (by omega) (by decide) (Nat.le_of_ble_eq_true rfl) (fun r G1 hr hn => ?_)
      obtain ⟨rfl, X1, o1⟩ := hr
      refine go_goto dR_go_105 (tgt := 73) (by decide) ?_
      exact ih _ G1 (by omega) i1 (o1.St (G := am_wi G 163 38 (nI (lD s.1 + 1))) hS) X1 ((hR.x (oX.w3 ⟨by decide, by decide⟩)).x o1) ((ho.tr (oX.w3 ⟨by decide, by decide⟩)).tr o1)
def R_z9 (G : am_G) : am_G := am_wi (am_wi (am_wi (am_wi (am_wi (am_wi (am_wi (am_wi (am_wi G 163 34 (nI 0)) 163 35 (nI 0)) 163 36 (nI 0)) 163 37 (nI 0)) 163 38 (nI 0)) 163 39 (nI 0)) 163 40 (nI 0)) 163 41 (nI 0)) 163 43 (am_b false)
def x0 : xT := ((nI 0, 0, 0, 0, 0, 0, fun _ => nI 0), (fun _ => 0), (fun _ => nI 0), (0, fun _ => 0), (0, (fun _ => (0, 0, 0, 0, (fun _ => nI 0), fun _ => none)), (0, 0, 0, 0, (fun _ => nI 0), fun _ => none)), none)
theorem xR.ini {p : Nat} {G : am_G} {x y z : Int32} : xR p (am_wi (am_wi (am_wi (R_z9 G) 190 0 x) 190 1 y) 190 2 z) x0 := by
  unfold R_z9
  refine ⟨⟨?_, ?_, ?_, ?_, ?_, ?_, fun i h1 h2 => absurd h1 (Nat.not_lt_zero i)⟩, ⟨?_, ?_⟩, fun o ho => absurd ho (Nat.not_lt_zero o), fun k hk => absurd hk (Nat.not_lt_zero k), fun k hk => absurd hk (Nat.not_lt_zero _), fun hk => absurd hk (Nat.not_succ_le_zero 0), fun _ => ?_, fun q hq => by cases hq⟩
  all_goals simp (disch := omega) only [wi_I, wi_In, wi_Is]
  all_goals rfl
theorem oX.ini {G : am_G} {x y z : Int32} : oX G (am_wi (am_wi (am_wi (R_z9 G) 190 0 x) 190 1 y) 190 2 z) := by
  have a : ∀ {G : am_G} {k : Nat} {v : Int32}, 34 ≤ k ∧ k ≤ 43 → oX G (am_wi G 163 k v) := fun h => oX.w3 h
  have b : ∀ {G : am_G} {k : Nat} {v : Int32}, oX G (am_wi G 190 k v) := oX.wi ⟨by decide, by decide⟩
  exact ((((((((((a (by decide)).tr (a (by decide))).tr (a (by decide))).tr (a (by decide))).tr (a (by decide))).tr (a (by decide))).tr (a (by decide))).tr (a (by decide))).tr (a (by decide))).tr b).tr b |>.tr b
theorem xIni_eq {Q : Nat → mT} {m : Nat} {x y z : Int32} : xIni Q m x y z = xOpen Q x0 m (fun _ => (0, 0, 0, 0, (fun _ => nI 0), fun _ => none)) (fun i => if i < mG (Q m) then some (if i = 0 then x else if i = 1 then y else z) else none) := rfl
theorem R_iV {G : am_G} {x y z : Int32} {n : Nat} (hn : n ≤ 3) : ∀ a, a < 8 → ∀ v, (fun i => if i < n then some (if i = 0 then x else if i = 1 then y else z) else none) a = some v → (am_wi (am_wi (am_wi G 190 0 x) 190 1 y) 190 2 z).2.1 190 (8 * xN x0 + a) = v := fun a _ v hv => by
  have hv : (if a < n then some (if a = 0 then x else if a = 1 then y else z) else none) = some v := hv
  show (am_wi (am_wi (am_wi G 190 0 x) 190 1 y) 190 2 z).2.1 190 (8 * 0 + a) = v
  split at hv
  · cases hv
    rcases (show a = 0 ∨ a = 1 ∨ a = 2 by omega) with e | e | e <;> subst e <;> simp (disch := omega) only [wi_I, wi_In, wi_Is] <;> rfl
  · cases hv
set_option maxRecDepth 100000 in
theorem okR_go (w : am_W) {d : Nat} (hd : 8 ≤ d) (G : am_G) (p m lim : Nat) (x y z : Int32) (Q : Nat → mT) (Z : Nat → fM) (hp : p < 2) (hm : m < 6) (hl : lim ≤ 1000) (hv : ∀ a, a < 6 → mV (Q a)) (hz : zSol Q Z m) (hS : St0 G) (hR : hldR G p Q) : am_Ok w jR_go d (0, 0) [.inr (some 163), .inl (nI (6 * p + m)), .inl (nI lim), .inl x, .inl y, .inl z] G (fun r G' => r = some (.inl (xRes (xRun Q lim (xIni Q m x y z)))) ∧ xR p G' (xRun Q lim (xIni Q m x y z)) ∧ oX G G') := by
  refine am_ok_of rfl (Nat.le_of_ble_eq_true rfl) ?_
  show am_Go w jR_go d (0, 0) 0 [some (.inr (some 163)), some (.inl (nI (6 * p + m))), some (.inl (nI lim)), some (.inl x), some (.inl y), some (.inl z)] [] G _
  refine go_aload_n dR_go_0 rfl rfl ?_
  refine go_iconst (nI 0) (by decide) dR_go_1 ?_
  refine go_putI dR_go_2 fpR_194 rfl (hS.s sh_163) ?_
  refine go_aload_n dR_go_5 rfl rfl ?_
  refine go_iconst (nI 0) (by decide) dR_go_6 ?_
  refine go_putI dR_go_7 fpR_203 rfl (hS.s sh_163) ?_
  refine go_aload_n dR_go_10 rfl rfl ?_
  refine go_iconst (nI 0) (by decide) dR_go_11 ?_
  refine go_putI dR_go_12 fpR_200 rfl (hS.s sh_163) ?_
  refine go_aload_n dR_go_15 rfl rfl ?_
  refine go_iconst (nI 0) (by decide) dR_go_16 ?_
  refine go_putI dR_go_17 fpR_206 rfl (hS.s sh_163) ?_
  refine go_aload_n dR_go_20 rfl rfl ?_
  refine go_iconst (nI 0) (by decide) dR_go_21 ?_
  refine go_putI dR_go_22 fpR_264 rfl (hS.s sh_163) ?_
  refine go_aload_n dR_go_25 rfl rfl ?_
  refine go_iconst (nI 0) (by decide) dR_go_26 ?_
  refine go_putI dR_go_27 fpR_191 rfl (hS.s sh_163) ?_
  refine go_aload_n dR_go_30 rfl rfl ?_
  refine go_iconst (nI 0) (by decide) dR_go_31 ?_
  refine go_putI dR_go_32 fpR_216 rfl (hS.s sh_163) ?_
  refine go_aload_n dR_go_35 rfl rfl ?_
  refine go_iconst (nI 0) (by decide) dR_go_36 ?_
  refine go_putI dR_go_37 fpR_241 rfl (hS.s sh_163) ?_
  refine go_aload_n dR_go_40 rfl rfl ?_
  refine go_iconst (am_b false) (by decide) dR_go_41 ?_
  refine go_putZ (by first | exact am_b_01 _ | exact Or.inl rfl | exact Or.inr rfl) dR_go_42 fpR_222 rfl (hS.s sh_163) ?_
  refine go_aload_n dR_go_45 rfl rfl ?_
  refine go_getO (a := 190) dR_go_46 flR_89 rfl (hS.s sh_163) (hS.r rt_fLocal) ?_
  refine go_iconst (nI 0) (by decide) dR_go_49 ?_
  refine go_iload_n dR_go_50 rfl rfl ?_
  refine go_iastoreN (hS.s sh_190) (by omega) (by decide) dR_go_51 ?_
  refine go_aload_n dR_go_52 rfl rfl ?_
  refine go_getO (a := 190) dR_go_53 flR_89 rfl (hS.s sh_163) (hS.r rt_fLocal) ?_
  refine go_iconst (nI 1) (by decide) dR_go_56 ?_
  refine go_iload dR_go_57 rfl ?_
  refine go_iastoreN (hS.s sh_190) (by omega) (by decide) dR_go_59 ?_
  refine go_aload_n dR_go_60 rfl rfl ?_
  refine go_getO (a := 190) dR_go_61 flR_89 rfl (hS.s sh_163) (hS.r rt_fLocal) ?_
  refine go_iconst (nI 2) (by decide) dR_go_64 ?_
  refine go_iload dR_go_65 rfl ?_
  refine go_iastoreN (hS.s sh_190) (by omega) (by decide) dR_go_67 ?_
  refine go_aload_n dR_go_68 rfl rfl ?_
  refine go_iload_n dR_go_69 rfl rfl ?_
  refine go_cV (k' := (0, 0)) (G := am_wi (am_wi (am_wi (R_z9 G) 190 0 x) 190 1 y) 190 2 z) dR_go_70 _ csR_238 (hS.s sh_163) rfl imR_begin seR_begin rfl (okR_begin (d := 1) w (by decide) _ p m x0 Q (fun _ => (0, 0, 0, 0, (fun _ => nI 0), fun _ => none)) (fun i => if i < mG (Q m) then some (if i = 0 then x else if i = 1 then y else z) else none) hp hm (by decide) (by decide) (by decide) (by exact hS) xR.ini (hR.x oX.ini) (fun i hi => absurd hi (Nat.not_lt_zero i)) (R_iV (hv m hm).2.2.1)) (by omega) (by decide) (Nat.le_of_ble_eq_true rfl) (fun r G1 hr hn => ?_)
  obtain ⟨rfl, X1, o1⟩ := hr
  have X1 : xR p G1 (xIni Q m x y z) := X1
  have hS := o1.St (G := am_wi (am_wi (am_wi (R_z9 G) 190 0 x) 190 1 y) 190 2 z) hS
  exact R_gl w hd G p m lim Q Z _ _ _ _ hp hv hz hl lim _ G1 (by have := (ini_inv (Q := Q) (Z := Z) x y z hm hz).2; omega) (ini_inv x y z hm hz).1 hS X1 ((hR.x oX.ini).x o1) (oX.ini.tr o1)
