theorem rM.beg {G : am_G} {q : Nat} {M : mT} {a : Nat} {c : Bool} : rM (am_wi (am_wi (am_wi (am_wi G 167 q (nI 0)) 169 q (nI 0)) 168 q (nI a)) 174 q (am_b c)) q (mBeg M a c) := by
  refine ⟨⟨?_, ?_, ?_, ?_⟩, fun i hi => absurd hi (Nat.not_lt_zero i), fun i hi => absurd hi (Nat.not_lt_zero i)⟩
  · rw [wi_I (by decide), wi_I (by decide), wi_I (by decide), wi_Is]; rfl
  · rw [wi_I (by decide), wi_I (by decide), wi_Is]; rfl
  · rw [wi_I (by decide), wi_Is]; rfl
  · rw [wi_Is]; rfl
theorem rBeg_o {G : am_G} {q : Nat} {a b c e : Int32} : oQ q G (am_wi (am_wi (am_wi (am_wi G 167 q a) 169 q b) 168 q c) 174 q e) :=
  (((oQ.wi (by omega) (Or.inr (Or.inr ⟨by omega, rfl⟩))).tr (oQ.wi (by omega) (Or.inr (Or.inr ⟨by omega, rfl⟩)))).tr (oQ.wi (by omega) (Or.inr (Or.inr ⟨by omega, rfl⟩)))).tr (oQ.wi (by omega) (Or.inr (Or.inr ⟨by omega, rfl⟩)))
theorem wi_if {G : am_G} {a q i : Nat} {x : Int32} {n : Nat} : (am_wi G a (n + q) x).2.1 a (n + i) = if i = q then x else G.2.1 a (n + i) := by
  rw [wi_at]
  by_cases h : i = q
  · rw [if_pos h, if_pos (by omega)]
  · rw [if_neg h, if_neg (by omega)]
theorem rM.set {G : am_G} {q i p : Nat} {a b : Int32} {M : mT} (hm : rM G q M) (n : Nat) (hn : ∀ x, x < n → x ≠ i → x < mN M) (G' : am_G) (hG : G' = R_setF G q i (nI p) (nA p a) (nB p b) ∨ G' = am_wi (R_setF G q i (nI p) (nA p a) (nB p b)) 167 q (nI n)) (h7 : G'.2.1 167 q = nI n) : rM G' q (mIns M n i p a b) := by
  obtain ⟨⟨g1, g2, g3, g4⟩, hc, hr⟩ := hm
  have f1 : ∀ x, x ≠ 167 → G'.2.1 x = (R_setF G q i (nI p) (nA p a) (nB p b)).2.1 x := by
    intro x hx
    rcases hG with e | e
    · rw [e]
    · rw [e, wi_I hx]
  have f0 : ∀ x, x ≠ 164 → x ≠ 165 → x ≠ 166 → (R_setF G q i (nI p) (nA p a) (nB p b)).2.1 x = G.2.1 x := fun x h1 h2 h3 => by
    unfold R_setF; rw [wi_I h3, wi_I h2, wi_I h1]
  refine ⟨⟨h7, ?_, ?_, ?_⟩, fun x hx => ?_, fun x hx => ?_⟩
  · rw [f1 169 (by decide), f0 169 (by decide) (by decide) (by decide)]; exact g2
  · rw [f1 168 (by decide), f0 168 (by decide) (by decide) (by decide)]; exact g3
  · rw [f1 174 (by decide), f0 174 (by decide) (by decide) (by decide)]; exact g4
  · rw [f1 164 (by decide), f1 165 (by decide), f1 166 (by decide)]
    have e1 : (R_setF G q i (nI p) (nA p a) (nB p b)).2.1 164 (60 * q + x) = if x = i then nI p else G.2.1 164 (60 * q + x) := by
      unfold R_setF; rw [wi_I (by decide), wi_I (by decide), wi_if]
    have e2 : (R_setF G q i (nI p) (nA p a) (nB p b)).2.1 165 (60 * q + x) = if x = i then nA p a else G.2.1 165 (60 * q + x) := by
      unfold R_setF; rw [wi_I (by decide), wi_if, wi_I (by decide)]
    have e3 : (R_setF G q i (nI p) (nA p a) (nB p b)).2.1 166 (60 * q + x) = if x = i then nB p b else G.2.1 166 (60 * q + x) := by
      unfold R_setF; rw [wi_if, wi_I (by decide), wi_I (by decide)]
    rw [e1, e2, e3]
    show _ = nI (va_up (mO M) i p x) ∧ _ = va_up (mA M) i (nA p a) x ∧ _ = va_up (mB M) i (nB p b) x
    by_cases e : x = i
    · subst e; simp only [if_true, am_up_eq]; exact ⟨trivial, trivial, trivial⟩
    · rw [if_neg e, if_neg e, if_neg e, am_up_ne e, am_up_ne e, am_up_ne e]
      exact hc x (hn x hx e)
  · rw [f1 170 (by decide), f1 171 (by decide), f1 172 (by decide), f1 173 (by decide), f0 170 (by decide) (by decide) (by decide), f0 171 (by decide) (by decide) (by decide), f0 172 (by decide) (by decide) (by decide), f0 173 (by decide) (by decide) (by decide)]
    exact hr x hx
theorem rM.row {G : am_G} {q : Nat} {f t a y : Nat} {M : mT} (hm : rM G q M) : rM (am_wi (R_rowF G q (mR M) (nI f) (nI t) (nI a) (nI y)) 169 q (nI (mR M + 1))) q (mRowA M f t a y) := by
  obtain ⟨⟨g1, g2, g3, g4⟩, hc, hr⟩ := hm
  have f0 : ∀ x, x < 170 ∨ 173 < x → (R_rowF G q (mR M) (nI f) (nI t) (nI a) (nI y)).2.1 x = G.2.1 x := fun x h => by
    unfold R_rowF; rw [wi_I (by omega), wi_I (by omega), wi_I (by omega), wi_I (by omega)]
  refine ⟨⟨?_, wi_Is, ?_, ?_⟩, fun x hx => ?_, fun x hx => ?_⟩
  · rw [wi_I (by decide), f0 167 (by omega)]; exact g1
  · rw [wi_I (by decide), f0 168 (by omega)]; exact g3
  · rw [wi_I (by decide), f0 174 (by omega)]; exact g4
  · rw [wi_I (by decide), wi_I (by decide), wi_I (by decide), f0 164 (by omega), f0 165 (by omega), f0 166 (by omega)]; exact hc x hx
  · rw [wi_I (by decide), wi_I (by decide), wi_I (by decide), wi_I (by decide)]
    have e1 : (R_rowF G q (mR M) (nI f) (nI t) (nI a) (nI y)).2.1 170 (8 * q + x) = if x = mR M then nI f else G.2.1 170 (8 * q + x) := by
      unfold R_rowF; rw [wi_I (by decide), wi_I (by decide), wi_I (by decide), wi_if]
    have e2 : (R_rowF G q (mR M) (nI f) (nI t) (nI a) (nI y)).2.1 171 (8 * q + x) = if x = mR M then nI t else G.2.1 171 (8 * q + x) := by
      unfold R_rowF; rw [wi_I (by decide), wi_I (by decide), wi_if, wi_I (by decide)]
    have e3 : (R_rowF G q (mR M) (nI f) (nI t) (nI a) (nI y)).2.1 172 (8 * q + x) = if x = mR M then nI a else G.2.1 172 (8 * q + x) := by
      unfold R_rowF; rw [wi_I (by decide), wi_if, wi_I (by decide), wi_I (by decide)]
    have e4 : (R_rowF G q (mR M) (nI f) (nI t) (nI a) (nI y)).2.1 173 (8 * q + x) = if x = mR M then nI y else G.2.1 173 (8 * q + x) := by
      unfold R_rowF; rw [wi_if, wi_I (by decide), wi_I (by decide), wi_I (by decide)]
    rw [e1, e2, e3, e4]
    show _ = nI (va_up (mF M) (mR M) f x) ∧ _ = nI (va_up (mE M) (mR M) t x) ∧ _ = nI (va_up (mP M) (mR M) a x) ∧ _ = nI (va_up (mY M) (mR M) y x)
    have hx : x < mR M + 1 := hx
    by_cases e : x = mR M
    · simp only [e, if_true, am_up_eq]; exact ⟨trivial, trivial, trivial, trivial⟩
    · rw [if_neg e, if_neg e, if_neg e, if_neg e, am_up_ne e, am_up_ne e, am_up_ne e, am_up_ne e]
      exact hr x (by omega)
theorem bel_pred {x : Int32} {n : Nat} (hn : n < 2 ^ 30) : bel x n = decide (nI 0 ≤ x ∧ x ≤ nI n - nI 1) := by
  rw [Bool.eq_iff_iff, decide_eq_true_iff]
  unfold bel
  rw [decide_eq_true_iff, Int32.le_iff_toInt_le, Int32.le_iff_toInt_le, pk_sub_toInt hn (by decide), nI_toInt (by decide)]
  omega
theorem okR_inN (w : am_W) {d : Nat} (G : am_G) (x : Int32) (n : Nat) (hn : n < 2 ^ 30) : am_Ok w jR_in d (0, 0) [.inl x, .inl (nI 0), .inl (nI n - nI 1)] G (fun r G' => r = some (.inl (am_b (bel x n))) ∧ G' = G) := by
  refine (okR_in w G x (nI 0) (nI n - nI 1)).post (fun r G' h => ⟨?_, h.2⟩)
  rw [h.1, bel_pred hn]
theorem row_in {f : Nat} {t : Int32} (hf : f < 60) : decide (nI (f + 1) ≤ t ∧ t ≤ nI 60) = decide (nI f < t ∧ t ≤ nI 60) := by
  have e : nI (f + 1) ≤ t ↔ nI f < t := by
    rw [Int32.le_iff_toInt_le, Int32.lt_iff_toInt_lt, nI_toInt (by omega), nI_toInt (by omega)]
    omega
  simp only [e]
theorem pn_a : ∀ p, p < 28 → ((nI p = nI 1 ∨ ¬ rMost (nI p) < 0) ↔ ¬ am_sf 0 p = -1) := by decide +kernel
theorem pn_b : ∀ p, p < 28 → (((nI p = nI 11 ∨ nI p = nI 12 ∨ nI p = nI 17 ∨ nI p = nI 23) ∨ nI p = nI 27) ↔ ¬ am_sf 1 p = -1) := by decide +kernel
theorem pn_A {p : Nat} {a : Int32} (hp : p < 28) : (nI p = nI 1 → nA p a = a) ∧ (¬ nI p = nI 1 → rMost (nI p) < 0 → nA p a = nI 0) ∧ (¬ rMost (nI p) < 0 → nA p a = a) := by
  have h := pn_a p hp
  unfold nA
  exact ⟨fun e => if_neg (h.mp (Or.inl e)), fun e1 e2 => if_pos (Decidable.not_not.mp (fun e => by rcases h.mpr e with q | q; exact e1 q; exact q e2)), fun e => if_neg (h.mp (Or.inr e))⟩
theorem pn_B {p : Nat} {b : Int32} (hp : p < 28) : (decide (nI p = nI 11 ∨ nI p = nI 12 ∨ nI p = nI 17 ∨ nI p = nI 23) = true → nB p b = b) ∧ (nI p = nI 27 → nB p b = b) ∧ (decide (nI p = nI 11 ∨ nI p = nI 12 ∨ nI p = nI 17 ∨ nI p = nI 23) = false → ¬ nI p = nI 27 → nB p b = nI 0) := by
  have h := pn_b p hp
  unfold nB
  exact ⟨fun e => if_neg (h.mp (Or.inl (of_decide_eq_true e))), fun e => if_neg (h.mp (Or.inr e)), fun e1 e2 => if_pos (Decidable.not_not.mp (fun e => by rcases h.mpr e with q | q; exact of_decide_eq_false e1 q; exact e2 q))⟩
theorem rW {G : am_G} {s : sT} {x : Int32} (hc : rS G s) (h : bel x 2 = true) : rEnd G (am_wi G 163 11 x) (x.toNatClampNeg, s.2) := by
  obtain ⟨a, ha, rfl⟩ := bel_of h (by decide)
  rw [nI_clamp (by omega)]
  have hq : ∀ i, i ≠ 163 → (am_wi G 163 11 (nI a)).2.1 i = G.2.1 i := fun i hi => wi_I hi
  refine ⟨⟨wi_Is, fun q hq' => ?_, ?_⟩, oR.wi (show 163 ≤ 163 by decide)⟩
  · have := hc.2.1 q hq'
    unfold rM at this ⊢
    rw [hq 167 (by decide), hq 169 (by decide), hq 168 (by decide), hq 174 (by decide), hq 164 (by decide), hq 165 (by decide), hq 166 (by decide), hq 170 (by decide), hq 171 (by decide), hq 172 (by decide), hq 173 (by decide)]
    exact this
  · have := hc.2.2
    unfold rL at this ⊢
    rw [wi_In (by decide), wi_In (by decide), wi_In (by decide), wi_In (by decide), wi_In (by decide), wi_In (by decide), hq 191 (by decide)]
    exact this

set_option maxRecDepth 100000 in
theorem okR_put (w : am_W) {d : Nat} (hd : 1 ≤ d) (G : am_G) (q i p : Nat) (a b : Int32) (hq : q < 12) (hi : i < 60) (hp : p < 28) (hS : St0 G) : am_Ok w jR_put d (0, 0) [.inr (some 163), .inl (nI q), .inl (nI i), .inl (nI p), .inl a, .inl b] G (fun r G' => r = none ∧ G' = R_setF G q i (nI p) (nA p a) (nB p b)) := by
  refine am_ok_of rfl (Nat.le_of_ble_eq_true rfl) ?_
  show am_Go w jR_put d (0, 0) 0 [some (.inr (some 163)), some (.inl (nI q)), some (.inl (nI i)), some (.inl (nI p)), some (.inl a), some (.inl b)] [] G _
  obtain ⟨A1, A2, A3⟩ := pn_A (a := a) hp
  obtain ⟨B1, B2, B3⟩ := pn_B (b := b) hp
  refine go_aload_n dR_put_0 rfl rfl ?_
  refine go_iload_n dR_put_1 rfl rfl ?_
  refine go_iload_n dR_put_2 rfl rfl ?_
  refine go_iload_n dR_put_3 rfl rfl ?_
  refine go_iload_n dR_put_4 rfl rfl ?_
  refine go_iconst (nI 1) (by decide) dR_put_5 ?_
  refine go_icmp_eq dR_put_6 (tgt := 16) (by decide) (fun c6 => ?_) (fun c6 => ?_)
  · refine go_iload dR_put_16 rfl ?_
    refine go_goto dR_put_18 (tgt := 22) (by decide) ?_
    first | (refine go_top (A1 c6).symm ?_) | (refine go_top (A3 c13).symm ?_) | (refine go_top (A2 c6 c13).symm ?_)
    refine go_iload_n dR_put_22 rfl rfl ?_
    refine go_cS (k' := (0, 0)) dR_put_23 _ csR_139 stR_isJump rfl (okR_isJump (d := 0) w G (nI p)) (by omega) (by decide) (Nat.le_of_ble_eq_true rfl) (fun r G1 hr hn => ?_)
    obtain ⟨rfl, hG⟩ := hr
    rw [hG]
    clear hG hn
    refine go_if_neB dR_put_26 (tgt := 35) (by decide) (fun c26 => ?_) (fun c26 => ?_)
    · refine go_iload dR_put_35 rfl ?_
      refine go_goto dR_put_37 (tgt := 41) (by decide) ?_
      first | (refine go_top (B1 c26).symm ?_) | (refine go_top (B2 c32).symm ?_) | (refine go_top (B3 c26 c32).symm ?_)
      refine go_cV (k' := (0, 0)) dR_put_41 _ csR_127 (hS.s sh_163) rfl imR_set seR_set rfl (okR_set (d := 0) w G q i (nI p) (nA p a) (nB p b) hq hi hS) (by omega) (by decide) (Nat.le_of_ble_eq_true rfl) (fun r G1 hr hn => ?_)
      obtain ⟨rfl, hG⟩ := hr
      refine go_return rfl dR_put_44 ?_
      exact ⟨rfl, hG⟩
    · refine go_iload_n dR_put_29 rfl rfl ?_
      refine go_bipush (nI 27) (by decide) dR_put_30 ?_
      refine go_icmp_ne dR_put_32 (tgt := 40) (by decide) (fun c32 => ?_) (fun c32 => ?_)
      · refine go_iconst (nI 0) (by decide) dR_put_40 ?_
        first | (refine go_top (B1 c26).symm ?_) | (refine go_top (B2 c32).symm ?_) | (refine go_top (B3 c26 c32).symm ?_)
        refine go_cV (k' := (0, 0)) dR_put_41 _ csR_127 (hS.s sh_163) rfl imR_set seR_set rfl (okR_set (d := 0) w G q i (nI p) (nA p a) (nB p b) hq hi hS) (by omega) (by decide) (Nat.le_of_ble_eq_true rfl) (fun r G1 hr hn => ?_)
        obtain ⟨rfl, hG⟩ := hr
        refine go_return rfl dR_put_44 ?_
        exact ⟨rfl, hG⟩
      · refine go_iload dR_put_35 rfl ?_
        refine go_goto dR_put_37 (tgt := 41) (by decide) ?_
        first | (refine go_top (B1 c26).symm ?_) | (refine go_top (B2 c32).symm ?_) | (refine go_top (B3 c26 c32).symm ?_)
        refine go_cV (k' := (0, 0)) dR_put_41 _ csR_127 (hS.s sh_163) rfl imR_set seR_set rfl (okR_set (d := 0) w G q i (nI p) (nA p a) (nB p b) hq hi hS) (by omega) (by decide) (Nat.le_of_ble_eq_true rfl) (fun r G1 hr hn => ?_)
        obtain ⟨rfl, hG⟩ := hr
        refine go_return rfl dR_put_44 ?_
        exact ⟨rfl, hG⟩
  · refine go_iload_n dR_put_9 rfl rfl ?_
    refine go_cS (k' := (0, 0)) dR_put_10 _ csR_143 stR_mostA rfl (okR_mostA (d := 0) w G (nI p)) (by omega) (by decide) (Nat.le_of_ble_eq_true rfl) (fun r G1 hr hn => ?_)
    obtain ⟨rfl, hG⟩ := hr
    rw [hG]
    clear hG hn
    refine go_if_lt dR_put_13 (tgt := 21) (by decide) (fun c13 => ?_) (fun c13 => ?_)
    · refine go_iconst (nI 0) (by decide) dR_put_21 ?_
      first | (refine go_top (A1 c6).symm ?_) | (refine go_top (A3 c13).symm ?_) | (refine go_top (A2 c6 c13).symm ?_)
      refine go_iload_n dR_put_22 rfl rfl ?_
      refine go_cS (k' := (0, 0)) dR_put_23 _ csR_139 stR_isJump rfl (okR_isJump (d := 0) w G (nI p)) (by omega) (by decide) (Nat.le_of_ble_eq_true rfl) (fun r G1 hr hn => ?_)
      obtain ⟨rfl, hG⟩ := hr
      rw [hG]
      clear hG hn
      refine go_if_neB dR_put_26 (tgt := 35) (by decide) (fun c26 => ?_) (fun c26 => ?_)
      · refine go_iload dR_put_35 rfl ?_
        refine go_goto dR_put_37 (tgt := 41) (by decide) ?_
        first | (refine go_top (B1 c26).symm ?_) | (refine go_top (B2 c32).symm ?_) | (refine go_top (B3 c26 c32).symm ?_)
        refine go_cV (k' := (0, 0)) dR_put_41 _ csR_127 (hS.s sh_163) rfl imR_set seR_set rfl (okR_set (d := 0) w G q i (nI p) (nA p a) (nB p b) hq hi hS) (by omega) (by decide) (Nat.le_of_ble_eq_true rfl) (fun r G1 hr hn => ?_)
        obtain ⟨rfl, hG⟩ := hr
        refine go_return rfl dR_put_44 ?_
        exact ⟨rfl, hG⟩
      · refine go_iload_n dR_put_29 rfl rfl ?_
        refine go_bipush (nI 27) (by decide) dR_put_30 ?_
        refine go_icmp_ne dR_put_32 (tgt := 40) (by decide) (fun c32 => ?_) (fun c32 => ?_)
        · refine go_iconst (nI 0) (by decide) dR_put_40 ?_
          first | (refine go_top (B1 c26).symm ?_) | (refine go_top (B2 c32).symm ?_) | (refine go_top (B3 c26 c32).symm ?_)
          refine go_cV (k' := (0, 0)) dR_put_41 _ csR_127 (hS.s sh_163) rfl imR_set seR_set rfl (okR_set (d := 0) w G q i (nI p) (nA p a) (nB p b) hq hi hS) (by omega) (by decide) (Nat.le_of_ble_eq_true rfl) (fun r G1 hr hn => ?_)
          obtain ⟨rfl, hG⟩ := hr
          refine go_return rfl dR_put_44 ?_
          exact ⟨rfl, hG⟩
        · refine go_iload dR_put_35 rfl ?_
          refine go_goto dR_put_37 (tgt := 41) (by decide) ?_
          first | (refine go_top (B1 c26).symm ?_) | (refine go_top (B2 c32).symm ?_) | (refine go_top (B3 c26 c32).symm ?_)
          refine go_cV (k' := (0, 0)) dR_put_41 _ csR_127 (hS.s sh_163) rfl imR_set seR_set rfl (okR_set (d := 0) w G q i (nI p) (nA p a) (nB p b) hq hi hS) (by omega) (by decide) (Nat.le_of_ble_eq_true rfl) (fun r G1 hr hn => ?_)
          obtain ⟨rfl, hG⟩ := hr
          refine go_return rfl dR_put_44 ?_
          exact ⟨rfl, hG⟩
    · refine go_iload dR_put_16 rfl ?_
      refine go_goto dR_put_18 (tgt := 22) (by decide) ?_
      first | (refine go_top (A1 c6).symm ?_) | (refine go_top (A3 c13).symm ?_) | (refine go_top (A2 c6 c13).symm ?_)
      refine go_iload_n dR_put_22 rfl rfl ?_
      refine go_cS (k' := (0, 0)) dR_put_23 _ csR_139 stR_isJump rfl (okR_isJump (d := 0) w G (nI p)) (by omega) (by decide) (Nat.le_of_ble_eq_true rfl) (fun r G1 hr hn => ?_)
      obtain ⟨rfl, hG⟩ := hr
      rw [hG]
      clear hG hn
      refine go_if_neB dR_put_26 (tgt := 35) (by decide) (fun c26 => ?_) (fun c26 => ?_)
      · refine go_iload dR_put_35 rfl ?_
        refine go_goto dR_put_37 (tgt := 41) (by decide) ?_
        first | (refine go_top (B1 c26).symm ?_) | (refine go_top (B2 c32).symm ?_) | (refine go_top (B3 c26 c32).symm ?_)
        refine go_cV (k' := (0, 0)) dR_put_41 _ csR_127 (hS.s sh_163) rfl imR_set seR_set rfl (okR_set (d := 0) w G q i (nI p) (nA p a) (nB p b) hq hi hS) (by omega) (by decide) (Nat.le_of_ble_eq_true rfl) (fun r G1 hr hn => ?_)
        obtain ⟨rfl, hG⟩ := hr
        refine go_return rfl dR_put_44 ?_
        exact ⟨rfl, hG⟩
      · refine go_iload_n dR_put_29 rfl rfl ?_
        refine go_bipush (nI 27) (by decide) dR_put_30 ?_
        refine go_icmp_ne dR_put_32 (tgt := 40) (by decide) (fun c32 => ?_) (fun c32 => ?_)
        · refine go_iconst (nI 0) (by decide) dR_put_40 ?_
          first | (refine go_top (B1 c26).symm ?_) | (refine go_top (B2 c32).symm ?_) | (refine go_top (B3 c26 c32).symm ?_)
          refine go_cV (k' := (0, 0)) dR_put_41 _ csR_127 (hS.s sh_163) rfl imR_set seR_set rfl (okR_set (d := 0) w G q i (nI p) (nA p a) (nB p b) hq hi hS) (by omega) (by decide) (Nat.le_of_ble_eq_true rfl) (fun r G1 hr hn => ?_)
          obtain ⟨rfl, hG⟩ := hr
          refine go_return rfl dR_put_44 ?_
          exact ⟨rfl, hG⟩
        · refine go_iload dR_put_35 rfl ?_
          refine go_goto dR_put_37 (tgt := 41) (by decide) ?_
          first | (refine go_top (B1 c26).symm ?_) | (refine go_top (B2 c32).symm ?_) | (refine go_top (B3 c26 c32).symm ?_)
          refine go_cV (k' := (0, 0)) dR_put_41 _ csR_127 (hS.s sh_163) rfl imR_set seR_set rfl (okR_set (d := 0) w G q i (nI p) (nA p a) (nB p b) hq hi hS) (by omega) (by decide) (Nat.le_of_ble_eq_true rfl) (fun r G1 hr hn => ?_)
          obtain ⟨rfl, hG⟩ := hr
          refine go_return rfl dR_put_44 ?_
          exact ⟨rfl, hG⟩
set_option maxRecDepth 100000 in
theorem okR_write (w : am_W) {d : Nat} (hd : 3 ≤ d) (G : am_G) (s : sT) (x : Int32) (hS : St0 G) (hc : rS G s) (hv : sV s) : am_Ok w jR_write d (0, 0) [.inr (some 163), .inl x] G (fun r G' => r = some (.inl (aWrite s x).1) ∧ rEnd G G' (aWrite s x).2) := by
  refine am_ok_of rfl (Nat.le_of_ble_eq_true rfl) ?_
  show am_Go w jR_write d (0, 0) 0 [some (.inr (some 163)), some (.inl x)] [] G _
  refine go_iload_n dR_write_0 rfl rfl ?_
  refine go_iconst (nI 0) (by decide) dR_write_1 ?_
  refine go_iconst (nI 1) (by decide) dR_write_2 ?_
  refine go_cS (k' := (0, 0)) dR_write_3 _ csR_123 stR_in rfl (okR_in0 (d := 0) w G x 1 (by decide)) (by omega) (by decide) (Nat.le_of_ble_eq_true rfl) (fun r G1 hr hn => ?_)
  obtain ⟨rfl, hG⟩ := hr
  rw [hG]
  clear hG hn
  refine go_if_neB dR_write_6 (tgt := 11) (by decide) (fun c6 => ?_) (fun c6 => ?_)
  · refine go_aload_n dR_write_11 rfl rfl ?_
    refine go_iload_n dR_write_12 rfl rfl ?_
    refine go_putI dR_write_13 fpR_119 rfl (hS.s sh_163) ?_
    refine go_iconst (nI 1) (by decide) dR_write_16 ?_
    refine go_zreturn rfl (by first | exact Or.inl rfl | exact Or.inr rfl | exact am_b_01 _) dR_write_17 ?_
    first | exact ⟨by unfold aWrite; rw [if_neg (by rw [c6]; decide)]; rfl, by unfold aWrite; rw [if_neg (by rw [c6]; decide)]; exact rEnd.rf hc⟩ | exact ⟨by unfold aWrite; rw [if_pos c6]; rfl, by unfold aWrite; rw [if_pos c6]; exact rW hc c6⟩
  · refine go_iconst (nI 0) (by decide) dR_write_9 ?_
    refine go_zreturn rfl (by first | exact Or.inl rfl | exact Or.inr rfl | exact am_b_01 _) dR_write_10 ?_
    first | exact ⟨by unfold aWrite; rw [if_neg (by rw [c6]; decide)]; rfl, by unfold aWrite; rw [if_neg (by rw [c6]; decide)]; exact rEnd.rf hc⟩ | exact ⟨by unfold aWrite; rw [if_pos c6]; rfl, by unfold aWrite; rw [if_pos c6]; exact rW hc c6⟩
set_option maxRecDepth 100000 in
theorem okR_method (w : am_W) {d : Nat} (hd : 3 ≤ d) (G : am_G) (s : sT) (x y : Int32) (c : Bool) (hS : St0 G) (hc : rS G s) (hv : sV s) : am_Ok w jR_method d (0, 0) [.inr (some 163), .inl x, .inl y, .inl (am_b c)] G (fun r G' => r = some (.inl (aMethod s x y c).1) ∧ rEnd G G' (aMethod s x y c).2) := by
  refine am_ok_of rfl (Nat.le_of_ble_eq_true rfl) ?_
  show am_Go w jR_method d (0, 0) 0 [some (.inr (some 163)), some (.inl x), some (.inl y), some (.inl (am_b c)), none] [] G _
  refine go_iload_n dR_method_0 rfl rfl ?_
  refine go_iconst (nI 0) (by decide) dR_method_1 ?_
  refine go_iconst (nI 5) (by decide) dR_method_2 ?_
  refine go_cS (k' := (0, 0)) dR_method_3 _ csR_123 stR_in rfl (okR_in0 (d := 0) w G x 5 (by decide)) (by omega) (by decide) (Nat.le_of_ble_eq_true rfl) (fun r G1 hr hn => ?_)
  obtain ⟨rfl, hG⟩ := hr
  rw [hG]
  clear hG hn
  refine go_if_eqB dR_method_6 (tgt := 18) (by decide) (fun c6 => ?_) (fun c6 => ?_)
  · refine go_iconst (nI 0) (by decide) dR_method_18 ?_
    refine go_zreturn rfl (by first | exact Or.inl rfl | exact Or.inr rfl | exact am_b_01 _) dR_method_19 ?_
    first | exact ⟨by unfold aMethod; rw [if_neg (fun q => absurd q.1 (by rw [c6]; decide))] <;> rfl, by unfold aMethod; rw [if_neg (fun q => absurd q.1 (by rw [c6]; decide))]; exact rEnd.rf hc⟩ | exact ⟨by unfold aMethod; rw [if_neg (fun q => absurd q.2 (by rw [c15]; decide))] <;> rfl, by unfold aMethod; rw [if_neg (fun q => absurd q.2 (by rw [c15]; decide))]; exact rEnd.rf hc⟩ | exact ⟨by unfold aMethod; rw [if_pos ⟨c6, c15⟩]; rfl, by unfold aMethod; rw [if_pos ⟨c6, c15⟩, hz, nI_clamp (by omega), nI_clamp (by omega)]; exact rEnd.put hv hc rBeg_o rM.beg⟩
  · refine go_iload_n dR_method_9 rfl rfl ?_
    refine go_iconst (nI 0) (by decide) dR_method_10 ?_
    refine go_iconst (nI 3) (by decide) dR_method_11 ?_
    refine go_cS (k' := (0, 0)) dR_method_12 _ csR_123 stR_in rfl (okR_in0 (d := 0) w G y 3 (by decide)) (by omega) (by decide) (Nat.le_of_ble_eq_true rfl) (fun r G1 hr hn => ?_)
    obtain ⟨rfl, hG⟩ := hr
    rw [hG]
    clear hG hn
    refine go_if_neB dR_method_15 (tgt := 20) (by decide) (fun c15 => ?_) (fun c15 => ?_)
    · obtain ⟨m, hm, rfl⟩ := bel_of c6 (by decide)
      have hv1 := hv.1
      have hcm := hc.2.1 (6 * s.1 + m) (by omega)
      have hmv := hv.2.1 (6 * s.1 + m) (by omega)
      have hw := hc.1
      obtain ⟨M, hMe⟩ : ∃ M, M = s.2.1 (6 * s.1 + m) := ⟨_, rfl⟩
      rw [← hMe] at hcm hmv
      have hz : zM s (nI m).toNatClampNeg = M := by rw [nI_clamp (by omega), hMe]; rfl
      obtain ⟨hN, hR, hA, hL⟩ := hcm.1
      have hN6 := hmv.1
      have hR8 := hmv.2.1
      obtain ⟨a, ha, rfl⟩ := bel_of c15 (by decide)
      refine go_aload_n dR_method_20 rfl rfl ?_
      refine go_iload_n dR_method_21 rfl rfl ?_
      refine go_cV (k' := (0, 0)) dR_method_22 _ csR_135 (hS.s sh_163) rfl imR_own seR_own rfl (okR_own (d := 0) w G s.1 m hw hS) (by omega) (by decide) (Nat.le_of_ble_eq_true rfl) (fun r G1 hr hn => ?_)
      obtain ⟨rfl, hG⟩ := hr
      rw [hG]
      clear hG hn
      refine go_istore dR_method_25 (Nat.le_of_ble_eq_true rfl) ?_
      refine go_aload_n dR_method_27 rfl rfl ?_
      refine go_getO (a := 167) dR_method_28 flR_19 rfl (hS.s sh_163) (hS.r rt_many) ?_
      refine go_iload dR_method_31 rfl ?_
      refine go_iconst (nI 0) (by decide) dR_method_33 ?_
      refine go_iastoreN (hS.s sh_167) (by omega) (by decide) dR_method_34 ?_
      refine go_aload_n dR_method_35 rfl rfl ?_
      refine go_getO (a := 169) dR_method_36 flR_25 rfl (hS.s sh_163) (hS.r rt_rows) ?_
      refine go_iload dR_method_39 rfl ?_
      refine go_iconst (nI 0) (by decide) dR_method_41 ?_
      refine go_iastoreN (hS.s sh_169) (by omega) (by decide) dR_method_42 ?_
      refine go_aload_n dR_method_43 rfl rfl ?_
      refine go_getO (a := 168) dR_method_44 flR_22 rfl (hS.s sh_163) (hS.r rt_takes) ?_
      refine go_iload dR_method_47 rfl ?_
      refine go_iload_n dR_method_49 rfl rfl ?_
      refine go_iastoreN (hS.s sh_168) (by omega) (by decide) dR_method_50 ?_
      refine go_aload_n dR_method_51 rfl rfl ?_
      refine go_getO (a := 174) dR_method_52 flR_40 rfl (hS.s sh_163) (hS.r rt_locked) ?_
      refine go_iload dR_method_55 rfl ?_
      refine go_iload_n dR_method_57 rfl rfl ?_
      refine go_bastoreN (by first | decide | exact am_b_and1 _) (hS.s sh_174) (by omega) (by decide) dR_method_58 ?_
      refine go_iconst (nI 1) (by decide) dR_method_59 ?_
      refine go_zreturn rfl (by first | exact Or.inl rfl | exact Or.inr rfl | exact am_b_01 _) dR_method_60 ?_
      first | exact ⟨by unfold aMethod; rw [if_neg (fun q => absurd q.1 (by rw [c6]; decide))] <;> rfl, by unfold aMethod; rw [if_neg (fun q => absurd q.1 (by rw [c6]; decide))]; exact rEnd.rf hc⟩ | exact ⟨by unfold aMethod; rw [if_neg (fun q => absurd q.2 (by rw [c15]; decide))] <;> rfl, by unfold aMethod; rw [if_neg (fun q => absurd q.2 (by rw [c15]; decide))]; exact rEnd.rf hc⟩ | exact ⟨by unfold aMethod; rw [if_pos ⟨c6, c15⟩]; rfl, by unfold aMethod; rw [if_pos ⟨c6, c15⟩, hz, nI_clamp (by omega), nI_clamp (by omega)]; exact rEnd.put hv hc rBeg_o rM.beg⟩
    · refine go_iconst (nI 0) (by decide) dR_method_18 ?_
      refine go_zreturn rfl (by first | exact Or.inl rfl | exact Or.inr rfl | exact am_b_01 _) dR_method_19 ?_
      first | exact ⟨by unfold aMethod; rw [if_neg (fun q => absurd q.1 (by rw [c6]; decide))] <;> rfl, by unfold aMethod; rw [if_neg (fun q => absurd q.1 (by rw [c6]; decide))]; exact rEnd.rf hc⟩ | exact ⟨by unfold aMethod; rw [if_neg (fun q => absurd q.2 (by rw [c15]; decide))] <;> rfl, by unfold aMethod; rw [if_neg (fun q => absurd q.2 (by rw [c15]; decide))]; exact rEnd.rf hc⟩ | exact ⟨by unfold aMethod; rw [if_pos ⟨c6, c15⟩]; rfl, by unfold aMethod; rw [if_pos ⟨c6, c15⟩, hz, nI_clamp (by omega), nI_clamp (by omega)]; exact rEnd.put hv hc rBeg_o rM.beg⟩
set_option maxRecDepth 100000 in
theorem R_add_a (w : am_W) {d : Nat} {P : Option am_V → am_G → Prop} (hd : 3 ≤ d) (G : am_G) (x x2 a b : Int32) (K : am_Go w jR_add d (0, 0) 24 [some (.inr (some 163)), some (.inl x), some (.inl x2), some (.inl a), some (.inl b), none, none] [.inl (am_b (bel x 6 && insOk x2 a b))] G P) : am_Go w jR_add d (0, 0) 0 [some (.inr (some 163)), some (.inl x), some (.inl x2), some (.inl a), some (.inl b), none, none] [] G P := by
  refine go_iload_n dR_add_0 rfl rfl ?_
  refine go_iconst (nI 0) (by decide) dR_add_1 ?_
  refine go_iconst (nI 5) (by decide) dR_add_2 ?_
  refine go_cS (k' := (0, 0)) dR_add_3 _ csR_123 stR_in rfl (okR_in0 (d := 0) w G x 5 (by decide)) (by omega) (by decide) (Nat.le_of_ble_eq_true rfl) (fun r G1 hr hn => ?_)
  obtain ⟨rfl, hG⟩ := hr
  rw [hG]
  clear hG hn
  refine go_if_eqB dR_add_6 (tgt := 23) (by decide) (fun c6 => ?_) (fun c6 => ?_)
  · refine go_iconst (nI 0) (by decide) dR_add_23 ?_
    first | exact go_top (by rw [c6, c16]; rfl) K | exact go_top (by rw [c6]; rfl) K
  · refine go_iload_n dR_add_9 rfl rfl ?_
    refine go_iload_n dR_add_10 rfl rfl ?_
    refine go_iload dR_add_11 rfl ?_
    refine go_cS (k' := (0, 0)) dR_add_13 _ csR_146 stR_isGood rfl (okR_isGood (d := 1) w (by decide) G x2 a b) (by omega) (by decide) (Nat.le_of_ble_eq_true rfl) (fun r G1 hr hn => ?_)
    obtain ⟨rfl, hG⟩ := hr
    rw [hG]
    clear hG hn
    refine go_if_eqB dR_add_16 (tgt := 23) (by decide) (fun c16 => ?_) (fun c16 => ?_)
    · refine go_iconst (nI 0) (by decide) dR_add_23 ?_
      first | exact go_top (by rw [c6, c16]; rfl) K | exact go_top (by rw [c6]; rfl) K
    · refine go_iconst (nI 1) (by decide) dR_add_19 ?_
      refine go_goto dR_add_20 (tgt := 24) (by decide) ?_
      first | exact go_top (by rw [c6, c16]; rfl) K | exact go_top (by rw [c6]; rfl) K
set_option maxRecDepth 100000 in
theorem R_change_a (w : am_W) {d : Nat} {P : Option am_V → am_G → Prop} (hd : 3 ≤ d) (G : am_G) (x z x2 a b : Int32) (K : am_Go w jR_change d (0, 0) 25 [some (.inr (some 163)), some (.inl x), some (.inl z), some (.inl x2), some (.inl a), some (.inl b), none] [.inl (am_b (bel x 6 && insOk x2 a b))] G P) : am_Go w jR_change d (0, 0) 0 [some (.inr (some 163)), some (.inl x), some (.inl z), some (.inl x2), some (.inl a), some (.inl b), none] [] G P := by
  refine go_iload_n dR_change_0 rfl rfl ?_
  refine go_iconst (nI 0) (by decide) dR_change_1 ?_
  refine go_iconst (nI 5) (by decide) dR_change_2 ?_
  refine go_cS (k' := (0, 0)) dR_change_3 _ csR_123 stR_in rfl (okR_in0 (d := 0) w G x 5 (by decide)) (by omega) (by decide) (Nat.le_of_ble_eq_true rfl) (fun r G1 hr hn => ?_)
  obtain ⟨rfl, hG⟩ := hr
  rw [hG]
  clear hG hn
  refine go_if_eqB dR_change_6 (tgt := 24) (by decide) (fun c6 => ?_) (fun c6 => ?_)
  · refine go_iconst (nI 0) (by decide) dR_change_24 ?_
    first | exact go_top (by rw [c6, c17]; rfl) K | exact go_top (by rw [c6]; rfl) K
  · refine go_iload_n dR_change_9 rfl rfl ?_
    refine go_iload dR_change_10 rfl ?_
    refine go_iload dR_change_12 rfl ?_
    refine go_cS (k' := (0, 0)) dR_change_14 _ csR_146 stR_isGood rfl (okR_isGood (d := 1) w (by decide) G x2 a b) (by omega) (by decide) (Nat.le_of_ble_eq_true rfl) (fun r G1 hr hn => ?_)
    obtain ⟨rfl, hG⟩ := hr
    rw [hG]
    clear hG hn
    refine go_if_eqB dR_change_17 (tgt := 24) (by decide) (fun c17 => ?_) (fun c17 => ?_)
    · refine go_iconst (nI 0) (by decide) dR_change_24 ?_
      first | exact go_top (by rw [c6, c17]; rfl) K | exact go_top (by rw [c6]; rfl) K
    · refine go_iconst (nI 1) (by decide) dR_change_20 ?_
      refine go_goto dR_change_21 (tgt := 25) (by decide) ?_
      first | exact go_top (by rw [c6, c17]; rfl) K | exact go_top (by rw [c6]; rfl) K
set_option maxRecDepth 100000 in
theorem okR_add (w : am_W) {d : Nat} (hd : 3 ≤ d) (G : am_G) (s : sT) (x x2 a b : Int32) (hS : St0 G) (hc : rS G s) (hv : sV s) : am_Ok w jR_add d (0, 0) [.inr (some 163), .inl x, .inl x2, .inl a, .inl b] G (fun r G' => r = some (.inl (aAdd s x x2 a b).1) ∧ rEnd G G' (aAdd s x x2 a b).2) := by
  refine am_ok_of rfl (Nat.le_of_ble_eq_true rfl) ?_
  show am_Go w jR_add d (0, 0) 0 [some (.inr (some 163)), some (.inl x), some (.inl x2), some (.inl a), some (.inl b), none, none] [] G _
  refine R_add_a w hd G x x2 a b ?_
  refine go_istore dR_add_24 (Nat.le_of_ble_eq_true rfl) ?_
  refine go_iload dR_add_26 rfl ?_
  refine go_if_neB dR_add_28 (tgt := 33) (by decide) (fun c28 => ?_) (fun c28 => ?_)
  · have c28a : bel x 6 = true := by have q := c28; simp only [Bool.and_eq_true] at q; exact q.1
    have c28b : insOk x2 a b = true := by have q := c28; simp only [Bool.and_eq_true] at q; exact q.2
    have hp28 : bel x2 28 = true := by have q := c28b; unfold insOk at q; simp only [Bool.and_eq_true] at q; exact q.1
    obtain ⟨m, hm, rfl⟩ := bel_of c28a (by decide)
    have hv1 := hv.1
    have hcm := hc.2.1 (6 * s.1 + m) (by omega)
    have hmv := hv.2.1 (6 * s.1 + m) (by omega)
    have hw := hc.1
    obtain ⟨M, hMe⟩ : ∃ M, M = s.2.1 (6 * s.1 + m) := ⟨_, rfl⟩
    rw [← hMe] at hcm hmv
    have hz : zM s (nI m).toNatClampNeg = M := by rw [nI_clamp (by omega), hMe]; rfl
    obtain ⟨hN, hR, hA, hL⟩ := hcm.1
    have hN6 := hmv.1
    have hR8 := hmv.2.1
    obtain ⟨p, hp, rfl⟩ := bel_of hp28 (by decide)
    refine go_aload_n dR_add_33 rfl rfl ?_
    refine go_iload_n dR_add_34 rfl rfl ?_
    refine go_cV (k' := (0, 0)) dR_add_35 _ csR_135 (hS.s sh_163) rfl imR_own seR_own rfl (okR_own (d := 0) w G s.1 m hw hS) (by omega) (by decide) (Nat.le_of_ble_eq_true rfl) (fun r G1 hr hn => ?_)
    obtain ⟨rfl, hG⟩ := hr
    rw [hG]
    clear hG hn
    refine go_istore dR_add_38 (Nat.le_of_ble_eq_true rfl) ?_
    refine go_aload_n dR_add_40 rfl rfl ?_
    refine go_getO (a := 167) dR_add_41 flR_19 rfl (hS.s sh_163) (hS.r rt_many) ?_
    refine go_iload dR_add_44 rfl ?_
    first | refine go_ialV (hS.s sh_167) (by omega) (by decide) (by assumption) dR_add_46 ?_ | refine go_ialoadN (hS.s sh_167) (by omega) (by decide) dR_add_46 ?_
    refine go_bipush (nI 60) (by decide) dR_add_47 ?_
    refine go_icmp_neN (by omega) (by omega) dR_add_49 (tgt := 55) (by decide) (fun c49 => ?_) (fun c49 => ?_)
    · refine go_aload_n dR_add_55 rfl rfl ?_
      refine go_iload dR_add_56 rfl ?_
      refine go_aload_n dR_add_58 rfl rfl ?_
      refine go_getO (a := 167) dR_add_59 flR_19 rfl (hS.s sh_163) (hS.r rt_many) ?_
      refine go_iload dR_add_62 rfl ?_
      first | refine go_ialV (hS.s sh_167) (by omega) (by decide) (by assumption) dR_add_64 ?_ | refine go_ialoadN (hS.s sh_167) (by omega) (by decide) dR_add_64 ?_
      refine go_iload_n dR_add_65 rfl rfl ?_
      refine go_iload_n dR_add_66 rfl rfl ?_
      refine go_iload dR_add_67 rfl ?_
      refine go_cV (k' := (0, 0)) dR_add_69 _ csR_149 (hS.s sh_163) rfl imR_put seR_put rfl (okR_put (d := 1) w (by decide) G (6 * s.1 + m) (mN M) p a b (by omega) (by omega) hp hS) (by omega) (by decide) (Nat.le_of_ble_eq_true rfl) (fun r G1 hr hn => ?_)
      obtain ⟨rfl, hG⟩ := hr
      rw [hG]
      clear hn hG
      have hN1 : (R_setF G (6 * s.1 + m) (mN M) (nI p) (nA p a) (nB p b)).2.1 167 (6 * s.1 + m) = nI (mN M) := by unfold R_setF; rw [wi_I (by decide), wi_I (by decide), wi_I (by decide)]; exact hN
      refine go_aload_n dR_add_72 rfl rfl ?_
      refine go_getO (a := 167) dR_add_73 flR_19 rfl (hS.s sh_163) (hS.r rt_many) ?_
      refine go_iload dR_add_76 rfl ?_
      refine go_dup2 dR_add_78 ?_
      first | refine go_ialV (hS.s sh_167) (by omega) (by decide) (by assumption) dR_add_79 ?_ | refine go_ialoadN (hS.s sh_167) (by omega) (by decide) dR_add_79 ?_
      refine go_iconst (nI 1) (by decide) dR_add_80 ?_
      first | refine go_iaddN dR_add_81 ?_ | refine go_iadd dR_add_81 ?_
      refine go_iastoreN (hS.s sh_167) (by omega) (by decide) dR_add_82 ?_
      refine go_aload_n dR_add_83 rfl rfl ?_
      refine go_getO (a := 167) dR_add_84 flR_19 rfl (hS.s sh_163) (hS.r rt_many) ?_
      refine go_iload dR_add_87 rfl ?_
      refine go_ialV (hS.s sh_167) (by omega) (by decide) wi_Is dR_add_89 ?_
      refine go_ireturn rfl dR_add_90 ?_
      first | exact ⟨by unfold aAdd; rw [if_neg (fun q => by rw [q.1, q.2] at c28; exact absurd c28 (by decide))] <;> rfl, by unfold aAdd; rw [if_neg (fun q => by rw [q.1, q.2] at c28; exact absurd c28 (by decide))]; exact rEnd.rf hc⟩ | exact ⟨by unfold aAdd; rw [if_pos ⟨c28a, c28b⟩, hz, if_neg (by omega)], by unfold aAdd; rw [if_pos ⟨c28a, c28b⟩, hz, if_neg (by omega)]; exact rEnd.rf hc⟩ | exact ⟨by unfold aAdd; rw [if_pos ⟨c28a, c28b⟩, hz, if_pos (by omega)], by unfold aAdd; rw [if_pos ⟨c28a, c28b⟩, hz, if_pos (by omega), nI_clamp (by omega), nI_clamp (by omega)]; exact rEnd.put hv hc ((R_setF_o (by omega)).tr (oQ.wi (by omega) (Or.inr (Or.inr ⟨by omega, rfl⟩)))) (hcm.set (mN M + 1) (fun q h1 h2 => by omega) _ (Or.inr rfl) wi_Is)⟩
    · refine go_bipush (-3) (by decide) dR_add_52 ?_
      refine go_ireturn rfl dR_add_54 ?_
      first | exact ⟨by unfold aAdd; rw [if_neg (fun q => by rw [q.1, q.2] at c28; exact absurd c28 (by decide))] <;> rfl, by unfold aAdd; rw [if_neg (fun q => by rw [q.1, q.2] at c28; exact absurd c28 (by decide))]; exact rEnd.rf hc⟩ | exact ⟨by unfold aAdd; rw [if_pos ⟨c28a, c28b⟩, hz, if_neg (by omega)], by unfold aAdd; rw [if_pos ⟨c28a, c28b⟩, hz, if_neg (by omega)]; exact rEnd.rf hc⟩ | exact ⟨by unfold aAdd; rw [if_pos ⟨c28a, c28b⟩, hz, if_pos (by omega)], by unfold aAdd; rw [if_pos ⟨c28a, c28b⟩, hz, if_pos (by omega), nI_clamp (by omega), nI_clamp (by omega)]; exact rEnd.put hv hc ((R_setF_o (by omega)).tr (oQ.wi (by omega) (Or.inr (Or.inr ⟨by omega, rfl⟩)))) (hcm.set (mN M + 1) (fun q h1 h2 => by omega) _ (Or.inr rfl) wi_Is)⟩
  · refine go_iconst (-1) (by decide) dR_add_31 ?_
    refine go_ireturn rfl dR_add_32 ?_
    first | exact ⟨by unfold aAdd; rw [if_neg (fun q => by rw [q.1, q.2] at c28; exact absurd c28 (by decide))] <;> rfl, by unfold aAdd; rw [if_neg (fun q => by rw [q.1, q.2] at c28; exact absurd c28 (by decide))]; exact rEnd.rf hc⟩ | exact ⟨by unfold aAdd; rw [if_pos ⟨c28a, c28b⟩, hz, if_neg (by omega)], by unfold aAdd; rw [if_pos ⟨c28a, c28b⟩, hz, if_neg (by omega)]; exact rEnd.rf hc⟩ | exact ⟨by unfold aAdd; rw [if_pos ⟨c28a, c28b⟩, hz, if_pos (by omega)], by unfold aAdd; rw [if_pos ⟨c28a, c28b⟩, hz, if_pos (by omega), nI_clamp (by omega), nI_clamp (by omega)]; exact rEnd.put hv hc ((R_setF_o (by omega)).tr (oQ.wi (by omega) (Or.inr (Or.inr ⟨by omega, rfl⟩)))) (hcm.set (mN M + 1) (fun q h1 h2 => by omega) _ (Or.inr rfl) wi_Is)⟩
set_option maxRecDepth 100000 in
theorem okR_change (w : am_W) {d : Nat} (hd : 3 ≤ d) (G : am_G) (s : sT) (x z x2 a b : Int32) (hS : St0 G) (hc : rS G s) (hv : sV s) : am_Ok w jR_change d (0, 0) [.inr (some 163), .inl x, .inl z, .inl x2, .inl a, .inl b] G (fun r G' => r = some (.inl (aChange s x z x2 a b).1) ∧ rEnd G G' (aChange s x z x2 a b).2) := by
  refine am_ok_of rfl (Nat.le_of_ble_eq_true rfl) ?_
  show am_Go w jR_change d (0, 0) 0 [some (.inr (some 163)), some (.inl x), some (.inl z), some (.inl x2), some (.inl a), some (.inl b), none] [] G _
  refine R_change_a w hd G x z x2 a b ?_
  refine go_istore dR_change_25 (Nat.le_of_ble_eq_true rfl) ?_
  refine go_iload dR_change_27 rfl ?_
  refine go_if_eqB dR_change_29 (tgt := 52) (by decide) (fun c29 => ?_) (fun c29 => ?_)
  · refine go_iconst (nI 0) (by decide) dR_change_52 ?_
    refine go_zreturn rfl (by first | exact Or.inl rfl | exact Or.inr rfl | exact am_b_01 _) dR_change_53 ?_
    first | exact ⟨by unfold aChange; rw [if_neg (fun q => by rw [q.1.1, q.1.2] at c29; exact absurd c29 (by decide))] <;> rfl, by unfold aChange; rw [if_neg (fun q => by rw [q.1.1, q.1.2] at c29; exact absurd c29 (by decide))]; exact rEnd.rf hc⟩ | exact ⟨by unfold aChange; rw [if_neg (fun q => absurd q.2 (by rw [hz, c49]; decide))] <;> rfl, by unfold aChange; rw [if_neg (fun q => absurd q.2 (by rw [hz, c49]; decide))]; exact rEnd.rf hc⟩ | exact ⟨by unfold aChange; rw [if_pos ⟨⟨c29a, c29b⟩, by rw [hz]; exact c49⟩]; rfl, by unfold aChange; rw [if_pos ⟨⟨c29a, c29b⟩, by rw [hz]; exact c49⟩, hz, nI_clamp (by omega), nI_clamp (by omega), nI_clamp (by omega), hG]; exact rEnd.put hv hc (R_setF_o (by omega)) (hcm.set (mN M) (fun q h1 h2 => h1) _ (Or.inl rfl) (by unfold R_setF; rw [wi_I (by decide), wi_I (by decide), wi_I (by decide)]; exact hN))⟩
  · have c29a : bel x 6 = true := by have q := c29; simp only [Bool.and_eq_true] at q; exact q.1
    have c29b : insOk x2 a b = true := by have q := c29; simp only [Bool.and_eq_true] at q; exact q.2
    have hp28 : bel x2 28 = true := by have q := c29b; unfold insOk at q; simp only [Bool.and_eq_true] at q; exact q.1
    obtain ⟨m, hm, rfl⟩ := bel_of c29a (by decide)
    have hv1 := hv.1
    have hcm := hc.2.1 (6 * s.1 + m) (by omega)
    have hmv := hv.2.1 (6 * s.1 + m) (by omega)
    have hw := hc.1
    obtain ⟨M, hMe⟩ : ∃ M, M = s.2.1 (6 * s.1 + m) := ⟨_, rfl⟩
    rw [← hMe] at hcm hmv
    have hz : zM s (nI m).toNatClampNeg = M := by rw [nI_clamp (by omega), hMe]; rfl
    obtain ⟨hN, hR, hA, hL⟩ := hcm.1
    have hN6 := hmv.1
    have hR8 := hmv.2.1
    obtain ⟨p, hp, rfl⟩ := bel_of hp28 (by decide)
    refine go_iload_n dR_change_32 rfl rfl ?_
    refine go_iconst (nI 0) (by decide) dR_change_33 ?_
    refine go_aload_n dR_change_34 rfl rfl ?_
    refine go_getO (a := 167) dR_change_35 flR_19 rfl (hS.s sh_163) (hS.r rt_many) ?_
    refine go_aload_n dR_change_38 rfl rfl ?_
    refine go_iload_n dR_change_39 rfl rfl ?_
    refine go_cV (k' := (0, 0)) dR_change_40 _ csR_135 (hS.s sh_163) rfl imR_own seR_own rfl (okR_own (d := 0) w G s.1 m hw hS) (by omega) (by decide) (Nat.le_of_ble_eq_true rfl) (fun r G1 hr hn => ?_)
    obtain ⟨rfl, hG⟩ := hr
    rw [hG]
    clear hG hn
    first | refine go_ialV (hS.s sh_167) (by omega) (by decide) (by assumption) dR_change_43 ?_ | refine go_ialoadN (hS.s sh_167) (by omega) (by decide) dR_change_43 ?_
    refine go_iconst (nI 1) (by decide) dR_change_44 ?_
    refine go_isub dR_change_45 ?_
    refine go_cS (k' := (0, 0)) dR_change_46 _ csR_123 stR_in rfl (okR_inN (d := 0) w G z (mN M) (by omega)) (by omega) (by decide) (Nat.le_of_ble_eq_true rfl) (fun r G1 hr hn => ?_)
    obtain ⟨rfl, hG⟩ := hr
    rw [hG]
    clear hG hn
    refine go_if_neB dR_change_49 (tgt := 54) (by decide) (fun c49 => ?_) (fun c49 => ?_)
    · obtain ⟨i, hi, rfl⟩ := bel_of c49 (by omega)
      refine go_aload_n dR_change_54 rfl rfl ?_
      refine go_aload_n dR_change_55 rfl rfl ?_
      refine go_iload_n dR_change_56 rfl rfl ?_
      refine go_cV (k' := (0, 0)) dR_change_57 _ csR_135 (hS.s sh_163) rfl imR_own seR_own rfl (okR_own (d := 0) w G s.1 m hw hS) (by omega) (by decide) (Nat.le_of_ble_eq_true rfl) (fun r G1 hr hn => ?_)
      obtain ⟨rfl, hG⟩ := hr
      rw [hG]
      clear hG hn
      refine go_iload_n dR_change_60 rfl rfl ?_
      refine go_iload_n dR_change_61 rfl rfl ?_
      refine go_iload dR_change_62 rfl ?_
      refine go_iload dR_change_64 rfl ?_
      refine go_cV (k' := (0, 0)) dR_change_66 _ csR_149 (hS.s sh_163) rfl imR_put seR_put rfl (okR_put (d := 1) w (by decide) G (6 * s.1 + m) i p a b (by omega) (by omega) hp hS) (by omega) (by decide) (Nat.le_of_ble_eq_true rfl) (fun r G1 hr hn => ?_)
      obtain ⟨rfl, hG⟩ := hr
      refine go_iconst (nI 1) (by decide) dR_change_69 ?_
      refine go_zreturn rfl (by first | exact Or.inl rfl | exact Or.inr rfl | exact am_b_01 _) dR_change_70 ?_
      first | exact ⟨by unfold aChange; rw [if_neg (fun q => by rw [q.1.1, q.1.2] at c29; exact absurd c29 (by decide))] <;> rfl, by unfold aChange; rw [if_neg (fun q => by rw [q.1.1, q.1.2] at c29; exact absurd c29 (by decide))]; exact rEnd.rf hc⟩ | exact ⟨by unfold aChange; rw [if_neg (fun q => absurd q.2 (by rw [hz, c49]; decide))] <;> rfl, by unfold aChange; rw [if_neg (fun q => absurd q.2 (by rw [hz, c49]; decide))]; exact rEnd.rf hc⟩ | exact ⟨by unfold aChange; rw [if_pos ⟨⟨c29a, c29b⟩, by rw [hz]; exact c49⟩]; rfl, by unfold aChange; rw [if_pos ⟨⟨c29a, c29b⟩, by rw [hz]; exact c49⟩, hz, nI_clamp (by omega), nI_clamp (by omega), nI_clamp (by omega), hG]; exact rEnd.put hv hc (R_setF_o (by omega)) (hcm.set (mN M) (fun q h1 h2 => h1) _ (Or.inl rfl) (by unfold R_setF; rw [wi_I (by decide), wi_I (by decide), wi_I (by decide)]; exact hN))⟩
    · refine go_iconst (nI 0) (by decide) dR_change_52 ?_
      refine go_zreturn rfl (by first | exact Or.inl rfl | exact Or.inr rfl | exact am_b_01 _) dR_change_53 ?_
      first | exact ⟨by unfold aChange; rw [if_neg (fun q => by rw [q.1.1, q.1.2] at c29; exact absurd c29 (by decide))] <;> rfl, by unfold aChange; rw [if_neg (fun q => by rw [q.1.1, q.1.2] at c29; exact absurd c29 (by decide))]; exact rEnd.rf hc⟩ | exact ⟨by unfold aChange; rw [if_neg (fun q => absurd q.2 (by rw [hz, c49]; decide))] <;> rfl, by unfold aChange; rw [if_neg (fun q => absurd q.2 (by rw [hz, c49]; decide))]; exact rEnd.rf hc⟩ | exact ⟨by unfold aChange; rw [if_pos ⟨⟨c29a, c29b⟩, by rw [hz]; exact c49⟩]; rfl, by unfold aChange; rw [if_pos ⟨⟨c29a, c29b⟩, by rw [hz]; exact c49⟩, hz, nI_clamp (by omega), nI_clamp (by omega), nI_clamp (by omega), hG]; exact rEnd.put hv hc (R_setF_o (by omega)) (hcm.set (mN M) (fun q h1 h2 => h1) _ (Or.inl rfl) (by unfold R_setF; rw [wi_I (by decide), wi_I (by decide), wi_I (by decide)]; exact hN))⟩
