def aRan (s : sT) (x : Int32) : Int32 := if x = nI 0 then s.2.2.1 else if x = nI 1 then nI s.2.2.2.1 else if x = nI 2 then nI s.2.2.2.2.1 else if x = nI 3 then nI s.2.2.2.2.2.1 else if x = nI 4 then nI s.2.2.2.2.2.2.1 else if x = nI 5 then nI s.2.2.2.2.2.2.2.1 else -1
def lE (l : lT) : Nat := l.2.2.2.2.1
def aTrace (s : sT) (x : Int32) : Int32 := if bel x (min (lE s.2.2) 120) = true then s.2.2.2.2.2.2.2.2 x.toNatClampNeg else -2
theorem bel_out {x : Int32} {n : Nat} (h : ¬ bel x n = true) : x.toInt < 0 ∨ (n : Int) ≤ x.toInt := by
  unfold bel at h
  rw [decide_eq_true_iff] at h
  omega
set_option maxRecDepth 100000 in
theorem okF_ran0 (w : am_W) {d : Nat} (hd : 3 ≤ d) (G : am_G) (s : sT) (hS : St0 G) (hc : cS G s) (hv : sV s) : am_Ok w jF_ran d (0, 0) [.inr (some 0), .inl (nI 0)] G (fun r G' => r = some (.inl (s.2.2.1)) ∧ G' = G) := by
  refine am_ok_of rfl (Nat.le_of_ble_eq_true rfl) ?_
  show am_Go w jF_ran d (0, 0) 0 [some (.inr (some 0)), some (.inl (nI 0))] [] G _
  have q6 : G.1[0]? = some (0, 0) := hS.s rfl
  have q7 : G.2.2 0 4 = some 159 := hS.r (by decide +kernel)
  have q8 : G.1[159]? = some (0, 4) := hS.s rfl
  obtain ⟨l1, l2, l3, l4, l5, l6, -⟩ := hc.2.2
  refine go_iload_n dF_ran_0 rfl rfl ?_
  refine go_tableIn dF_ran_1 (by decide) (by decide) (off := 39) rfl (tgt := 40) (by decide) ?_
  refine go_aload_n dF_ran_40 rfl rfl ?_
  refine go_getO dF_ran_41 flF_40 rfl (by assumption) (by assumption) ?_
  refine go_getV dF_ran_44 flF_123 rfl (by assumption) (by first | assumption | (simp (disch := omega) only [wi_I, ro_I, wi_In, wi_Is]; done) | (simp (disch := omega) only [wi_I, ro_I, wi_In, wi_Is]; first | assumption | rfl) | rfl) ?_
  refine go_ireturn rfl dF_ran_47 ?_
  exact ⟨rfl, rfl⟩
set_option maxRecDepth 100000 in
theorem okF_ran1 (w : am_W) {d : Nat} (hd : 3 ≤ d) (G : am_G) (s : sT) (hS : St0 G) (hc : cS G s) (hv : sV s) : am_Ok w jF_ran d (0, 0) [.inr (some 0), .inl (nI 1)] G (fun r G' => r = some (.inl (nI s.2.2.2.1)) ∧ G' = G) := by
  refine am_ok_of rfl (Nat.le_of_ble_eq_true rfl) ?_
  show am_Go w jF_ran d (0, 0) 0 [some (.inr (some 0)), some (.inl (nI 1))] [] G _
  have q6 : G.1[0]? = some (0, 0) := hS.s rfl
  have q7 : G.2.2 0 4 = some 159 := hS.r (by decide +kernel)
  have q8 : G.1[159]? = some (0, 4) := hS.s rfl
  obtain ⟨l1, l2, l3, l4, l5, l6, -⟩ := hc.2.2
  refine go_iload_n dF_ran_0 rfl rfl ?_
  refine go_tableIn dF_ran_1 (by decide) (by decide) (off := 47) rfl (tgt := 48) (by decide) ?_
  refine go_aload_n dF_ran_48 rfl rfl ?_
  refine go_getO dF_ran_49 flF_40 rfl (by assumption) (by assumption) ?_
  refine go_getV dF_ran_52 flF_126 rfl (by assumption) (by first | assumption | (simp (disch := omega) only [wi_I, ro_I, wi_In, wi_Is]; done) | (simp (disch := omega) only [wi_I, ro_I, wi_In, wi_Is]; first | assumption | rfl) | rfl) ?_
  refine go_ireturn rfl dF_ran_55 ?_
  exact ⟨rfl, rfl⟩
set_option maxRecDepth 100000 in
theorem okF_ran2 (w : am_W) {d : Nat} (hd : 3 ≤ d) (G : am_G) (s : sT) (hS : St0 G) (hc : cS G s) (hv : sV s) : am_Ok w jF_ran d (0, 0) [.inr (some 0), .inl (nI 2)] G (fun r G' => r = some (.inl (nI s.2.2.2.2.1)) ∧ G' = G) := by
  refine am_ok_of rfl (Nat.le_of_ble_eq_true rfl) ?_
  show am_Go w jF_ran d (0, 0) 0 [some (.inr (some 0)), some (.inl (nI 2))] [] G _
  have q6 : G.1[0]? = some (0, 0) := hS.s rfl
  have q7 : G.2.2 0 4 = some 159 := hS.r (by decide +kernel)
  have q8 : G.1[159]? = some (0, 4) := hS.s rfl
  obtain ⟨l1, l2, l3, l4, l5, l6, -⟩ := hc.2.2
  refine go_iload_n dF_ran_0 rfl rfl ?_
  refine go_tableIn dF_ran_1 (by decide) (by decide) (off := 55) rfl (tgt := 56) (by decide) ?_
  refine go_aload_n dF_ran_56 rfl rfl ?_
  refine go_getO dF_ran_57 flF_40 rfl (by assumption) (by assumption) ?_
  refine go_getV dF_ran_60 flF_129 rfl (by assumption) (by first | assumption | (simp (disch := omega) only [wi_I, ro_I, wi_In, wi_Is]; done) | (simp (disch := omega) only [wi_I, ro_I, wi_In, wi_Is]; first | assumption | rfl) | rfl) ?_
  refine go_ireturn rfl dF_ran_63 ?_
  exact ⟨rfl, rfl⟩
set_option maxRecDepth 100000 in
theorem okF_ran3 (w : am_W) {d : Nat} (hd : 3 ≤ d) (G : am_G) (s : sT) (hS : St0 G) (hc : cS G s) (hv : sV s) : am_Ok w jF_ran d (0, 0) [.inr (some 0), .inl (nI 3)] G (fun r G' => r = some (.inl (nI s.2.2.2.2.2.1)) ∧ G' = G) := by
  refine am_ok_of rfl (Nat.le_of_ble_eq_true rfl) ?_
  show am_Go w jF_ran d (0, 0) 0 [some (.inr (some 0)), some (.inl (nI 3))] [] G _
  have q6 : G.1[0]? = some (0, 0) := hS.s rfl
  have q7 : G.2.2 0 4 = some 159 := hS.r (by decide +kernel)
  have q8 : G.1[159]? = some (0, 4) := hS.s rfl
  obtain ⟨l1, l2, l3, l4, l5, l6, -⟩ := hc.2.2
  refine go_iload_n dF_ran_0 rfl rfl ?_
  refine go_tableIn dF_ran_1 (by decide) (by decide) (off := 63) rfl (tgt := 64) (by decide) ?_
  refine go_aload_n dF_ran_64 rfl rfl ?_
  refine go_getO dF_ran_65 flF_40 rfl (by assumption) (by assumption) ?_
  refine go_getV dF_ran_68 flF_132 rfl (by assumption) (by first | assumption | (simp (disch := omega) only [wi_I, ro_I, wi_In, wi_Is]; done) | (simp (disch := omega) only [wi_I, ro_I, wi_In, wi_Is]; first | assumption | rfl) | rfl) ?_
  refine go_ireturn rfl dF_ran_71 ?_
  exact ⟨rfl, rfl⟩
set_option maxRecDepth 100000 in
theorem okF_ran4 (w : am_W) {d : Nat} (hd : 3 ≤ d) (G : am_G) (s : sT) (hS : St0 G) (hc : cS G s) (hv : sV s) : am_Ok w jF_ran d (0, 0) [.inr (some 0), .inl (nI 4)] G (fun r G' => r = some (.inl (nI s.2.2.2.2.2.2.1)) ∧ G' = G) := by
  refine am_ok_of rfl (Nat.le_of_ble_eq_true rfl) ?_
  show am_Go w jF_ran d (0, 0) 0 [some (.inr (some 0)), some (.inl (nI 4))] [] G _
  have q6 : G.1[0]? = some (0, 0) := hS.s rfl
  have q7 : G.2.2 0 4 = some 159 := hS.r (by decide +kernel)
  have q8 : G.1[159]? = some (0, 4) := hS.s rfl
  obtain ⟨l1, l2, l3, l4, l5, l6, -⟩ := hc.2.2
  refine go_iload_n dF_ran_0 rfl rfl ?_
  refine go_tableIn dF_ran_1 (by decide) (by decide) (off := 71) rfl (tgt := 72) (by decide) ?_
  refine go_aload_n dF_ran_72 rfl rfl ?_
  refine go_getO dF_ran_73 flF_40 rfl (by assumption) (by assumption) ?_
  refine go_getV dF_ran_76 flF_135 rfl (by assumption) (by first | assumption | (simp (disch := omega) only [wi_I, ro_I, wi_In, wi_Is]; done) | (simp (disch := omega) only [wi_I, ro_I, wi_In, wi_Is]; first | assumption | rfl) | rfl) ?_
  refine go_ireturn rfl dF_ran_79 ?_
  exact ⟨rfl, rfl⟩
set_option maxRecDepth 100000 in
theorem okF_ran5 (w : am_W) {d : Nat} (hd : 3 ≤ d) (G : am_G) (s : sT) (hS : St0 G) (hc : cS G s) (hv : sV s) : am_Ok w jF_ran d (0, 0) [.inr (some 0), .inl (nI 5)] G (fun r G' => r = some (.inl (nI s.2.2.2.2.2.2.2.1)) ∧ G' = G) := by
  refine am_ok_of rfl (Nat.le_of_ble_eq_true rfl) ?_
  show am_Go w jF_ran d (0, 0) 0 [some (.inr (some 0)), some (.inl (nI 5))] [] G _
  have q6 : G.1[0]? = some (0, 0) := hS.s rfl
  have q7 : G.2.2 0 4 = some 159 := hS.r (by decide +kernel)
  have q8 : G.1[159]? = some (0, 4) := hS.s rfl
  obtain ⟨l1, l2, l3, l4, l5, l6, -⟩ := hc.2.2
  refine go_iload_n dF_ran_0 rfl rfl ?_
  refine go_tableIn dF_ran_1 (by decide) (by decide) (off := 79) rfl (tgt := 80) (by decide) ?_
  refine go_aload_n dF_ran_80 rfl rfl ?_
  refine go_getO dF_ran_81 flF_40 rfl (by assumption) (by assumption) ?_
  refine go_getV dF_ran_84 flF_138 rfl (by assumption) (by first | assumption | (simp (disch := omega) only [wi_I, ro_I, wi_In, wi_Is]; done) | (simp (disch := omega) only [wi_I, ro_I, wi_In, wi_Is]; first | assumption | rfl) | rfl) ?_
  refine go_ireturn rfl dF_ran_87 ?_
  exact ⟨rfl, rfl⟩
set_option maxRecDepth 100000 in
theorem okF_ran6 (w : am_W) {d : Nat} (hd : 3 ≤ d) (G : am_G) (s : sT) (x : Int32) (hx : ¬ bel x 6 = true) (hS : St0 G) (hc : cS G s) (hv : sV s) : am_Ok w jF_ran d (0, 0) [.inr (some 0), .inl x] G (fun r G' => r = some (.inl (-1)) ∧ G' = G) := by
  refine am_ok_of rfl (Nat.le_of_ble_eq_true rfl) ?_
  show am_Go w jF_ran d (0, 0) 0 [some (.inr (some 0)), some (.inl x)] [] G _
  refine go_iload_n dF_ran_0 rfl rfl ?_
  refine go_tableOut dF_ran_1 (by have q := bel_out hx; omega) (tgt := 88) (by decide) ?_
  refine go_iconst (-1) (by decide) dF_ran_88 ?_
  refine go_ireturn rfl dF_ran_89 ?_
  exact ⟨rfl, rfl⟩
theorem okF_ran (w : am_W) {d : Nat} (hd : 3 ≤ d) (G : am_G) (s : sT) (x : Int32) (hS : St0 G) (hc : cS G s) (hv : sV s) : am_Ok w jF_ran d (0, 0) [.inr (some 0), .inl x] G (fun r G' => r = some (.inl (aRan s x)) ∧ G' = G) := by
  by_cases h : bel x 6 = true
  · obtain ⟨k, hk, rfl⟩ := bel_of h (by decide)
    rcases (show k = 0 ∨ k = 1 ∨ k = 2 ∨ k = 3 ∨ k = 4 ∨ k = 5 by omega) with rfl | rfl | rfl | rfl | rfl | rfl
    · exact (okF_ran0 w hd G s hS hc hv).post (fun r G' q => ⟨q.1, q.2⟩)
    · exact (okF_ran1 w hd G s hS hc hv).post (fun r G' q => ⟨q.1, q.2⟩)
    · exact (okF_ran2 w hd G s hS hc hv).post (fun r G' q => ⟨q.1, q.2⟩)
    · exact (okF_ran3 w hd G s hS hc hv).post (fun r G' q => ⟨q.1, q.2⟩)
    · exact (okF_ran4 w hd G s hS hc hv).post (fun r G' q => ⟨q.1, q.2⟩)
    · exact (okF_ran5 w hd G s hS hc hv).post (fun r G' q => ⟨q.1, q.2⟩)
  · refine (okF_ran6 w hd G s x h hS hc hv).post (fun r G' q => ⟨?_, q.2⟩)
    rw [q.1]
    have hne : ∀ k : Nat, k < 6 → ¬ x = nI k := fun k hk e => h (by rw [e, bel_nI (by omega)]; simp [hk])
    unfold aRan
    rw [if_neg (hne 0 (by omega)), if_neg (hne 1 (by omega)), if_neg (hne 2 (by omega)), if_neg (hne 3 (by omega)), if_neg (hne 4 (by omega)), if_neg (hne 5 (by omega))]
theorem min_nI {a b : Nat} (ha : a < 2 ^ 31) (hb : b < 2 ^ 31) : (if nI b < nI a then nI b else nI a) = nI (min a b) := by
  by_cases h : b < a
  · rw [if_pos ((nI_ltI hb ha).mpr h), Nat.min_eq_right (by omega)]
  · rw [if_neg (fun q => h ((nI_ltI hb ha).mp q)), Nat.min_eq_left (by omega)]
theorem max_nI {a b : Nat} (ha : a < 2 ^ 31) (hb : b < 2 ^ 31) : (if nI a < nI b then nI b else nI a) = nI (max a b) := by
  by_cases h : a < b
  · rw [if_pos ((nI_ltI ha hb).mpr h), Nat.max_eq_right (by omega)]
  · rw [if_neg (fun q => h ((nI_ltI ha hb).mp q)), Nat.max_eq_left (by omega)]
set_option maxRecDepth 100000 in
theorem okL_entriesKept (w : am_W) {d : Nat} (hd : 1 ≤ d) (G : am_G) (h n : Nat) (hn : n < 2 ^ 31) (hs : G.1[h]? = some (0, 4)) (he : G.2.1 h 6 = nI n) : am_Ok w jL_entriesKept d (0, 0) [.inr (some h)] G (fun r G' => r = some (.inl (nI (min n 120))) ∧ G' = G) := by
  refine am_ok_of rfl (Nat.le_of_ble_eq_true rfl) ?_
  show am_Go w jL_entriesKept d (0, 0) 0 [some (.inr (some h))] [] G _
  refine go_aload_n dL_entriesKept_0 rfl rfl ?_
  refine go_getV dL_entriesKept_1 flL_31 rfl (by assumption) (by first | assumption | (simp (disch := omega) only [wi_I, ro_I, wi_In, wi_Is]; done) | (simp (disch := omega) only [wi_I, ro_I, wi_In, wi_Is]; first | assumption | rfl) | rfl) ?_
  refine go_bipush (nI 120) (by decide) dL_entriesKept_4 ?_
  refine go_min (by omega) (Nat.le_of_ble_eq_true rfl) lkL_37 min_st math_in min_co dL_entriesKept_6 ?_
  refine go_ireturn rfl dL_entriesKept_9 ?_
  exact ⟨by rw [min_nI hn (by decide)], rfl⟩
set_option maxRecDepth 100000 in
theorem okF_trace (w : am_W) {d : Nat} (hd : 3 ≤ d) (G : am_G) (s : sT) (x : Int32) (hS : St0 G) (hc : cS G s) (hv : sV s) : am_Ok w jF_trace d (0, 0) [.inr (some 0), .inl x] G (fun r G' => r = some (.inl (aTrace s x)) ∧ G' = G) := by
  refine am_ok_of rfl (Nat.le_of_ble_eq_true rfl) ?_
  show am_Go w jF_trace d (0, 0) 0 [some (.inr (some 0)), some (.inl x)] [] G _
  have q6 : G.1[0]? = some (0, 0) := hS.s rfl
  have q7 : G.2.2 0 4 = some 159 := hS.r (by decide +kernel)
  have q8 : G.1[159]? = some (0, 4) := hS.s rfl
  obtain ⟨l1, l2, l3, l4, l5, l6, l7⟩ := hc.2.2
  have q9 : G.2.2 159 0 = some 160 := hS.r (by decide +kernel)
  have q10 : G.1[160]? = some (1, 120) := hS.s rfl
  have hl : lE s.2.2 < 100000 := hv.2.2.2.2.2.1
  refine go_iload_n dF_trace_0 rfl rfl ?_
  refine go_aload_n dF_trace_1 rfl rfl ?_
  refine go_getO dF_trace_2 flF_40 rfl (by assumption) (by assumption) ?_
  refine go_cV (k' := (0, 0)) dF_trace_5 _ csF_141 (by assumption) rfl imL_entriesKept seL_entriesKept rfl (okL_entriesKept (d := 1) w (by decide) G 159 (lE s.2.2) (by omega) q8 l5) (by omega) (by decide) (Nat.le_of_ble_eq_true rfl) (fun r G1 hr hn => ?_)
  obtain ⟨rfl, hG⟩ := hr
  rw [hG]
  clear hG hn
  refine go_cS (k' := (0, 0)) dF_trace_8 _ csF_51 stF_isBelow rfl (okF_below (d := 0) w G x (min (lE s.2.2) 120) (by omega)) (by omega) (by decide) (Nat.le_of_ble_eq_true rfl) (fun r G1 hr hn => ?_)
  obtain ⟨rfl, hG⟩ := hr
  rw [hG]
  clear hG hn
  refine go_if_eqB dF_trace_11 (tgt := 26) (by decide) (fun c11 => ?_) (fun c11 => ?_)
  · refine go_bipush (-2) (by decide) dF_trace_26 ?_
    refine go_ireturn rfl dF_trace_28 ?_
    first | exact ⟨by unfold aTrace; rw [if_neg (fun q => absurd q (by rw [c11]; decide))], rfl⟩ | exact ⟨by unfold aTrace; rw [if_pos c11, nI_clamp (by omega)], rfl⟩
  · obtain ⟨i, hi, rfl⟩ := bel_of c11 (by omega)
    have l8 := l7 i (by unfold lE at hi; omega) (by omega)
    refine go_aload_n dF_trace_14 rfl rfl ?_
    refine go_getO dF_trace_15 flF_40 rfl (by assumption) (by assumption) ?_
    refine go_getO dF_trace_18 flF_144 rfl (by assumption) (by assumption) ?_
    refine go_iload_n dF_trace_21 rfl rfl ?_
    refine go_ialV (by assumption) (by omega) (by decide) l8 dF_trace_22 ?_
    refine go_goto dF_trace_23 (tgt := 28) (by decide) ?_
    refine go_ireturn rfl dF_trace_28 ?_
    first | exact ⟨by unfold aTrace; rw [if_neg (fun q => absurd q (by rw [c11]; decide))], rfl⟩ | exact ⟨by unfold aTrace; rw [if_pos c11, nI_clamp (by omega)], rfl⟩
def cpy (X : am_G) (h g k n : Nat) : am_G := am_ro X (h + k) (va_cpy (X.2.1 (g + k)) (X.2.1 (h + k)) 0 0 n)
def E_bec (G : am_G) (h g n r : Nat) (x z : Int32) : am_G := cpy (cpy (cpy (cpy (am_wi (cpy (cpy (cpy (am_wi (E_beg G h x z) h 7 (nI n)) h g 1 n) h g 2 n) h g 3 n) h 8 (nI r)) h g 4 r) h g 5 r) h g 6 r) h g 7 r
theorem cpy_I {X : am_G} {h g k n i : Nat} (hi : i ≠ h + k) : (cpy X h g k n).2.1 i = X.2.1 i := ro_I hi
theorem cpy_at {X : am_G} {h g k n i : Nat} (hi : i < n) : (cpy X h g k n).2.1 (h + k) i = X.2.1 (g + k) i := by
  unfold cpy
  rw [ro_Is, pk_cpy_in (Nat.zero_le _) (by omega), Nat.zero_add, Nat.sub_zero]
theorem cpy_o {X : am_G} {h g k n : Nat} (hk : k < 8) : oR (hR8 h) X (cpy X h g k n) := oR.ro ⟨by omega, by omega⟩
theorem E_bec_o {G : am_G} {h g n r : Nat} {x z : Int32} : oR (hR8 h) G (E_bec G h g n r x z) := by
  have q : hR8 h h := ⟨Nat.le_refl _, by omega⟩
  exact ((((((((E_beg_o.tr (oR.wi q)).tr (cpy_o (by decide))).tr (cpy_o (by decide))).tr (cpy_o (by decide))).tr (oR.wi q)).tr (cpy_o (by decide))).tr (cpy_o (by decide))).tr (cpy_o (by decide))).tr (cpy_o (by decide))
theorem E_bec_M {G : am_G} {h g : Nat} {M : mT} (hd : g + 8 ≤ h ∨ h + 8 ≤ g) (hg : cM G g M) : cM (E_bec G h g (mN M) (mR M) (nI (mG M)) (am_b (mL M))) h M := by
  obtain ⟨-, hc, hr⟩ := hg
  have b0 : ∀ i, i ≠ h → (E_beg G h (nI (mG M)) (am_b (mL M))).2.1 i = G.2.1 i := fun i hi => by
    unfold E_beg; rw [wi_I hi, wi_I hi, wi_I hi, wi_I hi]
  have hb := (cM.beg (G := G) (h := h) (M := M) (a := mG M) (c := mL M))
  refine ⟨⟨?_, ?_, ?_, ?_⟩, fun i hi => ⟨?_, ?_, ?_⟩, fun i hi => ⟨?_, ?_, ?_, ?_⟩⟩
  · unfold E_bec; rw [cpy_I (by omega), cpy_I (by omega), cpy_I (by omega), cpy_I (by omega), wi_In (by decide), cpy_I (by omega), cpy_I (by omega), cpy_I (by omega), wi_Is]
  · unfold E_bec; rw [cpy_I (by omega), cpy_I (by omega), cpy_I (by omega), cpy_I (by omega), wi_Is]
  · unfold E_bec; rw [cpy_I (by omega), cpy_I (by omega), cpy_I (by omega), cpy_I (by omega), wi_In (by decide), cpy_I (by omega), cpy_I (by omega), cpy_I (by omega), wi_In (by decide)]; unfold E_beg; rw [wi_In (by decide), wi_Is]
  · unfold E_bec; rw [cpy_I (by omega), cpy_I (by omega), cpy_I (by omega), cpy_I (by omega), wi_In (by decide), cpy_I (by omega), cpy_I (by omega), cpy_I (by omega), wi_In (by decide)]; unfold E_beg; rw [wi_Is]
  · unfold E_bec; rw [cpy_I (by omega), cpy_I (by omega), cpy_I (by omega), cpy_I (by omega), wi_I (by omega), cpy_I (by omega), cpy_I (by omega), cpy_at hi, wi_I (by omega), b0 _ (by omega)]; exact (hc i hi).1
  · unfold E_bec; rw [cpy_I (by omega), cpy_I (by omega), cpy_I (by omega), cpy_I (by omega), wi_I (by omega), cpy_I (by omega), cpy_at hi, cpy_I (by omega), wi_I (by omega), b0 _ (by omega)]; exact (hc i hi).2.1
  · unfold E_bec; rw [cpy_I (by omega), cpy_I (by omega), cpy_I (by omega), cpy_I (by omega), wi_I (by omega), cpy_at hi, cpy_I (by omega), cpy_I (by omega), wi_I (by omega), b0 _ (by omega)]; exact (hc i hi).2.2
  · unfold E_bec; rw [cpy_I (by omega), cpy_I (by omega), cpy_I (by omega), cpy_at hi, wi_I (by omega), cpy_I (by omega), cpy_I (by omega), cpy_I (by omega), wi_I (by omega), b0 _ (by omega)]; exact (hr i hi).1
  · unfold E_bec; rw [cpy_I (by omega), cpy_I (by omega), cpy_at hi, cpy_I (by omega), wi_I (by omega), cpy_I (by omega), cpy_I (by omega), cpy_I (by omega), wi_I (by omega), b0 _ (by omega)]; exact (hr i hi).2.1
  · unfold E_bec; rw [cpy_I (by omega), cpy_at hi, cpy_I (by omega), cpy_I (by omega), wi_I (by omega), cpy_I (by omega), cpy_I (by omega), cpy_I (by omega), wi_I (by omega), b0 _ (by omega)]; exact (hr i hi).2.2.1
  · unfold E_bec; rw [cpy_at hi, cpy_I (by omega), cpy_I (by omega), cpy_I (by omega), wi_I (by omega), cpy_I (by omega), cpy_I (by omega), cpy_I (by omega), wi_I (by omega), b0 _ (by omega)]; exact (hr i hi).2.2.2
theorem oR.im {S : Nat → Prop} {G X : am_G} {h : Nat} (q : oR S G X) (hM : isM G h) : isM X h := by
  unfold isM
  rw [q.1, q.2.1]
  exact hM
set_option maxRecDepth 100000 in
theorem okE_become (w : am_W) {d : Nat} (hd : 1 ≤ d) (G : am_G) (h g : Nat) (M : mT) (hdj : g + 8 ≤ h ∨ h + 8 ≤ g) (hn6 : mN M ≤ 60) (hr8 : mR M ≤ 8) (hM : isM G h) (hMg : isM G g) (hg : cM G g M) : am_Ok w jE_become d (0, 0) [.inr (some h), .inr (some g)] G (fun r G' => r = none ∧ G' = E_bec G h g (mN M) (mR M) (nI (mG M)) (am_b (mL M))) := by
  refine am_ok_of rfl (Nat.le_of_ble_eq_true rfl) ?_
  show am_Go w jE_become d (0, 0) 0 [some (.inr (some h)), some (.inr (some g))] [] G _
  have hM2 := hM
  have hMg2 := hMg
  obtain ⟨hs, ⟨r0, r1, r2, r3, r4, r5, r6⟩, s1, s2, s3, s4, s5, s6, s7⟩ := hM2
  obtain ⟨gs, ⟨g0, g1, g2, g3, g4, g5, g6⟩, t1, t2, t3, t4, t5, t6, t7⟩ := hMg2
  obtain ⟨v1, v2, v3, v4⟩ := hg.1
  refine go_aload_n dE_become_0 rfl rfl ?_
  refine go_aload_n dE_become_1 rfl rfl ?_
  refine go_getV dE_become_2 flE_40 rfl (by assumption) (by first | assumption | (simp (disch := omega) only [wi_I, ro_I, wi_In, wi_Is]; done) | (simp (disch := omega) only [wi_I, ro_I, wi_In, wi_Is]; first | assumption | rfl) | rfl) ?_
  refine go_aload_n dE_become_5 rfl rfl ?_
  refine go_getV dE_become_6 flE_43 rfl (by assumption) (by first | assumption | (simp (disch := omega) only [wi_I, ro_I, wi_In, wi_Is]; done) | (simp (disch := omega) only [wi_I, ro_I, wi_In, wi_Is]; first | assumption | rfl) | rfl) ?_
  refine go_cV (k' := (0, 0)) dE_become_9 _ csE_47 (by assumption) rfl imE_begin seE_begin rfl (okE_begin (d := 0) w G h (nI (mG M)) (mL M) hM) (by omega) (by decide) (Nat.le_of_ble_eq_true rfl) (fun r G1 hr hn => ?_)
  obtain ⟨rfl, hG⟩ := hr
  rw [hG]
  clear hG hn
  have e9 : (E_beg G h (nI (mG M)) (am_b (mL M))).2.1 g 7 = nI (mN M) := by unfold E_beg; rw [wi_I (by omega), wi_I (by omega), wi_I (by omega), wi_I (by omega)]; exact v1
  refine go_aload_n dE_become_12 rfl rfl ?_
  refine go_aload_n dE_become_13 rfl rfl ?_
  refine go_getV dE_become_14 flE_33 rfl (by assumption) (by first | assumption | (simp (disch := omega) only [wi_I, ro_I, wi_In, wi_Is]; done) | (simp (disch := omega) only [wi_I, ro_I, wi_In, wi_Is]; first | assumption | rfl) | rfl) ?_
  refine go_putI dE_become_17 fpE_33 rfl (by assumption) ?_
  refine go_gen (G := am_wi (E_beg G h (nI (mG M)) (am_b (mL M))) h 7 (nI (mN M))) (fun X0 e0 => ?_)
  have o0 : oR (hR8 h) G X0 := by rw [e0]; exact E_beg_o.tr (oR.wi ⟨Nat.le_refl _, by omega⟩)
  replace hM := o0.im hM
  replace hMg := o0.im hMg
  replace hg := hg.same (fun i h1 h2 => o0.2.2 i (by unfold hR8; omega))
  have y0 : X0.2.1 h 7 = nI (mN M) := by rw [e0]; exact wi_Is
  have hM2 := hM
  have hMg2 := hMg
  obtain ⟨hs, ⟨r0, r1, r2, r3, r4, r5, r6⟩, s1, s2, s3, s4, s5, s6, s7⟩ := hM2
  obtain ⟨gs, ⟨g0, g1, g2, g3, g4, g5, g6⟩, t1, t2, t3, t4, t5, t6, t7⟩ := hMg2
  obtain ⟨v1, v2, v3, v4⟩ := hg.1
  refine go_aload_n dE_become_20 rfl rfl ?_
  refine go_getO dE_become_21 flE_9 rfl (by assumption) (by assumption) ?_
  refine go_iconst (nI 0) (by decide) dE_become_24 ?_
  refine go_aload_n dE_become_25 rfl rfl ?_
  refine go_getO dE_become_26 flE_9 rfl (by assumption) (by assumption) ?_
  refine go_iconst (nI 0) (by decide) dE_become_29 ?_
  refine go_aload_n dE_become_30 rfl rfl ?_
  refine go_getV dE_become_31 flE_33 rfl (by assumption) (by first | assumption | (simp (disch := omega) only [wi_I, ro_I, wi_In, wi_Is]; done) | (simp (disch := omega) only [wi_I, ro_I, wi_In, wi_Is]; first | assumption | rfl) | rfl) ?_
  refine go_cp dE_become_34 lkE_51 (by omega) (by assumption) (by assumption) (by omega) (by omega) (by decide) (by decide) (Nat.le_of_ble_eq_true rfl) ?_
  refine go_gen (G := cpy X0 h g 1 (mN M)) (fun X1 e1 => ?_)
  have o1 : oR (hR8 h) X0 X1 := by rw [e1]; exact cpy_o (by decide)
  replace hM := o1.im hM
  replace hMg := o1.im hMg
  replace hg := hg.same (fun i h1 h2 => o1.2.2 i (by unfold hR8; omega))
  have y1 : X1.2.1 h 7 = nI (mN M) := by rw [e1]; exact (by rw [cpy_I (by omega)]; exact y0)
  have hM2 := hM
  have hMg2 := hMg
  obtain ⟨hs, ⟨r0, r1, r2, r3, r4, r5, r6⟩, s1, s2, s3, s4, s5, s6, s7⟩ := hM2
  obtain ⟨gs, ⟨g0, g1, g2, g3, g4, g5, g6⟩, t1, t2, t3, t4, t5, t6, t7⟩ := hMg2
  obtain ⟨v1, v2, v3, v4⟩ := hg.1
  refine go_aload_n dE_become_37 rfl rfl ?_
  refine go_getO dE_become_38 flE_15 rfl (by assumption) (by assumption) ?_
  refine go_iconst (nI 0) (by decide) dE_become_41 ?_
  refine go_aload_n dE_become_42 rfl rfl ?_
  refine go_getO dE_become_43 flE_15 rfl (by assumption) (by assumption) ?_
  refine go_iconst (nI 0) (by decide) dE_become_46 ?_
  refine go_aload_n dE_become_47 rfl rfl ?_
  refine go_getV dE_become_48 flE_33 rfl (by assumption) (by first | assumption | (simp (disch := omega) only [wi_I, ro_I, wi_In, wi_Is]; done) | (simp (disch := omega) only [wi_I, ro_I, wi_In, wi_Is]; first | assumption | rfl) | rfl) ?_
  refine go_cp dE_become_51 lkE_51 (by omega) (by assumption) (by assumption) (by omega) (by omega) (by decide) (by decide) (Nat.le_of_ble_eq_true rfl) ?_
  refine go_gen (G := cpy X1 h g 2 (mN M)) (fun X2 e2 => ?_)
  have o2 : oR (hR8 h) X1 X2 := by rw [e2]; exact cpy_o (by decide)
  replace hM := o2.im hM
  replace hMg := o2.im hMg
  replace hg := hg.same (fun i h1 h2 => o2.2.2 i (by unfold hR8; omega))
  have y2 : X2.2.1 h 7 = nI (mN M) := by rw [e2]; exact (by rw [cpy_I (by omega)]; exact y1)
  have hM2 := hM
  have hMg2 := hMg
  obtain ⟨hs, ⟨r0, r1, r2, r3, r4, r5, r6⟩, s1, s2, s3, s4, s5, s6, s7⟩ := hM2
  obtain ⟨gs, ⟨g0, g1, g2, g3, g4, g5, g6⟩, t1, t2, t3, t4, t5, t6, t7⟩ := hMg2
  obtain ⟨v1, v2, v3, v4⟩ := hg.1
  refine go_aload_n dE_become_54 rfl rfl ?_
  refine go_getO dE_become_55 flE_18 rfl (by assumption) (by assumption) ?_
  refine go_iconst (nI 0) (by decide) dE_become_58 ?_
  refine go_aload_n dE_become_59 rfl rfl ?_
  refine go_getO dE_become_60 flE_18 rfl (by assumption) (by assumption) ?_
  refine go_iconst (nI 0) (by decide) dE_become_63 ?_
  refine go_aload_n dE_become_64 rfl rfl ?_
  refine go_getV dE_become_65 flE_33 rfl (by assumption) (by first | assumption | (simp (disch := omega) only [wi_I, ro_I, wi_In, wi_Is]; done) | (simp (disch := omega) only [wi_I, ro_I, wi_In, wi_Is]; first | assumption | rfl) | rfl) ?_
  refine go_cp dE_become_68 lkE_51 (by omega) (by assumption) (by assumption) (by omega) (by omega) (by decide) (by decide) (Nat.le_of_ble_eq_true rfl) ?_
  refine go_gen (G := cpy X2 h g 3 (mN M)) (fun X3 e3 => ?_)
  have o3 : oR (hR8 h) X2 X3 := by rw [e3]; exact cpy_o (by decide)
  replace hM := o3.im hM
  replace hMg := o3.im hMg
  replace hg := hg.same (fun i h1 h2 => o3.2.2 i (by unfold hR8; omega))
  have y3 : X3.2.1 h 7 = nI (mN M) := by rw [e3]; exact (by rw [cpy_I (by omega)]; exact y2)
  have hM2 := hM
  have hMg2 := hMg
  obtain ⟨hs, ⟨r0, r1, r2, r3, r4, r5, r6⟩, s1, s2, s3, s4, s5, s6, s7⟩ := hM2
  obtain ⟨gs, ⟨g0, g1, g2, g3, g4, g5, g6⟩, t1, t2, t3, t4, t5, t6, t7⟩ := hMg2
  obtain ⟨v1, v2, v3, v4⟩ := hg.1
  refine go_aload_n dE_become_71 rfl rfl ?_
  refine go_aload_n dE_become_72 rfl rfl ?_
  refine go_getV dE_become_73 flE_37 rfl (by assumption) (by first | assumption | (simp (disch := omega) only [wi_I, ro_I, wi_In, wi_Is]; done) | (simp (disch := omega) only [wi_I, ro_I, wi_In, wi_Is]; first | assumption | rfl) | rfl) ?_
  refine go_putI dE_become_76 fpE_37 rfl (by assumption) ?_
  refine go_gen (G := am_wi X3 h 8 (nI (mR M))) (fun X4 e4 => ?_)
  have o4 : oR (hR8 h) X3 X4 := by rw [e4]; exact oR.wi ⟨Nat.le_refl _, by omega⟩
  replace hM := o4.im hM
  replace hMg := o4.im hMg
  replace hg := hg.same (fun i h1 h2 => o4.2.2 i (by unfold hR8; omega))
  have y4 : X4.2.1 h 7 = nI (mN M) := by rw [e4]; exact (wi_Vn (by decide) y3)
  have u4 : X4.2.1 h 8 = nI (mR M) := by rw [e4]; exact wi_Is
  have hM2 := hM
  have hMg2 := hMg
  obtain ⟨hs, ⟨r0, r1, r2, r3, r4, r5, r6⟩, s1, s2, s3, s4, s5, s6, s7⟩ := hM2
  obtain ⟨gs, ⟨g0, g1, g2, g3, g4, g5, g6⟩, t1, t2, t3, t4, t5, t6, t7⟩ := hMg2
  obtain ⟨v1, v2, v3, v4⟩ := hg.1
  refine go_aload_n dE_become_79 rfl rfl ?_
  refine go_getO dE_become_80 flE_21 rfl (by assumption) (by assumption) ?_
  refine go_iconst (nI 0) (by decide) dE_become_83 ?_
  refine go_aload_n dE_become_84 rfl rfl ?_
  refine go_getO dE_become_85 flE_21 rfl (by assumption) (by assumption) ?_
  refine go_iconst (nI 0) (by decide) dE_become_88 ?_
  refine go_aload_n dE_become_89 rfl rfl ?_
  refine go_getV dE_become_90 flE_37 rfl (by assumption) (by first | assumption | (simp (disch := omega) only [wi_I, ro_I, wi_In, wi_Is]; done) | (simp (disch := omega) only [wi_I, ro_I, wi_In, wi_Is]; first | assumption | rfl) | rfl) ?_
  refine go_cp dE_become_93 lkE_51 (by omega) (by assumption) (by assumption) (by omega) (by omega) (by decide) (by decide) (Nat.le_of_ble_eq_true rfl) ?_
  refine go_gen (G := cpy X4 h g 4 (mR M)) (fun X5 e5 => ?_)
  have o5 : oR (hR8 h) X4 X5 := by rw [e5]; exact cpy_o (by decide)
  replace hM := o5.im hM
  replace hMg := o5.im hMg
  replace hg := hg.same (fun i h1 h2 => o5.2.2 i (by unfold hR8; omega))
  have y5 : X5.2.1 h 7 = nI (mN M) := by rw [e5]; exact (by rw [cpy_I (by omega)]; exact y4)
  have u5 : X5.2.1 h 8 = nI (mR M) := by rw [e5]; exact (by rw [cpy_I (by omega)]; exact u4)
  have hM2 := hM
  have hMg2 := hMg
  obtain ⟨hs, ⟨r0, r1, r2, r3, r4, r5, r6⟩, s1, s2, s3, s4, s5, s6, s7⟩ := hM2
  obtain ⟨gs, ⟨g0, g1, g2, g3, g4, g5, g6⟩, t1, t2, t3, t4, t5, t6, t7⟩ := hMg2
  obtain ⟨v1, v2, v3, v4⟩ := hg.1
  refine go_aload_n dE_become_96 rfl rfl ?_
  refine go_getO dE_become_97 flE_24 rfl (by assumption) (by assumption) ?_
  refine go_iconst (nI 0) (by decide) dE_become_100 ?_
  refine go_aload_n dE_become_101 rfl rfl ?_
  refine go_getO dE_become_102 flE_24 rfl (by assumption) (by assumption) ?_
  refine go_iconst (nI 0) (by decide) dE_become_105 ?_
  refine go_aload_n dE_become_106 rfl rfl ?_
  refine go_getV dE_become_107 flE_37 rfl (by assumption) (by first | assumption | (simp (disch := omega) only [wi_I, ro_I, wi_In, wi_Is]; done) | (simp (disch := omega) only [wi_I, ro_I, wi_In, wi_Is]; first | assumption | rfl) | rfl) ?_
  refine go_cp dE_become_110 lkE_51 (by omega) (by assumption) (by assumption) (by omega) (by omega) (by decide) (by decide) (Nat.le_of_ble_eq_true rfl) ?_
  refine go_gen (G := cpy X5 h g 5 (mR M)) (fun X6 e6 => ?_)
  have o6 : oR (hR8 h) X5 X6 := by rw [e6]; exact cpy_o (by decide)
  replace hM := o6.im hM
  replace hMg := o6.im hMg
  replace hg := hg.same (fun i h1 h2 => o6.2.2 i (by unfold hR8; omega))
  have y6 : X6.2.1 h 7 = nI (mN M) := by rw [e6]; exact (by rw [cpy_I (by omega)]; exact y5)
  have u6 : X6.2.1 h 8 = nI (mR M) := by rw [e6]; exact (by rw [cpy_I (by omega)]; exact u5)
  have hM2 := hM
  have hMg2 := hMg
  obtain ⟨hs, ⟨r0, r1, r2, r3, r4, r5, r6⟩, s1, s2, s3, s4, s5, s6, s7⟩ := hM2
  obtain ⟨gs, ⟨g0, g1, g2, g3, g4, g5, g6⟩, t1, t2, t3, t4, t5, t6, t7⟩ := hMg2
  obtain ⟨v1, v2, v3, v4⟩ := hg.1
  refine go_aload_n dE_become_113 rfl rfl ?_
  refine go_getO dE_become_114 flE_27 rfl (by assumption) (by assumption) ?_
  refine go_iconst (nI 0) (by decide) dE_become_117 ?_
  refine go_aload_n dE_become_118 rfl rfl ?_
  refine go_getO dE_become_119 flE_27 rfl (by assumption) (by assumption) ?_
  refine go_iconst (nI 0) (by decide) dE_become_122 ?_
  refine go_aload_n dE_become_123 rfl rfl ?_
  refine go_getV dE_become_124 flE_37 rfl (by assumption) (by first | assumption | (simp (disch := omega) only [wi_I, ro_I, wi_In, wi_Is]; done) | (simp (disch := omega) only [wi_I, ro_I, wi_In, wi_Is]; first | assumption | rfl) | rfl) ?_
  refine go_cp dE_become_127 lkE_51 (by omega) (by assumption) (by assumption) (by omega) (by omega) (by decide) (by decide) (Nat.le_of_ble_eq_true rfl) ?_
  refine go_gen (G := cpy X6 h g 6 (mR M)) (fun X7 e7 => ?_)
  have o7 : oR (hR8 h) X6 X7 := by rw [e7]; exact cpy_o (by decide)
  replace hM := o7.im hM
  replace hMg := o7.im hMg
  replace hg := hg.same (fun i h1 h2 => o7.2.2 i (by unfold hR8; omega))
  have y7 : X7.2.1 h 7 = nI (mN M) := by rw [e7]; exact (by rw [cpy_I (by omega)]; exact y6)
  have u7 : X7.2.1 h 8 = nI (mR M) := by rw [e7]; exact (by rw [cpy_I (by omega)]; exact u6)
  have hM2 := hM
  have hMg2 := hMg
  obtain ⟨hs, ⟨r0, r1, r2, r3, r4, r5, r6⟩, s1, s2, s3, s4, s5, s6, s7⟩ := hM2
  obtain ⟨gs, ⟨g0, g1, g2, g3, g4, g5, g6⟩, t1, t2, t3, t4, t5, t6, t7⟩ := hMg2
  obtain ⟨v1, v2, v3, v4⟩ := hg.1
  refine go_aload_n dE_become_130 rfl rfl ?_
  refine go_getO dE_become_131 flE_30 rfl (by assumption) (by assumption) ?_
  refine go_iconst (nI 0) (by decide) dE_become_134 ?_
  refine go_aload_n dE_become_135 rfl rfl ?_
  refine go_getO dE_become_136 flE_30 rfl (by assumption) (by assumption) ?_
  refine go_iconst (nI 0) (by decide) dE_become_139 ?_
  refine go_aload_n dE_become_140 rfl rfl ?_
  refine go_getV dE_become_141 flE_37 rfl (by assumption) (by first | assumption | (simp (disch := omega) only [wi_I, ro_I, wi_In, wi_Is]; done) | (simp (disch := omega) only [wi_I, ro_I, wi_In, wi_Is]; first | assumption | rfl) | rfl) ?_
  refine go_cp dE_become_144 lkE_51 (by omega) (by assumption) (by assumption) (by omega) (by omega) (by decide) (by decide) (Nat.le_of_ble_eq_true rfl) ?_
  refine go_gen (G := cpy X7 h g 7 (mR M)) (fun X8 e8 => ?_)
  have o8 : oR (hR8 h) X7 X8 := by rw [e8]; exact cpy_o (by decide)
  replace hM := o8.im hM
  replace hMg := o8.im hMg
  replace hg := hg.same (fun i h1 h2 => o8.2.2 i (by unfold hR8; omega))
  have y8 : X8.2.1 h 7 = nI (mN M) := by rw [e8]; exact (by rw [cpy_I (by omega)]; exact y7)
  have u8 : X8.2.1 h 8 = nI (mR M) := by rw [e8]; exact (by rw [cpy_I (by omega)]; exact u7)
  have hM2 := hM
  have hMg2 := hMg
  obtain ⟨hs, ⟨r0, r1, r2, r3, r4, r5, r6⟩, s1, s2, s3, s4, s5, s6, s7⟩ := hM2
  obtain ⟨gs, ⟨g0, g1, g2, g3, g4, g5, g6⟩, t1, t2, t3, t4, t5, t6, t7⟩ := hMg2
  obtain ⟨v1, v2, v3, v4⟩ := hg.1
  refine go_return rfl dE_become_147 ?_
  exact ⟨rfl, by unfold E_bec; rw [e8, e7, e6, e5, e4, e3, e2, e1, e0]⟩
/-- program 1's methods below m are program 0's -/
def bcI (G0 G : am_G) (f : Nat → mT) (m : Nat) : Prop := oR (fun i => 54 ≤ i ∧ i < 102) G0 G ∧ (∀ q, q < 6 → cM G (mo 0 q) (f q)) ∧ ∀ q, q < m → cM G (mo 1 q) (f q)
theorem oR.tr2 {S : Nat → Prop} {G G1 G2 : am_G} (h1 : oR S G G1) (h2 : oR S G1 G2) : oR S G G2 := h1.tr h2
set_option maxRecDepth 100000 in
theorem P_bloop (w : am_W) {d : Nat} (hd : 2 ≤ d) (G0 : am_G) (f : Nat → mT) (hS : St0 G0) (hv : ∀ q, q < 6 → mN (f q) ≤ 60 ∧ mR (f q) ≤ 8) : ∀ (r m : Nat) (G : am_G), m + r = 6 → bcI G0 G f m →
    am_Go w jP_become d (0, 0) 2 [some (.inr (some 52)), some (.inr (some 2)), some (.inl (nI m))] [] G (fun rr G' => rr = none ∧ bcI G0 G' f 6) := by
  intro r
  induction r with
  | zero =>
    intro m G hm hI
    refine go_iload_n dP_become_2 rfl rfl ?_
    refine go_bipush (nI 6) (by decide) dP_become_3 ?_
    refine go_icmp_geN (by omega) (by decide) dP_become_5 (tgt := 29) (by decide) (fun c => ?_) (fun c => absurd c (by omega))
    exact go_return rfl dP_become_29 ⟨rfl, by rw [show m = 6 by omega] at hI; exact hI⟩
  | succ r ih =>
    intro m G hm hI
    have hS1 : St0 G := hI.1.St hS
    have hm6 : m < 6 := by omega
    obtain ⟨a1, a2, a3, -⟩ := pr_l 0 (by decide)
    obtain ⟨b1, b2, b3, -⟩ := pr_l 1 (by decide)
    refine go_iload_n dP_become_2 rfl rfl ?_
    refine go_bipush (nI 6) (by decide) dP_become_3 ?_
    refine go_icmp_geN (by omega) (by decide) dP_become_5 (tgt := 29) (by decide) (fun c => absurd c (by omega)) (fun c => ?_)
    refine go_aload_n dP_become_8 rfl rfl ?_
    refine go_getO dP_become_9 flP_11 rfl (hS1.s b1) (hS1.r b3) ?_
    refine go_iload_n dP_become_12 rfl rfl ?_
    refine go_aaO (t := 1) (by decide) (hS1.s b2) hm6 (by decide) (hS1.r (pm_l 1 (by decide) m hm6)) dP_become_13 ?_
    refine go_aload_n dP_become_14 rfl rfl ?_
    refine go_getO dP_become_15 flP_11 rfl (hS1.s a1) (hS1.r a3) ?_
    refine go_iload_n dP_become_18 rfl rfl ?_
    refine go_aaO (t := 1) (by decide) (hS1.s a2) hm6 (by decide) (hS1.r (pm_l 0 (by decide) m hm6)) dP_become_19 ?_
    refine go_cV (k' := (0, 0)) dP_become_20 [.inr (some (mo 0 m))] csP_18 (hS1.m (mo_l 1 (by decide) m hm6)).1 rfl imE_become seE_become rfl (okE_become (d := 1) w (by decide) G (mo 1 m) (mo 0 m) (f m) (Or.inl (by unfold mo; omega)) (hv m hm6).1 (hv m hm6).2 (hS1.m (mo_l 1 (by decide) m hm6)) (hS1.m (mo_l 0 (by decide) m hm6)) (hI.2.1 m hm6)) (by omega) (by decide) (Nat.le_of_ble_eq_true rfl) (fun r1 G1 hr hn => ?_)
    obtain ⟨rfl, hG⟩ := hr
    refine go_inc dP_become_23 rfl ?_
    refine go_goto dP_become_26 (tgt := 2) (by decide) ?_
    have ho : oR (hR8 (mo 1 m)) G G1 := by rw [hG]; exact E_bec_o
    refine ih (m + 1) G1 (by omega) ⟨hI.1.tr (ho.up (fun i h => by unfold hR8 mo at h; show 54 ≤ i ∧ i < 102; omega)), fun q hq => (hI.2.1 q hq).same (fun i h1 h2 => ho.2.2 i (by unfold hR8 mo at *; omega)), fun q hq => ?_⟩
    by_cases e : q = m
    · rw [e, hG]; exact E_bec_M (Or.inl (by unfold mo; omega)) (hI.2.1 m hm6)
    · exact (hI.2.2 q (by omega)).same (fun i h1 h2 => ho.2.2 i (by unfold hR8 mo at *; omega))
theorem okP_become (w : am_W) {d : Nat} (hd : 2 ≤ d) (G : am_G) (f : Nat → mT) (hS : St0 G) (hv : ∀ q, q < 6 → mN (f q) ≤ 60 ∧ mR (f q) ≤ 8) (hf : ∀ q, q < 6 → cM G (mo 0 q) (f q)) : am_Ok w jP_become d (0, 0) [.inr (some 52), .inr (some 2)] G (fun rr G' => rr = none ∧ bcI G G' f 6) := by
  refine am_ok_of rfl (Nat.le_of_ble_eq_true rfl) ?_
  show am_Go w jP_become d (0, 0) 0 [some (.inr (some 52)), some (.inr (some 2)), none] [] G _
  refine go_iconst (nI 0) (by decide) dP_become_0 ?_
  refine go_istore_n dP_become_1 rfl (Nat.le_of_ble_eq_true rfl) ?_
  exact P_bloop w hd G f hS hv 6 0 G rfl ⟨oR.rf, hf, fun q hq => absurd hq (Nat.not_lt_zero q)⟩
def sumN (f : Nat → mT) : Nat → Nat
  | 0 => 0
  | n + 1 => sumN f n + mN (f n)
set_option maxRecDepth 100000 in
theorem P_iloop (w : am_W) {d : Nat} (G : am_G) (p : Nat) (hp : p < 2) (f : Nat → mT) (hS : St0 G) (hf : ∀ q, q < 6 → cM G (mo p q) (f q)) : ∀ (r m : Nat), m + r = 6 →
    am_Go w jP_instructions d (0, 0) 4 [some (.inr (some (2 + 50 * p))), some (.inl (nI (sumN f m))), some (.inl (nI m))] [] G (fun rr G' => rr = some (.inl (nI (sumN f 6))) ∧ G' = G) := by
  obtain ⟨a1, a2, a3, -⟩ := pr_l p hp
  intro r
  induction r with
  | zero =>
    intro m hm
    refine go_iload_n dP_instructions_4 rfl rfl ?_
    refine go_bipush (nI 6) (by decide) dP_instructions_5 ?_
    refine go_icmp_geN (by omega) (by decide) dP_instructions_7 (tgt := 28) (by decide) (fun c => ?_) (fun c => absurd c (by omega))
    refine go_iload_n dP_instructions_28 rfl rfl ?_
    exact go_ireturn rfl dP_instructions_29 ⟨by rw [show m = 6 by omega], rfl⟩
  | succ r ih =>
    intro m hm
    have hm6 : m < 6 := by omega
    refine go_iload_n dP_instructions_4 rfl rfl ?_
    refine go_bipush (nI 6) (by decide) dP_instructions_5 ?_
    refine go_icmp_geN (by omega) (by decide) dP_instructions_7 (tgt := 28) (by decide) (fun c => absurd c (by omega)) (fun c => ?_)
    refine go_iload_n dP_instructions_10 rfl rfl ?_
    refine go_aload_n dP_instructions_11 rfl rfl ?_
    refine go_getO dP_instructions_12 flP_11 rfl (hS.s a1) (hS.r a3) ?_
    refine go_iload_n dP_instructions_15 rfl rfl ?_
    refine go_aaO (t := 1) (by decide) (hS.s a2) hm6 (by decide) (hS.r (pm_l p hp m hm6)) dP_instructions_16 ?_
    refine go_getV dP_instructions_17 flP_22 rfl (hS.m (mo_l p hp m hm6)).1 (hf m hm6).1.1 ?_
    refine go_iadd dP_instructions_20 ?_
    rw [nI_add]
    refine go_istore_n dP_instructions_21 rfl (Nat.le_of_ble_eq_true rfl) ?_
    refine go_inc dP_instructions_22 rfl ?_
    refine go_goto dP_instructions_25 (tgt := 4) (by decide) ?_
    exact ih (m + 1) (by omega)
theorem okP_instructions (w : am_W) {d : Nat} (G : am_G) (p : Nat) (hp : p < 2) (f : Nat → mT) (hS : St0 G) (hf : ∀ q, q < 6 → cM G (mo p q) (f q)) : am_Ok w jP_instructions d (0, 0) [.inr (some (2 + 50 * p))] G (fun rr G' => rr = some (.inl (nI (sumN f 6))) ∧ G' = G) := by
  refine am_ok_of rfl (Nat.le_of_ble_eq_true rfl) ?_
  show am_Go w jP_instructions d (0, 0) 0 [some (.inr (some (2 + 50 * p))), none, none] [] G _
  refine go_iconst (nI 0) (by decide) dP_instructions_0 ?_
  refine go_istore_n dP_instructions_1 rfl (Nat.le_of_ble_eq_true rfl) ?_
  refine go_iconst (nI 0) (by decide) dP_instructions_2 ?_
  refine go_istore_n dP_instructions_3 rfl (Nat.le_of_ble_eq_true rfl) ?_
  exact P_iloop w G p hp f hS hf 6 0 rfl
def aBranch (s : sT) : Int32 × sT := (nI (sumN s.2.1 6), (1, (fun q => if q < 6 then s.2.1 q else s.2.1 (q - 6)), s.2.2))
theorem bc_end {G G1 : am_G} {s : sT} (hc : cS G s) (hb : bcI G G1 s.2.1 6) : cEnd G (am_wi G1 0 6 (nI 1)) (aBranch s).2 := by
  obtain ⟨ho, h0, h1⟩ := hb
  have hq : ∀ i, i ≠ 0 → (am_wi G1 0 6 (nI 1)).2.1 i = G1.2.1 i := fun i hi => wi_I hi
  refine ⟨⟨wi_Is, fun p hp m hm => ?_, ?_⟩, (ho.up (fun i h => by show i < 163; omega)).tr (oR.wi (show (0 : Nat) < 163 by decide))⟩
  · show cM _ (mo p m) (if 6 * p + m < 6 then s.2.1 (6 * p + m) else s.2.1 (6 * p + m - 6))
    rcases (show p = 0 ∨ p = 1 by omega) with rfl | rfl
    · rw [if_pos (by omega), show 6 * 0 + m = m by omega]
      exact (h0 m hm).same (fun i g1 g2 => hq i (by unfold mo at g1; omega))
    · rw [if_neg (by omega), show 6 * 1 + m - 6 = m by omega]
      exact (h1 m hm).same (fun i g1 g2 => hq i (by unfold mo at g1; omega))
  · exact hc.2.2.same (by rw [hq 159 (by decide), ho.2.2 159 (by omega)]) (by rw [hq 160 (by decide), ho.2.2 160 (by omega)])

set_option maxRecDepth 100000 in
theorem okF_branch (w : am_W) {d : Nat} (hd : 3 ≤ d) (G : am_G) (s : sT) (hS : St0 G) (hc : cS G s) (hv : sV s) : am_Ok w jF_branch d (0, 0) [.inr (some 0)] G (fun r G' => r = some (.inl (aBranch s).1) ∧ cEnd G G' (aBranch s).2) := by
  refine am_ok_of rfl (Nat.le_of_ble_eq_true rfl) ?_
  show am_Go w jF_branch d (0, 0) 0 [some (.inr (some 0))] [] G _
  have q6 : G.1[0]? = some (0, 0) := hS.s rfl
  have q7 : G.1[1]? = some (3, 2) := hS.s rfl
  have q8 : G.2.2 0 0 = some 1 := hS.r (by decide +kernel)
  have a1 := hS.s (pr_l 0 (by decide)).1
  have b1 := hS.s (pr_l 1 (by decide)).1
  have a4 := hS.r (pr_l 0 (by decide)).2.2.2
  have b4 := hS.r (pr_l 1 (by decide)).2.2.2
  refine go_aload_n dF_branch_0 rfl rfl ?_
  refine go_getO dF_branch_1 flF_11 rfl (by assumption) (by assumption) ?_
  refine go_iconst (nI 1) (by decide) dF_branch_4 ?_
  refine go_aaO (t := 0) (by decide) q7 (by decide) (by decide) b4 dF_branch_5 ?_
  refine go_aload_n dF_branch_6 rfl rfl ?_
  refine go_getO dF_branch_7 flF_11 rfl (by assumption) (by assumption) ?_
  refine go_iconst (nI 0) (by decide) dF_branch_10 ?_
  refine go_aaO (t := 0) (by decide) q7 (by decide) (by decide) a4 dF_branch_11 ?_
  refine go_cV (k' := (0, 0)) dF_branch_12 [.inr (some 2)] csF_55 b1 rfl imP_become seP_become rfl (okP_become (d := 2) w (by decide) G s.2.1 hS (fun q hq => ⟨(hv.2.1 q (by omega)).1, (hv.2.1 q (by omega)).2.1⟩) (fun q hq => by have h := hc.2.1 0 (by decide) q hq; rw [show 6 * 0 + q = q by omega] at h; exact h)) (by omega) (by decide) (Nat.le_of_ble_eq_true rfl) (fun r1 G1 hr hn => ?_)
  obtain ⟨rfl, hb⟩ := hr
  have hS1 : St0 G1 := hb.1.St hS
  replace q6 : G1.1[0]? = some (0, 0) := hS1.s rfl
  replace q7 : G1.1[1]? = some (3, 2) := hS1.s rfl
  replace q8 : G1.2.2 0 0 = some 1 := hS1.r (by decide +kernel)
  replace b4 := hS1.r (pr_l 1 (by decide)).2.2.2
  replace b1 := hS1.s (pr_l 1 (by decide)).1
  refine go_aload_n dF_branch_15 rfl rfl ?_
  refine go_iconst (nI 1) (by decide) dF_branch_16 ?_
  refine go_putI dF_branch_17 fpF_47 rfl (by assumption) ?_
  refine go_aload_n dF_branch_20 rfl rfl ?_
  refine go_getO dF_branch_21 flF_11 rfl (by assumption) (by assumption) ?_
  refine go_iconst (nI 1) (by decide) dF_branch_24 ?_
  refine go_aaO (t := 0) (by decide) (by assumption) (by decide) (by decide) b4 dF_branch_25 ?_
  refine go_cV (k' := (0, 0)) dF_branch_26 [] csF_59 (by assumption) rfl imP_instructions seP_instructions rfl (okP_instructions (d := 0) w (am_wi G1 0 6 (nI 1)) 1 (by decide) s.2.1 (hS1.wi) (fun q hq => (hb.2.2 q hq).same (fun i g1 g2 => wi_I (by unfold mo at g1; omega)))) (by omega) (by decide) (Nat.le_of_ble_eq_true rfl) (fun r2 G2 hr2 hn2 => ?_)
  obtain ⟨rfl, hG⟩ := hr2
  refine go_ireturn rfl dF_branch_29 ?_
  exact ⟨rfl, by rw [hG]; exact bc_end hc hb⟩
