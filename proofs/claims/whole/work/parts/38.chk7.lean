abbrev aR (i : Nat) : Prop := 102 ≤ i ∧ i ≤ 108
theorem ckI.same {G G' : am_G} {M : mT} {S : fM} {Wt : Nat → Bool} {c : Bool} (h : ckI G M S Wt c) (e2 : ∀ k, k ≠ 7 → G'.2.1 102 k = G.2.1 102 k) (e : ∀ i, 103 ≤ i → i ≤ 106 → G'.2.1 i = G.2.1 i) : ckI G' M S Wt c :=
  ⟨by rw [e2 8 (by decide)]; exact h.1, by rw [e2 9 (by decide)]; exact h.2.1, by rw [e2 1 (by decide)]; exact h.2.2.1, fun p hp => (h.2.2.2 p hp).same (by rw [e 103 (by omega) (by omega)]) (fun i _ => by rw [e 104 (by omega) (by omega)]) (by rw [e 105 (by omega) (by omega)]) (by rw [e 106 (by omega) (by omega)])⟩
theorem ckI.oc {G G' : am_G} {M : mT} {S : fM} {Wt : Nat → Bool} {c c' : Bool} (h : ckI G M S Wt c) (ho : oC G G') (hf : G'.2.1 102 9 = am_b c') : ckI G' M S Wt c' :=
  ⟨by rw [ho.2 8 (by decide) (by decide)]; exact h.1, hf, by rw [ho.2 1 (by decide) (by decide)]; exact h.2.2.1, fun p hp => (h.2.2.2 p hp).same (by rw [ho.1.2.2 103 (by omega)]) (fun i _ => by rw [ho.1.2.2 104 (by omega)]) (by rw [ho.1.2.2 105 (by omega)]) (by rw [ho.1.2.2 106 (by omega)])⟩
theorem fCnt_none : ∀ n, fCnt (fun _ => none) n = 0
  | 0 => rfl
  | n + 1 => by show fCnt (fun _ => none) n + 0 = 0; rw [fCnt_none n]
theorem ckI.nil {G : am_G} {M : mT} (h1 : G.2.1 102 8 = nI (mN M)) (h2 : G.2.1 102 9 = am_b false) (h3 : G.2.1 102 1 = nI 0) (h4 : ∀ i, i < mN M → G.2.1 105 i = am_b false ∧ G.2.1 106 i = am_b false) : ckI G M (fun _ => none) (fun _ => false) false :=
  ⟨h1, h2, by rw [fCnt_none]; exact h3, fun p hp => ⟨(h4 p hp).1, (h4 p hp).2, fun x hx => by cases hx⟩⟩
theorem fIn_B {M : mT} : fB (fIn M) := ⟨Nat.zero_le _, fun i hi => absurd hi (Nat.not_lt_zero i), fun i _ k hk => by
  have hk : (if i < mG M then some 0 else none) = some k := hk
  split at hk
  · cases hk; decide
  · cases hk⟩
theorem cL3_no {M : mT} {p : Nat} {y : fS} {t : cT} (h : mO M p = 11 ∨ mO M p = 23 ∨ mO M p = 24 ∨ mO M p = 20 ∨ mO M p = 22) : cL3 M p y t = t := if_neg (by omega)
theorem cL3_ye {M : mT} {p : Nat} {y : fS} {t : cT} (h : ¬ (mO M p = 11 ∨ mO M p = 23 ∨ mO M p = 24 ∨ mO M p = 20 ∨ mO M p = 22)) : cL3 M p y t = cCome M t (p + 1) y := if_pos (by omega)
theorem jmp_dec {o : Nat} (ho : o < 28) : decide (nI o = nI 11 ∨ nI o = nI 12 ∨ nI o = nI 17) = decide (o = 11 ∨ o = 12 ∨ o = 17) := by
  refine decide_eq_decide.mpr ?_
  rw [nI_eq (by omega) (by decide), nI_eq (by omega) (by decide), nI_eq (by omega) (by decide)]
theorem nowC.k {G G' : am_G} {y : fS} (h : nowC G y) (ho : oK G G') : nowC G' y := by
  unfold nowC
  rw [ho.2 7 (by decide) (by decide), ho.1.2.2 107 (by omega)]
  exact h
theorem nowC.way {G : am_G} {y : fS} (h : nowC G y) : wayC G 107 y := ⟨h.2.1, h.2.2⟩
section Bl
variable {M : mT} {y : fS} {kk k : Nat} {t : cT}
theorem bl_1 (h : ((cBackL M y kk t k).1 k).isSome = false) : cBackL M y kk t (k + 1) = cBackL M y kk t k := if_neg (fun q => by
  cases e : (cBackL M y kk t k).1 k with
  | none => exact q.1.1 e
  | some u => rw [e] at h; cases h)
theorem bl_2 (h : ¬ mO M k = 23) : cBackL M y kk t (k + 1) = cBackL M y kk t k := if_neg (fun q => h q.1.2)
theorem bl_3 (h : ¬ bN M k = kk) : cBackL M y kk t (k + 1) = cBackL M y kk t k := if_neg (fun q => h q.2)
theorem bl_4 (h : ((cBackL M y kk t k).1 k).isSome = true) (h2 : mO M k = 23) (h3 : bN M k = kk) : cBackL M y kk t (k + 1) = cCome M (cBackL M y kk t k) (k + 1) y := if_pos ⟨⟨fun e => (by rw [e] at h; cases h), h2⟩, h3⟩
end Bl

set_option maxRecDepth 100000 in
theorem C_b1 (w : am_W) {d : Nat} {P : Option am_V → am_G → Prop} (G0 : am_G) (m : Nat) (M : mT) (hn6 : mN M ≤ 60)
    (K : ∀ G lk, St0 G → oR aR G0 G → ckI G M (fun _ => none) (fun _ => false) false → am_Go w jC_begin d (0, 0) 48 [some (.inr (some 102)), some (.inr (some m)), lk] [] G P) : ∀ (r k : Nat) (G : am_G), k + r = mN M → St0 G → oR aR G0 G → G.2.1 102 8 = nI (mN M) → G.2.1 102 9 = am_b false → G.2.1 102 1 = nI 0 → (∀ i, i < k → G.2.1 105 i = am_b false ∧ G.2.1 106 i = am_b false) → am_Go w jC_begin d (0, 0) 20 [some (.inr (some 102)), some (.inr (some m)), some (.inl (nI k))] [] G P := by
  intro r
  induction r with
  | zero =>
    intro k G hk hS ho h8 h9 h1 h4
    have q1 : G.1[102]? = some (0, 3) := hS.s rfl
    have q2 : G.1[103]? = some (1, 60) := hS.s rfl
    have q3 : G.1[104]? = some (1, 960) := hS.s rfl
    have q4 : G.1[105]? = some (2, 60) := hS.s rfl
    have q5 : G.1[106]? = some (2, 60) := hS.s rfl
    have q6 : G.2.2 102 0 = some 103 := hS.r ck_r0
    have q7 : G.2.2 102 2 = some 104 := hS.r ck_r2
    have q8 : G.2.2 102 3 = some 105 := hS.r ck_r3
    have q9 : G.2.2 102 4 = some 106 := hS.r ck_r4
    have q11 : G.1[107]? = some (1, 16) := hS.s rfl
    have q12 : G.1[108]? = some (1, 16) := hS.s rfl
    have q13 : G.2.2 102 5 = some 107 := hS.r ck_r5
    have q14 : G.2.2 102 6 = some 108 := hS.r ck_r6
    refine go_iload_n dC_begin_20 rfl rfl ?_
    refine go_aload_n dC_begin_21 rfl rfl ?_
    refine go_getV dC_begin_22 flC_45 rfl (by assumption) (by first | assumption | (simp (disch := omega) only [wi_I, ro_I, wi_In, wi_Is]; done) | (simp (disch := omega) only [wi_I, ro_I, wi_In, wi_Is]; first | assumption | rfl) | rfl) ?_
    refine go_icmp_geN (by omega) (by omega) dC_begin_25 (tgt := 48) (by decide) (fun c1 => ?_) (fun c1 => absurd c1 (by omega))
    exact K G _ hS ho (ckI.nil h8 h9 h1 (fun i hi => h4 i (by omega)))
  | succ r ih =>
    intro k G hk hS ho h8 h9 h1 h4
    have q1 : G.1[102]? = some (0, 3) := hS.s rfl
    have q2 : G.1[103]? = some (1, 60) := hS.s rfl
    have q3 : G.1[104]? = some (1, 960) := hS.s rfl
    have q4 : G.1[105]? = some (2, 60) := hS.s rfl
    have q5 : G.1[106]? = some (2, 60) := hS.s rfl
    have q6 : G.2.2 102 0 = some 103 := hS.r ck_r0
    have q7 : G.2.2 102 2 = some 104 := hS.r ck_r2
    have q8 : G.2.2 102 3 = some 105 := hS.r ck_r3
    have q9 : G.2.2 102 4 = some 106 := hS.r ck_r4
    have q11 : G.1[107]? = some (1, 16) := hS.s rfl
    have q12 : G.1[108]? = some (1, 16) := hS.s rfl
    have q13 : G.2.2 102 5 = some 107 := hS.r ck_r5
    have q14 : G.2.2 102 6 = some 108 := hS.r ck_r6
    refine go_iload_n dC_begin_20 rfl rfl ?_
    refine go_aload_n dC_begin_21 rfl rfl ?_
    refine go_getV dC_begin_22 flC_45 rfl (by assumption) (by first | assumption | (simp (disch := omega) only [wi_I, ro_I, wi_In, wi_Is]; done) | (simp (disch := omega) only [wi_I, ro_I, wi_In, wi_Is]; first | assumption | rfl) | rfl) ?_
    refine go_icmp_geN (by omega) (by omega) dC_begin_25 (tgt := 48) (by decide) (fun c1 => absurd c1 (by omega)) (fun c1 => ?_)
    refine go_aload_n dC_begin_28 rfl rfl ?_
    refine go_getO dC_begin_29 flC_18 rfl (by assumption) (by assumption) ?_
    refine go_iload_n dC_begin_32 rfl rfl ?_
    refine go_iconst (am_b false) (by decide) dC_begin_33 ?_
    refine go_bastoreN (am_b_and1 false) q4 (by omega) (by decide) dC_begin_34 ?_
    refine go_aload_n dC_begin_35 rfl rfl ?_
    refine go_getO dC_begin_36 flC_22 rfl (by assumption) (by assumption) ?_
    refine go_iload_n dC_begin_39 rfl rfl ?_
    refine go_iconst (am_b false) (by decide) dC_begin_40 ?_
    refine go_bastoreN (am_b_and1 false) q5 (by omega) (by decide) dC_begin_41 ?_
    refine go_inc dC_begin_42 rfl ?_
    refine go_goto dC_begin_45 (tgt := 20) (by decide) ?_
    refine ih (k + 1) _ (by omega) hS ((ho.tr (oR.wi ⟨by omega, by omega⟩)).tr (oR.wi ⟨by omega, by omega⟩)) (by rw [wi_I (by decide), wi_I (by decide)]; exact h8) (by rw [wi_I (by decide), wi_I (by decide)]; exact h9) (by rw [wi_I (by decide), wi_I (by decide)]; exact h1) (fun i hi => ?_)
    rw [wi_I (by decide), wi_at, wi_at, wi_I (by decide)]
    by_cases e : i = k
    · rw [if_pos e, if_pos e]; exact ⟨rfl, rfl⟩
    · rw [if_neg e, if_neg e]; exact h4 i (by omega)
set_option maxRecDepth 100000 in
theorem C_b2 (w : am_W) {d : Nat} {P : Option am_V → am_G → Prop} (G0 : am_G) (m : Nat) (M : mT)
    (K : ∀ G lk, St0 G → oR aR G0 G → hldM G m M → ckI G M (fun _ => none) (fun _ => false) false → wayC G 107 (fIn M) → am_Go w jC_begin d (0, 0) 85 [some (.inr (some 102)), some (.inr (some m)), lk] [] G P) : ∀ (r k : Nat) (G : am_G), k + r = 8 → St0 G → oR aR G0 G → hldM G m M → ckI G M (fun _ => none) (fun _ => false) false → (∀ i, i < k → G.2.1 107 (8 + i) = kO (if i < mG M then some 0 else none)) → am_Go w jC_begin d (0, 0) 50 [some (.inr (some 102)), some (.inr (some m)), some (.inl (nI k))] [] G P := by
  intro r
  induction r with
  | zero =>
    intro k G hk hS ho hM hI h4
    refine go_iload_n dC_begin_50 rfl rfl ?_
    refine go_bipush (nI 8) (by decide) dC_begin_51 ?_
    refine go_icmp_geN (by omega) (by omega) dC_begin_53 (tgt := 85) (by decide) (fun c1 => ?_) (fun c1 => absurd c1 (by omega))
    exact K G _ hS ho hM hI ⟨fun i hi => absurd hi (Nat.not_lt_zero i), fun i hi => h4 i (by omega)⟩
  | succ r ih =>
    intro k G hk hS ho hM hI h4
    have hg := hM.2.1.1.2.2.1
    have hg3 := hM.2.2.1.2.2.1
    have q1 : G.1[102]? = some (0, 3) := hS.s rfl
    have q2 : G.1[103]? = some (1, 60) := hS.s rfl
    have q3 : G.1[104]? = some (1, 960) := hS.s rfl
    have q4 : G.1[105]? = some (2, 60) := hS.s rfl
    have q5 : G.1[106]? = some (2, 60) := hS.s rfl
    have q6 : G.2.2 102 0 = some 103 := hS.r ck_r0
    have q7 : G.2.2 102 2 = some 104 := hS.r ck_r2
    have q8 : G.2.2 102 3 = some 105 := hS.r ck_r3
    have q9 : G.2.2 102 4 = some 106 := hS.r ck_r4
    have q11 : G.1[107]? = some (1, 16) := hS.s rfl
    have q12 : G.1[108]? = some (1, 16) := hS.s rfl
    have q13 : G.2.2 102 5 = some 107 := hS.r ck_r5
    have q14 : G.2.2 102 6 = some 108 := hS.r ck_r6
    have hMm := hM.1
    obtain ⟨hs, ⟨r0, r1, r2, r3, r4, r5, r6⟩, s1, s2, s3, s4, s5, s6, s7⟩ := hMm
    refine go_iload_n dC_begin_50 rfl rfl ?_
    refine go_bipush (nI 8) (by decide) dC_begin_51 ?_
    refine go_icmp_geN (by omega) (by omega) dC_begin_53 (tgt := 85) (by decide) (fun c1 => absurd c1 (by omega)) (fun c1 => ?_)
    refine go_aload_n dC_begin_56 rfl rfl ?_
    refine go_getO dC_begin_57 flC_25 rfl (by assumption) (by assumption) ?_
    refine go_bipush (nI 8) (by decide) dC_begin_60 ?_
    refine go_iload_n dC_begin_62 rfl rfl ?_
    refine go_iadd dC_begin_63 ?_
    rw [nI_add]
    refine go_iload_n dC_begin_64 rfl rfl ?_
    refine go_aload_n dC_begin_65 rfl rfl ?_
    refine go_getV dC_begin_66 flC_66 rfl (by assumption) (by first | assumption | (simp (disch := omega) only [wi_I, ro_I, wi_In, wi_Is]; done) | (simp (disch := omega) only [wi_I, ro_I, wi_In, wi_Is]; first | assumption | rfl) | rfl) ?_
    refine go_icmp_geN (by omega) (by omega) dC_begin_69 (tgt := 76) (by decide) (fun c69 => ?_) (fun c69 => ?_)
    · refine go_bipush (-2) (by decide) dC_begin_76 ?_
      refine go_iastoreN q11 (by omega) (by decide) dC_begin_78 ?_
      refine go_inc dC_begin_79 rfl ?_
      refine go_goto dC_begin_82 (tgt := 50) (by decide) ?_
      have o1 : ∀ x, oR aR G (am_wi G 107 (8 + k) x) := fun x => oR.wi ⟨by omega, by omega⟩
      refine ih (k + 1) _ (by omega) hS (ho.tr (o1 _)) (hM.same (o1 _)) (hI.same (fun q _ => by rw [wi_I (by decide)]) (fun i h1 h2 => by rw [wi_I (by omega)])) (fun i hi => ?_)
      rw [wi_at]
      by_cases e : i = k
      · rw [if_pos (by omega), e]; first | (rw [if_pos c69]; rfl) | (rw [if_neg (by omega)]; rfl)
      · rw [if_neg (by omega)]; exact h4 i (by omega)
    · refine go_iconst (nI 0) (by decide) dC_begin_72 ?_
      refine go_goto dC_begin_73 (tgt := 78) (by decide) ?_
      refine go_iastoreN q11 (by omega) (by decide) dC_begin_78 ?_
      refine go_inc dC_begin_79 rfl ?_
      refine go_goto dC_begin_82 (tgt := 50) (by decide) ?_
      have o1 : ∀ x, oR aR G (am_wi G 107 (8 + k) x) := fun x => oR.wi ⟨by omega, by omega⟩
      refine ih (k + 1) _ (by omega) hS (ho.tr (o1 _)) (hM.same (o1 _)) (hI.same (fun q _ => by rw [wi_I (by decide)]) (fun i h1 h2 => by rw [wi_I (by omega)])) (fun i hi => ?_)
      rw [wi_at]
      by_cases e : i = k
      · rw [if_pos (by omega), e]; first | (rw [if_pos c69]; rfl) | (rw [if_neg (by omega)]; rfl)
      · rw [if_neg (by omega)]; exact h4 i (by omega)
set_option maxRecDepth 100000 in
theorem okC_begin (w : am_W) {d : Nat} (hd : 2 ≤ d) (G : am_G) (m : Nat) (M : mT) (hS : St0 G) (hM : hldM G m M) : am_Ok w jC_begin d (0, 0) [.inr (some 102), .inr (some m)] G (fun r G' => r = none ∧ ckT G' M (cBeg M) ∧ oR aR G G') := by
  refine am_ok_of rfl (Nat.le_of_ble_eq_true rfl) ?_
  show am_Go w jC_begin d (0, 0) 0 [some (.inr (some 102)), some (.inr (some m)), none] [] G _
  have q1 : G.1[102]? = some (0, 3) := hS.s rfl
  have q2 : G.1[103]? = some (1, 60) := hS.s rfl
  have q3 : G.1[104]? = some (1, 960) := hS.s rfl
  have q4 : G.1[105]? = some (2, 60) := hS.s rfl
  have q5 : G.1[106]? = some (2, 60) := hS.s rfl
  have q6 : G.2.2 102 0 = some 103 := hS.r ck_r0
  have q7 : G.2.2 102 2 = some 104 := hS.r ck_r2
  have q8 : G.2.2 102 3 = some 105 := hS.r ck_r3
  have q9 : G.2.2 102 4 = some 106 := hS.r ck_r4
  have q11 : G.1[107]? = some (1, 16) := hS.s rfl
  have q12 : G.1[108]? = some (1, 16) := hS.s rfl
  have q13 : G.2.2 102 5 = some 107 := hS.r ck_r5
  have q14 : G.2.2 102 6 = some 108 := hS.r ck_r6
  have hMm := hM.1
  obtain ⟨hs, ⟨r0, r1, r2, r3, r4, r5, r6⟩, s1, s2, s3, s4, s5, s6, s7⟩ := hMm
  have hn6 := hM.2.2.1.1
  have hsz := hM.2.1.1.1
  refine go_aload_n dC_begin_0 rfl rfl ?_
  refine go_aload_n dC_begin_1 rfl rfl ?_
  refine go_getV dC_begin_2 flC_62 rfl (by assumption) (by first | assumption | (simp (disch := omega) only [wi_I, ro_I, wi_In, wi_Is]; done) | (simp (disch := omega) only [wi_I, ro_I, wi_In, wi_Is]; first | assumption | rfl) | rfl) ?_
  refine go_putI dC_begin_5 fpC_45 rfl (by assumption) ?_
  refine go_aload_n dC_begin_8 rfl rfl ?_
  refine go_iconst (nI 0) (by decide) dC_begin_9 ?_
  refine go_putI dC_begin_10 fpC_63 rfl (by assumption) ?_
  refine go_aload_n dC_begin_13 rfl rfl ?_
  refine go_iconst (am_b false) (by decide) dC_begin_14 ?_
  refine go_putZ (am_b_01 _) dC_begin_15 fpC_41 rfl (by assumption) ?_
  refine go_iconst (nI 0) (by decide) dC_begin_18 ?_
  refine go_istore_n dC_begin_19 rfl (Nat.le_of_ble_eq_true rfl) ?_
  refine C_b1 w G m M hn6 (fun X lk hSX oX hIX => ?_) (mN M) 0 _ (by omega) hS (((oR.wi ⟨by omega, by omega⟩).tr (oR.wi ⟨by omega, by omega⟩)).tr (oR.wi ⟨by omega, by omega⟩)) (by rw [wi_In (by decide), wi_In (by decide), wi_Is]) (by rw [wi_Is]) (by rw [wi_In (by decide), wi_Is]) (fun i hi => absurd hi (by omega))
  refine go_iconst (nI 0) (by decide) dC_begin_48 ?_
  refine go_istore_n dC_begin_49 rfl (Nat.le_of_ble_eq_true rfl) ?_
  refine C_b2 w G m M (fun Y lk hSY oY hMY hIY hwY => ?_) 8 0 X rfl hSX oX (hM.same oX) hIX (fun i hi => absurd hi (by omega))
  clear hIX
  have q1 : Y.1[102]? = some (0, 3) := hSY.s rfl
  have q13 : Y.2.2 102 5 = some 107 := hSY.r ck_r5
  refine go_aload_n dC_begin_85 rfl rfl ?_
  refine go_aload_n dC_begin_86 rfl rfl ?_
  refine go_iconst (nI 0) (by decide) dC_begin_87 ?_
  refine go_aload_n dC_begin_88 rfl rfl ?_
  refine go_getO dC_begin_89 flC_25 rfl (by assumption) (by assumption) ?_
  refine go_iconst (nI 0) (by decide) dC_begin_92 ?_
  refine go_cV (k' := (0, 0)) dC_begin_93 _ csC_69 q1 rfl imC_comeTo seC_comeTo rfl (okC_comeTo (d := 1) w (by decide) Y m M (fun _ => none, fun _ => false, false) 0 107 (fIn M) (by decide) (Or.inl rfl) fIn_B hSY hMY hwY hIY) (by omega) (by decide) (Nat.le_of_ble_eq_true rfl) (fun r2 G2 hr2 hn2 => ?_)
  obtain ⟨rfl, hI2, ho2⟩ := hr2
  refine go_return rfl dC_begin_96 ?_
  exact ⟨rfl, hI2, oY.tr ho2.up⟩
set_option maxRecDepth 100000 in
theorem C_l3 (w : am_W) {d : Nat} (hd : 2 ≤ d) (G : am_G) (m p : Nat) (M : mT) (y : fS) (hp : p < mN M) (hy : fB y) (t : cT) (l4 l5 : Option am_V) (hS : St0 G) (hM : hldM G m M) (hnw : nowC G y) (hI : ckT G M t) : am_Go w jC_leadOn d (0, 0) 133 [some (.inr (some 102)), some (.inr (some m)), some (.inl (nI p)), some (.inl (nI (mO M p))), l4, l5] [] G (fun r G' => r = none ∧ ckT G' M (cL3 M p y t) ∧ oK G G') := by
  have q1 : G.1[102]? = some (0, 3) := hS.s rfl
  have q2 : G.1[103]? = some (1, 60) := hS.s rfl
  have q3 : G.1[104]? = some (1, 960) := hS.s rfl
  have q4 : G.1[105]? = some (2, 60) := hS.s rfl
  have q5 : G.1[106]? = some (2, 60) := hS.s rfl
  have q6 : G.2.2 102 0 = some 103 := hS.r ck_r0
  have q7 : G.2.2 102 2 = some 104 := hS.r ck_r2
  have q8 : G.2.2 102 3 = some 105 := hS.r ck_r3
  have q9 : G.2.2 102 4 = some 106 := hS.r ck_r4
  have q11 : G.1[107]? = some (1, 16) := hS.s rfl
  have q12 : G.1[108]? = some (1, 16) := hS.s rfl
  have q13 : G.2.2 102 5 = some 107 := hS.r ck_r5
  have q14 : G.2.2 102 6 = some 108 := hS.r ck_r6
  have hop28 := (hM.2.2.1.2.2.2.1 p hp).1
  have hn6 := hM.2.2.1.1
  have hdp := hnw.1
  have hy8 := hy.1
  refine go_iload_n dC_leadOn_133 rfl rfl ?_
  refine go_bipush (nI 11) (by decide) dC_leadOn_134 ?_
  refine go_icmp_eqN (by omega) (by decide) dC_leadOn_136 (tgt := 151) (by decide) (fun c136 => ?_) (fun c136 => ?_)
  · refine go_iconst (am_b true) (by decide) dC_leadOn_151 ?_
    refine go_goto dC_leadOn_152 (tgt := 156) (by decide) ?_
    refine go_istore dC_leadOn_156 (Nat.le_of_ble_eq_true rfl) ?_
    refine go_iload dC_leadOn_158 rfl ?_
    refine go_if_neB dC_leadOn_160 (tgt := 191) (by decide) (fun c160 => ?_) (fun c160 => absurd c160 (by decide))
    refine go_return rfl dC_leadOn_191 ?_
    first | exact ⟨rfl, by rw [cL3_no (by omega)]; exact hI, oK.rf⟩ | exact ⟨rfl, by rw [cL3_ye (by omega)]; exact hI2, ho2⟩
  · refine go_iload_n dC_leadOn_139 rfl rfl ?_
    refine go_bipush (nI 23) (by decide) dC_leadOn_140 ?_
    refine go_icmp_eqN (by omega) (by decide) dC_leadOn_142 (tgt := 151) (by decide) (fun c142 => ?_) (fun c142 => ?_)
    · refine go_iconst (am_b true) (by decide) dC_leadOn_151 ?_
      refine go_goto dC_leadOn_152 (tgt := 156) (by decide) ?_
      refine go_istore dC_leadOn_156 (Nat.le_of_ble_eq_true rfl) ?_
      refine go_iload dC_leadOn_158 rfl ?_
      refine go_if_neB dC_leadOn_160 (tgt := 191) (by decide) (fun c160 => ?_) (fun c160 => absurd c160 (by decide))
      refine go_return rfl dC_leadOn_191 ?_
      first | exact ⟨rfl, by rw [cL3_no (by omega)]; exact hI, oK.rf⟩ | exact ⟨rfl, by rw [cL3_ye (by omega)]; exact hI2, ho2⟩
    · refine go_iload_n dC_leadOn_145 rfl rfl ?_
      refine go_bipush (nI 24) (by decide) dC_leadOn_146 ?_
      refine go_icmp_neN (by omega) (by decide) dC_leadOn_148 (tgt := 155) (by decide) (fun c148 => ?_) (fun c148 => ?_)
      · refine go_iconst (am_b false) (by decide) dC_leadOn_155 ?_
        refine go_istore dC_leadOn_156 (Nat.le_of_ble_eq_true rfl) ?_
        refine go_iload dC_leadOn_158 rfl ?_
        refine go_if_neB dC_leadOn_160 (tgt := 191) (by decide) (fun c160 => absurd c160 (by decide)) (fun c160 => ?_)
        refine go_iload_n dC_leadOn_163 rfl rfl ?_
        refine go_bipush (nI 20) (by decide) dC_leadOn_164 ?_
        refine go_icmp_eqN (by omega) (by decide) dC_leadOn_166 (tgt := 191) (by decide) (fun c166 => ?_) (fun c166 => ?_)
        · refine go_return rfl dC_leadOn_191 ?_
          first | exact ⟨rfl, by rw [cL3_no (by omega)]; exact hI, oK.rf⟩ | exact ⟨rfl, by rw [cL3_ye (by omega)]; exact hI2, ho2⟩
        · refine go_iload_n dC_leadOn_169 rfl rfl ?_
          refine go_bipush (nI 22) (by decide) dC_leadOn_170 ?_
          refine go_icmp_eqN (by omega) (by decide) dC_leadOn_172 (tgt := 191) (by decide) (fun c172 => ?_) (fun c172 => ?_)
          · refine go_return rfl dC_leadOn_191 ?_
            first | exact ⟨rfl, by rw [cL3_no (by omega)]; exact hI, oK.rf⟩ | exact ⟨rfl, by rw [cL3_ye (by omega)]; exact hI2, ho2⟩
          · refine go_aload_n dC_leadOn_175 rfl rfl ?_
            refine go_aload_n dC_leadOn_176 rfl rfl ?_
            refine go_iload_n dC_leadOn_177 rfl rfl ?_
            refine go_iconst (nI 1) (by decide) dC_leadOn_178 ?_
            refine go_iadd dC_leadOn_179 ?_
            rw [nI_add]
            refine go_aload_n dC_leadOn_180 rfl rfl ?_
            refine go_getO dC_leadOn_181 flC_25 rfl (by assumption) (by assumption) ?_
            refine go_aload_n dC_leadOn_184 rfl rfl ?_
            refine go_getV dC_leadOn_185 flC_79 rfl (by assumption) (by first | assumption | (simp (disch := omega) only [wi_I, ro_I, wi_In, wi_Is]; done) | (simp (disch := omega) only [wi_I, ro_I, wi_In, wi_Is]; first | assumption | rfl) | rfl) ?_
            refine go_cV (k' := (0, 0)) dC_leadOn_188 _ csC_69 q1 rfl imC_comeTo seC_comeTo rfl (okC_comeTo (d := 1) w (by decide) G m M t (p + 1) 107 y (by omega) (Or.inl rfl) hy hS hM hnw.way hI) (by omega) (by decide) (Nat.le_of_ble_eq_true rfl) (fun r2 G2 hr2 hn2 => ?_)
            obtain ⟨rfl, hI2, ho2⟩ := hr2
            refine go_return rfl dC_leadOn_191 ?_
            first | exact ⟨rfl, by rw [cL3_no (by omega)]; exact hI, oK.rf⟩ | exact ⟨rfl, by rw [cL3_ye (by omega)]; exact hI2, ho2⟩
      · refine go_iconst (am_b true) (by decide) dC_leadOn_151 ?_
        refine go_goto dC_leadOn_152 (tgt := 156) (by decide) ?_
        refine go_istore dC_leadOn_156 (Nat.le_of_ble_eq_true rfl) ?_
        refine go_iload dC_leadOn_158 rfl ?_
        refine go_if_neB dC_leadOn_160 (tgt := 191) (by decide) (fun c160 => ?_) (fun c160 => absurd c160 (by decide))
        refine go_return rfl dC_leadOn_191 ?_
        first | exact ⟨rfl, by rw [cL3_no (by omega)]; exact hI, oK.rf⟩ | exact ⟨rfl, by rw [cL3_ye (by omega)]; exact hI2, ho2⟩
set_option maxRecDepth 100000 in
theorem C_l2 (w : am_W) {d : Nat} (hd : 2 ≤ d) (G0 : am_G) (m p : Nat) (M : mT) (y : fS) (hp : p < mN M) (hy : fB y) (t : cT) (kk : Nat) (hk6 : kk < 1000) (h24 : mO M p = 24) (hkk : kk = fRk y (aN M p)) : ∀ (r k : Nat) (G : am_G), k + r = mN M → St0 G → oK G0 G → hldM G m M → nowC G y → ckT G M (cBackL M y kk t k) →
    am_Go w jC_leadOn d (0, 0) 67 [some (.inr (some 102)), some (.inr (some m)), some (.inl (nI p)), some (.inl (nI (mO M p))), some (.inl (nI kk)), some (.inl (nI k))] [] G (fun r G' => r = none ∧ ckT G' M (cL3 M p y (cL2 M p y t)) ∧ oK G0 G') := by
  intro r
  induction r with
  | zero =>
    intro k G hk hS ho hM hnw hI
    have hsz := hI.1
    have q1 : G.1[102]? = some (0, 3) := hS.s rfl
    have q2 : G.1[103]? = some (1, 60) := hS.s rfl
    have q3 : G.1[104]? = some (1, 960) := hS.s rfl
    have q4 : G.1[105]? = some (2, 60) := hS.s rfl
    have q5 : G.1[106]? = some (2, 60) := hS.s rfl
    have q6 : G.2.2 102 0 = some 103 := hS.r ck_r0
    have q7 : G.2.2 102 2 = some 104 := hS.r ck_r2
    have q8 : G.2.2 102 3 = some 105 := hS.r ck_r3
    have q9 : G.2.2 102 4 = some 106 := hS.r ck_r4
    have q11 : G.1[107]? = some (1, 16) := hS.s rfl
    have q12 : G.1[108]? = some (1, 16) := hS.s rfl
    have q13 : G.2.2 102 5 = some 107 := hS.r ck_r5
    have q14 : G.2.2 102 6 = some 108 := hS.r ck_r6
    have hop28 := (hM.2.2.1.2.2.2.1 p hp).1
    have hn6 := hM.2.2.1.1
    have hdp := hnw.1
    have hy8 := hy.1
    refine go_iload dC_leadOn_67 rfl ?_
    refine go_aload_n dC_leadOn_69 rfl rfl ?_
    refine go_getV dC_leadOn_70 flC_45 rfl (by assumption) (by first | assumption | (simp (disch := omega) only [wi_I, ro_I, wi_In, wi_Is]; done) | (simp (disch := omega) only [wi_I, ro_I, wi_In, wi_Is]; first | assumption | rfl) | rfl) ?_
    refine go_icmp_geN (by omega) (by omega) dC_leadOn_73 (tgt := 133) (by decide) (fun c1 => ?_) (fun c1 => absurd c1 (by omega))
    have e2 : cL2 M p y t = cBackL M y kk t (mN M) := by rw [hkk]; exact if_pos h24
    rw [show k = mN M by omega, ← e2] at hI
    exact go_post (C_l3 w hd G m p M y hp hy _ _ _ hS hM hnw hI) (fun r G2 h => ⟨h.1, h.2.1, ho.tr h.2.2⟩)
  | succ r ih =>
    intro k G hk hS ho hM hnw hI
    have hsz := hI.1
    have hkn : k < mN M := by omega
    obtain ⟨a1, a2, a3⟩ := hI.2.2.2 k hkn
    obtain ⟨m1, -, m3⟩ := hM.2.1.2.1 k hkn
    have hok := (hM.2.2.1.2.2.2.1 k hkn).1
    have q1 : G.1[102]? = some (0, 3) := hS.s rfl
    have q2 : G.1[103]? = some (1, 60) := hS.s rfl
    have q3 : G.1[104]? = some (1, 960) := hS.s rfl
    have q4 : G.1[105]? = some (2, 60) := hS.s rfl
    have q5 : G.1[106]? = some (2, 60) := hS.s rfl
    have q6 : G.2.2 102 0 = some 103 := hS.r ck_r0
    have q7 : G.2.2 102 2 = some 104 := hS.r ck_r2
    have q8 : G.2.2 102 3 = some 105 := hS.r ck_r3
    have q9 : G.2.2 102 4 = some 106 := hS.r ck_r4
    have q11 : G.1[107]? = some (1, 16) := hS.s rfl
    have q12 : G.1[108]? = some (1, 16) := hS.s rfl
    have q13 : G.2.2 102 5 = some 107 := hS.r ck_r5
    have q14 : G.2.2 102 6 = some 108 := hS.r ck_r6
    have hop28 := (hM.2.2.1.2.2.2.1 p hp).1
    have hn6 := hM.2.2.1.1
    have hdp := hnw.1
    have hy8 := hy.1
    have hMm := hM.1
    obtain ⟨hs, ⟨r0, r1, r2, r3, r4, r5, r6⟩, s1, s2, s3, s4, s5, s6, s7⟩ := hMm
    refine go_iload dC_leadOn_67 rfl ?_
    refine go_aload_n dC_leadOn_69 rfl rfl ?_
    refine go_getV dC_leadOn_70 flC_45 rfl (by assumption) (by first | assumption | (simp (disch := omega) only [wi_I, ro_I, wi_In, wi_Is]; done) | (simp (disch := omega) only [wi_I, ro_I, wi_In, wi_Is]; first | assumption | rfl) | rfl) ?_
    refine go_icmp_geN (by omega) (by omega) dC_leadOn_73 (tgt := 133) (by decide) (fun c1 => absurd c1 (by omega)) (fun c1 => ?_)
    refine go_aload_n dC_leadOn_76 rfl rfl ?_
    refine go_getO dC_leadOn_77 flC_18 rfl (by assumption) (by assumption) ?_
    refine go_iload dC_leadOn_80 rfl ?_
    refine go_balV q4 (by omega) (by decide) a1 dC_leadOn_82 ?_
    refine go_if_eqB dC_leadOn_83 (tgt := 127) (by decide) (fun c83 => ?_) (fun c83 => ?_)
    · refine go_inc dC_leadOn_127 rfl ?_
      refine go_goto dC_leadOn_130 (tgt := 67) (by decide) ?_
      first | exact ih (k + 1) G (by omega) hS ho hM hnw (by rw [bl_1 c83]; exact hI) | exact ih (k + 1) G (by omega) hS ho hM hnw (by rw [bl_2 c95]; exact hI) | exact ih (k + 1) G (by omega) hS ho hM hnw (by rw [bl_3 c107]; exact hI) | exact ih (k + 1) G2 (by omega) (ho2.St hS) (ho.tr ho2) (hM.same ho2.up) (hnw.k ho2) (by rw [bl_4 c83 c95 c107]; exact hI2)
    · refine go_aload_n dC_leadOn_86 rfl rfl ?_
      refine go_getO dC_leadOn_87 flC_91 rfl (by assumption) (by assumption) ?_
      refine go_iload dC_leadOn_90 rfl ?_
      refine go_ialV s1 (by omega) (by decide) m1 dC_leadOn_92 ?_
      refine go_bipush (nI 23) (by decide) dC_leadOn_93 ?_
      refine go_icmp_neN (by omega) (by decide) dC_leadOn_95 (tgt := 127) (by decide) (fun c95 => ?_) (fun c95 => ?_)
      · refine go_inc dC_leadOn_127 rfl ?_
        refine go_goto dC_leadOn_130 (tgt := 67) (by decide) ?_
        first | exact ih (k + 1) G (by omega) hS ho hM hnw (by rw [bl_1 c83]; exact hI) | exact ih (k + 1) G (by omega) hS ho hM hnw (by rw [bl_2 c95]; exact hI) | exact ih (k + 1) G (by omega) hS ho hM hnw (by rw [bl_3 c107]; exact hI) | exact ih (k + 1) G2 (by omega) (ho2.St hS) (ho.tr ho2) (hM.same ho2.up) (hnw.k ho2) (by rw [bl_4 c83 c95 c107]; exact hI2)
      · obtain ⟨b1, b2⟩ := hM.2.2.1.jmp hkn (Or.inr (Or.inr (Or.inr c95)))
        refine go_aload_n dC_leadOn_98 rfl rfl ?_
        refine go_getO dC_leadOn_99 flC_118 rfl (by assumption) (by assumption) ?_
        refine go_iload dC_leadOn_102 rfl ?_
        refine go_ialV s3 (by omega) (by decide) (m3.trans b1) dC_leadOn_104 ?_
        refine go_iload dC_leadOn_105 rfl ?_
        refine go_icmp_neN (by omega) (by omega) dC_leadOn_107 (tgt := 127) (by decide) (fun c107 => ?_) (fun c107 => ?_)
        · refine go_inc dC_leadOn_127 rfl ?_
          refine go_goto dC_leadOn_130 (tgt := 67) (by decide) ?_
          first | exact ih (k + 1) G (by omega) hS ho hM hnw (by rw [bl_1 c83]; exact hI) | exact ih (k + 1) G (by omega) hS ho hM hnw (by rw [bl_2 c95]; exact hI) | exact ih (k + 1) G (by omega) hS ho hM hnw (by rw [bl_3 c107]; exact hI) | exact ih (k + 1) G2 (by omega) (ho2.St hS) (ho.tr ho2) (hM.same ho2.up) (hnw.k ho2) (by rw [bl_4 c83 c95 c107]; exact hI2)
        · refine go_aload_n dC_leadOn_110 rfl rfl ?_
          refine go_aload_n dC_leadOn_111 rfl rfl ?_
          refine go_iload dC_leadOn_112 rfl ?_
          refine go_iconst (nI 1) (by decide) dC_leadOn_114 ?_
          refine go_iadd dC_leadOn_115 ?_
          rw [nI_add]
          refine go_aload_n dC_leadOn_116 rfl rfl ?_
          refine go_getO dC_leadOn_117 flC_25 rfl (by assumption) (by assumption) ?_
          refine go_aload_n dC_leadOn_120 rfl rfl ?_
          refine go_getV dC_leadOn_121 flC_79 rfl (by assumption) (by first | assumption | (simp (disch := omega) only [wi_I, ro_I, wi_In, wi_Is]; done) | (simp (disch := omega) only [wi_I, ro_I, wi_In, wi_Is]; first | assumption | rfl) | rfl) ?_
          refine go_cV (k' := (0, 0)) dC_leadOn_124 _ csC_69 q1 rfl imC_comeTo seC_comeTo rfl (okC_comeTo (d := 1) w (by decide) G m M (cBackL M y kk t k) (k + 1) 107 y (by omega) (Or.inl rfl) hy hS hM hnw.way hI) (by omega) (by decide) (Nat.le_of_ble_eq_true rfl) (fun r2 G2 hr2 hn2 => ?_)
          obtain ⟨rfl, hI2, ho2⟩ := hr2
          refine go_inc dC_leadOn_127 rfl ?_
          refine go_goto dC_leadOn_130 (tgt := 67) (by decide) ?_
          first | exact ih (k + 1) G (by omega) hS ho hM hnw (by rw [bl_1 c83]; exact hI) | exact ih (k + 1) G (by omega) hS ho hM hnw (by rw [bl_2 c95]; exact hI) | exact ih (k + 1) G (by omega) hS ho hM hnw (by rw [bl_3 c107]; exact hI) | exact ih (k + 1) G2 (by omega) (ho2.St hS) (ho.tr ho2) (hM.same ho2.up) (hnw.k ho2) (by rw [bl_4 c83 c95 c107]; exact hI2)
set_option maxRecDepth 100000 in
theorem C_l2s (w : am_W) {d : Nat} (hd : 2 ≤ d) (G : am_G) (m p : Nat) (M : mT) (y : fS) (hp : p < mN M) (hy : fB y) (t : cT) (l4 l5 : Option am_V) (hB : mO M p = 24 → ∃ k, y.2.2 (aN M p) = some k ∧ 10 ≤ k) (hS : St0 G) (hM : hldM G m M) (hnw : nowC G y) (hI : ckT G M t) : am_Go w jC_leadOn d (0, 0) 39 [some (.inr (some 102)), some (.inr (some m)), some (.inl (nI p)), some (.inl (nI (mO M p))), l4, l5] [] G (fun r G' => r = none ∧ ckT G' M (cL3 M p y (cL2 M p y t)) ∧ oK G G') := by
  have q1 : G.1[102]? = some (0, 3) := hS.s rfl
  have q2 : G.1[103]? = some (1, 60) := hS.s rfl
  have q3 : G.1[104]? = some (1, 960) := hS.s rfl
  have q4 : G.1[105]? = some (2, 60) := hS.s rfl
  have q5 : G.1[106]? = some (2, 60) := hS.s rfl
  have q6 : G.2.2 102 0 = some 103 := hS.r ck_r0
  have q7 : G.2.2 102 2 = some 104 := hS.r ck_r2
  have q8 : G.2.2 102 3 = some 105 := hS.r ck_r3
  have q9 : G.2.2 102 4 = some 106 := hS.r ck_r4
  have q11 : G.1[107]? = some (1, 16) := hS.s rfl
  have q12 : G.1[108]? = some (1, 16) := hS.s rfl
  have q13 : G.2.2 102 5 = some 107 := hS.r ck_r5
  have q14 : G.2.2 102 6 = some 108 := hS.r ck_r6
  have hop28 := (hM.2.2.1.2.2.2.1 p hp).1
  have hn6 := hM.2.2.1.1
  have hdp := hnw.1
  have hy8 := hy.1
  have hMm := hM.1
  obtain ⟨hs, ⟨r0, r1, r2, r3, r4, r5, r6⟩, s1, s2, s3, s4, s5, s6, s7⟩ := hMm
  refine go_iload_n dC_leadOn_39 rfl rfl ?_
  refine go_bipush (nI 24) (by decide) dC_leadOn_40 ?_
  refine go_icmp_neN (by omega) (by decide) dC_leadOn_42 (tgt := 133) (by decide) (fun c42 => ?_) (fun c42 => ?_)
  · have e3 : cL2 M p y t = t := if_neg c42
    rw [e3]
    exact C_l3 w hd G m p M y hp hy t _ _ hS hM hnw hI
  · obtain ⟨k, hk, hk10⟩ := hB c42
    obtain ⟨e1, e2⟩ := hM.2.2.1.loc hp (Or.inr (Or.inr (Or.inl c42)))
    have m2 := (hM.2.1.2.1 p hp).2.1
    have hnk := hnw.2.2 (aN M p) e2
    rw [hk] at hnk
    have hk1 := hy.2.2 (aN M p) e2 k hk
    refine go_aload_n dC_leadOn_45 rfl rfl ?_
    refine go_getO dC_leadOn_46 flC_25 rfl (by assumption) (by assumption) ?_
    refine go_bipush (nI 8) (by decide) dC_leadOn_49 ?_
    refine go_aload_n dC_leadOn_51 rfl rfl ?_
    refine go_getO dC_leadOn_52 flC_94 rfl (by assumption) (by assumption) ?_
    refine go_iload_n dC_leadOn_55 rfl rfl ?_
    refine go_ialV s2 (by omega) (by decide) (m2.trans e1) dC_leadOn_56 ?_
    refine go_iadd dC_leadOn_57 ?_
    rw [nI_add]
    refine go_ialV q11 (by omega) (by decide) hnk dC_leadOn_58 ?_
    refine go_bipush (nI 10) (by decide) dC_leadOn_59 ?_
    refine go_isubN hk10 dC_leadOn_61 ?_
    refine go_istore dC_leadOn_62 (Nat.le_of_ble_eq_true rfl) ?_
    refine go_iconst (nI 0) (by decide) dC_leadOn_64 ?_
    refine go_istore dC_leadOn_65 (Nat.le_of_ble_eq_true rfl) ?_
    exact C_l2 w hd G m p M y hp hy t (k - 10) (by omega) c42 (by unfold fRk; rw [hk]) (mN M) 0 G (by omega) hS oK.rf hM hnw hI
set_option maxRecDepth 100000 in
theorem okC_leadOn (w : am_W) {d : Nat} (hd : 2 ≤ d) (G : am_G) (m p : Nat) (M : mT) (y : fS) (hp : p < mN M) (hy : fB y) (t : cT) (hB : mO M p = 24 → ∃ k, y.2.2 (aN M p) = some k ∧ 10 ≤ k) (hS : St0 G) (hM : hldM G m M) (hnw : nowC G y) (hI : ckT G M t) : am_Ok w jC_leadOn d (0, 0) [.inr (some 102), .inr (some m), .inl (nI p)] G (fun r G' => r = none ∧ ckT G' M (cLead M p y t) ∧ oK G G') := by
  refine am_ok_of rfl (Nat.le_of_ble_eq_true rfl) ?_
  show am_Go w jC_leadOn d (0, 0) 0 [some (.inr (some 102)), some (.inr (some m)), some (.inl (nI p)), none, none, none] [] G _
  have q1 : G.1[102]? = some (0, 3) := hS.s rfl
  have q2 : G.1[103]? = some (1, 60) := hS.s rfl
  have q3 : G.1[104]? = some (1, 960) := hS.s rfl
  have q4 : G.1[105]? = some (2, 60) := hS.s rfl
  have q5 : G.1[106]? = some (2, 60) := hS.s rfl
  have q6 : G.2.2 102 0 = some 103 := hS.r ck_r0
  have q7 : G.2.2 102 2 = some 104 := hS.r ck_r2
  have q8 : G.2.2 102 3 = some 105 := hS.r ck_r3
  have q9 : G.2.2 102 4 = some 106 := hS.r ck_r4
  have q11 : G.1[107]? = some (1, 16) := hS.s rfl
  have q12 : G.1[108]? = some (1, 16) := hS.s rfl
  have q13 : G.2.2 102 5 = some 107 := hS.r ck_r5
  have q14 : G.2.2 102 6 = some 108 := hS.r ck_r6
  have hop28 := (hM.2.2.1.2.2.2.1 p hp).1
  have hn6 := hM.2.2.1.1
  have hdp := hnw.1
  have hy8 := hy.1
  have hMm := hM.1
  obtain ⟨hs, ⟨r0, r1, r2, r3, r4, r5, r6⟩, s1, s2, s3, s4, s5, s6, s7⟩ := hMm
  obtain ⟨m1, -, m3⟩ := hM.2.1.2.1 p hp
  refine go_aload_n dC_leadOn_0 rfl rfl ?_
  refine go_getO dC_leadOn_1 flC_91 rfl (by assumption) (by assumption) ?_
  refine go_iload_n dC_leadOn_4 rfl rfl ?_
  refine go_ialV s1 (by omega) (by decide) m1 dC_leadOn_5 ?_
  refine go_istore_n dC_leadOn_6 rfl (Nat.le_of_ble_eq_true rfl) ?_
  refine go_iload_n dC_leadOn_7 rfl rfl ?_
  refine go_cS (k' := (0, 0)) dC_leadOn_8 _ csC_128 stF_isJump rfl (okF_isJump (d := 0) w G (nI (mO M p))) (by omega) (by decide) (Nat.le_of_ble_eq_true rfl) (fun r G1 hr hn => ?_)
  obtain ⟨rfl, hG⟩ := hr
  rw [hG]
  clear hG hn
  rw [jmp_dec hop28]
  refine go_if_neB dC_leadOn_11 (tgt := 20) (by decide) (fun c11 => ?_) (fun c11 => ?_)
  · have hj : mO M p = 11 ∨ mO M p = 12 ∨ mO M p = 17 ∨ mO M p = 23 := by first | exact Or.inr (Or.inr (Or.inr c17)) | (have q := of_decide_eq_true c11; omega)
    obtain ⟨b1, b2⟩ := hM.2.2.1.jmp hp hj
    refine go_aload_n dC_leadOn_20 rfl rfl ?_
    refine go_aload_n dC_leadOn_21 rfl rfl ?_
    refine go_aload_n dC_leadOn_22 rfl rfl ?_
    refine go_getO dC_leadOn_23 flC_118 rfl (by assumption) (by assumption) ?_
    refine go_iload_n dC_leadOn_26 rfl rfl ?_
    refine go_ialV s3 (by omega) (by decide) (m3.trans b1) dC_leadOn_27 ?_
    refine go_aload_n dC_leadOn_28 rfl rfl ?_
    refine go_getO dC_leadOn_29 flC_25 rfl (by assumption) (by assumption) ?_
    refine go_aload_n dC_leadOn_32 rfl rfl ?_
    refine go_getV dC_leadOn_33 flC_79 rfl (by assumption) (by first | assumption | (simp (disch := omega) only [wi_I, ro_I, wi_In, wi_Is]; done) | (simp (disch := omega) only [wi_I, ro_I, wi_In, wi_Is]; first | assumption | rfl) | rfl) ?_
    refine go_cV (k' := (0, 0)) dC_leadOn_36 _ csC_69 q1 rfl imC_comeTo seC_comeTo rfl (okC_comeTo (d := 1) w (by decide) G m M t (bN M p) 107 y (by omega) (Or.inl rfl) hy hS hM hnw.way hI) (by omega) (by decide) (Nat.le_of_ble_eq_true rfl) (fun r2 G2 hr2 hn2 => ?_)
    obtain ⟨rfl, hI2, ho2⟩ := hr2
    have e1 : cL1 M p y t = cCome M t (bN M p) y := if_pos hj
    rw [← e1] at hI2
    refine go_post (C_l2s w hd G2 m p M y hp hy _ _ _ hB (ho2.St hS) (hM.same ho2.up) (hnw.k ho2) hI2) (fun r G3 h => ⟨h.1, h.2.1, ho2.tr h.2.2⟩)
  · refine go_iload_n dC_leadOn_14 rfl rfl ?_
    refine go_bipush (nI 23) (by decide) dC_leadOn_15 ?_
    refine go_icmp_neN (by omega) (by decide) dC_leadOn_17 (tgt := 39) (by decide) (fun c17 => ?_) (fun c17 => ?_)
    · have e1 : cL1 M p y t = t := if_neg (by have q := of_decide_eq_false c11; omega)
      unfold cLead
      rw [e1]
      exact C_l2s w hd G m p M y hp hy _ _ _ hB hS hM hnw hI
    · have hj : mO M p = 11 ∨ mO M p = 12 ∨ mO M p = 17 ∨ mO M p = 23 := by first | exact Or.inr (Or.inr (Or.inr c17)) | (have q := of_decide_eq_true c11; omega)
      obtain ⟨b1, b2⟩ := hM.2.2.1.jmp hp hj
      refine go_aload_n dC_leadOn_20 rfl rfl ?_
      refine go_aload_n dC_leadOn_21 rfl rfl ?_
      refine go_aload_n dC_leadOn_22 rfl rfl ?_
      refine go_getO dC_leadOn_23 flC_118 rfl (by assumption) (by assumption) ?_
      refine go_iload_n dC_leadOn_26 rfl rfl ?_
      refine go_ialV s3 (by omega) (by decide) (m3.trans b1) dC_leadOn_27 ?_
      refine go_aload_n dC_leadOn_28 rfl rfl ?_
      refine go_getO dC_leadOn_29 flC_25 rfl (by assumption) (by assumption) ?_
      refine go_aload_n dC_leadOn_32 rfl rfl ?_
      refine go_getV dC_leadOn_33 flC_79 rfl (by assumption) (by first | assumption | (simp (disch := omega) only [wi_I, ro_I, wi_In, wi_Is]; done) | (simp (disch := omega) only [wi_I, ro_I, wi_In, wi_Is]; first | assumption | rfl) | rfl) ?_
      refine go_cV (k' := (0, 0)) dC_leadOn_36 _ csC_69 q1 rfl imC_comeTo seC_comeTo rfl (okC_comeTo (d := 1) w (by decide) G m M t (bN M p) 107 y (by omega) (Or.inl rfl) hy hS hM hnw.way hI) (by omega) (by decide) (Nat.le_of_ble_eq_true rfl) (fun r2 G2 hr2 hn2 => ?_)
      obtain ⟨rfl, hI2, ho2⟩ := hr2
      have e1 : cL1 M p y t = cCome M t (bN M p) y := if_pos hj
      rw [← e1] at hI2
      refine go_post (C_l2s w hd G2 m p M y hp hy _ _ _ hB (ho2.St hS) (hM.same ho2.up) (hnw.k ho2) hI2) (fun r G3 h => ⟨h.1, h.2.1, ho2.tr h.2.2⟩)
