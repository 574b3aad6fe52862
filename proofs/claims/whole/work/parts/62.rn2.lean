theorem cS.w1 {G G' : am_G} {s : sT} (h : cS G s) (ho : oW 161 G G') : cS G' s := ⟨by rw [ho.2.1 0 (by omega)]; exact h.1, fun p hp m hm => (h.2.1 p hp m hm).same (fun i h1 h2 => ho.2.1 i (by unfold mo at h1 h2; omega)), h.2.2.same (ho.2.1 159 (by decide)) (ho.2.1 160 (by decide))⟩
set_option maxRecDepth 100000 in
theorem okF_run (w : am_W) {d : Nat} (hd : 7 ≤ d) (G : am_G) (s : sT) (p m l x y z : Int32) (hS : St0 G) (hc : cS G s) (hv : sV s) : am_Ok w jF_run d (0, 0) [.inr (some 0), .inl p, .inl m, .inl l, .inl x, .inl y, .inl z] G (fun r G' => r = some (.inl (aRun s p m l x y z).1) ∧ cEnd2 G G' (aRun s p m l x y z).2) := by
  refine am_ok_of rfl (Nat.le_of_ble_eq_true rfl) ?_
  show am_Go w jF_run d (0, 0) 0 [some (.inr (some 0)), some (.inl p), some (.inl m), some (.inl l), some (.inl x), some (.inl y), some (.inl z), none] [] G _
  have q6 : G.1[0]? = some (0, 0) := hS.s rfl
  have q7 : G.1[1]? = some (3, 2) := hS.s rfl
  have q8 : G.2.2 0 0 = some 1 := hS.r (by decide +kernel)
  have q9 : G.2.2 0 2 = some 109 := hS.r (by decide +kernel)
  have q10 : G.2.2 0 4 = some 159 := hS.r (by decide +kernel)
  have q11 : G.2.2 0 5 = some 161 := hS.r (by decide +kernel)
  have q12 : G.1[109]? = some (0, 6) := hS.s rfl
  have q13 : G.1[159]? = some (0, 4) := hS.s rfl
  have q14 : G.1[161]? = some (0, 4) := hS.s rfl
  have q15 : G.2.2 1 0 = some 2 := hS.r (by decide +kernel)
  have q16 : G.2.2 1 1 = some 52 := hS.r (by decide +kernel)
  refine go_iload_n dF_run_0 rfl rfl ?_
  refine go_iconst (nI 2) (by decide) dF_run_1 ?_
  refine go_cS (k' := (0, 0)) dF_run_2 _ csF_51 stF_isBelow rfl (okF_below (d := 0) w G p 2 (by decide)) (by omega) (by decide) (Nat.le_of_ble_eq_true rfl) (fun r G1 hr hn => ?_)
  obtain ⟨rfl, hG⟩ := hr
  rw [hG]
  clear hG hn
  refine go_if_eqB dF_run_5 (tgt := 21) (by decide) (fun c5 => ?_) (fun c5 => ?_)
  · refine go_iconst (am_b false) (by decide) dF_run_21 ?_
    refine go_istore dF_run_22 (Nat.le_of_ble_eq_true rfl) ?_
    refine go_iload dF_run_24 rfl ?_
    refine go_if_eqB dF_run_26 (tgt := 39) (by decide) (fun c1 => ?_) (fun c1 => absurd c1 (by decide))
    refine go_iconst (-1) (by decide) dF_run_39 ?_
    refine go_ireturn rfl dF_run_40 ?_
    first | (have q := aRun_o1 (s := s) (m := m) (l := l) (x := x) (y := y) (z := z) c5; rw [q]; exact ⟨rfl, .rf hS hc⟩) | (have q := aRun_o2 (s := s) (p := p) (l := l) (x := x) (y := y) (z := z) c14; rw [q]; exact ⟨rfl, .rf hS hc⟩) | (have q := aRun_o3 (s := s) (p := p) (m := m) (x := x) (y := y) (z := z) c36; rw [q]; exact ⟨rfl, .rf hS hc⟩)
  · refine go_iload_n dF_run_8 rfl rfl ?_
    refine go_bipush (nI 6) (by decide) dF_run_9 ?_
    refine go_cS (k' := (0, 0)) dF_run_11 _ csF_51 stF_isBelow rfl (okF_below (d := 0) w G m 6 (by decide)) (by omega) (by decide) (Nat.le_of_ble_eq_true rfl) (fun r G1 hr hn => ?_)
    obtain ⟨rfl, hG⟩ := hr
    rw [hG]
    clear hG hn
    refine go_if_eqB dF_run_14 (tgt := 21) (by decide) (fun c14 => ?_) (fun c14 => ?_)
    · refine go_iconst (am_b false) (by decide) dF_run_21 ?_
      refine go_istore dF_run_22 (Nat.le_of_ble_eq_true rfl) ?_
      refine go_iload dF_run_24 rfl ?_
      refine go_if_eqB dF_run_26 (tgt := 39) (by decide) (fun c1 => ?_) (fun c1 => absurd c1 (by decide))
      refine go_iconst (-1) (by decide) dF_run_39 ?_
      refine go_ireturn rfl dF_run_40 ?_
      first | (have q := aRun_o1 (s := s) (m := m) (l := l) (x := x) (y := y) (z := z) c5; rw [q]; exact ⟨rfl, .rf hS hc⟩) | (have q := aRun_o2 (s := s) (p := p) (l := l) (x := x) (y := y) (z := z) c14; rw [q]; exact ⟨rfl, .rf hS hc⟩) | (have q := aRun_o3 (s := s) (p := p) (m := m) (x := x) (y := y) (z := z) c36; rw [q]; exact ⟨rfl, .rf hS hc⟩)
    · refine go_iconst (am_b true) (by decide) dF_run_17 ?_
      refine go_goto dF_run_18 (tgt := 22) (by decide) ?_
      refine go_istore dF_run_22 (Nat.le_of_ble_eq_true rfl) ?_
      refine go_iload dF_run_24 rfl ?_
      refine go_if_eqB dF_run_26 (tgt := 39) (by decide) (fun c1 => absurd c1 (by decide)) (fun c1 => ?_)
      refine go_iload_n dF_run_29 rfl rfl ?_
      refine go_sipush (nI 1001) (by decide) dF_run_30 ?_
      refine go_cS (k' := (0, 0)) dF_run_33 _ csF_51 stF_isBelow rfl (okF_below (d := 0) w G l 1001 (by decide)) (by omega) (by decide) (Nat.le_of_ble_eq_true rfl) (fun r G1 hr hn => ?_)
      obtain ⟨rfl, hG⟩ := hr
      rw [hG]
      clear hG hn
      refine go_if_neB dF_run_36 (tgt := 41) (by decide) (fun c36 => ?_) (fun c36 => ?_)
      · obtain ⟨a, ha, rfl⟩ := bel_of c5 (by decide)
        obtain ⟨b, hb, rfl⟩ := bel_of c14 (by decide)
        obtain ⟨c, hc3, rfl⟩ := bel_of c36 (by decide)
        have qp := hS.r (pr_l a ha).2.2.2
        refine go_aload_n dF_run_41 rfl rfl ?_
        refine go_aload_n dF_run_42 rfl rfl ?_
        refine go_getO dF_run_43 flF_11 rfl (by assumption) (by assumption) ?_
        refine go_iload_n dF_run_46 rfl rfl ?_
        refine go_aaO (t := 0) (by decide) q7 ha (by decide) qp dF_run_47 ?_
        refine go_iload_n dF_run_48 rfl rfl ?_
        refine go_cV (k' := (0, 0)) dF_run_49 _ csF_113 (by assumption) rfl imF_allSound seF_allSound rfl (okF_allSound (d := 6) w (by decide) G a b (zQ s a) ha hS (cS.hP hS hc hv ha) hb) (by omega) (by decide) (Nat.le_of_ble_eq_true rfl) (fun r G1 hr hn => ?_)
        obtain ⟨t, rfl, bS, o1⟩ := hr
        have hS0 := hS
        have hS := o1.St hS
        have q6 : G1.1[0]? = some (0, 0) := hS.s rfl
        have q7 : G1.1[1]? = some (3, 2) := hS.s rfl
        have q8 : G1.2.2 0 0 = some 1 := hS.r (by decide +kernel)
        have q9 : G1.2.2 0 2 = some 109 := hS.r (by decide +kernel)
        have q10 : G1.2.2 0 4 = some 159 := hS.r (by decide +kernel)
        have q11 : G1.2.2 0 5 = some 161 := hS.r (by decide +kernel)
        have q12 : G1.1[109]? = some (0, 6) := hS.s rfl
        have q13 : G1.1[159]? = some (0, 4) := hS.s rfl
        have q14 : G1.1[161]? = some (0, 4) := hS.s rfl
        have q15 : G1.2.2 1 0 = some 2 := hS.r (by decide +kernel)
        have q16 : G1.2.2 1 1 = some 52 := hS.r (by decide +kernel)
        have qp := hS.r (pr_l a ha).2.2.2
        refine go_if_neB dF_run_52 (tgt := 58) (by decide) (fun c52 => ?_) (fun c52 => ?_)
        · refine go_aload_n dF_run_58 rfl rfl ?_
          refine go_getO dF_run_59 flF_26 rfl (by assumption) (by assumption) ?_
          refine go_aload_n dF_run_62 rfl rfl ?_
          refine go_getO dF_run_63 flF_11 rfl (by assumption) (by assumption) ?_
          refine go_iload_n dF_run_66 rfl rfl ?_
          refine go_aaO (t := 0) (by decide) q7 ha (by decide) qp dF_run_67 ?_
          refine go_iload_n dF_run_68 rfl rfl ?_
          refine go_iload_n dF_run_69 rfl rfl ?_
          refine go_iload dF_run_70 rfl ?_
          refine go_iload dF_run_72 rfl ?_
          refine go_iload dF_run_74 rfl ?_
          refine go_aload_n dF_run_76 rfl rfl ?_
          refine go_getO dF_run_77 flF_40 rfl (by assumption) (by assumption) ?_
          refine go_cV (k' := (0, 0)) dF_run_80 _ csF_116 (by assumption) rfl imM_play seM_play rfl (okM_play (d := 5) w (by decide) G1 a 159 b c x y z (zQ s a) (zOf (zQ s a)) ha (Or.inl rfl) hb (by omega) (bS.mp c52).zs hS (cS.hP hS (hc.ck o1) hv ha)) (by omega) (by decide) (Nat.le_of_ble_eq_true rfl) (fun r G1 hr hn => ?_)
          obtain ⟨rfl, ⟨t2, X2⟩, o2, S2⟩ := hr
          have X2 : cX a 159 G1 (aT s a b c x y z) t2 false := X2
          have q6 : G1.1[0]? = some (0, 0) := S2.s rfl
          have q7 : G1.1[1]? = some (3, 2) := S2.s rfl
          have q8 : G1.2.2 0 0 = some 1 := S2.r (by decide +kernel)
          have q9 : G1.2.2 0 2 = some 109 := S2.r (by decide +kernel)
          have q10 : G1.2.2 0 4 = some 159 := S2.r (by decide +kernel)
          have q11 : G1.2.2 0 5 = some 161 := S2.r (by decide +kernel)
          have q12 : G1.1[109]? = some (0, 6) := S2.s rfl
          have q13 : G1.1[159]? = some (0, 4) := S2.s rfl
          have q14 : G1.1[161]? = some (0, 4) := S2.s rfl
          have q15 : G1.2.2 1 0 = some 2 := S2.r (by decide +kernel)
          have q16 : G1.2.2 1 1 = some 52 := S2.r (by decide +kernel)
          have en := xRes_e X2
          refine go_aload_n dF_run_83 rfl rfl ?_
          refine go_getO dF_run_84 flF_40 rfl (by assumption) (by assumption) ?_
          refine go_getV dF_run_87 flF_120 rfl (by assumption) (by first | assumption | (simp (disch := omega) only [wi_I, ro_I, wi_In, wi_Is]; done) | (simp (disch := omega) only [wi_I, ro_I, wi_In, wi_Is]; first | assumption | rfl) | rfl) ?_
          refine go_ireturn rfl dF_run_90 ?_
          have q := aRun_y (x := x) (y := y) (z := z) ha hb hc3 (bS.mp c52)
          rw [q]
          refine ⟨rfl, S2, (hc.ck o1).wl o2 X2.1, fun i hi => ?_⟩
          rw [o2.2.1 i (by omega), o1.2.2 i (by omega)]
        · refine go_bipush (-4) (by decide) dF_run_55 ?_
          refine go_ireturn rfl dF_run_57 ?_
          have q := aRun_w (x := x) (y := y) (z := z) ha hb hc3 (nsP bS c52)
          rw [q]
          exact ⟨rfl, .ck hS0 hc o1⟩
      · refine go_iconst (-1) (by decide) dF_run_39 ?_
        refine go_ireturn rfl dF_run_40 ?_
        first | (have q := aRun_o1 (s := s) (m := m) (l := l) (x := x) (y := y) (z := z) c5; rw [q]; exact ⟨rfl, .rf hS hc⟩) | (have q := aRun_o2 (s := s) (p := p) (l := l) (x := x) (y := y) (z := z) c14; rw [q]; exact ⟨rfl, .rf hS hc⟩) | (have q := aRun_o3 (s := s) (p := p) (m := m) (x := x) (y := y) (z := z) c36; rw [q]; exact ⟨rfl, .rf hS hc⟩)
set_option maxRecDepth 100000 in
theorem L_se (w : am_W) {d : Nat} (hd : 2 ≤ d) (G : am_G) (l0 l : lT) (hS : St0 G) (hn : lNn l0 = lNn l) (hb : lNn l < 100000) (h0 : cL G 161 l0) (h1 : cL G 159 l) : ∀ (r k : Nat), k + r = 120 → (∀ i, i < k → i < lNn l → lK l0 i = lK l i) → am_Go w jL_sameEntries d (0, 0) 15 [some (.inr (some 159)), some (.inr (some 161)), some (.inl (nI k))] [] G (fun r G' => (r = some (.inl (am_b true)) ∧ sameL l0 l ∨ r = some (.inl (am_b false)) ∧ ¬ sameL l0 l) ∧ G' = G) := by
  have q6 : G.1[0]? = some (0, 0) := hS.s rfl
  have q7 : G.1[1]? = some (3, 2) := hS.s rfl
  have q8 : G.2.2 0 0 = some 1 := hS.r (by decide +kernel)
  have q9 : G.2.2 0 2 = some 109 := hS.r (by decide +kernel)
  have q10 : G.2.2 0 4 = some 159 := hS.r (by decide +kernel)
  have q11 : G.2.2 0 5 = some 161 := hS.r (by decide +kernel)
  have q12 : G.1[109]? = some (0, 6) := hS.s rfl
  have q13 : G.1[159]? = some (0, 4) := hS.s rfl
  have q14 : G.1[161]? = some (0, 4) := hS.s rfl
  have q15 : G.2.2 1 0 = some 2 := hS.r (by decide +kernel)
  have q16 : G.2.2 1 1 = some 52 := hS.r (by decide +kernel)
  have q17 : G.2.2 159 0 = some 160 := hS.r (by decide +kernel)
  have q18 : G.2.2 161 0 = some 162 := hS.r (by decide +kernel)
  have q19 : G.1[160]? = some (1, 120) := hS.s rfl
  have q20 : G.1[162]? = some (1, 120) := hS.s rfl
  have en : G.2.1 159 6 = nI (lNn l) := h1.2.2.2.2.1
  intro r
  induction r with
  | zero =>
    intro k hk he
    refine go_iload_n dL_sameEntries_15 rfl rfl ?_
    refine go_aload_n dL_sameEntries_16 rfl rfl ?_
    refine go_cV (k' := (0, 0)) dL_sameEntries_17 _ csL_43 (by assumption) rfl imL_entriesKept seL_entriesKept rfl (okL_entriesKept (d := 1) w (by decide) G 159 (lNn l) (by omega) q13 en) (by omega) (by decide) (Nat.le_of_ble_eq_true rfl) (fun r G1 hr hn => ?_)
    obtain ⟨rfl, hG⟩ := hr
    rw [hG]
    clear hG hn
    refine go_icmp_geN (by omega) (by omega) dL_sameEntries_20 (tgt := 46) (by decide) (fun c1 => ?_) (fun c1 => absurd c1 (by omega))
    refine go_iconst (am_b true) (by decide) dL_sameEntries_46 ?_
    refine go_zreturn rfl (by first | exact Or.inl rfl | exact Or.inr rfl | exact am_b_01 _) dL_sameEntries_47 ?_
    exact ⟨Or.inl ⟨rfl, hn, fun i i1 i2 => he i (by omega) i1⟩, rfl⟩
  | succ r ih =>
    intro k hk he
    refine go_iload_n dL_sameEntries_15 rfl rfl ?_
    refine go_aload_n dL_sameEntries_16 rfl rfl ?_
    refine go_cV (k' := (0, 0)) dL_sameEntries_17 _ csL_43 (by assumption) rfl imL_entriesKept seL_entriesKept rfl (okL_entriesKept (d := 1) w (by decide) G 159 (lNn l) (by omega) q13 en) (by omega) (by decide) (Nat.le_of_ble_eq_true rfl) (fun r G1 hr hn => ?_)
    obtain ⟨rfl, hG⟩ := hr
    rw [hG]
    clear hG hn
    refine go_icmp_geN (by omega) (by omega) dL_sameEntries_20 (tgt := 46) (by decide) (fun c20 => ?_) (fun c20 => ?_)
    · refine go_iconst (am_b true) (by decide) dL_sameEntries_46 ?_
      refine go_zreturn rfl (am_b_01 _) dL_sameEntries_47 ?_
      exact ⟨Or.inl ⟨rfl, hn, fun i i1 i2 => he i (by omega) i1⟩, rfl⟩
    · have e0 : G.2.1 162 k = lK l0 k := h0.2.2.2.2.2.2 k (show k < lNn l0 by omega) (by omega)
      have e1 : G.2.1 160 k = lK l k := h1.2.2.2.2.2.2 k (show k < lNn l by omega) (by omega)
      refine go_aload_n dL_sameEntries_23 rfl rfl ?_
      refine go_getO dL_sameEntries_24 flL_9 rfl (by assumption) (by assumption) ?_
      refine go_iload_n dL_sameEntries_27 rfl rfl ?_
      refine go_ialV q19 (by omega) (by decide) e1 dL_sameEntries_28 ?_
      refine go_aload_n dL_sameEntries_29 rfl rfl ?_
      refine go_getO dL_sameEntries_30 flL_9 rfl (by assumption) (by assumption) ?_
      refine go_iload_n dL_sameEntries_33 rfl rfl ?_
      refine go_ialV q20 (by omega) (by decide) e0 dL_sameEntries_34 ?_
      refine go_icmp_eq dL_sameEntries_35 (tgt := 40) (by decide) (fun c35 => ?_) (fun c35 => ?_)
      · refine go_inc dL_sameEntries_40 rfl ?_
        refine go_goto dL_sameEntries_43 (tgt := 15) (by decide) ?_
        refine ih (k + 1) (by omega) (fun i i1 i2 => ?_)
        by_cases e : i = k
        · rw [e]; exact c35.symm
        · exact he i (by omega) i2
      · refine go_iconst (am_b false) (by decide) dL_sameEntries_38 ?_
        refine go_zreturn rfl (am_b_01 _) dL_sameEntries_39 ?_
        exact ⟨Or.inr ⟨rfl, fun q => c35 (q.2 k (by omega) (by omega)).symm⟩, rfl⟩
set_option maxRecDepth 100000 in
theorem okL_sameEntries (w : am_W) {d : Nat} (hd : 2 ≤ d) (G : am_G) (l0 l : lT) (hS : St0 G) (ha : lNn l0 < 100000) (hb : lNn l < 100000) (h0 : cL G 161 l0) (h1 : cL G 159 l) : am_Ok w jL_sameEntries d (0, 0) [.inr (some 159), .inr (some 161)] G (fun r G' => (r = some (.inl (am_b true)) ∧ sameL l0 l ∨ r = some (.inl (am_b false)) ∧ ¬ sameL l0 l) ∧ G' = G) := by
  refine am_ok_of rfl (Nat.le_of_ble_eq_true rfl) ?_
  show am_Go w jL_sameEntries d (0, 0) 0 [some (.inr (some 159)), some (.inr (some 161)), none] [] G _
  have q6 : G.1[0]? = some (0, 0) := hS.s rfl
  have q7 : G.1[1]? = some (3, 2) := hS.s rfl
  have q8 : G.2.2 0 0 = some 1 := hS.r (by decide +kernel)
  have q9 : G.2.2 0 2 = some 109 := hS.r (by decide +kernel)
  have q10 : G.2.2 0 4 = some 159 := hS.r (by decide +kernel)
  have q11 : G.2.2 0 5 = some 161 := hS.r (by decide +kernel)
  have q12 : G.1[109]? = some (0, 6) := hS.s rfl
  have q13 : G.1[159]? = some (0, 4) := hS.s rfl
  have q14 : G.1[161]? = some (0, 4) := hS.s rfl
  have q15 : G.2.2 1 0 = some 2 := hS.r (by decide +kernel)
  have q16 : G.2.2 1 1 = some 52 := hS.r (by decide +kernel)
  have en : G.2.1 159 6 = nI (lNn l) := h1.2.2.2.2.1
  have en0 : G.2.1 161 6 = nI (lNn l0) := h0.2.2.2.2.1
  refine go_aload_n dL_sameEntries_0 rfl rfl ?_
  refine go_getV dL_sameEntries_1 flL_31 rfl (by assumption) (by first | assumption | (simp (disch := omega) only [wi_I, ro_I, wi_In, wi_Is]; done) | (simp (disch := omega) only [wi_I, ro_I, wi_In, wi_Is]; first | assumption | rfl) | rfl) ?_
  refine go_aload_n dL_sameEntries_4 rfl rfl ?_
  refine go_getV dL_sameEntries_5 flL_31 rfl (by assumption) (by first | assumption | (simp (disch := omega) only [wi_I, ro_I, wi_In, wi_Is]; done) | (simp (disch := omega) only [wi_I, ro_I, wi_In, wi_Is]; first | assumption | rfl) | rfl) ?_
  refine go_icmp_eqN (by omega) (by omega) dL_sameEntries_8 (tgt := 13) (by decide) (fun c8 => ?_) (fun c8 => ?_)
  · refine go_iconst (nI 0) (by decide) dL_sameEntries_13 ?_
    refine go_istore_n dL_sameEntries_14 rfl (Nat.le_of_ble_eq_true rfl) ?_
    exact L_se w hd G l0 l hS c8.symm hb h0 h1 120 0 rfl (fun i hi => absurd hi (Nat.not_lt_zero i))
  · refine go_iconst (am_b false) (by decide) dL_sameEntries_11 ?_
    refine go_zreturn rfl (am_b_01 _) dL_sameEntries_12 ?_
    exact ⟨Or.inr ⟨rfl, fun q => c8 q.1.symm⟩, rfl⟩
set_option maxRecDepth 100000 in
theorem okF_compare (w : am_W) {d : Nat} (hd : 7 ≤ d) (G : am_G) (s : sT) (m x y z : Int32) (hS : St0 G) (hc : cS G s) (hv : sV s) : am_Ok w jF_compare d (0, 0) [.inr (some 0), .inl m, .inl x, .inl y, .inl z] G (fun r G' => r = some (.inl (aCmp s m x y z).1) ∧ cEnd2 G G' (aCmp s m x y z).2) := by
  refine am_ok_of rfl (Nat.le_of_ble_eq_true rfl) ?_
  show am_Go w jF_compare d (0, 0) 0 [some (.inr (some 0)), some (.inl m), some (.inl x), some (.inl y), some (.inl z)] [] G _
  have q6 : G.1[0]? = some (0, 0) := hS.s rfl
  have q7 : G.1[1]? = some (3, 2) := hS.s rfl
  have q8 : G.2.2 0 0 = some 1 := hS.r (by decide +kernel)
  have q9 : G.2.2 0 2 = some 109 := hS.r (by decide +kernel)
  have q10 : G.2.2 0 4 = some 159 := hS.r (by decide +kernel)
  have q11 : G.2.2 0 5 = some 161 := hS.r (by decide +kernel)
  have q12 : G.1[109]? = some (0, 6) := hS.s rfl
  have q13 : G.1[159]? = some (0, 4) := hS.s rfl
  have q14 : G.1[161]? = some (0, 4) := hS.s rfl
  have q15 : G.2.2 1 0 = some 2 := hS.r (by decide +kernel)
  have q16 : G.2.2 1 1 = some 52 := hS.r (by decide +kernel)
  refine go_iload_n dF_compare_0 rfl rfl ?_
  refine go_bipush (nI 6) (by decide) dF_compare_1 ?_
  refine go_cS (k' := (0, 0)) dF_compare_3 _ csF_51 stF_isBelow rfl (okF_below (d := 0) w G m 6 (by decide)) (by omega) (by decide) (Nat.le_of_ble_eq_true rfl) (fun r G1 hr hn => ?_)
  obtain ⟨rfl, hG⟩ := hr
  rw [hG]
  clear hG hn
  refine go_if_neB dF_compare_6 (tgt := 11) (by decide) (fun c6 => ?_) (fun c6 => ?_)
  · obtain ⟨b, hb, rfl⟩ := bel_of c6 (by decide)
    refine go_aload_n dF_compare_11 rfl rfl ?_
    refine go_aload_n dF_compare_12 rfl rfl ?_
    refine go_getO dF_compare_13 flF_11 rfl (by assumption) (by assumption) ?_
    refine go_iconst (nI 0) (by decide) dF_compare_16 ?_
    refine go_aaO (t := 0) (a := 0) (by decide) q7 (by decide) (by decide) q15 dF_compare_17 ?_
    refine go_iload_n dF_compare_18 rfl rfl ?_
    refine go_cV (k' := (0, 0)) dF_compare_19 _ csF_113 (by assumption) rfl imF_allSound seF_allSound rfl (okF_allSound (d := 6) w (by decide) G 0 b (zQ s 0) (by decide) hS (cS.hP hS hc hv (by decide)) hb) (by omega) (by decide) (Nat.le_of_ble_eq_true rfl) (fun r G1 hr hn => ?_)
    obtain ⟨t, rfl, bS1, o1⟩ := hr
    have hS00 := hS
    have hS := o1.St hS
    have q6 : G1.1[0]? = some (0, 0) := hS.s rfl
    have q7 : G1.1[1]? = some (3, 2) := hS.s rfl
    have q8 : G1.2.2 0 0 = some 1 := hS.r (by decide +kernel)
    have q9 : G1.2.2 0 2 = some 109 := hS.r (by decide +kernel)
    have q10 : G1.2.2 0 4 = some 159 := hS.r (by decide +kernel)
    have q11 : G1.2.2 0 5 = some 161 := hS.r (by decide +kernel)
    have q12 : G1.1[109]? = some (0, 6) := hS.s rfl
    have q13 : G1.1[159]? = some (0, 4) := hS.s rfl
    have q14 : G1.1[161]? = some (0, 4) := hS.s rfl
    have q15 : G1.2.2 1 0 = some 2 := hS.r (by decide +kernel)
    have q16 : G1.2.2 1 1 = some 52 := hS.r (by decide +kernel)
    refine go_if_eqB dF_compare_22 (tgt := 39) (by decide) (fun c22 => ?_) (fun c22 => ?_)
    · refine go_bipush (-4) (by decide) dF_compare_39 ?_
      refine go_ireturn rfl dF_compare_41 ?_
      first | (have q := aCmp_w2 (x := x) (y := y) (z := z) hb (nsP bS2 c36); rw [q]; exact ⟨rfl, .ck hS00 hc (o1.tr o2)⟩) | (have q := aCmp_w1 (x := x) (y := y) (z := z) hb (nsP bS1 c22); rw [q]; exact ⟨rfl, .ck hS00 hc o1⟩)
    · refine go_aload_n dF_compare_25 rfl rfl ?_
      refine go_aload_n dF_compare_26 rfl rfl ?_
      refine go_getO dF_compare_27 flF_11 rfl (by assumption) (by assumption) ?_
      refine go_iconst (nI 1) (by decide) dF_compare_30 ?_
      refine go_aaO (t := 0) (a := 1) (by decide) q7 (by decide) (by decide) q16 dF_compare_31 ?_
      refine go_iload_n dF_compare_32 rfl rfl ?_
      refine go_cV (k' := (0, 0)) dF_compare_33 _ csF_113 (by assumption) rfl imF_allSound seF_allSound rfl (okF_allSound (d := 6) w (by decide) G1 1 b (zQ s 1) (by decide) hS (cS.hP hS (hc.ck o1) hv (by decide)) hb) (by omega) (by decide) (Nat.le_of_ble_eq_true rfl) (fun r G1 hr hn => ?_)
      obtain ⟨t4, rfl, bS2, o2⟩ := hr
      have hS := o2.St hS
      have q6 : G1.1[0]? = some (0, 0) := hS.s rfl
      have q7 : G1.1[1]? = some (3, 2) := hS.s rfl
      have q8 : G1.2.2 0 0 = some 1 := hS.r (by decide +kernel)
      have q9 : G1.2.2 0 2 = some 109 := hS.r (by decide +kernel)
      have q10 : G1.2.2 0 4 = some 159 := hS.r (by decide +kernel)
      have q11 : G1.2.2 0 5 = some 161 := hS.r (by decide +kernel)
      have q12 : G1.1[109]? = some (0, 6) := hS.s rfl
      have q13 : G1.1[159]? = some (0, 4) := hS.s rfl
      have q14 : G1.1[161]? = some (0, 4) := hS.s rfl
      have q15 : G1.2.2 1 0 = some 2 := hS.r (by decide +kernel)
      have q16 : G1.2.2 1 1 = some 52 := hS.r (by decide +kernel)
      refine go_if_neB dF_compare_36 (tgt := 42) (by decide) (fun c36 => ?_) (fun c36 => ?_)
      · refine go_aload_n dF_compare_42 rfl rfl ?_
        refine go_getO dF_compare_43 flF_26 rfl (by assumption) (by assumption) ?_
        refine go_aload_n dF_compare_46 rfl rfl ?_
        refine go_getO dF_compare_47 flF_11 rfl (by assumption) (by assumption) ?_
        refine go_iconst (nI 0) (by decide) dF_compare_50 ?_
        refine go_aaO (t := 0) (a := 0) (by decide) q7 (by decide) (by decide) q15 dF_compare_51 ?_
        refine go_iload_n dF_compare_52 rfl rfl ?_
        refine go_sipush (nI 1000) (by decide) dF_compare_53 ?_
        refine go_iload_n dF_compare_56 rfl rfl ?_
        refine go_iload_n dF_compare_57 rfl rfl ?_
        refine go_iload dF_compare_58 rfl ?_
        refine go_aload_n dF_compare_60 rfl rfl ?_
        refine go_getO dF_compare_61 flF_44 rfl (by assumption) (by assumption) ?_
        refine go_cV (k' := (0, 0)) dF_compare_64 _ csF_116 (by assumption) rfl imM_play seM_play rfl (okM_play (d := 5) w (by decide) G1 0 161 b 1000 x y z (zQ s 0) (zOf (zQ s 0)) (by decide) (Or.inr rfl) hb (by decide) (bS1.mp c22).zs hS (cS.hP hS ((hc.ck o1).ck o2) hv (by decide))) (by omega) (by decide) (Nat.le_of_ble_eq_true rfl) (fun r G1 hr hn => ?_)
        obtain ⟨rfl, ⟨t3, X3⟩, o3, S3⟩ := hr
        have X3 : cX 0 161 G1 (aT s 0 b 1000 x y z) t3 false := X3
        have C3 : cS G1 s := ((hc.ck o1).ck o2).w1 o3
        have hS := S3
        have q6 : G1.1[0]? = some (0, 0) := S3.s rfl
        have q7 : G1.1[1]? = some (3, 2) := S3.s rfl
        have q8 : G1.2.2 0 0 = some 1 := S3.r (by decide +kernel)
        have q9 : G1.2.2 0 2 = some 109 := S3.r (by decide +kernel)
        have q10 : G1.2.2 0 4 = some 159 := S3.r (by decide +kernel)
        have q11 : G1.2.2 0 5 = some 161 := S3.r (by decide +kernel)
        have q12 : G1.1[109]? = some (0, 6) := S3.s rfl
        have q13 : G1.1[159]? = some (0, 4) := S3.s rfl
        have q14 : G1.1[161]? = some (0, 4) := S3.s rfl
        have q15 : G1.2.2 1 0 = some 2 := S3.r (by decide +kernel)
        have q16 : G1.2.2 1 1 = some 52 := S3.r (by decide +kernel)
        refine go_aload_n dF_compare_67 rfl rfl ?_
        refine go_getO dF_compare_68 flF_26 rfl (by assumption) (by assumption) ?_
        refine go_aload_n dF_compare_71 rfl rfl ?_
        refine go_getO dF_compare_72 flF_11 rfl (by assumption) (by assumption) ?_
        refine go_iconst (nI 1) (by decide) dF_compare_75 ?_
        refine go_aaO (t := 0) (a := 1) (by decide) q7 (by decide) (by decide) q16 dF_compare_76 ?_
        refine go_iload_n dF_compare_77 rfl rfl ?_
        refine go_sipush (nI 1000) (by decide) dF_compare_78 ?_
        refine go_iload_n dF_compare_81 rfl rfl ?_
        refine go_iload_n dF_compare_82 rfl rfl ?_
        refine go_iload dF_compare_83 rfl ?_
        refine go_aload_n dF_compare_85 rfl rfl ?_
        refine go_getO dF_compare_86 flF_40 rfl (by assumption) (by assumption) ?_
        refine go_cV (k' := (0, 0)) dF_compare_89 _ csF_116 (by assumption) rfl imM_play seM_play rfl (okM_play (d := 5) w (by decide) G1 1 159 b 1000 x y z (zQ s 1) (zOf (zQ s 1)) (by decide) (Or.inl rfl) hb (by decide) (bS2.mp c36).zs hS (cS.hP hS C3 hv (by decide))) (by omega) (by decide) (Nat.le_of_ble_eq_true rfl) (fun r G1 hr hn => ?_)
        obtain ⟨rfl, ⟨t5, X5⟩, o5, S5⟩ := hr
        have X5 : cX 1 159 G1 (aT s 1 b 1000 x y z) t5 false := X5
        have hS := S5
        have q6 : G1.1[0]? = some (0, 0) := S5.s rfl
        have q7 : G1.1[1]? = some (3, 2) := S5.s rfl
        have q8 : G1.2.2 0 0 = some 1 := S5.r (by decide +kernel)
        have q9 : G1.2.2 0 2 = some 109 := S5.r (by decide +kernel)
        have q10 : G1.2.2 0 4 = some 159 := S5.r (by decide +kernel)
        have q11 : G1.2.2 0 5 = some 161 := S5.r (by decide +kernel)
        have q12 : G1.1[109]? = some (0, 6) := S5.s rfl
        have q13 : G1.1[159]? = some (0, 4) := S5.s rfl
        have q14 : G1.1[161]? = some (0, 4) := S5.s rfl
        have q15 : G1.2.2 1 0 = some 2 := S5.r (by decide +kernel)
        have q16 : G1.2.2 1 1 = some 52 := S5.r (by decide +kernel)
        have en1 := xRes_e X5
        have en0 : G1.2.1 161 1 = xRes (aT s 0 b 1000 x y z) := by rw [o5.2.1 161 (by decide)]; exact xRes_e X3
        have vl1 : G1.2.1 159 2 = (aT s 1 b 1000 x y z).1.1 := X5.1.1
        have vl0 : G1.2.1 161 2 = (aT s 0 b 1000 x y z).1.1 := by rw [o5.2.1 161 (by decide)]; exact X3.1.1
        have L0 : cL G1 161 (aT s 0 b 1000 x y z).1 := X3.1.same (o5.2.1 161 (by decide)) (o5.2.1 162 (by decide))
        have CF : cEnd2 G G1 (s.1, s.2.1, (aT s 1 b 1000 x y z).1) := ⟨S5, C3.wl o5 X5.1, fun i hi => by rw [o5.2.1 i (by omega), o3.2.1 i (by omega), o2.2.2 i (by omega), o1.2.2 i (by omega)]⟩
        have lb0 := (aT_v (x := x) (y := y) (z := z) hv (by decide) hb (by decide : 1000 < 1001) (bS1.mp c22)).1
        have lb1 := (aT_v (x := x) (y := y) (z := z) hv (by decide) hb (by decide : 1000 < 1001) (bS2.mp c36)).1
        refine go_aload_n dF_compare_92 rfl rfl ?_
        refine go_getO dF_compare_93 flF_44 rfl (by assumption) (by assumption) ?_
        refine go_getV dF_compare_96 flF_120 rfl (by assumption) (by first | assumption | (simp (disch := omega) only [wi_I, ro_I, wi_In, wi_Is]; done) | (simp (disch := omega) only [wi_I, ro_I, wi_In, wi_Is]; first | assumption | rfl) | rfl) ?_
        refine go_bipush (-5) (by decide) dF_compare_99 ?_
        refine go_icmp_eq dF_compare_101 (tgt := 116) (by decide) (fun c101 => ?_) (fun c101 => ?_)
        · refine go_iconst (nI 3) (by decide) dF_compare_116 ?_
          refine go_ireturn rfl dF_compare_117 ?_
          rw [aCmp_y hb (bS1.mp c22) (bS2.mp c36)]
          first | (have q := aC_3a (t0 := aT s 0 b 1000 x y z) (t1 := aT s 1 b 1000 x y z) c101; rw [q]; exact ⟨rfl, CF⟩) | (have q := aC_3b (t0 := aT s 0 b 1000 x y z) (t1 := aT s 1 b 1000 x y z) c113; rw [q]; exact ⟨rfl, CF⟩)
        · refine go_aload_n dF_compare_104 rfl rfl ?_
          refine go_getO dF_compare_105 flF_40 rfl (by assumption) (by assumption) ?_
          refine go_getV dF_compare_108 flF_120 rfl (by assumption) (by first | assumption | (simp (disch := omega) only [wi_I, ro_I, wi_In, wi_Is]; done) | (simp (disch := omega) only [wi_I, ro_I, wi_In, wi_Is]; first | assumption | rfl) | rfl) ?_
          refine go_bipush (-5) (by decide) dF_compare_111 ?_
          refine go_icmp_ne dF_compare_113 (tgt := 118) (by decide) (fun c113 => ?_) (fun c113 => ?_)
          · refine go_aload_n dF_compare_118 rfl rfl ?_
            refine go_getO dF_compare_119 flF_44 rfl (by assumption) (by assumption) ?_
            refine go_getV dF_compare_122 flF_120 rfl (by assumption) (by first | assumption | (simp (disch := omega) only [wi_I, ro_I, wi_In, wi_Is]; done) | (simp (disch := omega) only [wi_I, ro_I, wi_In, wi_Is]; first | assumption | rfl) | rfl) ?_
            refine go_aload_n dF_compare_125 rfl rfl ?_
            refine go_getO dF_compare_126 flF_40 rfl (by assumption) (by assumption) ?_
            refine go_getV dF_compare_129 flF_120 rfl (by assumption) (by first | assumption | (simp (disch := omega) only [wi_I, ro_I, wi_In, wi_Is]; done) | (simp (disch := omega) only [wi_I, ro_I, wi_In, wi_Is]; first | assumption | rfl) | rfl) ?_
            refine go_icmp_ne dF_compare_132 (tgt := 152) (by decide) (fun c132 => ?_) (fun c132 => ?_)
            · refine go_iconst (nI 1) (by decide) dF_compare_152 ?_
              refine go_ireturn rfl dF_compare_153 ?_
              rw [aCmp_y hb (bS1.mp c22) (bS2.mp c36)]
              first | (have q := aC_1a (t0 := aT s 0 b 1000 x y z) (t1 := aT s 1 b 1000 x y z) c101 c113 c132; rw [q]; exact ⟨rfl, CF⟩) | (have q := aC_1b (t0 := aT s 0 b 1000 x y z) (t1 := aT s 1 b 1000 x y z) c101 c113 c149; rw [q]; exact ⟨rfl, CF⟩)
            · refine go_aload_n dF_compare_135 rfl rfl ?_
              refine go_getO dF_compare_136 flF_44 rfl (by assumption) (by assumption) ?_
              refine go_getV dF_compare_139 flF_123 rfl (by assumption) (by first | assumption | (simp (disch := omega) only [wi_I, ro_I, wi_In, wi_Is]; done) | (simp (disch := omega) only [wi_I, ro_I, wi_In, wi_Is]; first | assumption | rfl) | rfl) ?_
              refine go_aload_n dF_compare_142 rfl rfl ?_
              refine go_getO dF_compare_143 flF_40 rfl (by assumption) (by assumption) ?_
              refine go_getV dF_compare_146 flF_123 rfl (by assumption) (by first | assumption | (simp (disch := omega) only [wi_I, ro_I, wi_In, wi_Is]; done) | (simp (disch := omega) only [wi_I, ro_I, wi_In, wi_Is]; first | assumption | rfl) | rfl) ?_
              refine go_icmp_eq dF_compare_149 (tgt := 154) (by decide) (fun c149 => ?_) (fun c149 => ?_)
              · refine go_aload_n dF_compare_154 rfl rfl ?_
                refine go_getO dF_compare_155 flF_40 rfl (by assumption) (by assumption) ?_
                refine go_aload_n dF_compare_158 rfl rfl ?_
                refine go_getO dF_compare_159 flF_44 rfl (by assumption) (by assumption) ?_
                refine go_cV (k' := (0, 0)) dF_compare_162 _ csF_147 (by assumption) rfl imL_sameEntries seL_sameEntries rfl (okL_sameEntries (d := 2) w (by decide) G1 (aT s 0 b 1000 x y z).1 (aT s 1 b 1000 x y z).1 hS lb0.2.2.2.1 lb1.2.2.2.1 L0 X5.1) (by omega) (by decide) (Nat.le_of_ble_eq_true rfl) (fun r G1 hr hn => ?_)
                obtain ⟨q1, hG⟩ := hr
                rw [hG]
                clear hG hn
                rcases q1 with ⟨q2, q3⟩ | ⟨q2, q3⟩
                · cases q2
                  refine go_if_eqB dF_compare_165 (tgt := 172) (by decide) (fun c1 => absurd c1 (by decide)) (fun c1 => ?_)
                  refine go_iconst (nI 0) (by decide) dF_compare_168 ?_
                  refine go_goto dF_compare_169 (tgt := 173) (by decide) ?_
                  refine go_ireturn rfl dF_compare_173 ?_
                  rw [aCmp_y hb (bS1.mp c22) (bS2.mp c36)]
                  rw [aC_0 (t0 := aT s 0 b 1000 x y z) (t1 := aT s 1 b 1000 x y z) c101 c113 c132 c149 q3]
                  exact ⟨rfl, CF⟩
                · cases q2
                  refine go_if_eqB dF_compare_165 (tgt := 172) (by decide) (fun c1 => ?_) (fun c1 => absurd c1 (by decide))
                  refine go_iconst (nI 2) (by decide) dF_compare_172 ?_
                  refine go_ireturn rfl dF_compare_173 ?_
                  rw [aCmp_y hb (bS1.mp c22) (bS2.mp c36)]
                  rw [aC_2 (t0 := aT s 0 b 1000 x y z) (t1 := aT s 1 b 1000 x y z) c101 c113 c132 c149 q3]
                  exact ⟨rfl, CF⟩
              · refine go_iconst (nI 1) (by decide) dF_compare_152 ?_
                refine go_ireturn rfl dF_compare_153 ?_
                rw [aCmp_y hb (bS1.mp c22) (bS2.mp c36)]
                first | (have q := aC_1a (t0 := aT s 0 b 1000 x y z) (t1 := aT s 1 b 1000 x y z) c101 c113 c132; rw [q]; exact ⟨rfl, CF⟩) | (have q := aC_1b (t0 := aT s 0 b 1000 x y z) (t1 := aT s 1 b 1000 x y z) c101 c113 c149; rw [q]; exact ⟨rfl, CF⟩)
          · refine go_iconst (nI 3) (by decide) dF_compare_116 ?_
            refine go_ireturn rfl dF_compare_117 ?_
            rw [aCmp_y hb (bS1.mp c22) (bS2.mp c36)]
            first | (have q := aC_3a (t0 := aT s 0 b 1000 x y z) (t1 := aT s 1 b 1000 x y z) c101; rw [q]; exact ⟨rfl, CF⟩) | (have q := aC_3b (t0 := aT s 0 b 1000 x y z) (t1 := aT s 1 b 1000 x y z) c113; rw [q]; exact ⟨rfl, CF⟩)
      · refine go_bipush (-4) (by decide) dF_compare_39 ?_
        refine go_ireturn rfl dF_compare_41 ?_
        first | (have q := aCmp_w2 (x := x) (y := y) (z := z) hb (nsP bS2 c36); rw [q]; exact ⟨rfl, .ck hS00 hc (o1.tr o2)⟩) | (have q := aCmp_w1 (x := x) (y := y) (z := z) hb (nsP bS1 c22); rw [q]; exact ⟨rfl, .ck hS00 hc o1⟩)
  · refine go_iconst (-1) (by decide) dF_compare_9 ?_
    refine go_ireturn rfl dF_compare_10 ?_
    rw [aCmp_o c6]
    exact ⟨rfl, .rf hS hc⟩
