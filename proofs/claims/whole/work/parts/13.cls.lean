def E_beg (G : am_G) (h : Nat) (x z : Int32) : am_G := am_wi (am_wi (am_wi (am_wi G h 7 (nI 0)) h 8 (nI 0)) h 9 x) h 10 z
set_option maxRecDepth 100000 in
theorem okE_begin (w : am_W) {d : Nat} (G : am_G) (h : Nat) (x : Int32) (c : Bool) (hM : isM G h) : am_Ok w jE_begin d (0, 0) [.inr (some h), .inl x, .inl (am_b c)] G (fun r G' => r = none ∧ G' = E_beg G h x (am_b c)) := by
  refine am_ok_of rfl (Nat.le_of_ble_eq_true rfl) ?_
  show am_Go w jE_begin d (0, 0) 0 [some (.inr (some h)), some (.inl x), some (.inl (am_b c))] [] G _
  obtain ⟨hs, ⟨r0, r1, r2, r3, r4, r5, r6⟩, s1, s2, s3, s4, s5, s6, s7⟩ := hM
  refine go_aload_n dE_begin_0 rfl rfl ?_
  refine go_iconst (nI 0) (by decide) dE_begin_1 ?_
  refine go_putI dE_begin_2 fpE_33 rfl (by assumption) ?_
  refine go_aload_n dE_begin_5 rfl rfl ?_
  refine go_iconst (nI 0) (by decide) dE_begin_6 ?_
  refine go_putI dE_begin_7 fpE_37 rfl (by assumption) ?_
  refine go_aload_n dE_begin_10 rfl rfl ?_
  refine go_iload_n dE_begin_11 rfl rfl ?_
  refine go_putI dE_begin_12 fpE_40 rfl (by assumption) ?_
  refine go_aload_n dE_begin_15 rfl rfl ?_
  refine go_iload_n dE_begin_16 rfl rfl ?_
  refine go_putZ (am_b_01 _) dE_begin_17 fpE_43 rfl (by assumption) ?_
  refine go_return rfl dE_begin_20 ?_
  exact ⟨rfl, rfl⟩
def E_putF (G : am_G) (h i p : Nat) (a b : Int32) : am_G := am_wi (am_wi (am_wi G (h + 1) i (nI p)) (h + 2) i (if am_sf 0 p = -1 then nI 0 else a)) (h + 3) i (if am_sf 1 p = -1 then nI 0 else b)
set_option maxRecDepth 100000 in
theorem okE_put (w : am_W) {d : Nat} (G : am_G) (h i p : Nat) (a b : Int32) (hi : i < 60) (hp : p < 28) (hM : isM G h) : am_Ok w jE_put d (0, 0) [.inr (some h), .inl (nI i), .inl (nI p), .inl a, .inl b] G (fun r G' => r = none ∧ G' = E_putF G h i p a b) := by
  refine am_ok_of rfl (Nat.le_of_ble_eq_true rfl) ?_
  show am_Go w jE_put d (0, 0) 0 [some (.inr (some h)), some (.inl (nI i)), some (.inl (nI p)), some (.inl a), some (.inl b)] [] G _
  obtain ⟨hs, ⟨r0, r1, r2, r3, r4, r5, r6⟩, s1, s2, s3, s4, s5, s6, s7⟩ := hM
  refine go_aload_n dE_put_0 rfl rfl ?_
  refine go_getO dE_put_1 flE_9 rfl (by assumption) (by assumption) ?_
  refine go_iload_n dE_put_4 rfl rfl ?_
  refine go_iload_n dE_put_5 rfl rfl ?_
  refine go_iastoreN (by assumption) (by omega) (by decide) dE_put_6 ?_
  refine go_aload_n dE_put_7 rfl rfl ?_
  refine go_getO dE_put_8 flE_15 rfl (by assumption) (by assumption) ?_
  refine go_iload_n dE_put_11 rfl rfl ?_
  refine go_getstatic (q := 0) (by decide) dE_put_12 gsE_57 ?_
  refine go_iload_n dE_put_15 rfl rfl ?_
  refine go_ialoadS (q := 0) (by decide) (vp_in_nI hp (by decide)) dE_put_16 ?_
  rw [nI_clamp (by omega)]
  refine go_iconst (-1) (by decide) dE_put_17 ?_
  refine go_icmp_ne dE_put_18 (tgt := 25) (by decide) (fun c18 => ?_) (fun c18 => ?_)
  · refine go_iload_n dE_put_25 rfl rfl ?_
    refine go_iastoreN (by assumption) (by omega) (by decide) dE_put_26 ?_
    refine go_aload_n dE_put_27 rfl rfl ?_
    refine go_getO dE_put_28 flE_18 rfl (by assumption) (by assumption) ?_
    refine go_iload_n dE_put_31 rfl rfl ?_
    refine go_getstatic (q := 1) (by decide) dE_put_32 gsE_60 ?_
    refine go_iload_n dE_put_35 rfl rfl ?_
    refine go_ialoadS (q := 1) (by decide) (vp_in_nI hp (by decide)) dE_put_36 ?_
    rw [nI_clamp (by omega)]
    refine go_iconst (-1) (by decide) dE_put_37 ?_
    refine go_icmp_ne dE_put_38 (tgt := 45) (by decide) (fun c38 => ?_) (fun c38 => ?_)
    · refine go_iload dE_put_45 rfl ?_
      refine go_iastoreN (by assumption) (by omega) (by decide) dE_put_47 ?_
      refine go_return rfl dE_put_48 ?_
      first | exact ⟨rfl, by unfold E_putF; rw [if_neg c18, if_neg c38]⟩ | exact ⟨rfl, by unfold E_putF; rw [if_neg c18, if_pos c38]⟩ | exact ⟨rfl, by unfold E_putF; rw [if_pos c18, if_neg c38]⟩ | exact ⟨rfl, by unfold E_putF; rw [if_pos c18, if_pos c38]⟩
    · refine go_iconst (nI 0) (by decide) dE_put_41 ?_
      refine go_goto dE_put_42 (tgt := 47) (by decide) ?_
      refine go_iastoreN (by assumption) (by omega) (by decide) dE_put_47 ?_
      refine go_return rfl dE_put_48 ?_
      first | exact ⟨rfl, by unfold E_putF; rw [if_neg c18, if_neg c38]⟩ | exact ⟨rfl, by unfold E_putF; rw [if_neg c18, if_pos c38]⟩ | exact ⟨rfl, by unfold E_putF; rw [if_pos c18, if_neg c38]⟩ | exact ⟨rfl, by unfold E_putF; rw [if_pos c18, if_pos c38]⟩
  · refine go_iconst (nI 0) (by decide) dE_put_21 ?_
    refine go_goto dE_put_22 (tgt := 26) (by decide) ?_
    refine go_iastoreN (by assumption) (by omega) (by decide) dE_put_26 ?_
    refine go_aload_n dE_put_27 rfl rfl ?_
    refine go_getO dE_put_28 flE_18 rfl (by assumption) (by assumption) ?_
    refine go_iload_n dE_put_31 rfl rfl ?_
    refine go_getstatic (q := 1) (by decide) dE_put_32 gsE_60 ?_
    refine go_iload_n dE_put_35 rfl rfl ?_
    refine go_ialoadS (q := 1) (by decide) (vp_in_nI hp (by decide)) dE_put_36 ?_
    rw [nI_clamp (by omega)]
    refine go_iconst (-1) (by decide) dE_put_37 ?_
    refine go_icmp_ne dE_put_38 (tgt := 45) (by decide) (fun c38 => ?_) (fun c38 => ?_)
    · refine go_iload dE_put_45 rfl ?_
      refine go_iastoreN (by assumption) (by omega) (by decide) dE_put_47 ?_
      refine go_return rfl dE_put_48 ?_
      first | exact ⟨rfl, by unfold E_putF; rw [if_neg c18, if_neg c38]⟩ | exact ⟨rfl, by unfold E_putF; rw [if_neg c18, if_pos c38]⟩ | exact ⟨rfl, by unfold E_putF; rw [if_pos c18, if_neg c38]⟩ | exact ⟨rfl, by unfold E_putF; rw [if_pos c18, if_pos c38]⟩
    · refine go_iconst (nI 0) (by decide) dE_put_41 ?_
      refine go_goto dE_put_42 (tgt := 47) (by decide) ?_
      refine go_iastoreN (by assumption) (by omega) (by decide) dE_put_47 ?_
      refine go_return rfl dE_put_48 ?_
      first | exact ⟨rfl, by unfold E_putF; rw [if_neg c18, if_neg c38]⟩ | exact ⟨rfl, by unfold E_putF; rw [if_neg c18, if_pos c38]⟩ | exact ⟨rfl, by unfold E_putF; rw [if_pos c18, if_neg c38]⟩ | exact ⟨rfl, by unfold E_putF; rw [if_pos c18, if_pos c38]⟩
def E_row (G : am_G) (h n : Nat) (f t a y : Int32) : am_G := am_wi (am_wi (am_wi (am_wi (am_wi G (h + 4) n f) (h + 5) n t) (h + 6) n a) (h + 7) n y) h 8 (nI (n + 1))
set_option maxRecDepth 100000 in
theorem okE_addRow (w : am_W) {d : Nat} (G : am_G) (h n : Nat) (f t a y : Int32) (hn : n ≤ 8) (hr : G.2.1 h 8 = nI n) (hM : isM G h) : am_Ok w jE_addRow d (0, 0) [.inr (some h), .inl f, .inl t, .inl a, .inl y] G (fun r G' => r = some (.inl (am_b (decide (n < 8)))) ∧ G' = if n < 8 then E_row G h n f t a y else G) := by
  refine am_ok_of rfl (Nat.le_of_ble_eq_true rfl) ?_
  show am_Go w jE_addRow d (0, 0) 0 [some (.inr (some h)), some (.inl f), some (.inl t), some (.inl a), some (.inl y)] [] G _
  obtain ⟨hs, ⟨r0, r1, r2, r3, r4, r5, r6⟩, s1, s2, s3, s4, s5, s6, s7⟩ := hM
  refine go_aload_n dE_addRow_0 rfl rfl ?_
  refine go_getV dE_addRow_1 flE_37 rfl (by assumption) (by first | assumption | (simp (disch := omega) only [wi_I, ro_I, wi_In, wi_Is]; done) | (simp (disch := omega) only [wi_I, ro_I, wi_In, wi_Is]; first | assumption | rfl) | rfl) ?_
  refine go_bipush (nI 8) (by decide) dE_addRow_4 ?_
  refine go_icmp_ltN (by omega) (by omega) dE_addRow_6 (tgt := 11) (by decide) (fun c6 => ?_) (fun c6 => ?_)
  · refine go_aload_n dE_addRow_11 rfl rfl ?_
    refine go_getO dE_addRow_12 flE_21 rfl (by assumption) (by assumption) ?_
    refine go_aload_n dE_addRow_15 rfl rfl ?_
    refine go_getV dE_addRow_16 flE_37 rfl (by assumption) (by first | assumption | (simp (disch := omega) only [wi_I, ro_I, wi_In, wi_Is]; done) | (simp (disch := omega) only [wi_I, ro_I, wi_In, wi_Is]; first | assumption | rfl) | rfl) ?_
    refine go_iload_n dE_addRow_19 rfl rfl ?_
    refine go_iastoreN (by assumption) (by omega) (by decide) dE_addRow_20 ?_
    refine go_aload_n dE_addRow_21 rfl rfl ?_
    refine go_getO dE_addRow_22 flE_24 rfl (by assumption) (by assumption) ?_
    refine go_aload_n dE_addRow_25 rfl rfl ?_
    refine go_getV dE_addRow_26 flE_37 rfl (by assumption) (by first | assumption | (simp (disch := omega) only [wi_I, ro_I, wi_In, wi_Is]; done) | (simp (disch := omega) only [wi_I, ro_I, wi_In, wi_Is]; first | assumption | rfl) | rfl) ?_
    refine go_iload_n dE_addRow_29 rfl rfl ?_
    refine go_iastoreN (by assumption) (by omega) (by decide) dE_addRow_30 ?_
    refine go_aload_n dE_addRow_31 rfl rfl ?_
    refine go_getO dE_addRow_32 flE_27 rfl (by assumption) (by assumption) ?_
    refine go_aload_n dE_addRow_35 rfl rfl ?_
    refine go_getV dE_addRow_36 flE_37 rfl (by assumption) (by first | assumption | (simp (disch := omega) only [wi_I, ro_I, wi_In, wi_Is]; done) | (simp (disch := omega) only [wi_I, ro_I, wi_In, wi_Is]; first | assumption | rfl) | rfl) ?_
    refine go_iload_n dE_addRow_39 rfl rfl ?_
    refine go_iastoreN (by assumption) (by omega) (by decide) dE_addRow_40 ?_
    refine go_aload_n dE_addRow_41 rfl rfl ?_
    refine go_getO dE_addRow_42 flE_30 rfl (by assumption) (by assumption) ?_
    refine go_aload_n dE_addRow_45 rfl rfl ?_
    refine go_getV dE_addRow_46 flE_37 rfl (by assumption) (by first | assumption | (simp (disch := omega) only [wi_I, ro_I, wi_In, wi_Is]; done) | (simp (disch := omega) only [wi_I, ro_I, wi_In, wi_Is]; first | assumption | rfl) | rfl) ?_
    refine go_iload dE_addRow_49 rfl ?_
    refine go_iastoreN (by assumption) (by omega) (by decide) dE_addRow_51 ?_
    refine go_aload_n dE_addRow_52 rfl rfl ?_
    refine go_dup dE_addRow_53 ?_
    refine go_getV dE_addRow_54 flE_37 rfl (by assumption) (by first | assumption | (simp (disch := omega) only [wi_I, ro_I, wi_In, wi_Is]; done) | (simp (disch := omega) only [wi_I, ro_I, wi_In, wi_Is]; first | assumption | rfl) | rfl) ?_
    refine go_iconst (nI 1) (by decide) dE_addRow_57 ?_
    refine go_iadd dE_addRow_58 ?_
    rw [nI_add]
    refine go_putI dE_addRow_59 fpE_37 rfl (by assumption) ?_
    refine go_iconst (nI 1) (by decide) dE_addRow_62 ?_
    refine go_zreturn rfl (by first | exact Or.inl rfl | exact Or.inr rfl | exact am_b_01 _) dE_addRow_63 ?_
    first | exact ⟨by rw [am_b_dec c6]; rfl, by rw [if_pos c6]; rfl⟩ | exact ⟨by rw [am_b_ndec (Nat.not_lt.mpr c6)]; rfl, by rw [if_neg (Nat.not_lt.mpr c6)]⟩
  · refine go_iconst (nI 0) (by decide) dE_addRow_9 ?_
    refine go_zreturn rfl (by first | exact Or.inl rfl | exact Or.inr rfl | exact am_b_01 _) dE_addRow_10 ?_
    first | exact ⟨by rw [am_b_dec c6]; rfl, by rw [if_pos c6]; rfl⟩ | exact ⟨by rw [am_b_ndec (Nat.not_lt.mpr c6)]; rfl, by rw [if_neg (Nat.not_lt.mpr c6)]⟩
set_option maxRecDepth 100000 in
theorem okE_hasAt (w : am_W) {d : Nat} (hd : 1 ≤ d) (G : am_G) (h n : Nat) (p x : Int32) (hn : n ≤ 60) (hr : G.2.1 h 7 = nI n) (hM : isM G h) : am_Ok w jE_hasAt d (0, 0) [.inr (some h), .inl p, .inl x] G (fun r G' => r = some (.inl (am_b (bel p n && decide (G.2.1 (h + 1) p.toNatClampNeg = x)))) ∧ G' = G) := by
  refine am_ok_of rfl (Nat.le_of_ble_eq_true rfl) ?_
  show am_Go w jE_hasAt d (0, 0) 0 [some (.inr (some h)), some (.inl p), some (.inl x)] [] G _
  obtain ⟨hs, ⟨r0, r1, r2, r3, r4, r5, r6⟩, s1, s2, s3, s4, s5, s6, s7⟩ := hM
  refine go_iload_n dE_hasAt_0 rfl rfl ?_
  refine go_aload_n dE_hasAt_1 rfl rfl ?_
  refine go_getV dE_hasAt_2 flE_33 rfl (by assumption) (by first | assumption | (simp (disch := omega) only [wi_I, ro_I, wi_In, wi_Is]; done) | (simp (disch := omega) only [wi_I, ro_I, wi_In, wi_Is]; first | assumption | rfl) | rfl) ?_
  refine go_cS (k' := (0, 0)) dE_hasAt_5 _ csE_63 stF_isBelow rfl (okF_below (d := 0) w G p n (by omega)) (by omega) (by decide) (Nat.le_of_ble_eq_true rfl) (fun r G1 hr hn => ?_)
  obtain ⟨rfl, hG⟩ := hr
  rw [hG]
  clear hG hn
  refine go_if_eqB dE_hasAt_8 (tgt := 25) (by decide) (fun c8 => ?_) (fun c8 => ?_)
  · refine go_iconst (nI 0) (by decide) dE_hasAt_25 ?_
    refine go_zreturn rfl (by first | exact Or.inl rfl | exact Or.inr rfl | exact am_b_01 _) dE_hasAt_26 ?_
    first | exact ⟨by rw [c8]; rfl, rfl⟩ | exact ⟨by rw [c8, nI_clamp (by omega), Bool.true_and, am_b_dec c18]; rfl, rfl⟩ | exact ⟨by rw [c8, nI_clamp (by omega), Bool.true_and, am_b_ndec c18]; rfl, rfl⟩
  · obtain ⟨a, ha, rfl⟩ := bel_of c8 (by omega)
    refine go_aload_n dE_hasAt_11 rfl rfl ?_
    refine go_getO dE_hasAt_12 flE_9 rfl (by assumption) (by assumption) ?_
    refine go_iload_n dE_hasAt_15 rfl rfl ?_
    refine go_ialoadN (by assumption) (by omega) (by decide) dE_hasAt_16 ?_
    refine go_iload_n dE_hasAt_17 rfl rfl ?_
    refine go_icmp_ne dE_hasAt_18 (tgt := 25) (by decide) (fun c18 => ?_) (fun c18 => ?_)
    · refine go_iconst (nI 0) (by decide) dE_hasAt_25 ?_
      refine go_zreturn rfl (by first | exact Or.inl rfl | exact Or.inr rfl | exact am_b_01 _) dE_hasAt_26 ?_
      first | exact ⟨by rw [c8]; rfl, rfl⟩ | exact ⟨by rw [c8, nI_clamp (by omega), Bool.true_and, am_b_dec c18]; rfl, rfl⟩ | exact ⟨by rw [c8, nI_clamp (by omega), Bool.true_and, am_b_ndec c18]; rfl, rfl⟩
    · refine go_iconst (nI 1) (by decide) dE_hasAt_21 ?_
      refine go_goto dE_hasAt_22 (tgt := 26) (by decide) ?_
      refine go_zreturn rfl (by first | exact Or.inl rfl | exact Or.inr rfl | exact am_b_01 _) dE_hasAt_26 ?_
      first | exact ⟨by rw [c8]; rfl, rfl⟩ | exact ⟨by rw [c8, nI_clamp (by omega), Bool.true_and, am_b_dec c18]; rfl, rfl⟩ | exact ⟨by rw [c8, nI_clamp (by omega), Bool.true_and, am_b_ndec c18]; rfl, rfl⟩
set_option maxRecDepth 100000 in
theorem okE_rowCovers (w : am_W) {d : Nat} (G : am_G) (h i : Nat) (p : Int32) (hi : i < 8) (hM : isM G h) : am_Ok w jE_rowCovers d (0, 0) [.inr (some h), .inl (nI i), .inl p] G (fun r G' => r = some (.inl (am_b (decide (G.2.1 (h + 4) i ≤ p ∧ p < G.2.1 (h + 5) i)))) ∧ G' = G) := by
  refine am_ok_of rfl (Nat.le_of_ble_eq_true rfl) ?_
  show am_Go w jE_rowCovers d (0, 0) 0 [some (.inr (some h)), some (.inl (nI i)), some (.inl p)] [] G _
  obtain ⟨hs, ⟨r0, r1, r2, r3, r4, r5, r6⟩, s1, s2, s3, s4, s5, s6, s7⟩ := hM
  refine go_aload_n dE_rowCovers_0 rfl rfl ?_
  refine go_getO dE_rowCovers_1 flE_21 rfl (by assumption) (by assumption) ?_
  refine go_iload_n dE_rowCovers_4 rfl rfl ?_
  refine go_ialoadN (by assumption) (by omega) (by decide) dE_rowCovers_5 ?_
  refine go_iload_n dE_rowCovers_6 rfl rfl ?_
  refine go_icmp_gt dE_rowCovers_7 (tgt := 24) (by decide) (fun c7 => ?_) (fun c7 => ?_)
  · refine go_iconst (nI 0) (by decide) dE_rowCovers_24 ?_
    refine go_zreturn rfl (by first | exact Or.inl rfl | exact Or.inr rfl | exact am_b_01 _) dE_rowCovers_25 ?_
    first | exact ⟨by rw [am_b_ndec (fun q => i_nle.mpr c7 q.1)]; rfl, rfl⟩ | exact ⟨by rw [am_b_ndec (fun q => i_nlt.mpr c17 q.2)]; rfl, rfl⟩ | exact ⟨by rw [am_b_dec ⟨i_nlt.mp c7, i_nle.mp c17⟩]; rfl, rfl⟩
  · refine go_aload_n dE_rowCovers_10 rfl rfl ?_
    refine go_getO dE_rowCovers_11 flE_24 rfl (by assumption) (by assumption) ?_
    refine go_iload_n dE_rowCovers_14 rfl rfl ?_
    refine go_ialoadN (by assumption) (by omega) (by decide) dE_rowCovers_15 ?_
    refine go_iload_n dE_rowCovers_16 rfl rfl ?_
    refine go_icmp_le dE_rowCovers_17 (tgt := 24) (by decide) (fun c17 => ?_) (fun c17 => ?_)
    · refine go_iconst (nI 0) (by decide) dE_rowCovers_24 ?_
      refine go_zreturn rfl (by first | exact Or.inl rfl | exact Or.inr rfl | exact am_b_01 _) dE_rowCovers_25 ?_
      first | exact ⟨by rw [am_b_ndec (fun q => i_nle.mpr c7 q.1)]; rfl, rfl⟩ | exact ⟨by rw [am_b_ndec (fun q => i_nlt.mpr c17 q.2)]; rfl, rfl⟩ | exact ⟨by rw [am_b_dec ⟨i_nlt.mp c7, i_nle.mp c17⟩]; rfl, rfl⟩
    · refine go_iconst (nI 1) (by decide) dE_rowCovers_20 ?_
      refine go_goto dE_rowCovers_21 (tgt := 25) (by decide) ?_
      refine go_zreturn rfl (by first | exact Or.inl rfl | exact Or.inr rfl | exact am_b_01 _) dE_rowCovers_25 ?_
      first | exact ⟨by rw [am_b_ndec (fun q => i_nle.mpr c7 q.1)]; rfl, rfl⟩ | exact ⟨by rw [am_b_ndec (fun q => i_nlt.mpr c17 q.2)]; rfl, rfl⟩ | exact ⟨by rw [am_b_dec ⟨i_nlt.mp c7, i_nle.mp c17⟩]; rfl, rfl⟩
set_option maxRecDepth 100000 in
theorem okE_rowPart0 (w : am_W) {d : Nat} (G : am_G) (h i : Nat) (hi : i < 8) (hM : isM G h) : am_Ok w jE_rowPart d (0, 0) [.inr (some h), .inl (nI i), .inl (nI 0)] G (fun r G' => r = some (.inl (G.2.1 (h + 4) i)) ∧ G' = G) := by
  refine am_ok_of rfl (Nat.le_of_ble_eq_true rfl) ?_
  show am_Go w jE_rowPart d (0, 0) 0 [some (.inr (some h)), some (.inl (nI i)), some (.inl (nI 0))] [] G _
  obtain ⟨hs, ⟨r0, r1, r2, r3, r4, r5, r6⟩, s1, s2, s3, s4, s5, s6, s7⟩ := hM
  refine go_iload_n dE_rowPart_0 rfl rfl ?_
  refine go_tableIn dE_rowPart_1 (by decide) (by decide) (off := 27) rfl (tgt := 28) (by decide) ?_
  refine go_aload_n dE_rowPart_28 rfl rfl ?_
  refine go_getO dE_rowPart_29 flE_21 rfl (by assumption) (by assumption) ?_
  refine go_iload_n dE_rowPart_32 rfl rfl ?_
  refine go_ialoadN (by assumption) (by omega) (by decide) dE_rowPart_33 ?_
  refine go_ireturn rfl dE_rowPart_34 ?_
  exact ⟨rfl, rfl⟩
set_option maxRecDepth 100000 in
theorem okE_rowPart1 (w : am_W) {d : Nat} (G : am_G) (h i : Nat) (hi : i < 8) (hM : isM G h) : am_Ok w jE_rowPart d (0, 0) [.inr (some h), .inl (nI i), .inl (nI 1)] G (fun r G' => r = some (.inl (G.2.1 (h + 5) i)) ∧ G' = G) := by
  refine am_ok_of rfl (Nat.le_of_ble_eq_true rfl) ?_
  show am_Go w jE_rowPart d (0, 0) 0 [some (.inr (some h)), some (.inl (nI i)), some (.inl (nI 1))] [] G _
  obtain ⟨hs, ⟨r0, r1, r2, r3, r4, r5, r6⟩, s1, s2, s3, s4, s5, s6, s7⟩ := hM
  refine go_iload_n dE_rowPart_0 rfl rfl ?_
  refine go_tableIn dE_rowPart_1 (by decide) (by decide) (off := 34) rfl (tgt := 35) (by decide) ?_
  refine go_aload_n dE_rowPart_35 rfl rfl ?_
  refine go_getO dE_rowPart_36 flE_24 rfl (by assumption) (by assumption) ?_
  refine go_iload_n dE_rowPart_39 rfl rfl ?_
  refine go_ialoadN (by assumption) (by omega) (by decide) dE_rowPart_40 ?_
  refine go_ireturn rfl dE_rowPart_41 ?_
  exact ⟨rfl, rfl⟩
set_option maxRecDepth 100000 in
theorem okE_rowPart2 (w : am_W) {d : Nat} (G : am_G) (h i : Nat) (hi : i < 8) (hM : isM G h) : am_Ok w jE_rowPart d (0, 0) [.inr (some h), .inl (nI i), .inl (nI 2)] G (fun r G' => r = some (.inl (G.2.1 (h + 6) i)) ∧ G' = G) := by
  refine am_ok_of rfl (Nat.le_of_ble_eq_true rfl) ?_
  show am_Go w jE_rowPart d (0, 0) 0 [some (.inr (some h)), some (.inl (nI i)), some (.inl (nI 2))] [] G _
  obtain ⟨hs, ⟨r0, r1, r2, r3, r4, r5, r6⟩, s1, s2, s3, s4, s5, s6, s7⟩ := hM
  refine go_iload_n dE_rowPart_0 rfl rfl ?_
  refine go_tableIn dE_rowPart_1 (by decide) (by decide) (off := 41) rfl (tgt := 42) (by decide) ?_
  refine go_aload_n dE_rowPart_42 rfl rfl ?_
  refine go_getO dE_rowPart_43 flE_27 rfl (by assumption) (by assumption) ?_
  refine go_iload_n dE_rowPart_46 rfl rfl ?_
  refine go_ialoadN (by assumption) (by omega) (by decide) dE_rowPart_47 ?_
  refine go_ireturn rfl dE_rowPart_48 ?_
  exact ⟨rfl, rfl⟩
set_option maxRecDepth 100000 in
theorem okE_rowPart3 (w : am_W) {d : Nat} (G : am_G) (h i : Nat) (hi : i < 8) (hM : isM G h) : am_Ok w jE_rowPart d (0, 0) [.inr (some h), .inl (nI i), .inl (nI 3)] G (fun r G' => r = some (.inl (G.2.1 (h + 7) i)) ∧ G' = G) := by
  refine am_ok_of rfl (Nat.le_of_ble_eq_true rfl) ?_
  show am_Go w jE_rowPart d (0, 0) 0 [some (.inr (some h)), some (.inl (nI i)), some (.inl (nI 3))] [] G _
  obtain ⟨hs, ⟨r0, r1, r2, r3, r4, r5, r6⟩, s1, s2, s3, s4, s5, s6, s7⟩ := hM
  refine go_iload_n dE_rowPart_0 rfl rfl ?_
  refine go_tableOut dE_rowPart_1 (by decide) (tgt := 49) (by decide) ?_
  refine go_aload_n dE_rowPart_49 rfl rfl ?_
  refine go_getO dE_rowPart_50 flE_30 rfl (by assumption) (by assumption) ?_
  refine go_iload_n dE_rowPart_53 rfl rfl ?_
  refine go_ialoadN (by assumption) (by omega) (by decide) dE_rowPart_54 ?_
  refine go_ireturn rfl dE_rowPart_55 ?_
  exact ⟨rfl, rfl⟩
set_option maxRecDepth 100000 in
theorem okE_fact0 (w : am_W) {d : Nat} (G : am_G) (h : Nat) (c : Bool) (hc : G.2.1 h 10 = am_b c) (hM : isM G h) : am_Ok w jE_fact d (0, 0) [.inr (some h), .inl (nI 0)] G (fun r G' => r = some (.inl (G.2.1 h 7)) ∧ G' = G) := by
  refine am_ok_of rfl (Nat.le_of_ble_eq_true rfl) ?_
  show am_Go w jE_fact d (0, 0) 0 [some (.inr (some h)), some (.inl (nI 0))] [] G _
  obtain ⟨hs, ⟨r0, r1, r2, r3, r4, r5, r6⟩, s1, s2, s3, s4, s5, s6, s7⟩ := hM
  refine go_iload_n dE_fact_0 rfl rfl ?_
  refine go_tableIn dE_fact_1 (by decide) (by decide) (off := 27) rfl (tgt := 28) (by decide) ?_
  refine go_aload_n dE_fact_28 rfl rfl ?_
  refine go_getV dE_fact_29 flE_33 rfl (by assumption) (by first | assumption | (simp (disch := omega) only [wi_I, ro_I, wi_In, wi_Is]; done) | (simp (disch := omega) only [wi_I, ro_I, wi_In, wi_Is]; first | assumption | rfl) | rfl) ?_
  refine go_ireturn rfl dE_fact_32 ?_
  first | exact ⟨rfl, rfl⟩ | exact ⟨by rw [c47]; rfl, rfl⟩
set_option maxRecDepth 100000 in
theorem okE_fact1 (w : am_W) {d : Nat} (G : am_G) (h : Nat) (c : Bool) (hc : G.2.1 h 10 = am_b c) (hM : isM G h) : am_Ok w jE_fact d (0, 0) [.inr (some h), .inl (nI 1)] G (fun r G' => r = some (.inl (G.2.1 h 8)) ∧ G' = G) := by
  refine am_ok_of rfl (Nat.le_of_ble_eq_true rfl) ?_
  show am_Go w jE_fact d (0, 0) 0 [some (.inr (some h)), some (.inl (nI 1))] [] G _
  obtain ⟨hs, ⟨r0, r1, r2, r3, r4, r5, r6⟩, s1, s2, s3, s4, s5, s6, s7⟩ := hM
  refine go_iload_n dE_fact_0 rfl rfl ?_
  refine go_tableIn dE_fact_1 (by decide) (by decide) (off := 32) rfl (tgt := 33) (by decide) ?_
  refine go_aload_n dE_fact_33 rfl rfl ?_
  refine go_getV dE_fact_34 flE_37 rfl (by assumption) (by first | assumption | (simp (disch := omega) only [wi_I, ro_I, wi_In, wi_Is]; done) | (simp (disch := omega) only [wi_I, ro_I, wi_In, wi_Is]; first | assumption | rfl) | rfl) ?_
  refine go_ireturn rfl dE_fact_37 ?_
  first | exact ⟨rfl, rfl⟩ | exact ⟨by rw [c47]; rfl, rfl⟩
set_option maxRecDepth 100000 in
theorem okE_fact2 (w : am_W) {d : Nat} (G : am_G) (h : Nat) (c : Bool) (hc : G.2.1 h 10 = am_b c) (hM : isM G h) : am_Ok w jE_fact d (0, 0) [.inr (some h), .inl (nI 2)] G (fun r G' => r = some (.inl (G.2.1 h 9)) ∧ G' = G) := by
  refine am_ok_of rfl (Nat.le_of_ble_eq_true rfl) ?_
  show am_Go w jE_fact d (0, 0) 0 [some (.inr (some h)), some (.inl (nI 2))] [] G _
  obtain ⟨hs, ⟨r0, r1, r2, r3, r4, r5, r6⟩, s1, s2, s3, s4, s5, s6, s7⟩ := hM
  refine go_iload_n dE_fact_0 rfl rfl ?_
  refine go_tableIn dE_fact_1 (by decide) (by decide) (off := 37) rfl (tgt := 38) (by decide) ?_
  refine go_aload_n dE_fact_38 rfl rfl ?_
  refine go_getV dE_fact_39 flE_40 rfl (by assumption) (by first | assumption | (simp (disch := omega) only [wi_I, ro_I, wi_In, wi_Is]; done) | (simp (disch := omega) only [wi_I, ro_I, wi_In, wi_Is]; first | assumption | rfl) | rfl) ?_
  refine go_ireturn rfl dE_fact_42 ?_
  first | exact ⟨rfl, rfl⟩ | exact ⟨by rw [c47]; rfl, rfl⟩
set_option maxRecDepth 100000 in
theorem okE_fact3 (w : am_W) {d : Nat} (G : am_G) (h : Nat) (c : Bool) (hc : G.2.1 h 10 = am_b c) (hM : isM G h) : am_Ok w jE_fact d (0, 0) [.inr (some h), .inl (nI 3)] G (fun r G' => r = some (.inl (am_b c)) ∧ G' = G) := by
  refine am_ok_of rfl (Nat.le_of_ble_eq_true rfl) ?_
  show am_Go w jE_fact d (0, 0) 0 [some (.inr (some h)), some (.inl (nI 3))] [] G _
  obtain ⟨hs, ⟨r0, r1, r2, r3, r4, r5, r6⟩, s1, s2, s3, s4, s5, s6, s7⟩ := hM
  refine go_iload_n dE_fact_0 rfl rfl ?_
  refine go_tableOut dE_fact_1 (by decide) (tgt := 43) (by decide) ?_
  refine go_aload_n dE_fact_43 rfl rfl ?_
  refine go_getV dE_fact_44 flE_43 rfl (by assumption) (by first | assumption | (simp (disch := omega) only [wi_I, ro_I, wi_In, wi_Is]; done) | (simp (disch := omega) only [wi_I, ro_I, wi_In, wi_Is]; first | assumption | rfl) | rfl) ?_
  refine go_if_eqB dE_fact_47 (tgt := 54) (by decide) (fun c47 => ?_) (fun c47 => ?_)
  · refine go_iconst (nI 0) (by decide) dE_fact_54 ?_
    refine go_ireturn rfl dE_fact_55 ?_
    first | exact ⟨rfl, rfl⟩ | exact ⟨by rw [c47]; rfl, rfl⟩
  · refine go_iconst (nI 1) (by decide) dE_fact_50 ?_
    refine go_goto dE_fact_51 (tgt := 55) (by decide) ?_
    refine go_ireturn rfl dE_fact_55 ?_
    first | exact ⟨rfl, rfl⟩ | exact ⟨by rw [c47]; rfl, rfl⟩
set_option maxRecDepth 100000 in
theorem okF_writtenMethod (w : am_W) {d : Nat} (G : am_G) (v m : Nat) (hv : v < 2) (hm : m < 6) (hw : G.2.1 0 6 = nI v) (hS : St0 G) : am_Ok w jF_writtenMethod d (0, 0) [.inr (some 0), .inl (nI m)] G (fun r G' => r = some (.inr (some (mo v m))) ∧ G' = G) := by
  refine am_ok_of rfl (Nat.le_of_ble_eq_true rfl) ?_
  show am_Go w jF_writtenMethod d (0, 0) 0 [some (.inr (some 0)), some (.inl (nI m))] [] G _
  obtain ⟨p1, p2, p3, p4⟩ := pr_l v hv
  have q1 := hS.s p1
  have q2 := hS.s p2
  have q3 := hS.r p3
  have q4 := hS.r p4
  have q5 := hS.r (pm_l v hv m hm)
  have q6 : G.1[0]? = some (0, 0) := hS.s rfl
  have q7 : G.1[1]? = some (3, 2) := hS.s rfl
  have q8 : G.2.2 0 0 = some 1 := hS.r (by decide +kernel)
  refine go_aload_n dF_writtenMethod_0 rfl rfl ?_
  refine go_getO dF_writtenMethod_1 flF_11 rfl (by assumption) (by assumption) ?_
  refine go_aload_n dF_writtenMethod_4 rfl rfl ?_
  refine go_getV dF_writtenMethod_5 flF_47 rfl (by assumption) (by first | assumption | (simp (disch := omega) only [wi_I, ro_I, wi_In, wi_Is]; done) | (simp (disch := omega) only [wi_I, ro_I, wi_In, wi_Is]; first | assumption | rfl) | rfl) ?_
  refine go_aaO (t := 0) (by decide) q7 hv (by decide) q4 dF_writtenMethod_8 ?_
  refine go_getO dF_writtenMethod_9 flF_196 rfl (by assumption) (by assumption) ?_
  refine go_iload_n dF_writtenMethod_12 rfl rfl ?_
  refine go_aaO (t := 1) (by decide) q2 hm (by decide) q5 dF_writtenMethod_13 ?_
  refine go_areturn rfl rfl dF_writtenMethod_14 ?_
  exact ⟨rfl, rfl⟩
