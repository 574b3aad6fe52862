theorem cW {G : am_G} {s : sT} {x : Int32} (hc : cS G s) (h : bel x 2 = true) : cEnd G (am_wi G 0 6 x) (x.toNatClampNeg, s.2) := by
  obtain ⟨a, ha, rfl⟩ := bel_of h (by decide)
  rw [nI_clamp (by omega)]
  have hq : ∀ i, i ≠ 0 → (am_wi G 0 6 (nI a)).2.1 i = G.2.1 i := fun i hi => wi_I hi
  refine ⟨⟨wi_Is, fun p hp m hm => (hc.2.1 p hp m hm).same (fun i h1 h2 => hq i (by unfold mo at h1; omega)), hc.2.2.same (hq 159 (by decide)) (hq 160 (by decide))⟩, oR.wi (show (0 : Nat) < 163 by decide)⟩
set_option maxRecDepth 100000 in
theorem okF_write (w : am_W) {d : Nat} (hd : 3 ≤ d) (G : am_G) (s : sT) (x : Int32) (hS : St0 G) (hc : cS G s) (hv : sV s) : am_Ok w jF_write d (0, 0) [.inr (some 0), .inl x] G (fun r G' => r = some (.inl (aWrite s x).1) ∧ cEnd G G' (aWrite s x).2) := by
  refine am_ok_of rfl (Nat.le_of_ble_eq_true rfl) ?_
  show am_Go w jF_write d (0, 0) 0 [some (.inr (some 0)), some (.inl x)] [] G _
  have q6 : G.1[0]? = some (0, 0) := hS.s rfl
  refine go_iload_n dF_write_0 rfl rfl ?_
  refine go_iconst (nI 2) (by decide) dF_write_1 ?_
  refine go_cS (k' := (0, 0)) dF_write_2 _ csF_51 stF_isBelow rfl (okF_below (d := 0) w G x 2 (by decide)) (by omega) (by decide) (Nat.le_of_ble_eq_true rfl) (fun r G1 hr hn => ?_)
  obtain ⟨rfl, hG⟩ := hr
  rw [hG]
  clear hG hn
  refine go_if_neB dF_write_5 (tgt := 10) (by decide) (fun c5 => ?_) (fun c5 => ?_)
  · refine go_aload_n dF_write_10 rfl rfl ?_
    refine go_iload_n dF_write_11 rfl rfl ?_
    refine go_putI dF_write_12 fpF_47 rfl (by assumption) ?_
    refine go_iconst (nI 1) (by decide) dF_write_15 ?_
    refine go_zreturn rfl (by first | exact Or.inl rfl | exact Or.inr rfl | exact am_b_01 _) dF_write_16 ?_
    first | exact ⟨by unfold aWrite; rw [if_neg (by rw [c5]; decide)]; rfl, by unfold aWrite; rw [if_neg (by rw [c5]; decide)]; exact cEnd.rf hc⟩ | exact ⟨by unfold aWrite; rw [if_pos c5]; rfl, by unfold aWrite; rw [if_pos c5]; exact cW hc c5⟩
  · refine go_iconst (nI 0) (by decide) dF_write_8 ?_
    refine go_zreturn rfl (by first | exact Or.inl rfl | exact Or.inr rfl | exact am_b_01 _) dF_write_9 ?_
    first | exact ⟨by unfold aWrite; rw [if_neg (by rw [c5]; decide)]; rfl, by unfold aWrite; rw [if_neg (by rw [c5]; decide)]; exact cEnd.rf hc⟩ | exact ⟨by unfold aWrite; rw [if_pos c5]; rfl, by unfold aWrite; rw [if_pos c5]; exact cW hc c5⟩
set_option maxRecDepth 100000 in
theorem okF_method (w : am_W) {d : Nat} (hd : 3 ≤ d) (G : am_G) (s : sT) (x y : Int32) (c : Bool) (hS : St0 G) (hc : cS G s) (hv : sV s) : am_Ok w jF_method d (0, 0) [.inr (some 0), .inl x, .inl y, .inl (am_b c)] G (fun r G' => r = some (.inl (aMethod s x y c).1) ∧ cEnd G G' (aMethod s x y c).2) := by
  refine am_ok_of rfl (Nat.le_of_ble_eq_true rfl) ?_
  show am_Go w jF_method d (0, 0) 0 [some (.inr (some 0)), some (.inl x), some (.inl y), some (.inl (am_b c))] [] G _
  have q6 : G.1[0]? = some (0, 0) := hS.s rfl
  refine go_iload_n dF_method_0 rfl rfl ?_
  refine go_bipush (nI 6) (by decide) dF_method_1 ?_
  refine go_cS (k' := (0, 0)) dF_method_3 _ csF_51 stF_isBelow rfl (okF_below (d := 0) w G x 6 (by decide)) (by omega) (by decide) (Nat.le_of_ble_eq_true rfl) (fun r G1 hr hn => ?_)
  obtain ⟨rfl, hG⟩ := hr
  rw [hG]
  clear hG hn
  refine go_if_eqB dF_method_6 (tgt := 17) (by decide) (fun c6 => ?_) (fun c6 => ?_)
  · refine go_iconst (nI 0) (by decide) dF_method_17 ?_
    refine go_zreturn rfl (by first | exact Or.inl rfl | exact Or.inr rfl | exact am_b_01 _) dF_method_18 ?_
    first | exact ⟨by unfold aMethod; rw [if_neg (fun q => absurd q.1 (by rw [c6]; decide))] <;> rfl, by unfold aMethod; rw [if_neg (fun q => absurd q.1 (by rw [c6]; decide))]; exact cEnd.rf hc⟩ | exact ⟨by unfold aMethod; rw [if_neg (fun q => absurd q.2 (by rw [c14]; decide))] <;> rfl, by unfold aMethod; rw [if_neg (fun q => absurd q.2 (by rw [c14]; decide))]; exact cEnd.rf hc⟩ | exact ⟨by unfold aMethod; rw [if_pos ⟨c6, c14⟩]; rfl, by unfold aMethod; rw [if_pos ⟨c6, c14⟩, hz, nI_clamp (by omega), nI_clamp (by omega), hG]; exact cEnd.put hv.1 hm hc E_beg_o hcm.beg⟩
  · refine go_iload_n dF_method_9 rfl rfl ?_
    refine go_iconst (nI 4) (by decide) dF_method_10 ?_
    refine go_cS (k' := (0, 0)) dF_method_11 _ csF_51 stF_isBelow rfl (okF_below (d := 0) w G y 4 (by decide)) (by omega) (by decide) (Nat.le_of_ble_eq_true rfl) (fun r G1 hr hn => ?_)
    obtain ⟨rfl, hG⟩ := hr
    rw [hG]
    clear hG hn
    refine go_if_neB dF_method_14 (tgt := 19) (by decide) (fun c14 => ?_) (fun c14 => ?_)
    · obtain ⟨m, hm, rfl⟩ := bel_of c6 (by decide)
      have hm1 := hS.m (mo_l s.1 hv.1 m hm)
      have hs1 := hm1.1
      have hcm := hc.2.1 s.1 hv.1 m hm
      have hmv := hv.2.1 (6 * s.1 + m) (by have := hv.1; omega)
      obtain ⟨M, hMe⟩ : ∃ M, M = s.2.1 (6 * s.1 + m) := ⟨_, rfl⟩
      rw [← hMe] at hcm hmv
      have hz : zM s (nI m).toNatClampNeg = M := by rw [nI_clamp (by omega), hMe]; rfl
      have hN := hcm.1.1
      have hR := hcm.1.2.1
      have hN6 := hmv.1
      have hR8 := hmv.2.1
      obtain ⟨a, ha, rfl⟩ := bel_of c14 (by decide)
      refine go_aload_n dF_method_19 rfl rfl ?_
      refine go_iload_n dF_method_20 rfl rfl ?_
      refine go_cV (k' := (0, 0)) dF_method_21 _ csF_63 (by assumption) rfl imF_writtenMethod seF_writtenMethod rfl (okF_writtenMethod (d := 0) w G s.1 m hv.1 hm hc.1 hS) (by omega) (by decide) (Nat.le_of_ble_eq_true rfl) (fun r G1 hr hn => ?_)
      obtain ⟨rfl, hG⟩ := hr
      rw [hG]
      clear hG hn
      refine go_iload_n dF_method_24 rfl rfl ?_
      refine go_iload_n dF_method_25 rfl rfl ?_
      refine go_cV (k' := (0, 0)) dF_method_26 _ csF_67 (by assumption) rfl imE_begin seE_begin rfl (okE_begin (d := 0) w G (mo s.1 m) (nI a) c hm1) (by omega) (by decide) (Nat.le_of_ble_eq_true rfl) (fun r G1 hr hn => ?_)
      obtain ⟨rfl, hG⟩ := hr
      clear hn
      refine go_iconst (nI 1) (by decide) dF_method_29 ?_
      refine go_zreturn rfl (by first | exact Or.inl rfl | exact Or.inr rfl | exact am_b_01 _) dF_method_30 ?_
      first | exact ⟨by unfold aMethod; rw [if_neg (fun q => absurd q.1 (by rw [c6]; decide))] <;> rfl, by unfold aMethod; rw [if_neg (fun q => absurd q.1 (by rw [c6]; decide))]; exact cEnd.rf hc⟩ | exact ⟨by unfold aMethod; rw [if_neg (fun q => absurd q.2 (by rw [c14]; decide))] <;> rfl, by unfold aMethod; rw [if_neg (fun q => absurd q.2 (by rw [c14]; decide))]; exact cEnd.rf hc⟩ | exact ⟨by unfold aMethod; rw [if_pos ⟨c6, c14⟩]; rfl, by unfold aMethod; rw [if_pos ⟨c6, c14⟩, hz, nI_clamp (by omega), nI_clamp (by omega), hG]; exact cEnd.put hv.1 hm hc E_beg_o hcm.beg⟩
    · refine go_iconst (nI 0) (by decide) dF_method_17 ?_
      refine go_zreturn rfl (by first | exact Or.inl rfl | exact Or.inr rfl | exact am_b_01 _) dF_method_18 ?_
      first | exact ⟨by unfold aMethod; rw [if_neg (fun q => absurd q.1 (by rw [c6]; decide))] <;> rfl, by unfold aMethod; rw [if_neg (fun q => absurd q.1 (by rw [c6]; decide))]; exact cEnd.rf hc⟩ | exact ⟨by unfold aMethod; rw [if_neg (fun q => absurd q.2 (by rw [c14]; decide))] <;> rfl, by unfold aMethod; rw [if_neg (fun q => absurd q.2 (by rw [c14]; decide))]; exact cEnd.rf hc⟩ | exact ⟨by unfold aMethod; rw [if_pos ⟨c6, c14⟩]; rfl, by unfold aMethod; rw [if_pos ⟨c6, c14⟩, hz, nI_clamp (by omega), nI_clamp (by omega), hG]; exact cEnd.put hv.1 hm hc E_beg_o hcm.beg⟩
set_option maxRecDepth 100000 in
theorem okF_add (w : am_W) {d : Nat} (hd : 3 ≤ d) (G : am_G) (s : sT) (x x2 a b : Int32) (hS : St0 G) (hc : cS G s) (hv : sV s) : am_Ok w jF_add d (0, 0) [.inr (some 0), .inl x, .inl x2, .inl a, .inl b] G (fun r G' => r = some (.inl (aAdd s x x2 a b).1) ∧ cEnd G G' (aAdd s x x2 a b).2) := by
  refine am_ok_of rfl (Nat.le_of_ble_eq_true rfl) ?_
  show am_Go w jF_add d (0, 0) 0 [some (.inr (some 0)), some (.inl x), some (.inl x2), some (.inl a), some (.inl b), none] [] G _
  have q6 : G.1[0]? = some (0, 0) := hS.s rfl
  refine go_iload_n dF_add_0 rfl rfl ?_
  refine go_bipush (nI 6) (by decide) dF_add_1 ?_
  refine go_cS (k' := (0, 0)) dF_add_3 _ csF_51 stF_isBelow rfl (okF_below (d := 0) w G x 6 (by decide)) (by omega) (by decide) (Nat.le_of_ble_eq_true rfl) (fun r G1 hr hn => ?_)
  obtain ⟨rfl, hG⟩ := hr
  rw [hG]
  clear hG hn
  refine go_if_eqB dF_add_6 (tgt := 19) (by decide) (fun c6 => ?_) (fun c6 => ?_)
  · refine go_iconst (-1) (by decide) dF_add_19 ?_
    refine go_ireturn rfl dF_add_20 ?_
    first | exact ⟨by unfold aAdd; rw [if_neg (fun q => absurd q.1 (by rw [c6]; decide))] <;> rfl, by unfold aAdd; rw [if_neg (fun q => absurd q.1 (by rw [c6]; decide))]; exact cEnd.rf hc⟩ | exact ⟨by unfold aAdd; rw [if_neg (fun q => absurd q.2 (by rw [c16]; decide))] <;> rfl, by unfold aAdd; rw [if_neg (fun q => absurd q.2 (by rw [c16]; decide))]; exact cEnd.rf hc⟩ | exact ⟨by unfold aAdd; rw [if_pos ⟨c6, c16⟩, hz, if_neg (Nat.not_lt.mpr c35)], by unfold aAdd; rw [if_pos ⟨c6, c16⟩, hz, if_neg (Nat.not_lt.mpr c35)]; exact cEnd.rf hc⟩ | exact ⟨by unfold aAdd; rw [if_pos ⟨c6, c16⟩, hz, if_pos c35], by unfold aAdd; rw [if_pos ⟨c6, c16⟩, hz, if_pos c35, nI_clamp (by omega), nI_clamp (by omega)]; exact cEnd.put hv.1 hm hc (E_putF_o.tr (oR.wi ⟨Nat.le_refl _, by omega⟩)) (hcm.set (mN M + 1) (fun q h1 h2 => by omega) _ (Or.inr rfl) wi_Is)⟩
  · refine go_iload_n dF_add_9 rfl rfl ?_
    refine go_iload_n dF_add_10 rfl rfl ?_
    refine go_iload dF_add_11 rfl ?_
    refine go_cS (k' := (0, 0)) dF_add_13 _ csF_73 stF_isInstruction rfl (okF_isInstruction (d := 2) w (by decide) G x2 a b) (by omega) (by decide) (Nat.le_of_ble_eq_true rfl) (fun r G1 hr hn => ?_)
    obtain ⟨rfl, hG⟩ := hr
    rw [hG]
    clear hG hn
    refine go_if_neB dF_add_16 (tgt := 21) (by decide) (fun c16 => ?_) (fun c16 => ?_)
    · obtain ⟨m, hm, rfl⟩ := bel_of c6 (by decide)
      have hm1 := hS.m (mo_l s.1 hv.1 m hm)
      have hs1 := hm1.1
      have hcm := hc.2.1 s.1 hv.1 m hm
      have hmv := hv.2.1 (6 * s.1 + m) (by have := hv.1; omega)
      obtain ⟨M, hMe⟩ : ∃ M, M = s.2.1 (6 * s.1 + m) := ⟨_, rfl⟩
      rw [← hMe] at hcm hmv
      have hz : zM s (nI m).toNatClampNeg = M := by rw [nI_clamp (by omega), hMe]; rfl
      have hN := hcm.1.1
      have hR := hcm.1.2.1
      have hN6 := hmv.1
      have hR8 := hmv.2.1
      have hp28 : bel x2 28 = true := by have q := c16; unfold insOk at q; simp only [Bool.and_eq_true] at q; exact q.1
      obtain ⟨p, hp, rfl⟩ := bel_of hp28 (by decide)
      refine go_aload_n dF_add_21 rfl rfl ?_
      refine go_iload_n dF_add_22 rfl rfl ?_
      refine go_cV (k' := (0, 0)) dF_add_23 _ csF_63 (by assumption) rfl imF_writtenMethod seF_writtenMethod rfl (okF_writtenMethod (d := 0) w G s.1 m hv.1 hm hc.1 hS) (by omega) (by decide) (Nat.le_of_ble_eq_true rfl) (fun r G1 hr hn => ?_)
      obtain ⟨rfl, hG⟩ := hr
      rw [hG]
      clear hG hn
      refine go_astore dF_add_26 (Nat.le_of_ble_eq_true rfl) ?_
      refine go_aload dF_add_28 rfl ?_
      refine go_getV dF_add_30 flF_77 rfl (by assumption) (by first | assumption | (simp (disch := omega) only [wi_I, ro_I, wi_In, wi_Is]; done) | (simp (disch := omega) only [wi_I, ro_I, wi_In, wi_Is]; first | assumption | rfl) | rfl) ?_
      refine go_bipush (nI 60) (by decide) dF_add_33 ?_
      refine go_icmp_ltN (by omega) (by omega) dF_add_35 (tgt := 41) (by decide) (fun c35 => ?_) (fun c35 => ?_)
      · refine go_aload dF_add_41 rfl ?_
        refine go_aload dF_add_43 rfl ?_
        refine go_getV dF_add_45 flF_77 rfl (by assumption) (by first | assumption | (simp (disch := omega) only [wi_I, ro_I, wi_In, wi_Is]; done) | (simp (disch := omega) only [wi_I, ro_I, wi_In, wi_Is]; first | assumption | rfl) | rfl) ?_
        refine go_iload_n dF_add_48 rfl rfl ?_
        refine go_iload_n dF_add_49 rfl rfl ?_
        refine go_iload dF_add_50 rfl ?_
        refine go_cV (k' := (0, 0)) dF_add_52 _ csF_80 (by assumption) rfl imE_put seE_put rfl (okE_put (d := 0) w G (mo s.1 m) (mN M) p a b (by omega) hp hm1) (by omega) (by decide) (Nat.le_of_ble_eq_true rfl) (fun r G1 hr hn => ?_)
        obtain ⟨rfl, hG⟩ := hr
        clear hn
        rw [hG]
        refine go_aload dF_add_55 rfl ?_
        refine go_dup dF_add_57 ?_
        refine go_getV (v := nI (mN M)) dF_add_58 flF_77 rfl (by assumption) (by unfold E_putF; rw [wi_I (by omega), wi_I (by omega), wi_I (by omega)]; exact hN) ?_
        refine go_iconst (nI 1) (by decide) dF_add_61 ?_
        refine go_iadd dF_add_62 ?_
        rw [nI_add]
        refine go_putI dF_add_63 fpF_77 rfl (by assumption) ?_
        refine go_aload dF_add_66 rfl ?_
        refine go_getV (v := nI (mN M + 1)) dF_add_68 flF_77 rfl (by assumption) wi_Is ?_
        refine go_ireturn rfl dF_add_71 ?_
        first | exact ⟨by unfold aAdd; rw [if_neg (fun q => absurd q.1 (by rw [c6]; decide))] <;> rfl, by unfold aAdd; rw [if_neg (fun q => absurd q.1 (by rw [c6]; decide))]; exact cEnd.rf hc⟩ | exact ⟨by unfold aAdd; rw [if_neg (fun q => absurd q.2 (by rw [c16]; decide))] <;> rfl, by unfold aAdd; rw [if_neg (fun q => absurd q.2 (by rw [c16]; decide))]; exact cEnd.rf hc⟩ | exact ⟨by unfold aAdd; rw [if_pos ⟨c6, c16⟩, hz, if_neg (Nat.not_lt.mpr c35)], by unfold aAdd; rw [if_pos ⟨c6, c16⟩, hz, if_neg (Nat.not_lt.mpr c35)]; exact cEnd.rf hc⟩ | exact ⟨by unfold aAdd; rw [if_pos ⟨c6, c16⟩, hz, if_pos c35], by unfold aAdd; rw [if_pos ⟨c6, c16⟩, hz, if_pos c35, nI_clamp (by omega), nI_clamp (by omega)]; exact cEnd.put hv.1 hm hc (E_putF_o.tr (oR.wi ⟨Nat.le_refl _, by omega⟩)) (hcm.set (mN M + 1) (fun q h1 h2 => by omega) _ (Or.inr rfl) wi_Is)⟩
      · refine go_bipush (-3) (by decide) dF_add_38 ?_
        refine go_ireturn rfl dF_add_40 ?_
        first | exact ⟨by unfold aAdd; rw [if_neg (fun q => absurd q.1 (by rw [c6]; decide))] <;> rfl, by unfold aAdd; rw [if_neg (fun q => absurd q.1 (by rw [c6]; decide))]; exact cEnd.rf hc⟩ | exact ⟨by unfold aAdd; rw [if_neg (fun q => absurd q.2 (by rw [c16]; decide))] <;> rfl, by unfold aAdd; rw [if_neg (fun q => absurd q.2 (by rw [c16]; decide))]; exact cEnd.rf hc⟩ | exact ⟨by unfold aAdd; rw [if_pos ⟨c6, c16⟩, hz, if_neg (Nat.not_lt.mpr c35)], by unfold aAdd; rw [if_pos ⟨c6, c16⟩, hz, if_neg (Nat.not_lt.mpr c35)]; exact cEnd.rf hc⟩ | exact ⟨by unfold aAdd; rw [if_pos ⟨c6, c16⟩, hz, if_pos c35], by unfold aAdd; rw [if_pos ⟨c6, c16⟩, hz, if_pos c35, nI_clamp (by omega), nI_clamp (by omega)]; exact cEnd.put hv.1 hm hc (E_putF_o.tr (oR.wi ⟨Nat.le_refl _, by omega⟩)) (hcm.set (mN M + 1) (fun q h1 h2 => by omega) _ (Or.inr rfl) wi_Is)⟩
    · refine go_iconst (-1) (by decide) dF_add_19 ?_
      refine go_ireturn rfl dF_add_20 ?_
      first | exact ⟨by unfold aAdd; rw [if_neg (fun q => absurd q.1 (by rw [c6]; decide))] <;> rfl, by unfold aAdd; rw [if_neg (fun q => absurd q.1 (by rw [c6]; decide))]; exact cEnd.rf hc⟩ | exact ⟨by unfold aAdd; rw [if_neg (fun q => absurd q.2 (by rw [c16]; decide))] <;> rfl, by unfold aAdd; rw [if_neg (fun q => absurd q.2 (by rw [c16]; decide))]; exact cEnd.rf hc⟩ | exact ⟨by unfold aAdd; rw [if_pos ⟨c6, c16⟩, hz, if_neg (Nat.not_lt.mpr c35)], by unfold aAdd; rw [if_pos ⟨c6, c16⟩, hz, if_neg (Nat.not_lt.mpr c35)]; exact cEnd.rf hc⟩ | exact ⟨by unfold aAdd; rw [if_pos ⟨c6, c16⟩, hz, if_pos c35], by unfold aAdd; rw [if_pos ⟨c6, c16⟩, hz, if_pos c35, nI_clamp (by omega), nI_clamp (by omega)]; exact cEnd.put hv.1 hm hc (E_putF_o.tr (oR.wi ⟨Nat.le_refl _, by omega⟩)) (hcm.set (mN M + 1) (fun q h1 h2 => by omega) _ (Or.inr rfl) wi_Is)⟩
set_option maxRecDepth 100000 in
theorem okF_change (w : am_W) {d : Nat} (hd : 3 ≤ d) (G : am_G) (s : sT) (x z x2 a b : Int32) (hS : St0 G) (hc : cS G s) (hv : sV s) : am_Ok w jF_change d (0, 0) [.inr (some 0), .inl x, .inl z, .inl x2, .inl a, .inl b] G (fun r G' => r = some (.inl (aChange s x z x2 a b).1) ∧ cEnd G G' (aChange s x z x2 a b).2) := by
  refine am_ok_of rfl (Nat.le_of_ble_eq_true rfl) ?_
  show am_Go w jF_change d (0, 0) 0 [some (.inr (some 0)), some (.inl x), some (.inl z), some (.inl x2), some (.inl a), some (.inl b), none] [] G _
  have q6 : G.1[0]? = some (0, 0) := hS.s rfl
  refine go_iload_n dF_change_0 rfl rfl ?_
  refine go_bipush (nI 6) (by decide) dF_change_1 ?_
  refine go_cS (k' := (0, 0)) dF_change_3 _ csF_51 stF_isBelow rfl (okF_below (d := 0) w G x 6 (by decide)) (by omega) (by decide) (Nat.le_of_ble_eq_true rfl) (fun r G1 hr hn => ?_)
  obtain ⟨rfl, hG⟩ := hr
  rw [hG]
  clear hG hn
  refine go_if_eqB dF_change_6 (tgt := 20) (by decide) (fun c6 => ?_) (fun c6 => ?_)
  · refine go_iconst (nI 0) (by decide) dF_change_20 ?_
    refine go_zreturn rfl (by first | exact Or.inl rfl | exact Or.inr rfl | exact am_b_01 _) dF_change_21 ?_
    first | exact ⟨by unfold aChange; rw [if_neg (fun q => absurd q.1.1 (by rw [c6]; decide))] <;> rfl, by unfold aChange; rw [if_neg (fun q => absurd q.1.1 (by rw [c6]; decide))]; exact cEnd.rf hc⟩ | exact ⟨by unfold aChange; rw [if_neg (fun q => absurd q.1.2 (by rw [c17]; decide))] <;> rfl, by unfold aChange; rw [if_neg (fun q => absurd q.1.2 (by rw [c17]; decide))]; exact cEnd.rf hc⟩ | exact ⟨by unfold aChange; rw [if_neg (fun q => absurd q.2 (by rw [hz, c38]; decide))] <;> rfl, by unfold aChange; rw [if_neg (fun q => absurd q.2 (by rw [hz, c38]; decide))]; exact cEnd.rf hc⟩ | exact ⟨by unfold aChange; rw [if_pos ⟨⟨c6, c17⟩, by rw [hz]; exact c38⟩]; rfl, by unfold aChange; rw [if_pos ⟨⟨c6, c17⟩, by rw [hz]; exact c38⟩, hz, nI_clamp (by omega), nI_clamp (by omega), nI_clamp (by omega), hG]; exact cEnd.put hv.1 hm hc E_putF_o (hcm.set (mN M) (fun q h1 h2 => h1) _ (Or.inl rfl) (by unfold E_putF; rw [wi_I (by omega), wi_I (by omega), wi_I (by omega)]; exact hN))⟩
  · refine go_iload_n dF_change_9 rfl rfl ?_
    refine go_iload dF_change_10 rfl ?_
    refine go_iload dF_change_12 rfl ?_
    refine go_cS (k' := (0, 0)) dF_change_14 _ csF_73 stF_isInstruction rfl (okF_isInstruction (d := 2) w (by decide) G x2 a b) (by omega) (by decide) (Nat.le_of_ble_eq_true rfl) (fun r G1 hr hn => ?_)
    obtain ⟨rfl, hG⟩ := hr
    rw [hG]
    clear hG hn
    refine go_if_neB dF_change_17 (tgt := 22) (by decide) (fun c17 => ?_) (fun c17 => ?_)
    · obtain ⟨m, hm, rfl⟩ := bel_of c6 (by decide)
      have hm1 := hS.m (mo_l s.1 hv.1 m hm)
      have hs1 := hm1.1
      have hcm := hc.2.1 s.1 hv.1 m hm
      have hmv := hv.2.1 (6 * s.1 + m) (by have := hv.1; omega)
      obtain ⟨M, hMe⟩ : ∃ M, M = s.2.1 (6 * s.1 + m) := ⟨_, rfl⟩
      rw [← hMe] at hcm hmv
      have hz : zM s (nI m).toNatClampNeg = M := by rw [nI_clamp (by omega), hMe]; rfl
      have hN := hcm.1.1
      have hR := hcm.1.2.1
      have hN6 := hmv.1
      have hR8 := hmv.2.1
      have hp28 : bel x2 28 = true := by have q := c17; unfold insOk at q; simp only [Bool.and_eq_true] at q; exact q.1
      obtain ⟨p, hp, rfl⟩ := bel_of hp28 (by decide)
      refine go_aload_n dF_change_22 rfl rfl ?_
      refine go_iload_n dF_change_23 rfl rfl ?_
      refine go_cV (k' := (0, 0)) dF_change_24 _ csF_63 (by assumption) rfl imF_writtenMethod seF_writtenMethod rfl (okF_writtenMethod (d := 0) w G s.1 m hv.1 hm hc.1 hS) (by omega) (by decide) (Nat.le_of_ble_eq_true rfl) (fun r G1 hr hn => ?_)
      obtain ⟨rfl, hG⟩ := hr
      rw [hG]
      clear hG hn
      refine go_astore dF_change_27 (Nat.le_of_ble_eq_true rfl) ?_
      refine go_iload_n dF_change_29 rfl rfl ?_
      refine go_aload dF_change_30 rfl ?_
      refine go_getV dF_change_32 flF_77 rfl (by assumption) (by first | assumption | (simp (disch := omega) only [wi_I, ro_I, wi_In, wi_Is]; done) | (simp (disch := omega) only [wi_I, ro_I, wi_In, wi_Is]; first | assumption | rfl) | rfl) ?_
      refine go_cS (k' := (0, 0)) dF_change_35 _ csF_51 stF_isBelow rfl (okF_below (d := 0) w G z (mN M) (by omega)) (by omega) (by decide) (Nat.le_of_ble_eq_true rfl) (fun r G1 hr hn => ?_)
      obtain ⟨rfl, hG⟩ := hr
      rw [hG]
      clear hG hn
      refine go_if_neB dF_change_38 (tgt := 43) (by decide) (fun c38 => ?_) (fun c38 => ?_)
      · obtain ⟨i, hi, rfl⟩ := bel_of c38 (by omega)
        refine go_aload dF_change_43 rfl ?_
        refine go_iload_n dF_change_45 rfl rfl ?_
        refine go_iload_n dF_change_46 rfl rfl ?_
        refine go_iload dF_change_47 rfl ?_
        refine go_iload dF_change_49 rfl ?_
        refine go_cV (k' := (0, 0)) dF_change_51 _ csF_80 (by assumption) rfl imE_put seE_put rfl (okE_put (d := 0) w G (mo s.1 m) i p a b (by omega) hp hm1) (by omega) (by decide) (Nat.le_of_ble_eq_true rfl) (fun r G1 hr hn => ?_)
        obtain ⟨rfl, hG⟩ := hr
        clear hn
        refine go_iconst (nI 1) (by decide) dF_change_54 ?_
        refine go_zreturn rfl (by first | exact Or.inl rfl | exact Or.inr rfl | exact am_b_01 _) dF_change_55 ?_
        first | exact ⟨by unfold aChange; rw [if_neg (fun q => absurd q.1.1 (by rw [c6]; decide))] <;> rfl, by unfold aChange; rw [if_neg (fun q => absurd q.1.1 (by rw [c6]; decide))]; exact cEnd.rf hc⟩ | exact ⟨by unfold aChange; rw [if_neg (fun q => absurd q.1.2 (by rw [c17]; decide))] <;> rfl, by unfold aChange; rw [if_neg (fun q => absurd q.1.2 (by rw [c17]; decide))]; exact cEnd.rf hc⟩ | exact ⟨by unfold aChange; rw [if_neg (fun q => absurd q.2 (by rw [hz, c38]; decide))] <;> rfl, by unfold aChange; rw [if_neg (fun q => absurd q.2 (by rw [hz, c38]; decide))]; exact cEnd.rf hc⟩ | exact ⟨by unfold aChange; rw [if_pos ⟨⟨c6, c17⟩, by rw [hz]; exact c38⟩]; rfl, by unfold aChange; rw [if_pos ⟨⟨c6, c17⟩, by rw [hz]; exact c38⟩, hz, nI_clamp (by omega), nI_clamp (by omega), nI_clamp (by omega), hG]; exact cEnd.put hv.1 hm hc E_putF_o (hcm.set (mN M) (fun q h1 h2 => h1) _ (Or.inl rfl) (by unfold E_putF; rw [wi_I (by omega), wi_I (by omega), wi_I (by omega)]; exact hN))⟩
      · refine go_iconst (nI 0) (by decide) dF_change_41 ?_
        refine go_zreturn rfl (by first | exact Or.inl rfl | exact Or.inr rfl | exact am_b_01 _) dF_change_42 ?_
        first | exact ⟨by unfold aChange; rw [if_neg (fun q => absurd q.1.1 (by rw [c6]; decide))] <;> rfl, by unfold aChange; rw [if_neg (fun q => absurd q.1.1 (by rw [c6]; decide))]; exact cEnd.rf hc⟩ | exact ⟨by unfold aChange; rw [if_neg (fun q => absurd q.1.2 (by rw [c17]; decide))] <;> rfl, by unfold aChange; rw [if_neg (fun q => absurd q.1.2 (by rw [c17]; decide))]; exact cEnd.rf hc⟩ | exact ⟨by unfold aChange; rw [if_neg (fun q => absurd q.2 (by rw [hz, c38]; decide))] <;> rfl, by unfold aChange; rw [if_neg (fun q => absurd q.2 (by rw [hz, c38]; decide))]; exact cEnd.rf hc⟩ | exact ⟨by unfold aChange; rw [if_pos ⟨⟨c6, c17⟩, by rw [hz]; exact c38⟩]; rfl, by unfold aChange; rw [if_pos ⟨⟨c6, c17⟩, by rw [hz]; exact c38⟩, hz, nI_clamp (by omega), nI_clamp (by omega), nI_clamp (by omega), hG]; exact cEnd.put hv.1 hm hc E_putF_o (hcm.set (mN M) (fun q h1 h2 => h1) _ (Or.inl rfl) (by unfold E_putF; rw [wi_I (by omega), wi_I (by omega), wi_I (by omega)]; exact hN))⟩
    · refine go_iconst (nI 0) (by decide) dF_change_20 ?_
      refine go_zreturn rfl (by first | exact Or.inl rfl | exact Or.inr rfl | exact am_b_01 _) dF_change_21 ?_
      first | exact ⟨by unfold aChange; rw [if_neg (fun q => absurd q.1.1 (by rw [c6]; decide))] <;> rfl, by unfold aChange; rw [if_neg (fun q => absurd q.1.1 (by rw [c6]; decide))]; exact cEnd.rf hc⟩ | exact ⟨by unfold aChange; rw [if_neg (fun q => absurd q.1.2 (by rw [c17]; decide))] <;> rfl, by unfold aChange; rw [if_neg (fun q => absurd q.1.2 (by rw [c17]; decide))]; exact cEnd.rf hc⟩ | exact ⟨by unfold aChange; rw [if_neg (fun q => absurd q.2 (by rw [hz, c38]; decide))] <;> rfl, by unfold aChange; rw [if_neg (fun q => absurd q.2 (by rw [hz, c38]; decide))]; exact cEnd.rf hc⟩ | exact ⟨by unfold aChange; rw [if_pos ⟨⟨c6, c17⟩, by rw [hz]; exact c38⟩]; rfl, by unfold aChange; rw [if_pos ⟨⟨c6, c17⟩, by rw [hz]; exact c38⟩, hz, nI_clamp (by omega), nI_clamp (by omega), nI_clamp (by omega), hG]; exact cEnd.put hv.1 hm hc E_putF_o (hcm.set (mN M) (fun q h1 h2 => h1) _ (Or.inl rfl) (by unfold E_putF; rw [wi_I (by omega), wi_I (by omega), wi_I (by omega)]; exact hN))⟩
set_option maxRecDepth 100000 in
theorem okF_code (w : am_W) {d : Nat} (hd : 3 ≤ d) (G : am_G) (s : sT) (x z k : Int32) (hS : St0 G) (hc : cS G s) (hv : sV s) : am_Ok w jF_code d (0, 0) [.inr (some 0), .inl x, .inl z, .inl k] G (fun r G' => r = some (.inl (aCode s x z k)) ∧ G' = G) := by
  refine am_ok_of rfl (Nat.le_of_ble_eq_true rfl) ?_
  show am_Go w jF_code d (0, 0) 0 [some (.inr (some 0)), some (.inl x), some (.inl z), some (.inl k), none] [] G _
  have q6 : G.1[0]? = some (0, 0) := hS.s rfl
  refine go_iload_n dF_code_0 rfl rfl ?_
  refine go_bipush (nI 6) (by decide) dF_code_1 ?_
  refine go_cS (k' := (0, 0)) dF_code_3 _ csF_51 stF_isBelow rfl (okF_below (d := 0) w G x 6 (by decide)) (by omega) (by decide) (Nat.le_of_ble_eq_true rfl) (fun r G1 hr hn => ?_)
  obtain ⟨rfl, hG⟩ := hr
  rw [hG]
  clear hG hn
  refine go_if_eqB dF_code_6 (tgt := 17) (by decide) (fun c6 => ?_) (fun c6 => ?_)
  · refine go_iconst (-1) (by decide) dF_code_17 ?_
    refine go_ireturn rfl dF_code_18 ?_
    first | exact ⟨by unfold aCode; rw [if_neg (fun q => absurd q.1 (by rw [c6]; decide))], rfl⟩ | exact ⟨by unfold aCode; rw [if_neg (fun q => absurd q.2 (by rw [c14]; decide))], rfl⟩ | exact ⟨by unfold aCode; rw [if_pos ⟨c6, c14⟩, hz, if_neg (fun q => absurd q (by rw [c35]; decide))], rfl⟩ | exact ⟨by unfold aCode; rw [if_pos ⟨c6, c14⟩, hz, if_pos c35, hz2, if_pos (show k = nI 0 from c42)], rfl⟩ | exact ⟨by unfold aCode; rw [if_pos ⟨c6, c14⟩, hz, if_pos c35, hz2, if_neg (show ¬ k = nI 0 from c42), if_neg c55], rfl⟩ | exact ⟨by unfold aCode; rw [if_pos ⟨c6, c14⟩, hz, if_pos c35, hz2, if_neg (show ¬ k = nI 0 from c42), if_pos c55], rfl⟩
  · refine go_iload_n dF_code_9 rfl rfl ?_
    refine go_iconst (nI 3) (by decide) dF_code_10 ?_
    refine go_cS (k' := (0, 0)) dF_code_11 _ csF_51 stF_isBelow rfl (okF_below (d := 0) w G k 3 (by decide)) (by omega) (by decide) (Nat.le_of_ble_eq_true rfl) (fun r G1 hr hn => ?_)
    obtain ⟨rfl, hG⟩ := hr
    rw [hG]
    clear hG hn
    refine go_if_neB dF_code_14 (tgt := 19) (by decide) (fun c14 => ?_) (fun c14 => ?_)
    · obtain ⟨m, hm, rfl⟩ := bel_of c6 (by decide)
      have hm1 := hS.m (mo_l s.1 hv.1 m hm)
      have hs1 := hm1.1
      have hcm := hc.2.1 s.1 hv.1 m hm
      have hmv := hv.2.1 (6 * s.1 + m) (by have := hv.1; omega)
      obtain ⟨M, hMe⟩ : ∃ M, M = s.2.1 (6 * s.1 + m) := ⟨_, rfl⟩
      rw [← hMe] at hcm hmv
      have hz : zM s (nI m).toNatClampNeg = M := by rw [nI_clamp (by omega), hMe]; rfl
      have hN := hcm.1.1
      have hR := hcm.1.2.1
      have hN6 := hmv.1
      have hR8 := hmv.2.1
      refine go_aload_n dF_code_19 rfl rfl ?_
      refine go_iload_n dF_code_20 rfl rfl ?_
      refine go_cV (k' := (0, 0)) dF_code_21 _ csF_63 (by assumption) rfl imF_writtenMethod seF_writtenMethod rfl (okF_writtenMethod (d := 0) w G s.1 m hv.1 hm hc.1 hS) (by omega) (by decide) (Nat.le_of_ble_eq_true rfl) (fun r G1 hr hn => ?_)
      obtain ⟨rfl, hG⟩ := hr
      rw [hG]
      clear hG hn
      refine go_astore dF_code_24 (Nat.le_of_ble_eq_true rfl) ?_
      refine go_iload_n dF_code_26 rfl rfl ?_
      refine go_aload dF_code_27 rfl ?_
      refine go_getV dF_code_29 flF_77 rfl (by assumption) (by first | assumption | (simp (disch := omega) only [wi_I, ro_I, wi_In, wi_Is]; done) | (simp (disch := omega) only [wi_I, ro_I, wi_In, wi_Is]; first | assumption | rfl) | rfl) ?_
      refine go_cS (k' := (0, 0)) dF_code_32 _ csF_51 stF_isBelow rfl (okF_below (d := 0) w G z (mN M) (by omega)) (by omega) (by decide) (Nat.le_of_ble_eq_true rfl) (fun r G1 hr hn => ?_)
      obtain ⟨rfl, hG⟩ := hr
      rw [hG]
      clear hG hn
      refine go_if_neB dF_code_35 (tgt := 41) (by decide) (fun c35 => ?_) (fun c35 => ?_)
      · obtain ⟨i, hi, rfl⟩ := bel_of c35 (by omega)
        have hz2 : (nI i).toNatClampNeg = i := nI_clamp (by omega)
        have hci := hcm.2.1 i hi
        have t1 := hm1.2.2.1
        have t2 := hm1.2.2.2.1
        have t3 := hm1.2.2.2.2.1
        obtain ⟨r0, r1, r2, -⟩ := hm1.2.1
        refine go_iload_n dF_code_41 rfl rfl ?_
        refine go_if_ne dF_code_42 (tgt := 53) (by decide) (fun c42 => ?_) (fun c42 => ?_)
        · refine go_iload_n dF_code_53 rfl rfl ?_
          refine go_iconst (nI 1) (by decide) dF_code_54 ?_
          refine go_icmp_ne dF_code_55 (tgt := 68) (by decide) (fun c55 => ?_) (fun c55 => ?_)
          · refine go_aload dF_code_68 rfl ?_
            refine go_getO dF_code_70 flF_186 rfl (by assumption) (by assumption) ?_
            refine go_iload_n dF_code_73 rfl rfl ?_
            refine go_ialV (by assumption) (by omega) (by decide) hci.2.2 dF_code_74 ?_
            refine go_ireturn rfl dF_code_75 ?_
            first | exact ⟨by unfold aCode; rw [if_neg (fun q => absurd q.1 (by rw [c6]; decide))], rfl⟩ | exact ⟨by unfold aCode; rw [if_neg (fun q => absurd q.2 (by rw [c14]; decide))], rfl⟩ | exact ⟨by unfold aCode; rw [if_pos ⟨c6, c14⟩, hz, if_neg (fun q => absurd q (by rw [c35]; decide))], rfl⟩ | exact ⟨by unfold aCode; rw [if_pos ⟨c6, c14⟩, hz, if_pos c35, hz2, if_pos (show k = nI 0 from c42)], rfl⟩ | exact ⟨by unfold aCode; rw [if_pos ⟨c6, c14⟩, hz, if_pos c35, hz2, if_neg (show ¬ k = nI 0 from c42), if_neg c55], rfl⟩ | exact ⟨by unfold aCode; rw [if_pos ⟨c6, c14⟩, hz, if_pos c35, hz2, if_neg (show ¬ k = nI 0 from c42), if_pos c55], rfl⟩
          · refine go_aload dF_code_58 rfl ?_
            refine go_getO dF_code_60 flF_158 rfl (by assumption) (by assumption) ?_
            refine go_iload_n dF_code_63 rfl rfl ?_
            refine go_ialV (by assumption) (by omega) (by decide) hci.2.1 dF_code_64 ?_
            refine go_goto dF_code_65 (tgt := 75) (by decide) ?_
            refine go_ireturn rfl dF_code_75 ?_
            first | exact ⟨by unfold aCode; rw [if_neg (fun q => absurd q.1 (by rw [c6]; decide))], rfl⟩ | exact ⟨by unfold aCode; rw [if_neg (fun q => absurd q.2 (by rw [c14]; decide))], rfl⟩ | exact ⟨by unfold aCode; rw [if_pos ⟨c6, c14⟩, hz, if_neg (fun q => absurd q (by rw [c35]; decide))], rfl⟩ | exact ⟨by unfold aCode; rw [if_pos ⟨c6, c14⟩, hz, if_pos c35, hz2, if_pos (show k = nI 0 from c42)], rfl⟩ | exact ⟨by unfold aCode; rw [if_pos ⟨c6, c14⟩, hz, if_pos c35, hz2, if_neg (show ¬ k = nI 0 from c42), if_neg c55], rfl⟩ | exact ⟨by unfold aCode; rw [if_pos ⟨c6, c14⟩, hz, if_pos c35, hz2, if_neg (show ¬ k = nI 0 from c42), if_pos c55], rfl⟩
        · refine go_aload dF_code_45 rfl ?_
          refine go_getO dF_code_47 flF_183 rfl (by assumption) (by assumption) ?_
          refine go_iload_n dF_code_50 rfl rfl ?_
          refine go_ialV (by assumption) (by omega) (by decide) hci.1 dF_code_51 ?_
          refine go_ireturn rfl dF_code_52 ?_
          first | exact ⟨by unfold aCode; rw [if_neg (fun q => absurd q.1 (by rw [c6]; decide))], rfl⟩ | exact ⟨by unfold aCode; rw [if_neg (fun q => absurd q.2 (by rw [c14]; decide))], rfl⟩ | exact ⟨by unfold aCode; rw [if_pos ⟨c6, c14⟩, hz, if_neg (fun q => absurd q (by rw [c35]; decide))], rfl⟩ | exact ⟨by unfold aCode; rw [if_pos ⟨c6, c14⟩, hz, if_pos c35, hz2, if_pos (show k = nI 0 from c42)], rfl⟩ | exact ⟨by unfold aCode; rw [if_pos ⟨c6, c14⟩, hz, if_pos c35, hz2, if_neg (show ¬ k = nI 0 from c42), if_neg c55], rfl⟩ | exact ⟨by unfold aCode; rw [if_pos ⟨c6, c14⟩, hz, if_pos c35, hz2, if_neg (show ¬ k = nI 0 from c42), if_pos c55], rfl⟩
      · refine go_bipush (-2) (by decide) dF_code_38 ?_
        refine go_ireturn rfl dF_code_40 ?_
        first | exact ⟨by unfold aCode; rw [if_neg (fun q => absurd q.1 (by rw [c6]; decide))], rfl⟩ | exact ⟨by unfold aCode; rw [if_neg (fun q => absurd q.2 (by rw [c14]; decide))], rfl⟩ | exact ⟨by unfold aCode; rw [if_pos ⟨c6, c14⟩, hz, if_neg (fun q => absurd q (by rw [c35]; decide))], rfl⟩ | exact ⟨by unfold aCode; rw [if_pos ⟨c6, c14⟩, hz, if_pos c35, hz2, if_pos (show k = nI 0 from c42)], rfl⟩ | exact ⟨by unfold aCode; rw [if_pos ⟨c6, c14⟩, hz, if_pos c35, hz2, if_neg (show ¬ k = nI 0 from c42), if_neg c55], rfl⟩ | exact ⟨by unfold aCode; rw [if_pos ⟨c6, c14⟩, hz, if_pos c35, hz2, if_neg (show ¬ k = nI 0 from c42), if_pos c55], rfl⟩
    · refine go_iconst (-1) (by decide) dF_code_17 ?_
      refine go_ireturn rfl dF_code_18 ?_
      first | exact ⟨by unfold aCode; rw [if_neg (fun q => absurd q.1 (by rw [c6]; decide))], rfl⟩ | exact ⟨by unfold aCode; rw [if_neg (fun q => absurd q.2 (by rw [c14]; decide))], rfl⟩ | exact ⟨by unfold aCode; rw [if_pos ⟨c6, c14⟩, hz, if_neg (fun q => absurd q (by rw [c35]; decide))], rfl⟩ | exact ⟨by unfold aCode; rw [if_pos ⟨c6, c14⟩, hz, if_pos c35, hz2, if_pos (show k = nI 0 from c42)], rfl⟩ | exact ⟨by unfold aCode; rw [if_pos ⟨c6, c14⟩, hz, if_pos c35, hz2, if_neg (show ¬ k = nI 0 from c42), if_neg c55], rfl⟩ | exact ⟨by unfold aCode; rw [if_pos ⟨c6, c14⟩, hz, if_pos c35, hz2, if_neg (show ¬ k = nI 0 from c42), if_pos c55], rfl⟩
