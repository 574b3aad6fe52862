set_option maxRecDepth 100000 in
theorem F_row_a (w : am_W) {d : Nat} {P : Option am_V → am_G → Prop} (hd : 3 ≤ d) (G : am_G) (x f t a y : Int32) (K : am_Go w jF_row d (0, 0) 24 [some (.inr (some 0)), some (.inl x), some (.inl f), some (.inl t), some (.inl a), some (.inl y), none, none, none] [.inl (am_b (bel f 60 && bel a 60))] G P) : am_Go w jF_row d (0, 0) 0 [some (.inr (some 0)), some (.inl x), some (.inl f), some (.inl t), some (.inl a), some (.inl y), none, none, none] [] G P := by
  refine go_iload_n dF_row_0 rfl rfl ?_
  refine go_bipush (nI 60) (by decide) dF_row_1 ?_
  refine go_cS (k' := (0, 0)) dF_row_3 _ csF_51 stF_isBelow rfl (okF_below (d := 0) w G f 60 (by decide)) (by omega) (by decide) (Nat.le_of_ble_eq_true rfl) (fun r G1 hr hn => ?_)
  obtain ⟨rfl, hG⟩ := hr
  rw [hG]
  clear hG hn
  refine go_if_eqB dF_row_6 (tgt := 23) (by decide) (fun c6 => ?_) (fun c6 => ?_)
  · refine go_iconst (nI 0) (by decide) dF_row_23 ?_
    first | exact go_top (by rw [c6, c16]; rfl) K | exact go_top (by rw [c6]; rfl) K
  · refine go_iload dF_row_9 rfl ?_
    refine go_bipush (nI 60) (by decide) dF_row_11 ?_
    refine go_cS (k' := (0, 0)) dF_row_13 _ csF_51 stF_isBelow rfl (okF_below (d := 0) w G a 60 (by decide)) (by omega) (by decide) (Nat.le_of_ble_eq_true rfl) (fun r G1 hr hn => ?_)
    obtain ⟨rfl, hG⟩ := hr
    rw [hG]
    clear hG hn
    refine go_if_eqB dF_row_16 (tgt := 23) (by decide) (fun c16 => ?_) (fun c16 => ?_)
    · refine go_iconst (nI 0) (by decide) dF_row_23 ?_
      first | exact go_top (by rw [c6, c16]; rfl) K | exact go_top (by rw [c6]; rfl) K
    · refine go_iconst (nI 1) (by decide) dF_row_19 ?_
      refine go_goto dF_row_20 (tgt := 24) (by decide) ?_
      first | exact go_top (by rw [c6, c16]; rfl) K | exact go_top (by rw [c6]; rfl) K
set_option maxRecDepth 100000 in
theorem F_row_b (w : am_W) {d : Nat} {P : Option am_V → am_G → Prop} (G : am_G) (x f t a y : Int32) (c : Bool) (K : am_Go w jF_row d (0, 0) 42 [some (.inr (some 0)), some (.inl x), some (.inl f), some (.inl t), some (.inl a), some (.inl y), some (.inl (am_b c)), none, none] [.inl (am_b (decide (f < t ∧ t ≤ nI 60)))] G P) : am_Go w jF_row d (0, 0) 26 [some (.inr (some 0)), some (.inl x), some (.inl f), some (.inl t), some (.inl a), some (.inl y), some (.inl (am_b c)), none, none] [] G P := by
  refine go_iload_n dF_row_26 rfl rfl ?_
  refine go_iload_n dF_row_27 rfl rfl ?_
  refine go_icmp_le dF_row_28 (tgt := 41) (by decide) (fun c28 => ?_) (fun c28 => ?_)
  · refine go_iconst (nI 0) (by decide) dF_row_41 ?_
    first | exact go_top (by rw [am_b_ndec (fun q => i_nlt.mpr c28 q.1)]; rfl) K | exact go_top (by rw [am_b_ndec (fun q => i_nle.mpr c34 q.2)]; rfl) K | exact go_top (by rw [am_b_dec ⟨i_nle.mp c28, i_nlt.mp c34⟩]; rfl) K
  · refine go_iload_n dF_row_31 rfl rfl ?_
    refine go_bipush (nI 60) (by decide) dF_row_32 ?_
    refine go_icmp_gt dF_row_34 (tgt := 41) (by decide) (fun c34 => ?_) (fun c34 => ?_)
    · refine go_iconst (nI 0) (by decide) dF_row_41 ?_
      first | exact go_top (by rw [am_b_ndec (fun q => i_nlt.mpr c28 q.1)]; rfl) K | exact go_top (by rw [am_b_ndec (fun q => i_nle.mpr c34 q.2)]; rfl) K | exact go_top (by rw [am_b_dec ⟨i_nle.mp c28, i_nlt.mp c34⟩]; rfl) K
    · refine go_iconst (nI 1) (by decide) dF_row_37 ?_
      refine go_goto dF_row_38 (tgt := 42) (by decide) ?_
      first | exact go_top (by rw [am_b_ndec (fun q => i_nlt.mpr c28 q.1)]; rfl) K | exact go_top (by rw [am_b_ndec (fun q => i_nle.mpr c34 q.2)]; rfl) K | exact go_top (by rw [am_b_dec ⟨i_nle.mp c28, i_nlt.mp c34⟩]; rfl) K
section AR
variable {G G' : am_G} {s : sT} {m : Nat} {M : mT} {f t a y : Int32}
theorem aRow_1 (hv : sV s) (hm : m < 6) (hc : cS G s) (hcm : cM G (mo s.1 m) M) (hz : zM s (nI m).toNatClampNeg = M) (c1 : bel (nI m) 6 = true) (c2 : bel f 60 = true) (c3 : bel a 60 = true) (c4 : f < t ∧ t ≤ nI 60) (c5 : bel y 8 = true) (c6 : mR M < 8) (hG : G' = if mR M < 8 then E_row G (mo s.1 m) (mR M) f t a y else G) :
    some (Sum.inl (nI (mR M + 1)) : am_V) = some (.inl (aRow s (nI m) f t a y).1) ∧ cEnd G G' (aRow s (nI m) f t a y).2 := by
  unfold aRow
  rw [if_pos ⟨c1, ⟨c2, c3⟩, c4, c5⟩, hz, if_pos c6]
  rw [if_pos c6] at hG
  refine ⟨rfl, ?_⟩
  obtain ⟨f', hf, rfl⟩ := bel_of c2 (by decide)
  obtain ⟨a', ha, rfl⟩ := bel_of c3 (by decide)
  obtain ⟨y', hy, rfl⟩ := bel_of c5 (by decide)
  have ht : ∃ t', t' ≤ 60 ∧ t = nI t' := by
    have q : ¬ t < 0 := i_nlt.mpr (by
      have q1 := Int32.lt_iff_toInt_lt.mp c4.1
      rw [nI_toInt (by omega)] at q1
      rw [Int32.le_iff_toInt_le, Int32.toInt_zero]; omega)
    exact nI_of2 (M := nI 60) (n := 60) rfl q c4.2
  obtain ⟨t', ht, rfl⟩ := ht
  rw [nI_clamp (by omega), nI_clamp (by omega), nI_clamp (by omega), nI_clamp (by omega), nI_clamp (by omega), hG]
  exact cEnd.put hv.1 hm hc E_row_o hcm.row
theorem aRow_2 (hc : cS G s) (hz : zM s (nI m).toNatClampNeg = M) (c1 : bel (nI m) 6 = true) (c2 : bel f 60 = true) (c3 : bel a 60 = true) (c4 : f < t ∧ t ≤ nI 60) (c5 : bel y 8 = true) (c6 : ¬ mR M < 8) (hG : G' = if mR M < 8 then E_row G (mo s.1 m) (mR M) f t a y else G) :
    some (Sum.inl (-3) : am_V) = some (.inl (aRow s (nI m) f t a y).1) ∧ cEnd G G' (aRow s (nI m) f t a y).2 := by
  unfold aRow
  rw [if_pos ⟨c1, ⟨c2, c3⟩, c4, c5⟩, hz, if_neg c6]
  rw [if_neg c6] at hG
  rw [hG]
  exact ⟨rfl, cEnd.rf hc⟩
end AR
set_option maxRecDepth 100000 in
theorem okF_row (w : am_W) {d : Nat} (hd : 3 ≤ d) (G : am_G) (s : sT) (x f t a y : Int32) (hS : St0 G) (hc : cS G s) (hv : sV s) : am_Ok w jF_row d (0, 0) [.inr (some 0), .inl x, .inl f, .inl t, .inl a, .inl y] G (fun r G' => r = some (.inl (aRow s x f t a y).1) ∧ cEnd G G' (aRow s x f t a y).2) := by
  refine am_ok_of rfl (Nat.le_of_ble_eq_true rfl) ?_
  show am_Go w jF_row d (0, 0) 0 [some (.inr (some 0)), some (.inl x), some (.inl f), some (.inl t), some (.inl a), some (.inl y), none, none, none] [] G _
  have q6 : G.1[0]? = some (0, 0) := hS.s rfl
  refine F_row_a w hd G x f t a y ?_
  refine go_istore dF_row_24 (Nat.le_of_ble_eq_true rfl) ?_
  refine F_row_b w G x f t a y _ ?_
  refine go_istore dF_row_42 (Nat.le_of_ble_eq_true rfl) ?_
  refine go_iload_n dF_row_44 rfl rfl ?_
  refine go_bipush (nI 6) (by decide) dF_row_45 ?_
  refine go_cS (k' := (0, 0)) dF_row_47 _ csF_51 stF_isBelow rfl (okF_below (d := 0) w G x 6 (by decide)) (by omega) (by decide) (Nat.le_of_ble_eq_true rfl) (fun r G1 hr hn => ?_)
  obtain ⟨rfl, hG⟩ := hr
  rw [hG]
  clear hG hn
  refine go_if_eqB dF_row_50 (tgt := 73) (by decide) (fun c50 => ?_) (fun c50 => ?_)
  · refine go_iconst (-1) (by decide) dF_row_73 ?_
    refine go_ireturn rfl dF_row_74 ?_
    first | exact ⟨by unfold aRow; rw [if_neg (fun q => absurd q.1 (by rw [c50]; decide))] <;> rfl, by unfold aRow; rw [if_neg (fun q => absurd q.1 (by rw [c50]; decide))]; exact cEnd.rf hc⟩ | exact ⟨by unfold aRow; rw [if_neg (fun q => absurd q.2.1 (fun q9 => by rw [q9.1, q9.2] at c55; exact absurd c55 (by decide)))] <;> rfl, by unfold aRow; rw [if_neg (fun q => absurd q.2.1 (fun q9 => by rw [q9.1, q9.2] at c55; exact absurd c55 (by decide)))]; exact cEnd.rf hc⟩ | exact ⟨by unfold aRow; rw [if_neg (fun q => absurd q.2.2.1 (of_decide_eq_false c60))] <;> rfl, by unfold aRow; rw [if_neg (fun q => absurd q.2.2.1 (of_decide_eq_false c60))]; exact cEnd.rf hc⟩ | exact ⟨by unfold aRow; rw [if_neg (fun q => absurd q.2.2.2 (by rw [c70]; decide))] <;> rfl, by unfold aRow; rw [if_neg (fun q => absurd q.2.2.2 (by rw [c70]; decide))]; exact cEnd.rf hc⟩ | exact aRow_1 hv hm hc hcm hz c50 c55a c55b c60a c70 c93a hG | exact aRow_2 hc hz c50 c55a c55b c60a c70 (of_decide_eq_false c93) hG
  · refine go_iload dF_row_53 rfl ?_
    refine go_if_eqB dF_row_55 (tgt := 73) (by decide) (fun c55 => ?_) (fun c55 => ?_)
    · refine go_iconst (-1) (by decide) dF_row_73 ?_
      refine go_ireturn rfl dF_row_74 ?_
      first | exact ⟨by unfold aRow; rw [if_neg (fun q => absurd q.1 (by rw [c50]; decide))] <;> rfl, by unfold aRow; rw [if_neg (fun q => absurd q.1 (by rw [c50]; decide))]; exact cEnd.rf hc⟩ | exact ⟨by unfold aRow; rw [if_neg (fun q => absurd q.2.1 (fun q9 => by rw [q9.1, q9.2] at c55; exact absurd c55 (by decide)))] <;> rfl, by unfold aRow; rw [if_neg (fun q => absurd q.2.1 (fun q9 => by rw [q9.1, q9.2] at c55; exact absurd c55 (by decide)))]; exact cEnd.rf hc⟩ | exact ⟨by unfold aRow; rw [if_neg (fun q => absurd q.2.2.1 (of_decide_eq_false c60))] <;> rfl, by unfold aRow; rw [if_neg (fun q => absurd q.2.2.1 (of_decide_eq_false c60))]; exact cEnd.rf hc⟩ | exact ⟨by unfold aRow; rw [if_neg (fun q => absurd q.2.2.2 (by rw [c70]; decide))] <;> rfl, by unfold aRow; rw [if_neg (fun q => absurd q.2.2.2 (by rw [c70]; decide))]; exact cEnd.rf hc⟩ | exact aRow_1 hv hm hc hcm hz c50 c55a c55b c60a c70 c93a hG | exact aRow_2 hc hz c50 c55a c55b c60a c70 (of_decide_eq_false c93) hG
    · refine go_iload dF_row_58 rfl ?_
      refine go_if_eqB dF_row_60 (tgt := 73) (by decide) (fun c60 => ?_) (fun c60 => ?_)
      · refine go_iconst (-1) (by decide) dF_row_73 ?_
        refine go_ireturn rfl dF_row_74 ?_
        first | exact ⟨by unfold aRow; rw [if_neg (fun q => absurd q.1 (by rw [c50]; decide))] <;> rfl, by unfold aRow; rw [if_neg (fun q => absurd q.1 (by rw [c50]; decide))]; exact cEnd.rf hc⟩ | exact ⟨by unfold aRow; rw [if_neg (fun q => absurd q.2.1 (fun q9 => by rw [q9.1, q9.2] at c55; exact absurd c55 (by decide)))] <;> rfl, by unfold aRow; rw [if_neg (fun q => absurd q.2.1 (fun q9 => by rw [q9.1, q9.2] at c55; exact absurd c55 (by decide)))]; exact cEnd.rf hc⟩ | exact ⟨by unfold aRow; rw [if_neg (fun q => absurd q.2.2.1 (of_decide_eq_false c60))] <;> rfl, by unfold aRow; rw [if_neg (fun q => absurd q.2.2.1 (of_decide_eq_false c60))]; exact cEnd.rf hc⟩ | exact ⟨by unfold aRow; rw [if_neg (fun q => absurd q.2.2.2 (by rw [c70]; decide))] <;> rfl, by unfold aRow; rw [if_neg (fun q => absurd q.2.2.2 (by rw [c70]; decide))]; exact cEnd.rf hc⟩ | exact aRow_1 hv hm hc hcm hz c50 c55a c55b c60a c70 c93a hG | exact aRow_2 hc hz c50 c55a c55b c60a c70 (of_decide_eq_false c93) hG
      · refine go_iload dF_row_63 rfl ?_
        refine go_bipush (nI 8) (by decide) dF_row_65 ?_
        refine go_cS (k' := (0, 0)) dF_row_67 _ csF_51 stF_isBelow rfl (okF_below (d := 0) w G y 8 (by decide)) (by omega) (by decide) (Nat.le_of_ble_eq_true rfl) (fun r G1 hr hn => ?_)
        obtain ⟨rfl, hG⟩ := hr
        rw [hG]
        clear hG hn
        refine go_if_neB dF_row_70 (tgt := 75) (by decide) (fun c70 => ?_) (fun c70 => ?_)
        · obtain ⟨m, hm, rfl⟩ := bel_of c50 (by decide)
          have hm1 := hS.m (mo_l s.1 hv.1 m hm)
          have hs1 := hm1.1
          have hcm := hc.2.1 s.1 hv.1 m hm
          have hmv := hv.2.1 (6 * s.1 + m) (by have := hv.1; omega)
          obtain ⟨M, hMe⟩ : ∃ M, M = s.2.1 (6 * s.1 + m) := ⟨_, rfl⟩
          rw [← hMe] at hcm hmv
          have hz : zM s (nI m).toNatClampNeg = M := by rw [nI_clamp (by omega), hMe]; rfl
          have hN := hcm.1.1
          have hR := hcm.1.2.1
          have hN6 := hmv.1
          have hR8 := hmv.2.1
          have c55a : bel f 60 = true := by have q := c55; simp only [Bool.and_eq_true] at q; exact q.1
          have c55b : bel a 60 = true := by have q := c55; simp only [Bool.and_eq_true] at q; exact q.2
          have c60a := of_decide_eq_true c60
          refine go_aload_n dF_row_75 rfl rfl ?_
          refine go_iload_n dF_row_76 rfl rfl ?_
          refine go_cV (k' := (0, 0)) dF_row_77 _ csF_63 (by assumption) rfl imF_writtenMethod seF_writtenMethod rfl (okF_writtenMethod (d := 0) w G s.1 m hv.1 hm hc.1 hS) (by omega) (by decide) (Nat.le_of_ble_eq_true rfl) (fun r G1 hr hn => ?_)
          obtain ⟨rfl, hG⟩ := hr
          rw [hG]
          clear hG hn
          refine go_astore dF_row_80 (Nat.le_of_ble_eq_true rfl) ?_
          refine go_aload dF_row_82 rfl ?_
          refine go_iload_n dF_row_84 rfl rfl ?_
          refine go_iload_n dF_row_85 rfl rfl ?_
          refine go_iload dF_row_86 rfl ?_
          refine go_iload dF_row_88 rfl ?_
          refine go_cV (k' := (0, 0)) dF_row_90 _ csF_84 (by assumption) rfl imE_addRow seE_addRow rfl (okE_addRow (d := 0) w G (mo s.1 m) (mR M) f t a y hR8 hR hm1) (by omega) (by decide) (Nat.le_of_ble_eq_true rfl) (fun r G1 hr hn => ?_)
          obtain ⟨rfl, hG⟩ := hr
          clear hn
          refine go_if_eqB dF_row_93 (tgt := 104) (by decide) (fun c93 => ?_) (fun c93 => ?_)
          · refine go_bipush (-3) (by decide) dF_row_104 ?_
            refine go_ireturn rfl dF_row_106 ?_
            first | exact ⟨by unfold aRow; rw [if_neg (fun q => absurd q.1 (by rw [c50]; decide))] <;> rfl, by unfold aRow; rw [if_neg (fun q => absurd q.1 (by rw [c50]; decide))]; exact cEnd.rf hc⟩ | exact ⟨by unfold aRow; rw [if_neg (fun q => absurd q.2.1 (fun q9 => by rw [q9.1, q9.2] at c55; exact absurd c55 (by decide)))] <;> rfl, by unfold aRow; rw [if_neg (fun q => absurd q.2.1 (fun q9 => by rw [q9.1, q9.2] at c55; exact absurd c55 (by decide)))]; exact cEnd.rf hc⟩ | exact ⟨by unfold aRow; rw [if_neg (fun q => absurd q.2.2.1 (of_decide_eq_false c60))] <;> rfl, by unfold aRow; rw [if_neg (fun q => absurd q.2.2.1 (of_decide_eq_false c60))]; exact cEnd.rf hc⟩ | exact ⟨by unfold aRow; rw [if_neg (fun q => absurd q.2.2.2 (by rw [c70]; decide))] <;> rfl, by unfold aRow; rw [if_neg (fun q => absurd q.2.2.2 (by rw [c70]; decide))]; exact cEnd.rf hc⟩ | exact aRow_1 hv hm hc hcm hz c50 c55a c55b c60a c70 c93a hG | exact aRow_2 hc hz c50 c55a c55b c60a c70 (of_decide_eq_false c93) hG
          · have c93a := of_decide_eq_true c93
            refine go_aload dF_row_96 rfl ?_
            refine go_getV (v := nI (mR M + 1)) dF_row_98 flF_88 rfl (by rw [hG, if_pos c93a]; exact hs1) (by rw [hG, if_pos c93a]; exact wi_Is) ?_
            refine go_goto dF_row_101 (tgt := 106) (by decide) ?_
            refine go_ireturn rfl dF_row_106 ?_
            first | exact ⟨by unfold aRow; rw [if_neg (fun q => absurd q.1 (by rw [c50]; decide))] <;> rfl, by unfold aRow; rw [if_neg (fun q => absurd q.1 (by rw [c50]; decide))]; exact cEnd.rf hc⟩ | exact ⟨by unfold aRow; rw [if_neg (fun q => absurd q.2.1 (fun q9 => by rw [q9.1, q9.2] at c55; exact absurd c55 (by decide)))] <;> rfl, by unfold aRow; rw [if_neg (fun q => absurd q.2.1 (fun q9 => by rw [q9.1, q9.2] at c55; exact absurd c55 (by decide)))]; exact cEnd.rf hc⟩ | exact ⟨by unfold aRow; rw [if_neg (fun q => absurd q.2.2.1 (of_decide_eq_false c60))] <;> rfl, by unfold aRow; rw [if_neg (fun q => absurd q.2.2.1 (of_decide_eq_false c60))]; exact cEnd.rf hc⟩ | exact ⟨by unfold aRow; rw [if_neg (fun q => absurd q.2.2.2 (by rw [c70]; decide))] <;> rfl, by unfold aRow; rw [if_neg (fun q => absurd q.2.2.2 (by rw [c70]; decide))]; exact cEnd.rf hc⟩ | exact aRow_1 hv hm hc hcm hz c50 c55a c55b c60a c70 c93a hG | exact aRow_2 hc hz c50 c55a c55b c60a c70 (of_decide_eq_false c93) hG
        · refine go_iconst (-1) (by decide) dF_row_73 ?_
          refine go_ireturn rfl dF_row_74 ?_
          first | exact ⟨by unfold aRow; rw [if_neg (fun q => absurd q.1 (by rw [c50]; decide))] <;> rfl, by unfold aRow; rw [if_neg (fun q => absurd q.1 (by rw [c50]; decide))]; exact cEnd.rf hc⟩ | exact ⟨by unfold aRow; rw [if_neg (fun q => absurd q.2.1 (fun q9 => by rw [q9.1, q9.2] at c55; exact absurd c55 (by decide)))] <;> rfl, by unfold aRow; rw [if_neg (fun q => absurd q.2.1 (fun q9 => by rw [q9.1, q9.2] at c55; exact absurd c55 (by decide)))]; exact cEnd.rf hc⟩ | exact ⟨by unfold aRow; rw [if_neg (fun q => absurd q.2.2.1 (of_decide_eq_false c60))] <;> rfl, by unfold aRow; rw [if_neg (fun q => absurd q.2.2.1 (of_decide_eq_false c60))]; exact cEnd.rf hc⟩ | exact ⟨by unfold aRow; rw [if_neg (fun q => absurd q.2.2.2 (by rw [c70]; decide))] <;> rfl, by unfold aRow; rw [if_neg (fun q => absurd q.2.2.2 (by rw [c70]; decide))]; exact cEnd.rf hc⟩ | exact aRow_1 hv hm hc hcm hz c50 c55a c55b c60a c70 c93a hG | exact aRow_2 hc hz c50 c55a c55b c60a c70 (of_decide_eq_false c93) hG
theorem k4 {P : Int32 → Prop} {x : Int32} (h : bel x 4 = true) (h0 : P (nI 0)) (h1 : P (nI 1)) (h2 : P (nI 2)) (h3 : P (nI 3)) : P x := by
  obtain ⟨k, hk, rfl⟩ := bel_of h (by decide)
  rcases (show k = 0 ∨ k = 1 ∨ k = 2 ∨ k = 3 by omega) with rfl | rfl | rfl | rfl <;> assumption
def fact4 (n r g : Nat) (c : Bool) (x : Int32) : Int32 := if x = nI 0 then nI n else if x = nI 1 then nI r else if x = nI 2 then nI g else am_b c
theorem okE_fact (w : am_W) {d : Nat} (G : am_G) (h : Nat) (M : mT) (x : Int32) (hx : bel x 4 = true) (hc : cM G h M) (hM : isM G h) : am_Ok w jE_fact d (0, 0) [.inr (some h), .inl x] G (fun r G' => r = some (.inl (fact4 (mN M) (mR M) (mG M) (mL M) x)) ∧ G' = G) := by
  refine k4 (P := fun x => am_Ok w jE_fact d (0, 0) [.inr (some h), .inl x] G (fun r G' => r = some (.inl (fact4 (mN M) (mR M) (mG M) (mL M) x)) ∧ G' = G)) hx ?_ ?_ ?_ ?_
  · exact (okE_fact0 w G h (mL M) hc.1.2.2.2 hM).post (fun r G' q => ⟨by rw [q.1, hc.1.1]; rfl, q.2⟩)
  · exact (okE_fact1 w G h (mL M) hc.1.2.2.2 hM).post (fun r G' q => ⟨by rw [q.1, hc.1.2.1]; rfl, q.2⟩)
  · exact (okE_fact2 w G h (mL M) hc.1.2.2.2 hM).post (fun r G' q => ⟨by rw [q.1, hc.1.2.2.1]; rfl, q.2⟩)
  · exact (okE_fact3 w G h (mL M) hc.1.2.2.2 hM).post (fun r G' q => ⟨by rw [q.1]; rfl, q.2⟩)
def part4 (f t a y : Nat) (x : Int32) : Int32 := if x = nI 0 then nI f else if x = nI 1 then nI t else if x = nI 2 then nI a else nI y
theorem okE_rowPart (w : am_W) {d : Nat} (G : am_G) (h i : Nat) (M : mT) (x : Int32) (hx : bel x 4 = true) (hi : i < mR M) (h8 : mR M ≤ 8) (hc : cM G h M) (hM : isM G h) : am_Ok w jE_rowPart d (0, 0) [.inr (some h), .inl (nI i), .inl x] G (fun r G' => r = some (.inl (part4 (mF M i) (mE M i) (mP M i) (mY M i) x)) ∧ G' = G) := by
  obtain ⟨q1, q2, q3, q4⟩ := hc.2.2 i hi
  refine k4 (P := fun x => am_Ok w jE_rowPart d (0, 0) [.inr (some h), .inl (nI i), .inl x] G (fun r G' => r = some (.inl (part4 (mF M i) (mE M i) (mP M i) (mY M i) x)) ∧ G' = G)) hx ?_ ?_ ?_ ?_
  · exact (okE_rowPart0 w G h i (by omega) hM).post (fun r G' q => ⟨by rw [q.1, q1]; rfl, q.2⟩)
  · exact (okE_rowPart1 w G h i (by omega) hM).post (fun r G' q => ⟨by rw [q.1, q2]; rfl, q.2⟩)
  · exact (okE_rowPart2 w G h i (by omega) hM).post (fun r G' q => ⟨by rw [q.1, q3]; rfl, q.2⟩)
  · exact (okE_rowPart3 w G h i (by omega) hM).post (fun r G' q => ⟨by rw [q.1, q4]; rfl, q.2⟩)
set_option maxRecDepth 100000 in
theorem okF_table (w : am_W) {d : Nat} (hd : 3 ≤ d) (G : am_G) (s : sT) (x z k : Int32) (hS : St0 G) (hc : cS G s) (hv : sV s) : am_Ok w jF_table d (0, 0) [.inr (some 0), .inl x, .inl z, .inl k] G (fun r G' => r = some (.inl (aTable s x z k)) ∧ G' = G) := by
  refine am_ok_of rfl (Nat.le_of_ble_eq_true rfl) ?_
  show am_Go w jF_table d (0, 0) 0 [some (.inr (some 0)), some (.inl x), some (.inl z), some (.inl k), none] [] G _
  have q6 : G.1[0]? = some (0, 0) := hS.s rfl
  refine go_iload_n dF_table_0 rfl rfl ?_
  refine go_bipush (nI 6) (by decide) dF_table_1 ?_
  refine go_cS (k' := (0, 0)) dF_table_3 _ csF_51 stF_isBelow rfl (okF_below (d := 0) w G x 6 (by decide)) (by omega) (by decide) (Nat.le_of_ble_eq_true rfl) (fun r G1 hr hn => ?_)
  obtain ⟨rfl, hG⟩ := hr
  rw [hG]
  clear hG hn
  refine go_if_eqB dF_table_6 (tgt := 17) (by decide) (fun c6 => ?_) (fun c6 => ?_)
  · refine go_iconst (-1) (by decide) dF_table_17 ?_
    refine go_ireturn rfl dF_table_18 ?_
    first | exact ⟨by unfold aTable; rw [if_neg (fun q => absurd q.1 (by rw [c6]; decide))], rfl⟩ | exact ⟨by unfold aTable; rw [if_neg (fun q => absurd q.2 (by rw [c14]; decide))], rfl⟩ | exact ⟨by unfold aTable; rw [if_pos ⟨c6, c14⟩, hz, if_pos c28]; rfl, rfl⟩ | exact ⟨by unfold aTable; rw [if_pos ⟨c6, c14⟩, hz, if_neg c28, if_neg (fun q => absurd q (by rw [c47]; decide))], rfl⟩ | exact ⟨by unfold aTable; rw [if_pos ⟨c6, c14⟩, hz, if_neg c28, if_pos c47, hz2]; rfl, rfl⟩
  · refine go_iload_n dF_table_9 rfl rfl ?_
    refine go_iconst (nI 4) (by decide) dF_table_10 ?_
    refine go_cS (k' := (0, 0)) dF_table_11 _ csF_51 stF_isBelow rfl (okF_below (d := 0) w G k 4 (by decide)) (by omega) (by decide) (Nat.le_of_ble_eq_true rfl) (fun r G1 hr hn => ?_)
    obtain ⟨rfl, hG⟩ := hr
    rw [hG]
    clear hG hn
    refine go_if_neB dF_table_14 (tgt := 19) (by decide) (fun c14 => ?_) (fun c14 => ?_)
    · obtain ⟨m, hm, rfl⟩ := bel_of c6 (by decide)
      have hm1 := hS.m (mo_l s.1 hv.1 m hm)
      have hs1 := hm1.1
      have hcm := hc.2.1 s.1 hv.1 m hm
      have hmv := hv.2.1 (6 * s.1 + m) (by have := hv.1; omega)
      obtain ⟨M, hMe⟩ : ∃ M, M = s.2.1 (6 * s.1 + m) := ⟨_, rfl⟩
      rw [← hMe] at hcm hmv
      have hz : zM s (nI m).toNatClampNeg = M := by rw [nI_clamp (by omega), hMe]; rfl
      have hN := hcm.1.1
      have hR := hcm.1.2.1
      have hN6 := hmv.1
      have hR8 := hmv.2.1
      refine go_aload_n dF_table_19 rfl rfl ?_
      refine go_iload_n dF_table_20 rfl rfl ?_
      refine go_cV (k' := (0, 0)) dF_table_21 _ csF_63 (by assumption) rfl imF_writtenMethod seF_writtenMethod rfl (okF_writtenMethod (d := 0) w G s.1 m hv.1 hm hc.1 hS) (by omega) (by decide) (Nat.le_of_ble_eq_true rfl) (fun r G1 hr hn => ?_)
      obtain ⟨rfl, hG⟩ := hr
      rw [hG]
      clear hG hn
      refine go_astore dF_table_24 (Nat.le_of_ble_eq_true rfl) ?_
      refine go_iload_n dF_table_26 rfl rfl ?_
      refine go_iconst (-1) (by decide) dF_table_27 ?_
      refine go_icmp_ne dF_table_28 (tgt := 38) (by decide) (fun c28 => ?_) (fun c28 => ?_)
      · refine go_iload_n dF_table_38 rfl rfl ?_
        refine go_aload dF_table_39 rfl ?_
        refine go_getV dF_table_41 flF_88 rfl (by assumption) (by first | assumption | (simp (disch := omega) only [wi_I, ro_I, wi_In, wi_Is]; done) | (simp (disch := omega) only [wi_I, ro_I, wi_In, wi_Is]; first | assumption | rfl) | rfl) ?_
        refine go_cS (k' := (0, 0)) dF_table_44 _ csF_51 stF_isBelow rfl (okF_below (d := 0) w G z (mR M) (by omega)) (by omega) (by decide) (Nat.le_of_ble_eq_true rfl) (fun r G1 hr hn => ?_)
        obtain ⟨rfl, hG⟩ := hr
        rw [hG]
        clear hG hn
        refine go_if_eqB dF_table_47 (tgt := 60) (by decide) (fun c47 => ?_) (fun c47 => ?_)
        · refine go_bipush (-2) (by decide) dF_table_60 ?_
          refine go_ireturn rfl dF_table_62 ?_
          first | exact ⟨by unfold aTable; rw [if_neg (fun q => absurd q.1 (by rw [c6]; decide))], rfl⟩ | exact ⟨by unfold aTable; rw [if_neg (fun q => absurd q.2 (by rw [c14]; decide))], rfl⟩ | exact ⟨by unfold aTable; rw [if_pos ⟨c6, c14⟩, hz, if_pos c28]; rfl, rfl⟩ | exact ⟨by unfold aTable; rw [if_pos ⟨c6, c14⟩, hz, if_neg c28, if_neg (fun q => absurd q (by rw [c47]; decide))], rfl⟩ | exact ⟨by unfold aTable; rw [if_pos ⟨c6, c14⟩, hz, if_neg c28, if_pos c47, hz2]; rfl, rfl⟩
        · obtain ⟨i, hi, rfl⟩ := bel_of c47 (by omega)
          have hz2 : (nI i).toNatClampNeg = i := nI_clamp (by omega)
          refine go_aload dF_table_50 rfl ?_
          refine go_iload_n dF_table_52 rfl rfl ?_
          refine go_iload_n dF_table_53 rfl rfl ?_
          refine go_cV (k' := (0, 0)) dF_table_54 _ csF_193 (by assumption) rfl imE_rowPart seE_rowPart rfl (okE_rowPart (d := 0) w G (mo s.1 m) i M k c14 hi hR8 hcm hm1) (by omega) (by decide) (Nat.le_of_ble_eq_true rfl) (fun r G1 hr hn => ?_)
          obtain ⟨rfl, hG⟩ := hr
          rw [hG]
          clear hG hn
          refine go_goto dF_table_57 (tgt := 62) (by decide) ?_
          refine go_ireturn rfl dF_table_62 ?_
          first | exact ⟨by unfold aTable; rw [if_neg (fun q => absurd q.1 (by rw [c6]; decide))], rfl⟩ | exact ⟨by unfold aTable; rw [if_neg (fun q => absurd q.2 (by rw [c14]; decide))], rfl⟩ | exact ⟨by unfold aTable; rw [if_pos ⟨c6, c14⟩, hz, if_pos c28]; rfl, rfl⟩ | exact ⟨by unfold aTable; rw [if_pos ⟨c6, c14⟩, hz, if_neg c28, if_neg (fun q => absurd q (by rw [c47]; decide))], rfl⟩ | exact ⟨by unfold aTable; rw [if_pos ⟨c6, c14⟩, hz, if_neg c28, if_pos c47, hz2]; rfl, rfl⟩
      · refine go_aload dF_table_31 rfl ?_
        refine go_iload_n dF_table_33 rfl rfl ?_
        refine go_cV (k' := (0, 0)) dF_table_34 _ csF_189 (by assumption) rfl imE_fact seE_fact rfl (okE_fact (d := 0) w G (mo s.1 m) M k c14 hcm hm1) (by omega) (by decide) (Nat.le_of_ble_eq_true rfl) (fun r G1 hr hn => ?_)
        obtain ⟨rfl, hG⟩ := hr
        rw [hG]
        clear hG hn
        refine go_ireturn rfl dF_table_37 ?_
        first | exact ⟨by unfold aTable; rw [if_neg (fun q => absurd q.1 (by rw [c6]; decide))], rfl⟩ | exact ⟨by unfold aTable; rw [if_neg (fun q => absurd q.2 (by rw [c14]; decide))], rfl⟩ | exact ⟨by unfold aTable; rw [if_pos ⟨c6, c14⟩, hz, if_pos c28]; rfl, rfl⟩ | exact ⟨by unfold aTable; rw [if_pos ⟨c6, c14⟩, hz, if_neg c28, if_neg (fun q => absurd q (by rw [c47]; decide))], rfl⟩ | exact ⟨by unfold aTable; rw [if_pos ⟨c6, c14⟩, hz, if_neg c28, if_pos c47, hz2]; rfl, rfl⟩
    · refine go_iconst (-1) (by decide) dF_table_17 ?_
      refine go_ireturn rfl dF_table_18 ?_
      first | exact ⟨by unfold aTable; rw [if_neg (fun q => absurd q.1 (by rw [c6]; decide))], rfl⟩ | exact ⟨by unfold aTable; rw [if_neg (fun q => absurd q.2 (by rw [c14]; decide))], rfl⟩ | exact ⟨by unfold aTable; rw [if_pos ⟨c6, c14⟩, hz, if_pos c28]; rfl, rfl⟩ | exact ⟨by unfold aTable; rw [if_pos ⟨c6, c14⟩, hz, if_neg c28, if_neg (fun q => absurd q (by rw [c47]; decide))], rfl⟩ | exact ⟨by unfold aTable; rw [if_pos ⟨c6, c14⟩, hz, if_neg c28, if_pos c47, hz2]; rfl, rfl⟩
