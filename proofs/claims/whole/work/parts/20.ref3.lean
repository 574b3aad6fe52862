theorem t_of {f : Nat} {t : Int32} (hf : f < 60) (h : nI f < t ∧ t ≤ nI 60) : ∃ t' : Nat, t' ≤ 60 ∧ t = nI t' := by
  have q : ¬ t < 0 := i_nlt.mpr (by
    have q1 := Int32.lt_iff_toInt_lt.mp h.1
    rw [nI_toInt (by omega)] at q1
    rw [Int32.le_iff_toInt_le, Int32.toInt_zero]; omega)
  exact nI_of2 (M := nI 60) (n := 60) rfl q h.2
set_option maxRecDepth 100000 in
theorem okR_row (w : am_W) {d : Nat} (hd : 3 ≤ d) (G : am_G) (s : sT) (x f0 t a y : Int32) (hS : St0 G) (hc : rS G s) (hv : sV s) : am_Ok w jR_row d (0, 0) [.inr (some 163), .inl x, .inl f0, .inl t, .inl a, .inl y] G (fun r G' => r = some (.inl (aRow s x f0 t a y).1) ∧ rEnd G G' (aRow s x f0 t a y).2) := by
  refine am_ok_of rfl (Nat.le_of_ble_eq_true rfl) ?_
  show am_Go w jR_row d (0, 0) 0 [some (.inr (some 163)), some (.inl x), some (.inl f0), some (.inl t), some (.inl a), some (.inl y), none] [] G _
  refine go_iload_n dR_row_0 rfl rfl ?_
  refine go_iconst (nI 0) (by decide) dR_row_1 ?_
  refine go_iconst (nI 5) (by decide) dR_row_2 ?_
  refine go_cS (k' := (0, 0)) dR_row_3 _ csR_123 stR_in rfl (okR_in0 (d := 0) w G x 5 (by decide)) (by omega) (by decide) (Nat.le_of_ble_eq_true rfl) (fun r G1 hr hn => ?_)
  obtain ⟨rfl, hG⟩ := hr
  rw [hG]
  clear hG hn
  refine go_if_eqB dR_row_6 (tgt := 53) (by decide) (fun c6 => ?_) (fun c6 => ?_)
  · refine go_iconst (-1) (by decide) dR_row_53 ?_
    refine go_ireturn rfl dR_row_54 ?_
    first | exact ⟨by unfold aRow; rw [if_neg (fun q => absurd q.1 (by rw [c6]; decide))] <;> rfl, by unfold aRow; rw [if_neg (fun q => absurd q.1 (by rw [c6]; decide))]; exact rEnd.rf hc⟩ | exact ⟨by unfold aRow; rw [if_neg (fun q => absurd q.2.1.1 (by rw [c16]; decide))] <;> rfl, by unfold aRow; rw [if_neg (fun q => absurd q.2.1.1 (by rw [c16]; decide))]; exact rEnd.rf hc⟩ | exact ⟨by unfold aRow; rw [if_neg (fun q => absurd q.2.1.2 (by rw [c27]; decide))] <;> rfl, by unfold aRow; rw [if_neg (fun q => absurd q.2.1.2 (by rw [c27]; decide))]; exact rEnd.rf hc⟩ | exact ⟨by unfold aRow; rw [if_neg (fun q => absurd q.2.2.1 (of_decide_eq_false c39))] <;> rfl, by unfold aRow; rw [if_neg (fun q => absurd q.2.2.1 (of_decide_eq_false c39))]; exact rEnd.rf hc⟩ | exact ⟨by unfold aRow; rw [if_neg (fun q => absurd q.2.2.2 (by rw [c50]; decide))] <;> rfl, by unfold aRow; rw [if_neg (fun q => absurd q.2.2.2 (by rw [c50]; decide))]; exact rEnd.rf hc⟩ | exact ⟨by unfold aRow; rw [if_pos ⟨c6, ⟨c16, c27⟩, c39a, c50⟩, hz, if_neg (by omega)], by unfold aRow; rw [if_pos ⟨c6, ⟨c16, c27⟩, c39a, c50⟩, hz, if_neg (by omega)]; exact rEnd.rf hc⟩ | exact ⟨by unfold aRow; rw [if_pos ⟨c6, ⟨c16, c27⟩, c39a, c50⟩, hz, if_pos (by omega)], by unfold aRow; rw [if_pos ⟨c6, ⟨c16, c27⟩, c39a, c50⟩, hz, if_pos (by omega), nI_clamp (by omega), nI_clamp (by omega), nI_clamp (by omega), nI_clamp (by omega), nI_clamp (by omega)]; exact rEnd.put hv hc ((R_rowF_o (by omega)).tr (oQ.wi (by omega) (Or.inr (Or.inr ⟨by omega, rfl⟩)))) hcm.row⟩
  · refine go_iload_n dR_row_9 rfl rfl ?_
    refine go_iconst (nI 0) (by decide) dR_row_10 ?_
    refine go_bipush (nI 59) (by decide) dR_row_11 ?_
    refine go_cS (k' := (0, 0)) dR_row_13 _ csR_123 stR_in rfl (okR_in0 (d := 0) w G f0 59 (by decide)) (by omega) (by decide) (Nat.le_of_ble_eq_true rfl) (fun r G1 hr hn => ?_)
    obtain ⟨rfl, hG⟩ := hr
    rw [hG]
    clear hG hn
    refine go_if_eqB dR_row_16 (tgt := 53) (by decide) (fun c16 => ?_) (fun c16 => ?_)
    · refine go_iconst (-1) (by decide) dR_row_53 ?_
      refine go_ireturn rfl dR_row_54 ?_
      first | exact ⟨by unfold aRow; rw [if_neg (fun q => absurd q.1 (by rw [c6]; decide))] <;> rfl, by unfold aRow; rw [if_neg (fun q => absurd q.1 (by rw [c6]; decide))]; exact rEnd.rf hc⟩ | exact ⟨by unfold aRow; rw [if_neg (fun q => absurd q.2.1.1 (by rw [c16]; decide))] <;> rfl, by unfold aRow; rw [if_neg (fun q => absurd q.2.1.1 (by rw [c16]; decide))]; exact rEnd.rf hc⟩ | exact ⟨by unfold aRow; rw [if_neg (fun q => absurd q.2.1.2 (by rw [c27]; decide))] <;> rfl, by unfold aRow; rw [if_neg (fun q => absurd q.2.1.2 (by rw [c27]; decide))]; exact rEnd.rf hc⟩ | exact ⟨by unfold aRow; rw [if_neg (fun q => absurd q.2.2.1 (of_decide_eq_false c39))] <;> rfl, by unfold aRow; rw [if_neg (fun q => absurd q.2.2.1 (of_decide_eq_false c39))]; exact rEnd.rf hc⟩ | exact ⟨by unfold aRow; rw [if_neg (fun q => absurd q.2.2.2 (by rw [c50]; decide))] <;> rfl, by unfold aRow; rw [if_neg (fun q => absurd q.2.2.2 (by rw [c50]; decide))]; exact rEnd.rf hc⟩ | exact ⟨by unfold aRow; rw [if_pos ⟨c6, ⟨c16, c27⟩, c39a, c50⟩, hz, if_neg (by omega)], by unfold aRow; rw [if_pos ⟨c6, ⟨c16, c27⟩, c39a, c50⟩, hz, if_neg (by omega)]; exact rEnd.rf hc⟩ | exact ⟨by unfold aRow; rw [if_pos ⟨c6, ⟨c16, c27⟩, c39a, c50⟩, hz, if_pos (by omega)], by unfold aRow; rw [if_pos ⟨c6, ⟨c16, c27⟩, c39a, c50⟩, hz, if_pos (by omega), nI_clamp (by omega), nI_clamp (by omega), nI_clamp (by omega), nI_clamp (by omega), nI_clamp (by omega)]; exact rEnd.put hv hc ((R_rowF_o (by omega)).tr (oQ.wi (by omega) (Or.inr (Or.inr ⟨by omega, rfl⟩)))) hcm.row⟩
    · refine go_iload dR_row_19 rfl ?_
      refine go_iconst (nI 0) (by decide) dR_row_21 ?_
      refine go_bipush (nI 59) (by decide) dR_row_22 ?_
      refine go_cS (k' := (0, 0)) dR_row_24 _ csR_123 stR_in rfl (okR_in0 (d := 0) w G a 59 (by decide)) (by omega) (by decide) (Nat.le_of_ble_eq_true rfl) (fun r G1 hr hn => ?_)
      obtain ⟨rfl, hG⟩ := hr
      rw [hG]
      clear hG hn
      refine go_if_eqB dR_row_27 (tgt := 53) (by decide) (fun c27 => ?_) (fun c27 => ?_)
      · refine go_iconst (-1) (by decide) dR_row_53 ?_
        refine go_ireturn rfl dR_row_54 ?_
        first | exact ⟨by unfold aRow; rw [if_neg (fun q => absurd q.1 (by rw [c6]; decide))] <;> rfl, by unfold aRow; rw [if_neg (fun q => absurd q.1 (by rw [c6]; decide))]; exact rEnd.rf hc⟩ | exact ⟨by unfold aRow; rw [if_neg (fun q => absurd q.2.1.1 (by rw [c16]; decide))] <;> rfl, by unfold aRow; rw [if_neg (fun q => absurd q.2.1.1 (by rw [c16]; decide))]; exact rEnd.rf hc⟩ | exact ⟨by unfold aRow; rw [if_neg (fun q => absurd q.2.1.2 (by rw [c27]; decide))] <;> rfl, by unfold aRow; rw [if_neg (fun q => absurd q.2.1.2 (by rw [c27]; decide))]; exact rEnd.rf hc⟩ | exact ⟨by unfold aRow; rw [if_neg (fun q => absurd q.2.2.1 (of_decide_eq_false c39))] <;> rfl, by unfold aRow; rw [if_neg (fun q => absurd q.2.2.1 (of_decide_eq_false c39))]; exact rEnd.rf hc⟩ | exact ⟨by unfold aRow; rw [if_neg (fun q => absurd q.2.2.2 (by rw [c50]; decide))] <;> rfl, by unfold aRow; rw [if_neg (fun q => absurd q.2.2.2 (by rw [c50]; decide))]; exact rEnd.rf hc⟩ | exact ⟨by unfold aRow; rw [if_pos ⟨c6, ⟨c16, c27⟩, c39a, c50⟩, hz, if_neg (by omega)], by unfold aRow; rw [if_pos ⟨c6, ⟨c16, c27⟩, c39a, c50⟩, hz, if_neg (by omega)]; exact rEnd.rf hc⟩ | exact ⟨by unfold aRow; rw [if_pos ⟨c6, ⟨c16, c27⟩, c39a, c50⟩, hz, if_pos (by omega)], by unfold aRow; rw [if_pos ⟨c6, ⟨c16, c27⟩, c39a, c50⟩, hz, if_pos (by omega), nI_clamp (by omega), nI_clamp (by omega), nI_clamp (by omega), nI_clamp (by omega), nI_clamp (by omega)]; exact rEnd.put hv hc ((R_rowF_o (by omega)).tr (oQ.wi (by omega) (Or.inr (Or.inr ⟨by omega, rfl⟩)))) hcm.row⟩
      · obtain ⟨f, hf, rfl⟩ := bel_of c16 (by decide)
        refine go_iload_n dR_row_30 rfl rfl ?_
        refine go_iload_n dR_row_31 rfl rfl ?_
        refine go_iconst (nI 1) (by decide) dR_row_32 ?_
        first | refine go_iaddN dR_row_33 ?_ | refine go_iadd dR_row_33 ?_
        refine go_bipush (nI 60) (by decide) dR_row_34 ?_
        refine go_cS (k' := (0, 0)) dR_row_36 _ csR_123 stR_in rfl (okR_in (d := 0) w G t (nI (f + 1)) (nI 60)) (by omega) (by decide) (Nat.le_of_ble_eq_true rfl) (fun r G1 hr hn => ?_)
        obtain ⟨rfl, hG⟩ := hr
        rw [hG]
        clear hG hn
        rw [row_in hf]
        refine go_if_eqB dR_row_39 (tgt := 53) (by decide) (fun c39 => ?_) (fun c39 => ?_)
        · refine go_iconst (-1) (by decide) dR_row_53 ?_
          refine go_ireturn rfl dR_row_54 ?_
          first | exact ⟨by unfold aRow; rw [if_neg (fun q => absurd q.1 (by rw [c6]; decide))] <;> rfl, by unfold aRow; rw [if_neg (fun q => absurd q.1 (by rw [c6]; decide))]; exact rEnd.rf hc⟩ | exact ⟨by unfold aRow; rw [if_neg (fun q => absurd q.2.1.1 (by rw [c16]; decide))] <;> rfl, by unfold aRow; rw [if_neg (fun q => absurd q.2.1.1 (by rw [c16]; decide))]; exact rEnd.rf hc⟩ | exact ⟨by unfold aRow; rw [if_neg (fun q => absurd q.2.1.2 (by rw [c27]; decide))] <;> rfl, by unfold aRow; rw [if_neg (fun q => absurd q.2.1.2 (by rw [c27]; decide))]; exact rEnd.rf hc⟩ | exact ⟨by unfold aRow; rw [if_neg (fun q => absurd q.2.2.1 (of_decide_eq_false c39))] <;> rfl, by unfold aRow; rw [if_neg (fun q => absurd q.2.2.1 (of_decide_eq_false c39))]; exact rEnd.rf hc⟩ | exact ⟨by unfold aRow; rw [if_neg (fun q => absurd q.2.2.2 (by rw [c50]; decide))] <;> rfl, by unfold aRow; rw [if_neg (fun q => absurd q.2.2.2 (by rw [c50]; decide))]; exact rEnd.rf hc⟩ | exact ⟨by unfold aRow; rw [if_pos ⟨c6, ⟨c16, c27⟩, c39a, c50⟩, hz, if_neg (by omega)], by unfold aRow; rw [if_pos ⟨c6, ⟨c16, c27⟩, c39a, c50⟩, hz, if_neg (by omega)]; exact rEnd.rf hc⟩ | exact ⟨by unfold aRow; rw [if_pos ⟨c6, ⟨c16, c27⟩, c39a, c50⟩, hz, if_pos (by omega)], by unfold aRow; rw [if_pos ⟨c6, ⟨c16, c27⟩, c39a, c50⟩, hz, if_pos (by omega), nI_clamp (by omega), nI_clamp (by omega), nI_clamp (by omega), nI_clamp (by omega), nI_clamp (by omega)]; exact rEnd.put hv hc ((R_rowF_o (by omega)).tr (oQ.wi (by omega) (Or.inr (Or.inr ⟨by omega, rfl⟩)))) hcm.row⟩
        · refine go_iload dR_row_42 rfl ?_
          refine go_iconst (nI 0) (by decide) dR_row_44 ?_
          refine go_bipush (nI 7) (by decide) dR_row_45 ?_
          refine go_cS (k' := (0, 0)) dR_row_47 _ csR_123 stR_in rfl (okR_in0 (d := 0) w G y 7 (by decide)) (by omega) (by decide) (Nat.le_of_ble_eq_true rfl) (fun r G1 hr hn => ?_)
          obtain ⟨rfl, hG⟩ := hr
          rw [hG]
          clear hG hn
          refine go_if_neB dR_row_50 (tgt := 55) (by decide) (fun c50 => ?_) (fun c50 => ?_)
          · obtain ⟨m, hm, rfl⟩ := bel_of c6 (by decide)
            have hv1 := hv.1
            have hcm := hc.2.1 (6 * s.1 + m) (by omega)
            have hmv := hv.2.1 (6 * s.1 + m) (by omega)
            have hw := hc.1
            obtain ⟨M, hMe⟩ : ∃ M, M = s.2.1 (6 * s.1 + m) := ⟨_, rfl⟩
            rw [← hMe] at hcm hmv
            have hz : zM s (nI m).toNatClampNeg = M := by rw [nI_clamp (by omega), hMe]; rfl
            obtain ⟨hN, hR, hA, hL⟩ := hcm.1
            have hN6 := hmv.1
            have hR8 := hmv.2.1
            obtain ⟨a, ha, rfl⟩ := bel_of c27 (by decide)
            obtain ⟨y, hy, rfl⟩ := bel_of c50 (by decide)
            have c39a := of_decide_eq_true c39
            obtain ⟨t, ht, rfl⟩ := t_of hf c39a
            refine go_aload_n dR_row_55 rfl rfl ?_
            refine go_iload_n dR_row_56 rfl rfl ?_
            refine go_cV (k' := (0, 0)) dR_row_57 _ csR_135 (hS.s sh_163) rfl imR_own seR_own rfl (okR_own (d := 0) w G s.1 m hw hS) (by omega) (by decide) (Nat.le_of_ble_eq_true rfl) (fun r G1 hr hn => ?_)
            obtain ⟨rfl, hG⟩ := hr
            rw [hG]
            clear hG hn
            refine go_istore dR_row_60 (Nat.le_of_ble_eq_true rfl) ?_
            refine go_aload_n dR_row_62 rfl rfl ?_
            refine go_getO (a := 169) dR_row_63 flR_25 rfl (hS.s sh_163) (hS.r rt_rows) ?_
            refine go_iload dR_row_66 rfl ?_
            first | refine go_ialV (hS.s sh_169) (by omega) (by decide) (by assumption) dR_row_68 ?_ | refine go_ialoadN (hS.s sh_169) (by omega) (by decide) dR_row_68 ?_
            refine go_bipush (nI 8) (by decide) dR_row_69 ?_
            refine go_icmp_neN (by omega) (by omega) dR_row_71 (tgt := 77) (by decide) (fun c71 => ?_) (fun c71 => ?_)
            · refine go_aload_n dR_row_77 rfl rfl ?_
              refine go_iload dR_row_78 rfl ?_
              refine go_aload_n dR_row_80 rfl rfl ?_
              refine go_getO (a := 169) dR_row_81 flR_25 rfl (hS.s sh_163) (hS.r rt_rows) ?_
              refine go_iload dR_row_84 rfl ?_
              first | refine go_ialV (hS.s sh_169) (by omega) (by decide) (by assumption) dR_row_86 ?_ | refine go_ialoadN (hS.s sh_169) (by omega) (by decide) dR_row_86 ?_
              refine go_iload_n dR_row_87 rfl rfl ?_
              refine go_iload_n dR_row_88 rfl rfl ?_
              refine go_iload dR_row_89 rfl ?_
              refine go_iload dR_row_91 rfl ?_
              refine go_cV (k' := (0, 0)) dR_row_93 _ csR_131 (hS.s sh_163) rfl imR_setRow seR_setRow rfl (okR_setRow (d := 0) w G (6 * s.1 + m) (mR M) (nI f) (nI t) (nI a) (nI y) (by omega) (by omega) hS) (by omega) (by decide) (Nat.le_of_ble_eq_true rfl) (fun r G1 hr hn => ?_)
              obtain ⟨rfl, hG⟩ := hr
              rw [hG]
              clear hn hG
              have hR1 : (R_rowF G (6 * s.1 + m) (mR M) (nI f) (nI t) (nI a) (nI y)).2.1 169 (6 * s.1 + m) = nI (mR M) := by unfold R_rowF; rw [wi_I (by decide), wi_I (by decide), wi_I (by decide), wi_I (by decide)]; exact hR
              refine go_aload_n dR_row_96 rfl rfl ?_
              refine go_getO (a := 169) dR_row_97 flR_25 rfl (hS.s sh_163) (hS.r rt_rows) ?_
              refine go_iload dR_row_100 rfl ?_
              refine go_dup2 dR_row_102 ?_
              first | refine go_ialV (hS.s sh_169) (by omega) (by decide) (by assumption) dR_row_103 ?_ | refine go_ialoadN (hS.s sh_169) (by omega) (by decide) dR_row_103 ?_
              refine go_iconst (nI 1) (by decide) dR_row_104 ?_
              first | refine go_iaddN dR_row_105 ?_ | refine go_iadd dR_row_105 ?_
              refine go_iastoreN (hS.s sh_169) (by omega) (by decide) dR_row_106 ?_
              refine go_aload_n dR_row_107 rfl rfl ?_
              refine go_getO (a := 169) dR_row_108 flR_25 rfl (hS.s sh_163) (hS.r rt_rows) ?_
              refine go_iload dR_row_111 rfl ?_
              refine go_ialV (hS.s sh_169) (by omega) (by decide) wi_Is dR_row_113 ?_
              refine go_ireturn rfl dR_row_114 ?_
              first | exact ⟨by unfold aRow; rw [if_neg (fun q => absurd q.1 (by rw [c6]; decide))] <;> rfl, by unfold aRow; rw [if_neg (fun q => absurd q.1 (by rw [c6]; decide))]; exact rEnd.rf hc⟩ | exact ⟨by unfold aRow; rw [if_neg (fun q => absurd q.2.1.1 (by rw [c16]; decide))] <;> rfl, by unfold aRow; rw [if_neg (fun q => absurd q.2.1.1 (by rw [c16]; decide))]; exact rEnd.rf hc⟩ | exact ⟨by unfold aRow; rw [if_neg (fun q => absurd q.2.1.2 (by rw [c27]; decide))] <;> rfl, by unfold aRow; rw [if_neg (fun q => absurd q.2.1.2 (by rw [c27]; decide))]; exact rEnd.rf hc⟩ | exact ⟨by unfold aRow; rw [if_neg (fun q => absurd q.2.2.1 (of_decide_eq_false c39))] <;> rfl, by unfold aRow; rw [if_neg (fun q => absurd q.2.2.1 (of_decide_eq_false c39))]; exact rEnd.rf hc⟩ | exact ⟨by unfold aRow; rw [if_neg (fun q => absurd q.2.2.2 (by rw [c50]; decide))] <;> rfl, by unfold aRow; rw [if_neg (fun q => absurd q.2.2.2 (by rw [c50]; decide))]; exact rEnd.rf hc⟩ | exact ⟨by unfold aRow; rw [if_pos ⟨c6, ⟨c16, c27⟩, c39a, c50⟩, hz, if_neg (by omega)], by unfold aRow; rw [if_pos ⟨c6, ⟨c16, c27⟩, c39a, c50⟩, hz, if_neg (by omega)]; exact rEnd.rf hc⟩ | exact ⟨by unfold aRow; rw [if_pos ⟨c6, ⟨c16, c27⟩, c39a, c50⟩, hz, if_pos (by omega)], by unfold aRow; rw [if_pos ⟨c6, ⟨c16, c27⟩, c39a, c50⟩, hz, if_pos (by omega), nI_clamp (by omega), nI_clamp (by omega), nI_clamp (by omega), nI_clamp (by omega), nI_clamp (by omega)]; exact rEnd.put hv hc ((R_rowF_o (by omega)).tr (oQ.wi (by omega) (Or.inr (Or.inr ⟨by omega, rfl⟩)))) hcm.row⟩
            · refine go_bipush (-3) (by decide) dR_row_74 ?_
              refine go_ireturn rfl dR_row_76 ?_
              first | exact ⟨by unfold aRow; rw [if_neg (fun q => absurd q.1 (by rw [c6]; decide))] <;> rfl, by unfold aRow; rw [if_neg (fun q => absurd q.1 (by rw [c6]; decide))]; exact rEnd.rf hc⟩ | exact ⟨by unfold aRow; rw [if_neg (fun q => absurd q.2.1.1 (by rw [c16]; decide))] <;> rfl, by unfold aRow; rw [if_neg (fun q => absurd q.2.1.1 (by rw [c16]; decide))]; exact rEnd.rf hc⟩ | exact ⟨by unfold aRow; rw [if_neg (fun q => absurd q.2.1.2 (by rw [c27]; decide))] <;> rfl, by unfold aRow; rw [if_neg (fun q => absurd q.2.1.2 (by rw [c27]; decide))]; exact rEnd.rf hc⟩ | exact ⟨by unfold aRow; rw [if_neg (fun q => absurd q.2.2.1 (of_decide_eq_false c39))] <;> rfl, by unfold aRow; rw [if_neg (fun q => absurd q.2.2.1 (of_decide_eq_false c39))]; exact rEnd.rf hc⟩ | exact ⟨by unfold aRow; rw [if_neg (fun q => absurd q.2.2.2 (by rw [c50]; decide))] <;> rfl, by unfold aRow; rw [if_neg (fun q => absurd q.2.2.2 (by rw [c50]; decide))]; exact rEnd.rf hc⟩ | exact ⟨by unfold aRow; rw [if_pos ⟨c6, ⟨c16, c27⟩, c39a, c50⟩, hz, if_neg (by omega)], by unfold aRow; rw [if_pos ⟨c6, ⟨c16, c27⟩, c39a, c50⟩, hz, if_neg (by omega)]; exact rEnd.rf hc⟩ | exact ⟨by unfold aRow; rw [if_pos ⟨c6, ⟨c16, c27⟩, c39a, c50⟩, hz, if_pos (by omega)], by unfold aRow; rw [if_pos ⟨c6, ⟨c16, c27⟩, c39a, c50⟩, hz, if_pos (by omega), nI_clamp (by omega), nI_clamp (by omega), nI_clamp (by omega), nI_clamp (by omega), nI_clamp (by omega)]; exact rEnd.put hv hc ((R_rowF_o (by omega)).tr (oQ.wi (by omega) (Or.inr (Or.inr ⟨by omega, rfl⟩)))) hcm.row⟩
          · refine go_iconst (-1) (by decide) dR_row_53 ?_
            refine go_ireturn rfl dR_row_54 ?_
            first | exact ⟨by unfold aRow; rw [if_neg (fun q => absurd q.1 (by rw [c6]; decide))] <;> rfl, by unfold aRow; rw [if_neg (fun q => absurd q.1 (by rw [c6]; decide))]; exact rEnd.rf hc⟩ | exact ⟨by unfold aRow; rw [if_neg (fun q => absurd q.2.1.1 (by rw [c16]; decide))] <;> rfl, by unfold aRow; rw [if_neg (fun q => absurd q.2.1.1 (by rw [c16]; decide))]; exact rEnd.rf hc⟩ | exact ⟨by unfold aRow; rw [if_neg (fun q => absurd q.2.1.2 (by rw [c27]; decide))] <;> rfl, by unfold aRow; rw [if_neg (fun q => absurd q.2.1.2 (by rw [c27]; decide))]; exact rEnd.rf hc⟩ | exact ⟨by unfold aRow; rw [if_neg (fun q => absurd q.2.2.1 (of_decide_eq_false c39))] <;> rfl, by unfold aRow; rw [if_neg (fun q => absurd q.2.2.1 (of_decide_eq_false c39))]; exact rEnd.rf hc⟩ | exact ⟨by unfold aRow; rw [if_neg (fun q => absurd q.2.2.2 (by rw [c50]; decide))] <;> rfl, by unfold aRow; rw [if_neg (fun q => absurd q.2.2.2 (by rw [c50]; decide))]; exact rEnd.rf hc⟩ | exact ⟨by unfold aRow; rw [if_pos ⟨c6, ⟨c16, c27⟩, c39a, c50⟩, hz, if_neg (by omega)], by unfold aRow; rw [if_pos ⟨c6, ⟨c16, c27⟩, c39a, c50⟩, hz, if_neg (by omega)]; exact rEnd.rf hc⟩ | exact ⟨by unfold aRow; rw [if_pos ⟨c6, ⟨c16, c27⟩, c39a, c50⟩, hz, if_pos (by omega)], by unfold aRow; rw [if_pos ⟨c6, ⟨c16, c27⟩, c39a, c50⟩, hz, if_pos (by omega), nI_clamp (by omega), nI_clamp (by omega), nI_clamp (by omega), nI_clamp (by omega), nI_clamp (by omega)]; exact rEnd.put hv hc ((R_rowF_o (by omega)).tr (oQ.wi (by omega) (Or.inr (Or.inr ⟨by omega, rfl⟩)))) hcm.row⟩
set_option maxRecDepth 100000 in
theorem okR_code (w : am_W) {d : Nat} (hd : 3 ≤ d) (G : am_G) (s : sT) (x z k : Int32) (hS : St0 G) (hc : rS G s) (hv : sV s) : am_Ok w jR_code d (0, 0) [.inr (some 163), .inl x, .inl z, .inl k] G (fun r G' => r = some (.inl (aCode s x z k)) ∧ G' = G) := by
  refine am_ok_of rfl (Nat.le_of_ble_eq_true rfl) ?_
  show am_Go w jR_code d (0, 0) 0 [some (.inr (some 163)), some (.inl x), some (.inl z), some (.inl k), none] [] G _
  refine go_iload_n dR_code_0 rfl rfl ?_
  refine go_iconst (nI 0) (by decide) dR_code_1 ?_
  refine go_iconst (nI 5) (by decide) dR_code_2 ?_
  refine go_cS (k' := (0, 0)) dR_code_3 _ csR_123 stR_in rfl (okR_in0 (d := 0) w G x 5 (by decide)) (by omega) (by decide) (Nat.le_of_ble_eq_true rfl) (fun r G1 hr hn => ?_)
  obtain ⟨rfl, hG⟩ := hr
  rw [hG]
  clear hG hn
  refine go_if_eqB dR_code_6 (tgt := 18) (by decide) (fun c6 => ?_) (fun c6 => ?_)
  · refine go_iconst (-1) (by decide) dR_code_18 ?_
    refine go_ireturn rfl dR_code_19 ?_
    first | exact ⟨by unfold aCode; rw [if_neg (fun q => absurd q.1 (by rw [c6]; decide))], rfl⟩ | exact ⟨by unfold aCode; rw [if_neg (fun q => absurd q.2 (by rw [c15]; decide))], rfl⟩ | exact ⟨by unfold aCode; rw [if_pos ⟨c6, c15⟩, hz, if_neg (fun q => absurd q (by rw [c41]; decide))], rfl⟩ | exact ⟨by unfold aCode; rw [if_pos ⟨c6, c15⟩, hz, if_pos c41, hz2, if_pos (show k = nI 0 from c48)], rfl⟩ | exact ⟨by unfold aCode; rw [if_pos ⟨c6, c15⟩, hz, if_pos c41, hz2, if_neg (show ¬ k = nI 0 from c48), if_neg c68], rfl⟩ | exact ⟨by unfold aCode; rw [if_pos ⟨c6, c15⟩, hz, if_pos c41, hz2, if_neg (show ¬ k = nI 0 from c48), if_pos c68], rfl⟩
  · refine go_iload_n dR_code_9 rfl rfl ?_
    refine go_iconst (nI 0) (by decide) dR_code_10 ?_
    refine go_iconst (nI 2) (by decide) dR_code_11 ?_
    refine go_cS (k' := (0, 0)) dR_code_12 _ csR_123 stR_in rfl (okR_in0 (d := 0) w G k 2 (by decide)) (by omega) (by decide) (Nat.le_of_ble_eq_true rfl) (fun r G1 hr hn => ?_)
    obtain ⟨rfl, hG⟩ := hr
    rw [hG]
    clear hG hn
    refine go_if_neB dR_code_15 (tgt := 20) (by decide) (fun c15 => ?_) (fun c15 => ?_)
    · obtain ⟨m, hm, rfl⟩ := bel_of c6 (by decide)
      have hv1 := hv.1
      have hcm := hc.2.1 (6 * s.1 + m) (by omega)
      have hmv := hv.2.1 (6 * s.1 + m) (by omega)
      have hw := hc.1
      obtain ⟨M, hMe⟩ : ∃ M, M = s.2.1 (6 * s.1 + m) := ⟨_, rfl⟩
      rw [← hMe] at hcm hmv
      have hz : zM s (nI m).toNatClampNeg = M := by rw [nI_clamp (by omega), hMe]; rfl
      obtain ⟨hN, hR, hA, hL⟩ := hcm.1
      have hN6 := hmv.1
      have hR8 := hmv.2.1
      refine go_aload_n dR_code_20 rfl rfl ?_
      refine go_iload_n dR_code_21 rfl rfl ?_
      refine go_cV (k' := (0, 0)) dR_code_22 _ csR_135 (hS.s sh_163) rfl imR_own seR_own rfl (okR_own (d := 0) w G s.1 m hw hS) (by omega) (by decide) (Nat.le_of_ble_eq_true rfl) (fun r G1 hr hn => ?_)
      obtain ⟨rfl, hG⟩ := hr
      rw [hG]
      clear hG hn
      refine go_istore dR_code_25 (Nat.le_of_ble_eq_true rfl) ?_
      refine go_iload_n dR_code_27 rfl rfl ?_
      refine go_iconst (nI 0) (by decide) dR_code_28 ?_
      refine go_aload_n dR_code_29 rfl rfl ?_
      refine go_getO (a := 167) dR_code_30 flR_19 rfl (hS.s sh_163) (hS.r rt_many) ?_
      refine go_iload dR_code_33 rfl ?_
      first | refine go_ialV (hS.s sh_167) (by omega) (by decide) (by assumption) dR_code_35 ?_ | refine go_ialoadN (hS.s sh_167) (by omega) (by decide) dR_code_35 ?_
      refine go_iconst (nI 1) (by decide) dR_code_36 ?_
      refine go_isub dR_code_37 ?_
      refine go_cS (k' := (0, 0)) dR_code_38 _ csR_123 stR_in rfl (okR_inN (d := 0) w G z (mN M) (by omega)) (by omega) (by decide) (Nat.le_of_ble_eq_true rfl) (fun r G1 hr hn => ?_)
      obtain ⟨rfl, hG⟩ := hr
      rw [hG]
      clear hG hn
      refine go_if_neB dR_code_41 (tgt := 47) (by decide) (fun c41 => ?_) (fun c41 => ?_)
      · obtain ⟨i, hi, rfl⟩ := bel_of c41 (by omega)
        have hz2 : (nI i).toNatClampNeg = i := nI_clamp (by omega)
        obtain ⟨h1, h2, h3⟩ := hcm.2.1 i hi
        refine go_iload_n dR_code_47 rfl rfl ?_
        refine go_if_ne dR_code_48 (tgt := 66) (by decide) (fun c48 => ?_) (fun c48 => ?_)
        · refine go_iload_n dR_code_66 rfl rfl ?_
          refine go_iconst (nI 1) (by decide) dR_code_67 ?_
          refine go_icmp_ne dR_code_68 (tgt := 86) (by decide) (fun c68 => ?_) (fun c68 => ?_)
          · refine go_aload_n dR_code_86 rfl rfl ?_
            refine go_getO (a := 166) dR_code_87 flR_16 rfl (hS.s sh_163) (hS.r rt_two) ?_
            refine go_bipush (nI 60) (by decide) dR_code_90 ?_
            refine go_iload dR_code_92 rfl ?_
            first | refine go_imulN dR_code_94 ?_ | refine go_imul dR_code_94 ?_
            refine go_iload_n dR_code_95 rfl rfl ?_
            first | refine go_iaddN dR_code_96 ?_ | refine go_iadd dR_code_96 ?_
            first | refine go_ialV (hS.s sh_166) (by omega) (by decide) (by assumption) dR_code_97 ?_ | refine go_ialoadN (hS.s sh_166) (by omega) (by decide) dR_code_97 ?_
            refine go_ireturn rfl dR_code_98 ?_
            first | exact ⟨by unfold aCode; rw [if_neg (fun q => absurd q.1 (by rw [c6]; decide))], rfl⟩ | exact ⟨by unfold aCode; rw [if_neg (fun q => absurd q.2 (by rw [c15]; decide))], rfl⟩ | exact ⟨by unfold aCode; rw [if_pos ⟨c6, c15⟩, hz, if_neg (fun q => absurd q (by rw [c41]; decide))], rfl⟩ | exact ⟨by unfold aCode; rw [if_pos ⟨c6, c15⟩, hz, if_pos c41, hz2, if_pos (show k = nI 0 from c48)], rfl⟩ | exact ⟨by unfold aCode; rw [if_pos ⟨c6, c15⟩, hz, if_pos c41, hz2, if_neg (show ¬ k = nI 0 from c48), if_neg c68], rfl⟩ | exact ⟨by unfold aCode; rw [if_pos ⟨c6, c15⟩, hz, if_pos c41, hz2, if_neg (show ¬ k = nI 0 from c48), if_pos c68], rfl⟩
          · refine go_aload_n dR_code_71 rfl rfl ?_
            refine go_getO (a := 165) dR_code_72 flR_13 rfl (hS.s sh_163) (hS.r rt_one) ?_
            refine go_bipush (nI 60) (by decide) dR_code_75 ?_
            refine go_iload dR_code_77 rfl ?_
            first | refine go_imulN dR_code_79 ?_ | refine go_imul dR_code_79 ?_
            refine go_iload_n dR_code_80 rfl rfl ?_
            first | refine go_iaddN dR_code_81 ?_ | refine go_iadd dR_code_81 ?_
            first | refine go_ialV (hS.s sh_165) (by omega) (by decide) (by assumption) dR_code_82 ?_ | refine go_ialoadN (hS.s sh_165) (by omega) (by decide) dR_code_82 ?_
            refine go_goto dR_code_83 (tgt := 98) (by decide) ?_
            refine go_ireturn rfl dR_code_98 ?_
            first | exact ⟨by unfold aCode; rw [if_neg (fun q => absurd q.1 (by rw [c6]; decide))], rfl⟩ | exact ⟨by unfold aCode; rw [if_neg (fun q => absurd q.2 (by rw [c15]; decide))], rfl⟩ | exact ⟨by unfold aCode; rw [if_pos ⟨c6, c15⟩, hz, if_neg (fun q => absurd q (by rw [c41]; decide))], rfl⟩ | exact ⟨by unfold aCode; rw [if_pos ⟨c6, c15⟩, hz, if_pos c41, hz2, if_pos (show k = nI 0 from c48)], rfl⟩ | exact ⟨by unfold aCode; rw [if_pos ⟨c6, c15⟩, hz, if_pos c41, hz2, if_neg (show ¬ k = nI 0 from c48), if_neg c68], rfl⟩ | exact ⟨by unfold aCode; rw [if_pos ⟨c6, c15⟩, hz, if_pos c41, hz2, if_neg (show ¬ k = nI 0 from c48), if_pos c68], rfl⟩
        · refine go_aload_n dR_code_51 rfl rfl ?_
          refine go_getO (a := 164) dR_code_52 flR_7 rfl (hS.s sh_163) (hS.r rt_op) ?_
          refine go_bipush (nI 60) (by decide) dR_code_55 ?_
          refine go_iload dR_code_57 rfl ?_
          first | refine go_imulN dR_code_59 ?_ | refine go_imul dR_code_59 ?_
          refine go_iload_n dR_code_60 rfl rfl ?_
          first | refine go_iaddN dR_code_61 ?_ | refine go_iadd dR_code_61 ?_
          first | refine go_ialV (hS.s sh_164) (by omega) (by decide) (by assumption) dR_code_62 ?_ | refine go_ialoadN (hS.s sh_164) (by omega) (by decide) dR_code_62 ?_
          refine go_goto dR_code_63 (tgt := 98) (by decide) ?_
          refine go_ireturn rfl dR_code_98 ?_
          first | exact ⟨by unfold aCode; rw [if_neg (fun q => absurd q.1 (by rw [c6]; decide))], rfl⟩ | exact ⟨by unfold aCode; rw [if_neg (fun q => absurd q.2 (by rw [c15]; decide))], rfl⟩ | exact ⟨by unfold aCode; rw [if_pos ⟨c6, c15⟩, hz, if_neg (fun q => absurd q (by rw [c41]; decide))], rfl⟩ | exact ⟨by unfold aCode; rw [if_pos ⟨c6, c15⟩, hz, if_pos c41, hz2, if_pos (show k = nI 0 from c48)], rfl⟩ | exact ⟨by unfold aCode; rw [if_pos ⟨c6, c15⟩, hz, if_pos c41, hz2, if_neg (show ¬ k = nI 0 from c48), if_neg c68], rfl⟩ | exact ⟨by unfold aCode; rw [if_pos ⟨c6, c15⟩, hz, if_pos c41, hz2, if_neg (show ¬ k = nI 0 from c48), if_pos c68], rfl⟩
      · refine go_bipush (-2) (by decide) dR_code_44 ?_
        refine go_ireturn rfl dR_code_46 ?_
        first | exact ⟨by unfold aCode; rw [if_neg (fun q => absurd q.1 (by rw [c6]; decide))], rfl⟩ | exact ⟨by unfold aCode; rw [if_neg (fun q => absurd q.2 (by rw [c15]; decide))], rfl⟩ | exact ⟨by unfold aCode; rw [if_pos ⟨c6, c15⟩, hz, if_neg (fun q => absurd q (by rw [c41]; decide))], rfl⟩ | exact ⟨by unfold aCode; rw [if_pos ⟨c6, c15⟩, hz, if_pos c41, hz2, if_pos (show k = nI 0 from c48)], rfl⟩ | exact ⟨by unfold aCode; rw [if_pos ⟨c6, c15⟩, hz, if_pos c41, hz2, if_neg (show ¬ k = nI 0 from c48), if_neg c68], rfl⟩ | exact ⟨by unfold aCode; rw [if_pos ⟨c6, c15⟩, hz, if_pos c41, hz2, if_neg (show ¬ k = nI 0 from c48), if_pos c68], rfl⟩
    · refine go_iconst (-1) (by decide) dR_code_18 ?_
      refine go_ireturn rfl dR_code_19 ?_
      first | exact ⟨by unfold aCode; rw [if_neg (fun q => absurd q.1 (by rw [c6]; decide))], rfl⟩ | exact ⟨by unfold aCode; rw [if_neg (fun q => absurd q.2 (by rw [c15]; decide))], rfl⟩ | exact ⟨by unfold aCode; rw [if_pos ⟨c6, c15⟩, hz, if_neg (fun q => absurd q (by rw [c41]; decide))], rfl⟩ | exact ⟨by unfold aCode; rw [if_pos ⟨c6, c15⟩, hz, if_pos c41, hz2, if_pos (show k = nI 0 from c48)], rfl⟩ | exact ⟨by unfold aCode; rw [if_pos ⟨c6, c15⟩, hz, if_pos c41, hz2, if_neg (show ¬ k = nI 0 from c48), if_neg c68], rfl⟩ | exact ⟨by unfold aCode; rw [if_pos ⟨c6, c15⟩, hz, if_pos c41, hz2, if_neg (show ¬ k = nI 0 from c48), if_pos c68], rfl⟩
set_option maxRecDepth 100000 in
theorem okR_table (w : am_W) {d : Nat} (hd : 3 ≤ d) (G : am_G) (s : sT) (x z k : Int32) (hS : St0 G) (hc : rS G s) (hv : sV s) : am_Ok w jR_table d (0, 0) [.inr (some 163), .inl x, .inl z, .inl k] G (fun r G' => r = some (.inl (aTable s x z k)) ∧ G' = G) := by
  refine am_ok_of rfl (Nat.le_of_ble_eq_true rfl) ?_
  show am_Go w jR_table d (0, 0) 0 [some (.inr (some 163)), some (.inl x), some (.inl z), some (.inl k), none, none] [] G _
  refine go_iload_n dR_table_0 rfl rfl ?_
  refine go_iconst (nI 0) (by decide) dR_table_1 ?_
  refine go_iconst (nI 5) (by decide) dR_table_2 ?_
  refine go_cS (k' := (0, 0)) dR_table_3 _ csR_123 stR_in rfl (okR_in0 (d := 0) w G x 5 (by decide)) (by omega) (by decide) (Nat.le_of_ble_eq_true rfl) (fun r G1 hr hn => ?_)
  obtain ⟨rfl, hG⟩ := hr
  rw [hG]
  clear hG hn
  refine go_if_eqB dR_table_6 (tgt := 18) (by decide) (fun c6 => ?_) (fun c6 => ?_)
  · refine go_iconst (-1) (by decide) dR_table_18 ?_
    refine go_ireturn rfl dR_table_19 ?_
    first | exact ⟨by unfold aTable; rw [if_neg (fun q => absurd q.1 (by rw [c6]; decide))], rfl⟩ | exact ⟨by unfold aTable; rw [if_neg (fun q => absurd q.2 (by rw [c15]; decide))], rfl⟩ | exact ⟨by unfold aTable; rw [if_pos ⟨c6, c15⟩, hz, if_pos c38, if_pos (show k = nI 0 from c42)], rfl⟩ | exact ⟨by unfold aTable; rw [if_pos ⟨c6, c15⟩, hz, if_pos c38, if_neg (show ¬ k = nI 0 from c42), if_pos c57], rfl⟩ | exact ⟨by unfold aTable; rw [if_pos ⟨c6, c15⟩, hz, if_pos c38, if_neg (show ¬ k = nI 0 from c42), if_neg c57, if_pos c72], rfl⟩ | exact ⟨by unfold aTable; rw [if_pos ⟨c6, c15⟩, hz, if_pos c38, if_neg (show ¬ k = nI 0 from c42), if_neg c57, if_neg c72, c92]; rfl, rfl⟩ | exact ⟨by unfold aTable; rw [if_pos ⟨c6, c15⟩, hz, if_neg c38, if_neg (fun q => absurd q (by rw [c115]; decide))], rfl⟩ | exact ⟨by unfold aTable; rw [if_pos ⟨c6, c15⟩, hz, if_neg c38, if_pos c115, hz2, if_pos (show k = nI 0 from c122)], rfl⟩ | exact ⟨by unfold aTable; rw [if_pos ⟨c6, c15⟩, hz, if_neg c38, if_pos c115, hz2, if_neg (show ¬ k = nI 0 from c122), if_pos c137], rfl⟩ | exact ⟨by unfold aTable; rw [if_pos ⟨c6, c15⟩, hz, if_neg c38, if_pos c115, hz2, if_neg (show ¬ k = nI 0 from c122), if_neg c137, if_pos c152], rfl⟩ | exact ⟨by unfold aTable; rw [if_pos ⟨c6, c15⟩, hz, if_neg c38, if_pos c115, hz2, if_neg (show ¬ k = nI 0 from c122), if_neg c137, if_neg c152], rfl⟩
  · refine go_iload_n dR_table_9 rfl rfl ?_
    refine go_iconst (nI 0) (by decide) dR_table_10 ?_
    refine go_iconst (nI 3) (by decide) dR_table_11 ?_
    refine go_cS (k' := (0, 0)) dR_table_12 _ csR_123 stR_in rfl (okR_in0 (d := 0) w G k 3 (by decide)) (by omega) (by decide) (Nat.le_of_ble_eq_true rfl) (fun r G1 hr hn => ?_)
    obtain ⟨rfl, hG⟩ := hr
    rw [hG]
    clear hG hn
    refine go_if_neB dR_table_15 (tgt := 20) (by decide) (fun c15 => ?_) (fun c15 => ?_)
    · obtain ⟨m, hm, rfl⟩ := bel_of c6 (by decide)
      have hv1 := hv.1
      have hcm := hc.2.1 (6 * s.1 + m) (by omega)
      have hmv := hv.2.1 (6 * s.1 + m) (by omega)
      have hw := hc.1
      obtain ⟨M, hMe⟩ : ∃ M, M = s.2.1 (6 * s.1 + m) := ⟨_, rfl⟩
      rw [← hMe] at hcm hmv
      have hz : zM s (nI m).toNatClampNeg = M := by rw [nI_clamp (by omega), hMe]; rfl
      obtain ⟨hN, hR, hA, hL⟩ := hcm.1
      have hN6 := hmv.1
      have hR8 := hmv.2.1
      refine go_aload_n dR_table_20 rfl rfl ?_
      refine go_iload_n dR_table_21 rfl rfl ?_
      refine go_cV (k' := (0, 0)) dR_table_22 _ csR_135 (hS.s sh_163) rfl imR_own seR_own rfl (okR_own (d := 0) w G s.1 m hw hS) (by omega) (by decide) (Nat.le_of_ble_eq_true rfl) (fun r G1 hr hn => ?_)
      obtain ⟨rfl, hG⟩ := hr
      rw [hG]
      clear hG hn
      refine go_istore dR_table_25 (Nat.le_of_ble_eq_true rfl) ?_
      refine go_bipush (nI 8) (by decide) dR_table_27 ?_
      refine go_iload dR_table_29 rfl ?_
      first | refine go_imulN dR_table_31 ?_ | refine go_imul dR_table_31 ?_
      refine go_iload_n dR_table_32 rfl rfl ?_
      refine go_iadd dR_table_33 ?_
      refine go_istore dR_table_34 (Nat.le_of_ble_eq_true rfl) ?_
      refine go_iload_n dR_table_36 rfl rfl ?_
      refine go_iconst (-1) (by decide) dR_table_37 ?_
      refine go_icmp_ne dR_table_38 (tgt := 101) (by decide) (fun c38 => ?_) (fun c38 => ?_)
      · refine go_iload_n dR_table_101 rfl rfl ?_
        refine go_iconst (nI 0) (by decide) dR_table_102 ?_
        refine go_aload_n dR_table_103 rfl rfl ?_
        refine go_getO (a := 169) dR_table_104 flR_25 rfl (hS.s sh_163) (hS.r rt_rows) ?_
        refine go_iload dR_table_107 rfl ?_
        first | refine go_ialV (hS.s sh_169) (by omega) (by decide) (by assumption) dR_table_109 ?_ | refine go_ialoadN (hS.s sh_169) (by omega) (by decide) dR_table_109 ?_
        refine go_iconst (nI 1) (by decide) dR_table_110 ?_
        refine go_isub dR_table_111 ?_
        refine go_cS (k' := (0, 0)) dR_table_112 _ csR_123 stR_in rfl (okR_inN (d := 0) w G z (mR M) (by omega)) (by omega) (by decide) (Nat.le_of_ble_eq_true rfl) (fun r G1 hr hn => ?_)
        obtain ⟨rfl, hG⟩ := hr
        rw [hG]
        clear hG hn
        refine go_if_neB dR_table_115 (tgt := 121) (by decide) (fun c115 => ?_) (fun c115 => ?_)
        · obtain ⟨i, hi, rfl⟩ := bel_of c115 (by omega)
          rw [nI_add]
          have hz2 : (nI i).toNatClampNeg = i := nI_clamp (by omega)
          obtain ⟨h1, h2, h3, h4⟩ := hcm.2.2 i hi
          refine go_iload_n dR_table_121 rfl rfl ?_
          refine go_if_ne dR_table_122 (tgt := 135) (by decide) (fun c122 => ?_) (fun c122 => ?_)
          · refine go_iload_n dR_table_135 rfl rfl ?_
            refine go_iconst (nI 1) (by decide) dR_table_136 ?_
            refine go_icmp_ne dR_table_137 (tgt := 150) (by decide) (fun c137 => ?_) (fun c137 => ?_)
            · refine go_iload_n dR_table_150 rfl rfl ?_
              refine go_iconst (nI 2) (by decide) dR_table_151 ?_
              refine go_icmp_ne dR_table_152 (tgt := 165) (by decide) (fun c152 => ?_) (fun c152 => ?_)
              · refine go_aload_n dR_table_165 rfl rfl ?_
                refine go_getO (a := 173) dR_table_166 flR_37 rfl (hS.s sh_163) (hS.r rt_type) ?_
                refine go_iload dR_table_169 rfl ?_
                first | refine go_ialV (hS.s sh_173) (by omega) (by decide) (by assumption) dR_table_171 ?_ | refine go_ialoadN (hS.s sh_173) (by omega) (by decide) dR_table_171 ?_
                refine go_ireturn rfl dR_table_172 ?_
                first | exact ⟨by unfold aTable; rw [if_neg (fun q => absurd q.1 (by rw [c6]; decide))], rfl⟩ | exact ⟨by unfold aTable; rw [if_neg (fun q => absurd q.2 (by rw [c15]; decide))], rfl⟩ | exact ⟨by unfold aTable; rw [if_pos ⟨c6, c15⟩, hz, if_pos c38, if_pos (show k = nI 0 from c42)], rfl⟩ | exact ⟨by unfold aTable; rw [if_pos ⟨c6, c15⟩, hz, if_pos c38, if_neg (show ¬ k = nI 0 from c42), if_pos c57], rfl⟩ | exact ⟨by unfold aTable; rw [if_pos ⟨c6, c15⟩, hz, if_pos c38, if_neg (show ¬ k = nI 0 from c42), if_neg c57, if_pos c72], rfl⟩ | exact ⟨by unfold aTable; rw [if_pos ⟨c6, c15⟩, hz, if_pos c38, if_neg (show ¬ k = nI 0 from c42), if_neg c57, if_neg c72, c92]; rfl, rfl⟩ | exact ⟨by unfold aTable; rw [if_pos ⟨c6, c15⟩, hz, if_neg c38, if_neg (fun q => absurd q (by rw [c115]; decide))], rfl⟩ | exact ⟨by unfold aTable; rw [if_pos ⟨c6, c15⟩, hz, if_neg c38, if_pos c115, hz2, if_pos (show k = nI 0 from c122)], rfl⟩ | exact ⟨by unfold aTable; rw [if_pos ⟨c6, c15⟩, hz, if_neg c38, if_pos c115, hz2, if_neg (show ¬ k = nI 0 from c122), if_pos c137], rfl⟩ | exact ⟨by unfold aTable; rw [if_pos ⟨c6, c15⟩, hz, if_neg c38, if_pos c115, hz2, if_neg (show ¬ k = nI 0 from c122), if_neg c137, if_pos c152], rfl⟩ | exact ⟨by unfold aTable; rw [if_pos ⟨c6, c15⟩, hz, if_neg c38, if_pos c115, hz2, if_neg (show ¬ k = nI 0 from c122), if_neg c137, if_neg c152], rfl⟩
              · refine go_aload_n dR_table_155 rfl rfl ?_
                refine go_getO (a := 172) dR_table_156 flR_34 rfl (hS.s sh_163) (hS.r rt_at) ?_
                refine go_iload dR_table_159 rfl ?_
                first | refine go_ialV (hS.s sh_172) (by omega) (by decide) (by assumption) dR_table_161 ?_ | refine go_ialoadN (hS.s sh_172) (by omega) (by decide) dR_table_161 ?_
                refine go_goto dR_table_162 (tgt := 172) (by decide) ?_
                refine go_ireturn rfl dR_table_172 ?_
                first | exact ⟨by unfold aTable; rw [if_neg (fun q => absurd q.1 (by rw [c6]; decide))], rfl⟩ | exact ⟨by unfold aTable; rw [if_neg (fun q => absurd q.2 (by rw [c15]; decide))], rfl⟩ | exact ⟨by unfold aTable; rw [if_pos ⟨c6, c15⟩, hz, if_pos c38, if_pos (show k = nI 0 from c42)], rfl⟩ | exact ⟨by unfold aTable; rw [if_pos ⟨c6, c15⟩, hz, if_pos c38, if_neg (show ¬ k = nI 0 from c42), if_pos c57], rfl⟩ | exact ⟨by unfold aTable; rw [if_pos ⟨c6, c15⟩, hz, if_pos c38, if_neg (show ¬ k = nI 0 from c42), if_neg c57, if_pos c72], rfl⟩ | exact ⟨by unfold aTable; rw [if_pos ⟨c6, c15⟩, hz, if_pos c38, if_neg (show ¬ k = nI 0 from c42), if_neg c57, if_neg c72, c92]; rfl, rfl⟩ | exact ⟨by unfold aTable; rw [if_pos ⟨c6, c15⟩, hz, if_neg c38, if_neg (fun q => absurd q (by rw [c115]; decide))], rfl⟩ | exact ⟨by unfold aTable; rw [if_pos ⟨c6, c15⟩, hz, if_neg c38, if_pos c115, hz2, if_pos (show k = nI 0 from c122)], rfl⟩ | exact ⟨by unfold aTable; rw [if_pos ⟨c6, c15⟩, hz, if_neg c38, if_pos c115, hz2, if_neg (show ¬ k = nI 0 from c122), if_pos c137], rfl⟩ | exact ⟨by unfold aTable; rw [if_pos ⟨c6, c15⟩, hz, if_neg c38, if_pos c115, hz2, if_neg (show ¬ k = nI 0 from c122), if_neg c137, if_pos c152], rfl⟩ | exact ⟨by unfold aTable; rw [if_pos ⟨c6, c15⟩, hz, if_neg c38, if_pos c115, hz2, if_neg (show ¬ k = nI 0 from c122), if_neg c137, if_neg c152], rfl⟩
            · refine go_aload_n dR_table_140 rfl rfl ?_
              refine go_getO (a := 171) dR_table_141 flR_31 rfl (hS.s sh_163) (hS.r rt_to) ?_
              refine go_iload dR_table_144 rfl ?_
              first | refine go_ialV (hS.s sh_171) (by omega) (by decide) (by assumption) dR_table_146 ?_ | refine go_ialoadN (hS.s sh_171) (by omega) (by decide) dR_table_146 ?_
              refine go_goto dR_table_147 (tgt := 172) (by decide) ?_
              refine go_ireturn rfl dR_table_172 ?_
              first | exact ⟨by unfold aTable; rw [if_neg (fun q => absurd q.1 (by rw [c6]; decide))], rfl⟩ | exact ⟨by unfold aTable; rw [if_neg (fun q => absurd q.2 (by rw [c15]; decide))], rfl⟩ | exact ⟨by unfold aTable; rw [if_pos ⟨c6, c15⟩, hz, if_pos c38, if_pos (show k = nI 0 from c42)], rfl⟩ | exact ⟨by unfold aTable; rw [if_pos ⟨c6, c15⟩, hz, if_pos c38, if_neg (show ¬ k = nI 0 from c42), if_pos c57], rfl⟩ | exact ⟨by unfold aTable; rw [if_pos ⟨c6, c15⟩, hz, if_pos c38, if_neg (show ¬ k = nI 0 from c42), if_neg c57, if_pos c72], rfl⟩ | exact ⟨by unfold aTable; rw [if_pos ⟨c6, c15⟩, hz, if_pos c38, if_neg (show ¬ k = nI 0 from c42), if_neg c57, if_neg c72, c92]; rfl, rfl⟩ | exact ⟨by unfold aTable; rw [if_pos ⟨c6, c15⟩, hz, if_neg c38, if_neg (fun q => absurd q (by rw [c115]; decide))], rfl⟩ | exact ⟨by unfold aTable; rw [if_pos ⟨c6, c15⟩, hz, if_neg c38, if_pos c115, hz2, if_pos (show k = nI 0 from c122)], rfl⟩ | exact ⟨by unfold aTable; rw [if_pos ⟨c6, c15⟩, hz, if_neg c38, if_pos c115, hz2, if_neg (show ¬ k = nI 0 from c122), if_pos c137], rfl⟩ | exact ⟨by unfold aTable; rw [if_pos ⟨c6, c15⟩, hz, if_neg c38, if_pos c115, hz2, if_neg (show ¬ k = nI 0 from c122), if_neg c137, if_pos c152], rfl⟩ | exact ⟨by unfold aTable; rw [if_pos ⟨c6, c15⟩, hz, if_neg c38, if_pos c115, hz2, if_neg (show ¬ k = nI 0 from c122), if_neg c137, if_neg c152], rfl⟩
          · refine go_aload_n dR_table_125 rfl rfl ?_
            refine go_getO (a := 170) dR_table_126 flR_28 rfl (hS.s sh_163) (hS.r rt_from) ?_
            refine go_iload dR_table_129 rfl ?_
            first | refine go_ialV (hS.s sh_170) (by omega) (by decide) (by assumption) dR_table_131 ?_ | refine go_ialoadN (hS.s sh_170) (by omega) (by decide) dR_table_131 ?_
            refine go_goto dR_table_132 (tgt := 172) (by decide) ?_
            refine go_ireturn rfl dR_table_172 ?_
            first | exact ⟨by unfold aTable; rw [if_neg (fun q => absurd q.1 (by rw [c6]; decide))], rfl⟩ | exact ⟨by unfold aTable; rw [if_neg (fun q => absurd q.2 (by rw [c15]; decide))], rfl⟩ | exact ⟨by unfold aTable; rw [if_pos ⟨c6, c15⟩, hz, if_pos c38, if_pos (show k = nI 0 from c42)], rfl⟩ | exact ⟨by unfold aTable; rw [if_pos ⟨c6, c15⟩, hz, if_pos c38, if_neg (show ¬ k = nI 0 from c42), if_pos c57], rfl⟩ | exact ⟨by unfold aTable; rw [if_pos ⟨c6, c15⟩, hz, if_pos c38, if_neg (show ¬ k = nI 0 from c42), if_neg c57, if_pos c72], rfl⟩ | exact ⟨by unfold aTable; rw [if_pos ⟨c6, c15⟩, hz, if_pos c38, if_neg (show ¬ k = nI 0 from c42), if_neg c57, if_neg c72, c92]; rfl, rfl⟩ | exact ⟨by unfold aTable; rw [if_pos ⟨c6, c15⟩, hz, if_neg c38, if_neg (fun q => absurd q (by rw [c115]; decide))], rfl⟩ | exact ⟨by unfold aTable; rw [if_pos ⟨c6, c15⟩, hz, if_neg c38, if_pos c115, hz2, if_pos (show k = nI 0 from c122)], rfl⟩ | exact ⟨by unfold aTable; rw [if_pos ⟨c6, c15⟩, hz, if_neg c38, if_pos c115, hz2, if_neg (show ¬ k = nI 0 from c122), if_pos c137], rfl⟩ | exact ⟨by unfold aTable; rw [if_pos ⟨c6, c15⟩, hz, if_neg c38, if_pos c115, hz2, if_neg (show ¬ k = nI 0 from c122), if_neg c137, if_pos c152], rfl⟩ | exact ⟨by unfold aTable; rw [if_pos ⟨c6, c15⟩, hz, if_neg c38, if_pos c115, hz2, if_neg (show ¬ k = nI 0 from c122), if_neg c137, if_neg c152], rfl⟩
        · refine go_bipush (-2) (by decide) dR_table_118 ?_
          refine go_ireturn rfl dR_table_120 ?_
          first | exact ⟨by unfold aTable; rw [if_neg (fun q => absurd q.1 (by rw [c6]; decide))], rfl⟩ | exact ⟨by unfold aTable; rw [if_neg (fun q => absurd q.2 (by rw [c15]; decide))], rfl⟩ | exact ⟨by unfold aTable; rw [if_pos ⟨c6, c15⟩, hz, if_pos c38, if_pos (show k = nI 0 from c42)], rfl⟩ | exact ⟨by unfold aTable; rw [if_pos ⟨c6, c15⟩, hz, if_pos c38, if_neg (show ¬ k = nI 0 from c42), if_pos c57], rfl⟩ | exact ⟨by unfold aTable; rw [if_pos ⟨c6, c15⟩, hz, if_pos c38, if_neg (show ¬ k = nI 0 from c42), if_neg c57, if_pos c72], rfl⟩ | exact ⟨by unfold aTable; rw [if_pos ⟨c6, c15⟩, hz, if_pos c38, if_neg (show ¬ k = nI 0 from c42), if_neg c57, if_neg c72, c92]; rfl, rfl⟩ | exact ⟨by unfold aTable; rw [if_pos ⟨c6, c15⟩, hz, if_neg c38, if_neg (fun q => absurd q (by rw [c115]; decide))], rfl⟩ | exact ⟨by unfold aTable; rw [if_pos ⟨c6, c15⟩, hz, if_neg c38, if_pos c115, hz2, if_pos (show k = nI 0 from c122)], rfl⟩ | exact ⟨by unfold aTable; rw [if_pos ⟨c6, c15⟩, hz, if_neg c38, if_pos c115, hz2, if_neg (show ¬ k = nI 0 from c122), if_pos c137], rfl⟩ | exact ⟨by unfold aTable; rw [if_pos ⟨c6, c15⟩, hz, if_neg c38, if_pos c115, hz2, if_neg (show ¬ k = nI 0 from c122), if_neg c137, if_pos c152], rfl⟩ | exact ⟨by unfold aTable; rw [if_pos ⟨c6, c15⟩, hz, if_neg c38, if_pos c115, hz2, if_neg (show ¬ k = nI 0 from c122), if_neg c137, if_neg c152], rfl⟩
      · refine go_iload_n dR_table_41 rfl rfl ?_
        refine go_if_ne dR_table_42 (tgt := 55) (by decide) (fun c42 => ?_) (fun c42 => ?_)
        · refine go_iload_n dR_table_55 rfl rfl ?_
          refine go_iconst (nI 1) (by decide) dR_table_56 ?_
          refine go_icmp_ne dR_table_57 (tgt := 70) (by decide) (fun c57 => ?_) (fun c57 => ?_)
          · refine go_iload_n dR_table_70 rfl rfl ?_
            refine go_iconst (nI 2) (by decide) dR_table_71 ?_
            refine go_icmp_ne dR_table_72 (tgt := 85) (by decide) (fun c72 => ?_) (fun c72 => ?_)
            · refine go_aload_n dR_table_85 rfl rfl ?_
              refine go_getO (a := 174) dR_table_86 flR_40 rfl (hS.s sh_163) (hS.r rt_locked) ?_
              refine go_iload dR_table_89 rfl ?_
              first | refine go_balV (hS.s sh_174) (by omega) (by decide) (by assumption) dR_table_91 ?_ | refine go_baloadN (hS.s sh_174) (by omega) (by decide) dR_table_91 ?_
              refine go_if_eqB dR_table_92 (tgt := 99) (by decide) (fun c92 => ?_) (fun c92 => ?_)
              · refine go_iconst (nI 0) (by decide) dR_table_99 ?_
                refine go_ireturn rfl dR_table_100 ?_
                first | exact ⟨by unfold aTable; rw [if_neg (fun q => absurd q.1 (by rw [c6]; decide))], rfl⟩ | exact ⟨by unfold aTable; rw [if_neg (fun q => absurd q.2 (by rw [c15]; decide))], rfl⟩ | exact ⟨by unfold aTable; rw [if_pos ⟨c6, c15⟩, hz, if_pos c38, if_pos (show k = nI 0 from c42)], rfl⟩ | exact ⟨by unfold aTable; rw [if_pos ⟨c6, c15⟩, hz, if_pos c38, if_neg (show ¬ k = nI 0 from c42), if_pos c57], rfl⟩ | exact ⟨by unfold aTable; rw [if_pos ⟨c6, c15⟩, hz, if_pos c38, if_neg (show ¬ k = nI 0 from c42), if_neg c57, if_pos c72], rfl⟩ | exact ⟨by unfold aTable; rw [if_pos ⟨c6, c15⟩, hz, if_pos c38, if_neg (show ¬ k = nI 0 from c42), if_neg c57, if_neg c72, c92]; rfl, rfl⟩ | exact ⟨by unfold aTable; rw [if_pos ⟨c6, c15⟩, hz, if_neg c38, if_neg (fun q => absurd q (by rw [c115]; decide))], rfl⟩ | exact ⟨by unfold aTable; rw [if_pos ⟨c6, c15⟩, hz, if_neg c38, if_pos c115, hz2, if_pos (show k = nI 0 from c122)], rfl⟩ | exact ⟨by unfold aTable; rw [if_pos ⟨c6, c15⟩, hz, if_neg c38, if_pos c115, hz2, if_neg (show ¬ k = nI 0 from c122), if_pos c137], rfl⟩ | exact ⟨by unfold aTable; rw [if_pos ⟨c6, c15⟩, hz, if_neg c38, if_pos c115, hz2, if_neg (show ¬ k = nI 0 from c122), if_neg c137, if_pos c152], rfl⟩ | exact ⟨by unfold aTable; rw [if_pos ⟨c6, c15⟩, hz, if_neg c38, if_pos c115, hz2, if_neg (show ¬ k = nI 0 from c122), if_neg c137, if_neg c152], rfl⟩
              · refine go_iconst (nI 1) (by decide) dR_table_95 ?_
                refine go_goto dR_table_96 (tgt := 100) (by decide) ?_
                refine go_ireturn rfl dR_table_100 ?_
                first | exact ⟨by unfold aTable; rw [if_neg (fun q => absurd q.1 (by rw [c6]; decide))], rfl⟩ | exact ⟨by unfold aTable; rw [if_neg (fun q => absurd q.2 (by rw [c15]; decide))], rfl⟩ | exact ⟨by unfold aTable; rw [if_pos ⟨c6, c15⟩, hz, if_pos c38, if_pos (show k = nI 0 from c42)], rfl⟩ | exact ⟨by unfold aTable; rw [if_pos ⟨c6, c15⟩, hz, if_pos c38, if_neg (show ¬ k = nI 0 from c42), if_pos c57], rfl⟩ | exact ⟨by unfold aTable; rw [if_pos ⟨c6, c15⟩, hz, if_pos c38, if_neg (show ¬ k = nI 0 from c42), if_neg c57, if_pos c72], rfl⟩ | exact ⟨by unfold aTable; rw [if_pos ⟨c6, c15⟩, hz, if_pos c38, if_neg (show ¬ k = nI 0 from c42), if_neg c57, if_neg c72, c92]; rfl, rfl⟩ | exact ⟨by unfold aTable; rw [if_pos ⟨c6, c15⟩, hz, if_neg c38, if_neg (fun q => absurd q (by rw [c115]; decide))], rfl⟩ | exact ⟨by unfold aTable; rw [if_pos ⟨c6, c15⟩, hz, if_neg c38, if_pos c115, hz2, if_pos (show k = nI 0 from c122)], rfl⟩ | exact ⟨by unfold aTable; rw [if_pos ⟨c6, c15⟩, hz, if_neg c38, if_pos c115, hz2, if_neg (show ¬ k = nI 0 from c122), if_pos c137], rfl⟩ | exact ⟨by unfold aTable; rw [if_pos ⟨c6, c15⟩, hz, if_neg c38, if_pos c115, hz2, if_neg (show ¬ k = nI 0 from c122), if_neg c137, if_pos c152], rfl⟩ | exact ⟨by unfold aTable; rw [if_pos ⟨c6, c15⟩, hz, if_neg c38, if_pos c115, hz2, if_neg (show ¬ k = nI 0 from c122), if_neg c137, if_neg c152], rfl⟩
            · refine go_aload_n dR_table_75 rfl rfl ?_
              refine go_getO (a := 168) dR_table_76 flR_22 rfl (hS.s sh_163) (hS.r rt_takes) ?_
              refine go_iload dR_table_79 rfl ?_
              first | refine go_ialV (hS.s sh_168) (by omega) (by decide) (by assumption) dR_table_81 ?_ | refine go_ialoadN (hS.s sh_168) (by omega) (by decide) dR_table_81 ?_
              refine go_goto dR_table_82 (tgt := 100) (by decide) ?_
              refine go_ireturn rfl dR_table_100 ?_
              first | exact ⟨by unfold aTable; rw [if_neg (fun q => absurd q.1 (by rw [c6]; decide))], rfl⟩ | exact ⟨by unfold aTable; rw [if_neg (fun q => absurd q.2 (by rw [c15]; decide))], rfl⟩ | exact ⟨by unfold aTable; rw [if_pos ⟨c6, c15⟩, hz, if_pos c38, if_pos (show k = nI 0 from c42)], rfl⟩ | exact ⟨by unfold aTable; rw [if_pos ⟨c6, c15⟩, hz, if_pos c38, if_neg (show ¬ k = nI 0 from c42), if_pos c57], rfl⟩ | exact ⟨by unfold aTable; rw [if_pos ⟨c6, c15⟩, hz, if_pos c38, if_neg (show ¬ k = nI 0 from c42), if_neg c57, if_pos c72], rfl⟩ | exact ⟨by unfold aTable; rw [if_pos ⟨c6, c15⟩, hz, if_pos c38, if_neg (show ¬ k = nI 0 from c42), if_neg c57, if_neg c72, c92]; rfl, rfl⟩ | exact ⟨by unfold aTable; rw [if_pos ⟨c6, c15⟩, hz, if_neg c38, if_neg (fun q => absurd q (by rw [c115]; decide))], rfl⟩ | exact ⟨by unfold aTable; rw [if_pos ⟨c6, c15⟩, hz, if_neg c38, if_pos c115, hz2, if_pos (show k = nI 0 from c122)], rfl⟩ | exact ⟨by unfold aTable; rw [if_pos ⟨c6, c15⟩, hz, if_neg c38, if_pos c115, hz2, if_neg (show ¬ k = nI 0 from c122), if_pos c137], rfl⟩ | exact ⟨by unfold aTable; rw [if_pos ⟨c6, c15⟩, hz, if_neg c38, if_pos c115, hz2, if_neg (show ¬ k = nI 0 from c122), if_neg c137, if_pos c152], rfl⟩ | exact ⟨by unfold aTable; rw [if_pos ⟨c6, c15⟩, hz, if_neg c38, if_pos c115, hz2, if_neg (show ¬ k = nI 0 from c122), if_neg c137, if_neg c152], rfl⟩
          · refine go_aload_n dR_table_60 rfl rfl ?_
            refine go_getO (a := 169) dR_table_61 flR_25 rfl (hS.s sh_163) (hS.r rt_rows) ?_
            refine go_iload dR_table_64 rfl ?_
            first | refine go_ialV (hS.s sh_169) (by omega) (by decide) (by assumption) dR_table_66 ?_ | refine go_ialoadN (hS.s sh_169) (by omega) (by decide) dR_table_66 ?_
            refine go_goto dR_table_67 (tgt := 100) (by decide) ?_
            refine go_ireturn rfl dR_table_100 ?_
            first | exact ⟨by unfold aTable; rw [if_neg (fun q => absurd q.1 (by rw [c6]; decide))], rfl⟩ | exact ⟨by unfold aTable; rw [if_neg (fun q => absurd q.2 (by rw [c15]; decide))], rfl⟩ | exact ⟨by unfold aTable; rw [if_pos ⟨c6, c15⟩, hz, if_pos c38, if_pos (show k = nI 0 from c42)], rfl⟩ | exact ⟨by unfold aTable; rw [if_pos ⟨c6, c15⟩, hz, if_pos c38, if_neg (show ¬ k = nI 0 from c42), if_pos c57], rfl⟩ | exact ⟨by unfold aTable; rw [if_pos ⟨c6, c15⟩, hz, if_pos c38, if_neg (show ¬ k = nI 0 from c42), if_neg c57, if_pos c72], rfl⟩ | exact ⟨by unfold aTable; rw [if_pos ⟨c6, c15⟩, hz, if_pos c38, if_neg (show ¬ k = nI 0 from c42), if_neg c57, if_neg c72, c92]; rfl, rfl⟩ | exact ⟨by unfold aTable; rw [if_pos ⟨c6, c15⟩, hz, if_neg c38, if_neg (fun q => absurd q (by rw [c115]; decide))], rfl⟩ | exact ⟨by unfold aTable; rw [if_pos ⟨c6, c15⟩, hz, if_neg c38, if_pos c115, hz2, if_pos (show k = nI 0 from c122)], rfl⟩ | exact ⟨by unfold aTable; rw [if_pos ⟨c6, c15⟩, hz, if_neg c38, if_pos c115, hz2, if_neg (show ¬ k = nI 0 from c122), if_pos c137], rfl⟩ | exact ⟨by unfold aTable; rw [if_pos ⟨c6, c15⟩, hz, if_neg c38, if_pos c115, hz2, if_neg (show ¬ k = nI 0 from c122), if_neg c137, if_pos c152], rfl⟩ | exact ⟨by unfold aTable; rw [if_pos ⟨c6, c15⟩, hz, if_neg c38, if_pos c115, hz2, if_neg (show ¬ k = nI 0 from c122), if_neg c137, if_neg c152], rfl⟩
        · refine go_aload_n dR_table_45 rfl rfl ?_
          refine go_getO (a := 167) dR_table_46 flR_19 rfl (hS.s sh_163) (hS.r rt_many) ?_
          refine go_iload dR_table_49 rfl ?_
          first | refine go_ialV (hS.s sh_167) (by omega) (by decide) (by assumption) dR_table_51 ?_ | refine go_ialoadN (hS.s sh_167) (by omega) (by decide) dR_table_51 ?_
          refine go_goto dR_table_52 (tgt := 100) (by decide) ?_
          refine go_ireturn rfl dR_table_100 ?_
          first | exact ⟨by unfold aTable; rw [if_neg (fun q => absurd q.1 (by rw [c6]; decide))], rfl⟩ | exact ⟨by unfold aTable; rw [if_neg (fun q => absurd q.2 (by rw [c15]; decide))], rfl⟩ | exact ⟨by unfold aTable; rw [if_pos ⟨c6, c15⟩, hz, if_pos c38, if_pos (show k = nI 0 from c42)], rfl⟩ | exact ⟨by unfold aTable; rw [if_pos ⟨c6, c15⟩, hz, if_pos c38, if_neg (show ¬ k = nI 0 from c42), if_pos c57], rfl⟩ | exact ⟨by unfold aTable; rw [if_pos ⟨c6, c15⟩, hz, if_pos c38, if_neg (show ¬ k = nI 0 from c42), if_neg c57, if_pos c72], rfl⟩ | exact ⟨by unfold aTable; rw [if_pos ⟨c6, c15⟩, hz, if_pos c38, if_neg (show ¬ k = nI 0 from c42), if_neg c57, if_neg c72, c92]; rfl, rfl⟩ | exact ⟨by unfold aTable; rw [if_pos ⟨c6, c15⟩, hz, if_neg c38, if_neg (fun q => absurd q (by rw [c115]; decide))], rfl⟩ | exact ⟨by unfold aTable; rw [if_pos ⟨c6, c15⟩, hz, if_neg c38, if_pos c115, hz2, if_pos (show k = nI 0 from c122)], rfl⟩ | exact ⟨by unfold aTable; rw [if_pos ⟨c6, c15⟩, hz, if_neg c38, if_pos c115, hz2, if_neg (show ¬ k = nI 0 from c122), if_pos c137], rfl⟩ | exact ⟨by unfold aTable; rw [if_pos ⟨c6, c15⟩, hz, if_neg c38, if_pos c115, hz2, if_neg (show ¬ k = nI 0 from c122), if_neg c137, if_pos c152], rfl⟩ | exact ⟨by unfold aTable; rw [if_pos ⟨c6, c15⟩, hz, if_neg c38, if_pos c115, hz2, if_neg (show ¬ k = nI 0 from c122), if_neg c137, if_neg c152], rfl⟩
    · refine go_iconst (-1) (by decide) dR_table_18 ?_
      refine go_ireturn rfl dR_table_19 ?_
      first | exact ⟨by unfold aTable; rw [if_neg (fun q => absurd q.1 (by rw [c6]; decide))], rfl⟩ | exact ⟨by unfold aTable; rw [if_neg (fun q => absurd q.2 (by rw [c15]; decide))], rfl⟩ | exact ⟨by unfold aTable; rw [if_pos ⟨c6, c15⟩, hz, if_pos c38, if_pos (show k = nI 0 from c42)], rfl⟩ | exact ⟨by unfold aTable; rw [if_pos ⟨c6, c15⟩, hz, if_pos c38, if_neg (show ¬ k = nI 0 from c42), if_pos c57], rfl⟩ | exact ⟨by unfold aTable; rw [if_pos ⟨c6, c15⟩, hz, if_pos c38, if_neg (show ¬ k = nI 0 from c42), if_neg c57, if_pos c72], rfl⟩ | exact ⟨by unfold aTable; rw [if_pos ⟨c6, c15⟩, hz, if_pos c38, if_neg (show ¬ k = nI 0 from c42), if_neg c57, if_neg c72, c92]; rfl, rfl⟩ | exact ⟨by unfold aTable; rw [if_pos ⟨c6, c15⟩, hz, if_neg c38, if_neg (fun q => absurd q (by rw [c115]; decide))], rfl⟩ | exact ⟨by unfold aTable; rw [if_pos ⟨c6, c15⟩, hz, if_neg c38, if_pos c115, hz2, if_pos (show k = nI 0 from c122)], rfl⟩ | exact ⟨by unfold aTable; rw [if_pos ⟨c6, c15⟩, hz, if_neg c38, if_pos c115, hz2, if_neg (show ¬ k = nI 0 from c122), if_pos c137], rfl⟩ | exact ⟨by unfold aTable; rw [if_pos ⟨c6, c15⟩, hz, if_neg c38, if_pos c115, hz2, if_neg (show ¬ k = nI 0 from c122), if_neg c137, if_pos c152], rfl⟩ | exact ⟨by unfold aTable; rw [if_pos ⟨c6, c15⟩, hz, if_neg c38, if_pos c115, hz2, if_neg (show ¬ k = nI 0 from c122), if_neg c137, if_neg c152], rfl⟩
set_option maxRecDepth 100000 in
theorem okR_ran (w : am_W) {d : Nat} (hd : 3 ≤ d) (G : am_G) (s : sT) (k : Int32) (hS : St0 G) (hc : rS G s) (hv : sV s) : am_Ok w jR_ran d (0, 0) [.inr (some 163), .inl k] G (fun r G' => r = some (.inl (aRan s k)) ∧ G' = G) := by
  refine am_ok_of rfl (Nat.le_of_ble_eq_true rfl) ?_
  show am_Go w jR_ran d (0, 0) 0 [some (.inr (some 163)), some (.inl k)] [] G _
  obtain ⟨l1, l2, l3, l4, l5, l6, l7⟩ := hc.2.2
  refine go_iload_n dR_ran_0 rfl rfl ?_
  refine go_if_ne dR_ran_1 (tgt := 11) (by decide) (fun c1 => ?_) (fun c1 => ?_)
  · refine go_iload_n dR_ran_11 rfl rfl ?_
    refine go_iconst (nI 1) (by decide) dR_ran_12 ?_
    refine go_icmp_ne dR_ran_13 (tgt := 23) (by decide) (fun c13 => ?_) (fun c13 => ?_)
    · refine go_iload_n dR_ran_23 rfl rfl ?_
      refine go_iconst (nI 2) (by decide) dR_ran_24 ?_
      refine go_icmp_ne dR_ran_25 (tgt := 35) (by decide) (fun c25 => ?_) (fun c25 => ?_)
      · refine go_iload_n dR_ran_35 rfl rfl ?_
        refine go_iconst (nI 3) (by decide) dR_ran_36 ?_
        refine go_icmp_ne dR_ran_37 (tgt := 47) (by decide) (fun c37 => ?_) (fun c37 => ?_)
        · refine go_iload_n dR_ran_47 rfl rfl ?_
          refine go_iconst (nI 4) (by decide) dR_ran_48 ?_
          refine go_icmp_ne dR_ran_49 (tgt := 59) (by decide) (fun c49 => ?_) (fun c49 => ?_)
          · refine go_iload_n dR_ran_59 rfl rfl ?_
            refine go_iconst (nI 5) (by decide) dR_ran_60 ?_
            refine go_icmp_ne dR_ran_61 (tgt := 71) (by decide) (fun c61 => ?_) (fun c61 => ?_)
            · refine go_iconst (-1) (by decide) dR_ran_71 ?_
              refine go_ireturn rfl dR_ran_72 ?_
              first | exact ⟨by unfold aRan; rw [if_pos (show k = nI 0 from c1)], rfl⟩ | exact ⟨by unfold aRan; rw [if_neg (show ¬ k = nI 0 from c1), if_pos c13], rfl⟩ | exact ⟨by unfold aRan; rw [if_neg (show ¬ k = nI 0 from c1), if_neg c13, if_pos c25], rfl⟩ | exact ⟨by unfold aRan; rw [if_neg (show ¬ k = nI 0 from c1), if_neg c13, if_neg c25, if_pos c37], rfl⟩ | exact ⟨by unfold aRan; rw [if_neg (show ¬ k = nI 0 from c1), if_neg c13, if_neg c25, if_neg c37, if_pos c49], rfl⟩ | exact ⟨by unfold aRan; rw [if_neg (show ¬ k = nI 0 from c1), if_neg c13, if_neg c25, if_neg c37, if_neg c49, if_pos c61], rfl⟩ | exact ⟨by unfold aRan; rw [if_neg (show ¬ k = nI 0 from c1), if_neg c13, if_neg c25, if_neg c37, if_neg c49, if_neg c61], rfl⟩
            · refine go_aload_n dR_ran_64 rfl rfl ?_
              refine go_getV dR_ran_65 flR_216 rfl (hS.s sh_163) (by first | assumption | (simp (disch := omega) only [wi_I, ro_I, wi_In, wi_Is]; done) | (simp (disch := omega) only [wi_I, ro_I, wi_In, wi_Is]; first | assumption | rfl) | rfl) ?_
              refine go_goto dR_ran_68 (tgt := 72) (by decide) ?_
              refine go_ireturn rfl dR_ran_72 ?_
              first | exact ⟨by unfold aRan; rw [if_pos (show k = nI 0 from c1)], rfl⟩ | exact ⟨by unfold aRan; rw [if_neg (show ¬ k = nI 0 from c1), if_pos c13], rfl⟩ | exact ⟨by unfold aRan; rw [if_neg (show ¬ k = nI 0 from c1), if_neg c13, if_pos c25], rfl⟩ | exact ⟨by unfold aRan; rw [if_neg (show ¬ k = nI 0 from c1), if_neg c13, if_neg c25, if_pos c37], rfl⟩ | exact ⟨by unfold aRan; rw [if_neg (show ¬ k = nI 0 from c1), if_neg c13, if_neg c25, if_neg c37, if_pos c49], rfl⟩ | exact ⟨by unfold aRan; rw [if_neg (show ¬ k = nI 0 from c1), if_neg c13, if_neg c25, if_neg c37, if_neg c49, if_pos c61], rfl⟩ | exact ⟨by unfold aRan; rw [if_neg (show ¬ k = nI 0 from c1), if_neg c13, if_neg c25, if_neg c37, if_neg c49, if_neg c61], rfl⟩
          · refine go_aload_n dR_ran_52 rfl rfl ?_
            refine go_getV dR_ran_53 flR_191 rfl (hS.s sh_163) (by first | assumption | (simp (disch := omega) only [wi_I, ro_I, wi_In, wi_Is]; done) | (simp (disch := omega) only [wi_I, ro_I, wi_In, wi_Is]; first | assumption | rfl) | rfl) ?_
            refine go_goto dR_ran_56 (tgt := 72) (by decide) ?_
            refine go_ireturn rfl dR_ran_72 ?_
            first | exact ⟨by unfold aRan; rw [if_pos (show k = nI 0 from c1)], rfl⟩ | exact ⟨by unfold aRan; rw [if_neg (show ¬ k = nI 0 from c1), if_pos c13], rfl⟩ | exact ⟨by unfold aRan; rw [if_neg (show ¬ k = nI 0 from c1), if_neg c13, if_pos c25], rfl⟩ | exact ⟨by unfold aRan; rw [if_neg (show ¬ k = nI 0 from c1), if_neg c13, if_neg c25, if_pos c37], rfl⟩ | exact ⟨by unfold aRan; rw [if_neg (show ¬ k = nI 0 from c1), if_neg c13, if_neg c25, if_neg c37, if_pos c49], rfl⟩ | exact ⟨by unfold aRan; rw [if_neg (show ¬ k = nI 0 from c1), if_neg c13, if_neg c25, if_neg c37, if_neg c49, if_pos c61], rfl⟩ | exact ⟨by unfold aRan; rw [if_neg (show ¬ k = nI 0 from c1), if_neg c13, if_neg c25, if_neg c37, if_neg c49, if_neg c61], rfl⟩
        · refine go_aload_n dR_ran_40 rfl rfl ?_
          refine go_getV dR_ran_41 flR_206 rfl (hS.s sh_163) (by first | assumption | (simp (disch := omega) only [wi_I, ro_I, wi_In, wi_Is]; done) | (simp (disch := omega) only [wi_I, ro_I, wi_In, wi_Is]; first | assumption | rfl) | rfl) ?_
          refine go_goto dR_ran_44 (tgt := 72) (by decide) ?_
          refine go_ireturn rfl dR_ran_72 ?_
          first | exact ⟨by unfold aRan; rw [if_pos (show k = nI 0 from c1)], rfl⟩ | exact ⟨by unfold aRan; rw [if_neg (show ¬ k = nI 0 from c1), if_pos c13], rfl⟩ | exact ⟨by unfold aRan; rw [if_neg (show ¬ k = nI 0 from c1), if_neg c13, if_pos c25], rfl⟩ | exact ⟨by unfold aRan; rw [if_neg (show ¬ k = nI 0 from c1), if_neg c13, if_neg c25, if_pos c37], rfl⟩ | exact ⟨by unfold aRan; rw [if_neg (show ¬ k = nI 0 from c1), if_neg c13, if_neg c25, if_neg c37, if_pos c49], rfl⟩ | exact ⟨by unfold aRan; rw [if_neg (show ¬ k = nI 0 from c1), if_neg c13, if_neg c25, if_neg c37, if_neg c49, if_pos c61], rfl⟩ | exact ⟨by unfold aRan; rw [if_neg (show ¬ k = nI 0 from c1), if_neg c13, if_neg c25, if_neg c37, if_neg c49, if_neg c61], rfl⟩
      · refine go_aload_n dR_ran_28 rfl rfl ?_
        refine go_getV dR_ran_29 flR_194 rfl (hS.s sh_163) (by first | assumption | (simp (disch := omega) only [wi_I, ro_I, wi_In, wi_Is]; done) | (simp (disch := omega) only [wi_I, ro_I, wi_In, wi_Is]; first | assumption | rfl) | rfl) ?_
        refine go_goto dR_ran_32 (tgt := 72) (by decide) ?_
        refine go_ireturn rfl dR_ran_72 ?_
        first | exact ⟨by unfold aRan; rw [if_pos (show k = nI 0 from c1)], rfl⟩ | exact ⟨by unfold aRan; rw [if_neg (show ¬ k = nI 0 from c1), if_pos c13], rfl⟩ | exact ⟨by unfold aRan; rw [if_neg (show ¬ k = nI 0 from c1), if_neg c13, if_pos c25], rfl⟩ | exact ⟨by unfold aRan; rw [if_neg (show ¬ k = nI 0 from c1), if_neg c13, if_neg c25, if_pos c37], rfl⟩ | exact ⟨by unfold aRan; rw [if_neg (show ¬ k = nI 0 from c1), if_neg c13, if_neg c25, if_neg c37, if_pos c49], rfl⟩ | exact ⟨by unfold aRan; rw [if_neg (show ¬ k = nI 0 from c1), if_neg c13, if_neg c25, if_neg c37, if_neg c49, if_pos c61], rfl⟩ | exact ⟨by unfold aRan; rw [if_neg (show ¬ k = nI 0 from c1), if_neg c13, if_neg c25, if_neg c37, if_neg c49, if_neg c61], rfl⟩
    · refine go_aload_n dR_ran_16 rfl rfl ?_
      refine go_getV dR_ran_17 flR_264 rfl (hS.s sh_163) (by first | assumption | (simp (disch := omega) only [wi_I, ro_I, wi_In, wi_Is]; done) | (simp (disch := omega) only [wi_I, ro_I, wi_In, wi_Is]; first | assumption | rfl) | rfl) ?_
      refine go_goto dR_ran_20 (tgt := 72) (by decide) ?_
      refine go_ireturn rfl dR_ran_72 ?_
      first | exact ⟨by unfold aRan; rw [if_pos (show k = nI 0 from c1)], rfl⟩ | exact ⟨by unfold aRan; rw [if_neg (show ¬ k = nI 0 from c1), if_pos c13], rfl⟩ | exact ⟨by unfold aRan; rw [if_neg (show ¬ k = nI 0 from c1), if_neg c13, if_pos c25], rfl⟩ | exact ⟨by unfold aRan; rw [if_neg (show ¬ k = nI 0 from c1), if_neg c13, if_neg c25, if_pos c37], rfl⟩ | exact ⟨by unfold aRan; rw [if_neg (show ¬ k = nI 0 from c1), if_neg c13, if_neg c25, if_neg c37, if_pos c49], rfl⟩ | exact ⟨by unfold aRan; rw [if_neg (show ¬ k = nI 0 from c1), if_neg c13, if_neg c25, if_neg c37, if_neg c49, if_pos c61], rfl⟩ | exact ⟨by unfold aRan; rw [if_neg (show ¬ k = nI 0 from c1), if_neg c13, if_neg c25, if_neg c37, if_neg c49, if_neg c61], rfl⟩
  · refine go_aload_n dR_ran_4 rfl rfl ?_
    refine go_getV dR_ran_5 flR_241 rfl (hS.s sh_163) (by first | assumption | (simp (disch := omega) only [wi_I, ro_I, wi_In, wi_Is]; done) | (simp (disch := omega) only [wi_I, ro_I, wi_In, wi_Is]; first | assumption | rfl) | rfl) ?_
    refine go_goto dR_ran_8 (tgt := 72) (by decide) ?_
    refine go_ireturn rfl dR_ran_72 ?_
    first | exact ⟨by unfold aRan; rw [if_pos (show k = nI 0 from c1)], rfl⟩ | exact ⟨by unfold aRan; rw [if_neg (show ¬ k = nI 0 from c1), if_pos c13], rfl⟩ | exact ⟨by unfold aRan; rw [if_neg (show ¬ k = nI 0 from c1), if_neg c13, if_pos c25], rfl⟩ | exact ⟨by unfold aRan; rw [if_neg (show ¬ k = nI 0 from c1), if_neg c13, if_neg c25, if_pos c37], rfl⟩ | exact ⟨by unfold aRan; rw [if_neg (show ¬ k = nI 0 from c1), if_neg c13, if_neg c25, if_neg c37, if_pos c49], rfl⟩ | exact ⟨by unfold aRan; rw [if_neg (show ¬ k = nI 0 from c1), if_neg c13, if_neg c25, if_neg c37, if_neg c49, if_pos c61], rfl⟩ | exact ⟨by unfold aRan; rw [if_neg (show ¬ k = nI 0 from c1), if_neg c13, if_neg c25, if_neg c37, if_neg c49, if_neg c61], rfl⟩
set_option maxRecDepth 100000 in
theorem okR_trace (w : am_W) {d : Nat} (hd : 3 ≤ d) (G : am_G) (s : sT) (x : Int32) (hS : St0 G) (hc : rS G s) (hv : sV s) : am_Ok w jR_trace d (0, 0) [.inr (some 163), .inl x] G (fun r G' => r = some (.inl (aTrace s x)) ∧ G' = G) := by
  refine am_ok_of rfl (Nat.le_of_ble_eq_true rfl) ?_
  show am_Go w jR_trace d (0, 0) 0 [some (.inr (some 163)), some (.inl x)] [] G _
  obtain ⟨l1, l2, l3, l4, l5, l6, l7⟩ := hc.2.2
  have hl : lE s.2.2 < 100000 := hv.2.2.2.2.2.1
  replace l5 : G.2.1 163 39 = nI (lE s.2.2) := l5
  refine go_iload_n dR_trace_0 rfl rfl ?_
  refine go_iconst (nI 0) (by decide) dR_trace_1 ?_
  refine go_aload_n dR_trace_2 rfl rfl ?_
  refine go_getV dR_trace_3 flR_191 rfl (hS.s sh_163) (by first | assumption | (simp (disch := omega) only [wi_I, ro_I, wi_In, wi_Is]; done) | (simp (disch := omega) only [wi_I, ro_I, wi_In, wi_Is]; first | assumption | rfl) | rfl) ?_
  refine go_bipush (nI 120) (by decide) dR_trace_6 ?_
  refine go_icmp_geN (by omega) (by omega) dR_trace_8 (tgt := 18) (by decide) (fun c8 => ?_) (fun c8 => ?_)
  · refine go_bipush (nI 120) (by decide) dR_trace_18 ?_
    first | (refine go_top (show nI 120 = nI (min (lE s.2.2) 120) by rw [Nat.min_eq_right c8]) ?_) | (refine go_top (show nI (lE s.2.2) = nI (min (lE s.2.2) 120) by rw [Nat.min_eq_left (Nat.le_of_lt c8)]) ?_)
    refine go_iconst (nI 1) (by decide) dR_trace_20 ?_
    refine go_isub dR_trace_21 ?_
    refine go_cS (k' := (0, 0)) dR_trace_22 _ csR_123 stR_in rfl (okR_inN (d := 0) w G x (min (lE s.2.2) 120) (by omega)) (by omega) (by decide) (Nat.le_of_ble_eq_true rfl) (fun r G1 hr hn => ?_)
    obtain ⟨rfl, hG⟩ := hr
    rw [hG]
    clear hG hn
    refine go_if_eqB dR_trace_25 (tgt := 37) (by decide) (fun c25 => ?_) (fun c25 => ?_)
    · refine go_bipush (-2) (by decide) dR_trace_37 ?_
      refine go_ireturn rfl dR_trace_39 ?_
      first | exact ⟨by unfold aTrace; rw [if_neg (fun q => absurd q (by rw [c25]; decide))], rfl⟩ | exact ⟨by unfold aTrace; rw [if_pos c25, nI_clamp (by omega)], rfl⟩
    · obtain ⟨i, hi, rfl⟩ := bel_of c25 (by omega)
      have l8 := l7 i (by unfold lE at hi; omega) (by omega)
      refine go_aload_n dR_trace_28 rfl rfl ?_
      refine go_getO (a := 191) dR_trace_29 flR_92 rfl (hS.s sh_163) (hS.r rt_trace) ?_
      refine go_iload_n dR_trace_32 rfl rfl ?_
      first | refine go_ialV (hS.s sh_191) (by omega) (by decide) (by assumption) dR_trace_33 ?_ | refine go_ialoadN (hS.s sh_191) (by omega) (by decide) dR_trace_33 ?_
      refine go_goto dR_trace_34 (tgt := 39) (by decide) ?_
      refine go_ireturn rfl dR_trace_39 ?_
      first | exact ⟨by unfold aTrace; rw [if_neg (fun q => absurd q (by rw [c25]; decide))], rfl⟩ | exact ⟨by unfold aTrace; rw [if_pos c25, nI_clamp (by omega)], rfl⟩
  · refine go_aload_n dR_trace_11 rfl rfl ?_
    refine go_getV dR_trace_12 flR_191 rfl (hS.s sh_163) (by first | assumption | (simp (disch := omega) only [wi_I, ro_I, wi_In, wi_Is]; done) | (simp (disch := omega) only [wi_I, ro_I, wi_In, wi_Is]; first | assumption | rfl) | rfl) ?_
    refine go_goto dR_trace_15 (tgt := 20) (by decide) ?_
    first | (refine go_top (show nI 120 = nI (min (lE s.2.2) 120) by rw [Nat.min_eq_right c8]) ?_) | (refine go_top (show nI (lE s.2.2) = nI (min (lE s.2.2) 120) by rw [Nat.min_eq_left (Nat.le_of_lt c8)]) ?_)
    refine go_iconst (nI 1) (by decide) dR_trace_20 ?_
    refine go_isub dR_trace_21 ?_
    refine go_cS (k' := (0, 0)) dR_trace_22 _ csR_123 stR_in rfl (okR_inN (d := 0) w G x (min (lE s.2.2) 120) (by omega)) (by omega) (by decide) (Nat.le_of_ble_eq_true rfl) (fun r G1 hr hn => ?_)
    obtain ⟨rfl, hG⟩ := hr
    rw [hG]
    clear hG hn
    refine go_if_eqB dR_trace_25 (tgt := 37) (by decide) (fun c25 => ?_) (fun c25 => ?_)
    · refine go_bipush (-2) (by decide) dR_trace_37 ?_
      refine go_ireturn rfl dR_trace_39 ?_
      first | exact ⟨by unfold aTrace; rw [if_neg (fun q => absurd q (by rw [c25]; decide))], rfl⟩ | exact ⟨by unfold aTrace; rw [if_pos c25, nI_clamp (by omega)], rfl⟩
    · obtain ⟨i, hi, rfl⟩ := bel_of c25 (by omega)
      have l8 := l7 i (by unfold lE at hi; omega) (by omega)
      refine go_aload_n dR_trace_28 rfl rfl ?_
      refine go_getO (a := 191) dR_trace_29 flR_92 rfl (hS.s sh_163) (hS.r rt_trace) ?_
      refine go_iload_n dR_trace_32 rfl rfl ?_
      first | refine go_ialV (hS.s sh_191) (by omega) (by decide) (by assumption) dR_trace_33 ?_ | refine go_ialoadN (hS.s sh_191) (by omega) (by decide) dR_trace_33 ?_
      refine go_goto dR_trace_34 (tgt := 39) (by decide) ?_
      refine go_ireturn rfl dR_trace_39 ?_
      first | exact ⟨by unfold aTrace; rw [if_neg (fun q => absurd q (by rw [c25]; decide))], rfl⟩ | exact ⟨by unfold aTrace; rw [if_pos c25, nI_clamp (by omega)], rfl⟩
