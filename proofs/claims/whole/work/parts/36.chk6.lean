theorem fCnt_up {S : fM} {q : Nat} {y : fS} (h : S q = none) : ∀ n, fCnt (va_up S q (some y)) n = fCnt S n + if q < n then 1 else 0
  | 0 => rfl
  | n + 1 => by
    have ih := fCnt_up (y := y) h n
    have e1 : fCnt (va_up S q (some y)) (n + 1) = fCnt (va_up S q (some y)) n + (if ((va_up S q (some y)) n).isSome = true then 1 else 0) := rfl
    have e2 : fCnt S (n + 1) = fCnt S n + (if (S n).isSome = true then 1 else 0) := rfl
    by_cases e : n = q
    · have a1 : ((va_up S q (some y)) n).isSome = true := by rw [e, am_up_eq]; rfl
      have a2 : ¬ (S n).isSome = true := by rw [e, h]; simp
      rw [if_pos a1] at e1
      rw [if_neg a2] at e2
      rw [if_neg (show ¬ q < n by omega)] at ih
      rw [if_pos (show q < n + 1 by omega)]
      omega
    · rw [am_up_ne e] at e1
      by_cases e3 : q < n
      · rw [if_pos e3] at ih
        rw [if_pos (show q < n + 1 by omega)]
        omega
      · rw [if_neg e3] at ih
        rw [if_neg (show ¬ q < n + 1 by omega)]
        omega
theorem fCnt_le (S : fM) : ∀ n, fCnt S n ≤ n
  | 0 => Nat.le_refl 0
  | n + 1 => by
    show fCnt S n + (if (S n).isSome = true then 1 else 0) ≤ n + 1
    have := fCnt_le S n
    split <;> omega
def newF (G : am_G) (q wa d k : Nat) : am_G := am_wi (am_wi (am_wi (am_wi (am_ro G 104 (va_cpy (G.2.1 wa) (G.2.1 104) 0 (16 * q) 16)) 103 q (nI d)) 105 q (am_b true)) 106 q (am_b true)) 102 1 (nI (k + 1))
theorem newF_o {G : am_G} {q wa d k : Nat} : oK G (newF G q wa d k) := ((((oK.ro ⟨by omega, by omega⟩).tr (oK.wi ⟨by omega, by omega⟩)).tr (oK.wi ⟨by omega, by omega⟩)).tr (oK.wi ⟨by omega, by omega⟩)).tr oK.p
theorem ckI.new {G : am_G} {M : mT} {S : fM} {Wt : Nat → Bool} {c : Bool} {q wa : Nat} {y : fS} (h : ckI G M S Wt c) (hq : q < mN M) (hn : S q = none) (hw : wayC G wa y) (hy : fB y) : ckI (newF G q wa y.1 (fCnt S (mN M))) M (va_up S q (some y)) (va_up Wt q true) c := by
  unfold newF
  refine ⟨?_, ?_, ?_, fun p hp => ?_⟩
  · rw [wi_In (by decide), wi_I (by decide), wi_I (by decide), wi_I (by decide), ro_I (by decide)]; exact h.1
  · rw [wi_In (by decide), wi_I (by decide), wi_I (by decide), wi_I (by decide), ro_I (by decide)]; exact h.2.1
  · rw [wi_Is, fCnt_up hn, if_pos hq]
  · have r3 : ∀ i, (am_wi (am_wi (am_wi (am_wi (am_ro G 104 (va_cpy (G.2.1 wa) (G.2.1 104) 0 (16 * q) 16)) 103 q (nI y.1)) 105 q (am_b true)) 106 q (am_b true)) 102 1 (nI (fCnt S (mN M) + 1))).2.1 103 i = if i = q then nI y.1 else G.2.1 103 i := fun i => by
      rw [wi_I (by decide), wi_I (by decide), wi_I (by decide), wi_at, ro_I (by decide)]
    have r4 : ∀ i, (am_wi (am_wi (am_wi (am_wi (am_ro G 104 (va_cpy (G.2.1 wa) (G.2.1 104) 0 (16 * q) 16)) 103 q (nI y.1)) 105 q (am_b true)) 106 q (am_b true)) 102 1 (nI (fCnt S (mN M) + 1))).2.1 104 i = va_cpy (G.2.1 wa) (G.2.1 104) 0 (16 * q) 16 i := fun i => by
      rw [wi_I (by decide), wi_I (by decide), wi_I (by decide), wi_I (by decide), ro_Is]
    have r5 : ∀ i, (am_wi (am_wi (am_wi (am_wi (am_ro G 104 (va_cpy (G.2.1 wa) (G.2.1 104) 0 (16 * q) 16)) 103 q (nI y.1)) 105 q (am_b true)) 106 q (am_b true)) 102 1 (nI (fCnt S (mN M) + 1))).2.1 105 i = if i = q then am_b true else G.2.1 105 i := fun i => by
      rw [wi_I (by decide), wi_I (by decide), wi_at, wi_I (by decide), ro_I (by decide)]
    have r6 : ∀ i, (am_wi (am_wi (am_wi (am_wi (am_ro G 104 (va_cpy (G.2.1 wa) (G.2.1 104) 0 (16 * q) 16)) 103 q (nI y.1)) 105 q (am_b true)) 106 q (am_b true)) 102 1 (nI (fCnt S (mN M) + 1))).2.1 106 i = if i = q then am_b true else G.2.1 106 i := fun i => by
      rw [wi_I (by decide), wi_at, wi_I (by decide), wi_I (by decide), ro_I (by decide)]
    by_cases e : p = q
    · subst e
      rw [am_up_eq, am_up_eq]
      refine ⟨by rw [r5, if_pos rfl]; rfl, by rw [r6, if_pos rfl], fun x hx => ?_⟩
      cases hx
      refine ⟨by rw [r3, if_pos rfl], fun i hi => ?_, fun i hi => ?_, hy⟩
      · rw [r4, pk_cpy_in (by omega) (by have := hy.1; omega), show 0 + (16 * p + i - 16 * p) = i by omega]; exact hw.1 i hi
      · rw [r4, pk_cpy_in (by omega) (by omega), show 0 + (16 * p + (8 + i) - 16 * p) = 8 + i by omega]; exact hw.2 i hi
    · rw [am_up_ne e, am_up_ne e]
      exact (h.2.2.2 p hp).same (by rw [r3, if_neg e]) (fun i hi => by rw [r4, pk_cpy_out (by omega)]) (by rw [r5, if_neg e]) (by rw [r6, if_neg e])
section Cc
variable {M : mT} {t : cT} {q : Nat} {y z : fS}
theorem cCome_out (h : ¬ q < mN M) : cCome M t q y = (t.1, t.2.1, true) := by unfold cCome; rw [if_neg h]
theorem cCome_met (h : q < mN M) (hz : t.1 q = some z) : cCome M t q y = (va_up t.1 q (some (z.1, z.2.1, cMeetL z y)), (fun p => t.2.1 p || (decide (p = q) && cDf z y 8)), t.2.2 || !(decide (z.1 = y.1) && cSm z y y.1)) := by
  unfold cCome; rw [if_pos h, hz]
theorem cCome_new (h : q < mN M) (hz : t.1 q = none) : cCome M t q y = (va_up t.1 q (some y), (if mO M q = 23 then cBk M (va_up t.1 q (some y)) (va_up t.2.1 q true) else va_up t.2.1 q true), t.2.2) := by
  unfold cCome; rw [if_pos h, hz]
end Cc
/-- the checker's state as one: (S, waiting, wrong) -/
def ckT (G : am_G) (M : mT) (t : cT) : Prop := ckI G M t.1 t.2.1 t.2.2
/-- the method object m holds M's code and rows (what the checker reads) -/
def hldM (G : am_G) (m : Nat) (M : mT) : Prop := isM G m ∧ cM G m M ∧ mV M ∧ (m + 8 ≤ 102 ∨ 109 ≤ m)
theorem hldM.same {G G' : am_G} {m : Nat} {M : mT} (h : hldM G m M) (ho : oR (fun i => 102 ≤ i ∧ i ≤ 108) G G') : hldM G' m M :=
  ⟨ho.im h.1, h.2.1.same (fun i h1 h2 => ho.2.2 i (by have := h.2.2.2; omega)), h.2.2.1, h.2.2.2⟩
theorem oK.up {G G' : am_G} (h : oK G G') : oR (fun i => 102 ≤ i ∧ i ≤ 108) G G' := h.1.up (fun i h => by omega)
theorem oC.up {G G' : am_G} (h : oC G G') : oR (fun i => 102 ≤ i ∧ i ≤ 108) G G' := h.1.up (fun i h => by omega)

set_option maxRecDepth 100000 in
theorem okC_comeTo (w : am_W) {d : Nat} (hd : 1 ≤ d) (G : am_G) (m : Nat) (M : mT) (t : cT) (q wa : Nat) (y : fS) (hq : q < 1000) (hwa : wa = 107 ∨ wa = 108) (hy : fB y) (hS : St0 G) (hM : hldM G m M) (hw : wayC G wa y) (hI : ckT G M t) : am_Ok w jC_comeTo d (0, 0) [.inr (some 102), .inr (some m), .inl (nI q), .inr (some wa), .inl (nI y.1)] G (fun r G' => r = none ∧ ckT G' M (cCome M t q y) ∧ oK G G') := by
  refine am_ok_of rfl (Nat.le_of_ble_eq_true rfl) ?_
  show am_Go w jC_comeTo d (0, 0) 0 [some (.inr (some 102)), some (.inr (some m)), some (.inl (nI q)), some (.inr (some wa)), some (.inl (nI y.1))] [] G _
  have hMm := hM.1
  obtain ⟨hs, ⟨r0, r1, r2, r3, r4, r5, r6⟩, s1, s2, s3, s4, s5, s6, s7⟩ := hMm
  have q1 : G.1[102]? = some (0, 3) := hS.s rfl
  have q2 : G.1[103]? = some (1, 60) := hS.s rfl
  have q3 : G.1[104]? = some (1, 960) := hS.s rfl
  have q4 : G.1[105]? = some (2, 60) := hS.s rfl
  have q5 : G.1[106]? = some (2, 60) := hS.s rfl
  have q6 : G.2.2 102 0 = some 103 := hS.r ck_r0
  have q7 : G.2.2 102 2 = some 104 := hS.r ck_r2
  have q8 : G.2.2 102 3 = some 105 := hS.r ck_r3
  have q9 : G.2.2 102 4 = some 106 := hS.r ck_r4
  have q10 : G.1[wa]? = some (1, 16) := by rcases hwa with e | e <;> rw [e] <;> exact hS.s rfl
  have hsz := hI.1
  have hn6 := hM.2.2.1.1
  have hy8 := hy.1
  have hcn := hI.2.2.1
  have hcl := fCnt_le t.1 (mN M)
  refine go_iload_n dC_comeTo_0 rfl rfl ?_
  refine go_aload_n dC_comeTo_1 rfl rfl ?_
  refine go_getV dC_comeTo_2 flC_45 rfl (by assumption) (by first | assumption | (simp (disch := omega) only [wi_I, ro_I, wi_In, wi_Is]; done) | (simp (disch := omega) only [wi_I, ro_I, wi_In, wi_Is]; first | assumption | rfl) | rfl) ?_
  refine go_cS (k' := (0, 0)) dC_comeTo_5 _ csC_53 stF_isBelow rfl (okF_below (d := 0) w G (nI q) (mN M) (by omega)) (by omega) (by decide) (Nat.le_of_ble_eq_true rfl) (fun r G1 hr hn => ?_)
  obtain ⟨rfl, hG⟩ := hr
  rw [hG]
  clear hG hn
  rw [bel_nI (by omega)]
  refine go_if_neB dC_comeTo_8 (tgt := 19) (by decide) (fun c8 => ?_) (fun c8 => ?_)
  · have c8a := of_decide_eq_true c8
    obtain ⟨a1, a2, a3⟩ := hI.2.2.2 q c8a
    have hop := (hM.2.1.2.1 q c8a).1
    have hop28 := (hM.2.2.1.2.2.2.1 q c8a).1
    refine go_aload_n dC_comeTo_19 rfl rfl ?_
    refine go_getO dC_comeTo_20 flC_18 rfl (by assumption) (by assumption) ?_
    refine go_iload_n dC_comeTo_23 rfl rfl ?_
    refine go_balV q4 (by omega) (by decide) a1 dC_comeTo_24 ?_
    refine go_if_eqB dC_comeTo_25 (tgt := 39) (by decide) (fun c25 => ?_) (fun c25 => ?_)
    · have hz : t.1 q = none := by cases e : t.1 q with | none => rfl | some u => rw [e] at c25; cases c25
      refine go_aload_n dC_comeTo_39 rfl rfl ?_
      refine go_iconst (nI 0) (by decide) dC_comeTo_40 ?_
      refine go_aload_n dC_comeTo_41 rfl rfl ?_
      refine go_getO dC_comeTo_42 flC_15 rfl (by assumption) (by assumption) ?_
      refine go_iload_n dC_comeTo_45 rfl rfl ?_
      refine go_bipush (nI 16) (by decide) dC_comeTo_46 ?_
      refine go_imul dC_comeTo_48 ?_
      rw [pk_mul, Nat.mul_comm]
      refine go_bipush (nI 16) (by decide) dC_comeTo_49 ?_
      refine go_cp dC_comeTo_51 lkC_73 (by omega) q10 q3 (by omega) (by omega) (by decide) (by decide) (Nat.le_of_ble_eq_true rfl) ?_
      refine go_aload_n dC_comeTo_54 rfl rfl ?_
      refine go_getO dC_comeTo_55 flC_9 rfl (by assumption) (by assumption) ?_
      refine go_iload_n dC_comeTo_58 rfl rfl ?_
      refine go_iload dC_comeTo_59 rfl ?_
      refine go_iastoreN (by assumption) (by omega) (by decide) dC_comeTo_61 ?_
      refine go_aload_n dC_comeTo_62 rfl rfl ?_
      refine go_getO dC_comeTo_63 flC_18 rfl (by assumption) (by assumption) ?_
      refine go_iload_n dC_comeTo_66 rfl rfl ?_
      refine go_iconst (am_b true) (by decide) dC_comeTo_67 ?_
      refine go_bastoreN (am_b_and1 true) (by assumption) (by omega) (by decide) dC_comeTo_68 ?_
      refine go_aload_n dC_comeTo_69 rfl rfl ?_
      refine go_getO dC_comeTo_70 flC_22 rfl (by assumption) (by assumption) ?_
      refine go_iload_n dC_comeTo_73 rfl rfl ?_
      refine go_iconst (am_b true) (by decide) dC_comeTo_74 ?_
      refine go_bastoreN (am_b_and1 true) (by assumption) (by omega) (by decide) dC_comeTo_75 ?_
      refine go_aload_n dC_comeTo_76 rfl rfl ?_
      refine go_dup dC_comeTo_77 ?_
      refine go_getV (v := nI (fCnt t.1 (mN M))) dC_comeTo_78 flC_63 rfl (by assumption) (by rw [wi_I (by decide), wi_I (by decide), wi_I (by decide), ro_I (by decide)]; exact hcn) ?_
      refine go_iconst (nI 1) (by decide) dC_comeTo_81 ?_
      refine go_iadd dC_comeTo_82 ?_
      rw [nI_add]
      refine go_putI dC_comeTo_83 fpC_63 rfl (by assumption) ?_
      refine go_gen (G := newF G q wa y.1 (fCnt t.1 (mN M))) (fun X eX => ?_)
      have oX : oK G X := by rw [eX]; exact newF_o
      have hX : ckI X M (va_up t.1 q (some y)) (va_up t.2.1 q true) t.2.2 := by rw [eX]; exact hI.new c8a hz hw hy
      have SX := oX.St hS
      have MX := hM.same oX.up
      have hMx := MX.1
      obtain ⟨hsx, ⟨x0, r1, r2, r3, r4, r5, r6⟩, y1, s2, s3, s4, s5, s6, s7⟩ := hMx
      have hopx := (MX.2.1.2.1 q c8a).1
      have q1x : X.1[102]? = some (0, 3) := SX.s rfl
      refine go_aload_n dC_comeTo_86 rfl rfl ?_
      refine go_getO dC_comeTo_87 flC_91 rfl (by assumption) (by assumption) ?_
      refine go_iload_n dC_comeTo_90 rfl rfl ?_
      refine go_ialV (by assumption) (by omega) (by decide) hopx dC_comeTo_91 ?_
      refine go_bipush (nI 23) (by decide) dC_comeTo_92 ?_
      refine go_icmp_neN (by omega) (by decide) dC_comeTo_94 (tgt := 102) (by decide) (fun c94 => ?_) (fun c94 => ?_)
      · refine go_return rfl dC_comeTo_102 ?_
        first | exact ⟨rfl, by rw [cCome_out (of_decide_eq_false c8)]; exact ckI.flag hI, oK.w⟩ | exact ⟨rfl, by rw [cCome_met c8a hz]; exact hI1, ho⟩ | exact ⟨rfl, by rw [cCome_new c8a hz, if_neg c94]; exact hX, oX⟩ | exact ⟨rfl, by rw [cCome_new c8a hz, if_pos c94]; exact hI2, oX.tr ho2⟩
      · refine go_aload_n dC_comeTo_97 rfl rfl ?_
        refine go_aload_n dC_comeTo_98 rfl rfl ?_
        refine go_cV (k' := (0, 0)) dC_comeTo_99 [.inr (some m)] csC_136 q1x rfl imC_followBacksAgain seC_followBacksAgain rfl (okC_followBacksAgain (d := 0) w X m M (va_up t.1 q (some y)) (va_up t.2.1 q true) t.2.2 hn6 (fun i hi => (hM.2.2.1.2.2.2.1 i hi).1) SX MX.1 (fun i hi => (MX.2.1.2.1 i hi).1) (by have := hM.2.2.2; omega) hX) (by omega) (by decide) (Nat.le_of_ble_eq_true rfl) (fun r2 G2 hr2 hn2 => ?_)
        obtain ⟨rfl, hI2, ho2⟩ := hr2
        refine go_return rfl dC_comeTo_102 ?_
        first | exact ⟨rfl, by rw [cCome_out (of_decide_eq_false c8)]; exact ckI.flag hI, oK.w⟩ | exact ⟨rfl, by rw [cCome_met c8a hz]; exact hI1, ho⟩ | exact ⟨rfl, by rw [cCome_new c8a hz, if_neg c94]; exact hX, oX⟩ | exact ⟨rfl, by rw [cCome_new c8a hz, if_pos c94]; exact hI2, oX.tr ho2⟩
    · obtain ⟨z, hz⟩ := Option.isSome_iff_exists.mp c25
      refine go_aload_n dC_comeTo_28 rfl rfl ?_
      refine go_iload_n dC_comeTo_29 rfl rfl ?_
      refine go_aload_n dC_comeTo_30 rfl rfl ?_
      refine go_iload dC_comeTo_31 rfl ?_
      refine go_cV (k' := (0, 0)) dC_comeTo_33 _ csC_132 (by assumption) rfl imC_meet seC_meet rfl (okC_meet (d := 0) w G M t.1 t.2.1 t.2.2 z y q wa c8a hn6 hwa hy hS hz hw hI) (by omega) (by decide) (Nat.le_of_ble_eq_true rfl) (fun r G1 hr hn => ?_)
      obtain ⟨rfl, hI1, ho⟩ := hr
      clear hn
      refine go_goto dC_comeTo_36 (tgt := 102) (by decide) ?_
      refine go_return rfl dC_comeTo_102 ?_
      first | exact ⟨rfl, by rw [cCome_out (of_decide_eq_false c8)]; exact ckI.flag hI, oK.w⟩ | exact ⟨rfl, by rw [cCome_met c8a hz]; exact hI1, ho⟩ | exact ⟨rfl, by rw [cCome_new c8a hz, if_neg c94]; exact hX, oX⟩ | exact ⟨rfl, by rw [cCome_new c8a hz, if_pos c94]; exact hI2, oX.tr ho2⟩
  · refine go_aload_n dC_comeTo_11 rfl rfl ?_
    refine go_iconst (am_b true) (by decide) dC_comeTo_12 ?_
    refine go_putZ (am_b_01 _) dC_comeTo_13 fpC_41 rfl (by assumption) ?_
    refine go_goto dC_comeTo_16 (tgt := 102) (by decide) ?_
    refine go_return rfl dC_comeTo_102 ?_
    first | exact ⟨rfl, by rw [cCome_out (of_decide_eq_false c8)]; exact ckI.flag hI, oK.w⟩ | exact ⟨rfl, by rw [cCome_met c8a hz]; exact hI1, ho⟩ | exact ⟨rfl, by rw [cCome_new c8a hz, if_neg c94]; exact hX, oX⟩ | exact ⟨rfl, by rw [cCome_new c8a hz, if_pos c94]; exact hI2, oX.tr ho2⟩
