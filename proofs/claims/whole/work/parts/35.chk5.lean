def cML (z y : fS) (k : Nat) : Nat → Option Nat := fun i => if i < k then cMeetL z y i else z.2.2 i
section Cm
variable {z y : fS} {k : Nat}
theorem cML_0 : cML z y 0 = z.2.2 := by funext i; unfold cML; rw [if_neg (Nat.not_lt_zero i)]
theorem cML_at : cML z y k k = z.2.2 k := by unfold cML; rw [if_neg (Nat.lt_irrefl k)]
theorem cML_keep (h : ¬ (z.2.2 k ≠ none ∧ z.2.2 k ≠ y.2.2 k)) : cML z y (k + 1) = cML z y k := by
  funext i
  unfold cML
  by_cases e : i = k
  · rw [if_pos (by omega), if_neg (by omega)]; unfold cMeetL; rw [e, if_neg h]
  · by_cases e2 : i < k
    · rw [if_pos (by omega), if_pos e2]
    · rw [if_neg (by omega), if_neg e2]
theorem cML_drop (h : z.2.2 k ≠ none ∧ z.2.2 k ≠ y.2.2 k) : cML z y (k + 1) = va_up (cML z y k) k none := by
  funext i
  by_cases e : i = k
  · rw [e, am_up_eq]; unfold cML; rw [if_pos (by omega)]; unfold cMeetL; rw [if_pos h]
  · rw [am_up_ne e]
    unfold cML
    by_cases e2 : i < k
    · rw [if_pos (by omega), if_pos e2]
    · rw [if_neg (by omega), if_neg e2]
theorem cDf_keep (h : ¬ (z.2.2 k ≠ none ∧ z.2.2 k ≠ y.2.2 k)) : cDf z y (k + 1) = cDf z y k := by
  show (cDf z y k || _) = _
  rw [decide_eq_false h, Bool.or_false]
theorem cDf_drop (h : z.2.2 k ≠ none ∧ z.2.2 k ≠ y.2.2 k) : cDf z y (k + 1) = true := by
  show (cDf z y k || _) = _
  rw [decide_eq_true h, Bool.or_true]
theorem cSm_false : ∀ {i j : Nat}, i ≤ j → cSm z y i = false → cSm z y j = false := by
  intro i j hij
  induction j with
  | zero => intro h; rw [show i = 0 by omega] at h; exact h
  | succ j ih =>
    intro h
    by_cases e : i = j + 1
    · rw [← e]; exact h
    · show (cSm z y j && _) = false
      rw [ih (by omega) h]; rfl
end Cm
theorem va_up_same {α : Type} {f : Nat → α} {k : Nat} {v : α} (h : f k = v) : va_up f k v = f := by
  funext i
  by_cases e : i = k
  · rw [e, am_up_eq, h]
  · rw [am_up_ne e]
theorem va_up_up {α : Type} {f : Nat → α} {k : Nat} {v u : α} : va_up (va_up f k v) k u = va_up f k u := by
  funext i
  by_cases e : i = k
  · rw [e, am_up_eq, am_up_eq]
  · rw [am_up_ne e, am_up_ne e, am_up_ne e]

section M1
variable {G : am_G} {M : mT} {S : fM} {Wt : Nat → Bool} {z y : fS} {c0 : Bool} {i : Nat}
theorem m1_f (h : (c0 || !cSm z y i) = false) : c0 = false ∧ cSm z y i = true := by
  cases c0 <;> cases hc : cSm z y i <;> simp_all
theorem m1_x (h : (c0 || !cSm z y i) = true) (hi : i ≤ y.1) (hI : ckI G M S Wt (c0 || !cSm z y i)) : ckI G M S Wt (c0 || !cSm z y y.1) := by
  have e : (c0 || !cSm z y y.1) = (c0 || !cSm z y i) := by
    rw [h]
    cases c0
    · have h1 : cSm z y i = false := by simpa using h
      rw [cSm_false hi h1]; rfl
    · rfl
  rw [e]; exact hI
theorem m1_eq (e1 : c0 = false) (e2 : cSm z y i = true) (c : z.2.1 i = y.2.1 i) (hI : ckI G M S Wt (c0 || !cSm z y i)) : ckI (am_wi G 102 9 (am_b false)) M S Wt (c0 || !cSm z y (i + 1)) := by
  have e : (c0 || !cSm z y (i + 1)) = false := by
    show (c0 || !(cSm z y i && decide (z.2.1 i = y.2.1 i))) = false
    rw [e1, e2, decide_eq_true c]; rfl
  rw [e]; exact hI.flag
theorem m1_ne (e1 : c0 = false) (e2 : cSm z y i = true) (c : ¬ z.2.1 i = y.2.1 i) (hI : ckI G M S Wt (c0 || !cSm z y i)) : ckI (am_wi G 102 9 (am_b true)) M S Wt (c0 || !cSm z y (i + 1)) := by
  have e : (c0 || !cSm z y (i + 1)) = true := by
    show (c0 || !(cSm z y i && decide (z.2.1 i = y.2.1 i))) = true
    rw [e1, e2, decide_eq_false c]; rfl
  rw [e]; exact hI.flag
end M1
set_option maxRecDepth 100000 in
theorem C_m1 (w : am_W) {d : Nat} {P : Option am_V → am_G → Prop} (G0 : am_G) (M : mT) (S : fM) (Wt : Nat → Bool) (z y : fS) (c0 : Bool) (q wa : Nat) (hq : q < mN M) (hn6 : mN M ≤ 60) (hwa : wa = 107 ∨ wa = 108) (hy : fB y) (hz : S q = some z) (hc0 : c0 = false → z.1 = y.1) (hw0 : wayC G0 wa y)
    (K : ∀ G lk, St0 G → oK G0 G → ckI G M S Wt (c0 || !cSm z y y.1) → am_Go w jC_meet d (0, 0) 78 [some (.inr (some 102)), some (.inl (nI q)), some (.inr (some wa)), some (.inl (nI y.1)), some (.inl (nI (16 * q))), lk] [] G P) : ∀ (r i : Nat) (G : am_G), i + r = y.1 → St0 G → oK G0 G → ckI G M S Wt (c0 || !cSm z y i) → am_Go w jC_meet d (0, 0) 33 [some (.inr (some 102)), some (.inl (nI q)), some (.inr (some wa)), some (.inl (nI y.1)), some (.inl (nI (16 * q))), some (.inl (nI i))] [] G P := by
  intro r
  induction r with
  | zero =>
    intro i G hi hS ho hI
    have h8 := hy.1
    refine go_iload dC_meet_33 rfl ?_
    refine go_iload_n dC_meet_35 rfl rfl ?_
    refine go_icmp_geN (by omega) (by omega) dC_meet_36 (tgt := 78) (by decide) (fun c1 => ?_) (fun c1 => absurd c1 (by omega))
    exact K G _ hS ho (by rw [show y.1 = i by omega]; exact hI)
  | succ r ih =>
    intro i G hi hS ho hI
    have h8 := hy.1
    have hfl := hI.2.1
    have hw := ho.way (by omega) hw0
    have q1 : G.1[102]? = some (0, 3) := hS.s rfl
    have q2 : G.1[103]? = some (1, 60) := hS.s rfl
    have q3 : G.1[104]? = some (1, 960) := hS.s rfl
    have q4 : G.1[105]? = some (2, 60) := hS.s rfl
    have q5 : G.1[106]? = some (2, 60) := hS.s rfl
    have q6 : G.2.2 102 0 = some 103 := hS.r ck_r0
    have q7 : G.2.2 102 2 = some 104 := hS.r ck_r2
    have q8 : G.2.2 102 3 = some 105 := hS.r ck_r3
    have q9 : G.2.2 102 4 = some 106 := hS.r ck_r4
    have q10 : G.1[wa]? = some (1, 16) := by rcases hwa with e | e <;> rw [e] <;> exact hS.s rfl
    refine go_iload dC_meet_33 rfl ?_
    refine go_iload_n dC_meet_35 rfl rfl ?_
    refine go_icmp_geN (by omega) (by omega) dC_meet_36 (tgt := 78) (by decide) (fun c1 => absurd c1 (by omega)) (fun c1 => ?_)
    refine go_aload_n dC_meet_39 rfl rfl ?_
    refine go_getV dC_meet_40 flC_41 rfl (by assumption) (by first | assumption | (simp (disch := omega) only [wi_I, ro_I, wi_In, wi_Is]; done) | (simp (disch := omega) only [wi_I, ro_I, wi_In, wi_Is]; first | assumption | rfl) | rfl) ?_
    refine go_if_neB dC_meet_43 (tgt := 78) (by decide) (fun c43 => ?_) (fun c43 => ?_)
    · exact K G _ hS ho (m1_x c43 (by omega) hI)
    · obtain ⟨e1, e2⟩ := m1_f c43
      have hzy := hc0 e1
      obtain ⟨b1, b2, b3, b4⟩ := (hI.2.2.2 q hq).2.2 z hz
      have b2i := b2 i (by omega)
      have hwi := hw.1 i (by omega)
      have hzb := b4.2.1 i (by omega)
      have hyb := hy.2.1 i (by omega)
      refine go_aload_n dC_meet_46 rfl rfl ?_
      refine go_aload_n dC_meet_47 rfl rfl ?_
      refine go_getO dC_meet_48 flC_15 rfl (by assumption) (by assumption) ?_
      refine go_iload dC_meet_51 rfl ?_
      refine go_iload dC_meet_53 rfl ?_
      refine go_iadd dC_meet_55 ?_
      rw [nI_add]
      refine go_ialV q3 (by omega) (by decide) b2i dC_meet_56 ?_
      refine go_aload_n dC_meet_57 rfl rfl ?_
      refine go_iload dC_meet_58 rfl ?_
      refine go_ialV q10 (by omega) (by decide) hwi dC_meet_60 ?_
      refine go_icmp_eqN (by omega) (by omega) dC_meet_61 (tgt := 68) (by decide) (fun c61 => ?_) (fun c61 => ?_)
      · refine go_iconst (am_b false) (by decide) dC_meet_68 ?_
        refine go_putZ (am_b_01 _) dC_meet_69 fpC_41 rfl q1 ?_
        refine go_inc dC_meet_72 rfl ?_
        refine go_goto dC_meet_75 (tgt := 33) (by decide) ?_
        first | exact ih (i + 1) _ (by omega) hS (ho.tr oK.w) (m1_eq e1 e2 c61 hI) | exact ih (i + 1) _ (by omega) hS (ho.tr oK.w) (m1_ne e1 e2 c61 hI)
      · refine go_iconst (am_b true) (by decide) dC_meet_64 ?_
        refine go_goto dC_meet_65 (tgt := 69) (by decide) ?_
        refine go_putZ (am_b_01 _) dC_meet_69 fpC_41 rfl q1 ?_
        refine go_inc dC_meet_72 rfl ?_
        refine go_goto dC_meet_75 (tgt := 33) (by decide) ?_
        first | exact ih (i + 1) _ (by omega) hS (ho.tr oK.w) (m1_eq e1 e2 c61 hI) | exact ih (i + 1) _ (by omega) hS (ho.tr oK.w) (m1_ne e1 e2 c61 hI)
section M2
variable {G : am_G} {M : mT} {S : fM} {Wt : Nat → Bool} {z y : fS} {c : Bool} {k q : Nat}
theorem m2_1 (hz : ∀ x, z.2.2 k = some x → x < 200) (h : kO (z.2.2 k) = -2) : ¬ (z.2.2 k ≠ none ∧ z.2.2 k ≠ y.2.2 k) := fun e => e.1 ((kO_2 hz).1.mp h)
theorem m2_2 (hz : ∀ x, z.2.2 k = some x → x < 200) (hy : ∀ x, y.2.2 k = some x → x < 200) (h : kO (z.2.2 k) = kO (y.2.2 k)) : ¬ (z.2.2 k ≠ none ∧ z.2.2 k ≠ y.2.2 k) := fun e => e.2 ((kO_inj hz hy).mp h)
theorem m2_3 (hz : ∀ x, z.2.2 k = some x → x < 200) (hy : ∀ x, y.2.2 k = some x → x < 200) (h1 : ¬ kO (z.2.2 k) = -2) (h : ¬ kO (z.2.2 k) = kO (y.2.2 k)) : z.2.2 k ≠ none ∧ z.2.2 k ≠ y.2.2 k := ⟨fun e => h1 ((kO_2 hz).1.mpr e), fun e => h ((kO_inj hz hy).mpr e)⟩
theorem m2_k (h : ¬ (z.2.2 k ≠ none ∧ z.2.2 k ≠ y.2.2 k)) (hI : ckI G M (va_up S q (some (z.1, z.2.1, cML z y k))) (fun p => Wt p || (decide (p = q) && cDf z y k)) c) : ckI G M (va_up S q (some (z.1, z.2.1, cML z y (k + 1)))) (fun p => Wt p || (decide (p = q) && cDf z y (k + 1))) c := by
  rw [cML_keep h, cDf_keep h]; exact hI
theorem m2_d (hk : k < 8) (h : z.2.2 k ≠ none ∧ z.2.2 k ≠ y.2.2 k) (hI : ckI G M (va_up S q (some (z.1, z.2.1, cML z y k))) (fun p => Wt p || (decide (p = q) && cDf z y k)) c) : ckI (am_wi (am_wi G 104 (16 * q + (8 + k)) (-2)) 106 q (am_b true)) M (va_up S q (some (z.1, z.2.1, cML z y (k + 1)))) (fun p => Wt p || (decide (p = q) && cDf z y (k + 1))) c := by
  have h1 := (hI.drop (k := k) hk (am_up_eq (f := S) (k := q))).wait (q := q) (b := true)
  refine h1.congr (fun p _ => ?_) (fun p _ => ?_)
  · rw [va_up_up, cML_drop h]
  · rw [cDf_drop h, Bool.and_true]
    by_cases e : p = q
    · rw [e, am_up_eq]; simp
    · rw [am_up_ne e]; simp [e]
end M2
set_option maxRecDepth 100000 in
theorem C_m2 (w : am_W) {d : Nat} (G0 : am_G) (M : mT) (S : fM) (Wt : Nat → Bool) (z y : fS) (c : Bool) (q wa : Nat) (hq : q < mN M) (hn6 : mN M ≤ 60) (hwa : wa = 107 ∨ wa = 108) (hy : fB y) (hz : S q = some z) (hw0 : wayC G0 wa y) : ∀ (r k : Nat) (G : am_G), k + r = 8 → St0 G → oK G0 G → ckI G M (va_up S q (some (z.1, z.2.1, cML z y k))) (fun p => Wt p || (decide (p = q) && cDf z y k)) c →
    am_Go w jC_meet d (0, 0) 82 [some (.inr (some 102)), some (.inl (nI q)), some (.inr (some wa)), some (.inl (nI y.1)), some (.inl (nI (16 * q))), some (.inl (nI (8 + k)))] [] G (fun rr G' => rr = none ∧ ckI G' M (va_up S q (some (z.1, z.2.1, cML z y 8))) (fun p => Wt p || (decide (p = q) && cDf z y 8)) c ∧ oK G0 G') := by
  intro r
  induction r with
  | zero =>
    intro k G hk hS ho hI
    refine go_iload dC_meet_82 rfl ?_
    refine go_bipush (nI 16) (by decide) dC_meet_84 ?_
    refine go_icmp_geN (by omega) (by omega) dC_meet_86 (tgt := 146) (by decide) (fun c1 => ?_) (fun c1 => absurd c1 (by omega))
    rw [show k = 8 by omega] at hI
    exact go_return rfl dC_meet_146 ⟨rfl, hI, ho⟩
  | succ r ih =>
    intro k G hk hS ho hI
    have hw := ho.way (by omega) hw0
    obtain ⟨b1, b2, b3, b4⟩ := (hI.2.2.2 q hq).2.2 _ am_up_eq
    have b3k := b3 k (by omega)
    have b3k : G.2.1 104 (16 * q + (8 + k)) = kO (z.2.2 k) := by rw [b3k]; show kO (cML z y k k) = _; rw [cML_at]
    have hwk := hw.2 k (by omega)
    have hzb : ∀ x, z.2.2 k = some x → x < 200 := fun x hx => b4.2.2 k (by omega) x (by show cML z y k k = some x; rw [cML_at]; exact hx)
    have hyb := hy.2.2 k (by omega)
    have q1 : G.1[102]? = some (0, 3) := hS.s rfl
    have q2 : G.1[103]? = some (1, 60) := hS.s rfl
    have q3 : G.1[104]? = some (1, 960) := hS.s rfl
    have q4 : G.1[105]? = some (2, 60) := hS.s rfl
    have q5 : G.1[106]? = some (2, 60) := hS.s rfl
    have q6 : G.2.2 102 0 = some 103 := hS.r ck_r0
    have q7 : G.2.2 102 2 = some 104 := hS.r ck_r2
    have q8 : G.2.2 102 3 = some 105 := hS.r ck_r3
    have q9 : G.2.2 102 4 = some 106 := hS.r ck_r4
    have q10 : G.1[wa]? = some (1, 16) := by rcases hwa with e | e <;> rw [e] <;> exact hS.s rfl
    refine go_iload dC_meet_82 rfl ?_
    refine go_bipush (nI 16) (by decide) dC_meet_84 ?_
    refine go_icmp_geN (by omega) (by omega) dC_meet_86 (tgt := 146) (by decide) (fun c1 => absurd c1 (by omega)) (fun c1 => ?_)
    refine go_aload_n dC_meet_89 rfl rfl ?_
    refine go_getO dC_meet_90 flC_15 rfl (by assumption) (by assumption) ?_
    refine go_iload dC_meet_93 rfl ?_
    refine go_iload dC_meet_95 rfl ?_
    refine go_iadd dC_meet_97 ?_
    rw [nI_add]
    refine go_ialV q3 (by omega) (by decide) b3k dC_meet_98 ?_
    refine go_bipush (-2) (by decide) dC_meet_99 ?_
    refine go_icmp_eq dC_meet_101 (tgt := 140) (by decide) (fun c101 => ?_) (fun c101 => ?_)
    · refine go_inc dC_meet_140 rfl ?_
      refine go_goto dC_meet_143 (tgt := 82) (by decide) ?_
      rw [show 8 + k + 1 = 8 + (k + 1) by omega]
      first | exact ih (k + 1) G (by omega) hS ho (m2_k (m2_1 hzb c101) hI) | exact ih (k + 1) G (by omega) hS ho (m2_k (m2_2 hzb hyb c118) hI) | exact ih (k + 1) _ (by omega) hS ((ho.tr (oK.wi ⟨by omega, by omega⟩)).tr (oK.wi ⟨by omega, by omega⟩)) (m2_d (by omega) (m2_3 hzb hyb c101 c118) hI)
    · refine go_aload_n dC_meet_104 rfl rfl ?_
      refine go_getO dC_meet_105 flC_15 rfl (by assumption) (by assumption) ?_
      refine go_iload dC_meet_108 rfl ?_
      refine go_iload dC_meet_110 rfl ?_
      refine go_iadd dC_meet_112 ?_
      rw [nI_add]
      refine go_ialV q3 (by omega) (by decide) b3k dC_meet_113 ?_
      refine go_aload_n dC_meet_114 rfl rfl ?_
      refine go_iload dC_meet_115 rfl ?_
      refine go_ialV q10 (by omega) (by decide) hwk dC_meet_117 ?_
      refine go_icmp_eq dC_meet_118 (tgt := 140) (by decide) (fun c118 => ?_) (fun c118 => ?_)
      · refine go_inc dC_meet_140 rfl ?_
        refine go_goto dC_meet_143 (tgt := 82) (by decide) ?_
        rw [show 8 + k + 1 = 8 + (k + 1) by omega]
        first | exact ih (k + 1) G (by omega) hS ho (m2_k (m2_1 hzb c101) hI) | exact ih (k + 1) G (by omega) hS ho (m2_k (m2_2 hzb hyb c118) hI) | exact ih (k + 1) _ (by omega) hS ((ho.tr (oK.wi ⟨by omega, by omega⟩)).tr (oK.wi ⟨by omega, by omega⟩)) (m2_d (by omega) (m2_3 hzb hyb c101 c118) hI)
      · refine go_aload_n dC_meet_121 rfl rfl ?_
        refine go_getO dC_meet_122 flC_15 rfl (by assumption) (by assumption) ?_
        refine go_iload dC_meet_125 rfl ?_
        refine go_iload dC_meet_127 rfl ?_
        refine go_iadd dC_meet_129 ?_
        rw [nI_add]
        refine go_bipush (-2) (by decide) dC_meet_130 ?_
        refine go_iastoreN (by assumption) (by omega) (by decide) dC_meet_132 ?_
        refine go_aload_n dC_meet_133 rfl rfl ?_
        refine go_getO dC_meet_134 flC_22 rfl (by assumption) (by assumption) ?_
        refine go_iload_n dC_meet_137 rfl rfl ?_
        refine go_iconst (am_b true) (by decide) dC_meet_138 ?_
        refine go_bastoreN (am_b_and1 true) q5 (by omega) (by decide) dC_meet_139 ?_
        refine go_inc dC_meet_140 rfl ?_
        refine go_goto dC_meet_143 (tgt := 82) (by decide) ?_
        rw [show 8 + k + 1 = 8 + (k + 1) by omega]
        first | exact ih (k + 1) G (by omega) hS ho (m2_k (m2_1 hzb c101) hI) | exact ih (k + 1) G (by omega) hS ho (m2_k (m2_2 hzb hyb c118) hI) | exact ih (k + 1) _ (by omega) hS ((ho.tr (oK.wi ⟨by omega, by omega⟩)).tr (oK.wi ⟨by omega, by omega⟩)) (m2_d (by omega) (m2_3 hzb hyb c101 c118) hI)
section Mt
variable {G : am_G} {M : mT} {S : fM} {Wt : Nat → Bool} {z y : fS} {c : Bool} {q : Nat}
theorem mt_0 : (c || !decide (z.1 = y.1)) = false → z.1 = y.1 := fun h => by
  by_cases e : z.1 = y.1
  · exact e
  · rw [decide_eq_false e] at h; simp at h
theorem mt_1 (e : z.1 = y.1) (hI : ckI G M S Wt c) : ckI (am_wi G 102 9 (am_b c)) M S Wt ((c || !decide (z.1 = y.1)) || !cSm z y 0) := by
  have : ((c || !decide (z.1 = y.1)) || !cSm z y 0) = c := by rw [decide_eq_true e]; cases c <;> rfl
  rw [this]; exact hI.flag
theorem mt_2 (e : ¬ z.1 = y.1) (hI : ckI G M S Wt c) : ckI (am_wi G 102 9 (am_b true)) M S Wt ((c || !decide (z.1 = y.1)) || !cSm z y 0) := by
  have : ((c || !decide (z.1 = y.1)) || !cSm z y 0) = true := by rw [decide_eq_false e]; cases c <;> rfl
  rw [this]; exact hI.flag
theorem mt_3 (hz : S q = some z) (hI : ckI G M S Wt c) : ckI G M (va_up S q (some (z.1, z.2.1, cML z y 0))) (fun p => Wt p || (decide (p = q) && cDf z y 0)) c := by
  rw [cML_0]
  exact hI.congr (fun p _ => by rw [va_up_same hz]) (fun p _ => by show (Wt p || (decide (p = q) && false)) = Wt p; rw [Bool.and_false, Bool.or_false])
theorem mt_4 {b : Bool} (hI : ckI G M (va_up S q (some (z.1, z.2.1, cML z y 8))) (fun p => Wt p || (decide (p = q) && cDf z y 8)) ((c || !decide (z.1 = y.1)) || !b)) : ckI G M (va_up S q (some (z.1, z.2.1, cMeetL z y))) (fun p => Wt p || (decide (p = q) && cDf z y 8)) (c || !(decide (z.1 = y.1) && b)) := by
  have e : ((c || !decide (z.1 = y.1)) || !b) = (c || !(decide (z.1 = y.1) && b)) := by cases c <;> cases b <;> cases decide (z.1 = y.1) <;> rfl
  rw [e] at hI
  obtain ⟨h1, h2, h3, h4⟩ := hI
  refine ⟨h1, h2, ?_, fun p hp => ?_⟩
  · rw [h3]
    have e : ∀ n, fCnt (va_up S q (some (z.1, z.2.1, cML z y 8))) n = fCnt (va_up S q (some (z.1, z.2.1, cMeetL z y))) n := by
      intro n
      induction n with
      | zero => rfl
      | succ n ih =>
        show fCnt _ n + _ = fCnt _ n + _
        rw [ih]
        by_cases e : n = q
        · rw [e, am_up_eq, am_up_eq]; rfl
        · rw [am_up_ne e, am_up_ne e]
    rw [e]
  · by_cases e : p = q
    · subst e
      have h5 := h4 p hp
      rw [am_up_eq] at h5 ⊢
      obtain ⟨a1, a2, a3⟩ := h5
      refine ⟨a1, a2, fun x hx => ?_⟩
      cases hx
      obtain ⟨b1, b2, b3, b4, b5, b6⟩ := a3 _ rfl
      have e8 : ∀ i, i < 8 → cML z y 8 i = cMeetL z y i := fun i hi => by unfold cML; rw [if_pos hi]
      exact ⟨b1, b2, fun i hi => by rw [b3 i hi]; show kO (cML z y 8 i) = kO (cMeetL z y i); rw [e8 i hi], b4, b5, fun i hi k hk => b6 i hi k (by show cML z y 8 i = some k; rw [e8 i hi]; exact hk)⟩
    · have h5 := h4 p hp
      rw [am_up_ne e] at h5 ⊢
      exact h5
end Mt
set_option maxRecDepth 100000 in
theorem okC_meet (w : am_W) {d : Nat} (G : am_G) (M : mT) (S : fM) (Wt : Nat → Bool) (c : Bool) (z y : fS) (q wa : Nat) (hq : q < mN M) (hn6 : mN M ≤ 60) (hwa : wa = 107 ∨ wa = 108) (hy : fB y) (hS : St0 G) (hz : S q = some z) (hw : wayC G wa y) (hI : ckI G M S Wt c) : am_Ok w jC_meet d (0, 0) [.inr (some 102), .inl (nI q), .inr (some wa), .inl (nI y.1)] G (fun r G' => r = none ∧ ckI G' M (va_up S q (some (z.1, z.2.1, cMeetL z y))) (fun p => Wt p || (decide (p = q) && cDf z y 8)) (c || !(decide (z.1 = y.1) && cSm z y y.1)) ∧ oK G G') := by
  refine am_ok_of rfl (Nat.le_of_ble_eq_true rfl) ?_
  show am_Go w jC_meet d (0, 0) 0 [some (.inr (some 102)), some (.inl (nI q)), some (.inr (some wa)), some (.inl (nI y.1)), none, none] [] G _
  have q1 : G.1[102]? = some (0, 3) := hS.s rfl
  have q2 : G.1[103]? = some (1, 60) := hS.s rfl
  have q3 : G.1[104]? = some (1, 960) := hS.s rfl
  have q4 : G.1[105]? = some (2, 60) := hS.s rfl
  have q5 : G.1[106]? = some (2, 60) := hS.s rfl
  have q6 : G.2.2 102 0 = some 103 := hS.r ck_r0
  have q7 : G.2.2 102 2 = some 104 := hS.r ck_r2
  have q8 : G.2.2 102 3 = some 105 := hS.r ck_r3
  have q9 : G.2.2 102 4 = some 106 := hS.r ck_r4
  obtain ⟨b1, b2, b3, b4⟩ := (hI.2.2.2 q hq).2.2 z hz
  have hz8 := b4.1
  have hy8 := hy.1
  have hfl := hI.2.1
  refine go_iload_n dC_meet_0 rfl rfl ?_
  refine go_bipush (nI 16) (by decide) dC_meet_1 ?_
  refine go_imul dC_meet_3 ?_
  rw [pk_mul, Nat.mul_comm]
  refine go_istore dC_meet_4 (Nat.le_of_ble_eq_true rfl) ?_
  refine go_aload_n dC_meet_6 rfl rfl ?_
  refine go_dup dC_meet_7 ?_
  refine go_getV dC_meet_8 flC_41 rfl (by assumption) (by first | assumption | (simp (disch := omega) only [wi_I, ro_I, wi_In, wi_Is]; done) | (simp (disch := omega) only [wi_I, ro_I, wi_In, wi_Is]; first | assumption | rfl) | rfl) ?_
  refine go_aload_n dC_meet_11 rfl rfl ?_
  refine go_getO dC_meet_12 flC_9 rfl (by assumption) (by assumption) ?_
  refine go_iload_n dC_meet_15 rfl rfl ?_
  refine go_ialV q2 (by omega) (by decide) b1 dC_meet_16 ?_
  refine go_iload_n dC_meet_17 rfl rfl ?_
  refine go_icmp_eqN (by omega) (by omega) dC_meet_18 (tgt := 25) (by decide) (fun c18 => ?_) (fun c18 => ?_)
  · refine go_iconst (nI 0) (by decide) dC_meet_25 ?_
    refine go_ior dC_meet_26 ?_
    first | rw [am_b_or1] | rw [am_b_or0]
    refine go_putZ (am_b_01 _) dC_meet_27 fpC_41 rfl q1 ?_
    refine go_iconst (nI 0) (by decide) dC_meet_30 ?_
    refine go_istore dC_meet_31 (Nat.le_of_ble_eq_true rfl) ?_
    first | (have hI1 : ckI _ M S Wt ((c || !decide (z.1 = y.1)) || !cSm z y 0) := mt_1 c18 hI) | (have hI1 : ckI _ M S Wt ((c || !decide (z.1 = y.1)) || !cSm z y 0) := mt_2 c18 hI)
    refine C_m1 w G M S Wt z y (c || !decide (z.1 = y.1)) q wa hq hn6 hwa hy hz mt_0 hw (fun X lk hSX hoX hIX => ?_) y.1 0 _ (by omega) hS oK.w hI1
    refine go_bipush (nI 8) (by decide) dC_meet_78 ?_
    refine go_istore dC_meet_80 (Nat.le_of_ble_eq_true rfl) ?_
    refine go_post (C_m2 w G M S Wt z y ((c || !decide (z.1 = y.1)) || !cSm z y y.1) q wa hq hn6 hwa hy hz hw 8 0 X rfl hSX hoX (mt_3 hz hIX)) (fun rr X2 h2 => ⟨h2.1, mt_4 h2.2.1, h2.2.2⟩)
  · refine go_iconst (nI 1) (by decide) dC_meet_21 ?_
    refine go_goto dC_meet_22 (tgt := 26) (by decide) ?_
    refine go_ior dC_meet_26 ?_
    first | rw [am_b_or1] | rw [am_b_or0]
    refine go_putZ (am_b_01 _) dC_meet_27 fpC_41 rfl q1 ?_
    refine go_iconst (nI 0) (by decide) dC_meet_30 ?_
    refine go_istore dC_meet_31 (Nat.le_of_ble_eq_true rfl) ?_
    first | (have hI1 : ckI _ M S Wt ((c || !decide (z.1 = y.1)) || !cSm z y 0) := mt_1 c18 hI) | (have hI1 : ckI _ M S Wt ((c || !decide (z.1 = y.1)) || !cSm z y 0) := mt_2 c18 hI)
    refine C_m1 w G M S Wt z y (c || !decide (z.1 = y.1)) q wa hq hn6 hwa hy hz mt_0 hw (fun X lk hSX hoX hIX => ?_) y.1 0 _ (by omega) hS oK.w hI1
    refine go_bipush (nI 8) (by decide) dC_meet_78 ?_
    refine go_istore dC_meet_80 (Nat.le_of_ble_eq_true rfl) ?_
    refine go_post (C_m2 w G M S Wt z y ((c || !decide (z.1 = y.1)) || !cSm z y y.1) q wa hq hn6 hwa hy hz hw 8 0 X rfl hSX hoX (mt_3 hz hIX)) (fun rr X2 h2 => ⟨h2.1, mt_4 h2.2.1, h2.2.2⟩)
