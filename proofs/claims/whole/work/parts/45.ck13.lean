theorem rM.j {G G' : am_G} {q : Nat} {M : mT} (h : ∀ i, 164 ≤ i → i ≤ 174 → G'.2.1 i = G.2.1 i) (hm : rM G q M) : rM G' q M := by
  unfold rM
  rw [h 167 (by omega) (by omega), h 169 (by omega) (by omega), h 168 (by omega) (by omega), h 174 (by omega) (by omega), h 164 (by omega) (by omega), h 165 (by omega) (by omega), h 166 (by omega) (by omega), h 170 (by omega) (by omega), h 171 (by omega) (by omega), h 172 (by omega) (by omega), h 173 (by omega) (by omega)]
  exact hm
def hldR (G : am_G) (v : Nat) (Q : Nat → mT) : Prop := ∀ a, a < 6 → rM G (6 * v + a) (Q a) ∧ mV (Q a)
def oJ (G G' : am_G) : Prop := oR (fun i => i = 163 ∨ (175 ≤ i ∧ i ≤ 180)) G G' ∧ ∀ k, k ≠ 18 → k ≠ 20 → k ≠ 21 → G'.2.1 163 k = G.2.1 163 k
theorem oJ.rf {G : am_G} : oJ G G := ⟨oR.rf, fun _ _ _ _ => rfl⟩
theorem oJ.tr {G G1 G2 : am_G} (h1 : oJ G G1) (h2 : oJ G1 G2) : oJ G G2 := ⟨h1.1.tr h2.1, fun k a b c => (h2.2 k a b c).trans (h1.2 k a b c)⟩
theorem oJ.St {G G1 : am_G} (h : oJ G G1) (hs : St0 G) : St0 G1 := h.1.St hs
theorem oN.j {G G' : am_G} (h : oN G G') : oJ G G' := ⟨h.1.up (fun i hi => by omega), fun k a b _ => h.2 k a b⟩
theorem oV.j {G G' : am_G} (h : oV G G') : oJ G G' := ⟨h.1.up (fun i hi => by omega), fun k _ b c => h.2 k b c⟩
theorem hldR.j {G G' : am_G} {v : Nat} {Q : Nat → mT} (h : hldR G v Q) (ho : oJ G G') : hldR G' v Q := fun a ha => ⟨(h a ha).1.j (fun i h1 h2 => ho.1.2.2 i (by omega)), (h a ha).2⟩
theorem rkT.n {G G' : am_G} {t : rT} (h : rkT G t) (h0 : t.2.2 = false) (ho : oN G G') (hf : G'.2.1 163 20 = am_b true) : rkT G' t := by
  refine ⟨by rw [hf, h0]; rfl, fun _ => ⟨by rw [ho.2 21 (by decide) (by decide)]; exact (h.2 h0).1, fun p hp => ((h.2 h0).2 p hp).same ?_ ?_ (fun i _ => ?_) (fun i _ => ?_)⟩⟩
  · rw [ho.1.2.2 175 (by omega)]
  · rw [ho.1.2.2 176 (by omega)]
  · rw [ho.1.2.2 177 (by omega)]
  · rw [ho.1.2.2 178 (by omega)]
theorem rkT.bad {G' : am_G} {t : rT} {c : Bool} (hf : G'.2.1 163 20 = am_b false) : rkT G' (t.1, c, true) := ⟨hf, fun e => by cases e⟩
theorem wR.zero {G : am_G} {x : fS} (h : wR G (some x)) : wR (am_wi G 163 18 (nI 0)) (some (0, x.2)) := by
  obtain ⟨⟨d1, d2, d3⟩, ⟨b1, b2, b3⟩, ⟨k1, k2⟩, hw⟩ := h
  exact ⟨⟨wi_Is, fun i hi => absurd hi (Nat.not_lt_zero i), fun i hi => by rw [wi_I (by decide)]; exact d3 i hi⟩, ⟨Nat.zero_le _, fun i hi => absurd hi (Nat.not_lt_zero i), b3⟩, ⟨fun i hi => absurd hi (Nat.not_lt_zero i), k2⟩, by rw [wi_In (by decide)]; exact hw⟩
theorem wR.one {G : am_G} {x : fS} (h : wR G ((some ((0, x.2) : fS)).bind (fGive 1))) : nowR G (1, fun _ => 1, x.2.2) ∧ fB (1, fun _ => 1, x.2.2) ∧ fK (1, fun _ => 1, x.2.2) ∧ G.2.1 163 20 = am_b true := by
  have e : (some ((0, x.2) : fS)).bind (fGive 1) = some (1, va_up x.2.1 0 1, x.2.2) := rfl
  rw [e] at h
  obtain ⟨⟨d1, d2, d3⟩, ⟨b1, b2, b3⟩, ⟨k1, k2⟩, hw⟩ := h
  refine ⟨⟨d1, fun i hi => ?_, d3⟩, ⟨b1, fun i hi => by show 1 < 200; decide, b3⟩, ⟨fun i hi => by show kV 1; exact Or.inr (Or.inl rfl), k2⟩, hw⟩
  have hi : i < 1 := hi
  have := d2 i hi
  rw [this]
  show nI (va_up x.2.1 0 1 i) = nI 1
  rw [show i = 0 by omega, am_up_eq]
theorem rjmp_dec {o : Nat} (ho : o < 28) : decide (nI o = nI 11 ∨ nI o = nI 12 ∨ nI o = nI 17 ∨ nI o = nI 23) = decide (o = 11 ∨ o = 12 ∨ o = 17 ∨ o = 23) := by
  refine decide_eq_decide.mpr ?_
  rw [nI_eq (by omega) (by decide), nI_eq (by omega) (by decide), nI_eq (by omega) (by decide), nI_eq (by omega) (by decide)]
section Rbl
variable {M : mT} {y : fS} {kk k : Nat} {t : rT}
theorem rbl_1 (h : ((rBackL M y kk t k).1 k).isSome = false) : rBackL M y kk t (k + 1) = rBackL M y kk t k := if_neg (fun q => by
  cases e : (rBackL M y kk t k).1 k with
  | none => exact q.2.1.1 e
  | some u => rw [e] at h; cases h)
theorem rbl_2 (h : ¬ mO M k = 23) : rBackL M y kk t (k + 1) = rBackL M y kk t k := if_neg (fun q => h q.2.1.2)
theorem rbl_3 (h : ¬ bN M k = kk) : rBackL M y kk t (k + 1) = rBackL M y kk t k := if_neg (fun q => h q.2.2)
theorem rbl_4 (h0 : (rBackL M y kk t k).2.2 = false) (h : ((rBackL M y kk t k).1 k).isSome = true) (h2 : mO M k = 23) (h3 : bN M k = kk) : rBackL M y kk t (k + 1) = rCome M (rBackL M y kk t k) (k + 1) y := if_pos ⟨h0, ⟨fun e => (by rw [e] at h; cases h), h2⟩, h3⟩
end Rbl
theorem rN2_w {M : mT} {p : Nat} {y : fS} {t : rT} (h : (!t.2.2) = false) : rN2 M p y t = t := if_neg (fun q => by rw [q.1] at h; cases h)

theorem okR_lvAll (w : am_W) {d : Nat} (hd : 2 ≤ d) (G : am_G) (x : fS) (g : Nat → Nat) (q p o a b : Nat) (A : Int32) (hq : q < 12) (hp : p < 60) (ho : o < 28) (ha : a < 8) (hb : b < 120) (hS : St0 G) (h : wR G (some x)) (hO : G.2.1 164 (60 * q + p) = nI o) (hA : G.2.1 165 (60 * q + p) = A) (hA2 : (o = 2 ∨ o = 3 ∨ o = 24 ∨ o = 27) → A = nI a) (h21 : o = 21 → A = nI a ∧ a < 6 ∧ G.2.1 168 (q / 6 * 6 + a) = nI (g a) ∧ g a < 200) (h23 : o = 23 → G.2.1 166 (60 * q + p) = nI b) :
    am_Ok w jR_leave d (0, 0) [.inr (some 163), .inl (nI q), .inl (nI p)] G (fun r G' => r = none ∧ wR G' (fEff g o a b x) ∧ oN G G') := by
  match o, ho with
  | 0, _ => exact okR_lv0 w hd G x g q p a b A hq hp ha hb hS h hO hA trivial trivial
  | 1, _ => exact okR_lv1 w hd G x g q p a b A hq hp ha hb hS h hO hA trivial trivial
  | 2, _ => exact okR_lv2 w hd G x g q p a b A hq hp ha hb hS h hO hA (hA2 (by decide)) trivial
  | 3, _ => exact okR_lv3 w hd G x g q p a b A hq hp ha hb hS h hO hA (hA2 (by decide)) trivial
  | 4, _ => exact okR_lv4 w hd G x g q p a b A hq hp ha hb hS h hO hA trivial trivial
  | 5, _ => exact okR_lv5 w hd G x g q p a b A hq hp ha hb hS h hO hA trivial trivial
  | 6, _ => exact okR_lv6 w hd G x g q p a b A hq hp ha hb hS h hO hA trivial trivial
  | 7, _ => exact okR_lv7 w hd G x g q p a b A hq hp ha hb hS h hO hA trivial trivial
  | 8, _ => exact okR_lv8 w hd G x g q p a b A hq hp ha hb hS h hO hA trivial trivial
  | 9, _ => exact okR_lv9 w hd G x g q p a b A hq hp ha hb hS h hO hA trivial trivial
  | 10, _ => exact okR_lv10 w hd G x g q p a b A hq hp ha hb hS h hO hA trivial trivial
  | 11, _ => exact okR_lv11 w hd G x g q p a b A hq hp ha hb hS h hO hA trivial trivial
  | 12, _ => exact okR_lv12 w hd G x g q p a b A hq hp ha hb hS h hO hA trivial trivial
  | 13, _ => exact okR_lv13 w hd G x g q p a b A hq hp ha hb hS h hO hA trivial trivial
  | 14, _ => exact okR_lv14 w hd G x g q p a b A hq hp ha hb hS h hO hA trivial trivial
  | 15, _ => exact okR_lv15 w hd G x g q p a b A hq hp ha hb hS h hO hA trivial trivial
  | 16, _ => exact okR_lv16 w hd G x g q p a b A hq hp ha hb hS h hO hA trivial trivial
  | 17, _ => exact okR_lv17 w hd G x g q p a b A hq hp ha hb hS h hO hA trivial trivial
  | 18, _ => exact okR_lv18 w hd G x g q p a b A hq hp ha hb hS h hO hA trivial trivial
  | 19, _ => exact okR_lv19 w hd G x g q p a b A hq hp ha hb hS h hO hA trivial trivial
  | 20, _ => exact okR_lv20 w hd G x g q p a b A hq hp ha hb hS h hO hA trivial trivial
  | 21, _ => exact okR_lv21 w hd G x g q p a b A hq hp ha hb hS h hO hA (h21 rfl) trivial
  | 22, _ => exact okR_lv22 w hd G x g q p a b A hq hp ha hb hS h hO hA trivial trivial
  | 23, _ => exact okR_lv23 w hd G x g q p a b A hq hp ha hb hS h hO hA trivial (h23 rfl)
  | 24, _ => exact okR_lv24 w hd G x g q p a b A hq hp ha hb hS h hO hA (hA2 (by decide)) trivial
  | 25, _ => exact okR_lv25 w hd G x g q p a b A hq hp ha hb hS h hO hA trivial trivial
  | 26, _ => exact okR_lv26 w hd G x g q p a b A hq hp ha hb hS h hO hA trivial trivial
  | 27, _ => exact okR_lv27 w hd G x g q p a b A hq hp ha hb hS h hO hA (hA2 (by decide)) trivial
  | n + 28, ho => exact absurd ho (by omega)
theorem okR_leaveM (w : am_W) {d : Nat} (hd : 2 ≤ d) (G : am_G) (x : fS) (v e p : Nat) (Q : Nat → mT) (hv : v < 2) (he : e < 6) (hp : p < mN (Q e)) (hS : St0 G) (hR : hldR G v Q) (h : wR G (some x)) :
    am_Ok w jR_leave d (0, 0) [.inr (some 163), .inl (nI (6 * v + e)), .inl (nI p)] G (fun r G' => r = none ∧ wR G' (fEff (gP Q) (mO (Q e) p) (aN (Q e) p) (bN (Q e) p) x) ∧ oN G G') := by
  obtain ⟨hM, hmv⟩ := hR e he
  obtain ⟨m1, m2, m3⟩ := hM.2.1 p hp
  have ho := (hmv.2.2.2.1 p hp).1
  have hn6 := hmv.1
  by_cases hl : mO (Q e) p = 2 ∨ mO (Q e) p = 3 ∨ mO (Q e) p = 24 ∨ mO (Q e) p = 27
  · obtain ⟨e1, e2⟩ := hmv.loc hp hl
    have h23 : mO (Q e) p ≠ 23 := by omega
    rw [fEff_b ho h23]
    exact okR_lvAll w hd G x (gP Q) (6 * v + e) p _ (aN (Q e) p) 0 _ (by omega) (by omega) ho e2 (by decide) hS h m1 m2 (fun _ => e1) (fun e => by omega) (fun e => absurd e h23)
  · by_cases h21 : mO (Q e) p = 21
    · obtain ⟨e1, e2⟩ := hmv.call hp h21
      have h23 : mO (Q e) p ≠ 23 := by omega
      have hT := (hR (aN (Q e) p) e2).1.1.2.2.1
      have hg := (hR (aN (Q e) p) e2).2.2.2.1
      rw [fEff_b ho h23]
      exact okR_lvAll w hd G x (gP Q) (6 * v + e) p _ (aN (Q e) p) 0 _ (by omega) (by omega) ho (by omega) (by decide) hS h m1 m2 (fun e => absurd e hl) (fun _ => ⟨e1, e2, by rw [show (6 * v + e) / 6 * 6 = 6 * v by omega]; exact hT, by show mG (Q (aN (Q e) p)) < 200; omega⟩) (fun e => absurd e h23)
    · rw [fEff_a ho hl h21]
      by_cases h23 : mO (Q e) p = 23
      · obtain ⟨e1, e2⟩ := hmv.jmp hp (Or.inr (Or.inr (Or.inr h23)))
        exact okR_lvAll w hd G x (gP Q) (6 * v + e) p _ 0 (bN (Q e) p) _ (by omega) (by omega) ho (by decide) e2 hS h m1 m2 (fun e => absurd e hl) (fun e => absurd e h21) (fun _ => m3.trans e1)
      · rw [fEff_b ho h23]
        exact okR_lvAll w hd G x (gP Q) (6 * v + e) p _ 0 0 _ (by omega) (by omega) ho (by decide) (by decide) hS h m1 m2 (fun e => absurd e hl) (fun e => absurd e h21) (fun e => absurd e h23)
set_option maxRecDepth 100000 in
theorem R_go1 (w : am_W) {d : Nat} (hd : 1 ≤ d) (G0 : am_G) (M : mT) (q p : Nat) (y : fS) (hq : q < 12) (hp : p < mN M) (hmv : mV M) (hb : fB y) (hk : fK y) (B : Int32) (t : rT) (kk : Nat) (hk6 : kk < 1000) : ∀ (r k : Nat) (G : am_G), k + r = mN M → St0 G → oV G0 G → rM G q M → nowR G y → rkT G (rBackL M y kk t k) →
    am_Go w jR_goOn d (0, 0) 55 [some (.inr (some 163)), some (.inl (nI q)), some (.inl (nI p)), some (.inl (nI (mO M p))), some (.inl B), some (.inl (nI kk)), some (.inl (nI k))] [] G (fun r G' => r = none ∧ rkT G' (rBackL M y kk t (mN M)) ∧ oV G0 G') := by
  intro r
  induction r with
  | zero =>
    intro k G hk2 hS ho hM hnw hI
    have hn6 := hmv.1
    have hN := hM.1.1
    refine go_iload dR_goOn_55 rfl ?_
    refine go_aload_n dR_goOn_57 rfl rfl ?_
    refine go_getO (a := 167) dR_goOn_58 flR_19 rfl (hS.s sh_163) (hS.r rt_many) ?_
    refine go_iload_n dR_goOn_61 rfl rfl ?_
    refine go_ialV (hS.s sh_167) (by omega) (by decide) hN dR_goOn_62 ?_
    refine go_icmp_geN (by omega) (by omega) dR_goOn_63 (tgt := 132) (by decide) (fun c1 => ?_) (fun c1 => absurd c1 (by omega))
    refine go_return rfl dR_goOn_132 ?_
    exact ⟨rfl, by rw [show mN M = k by omega]; exact hI, ho⟩
  | succ r ih =>
    intro k G hk2 hS ho hM hnw hI
    have hn6 := hmv.1
    have hN := hM.1.1
    have hkn : k < mN M := by omega
    have hfl := hI.1
    obtain ⟨m1, -, m3⟩ := hM.2.1 k hkn
    have hok := (hmv.2.2.2.1 k hkn).1
    refine go_iload dR_goOn_55 rfl ?_
    refine go_aload_n dR_goOn_57 rfl rfl ?_
    refine go_getO (a := 167) dR_goOn_58 flR_19 rfl (hS.s sh_163) (hS.r rt_many) ?_
    refine go_iload_n dR_goOn_61 rfl rfl ?_
    refine go_ialV (hS.s sh_167) (by omega) (by decide) hN dR_goOn_62 ?_
    refine go_icmp_geN (by omega) (by omega) dR_goOn_63 (tgt := 132) (by decide) (fun c1 => absurd c1 (by omega)) (fun c1 => ?_)
    refine go_aload_n dR_goOn_66 rfl rfl ?_
    refine go_getV dR_goOn_67 flR_155 rfl (hS.s sh_163) (by first | assumption | (simp (disch := omega) only [wi_I, ro_I, wi_In, wi_Is]; done) | (simp (disch := omega) only [wi_I, ro_I, wi_In, wi_Is]; first | assumption | rfl) | rfl) ?_
    refine go_if_eqB dR_goOn_70 (tgt := 132) (by decide) (fun c70 => ?_) (fun c70 => ?_)
    · refine go_return rfl dR_goOn_132 ?_
      exact ⟨rfl, by rw [rBackL_w (i := k) (n := mN M) (by omega) (by cases e : (rBackL M y kk t k).2.2 with | true => rfl | false => rw [e] at c70; cases c70)]; exact hI, ho⟩
    · have c70a : (rBackL M y kk t k).2.2 = false := by cases e : (rBackL M y kk t k).2.2 with | false => rfl | true => rw [e] at c70; cases c70
      have h75 := ((hI.2 c70a).2 k (by omega)).1
      refine go_aload_n dR_goOn_73 rfl rfl ?_
      refine go_getO (a := 175) dR_goOn_74 flR_44 rfl (hS.s sh_163) (hS.r rt_come) ?_
      refine go_iload dR_goOn_77 rfl ?_
      refine go_balV (hS.s sh_175) (by omega) (by decide) h75 dR_goOn_79 ?_
      refine go_if_eqB dR_goOn_80 (tgt := 126) (by decide) (fun c80 => ?_) (fun c80 => ?_)
      · refine go_inc dR_goOn_126 rfl ?_
        refine go_goto dR_goOn_129 (tgt := 55) (by decide) ?_
        first | exact ih (k + 1) G (by omega) hS ho hM hnw (by rw [rbl_1 c80]; exact hI) | exact ih (k + 1) G (by omega) hS ho hM hnw (by rw [rbl_2 c97]; exact hI) | exact ih (k + 1) G (by omega) hS ho hM hnw (by rw [rbl_3 c114]; exact hI) | exact ih (k + 1) G2 (by omega) (ho2.St hS) (ho.tr ho2) (hM.j (fun i h1 h2 => ho2.1.2.2 i (by omega))) (hnw.v ho2) (by rw [rbl_4 c70a c80 c97 c114]; exact hI2)
      · refine go_aload_n dR_goOn_83 rfl rfl ?_
        refine go_getO (a := 164) dR_goOn_84 flR_7 rfl (hS.s sh_163) (hS.r rt_op) ?_
        refine go_bipush (nI 60) (by decide) dR_goOn_87 ?_
        refine go_iload_n dR_goOn_89 rfl rfl ?_
        first | refine go_imulN dR_goOn_90 ?_ | refine go_imul dR_goOn_90 ?_
        refine go_iload dR_goOn_91 rfl ?_
        first | refine go_iaddN dR_goOn_93 ?_ | refine go_iadd dR_goOn_93 ?_
        refine go_ialV (hS.s sh_164) (by omega) (by decide) m1 dR_goOn_94 ?_
        refine go_bipush (nI 23) (by decide) dR_goOn_95 ?_
        refine go_icmp_neN (by omega) (by decide) dR_goOn_97 (tgt := 126) (by decide) (fun c97 => ?_) (fun c97 => ?_)
        · refine go_inc dR_goOn_126 rfl ?_
          refine go_goto dR_goOn_129 (tgt := 55) (by decide) ?_
          first | exact ih (k + 1) G (by omega) hS ho hM hnw (by rw [rbl_1 c80]; exact hI) | exact ih (k + 1) G (by omega) hS ho hM hnw (by rw [rbl_2 c97]; exact hI) | exact ih (k + 1) G (by omega) hS ho hM hnw (by rw [rbl_3 c114]; exact hI) | exact ih (k + 1) G2 (by omega) (ho2.St hS) (ho.tr ho2) (hM.j (fun i h1 h2 => ho2.1.2.2 i (by omega))) (hnw.v ho2) (by rw [rbl_4 c70a c80 c97 c114]; exact hI2)
        · obtain ⟨b1, b2⟩ := hmv.jmp hkn (Or.inr (Or.inr (Or.inr c97)))
          refine go_aload_n dR_goOn_100 rfl rfl ?_
          refine go_getO (a := 166) dR_goOn_101 flR_16 rfl (hS.s sh_163) (hS.r rt_two) ?_
          refine go_bipush (nI 60) (by decide) dR_goOn_104 ?_
          refine go_iload_n dR_goOn_106 rfl rfl ?_
          first | refine go_imulN dR_goOn_107 ?_ | refine go_imul dR_goOn_107 ?_
          refine go_iload dR_goOn_108 rfl ?_
          first | refine go_iaddN dR_goOn_110 ?_ | refine go_iadd dR_goOn_110 ?_
          refine go_ialV (hS.s sh_166) (by omega) (by decide) (m3.trans b1) dR_goOn_111 ?_
          refine go_iload dR_goOn_112 rfl ?_
          refine go_icmp_neN (by omega) (by omega) dR_goOn_114 (tgt := 126) (by decide) (fun c114 => ?_) (fun c114 => ?_)
          · refine go_inc dR_goOn_126 rfl ?_
            refine go_goto dR_goOn_129 (tgt := 55) (by decide) ?_
            first | exact ih (k + 1) G (by omega) hS ho hM hnw (by rw [rbl_1 c80]; exact hI) | exact ih (k + 1) G (by omega) hS ho hM hnw (by rw [rbl_2 c97]; exact hI) | exact ih (k + 1) G (by omega) hS ho hM hnw (by rw [rbl_3 c114]; exact hI) | exact ih (k + 1) G2 (by omega) (ho2.St hS) (ho.tr ho2) (hM.j (fun i h1 h2 => ho2.1.2.2 i (by omega))) (hnw.v ho2) (by rw [rbl_4 c70a c80 c97 c114]; exact hI2)
          · refine go_aload_n dR_goOn_117 rfl rfl ?_
            refine go_iload_n dR_goOn_118 rfl rfl ?_
            refine go_iload dR_goOn_119 rfl ?_
            refine go_iconst (nI 1) (by decide) dR_goOn_121 ?_
            first | refine go_iaddN dR_goOn_122 ?_ | refine go_iadd dR_goOn_122 ?_
            refine go_cV (k' := (0, 0)) dR_goOn_123 _ csR_172 (hS.s sh_163) rfl imR_arrive seR_arrive rfl (okR_arrive (d := 0) w G M (rBackL M y kk t k) q (k + 1) y hq (by omega) hn6 hM.1.1 hS hnw hb hk hI c70a) (by omega) (by decide) (Nat.le_of_ble_eq_true rfl) (fun r2 G2 hr2 hn2 => ?_)
            obtain ⟨rfl, hI2, ho2⟩ := hr2
            refine go_inc dR_goOn_126 rfl ?_
            refine go_goto dR_goOn_129 (tgt := 55) (by decide) ?_
            first | exact ih (k + 1) G (by omega) hS ho hM hnw (by rw [rbl_1 c80]; exact hI) | exact ih (k + 1) G (by omega) hS ho hM hnw (by rw [rbl_2 c97]; exact hI) | exact ih (k + 1) G (by omega) hS ho hM hnw (by rw [rbl_3 c114]; exact hI) | exact ih (k + 1) G2 (by omega) (ho2.St hS) (ho.tr ho2) (hM.j (fun i h1 h2 => ho2.1.2.2 i (by omega))) (hnw.v ho2) (by rw [rbl_4 c70a c80 c97 c114]; exact hI2)
set_option maxRecDepth 100000 in
theorem R_go2 (w : am_W) {d : Nat} (hd : 1 ≤ d) (G : am_G) (M : mT) (q p : Nat) (y : fS) (hq : q < 12) (hp : p < mN M) (hmv : mV M) (hb : fB y) (hk : fK y) (B : Int32) (t : rT) (l5 l6 : Option am_V) (hS : St0 G) (hM : rM G q M) (hnw : nowR G y) (hI : rkT G t) : am_Go w jR_goOn d (0, 0) 147 [some (.inr (some 163)), some (.inl (nI q)), some (.inl (nI p)), some (.inl (nI (mO M p))), some (.inl B), l5, l6] [] G (fun r G' => r = none ∧ rkT G' (rN2 M p y t) ∧ oV G G') := by
  have hn6 := hmv.1
  have hop := (hmv.2.2.2.1 p hp).1
  have hfl := hI.1
  refine go_aload_n dR_goOn_147 rfl rfl ?_
  refine go_getV dR_goOn_148 flR_155 rfl (hS.s sh_163) (by first | assumption | (simp (disch := omega) only [wi_I, ro_I, wi_In, wi_Is]; done) | (simp (disch := omega) only [wi_I, ro_I, wi_In, wi_Is]; first | assumption | rfl) | rfl) ?_
  refine go_if_eqB dR_goOn_151 (tgt := 186) (by decide) (fun c151 => ?_) (fun c151 => ?_)
  · refine go_return rfl dR_goOn_186 ?_
    first | exact ⟨rfl, by rw [rN2_w c151]; exact hI, oV.rf⟩ | exact ⟨rfl, by unfold rN2; rw [if_neg (by omega)]; exact hI, oV.rf⟩ | exact ⟨rfl, by unfold rN2; rw [if_pos ⟨c151a, c157, c163, c169, c175⟩]; exact hI2, ho2⟩
  · refine go_iload_n dR_goOn_154 rfl rfl ?_
    refine go_bipush (nI 11) (by decide) dR_goOn_155 ?_
    refine go_icmp_eqN (by omega) (by decide) dR_goOn_157 (tgt := 186) (by decide) (fun c157 => ?_) (fun c157 => ?_)
    · refine go_return rfl dR_goOn_186 ?_
      first | exact ⟨rfl, by rw [rN2_w c151]; exact hI, oV.rf⟩ | exact ⟨rfl, by unfold rN2; rw [if_neg (by omega)]; exact hI, oV.rf⟩ | exact ⟨rfl, by unfold rN2; rw [if_pos ⟨c151a, c157, c163, c169, c175⟩]; exact hI2, ho2⟩
    · refine go_iload_n dR_goOn_160 rfl rfl ?_
      refine go_bipush (nI 23) (by decide) dR_goOn_161 ?_
      refine go_icmp_eqN (by omega) (by decide) dR_goOn_163 (tgt := 186) (by decide) (fun c163 => ?_) (fun c163 => ?_)
      · refine go_return rfl dR_goOn_186 ?_
        first | exact ⟨rfl, by rw [rN2_w c151]; exact hI, oV.rf⟩ | exact ⟨rfl, by unfold rN2; rw [if_neg (by omega)]; exact hI, oV.rf⟩ | exact ⟨rfl, by unfold rN2; rw [if_pos ⟨c151a, c157, c163, c169, c175⟩]; exact hI2, ho2⟩
      · refine go_iload_n dR_goOn_166 rfl rfl ?_
        refine go_bipush (nI 20) (by decide) dR_goOn_167 ?_
        refine go_icmp_eqN (by omega) (by decide) dR_goOn_169 (tgt := 186) (by decide) (fun c169 => ?_) (fun c169 => ?_)
        · refine go_return rfl dR_goOn_186 ?_
          first | exact ⟨rfl, by rw [rN2_w c151]; exact hI, oV.rf⟩ | exact ⟨rfl, by unfold rN2; rw [if_neg (by omega)]; exact hI, oV.rf⟩ | exact ⟨rfl, by unfold rN2; rw [if_pos ⟨c151a, c157, c163, c169, c175⟩]; exact hI2, ho2⟩
        · refine go_iload_n dR_goOn_172 rfl rfl ?_
          refine go_bipush (nI 22) (by decide) dR_goOn_173 ?_
          refine go_icmp_eqN (by omega) (by decide) dR_goOn_175 (tgt := 186) (by decide) (fun c175 => ?_) (fun c175 => ?_)
          · refine go_return rfl dR_goOn_186 ?_
            first | exact ⟨rfl, by rw [rN2_w c151]; exact hI, oV.rf⟩ | exact ⟨rfl, by unfold rN2; rw [if_neg (by omega)]; exact hI, oV.rf⟩ | exact ⟨rfl, by unfold rN2; rw [if_pos ⟨c151a, c157, c163, c169, c175⟩]; exact hI2, ho2⟩
          · refine go_aload_n dR_goOn_178 rfl rfl ?_
            refine go_iload_n dR_goOn_179 rfl rfl ?_
            refine go_iload_n dR_goOn_180 rfl rfl ?_
            refine go_iconst (nI 1) (by decide) dR_goOn_181 ?_
            first | refine go_iaddN dR_goOn_182 ?_ | refine go_iadd dR_goOn_182 ?_
            have c151a : t.2.2 = false := by cases e : t.2.2 with | false => rfl | true => rw [e] at c151; cases c151
            refine go_cV (k' := (0, 0)) dR_goOn_183 _ csR_172 (hS.s sh_163) rfl imR_arrive seR_arrive rfl (okR_arrive (d := 0) w G M t q (p + 1) y hq (by omega) hn6 hM.1.1 hS hnw hb hk hI c151a) (by omega) (by decide) (Nat.le_of_ble_eq_true rfl) (fun r2 G2 hr2 hn2 => ?_)
            obtain ⟨rfl, hI2, ho2⟩ := hr2
            refine go_return rfl dR_goOn_186 ?_
            first | exact ⟨rfl, by rw [rN2_w c151]; exact hI, oV.rf⟩ | exact ⟨rfl, by unfold rN2; rw [if_neg (by omega)]; exact hI, oV.rf⟩ | exact ⟨rfl, by unfold rN2; rw [if_pos ⟨c151a, c157, c163, c169, c175⟩]; exact hI2, ho2⟩
set_option maxRecDepth 100000 in
theorem okR_goOn (w : am_W) {d : Nat} (hd : 1 ≤ d) (G : am_G) (M : mT) (q p : Nat) (y : fS) (hq : q < 12) (hp : p < mN M) (hmv : mV M) (hb : fB y) (hk : fK y) (t : rT) (hB : mO M p = 24 → ∃ k, y.2.2 (aN M p) = some k ∧ 10 ≤ k) (hS : St0 G) (hM : rM G q M) (hnw : nowR G y) (hI : rkT G t) (h0 : t.2.2 = false) : am_Ok w jR_goOn d (0, 0) [.inr (some 163), .inl (nI q), .inl (nI p)] G (fun r G' => r = none ∧ rkT G' (rNx M p y t) ∧ oV G G') := by
  refine am_ok_of rfl (Nat.le_of_ble_eq_true rfl) ?_
  show am_Go w jR_goOn d (0, 0) 0 [some (.inr (some 163)), some (.inl (nI q)), some (.inl (nI p)), none, none, none, none] [] G _
  have hn6 := hmv.1
  have hop := (hmv.2.2.2.1 p hp).1
  obtain ⟨m1, m2, m3⟩ := hM.2.1 p hp
  refine go_aload_n dR_goOn_0 rfl rfl ?_
  refine go_getO (a := 164) dR_goOn_1 flR_7 rfl (hS.s sh_163) (hS.r rt_op) ?_
  refine go_bipush (nI 60) (by decide) dR_goOn_4 ?_
  refine go_iload_n dR_goOn_6 rfl rfl ?_
  first | refine go_imulN dR_goOn_7 ?_ | refine go_imul dR_goOn_7 ?_
  refine go_iload_n dR_goOn_8 rfl rfl ?_
  first | refine go_iaddN dR_goOn_9 ?_ | refine go_iadd dR_goOn_9 ?_
  refine go_ialV (hS.s sh_164) (by omega) (by decide) m1 dR_goOn_10 ?_
  refine go_istore_n dR_goOn_11 rfl (Nat.le_of_ble_eq_true rfl) ?_
  refine go_aload_n dR_goOn_12 rfl rfl ?_
  refine go_getO (a := 166) dR_goOn_13 flR_16 rfl (hS.s sh_163) (hS.r rt_two) ?_
  refine go_bipush (nI 60) (by decide) dR_goOn_16 ?_
  refine go_iload_n dR_goOn_18 rfl rfl ?_
  first | refine go_imulN dR_goOn_19 ?_ | refine go_imul dR_goOn_19 ?_
  refine go_iload_n dR_goOn_20 rfl rfl ?_
  first | refine go_iaddN dR_goOn_21 ?_ | refine go_iadd dR_goOn_21 ?_
  refine go_ialV (hS.s sh_166) (by omega) (by decide) m3 dR_goOn_22 ?_
  refine go_istore dR_goOn_23 (Nat.le_of_ble_eq_true rfl) ?_
  refine go_iload_n dR_goOn_25 rfl rfl ?_
  refine go_bipush (nI 24) (by decide) dR_goOn_26 ?_
  refine go_icmp_neN (by omega) (by decide) dR_goOn_28 (tgt := 133) (by decide) (fun c28 => ?_) (fun c28 => ?_)
  · refine go_iload_n dR_goOn_133 rfl rfl ?_
    refine go_cS (k' := (0, 0)) dR_goOn_134 _ csR_139 stR_isJump rfl (okR_isJump (d := 0) w G (nI (mO M p))) (by omega) (by decide) (Nat.le_of_ble_eq_true rfl) (fun r G1 hr hn => ?_)
    obtain ⟨rfl, hG⟩ := hr
    rw [hG]
    clear hG hn
    rw [rjmp_dec hop]
    refine go_if_eqB dR_goOn_137 (tgt := 147) (by decide) (fun c137 => ?_) (fun c137 => ?_)
    · have ex : rNx M p y t = rN2 M p y t := by unfold rNx; rw [if_neg c28]; unfold rN1; rw [if_neg (of_decide_eq_false c137)]
      rw [ex]
      exact R_go2 w hd G M q p y hq hp hmv hb hk _ _ _ _ hS hM hnw hI
    · have hj := of_decide_eq_true c137
      obtain ⟨b1, b2⟩ := hmv.jmp hp hj
      refine go_aload_n dR_goOn_140 rfl rfl ?_
      refine go_iload_n dR_goOn_141 rfl rfl ?_
      refine go_iload dR_goOn_142 rfl ?_
      rw [b1]
      refine go_cV (k' := (0, 0)) dR_goOn_144 _ csR_172 (hS.s sh_163) rfl imR_arrive seR_arrive rfl (okR_arrive (d := 0) w G M t q (bN M p) y hq (by omega) hn6 hM.1.1 hS hnw hb hk hI h0) (by omega) (by decide) (Nat.le_of_ble_eq_true rfl) (fun r2 G2 hr2 hn2 => ?_)
      obtain ⟨rfl, hI2, ho2⟩ := hr2
      have ex : rNx M p y t = rN2 M p y (rCome M t (bN M p) y) := by unfold rNx; rw [if_neg c28]; unfold rN1; rw [if_pos hj]
      rw [ex]
      exact go_post (R_go2 w hd G2 M q p y hq hp hmv hb hk _ _ _ _ (ho2.St hS) (hM.j (fun i h1 h2 => ho2.1.2.2 i (by omega))) (hnw.v ho2) hI2) (fun r G3 h => ⟨h.1, h.2.1, ho2.tr h.2.2⟩)
  · obtain ⟨k, hk2, hk10⟩ := hB c28
    obtain ⟨e1, e2⟩ := hmv.loc hp (Or.inr (Or.inr (Or.inl c28)))
    have hnk := hnw.2.2 (aN M p) e2
    rw [hk2] at hnk
    have hk1 := hb.2.2 (aN M p) e2 k hk2
    have hnk : G.2.1 180 (aN M p) = nI k := hnk
    refine go_aload_n dR_goOn_31 rfl rfl ?_
    refine go_getO (a := 180) dR_goOn_32 flR_59 rfl (hS.s sh_163) (hS.r rt_local) ?_
    refine go_aload_n dR_goOn_35 rfl rfl ?_
    refine go_getO (a := 165) dR_goOn_36 flR_13 rfl (hS.s sh_163) (hS.r rt_one) ?_
    refine go_bipush (nI 60) (by decide) dR_goOn_39 ?_
    refine go_iload_n dR_goOn_41 rfl rfl ?_
    first | refine go_imulN dR_goOn_42 ?_ | refine go_imul dR_goOn_42 ?_
    refine go_iload_n dR_goOn_43 rfl rfl ?_
    first | refine go_iaddN dR_goOn_44 ?_ | refine go_iadd dR_goOn_44 ?_
    refine go_ialV (hS.s sh_165) (by omega) (by decide) (m2.trans e1) dR_goOn_45 ?_
    refine go_ialV (hS.s sh_180) (by omega) (by decide) hnk dR_goOn_46 ?_
    refine go_bipush (nI 10) (by decide) dR_goOn_47 ?_
    refine go_isubN hk10 dR_goOn_49 ?_
    refine go_istore dR_goOn_50 (Nat.le_of_ble_eq_true rfl) ?_
    refine go_iconst (nI 0) (by decide) dR_goOn_52 ?_
    refine go_istore dR_goOn_53 (Nat.le_of_ble_eq_true rfl) ?_
    have ex : rNx M p y t = rBackL M y (k - 10) t (mN M) := by unfold rNx; rw [if_pos c28]; unfold fRk; rw [hk2]
    rw [ex]
    exact R_go1 w hd G M q p y hq hp hmv hb hk _ t (k - 10) (by omega) (mN M) 0 G (by omega) hS oV.rf hM hnw hI
set_option maxRecDepth 100000 in
theorem R_rf1 (w : am_W) {d : Nat} (hd : 1 ≤ d) (G0 : am_G) (M : mT) (q p : Nat) (x0 : fS) (hq : q < 12) (hp : p < mN M) (hmv : mV M) (t : rT) (hx0 : t.1 p = some x0) : ∀ (r k : Nat) (G : am_G), k + r = mR M → St0 G → oJ G0 G → rM G q M → rkT G (rRow M p t k) →
    am_Go w jR_refuse d (0, 0) 2 [some (.inr (some 163)), some (.inl (nI q)), some (.inl (nI p)), some (.inl (nI k))] [] G (fun r G' => r = none ∧ rkT G' (rRow M p t (mR M)) ∧ oJ G0 G') := by
  intro r
  induction r with
  | zero =>
    intro k G hk2 hS ho hM hI
    have hr8 := hmv.2.1
    have hN := hM.1.2.1
    refine go_iload_n dR_refuse_2 rfl rfl ?_
    refine go_aload_n dR_refuse_3 rfl rfl ?_
    refine go_getO (a := 169) dR_refuse_4 flR_25 rfl (hS.s sh_163) (hS.r rt_rows) ?_
    refine go_iload_n dR_refuse_7 rfl rfl ?_
    refine go_ialV (hS.s sh_169) (by omega) (by decide) hN dR_refuse_8 ?_
    refine go_icmp_geN (by omega) (by omega) dR_refuse_9 (tgt := 89) (by decide) (fun c1 => ?_) (fun c1 => absurd c1 (by omega))
    refine go_return rfl dR_refuse_89 ?_
    exact ⟨rfl, by rw [show mR M = k by omega]; exact hI, ho⟩
  | succ r ih =>
    intro k G hk2 hS ho hM hI
    have hr8 := hmv.2.1
    have hn6 := hmv.1
    have hN := hM.1.2.1
    have hkr : k < mR M := by omega
    have hfl := hI.1
    obtain ⟨f1, f2, f3, f4⟩ := hM.2.2 k hkr
    obtain ⟨v1, v2, v3, v4⟩ := hmv.2.2.2.2 k hkr
    refine go_iload_n dR_refuse_2 rfl rfl ?_
    refine go_aload_n dR_refuse_3 rfl rfl ?_
    refine go_getO (a := 169) dR_refuse_4 flR_25 rfl (hS.s sh_163) (hS.r rt_rows) ?_
    refine go_iload_n dR_refuse_7 rfl rfl ?_
    refine go_ialV (hS.s sh_169) (by omega) (by decide) hN dR_refuse_8 ?_
    refine go_icmp_geN (by omega) (by omega) dR_refuse_9 (tgt := 89) (by decide) (fun c1 => absurd c1 (by omega)) (fun c1 => ?_)
    refine go_aload_n dR_refuse_12 rfl rfl ?_
    refine go_getV dR_refuse_13 flR_155 rfl (hS.s sh_163) (by first | assumption | (simp (disch := omega) only [wi_I, ro_I, wi_In, wi_Is]; done) | (simp (disch := omega) only [wi_I, ro_I, wi_In, wi_Is]; first | assumption | rfl) | rfl) ?_
    refine go_if_eqB dR_refuse_16 (tgt := 89) (by decide) (fun c16 => ?_) (fun c16 => ?_)
    · refine go_return rfl dR_refuse_89 ?_
      exact ⟨rfl, by rw [rRow_w (i := k) (n := mR M) (by omega) (by cases e : (rRow M p t k).2.2 with | true => rfl | false => rw [e] at c16; cases c16)]; exact hI, ho⟩
    · refine go_iload_n dR_refuse_19 rfl rfl ?_
      refine go_aload_n dR_refuse_20 rfl rfl ?_
      refine go_getO (a := 170) dR_refuse_21 flR_28 rfl (hS.s sh_163) (hS.r rt_from) ?_
      refine go_bipush (nI 8) (by decide) dR_refuse_24 ?_
      refine go_iload_n dR_refuse_26 rfl rfl ?_
      first | refine go_imulN dR_refuse_27 ?_ | refine go_imul dR_refuse_27 ?_
      refine go_iload_n dR_refuse_28 rfl rfl ?_
      first | refine go_iaddN dR_refuse_29 ?_ | refine go_iadd dR_refuse_29 ?_
      refine go_ialV (hS.s sh_170) (by omega) (by decide) f1 dR_refuse_30 ?_
      refine go_icmp_ltN (by omega) (by omega) dR_refuse_31 (tgt := 83) (by decide) (fun c31 => ?_) (fun c31 => ?_)
      · refine go_inc dR_refuse_83 rfl ?_
        refine go_goto dR_refuse_86 (tgt := 2) (by decide) ?_
        first | exact ih (k + 1) G (by omega) hS ho hM (by rw [show rRow M p t (k + 1) = rRow M p t k from if_neg (fun q => by omega)]; exact hI) | exact ih (k + 1) G2 (by omega) (ho2.St S3) ((ho.tr o13.j).tr ho2.j) (hM3.j (fun i h1 h2 => ho2.1.2.2 i (by omega))) (by rw [show rRow M p t (k + 1) = rCome M (rRow M p t k) (mP M k) (1, fun _ => 1, fLc ((rRow M p t k).1 p)) from if_pos ⟨c16a, by omega, by omega⟩, hx]; exact hI2)
      · refine go_iload_n dR_refuse_34 rfl rfl ?_
        refine go_aload_n dR_refuse_35 rfl rfl ?_
        refine go_getO (a := 171) dR_refuse_36 flR_31 rfl (hS.s sh_163) (hS.r rt_to) ?_
        refine go_bipush (nI 8) (by decide) dR_refuse_39 ?_
        refine go_iload_n dR_refuse_41 rfl rfl ?_
        first | refine go_imulN dR_refuse_42 ?_ | refine go_imul dR_refuse_42 ?_
        refine go_iload_n dR_refuse_43 rfl rfl ?_
        first | refine go_iaddN dR_refuse_44 ?_ | refine go_iadd dR_refuse_44 ?_
        refine go_ialV (hS.s sh_171) (by omega) (by decide) f2 dR_refuse_45 ?_
        refine go_icmp_ltN (by omega) (by omega) dR_refuse_46 (tgt := 52) (by decide) (fun c46 => ?_) (fun c46 => ?_)
        · have c16a : (rRow M p t k).2.2 = false := by cases e : (rRow M p t k).2.2 with | false => rfl | true => rw [e] at c16; cases c16
          obtain ⟨x, hx, -⟩ := (rRow_kp (M := M) (p := p) (t := t) (i := 0) (n := k) (Nat.zero_le _)).1 p x0 hp hx0
          have hst := ((hI.2 c16a).2 p (by omega)).2 x hx
          have hfl1 : G.2.1 163 20 = am_b true := by rw [hfl, c16a]; rfl
          refine go_aload_n dR_refuse_52 rfl rfl ?_
          refine go_iload_n dR_refuse_53 rfl rfl ?_
          refine go_cV (k' := (0, 0)) dR_refuse_54 _ csR_176 (hS.s sh_163) rfl imR_fetch seR_fetch rfl (okR_fetch (d := 0) w G p x (by omega) hS hst hfl1) (by omega) (by decide) (Nat.le_of_ble_eq_true rfl) (fun r1 G1 hr1 hn1 => ?_)
          obtain ⟨rfl, -, o1, w1⟩ := hr1
          have S1 := o1.St hS
          refine go_aload_n dR_refuse_57 rfl rfl ?_
          refine go_iconst (nI 0) (by decide) dR_refuse_58 ?_
          refine go_putI dR_refuse_59 fpR_152 rfl (S1.s sh_163) ?_
          have S2 : St0 (am_wi G1 163 18 (nI 0)) := S1
          refine go_aload_n dR_refuse_62 rfl rfl ?_
          refine go_iconst (nI 1) (by decide) dR_refuse_63 ?_
          refine go_cV (k' := (0, 0)) dR_refuse_64 _ csR_166 (S2.s sh_163) rfl imR_push seR_push rfl (okR_push (d := 0) w (am_wi G1 163 18 (nI 0)) (some (0, x.2)) 1 (nI 1) S2 w1.zero (fun _ => ⟨rfl, by decide, Or.inr (Or.inl rfl)⟩)) (by omega) (by decide) (Nat.le_of_ble_eq_true rfl) (fun r3 G3 hr3 hn3 => ?_)
          obtain ⟨rfl, w3, o3⟩ := hr3
          obtain ⟨nw3, b3, k3, fl3⟩ := w3.one
          have o13 : oN G G3 := (o1.tr oN.d).tr o3
          have S3 := o13.St hS
          have hM3 : rM G3 q M := hM.j (fun i h1 h2 => o13.1.2.2 i (by omega))
          have hI3 := hI.n c16a o13 fl3
          have f33 := (hM3.2.2 k hkr).2.2.1
          refine go_aload_n dR_refuse_67 rfl rfl ?_
          refine go_iload_n dR_refuse_68 rfl rfl ?_
          refine go_aload_n dR_refuse_69 rfl rfl ?_
          refine go_getO (a := 172) dR_refuse_70 flR_34 rfl (S3.s sh_163) (S3.r rt_at) ?_
          refine go_bipush (nI 8) (by decide) dR_refuse_73 ?_
          refine go_iload_n dR_refuse_75 rfl rfl ?_
          first | refine go_imulN dR_refuse_76 ?_ | refine go_imul dR_refuse_76 ?_
          refine go_iload_n dR_refuse_77 rfl rfl ?_
          first | refine go_iaddN dR_refuse_78 ?_ | refine go_iadd dR_refuse_78 ?_
          refine go_ialV (S3.s sh_172) (by omega) (by decide) f33 dR_refuse_79 ?_
          refine go_cV (k' := (0, 0)) dR_refuse_80 _ csR_172 (S3.s sh_163) rfl imR_arrive seR_arrive rfl (okR_arrive (d := 0) w G3 M (rRow M p t k) q (mP M k) (1, fun _ => 1, x.2.2) hq (by omega) hn6 hM3.1.1 S3 nw3 b3 k3 hI3 c16a) (by omega) (by decide) (Nat.le_of_ble_eq_true rfl) (fun r2 G2 hr2 hn2 => ?_)
          obtain ⟨rfl, hI2, ho2⟩ := hr2
          refine go_inc dR_refuse_83 rfl ?_
          refine go_goto dR_refuse_86 (tgt := 2) (by decide) ?_
          first | exact ih (k + 1) G (by omega) hS ho hM (by rw [show rRow M p t (k + 1) = rRow M p t k from if_neg (fun q => by omega)]; exact hI) | exact ih (k + 1) G2 (by omega) (ho2.St S3) ((ho.tr o13.j).tr ho2.j) (hM3.j (fun i h1 h2 => ho2.1.2.2 i (by omega))) (by rw [show rRow M p t (k + 1) = rCome M (rRow M p t k) (mP M k) (1, fun _ => 1, fLc ((rRow M p t k).1 p)) from if_pos ⟨c16a, by omega, by omega⟩, hx]; exact hI2)
        · refine go_goto dR_refuse_49 (tgt := 83) (by decide) ?_
          refine go_inc dR_refuse_83 rfl ?_
          refine go_goto dR_refuse_86 (tgt := 2) (by decide) ?_
          first | exact ih (k + 1) G (by omega) hS ho hM (by rw [show rRow M p t (k + 1) = rRow M p t k from if_neg (fun q => by omega)]; exact hI) | exact ih (k + 1) G2 (by omega) (ho2.St S3) ((ho.tr o13.j).tr ho2.j) (hM3.j (fun i h1 h2 => ho2.1.2.2 i (by omega))) (by rw [show rRow M p t (k + 1) = rCome M (rRow M p t k) (mP M k) (1, fun _ => 1, fLc ((rRow M p t k).1 p)) from if_pos ⟨c16a, by omega, by omega⟩, hx]; exact hI2)
set_option maxRecDepth 100000 in
theorem okR_refuse (w : am_W) {d : Nat} (hd : 1 ≤ d) (G : am_G) (M : mT) (q p : Nat) (x0 : fS) (hq : q < 12) (hp : p < mN M) (hmv : mV M) (t : rT) (hx0 : t.1 p = some x0) (hS : St0 G) (hM : rM G q M) (hI : rkT G t) : am_Ok w jR_refuse d (0, 0) [.inr (some 163), .inl (nI q), .inl (nI p)] G (fun r G' => r = none ∧ rkT G' (rRow M p t (mR M)) ∧ oJ G G') := by
  refine am_ok_of rfl (Nat.le_of_ble_eq_true rfl) ?_
  show am_Go w jR_refuse d (0, 0) 0 [some (.inr (some 163)), some (.inl (nI q)), some (.inl (nI p)), none] [] G _
  refine go_iconst (nI 0) (by decide) dR_refuse_0 ?_
  refine go_istore_n dR_refuse_1 rfl (Nat.le_of_ble_eq_true rfl) ?_
  exact R_rf1 w hd G M q p x0 hq hp hmv t hx0 (mR M) 0 G (by omega) hS oJ.rf hM hI
