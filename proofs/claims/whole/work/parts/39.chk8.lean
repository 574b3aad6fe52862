def hldP (G : am_G) (v : Nat) (Q : Nat → mT) : Prop := ∀ a, a < 6 → hldM G (mo v a) (Q a)
theorem hldP.same {G G' : am_G} {v : Nat} {Q : Nat → mT} (h : hldP G v Q) (ho : oR aR G G') : hldP G' v Q := fun a ha => (h a ha).same ho
abbrev gP (Q : Nat → mT) : Nat → Nat := fun a => mG (Q a)
theorem okC_tgM (w : am_W) {d : Nat} (hd : 3 ≤ d) (G : am_G) (c : Bool) (y : Option fS) (g : Nat → Nat) (m i : Nat) (M : mT) (hi : i < mN M) (h21 : mO M i ≠ 21) (hS : St0 G) (hM : hldM G m M) (h : wOK G c y) :
    am_Ok w jC_takeAndGive d (0, 0) [.inr (some 102), .inr (some m), .inl (nI i)] G (fun r G' => r = none ∧ wOK G' c (y.bind (fEff g (mO M i) (aN M i) (bN M i))) ∧ oC G G') := by
  obtain ⟨m1, m2, m3⟩ := hM.2.1.2.1 i hi
  have ho := (hM.2.2.1.2.2.2.1 i hi).1
  have hn6 := hM.2.2.1.1
  by_cases hl : mO M i = 2 ∨ mO M i = 3 ∨ mO M i = 24 ∨ mO M i = 27
  · obtain ⟨e1, e2⟩ := hM.2.2.1.loc hi hl
    have h23 : mO M i ≠ 23 := by omega
    rw [fEff_b ho h23]
    exact okC_takeAndGive w hd G c y g m i (mO M i) (aN M i) 0 ho h21 (by omega) e2 (by decide) hS h hM.1 m1 (fun _ => m2.trans e1) (fun e => absurd e h23)
  · rw [fEff_a ho hl h21]
    by_cases h23 : mO M i = 23
    · obtain ⟨e1, e2⟩ := hM.2.2.1.jmp hi (Or.inr (Or.inr (Or.inr h23)))
      exact okC_takeAndGive w hd G c y g m i (mO M i) 0 (bN M i) ho h21 (by omega) (by decide) e2 hS h hM.1 m1 (fun e => absurd e hl) (fun _ => m3.trans e1)
    · rw [fEff_b ho h23]
      exact okC_takeAndGive w hd G c y g m i (mO M i) 0 0 ho h21 (by omega) (by decide) (by decide) hS h hM.1 m1 (fun e => absurd e hl) (fun e => absurd e h23)
def gX (G : am_G) (p d : Nat) : am_G := am_wi (am_ro G 107 (va_cpy (G.2.1 104) (G.2.1 107) (16 * p) 0 16)) 102 7 (nI d)
def gF (G : am_G) (p d : Nat) : am_G := am_wi (am_ro (gX G p d) 108 (va_cpy ((gX G p d).2.1 107) ((gX G p d).2.1 108) 8 8 8)) 108 0 (nI 1)
theorem gF_o {G : am_G} {p d : Nat} : oR aR G (gF G p d) := (((oR.ro ⟨by omega, by omega⟩).tr (oR.wi ⟨by omega, by omega⟩)).tr (oR.ro ⟨by omega, by omega⟩)).tr (oR.wi ⟨by omega, by omega⟩)
theorem gF_ok {G : am_G} {M : mT} {t : cT} {p : Nat} {x : fS} (hI : ckT G M t) (hp : p < mN M) (hx : t.1 p = some x) : ckT (gF G p x.1) M t ∧ nowC (gF G p x.1) x ∧ wayC (gF G p x.1) 108 (1, fun _ => 1, x.2.2) ∧ fB x := by
  obtain ⟨b1, b2, b3, b4⟩ := (hI.2.2.2 p hp).2.2 x hx
  have r7 : (gF G p x.1).2.1 107 = va_cpy (G.2.1 104) (G.2.1 107) (16 * p) 0 16 := by
    unfold gF gX
    rw [wi_I (by decide), ro_I (by decide), wi_I (by decide), ro_Is]
  have r8 : ∀ i, (gF G p x.1).2.1 108 i = if i = 0 then nI 1 else va_cpy (va_cpy (G.2.1 104) (G.2.1 107) (16 * p) 0 16) (G.2.1 108) 8 8 8 i := fun i => by
    have e7 : (gX G p x.1).2.1 107 = va_cpy (G.2.1 104) (G.2.1 107) (16 * p) 0 16 := by unfold gX; rw [wi_I (by decide), ro_Is]
    have e8 : (gX G p x.1).2.1 108 = G.2.1 108 := by unfold gX; rw [wi_I (by decide), ro_I (by decide)]
    unfold gF
    rw [wi_at, ro_Is, e7, e8]
  have b8 := b4.1
  refine ⟨hI.same (fun k hk => ?_) (fun i h1 h2 => ?_), ⟨?_, fun i hi => ?_, fun i hi => ?_⟩, ⟨fun i hi => ?_, fun i hi => ?_⟩, b4⟩
  · unfold gF gX
    rw [wi_I (by decide), ro_I (by decide), wi_In hk, ro_I (by decide)]
  · unfold gF gX
    rw [wi_I (by omega), ro_I (by omega), wi_I (by omega), ro_I (by omega)]
  · unfold gF gX
    rw [wi_I (by decide), ro_I (by decide), wi_Is]
  · rw [r7, pk_cpy_in (by omega) (by omega), show 16 * p + (i - 0) = 16 * p + i by omega]; exact b2 i hi
  · rw [r7, pk_cpy_in (by omega) (by omega), show 16 * p + (8 + i - 0) = 16 * p + (8 + i) by omega]; exact b3 i hi
  · have hi : i < 1 := hi
    rw [r8, if_pos (by omega)]
  · rw [r8, if_neg (by omega), pk_cpy_in (by omega) (by omega), show 8 + (8 + i - 8) = 8 + i by omega, pk_cpy_in (by omega) (by omega), show 16 * p + (8 + i - 0) = 16 * p + (8 + i) by omega]
    exact b3 i hi
def cGo2 (g : Nat → Nat) (M : mT) (p : Nat) (x : fS) (t : cT) : cT := match fEff g (mO M p) (aN M p) (bN M p) x with
  | none => (t.1, t.2.1, true)
  | some y => if t.2.2 = true then t else cLead M p y t
theorem fEff_24 {g : Nat → Nat} {a b : Nat} {x y : fS} (h : fEff g 24 a b x = some y) : ∃ k, y.2.2 a = some k ∧ 10 ≤ k := by
  simp only [fEff] at h
  cases e : x.2.2 a with
  | none => rw [e] at h; cases h
  | some k =>
    rw [e] at h
    simp only at h
    split at h
    · cases h
    · cases h
      exact ⟨k, e, by omega⟩
theorem hit_dec {a b p : Nat} (ha : a < 1000) (hb : b < 1000) (hp : p < 1000) : decide (nI a ≤ nI p ∧ nI p < nI b) = decide (a ≤ p ∧ p < b) := by
  refine decide_eq_decide.mpr ?_
  rw [nI_ltI (by omega) (by omega), ← i_nlt, nI_ltI (by omega) (by omega), Nat.not_lt]
section Rl
variable {M : mT} {x : fS} {p k : Nat} {t : cT}
theorem rl_1 (h : decide (mF M k ≤ p ∧ p < mE M k) = false) : cRow M p x t (k + 1) = cRow M p x t k := if_neg (of_decide_eq_false h)
theorem rl_2 (h : decide (mF M k ≤ p ∧ p < mE M k) = true) : cRow M p x t (k + 1) = cCome M (cRow M p x t k) (mP M k) (1, fun _ => 1, x.2.2) := if_pos (of_decide_eq_true h)
end Rl
theorem fB_1 {x : fS} (h : fB x) : fB (1, fun _ => 1, x.2.2) := ⟨by show 1 ≤ 8; decide, fun _ _ => by show 1 < 200; decide, h.2.2⟩
/-- what waits has been come to -/
def cWt (M : mT) (t : cT) : Prop := ∀ p, p < mN M → t.2.1 p = true → t.1 p ≠ none
section Wt
variable {g : Nat → Nat} {M : mT}
theorem cWt.come {t : cT} {q : Nat} {y : fS} (h : cWt M t) : cWt M (cCome M t q y) := by
  by_cases hq : q < mN M
  · cases hz : t.1 q with
    | none =>
      rw [cCome_new hq hz]
      intro p hp hw
      have hw : (if mO M q = 23 then cBk M (va_up t.1 q (some y)) (va_up t.2.1 q true) else va_up t.2.1 q true) p = true := hw
      show va_up t.1 q (some y) p ≠ none
      by_cases e : p = q
      · rw [e, am_up_eq]; exact fun h => by cases h
      · rw [am_up_ne e]
        split at hw
        · unfold cBk at hw
          rw [am_up_ne e, am_up_ne e, Bool.or_eq_true, Bool.and_eq_true] at hw
          rcases hw with a | a
          · exact h p hp a
          · intro h2
            rw [h2] at a
            exact absurd a.1 (by decide)
        · rw [am_up_ne e] at hw
          exact h p hp hw
    | some z =>
      rw [cCome_met hq hz]
      intro p hp hw
      have hw : (t.2.1 p || (decide (p = q) && cDf z y 8)) = true := hw
      show va_up t.1 q _ p ≠ none
      by_cases e : p = q
      · rw [e, am_up_eq]; exact fun h => by cases h
      · rw [am_up_ne e]
        rw [decide_eq_false e, Bool.false_and, Bool.or_false] at hw
        exact h p hp hw
  · rw [cCome_out hq]; exact h
theorem cWt.row {p : Nat} {x : fS} {t : cT} (h : cWt M t) : ∀ n, cWt M (cRow M p x t n)
  | 0 => h
  | n + 1 => by
    show cWt M (if _ then _ else _)
    split
    · exact (cWt.row h n).come
    · exact cWt.row h n
theorem cWt.back {y : fS} {k : Nat} {t : cT} (h : cWt M t) : ∀ n, cWt M (cBackL M y k t n)
  | 0 => h
  | n + 1 => by
    show cWt M (if _ then _ else _)
    split
    · exact (cWt.back h n).come
    · exact cWt.back h n
theorem cWt.lead {p : Nat} {y : fS} {t : cT} (h : cWt M t) : cWt M (cLead M p y t) := by
  have a1 : cWt M (cL1 M p y t) := by unfold cL1; split; exact h.come; exact h
  have a2 : cWt M (cL2 M p y (cL1 M p y t)) := by unfold cL2; split; exact a1.back _; exact a1
  unfold cLead cL3
  split
  · exact a2.come
  · exact a2
theorem cWt.go {p : Nat} {x : fS} {t : cT} (h : cWt M t) : cWt M (cGo g M p x t) := by
  unfold cGo
  split
  · exact h.row _
  · split
    · exact h.row _
    · exact (h.row _).lead
def cIv (g : Nat → Nat) (M : mT) (t : cT) : Prop := cInv g M t ∧ cWt M t
theorem cIv.beg : cIv g M (cBeg M) := ⟨cInv.beg, cWt.come (fun _ _ h => by cases h)⟩
theorem cIv.go {p : Nat} {x : fS} {t : cT} (hv : mV M) (h : cIv g M t) (hp : p < mN M) (hx : t.1 p = some x) : cIv g M (cGo g M p x (t.1, va_up t.2.1 p false, t.2.2)) :=
  ⟨h.1.go hv hp hx, cWt.go (fun q hq hw => by
    have hw : va_up t.2.1 p false q = true := hw
    by_cases e : q = p
    · rw [e, am_up_eq] at hw; cases hw
    · rw [am_up_ne e] at hw; exact h.2 q hq hw)⟩
theorem cIv.some {t : cT} {k : Nat} (h : cIv g M t) (hk : k < mN M) (hw : t.2.1 k = true) : ∃ x, t.1 k = some x := by
  cases e : t.1 k with
  | none => exact absurd e (h.2 k hk hw)
  | some x => exact ⟨x, rfl⟩
theorem f1_k {t : cT} {k : Nat} (h : ∀ i, i < k → t.2.1 i = false) (hk : t.2.1 k = false) : ∀ i, i < k + 1 → t.2.1 i = false := fun i hi => by
  by_cases e : i = k
  · rw [e]; exact hk
  · exact h i (by omega)
end Wt

set_option maxRecDepth 100000 in
theorem C_g3 (w : am_W) {d : Nat} (hd : 3 ≤ d) (G : am_G) (v e p : Nat) (Q : Nat → mT) (x : fS) (hv : v < 2) (he : e < 6) (hp : p < mN (Q e)) (hx : fB x) (t : cT) (l4 : Option am_V) (hS : St0 G) (hP : hldP G v Q) (hw : wOK G t.2.2 (fEff (gP Q) (mO (Q e) p) (aN (Q e) p) (bN (Q e) p) x)) (hI : ∀ c, G.2.1 102 9 = am_b c → ckI G (Q e) t.1 t.2.1 c) : am_Go w jC_goOnFrom d (0, 0) 135 [some (.inr (some 102)), some (.inr (some (2 + 50 * v))), some (.inr (some (mo v e))), some (.inl (nI p)), l4] [] G (fun r G' => r = none ∧ ckT G' (Q e) (cGo2 (gP Q) (Q e) p x t) ∧ oR aR G G') := by
  have q1 : G.1[102]? = some (0, 3) := hS.s rfl
  have q2 : G.1[103]? = some (1, 60) := hS.s rfl
  have q3 : G.1[104]? = some (1, 960) := hS.s rfl
  have q4 : G.1[105]? = some (2, 60) := hS.s rfl
  have q5 : G.1[106]? = some (2, 60) := hS.s rfl
  have q6 : G.2.2 102 0 = some 103 := hS.r ck_r0
  have q7 : G.2.2 102 2 = some 104 := hS.r ck_r2
  have q8 : G.2.2 102 3 = some 105 := hS.r ck_r3
  have q9 : G.2.2 102 4 = some 106 := hS.r ck_r4
  have q11 : G.1[107]? = some (1, 16) := hS.s rfl
  have q12 : G.1[108]? = some (1, 16) := hS.s rfl
  have q13 : G.2.2 102 5 = some 107 := hS.r ck_r5
  have q14 : G.2.2 102 6 = some 108 := hS.r ck_r6
  have hM := hP e he
  have hop28 := (hM.2.2.1.2.2.2.1 p hp).1
  have hn6 := hM.2.2.1.1
  unfold cGo2
  cases hf : fEff (gP Q) (mO (Q e) p) (aN (Q e) p) (bN (Q e) p) x with
  | none =>
    rw [hf] at hw
    have h9 := hw.1
    have hI1 := hI true h9
    refine go_aload_n dC_goOnFrom_135 rfl rfl ?_
    refine go_getV dC_goOnFrom_136 flC_41 rfl (by assumption) (by first | assumption | (simp (disch := omega) only [wi_I, ro_I, wi_In, wi_Is]; done) | (simp (disch := omega) only [wi_I, ro_I, wi_In, wi_Is]; first | assumption | rfl) | rfl) ?_
    refine go_if_neB dC_goOnFrom_139 (tgt := 148) (by decide) (fun c1 => ?_) (fun c1 => absurd c1 (by decide))
    refine go_return rfl dC_goOnFrom_148 ?_
    exact ⟨rfl, hI1, oR.rf⟩
  | some y =>
    rw [hf] at hw
    obtain ⟨hnw, hy, h9⟩ := hw
    have hI1 : ckT G (Q e) t := hI t.2.2 h9
    refine go_aload_n dC_goOnFrom_135 rfl rfl ?_
    refine go_getV dC_goOnFrom_136 flC_41 rfl (by assumption) (by first | assumption | (simp (disch := omega) only [wi_I, ro_I, wi_In, wi_Is]; done) | (simp (disch := omega) only [wi_I, ro_I, wi_In, wi_Is]; first | assumption | rfl) | rfl) ?_
    refine go_if_neB dC_goOnFrom_139 (tgt := 148) (by decide) (fun c139 => ?_) (fun c139 => ?_)
    · refine go_return rfl dC_goOnFrom_148 ?_
      first | exact ⟨rfl, by show ckT _ _ (if t.2.2 = true then t else _); rw [if_pos c139]; exact hI1, oR.rf⟩ | exact ⟨rfl, by show ckT _ _ (if t.2.2 = true then t else _); rw [if_neg (by rw [c139]; decide)]; exact hI2, ho2.up⟩
    · refine go_aload_n dC_goOnFrom_142 rfl rfl ?_
      refine go_aload_n dC_goOnFrom_143 rfl rfl ?_
      refine go_iload_n dC_goOnFrom_144 rfl rfl ?_
      refine go_cV (k' := (0, 0)) dC_goOnFrom_145 _ csC_105 q1 rfl imC_leadOn seC_leadOn rfl (okC_leadOn (d := 2) w (by decide) G (mo v e) p (Q e) y hp hy t (fun h => fEff_24 (by rw [← h]; exact hf)) hS hM hnw hI1) (by omega) (by decide) (Nat.le_of_ble_eq_true rfl) (fun r2 G2 hr2 hn2 => ?_)
      obtain ⟨rfl, hI2, ho2⟩ := hr2
      refine go_return rfl dC_goOnFrom_148 ?_
      first | exact ⟨rfl, by show ckT _ _ (if t.2.2 = true then t else _); rw [if_pos c139]; exact hI1, oR.rf⟩ | exact ⟨rfl, by show ckT _ _ (if t.2.2 = true then t else _); rw [if_neg (by rw [c139]; decide)]; exact hI2, ho2.up⟩
set_option maxRecDepth 100000 in
theorem C_g2 (w : am_W) {d : Nat} (hd : 4 ≤ d) (G : am_G) (v e p : Nat) (Q : Nat → mT) (x : fS) (hv : v < 2) (he : e < 6) (hp : p < mN (Q e)) (hx : fB x) (t : cT) (l4 : Option am_V) (hS : St0 G) (hP : hldP G v Q) (hnw : nowC G x) (hI : ckT G (Q e) t) : am_Go w jC_goOnFrom d (0, 0) 97 [some (.inr (some 102)), some (.inr (some (2 + 50 * v))), some (.inr (some (mo v e))), some (.inl (nI p)), l4] [] G (fun r G' => r = none ∧ ckT G' (Q e) (cGo2 (gP Q) (Q e) p x t) ∧ oR aR G G') := by
  have q1 : G.1[102]? = some (0, 3) := hS.s rfl
  have q2 : G.1[103]? = some (1, 60) := hS.s rfl
  have q3 : G.1[104]? = some (1, 960) := hS.s rfl
  have q4 : G.1[105]? = some (2, 60) := hS.s rfl
  have q5 : G.1[106]? = some (2, 60) := hS.s rfl
  have q6 : G.2.2 102 0 = some 103 := hS.r ck_r0
  have q7 : G.2.2 102 2 = some 104 := hS.r ck_r2
  have q8 : G.2.2 102 3 = some 105 := hS.r ck_r3
  have q9 : G.2.2 102 4 = some 106 := hS.r ck_r4
  have q11 : G.1[107]? = some (1, 16) := hS.s rfl
  have q12 : G.1[108]? = some (1, 16) := hS.s rfl
  have q13 : G.2.2 102 5 = some 107 := hS.r ck_r5
  have q14 : G.2.2 102 6 = some 108 := hS.r ck_r6
  have hM := hP e he
  have hop28 := (hM.2.2.1.2.2.2.1 p hp).1
  have hn6 := hM.2.2.1.1
  have hMm := hM.1
  obtain ⟨hs, ⟨r0, r1, r2, r3, r4, r5, r6⟩, s1, s2, s3, s4, s5, s6, s7⟩ := hMm
  have h9 := hI.2.1
  have hw : wOK G t.2.2 (some x) := ⟨hnw, hx, h9⟩
  obtain ⟨m1, m2, m3⟩ := hM.2.1.2.1 p hp
  obtain ⟨p1, p2, p3, p4⟩ := pr_l v hv
  have u1 := hS.s p1
  have u2 := hS.s p2
  have u3 := hS.r p3
  refine go_aload_n dC_goOnFrom_97 rfl rfl ?_
  refine go_getO dC_goOnFrom_98 flC_91 rfl (by assumption) (by assumption) ?_
  refine go_iload_n dC_goOnFrom_101 rfl rfl ?_
  refine go_ialV s1 (by omega) (by decide) m1 dC_goOnFrom_102 ?_
  refine go_bipush (nI 21) (by decide) dC_goOnFrom_103 ?_
  refine go_icmp_neN (by omega) (by decide) dC_goOnFrom_105 (tgt := 129) (by decide) (fun c105 => ?_) (fun c105 => ?_)
  · refine go_aload_n dC_goOnFrom_129 rfl rfl ?_
    refine go_aload_n dC_goOnFrom_130 rfl rfl ?_
    refine go_iload_n dC_goOnFrom_131 rfl rfl ?_
    refine go_cV (k' := (0, 0)) dC_goOnFrom_132 _ csC_101 q1 rfl imC_takeAndGive seC_takeAndGive rfl (okC_tgM (d := 3) w (by decide) G t.2.2 (some x) (gP Q) (mo v e) p (Q e) hp c105 hS hM hw) (by omega) (by decide) (Nat.le_of_ble_eq_true rfl) (fun r G1 hr hn => ?_)
    obtain ⟨rfl, hw2, ho2⟩ := hr
    refine go_post (C_g3 w (by omega) G1 v e p Q x hv he hp hx t _ (ho2.St hS) (hP.same ho2.up) (by skip; exact hw2) (fun c hc => hI.oc ho2 hc)) (fun r G3 h => ⟨h.1, h.2.1, ho2.up.tr h.2.2⟩)
  · obtain ⟨e1, e2⟩ := hM.2.2.1.call hp c105
    have u4 := hS.r (pm_l v hv (aN (Q e) p) e2)
    have hA := (hP (aN (Q e) p) e2).2.1.1.2.2.1
    have hA3 := (hP (aN (Q e) p) e2).2.2.1.2.2.1
    have hAs := (hP (aN (Q e) p) e2).1.1
    refine go_aload_n dC_goOnFrom_108 rfl rfl ?_
    refine go_aload_n dC_goOnFrom_109 rfl rfl ?_
    refine go_getO dC_goOnFrom_110 flC_31 rfl (by assumption) (by assumption) ?_
    refine go_aload_n dC_goOnFrom_113 rfl rfl ?_
    refine go_getO dC_goOnFrom_114 flC_94 rfl (by assumption) (by assumption) ?_
    refine go_iload_n dC_goOnFrom_117 rfl rfl ?_
    refine go_ialV s2 (by omega) (by decide) (m2.trans e1) dC_goOnFrom_118 ?_
    refine go_aaO (t := 1) (by decide) u2 e2 (by decide) u4 dC_goOnFrom_119 ?_
    refine go_getV dC_goOnFrom_120 flC_66 rfl (by assumption) (by first | assumption | (simp (disch := omega) only [wi_I, ro_I, wi_In, wi_Is]; done) | (simp (disch := omega) only [wi_I, ro_I, wi_In, wi_Is]; first | assumption | rfl) | rfl) ?_
    refine go_cV (k' := (0, 0)) dC_goOnFrom_123 _ csC_97 q1 rfl imC_passArguments seC_passArguments rfl (okC_passArguments (d := 2) w (by decide) G t.2.2 (some x) (mG (Q (aN (Q e) p))) (by omega) hS hw) (by omega) (by decide) (Nat.le_of_ble_eq_true rfl) (fun r G1 hr hn => ?_)
    obtain ⟨rfl, hw2, ho2⟩ := hr
    refine go_goto dC_goOnFrom_126 (tgt := 135) (by decide) ?_
    refine go_post (C_g3 w (by omega) G1 v e p Q x hv he hp hx t _ (ho2.St hS) (hP.same ho2.up) (by rw [c105]; exact hw2) (fun c hc => hI.oc ho2 hc)) (fun r G3 h => ⟨h.1, h.2.1, ho2.up.tr h.2.2⟩)
set_option maxRecDepth 100000 in
theorem C_g1 (w : am_W) {d : Nat} (hd : 4 ≤ d) (G0 : am_G) (v e p : Nat) (Q : Nat → mT) (x : fS) (hv : v < 2) (he : e < 6) (hp : p < mN (Q e)) (hx : fB x) (t : cT) : ∀ (r k : Nat) (G : am_G), k + r = mR (Q e) → St0 G → oR aR G0 G → hldP G v Q → nowC G x → wayC G 108 (1, fun _ => 1, x.2.2) → ckT G (Q e) (cRow (Q e) p x t k) →
    am_Go w jC_goOnFrom d (0, 0) 55 [some (.inr (some 102)), some (.inr (some (2 + 50 * v))), some (.inr (some (mo v e))), some (.inl (nI p)), some (.inl (nI k))] [] G (fun r G' => r = none ∧ ckT G' (Q e) (cGo (gP Q) (Q e) p x t) ∧ oR aR G0 G') := by
  intro r
  induction r with
  | zero =>
    intro k G hk hS ho hP hnw hcw hI
    have hR := (hP e he).2.1.1.2.1
    have hR8 := (hP e he).2.2.1.2.1
    have q1 : G.1[102]? = some (0, 3) := hS.s rfl
    have q2 : G.1[103]? = some (1, 60) := hS.s rfl
    have q3 : G.1[104]? = some (1, 960) := hS.s rfl
    have q4 : G.1[105]? = some (2, 60) := hS.s rfl
    have q5 : G.1[106]? = some (2, 60) := hS.s rfl
    have q6 : G.2.2 102 0 = some 103 := hS.r ck_r0
    have q7 : G.2.2 102 2 = some 104 := hS.r ck_r2
    have q8 : G.2.2 102 3 = some 105 := hS.r ck_r3
    have q9 : G.2.2 102 4 = some 106 := hS.r ck_r4
    have q11 : G.1[107]? = some (1, 16) := hS.s rfl
    have q12 : G.1[108]? = some (1, 16) := hS.s rfl
    have q13 : G.2.2 102 5 = some 107 := hS.r ck_r5
    have q14 : G.2.2 102 6 = some 108 := hS.r ck_r6
    have hM := hP e he
    have hop28 := (hM.2.2.1.2.2.2.1 p hp).1
    have hn6 := hM.2.2.1.1
    have hMm := hM.1
    obtain ⟨hs, ⟨r0, r1, r2, r3, r4, r5, r6⟩, s1, s2, s3, s4, s5, s6, s7⟩ := hMm
    refine go_iload dC_goOnFrom_55 rfl ?_
    refine go_aload_n dC_goOnFrom_57 rfl rfl ?_
    refine go_getV dC_goOnFrom_58 flC_82 rfl (by assumption) (by first | assumption | (simp (disch := omega) only [wi_I, ro_I, wi_In, wi_Is]; done) | (simp (disch := omega) only [wi_I, ro_I, wi_In, wi_Is]; first | assumption | rfl) | rfl) ?_
    refine go_icmp_geN (by omega) (by omega) dC_goOnFrom_61 (tgt := 97) (by decide) (fun c1 => ?_) (fun c1 => absurd c1 (by omega))
    rw [show k = mR (Q e) by omega] at hI
    exact go_post (C_g2 w hd G v e p Q x hv he hp hx _ _ hS hP hnw hI) (fun r G3 h => ⟨h.1, h.2.1, ho.tr h.2.2⟩)
  | succ r ih =>
    intro k G hk hS ho hP hnw hcw hI
    have hR := (hP e he).2.1.1.2.1
    have hR8 := (hP e he).2.2.1.2.1
    have hkr : k < mR (Q e) := by omega
    obtain ⟨f1, f2, f3, f4⟩ := (hP e he).2.1.2.2 k hkr
    obtain ⟨v1, v2, v3, v4⟩ := (hP e he).2.2.1.2.2.2.2 k hkr
    have q1 : G.1[102]? = some (0, 3) := hS.s rfl
    have q2 : G.1[103]? = some (1, 60) := hS.s rfl
    have q3 : G.1[104]? = some (1, 960) := hS.s rfl
    have q4 : G.1[105]? = some (2, 60) := hS.s rfl
    have q5 : G.1[106]? = some (2, 60) := hS.s rfl
    have q6 : G.2.2 102 0 = some 103 := hS.r ck_r0
    have q7 : G.2.2 102 2 = some 104 := hS.r ck_r2
    have q8 : G.2.2 102 3 = some 105 := hS.r ck_r3
    have q9 : G.2.2 102 4 = some 106 := hS.r ck_r4
    have q11 : G.1[107]? = some (1, 16) := hS.s rfl
    have q12 : G.1[108]? = some (1, 16) := hS.s rfl
    have q13 : G.2.2 102 5 = some 107 := hS.r ck_r5
    have q14 : G.2.2 102 6 = some 108 := hS.r ck_r6
    have hM := hP e he
    have hop28 := (hM.2.2.1.2.2.2.1 p hp).1
    have hn6 := hM.2.2.1.1
    have hMm := hM.1
    obtain ⟨hs, ⟨r0, r1, r2, r3, r4, r5, r6⟩, s1, s2, s3, s4, s5, s6, s7⟩ := hMm
    refine go_iload dC_goOnFrom_55 rfl ?_
    refine go_aload_n dC_goOnFrom_57 rfl rfl ?_
    refine go_getV dC_goOnFrom_58 flC_82 rfl (by assumption) (by first | assumption | (simp (disch := omega) only [wi_I, ro_I, wi_In, wi_Is]; done) | (simp (disch := omega) only [wi_I, ro_I, wi_In, wi_Is]; first | assumption | rfl) | rfl) ?_
    refine go_icmp_geN (by omega) (by omega) dC_goOnFrom_61 (tgt := 97) (by decide) (fun c1 => absurd c1 (by omega)) (fun c1 => ?_)
    refine go_aload_n dC_goOnFrom_64 rfl rfl ?_
    refine go_iload dC_goOnFrom_65 rfl ?_
    refine go_iload_n dC_goOnFrom_67 rfl rfl ?_
    refine go_cV (k' := (0, 0)) dC_goOnFrom_68 _ csC_85 (by assumption) rfl imE_rowCovers seE_rowCovers rfl (okE_rowCovers (d := 0) w G (mo v e) k (nI p) (by omega) hM.1) (by omega) (by decide) (Nat.le_of_ble_eq_true rfl) (fun r G1 hr hn => ?_)
    obtain ⟨rfl, hG⟩ := hr
    rw [hG]
    clear hG hn
    rw [f1, f2, hit_dec (by omega) (by omega) (by omega)]
    refine go_if_eqB dC_goOnFrom_71 (tgt := 91) (by decide) (fun c71 => ?_) (fun c71 => ?_)
    · refine go_inc dC_goOnFrom_91 rfl ?_
      refine go_goto dC_goOnFrom_94 (tgt := 55) (by decide) ?_
      first | exact ih (k + 1) G (by omega) hS ho hP hnw hcw (by rw [rl_1 c71]; exact hI) | exact ih (k + 1) G2 (by omega) (ho2.St hS) (ho.tr ho2.up) (hP.same ho2.up) (hnw.k ho2) (ho2.way (by omega) hcw) (by rw [rl_2 c71]; exact hI2)
    · refine go_aload_n dC_goOnFrom_74 rfl rfl ?_
      refine go_aload_n dC_goOnFrom_75 rfl rfl ?_
      refine go_aload_n dC_goOnFrom_76 rfl rfl ?_
      refine go_getO dC_goOnFrom_77 flC_88 rfl (by assumption) (by assumption) ?_
      refine go_iload dC_goOnFrom_80 rfl ?_
      refine go_ialV s6 (by omega) (by decide) f3 dC_goOnFrom_82 ?_
      refine go_aload_n dC_goOnFrom_83 rfl rfl ?_
      refine go_getO dC_goOnFrom_84 flC_28 rfl (by assumption) (by assumption) ?_
      refine go_iconst (nI 1) (by decide) dC_goOnFrom_87 ?_
      refine go_cV (k' := (0, 0)) dC_goOnFrom_88 [.inr (some (mo v e)), .inl (nI (mP (Q e) k)), .inr (some 108), .inl (nI 1)] csC_69 q1 rfl imC_comeTo seC_comeTo rfl (okC_comeTo (d := 1) w (by decide) G (mo v e) (Q e) (cRow (Q e) p x t k) (mP (Q e) k) 108 (1, fun _ => 1, x.2.2) (by omega) (Or.inr rfl) (fB_1 hx) hS hM hcw hI) (by omega) (by decide) (Nat.le_of_ble_eq_true rfl) (fun r2 G2 hr2 hn2 => ?_)
      obtain ⟨rfl, hI2, ho2⟩ := hr2
      refine go_inc dC_goOnFrom_91 rfl ?_
      refine go_goto dC_goOnFrom_94 (tgt := 55) (by decide) ?_
      first | exact ih (k + 1) G (by omega) hS ho hP hnw hcw (by rw [rl_1 c71]; exact hI) | exact ih (k + 1) G2 (by omega) (ho2.St hS) (ho.tr ho2.up) (hP.same ho2.up) (hnw.k ho2) (ho2.way (by omega) hcw) (by rw [rl_2 c71]; exact hI2)
set_option maxRecDepth 100000 in
theorem okC_goOnFrom (w : am_W) {d : Nat} (hd : 4 ≤ d) (G : am_G) (v e p : Nat) (Q : Nat → mT) (x : fS) (hv : v < 2) (he : e < 6) (hp : p < mN (Q e)) (t : cT) (hx : t.1 p = some x) (hS : St0 G) (hP : hldP G v Q) (hI : ckT G (Q e) t) : am_Ok w jC_goOnFrom d (0, 0) [.inr (some 102), .inr (some (2 + 50 * v)), .inr (some (mo v e)), .inl (nI p)] G (fun r G' => r = none ∧ ckT G' (Q e) (cGo (gP Q) (Q e) p x t) ∧ oR aR G G') := by
  refine am_ok_of rfl (Nat.le_of_ble_eq_true rfl) ?_
  show am_Go w jC_goOnFrom d (0, 0) 0 [some (.inr (some 102)), some (.inr (some (2 + 50 * v))), some (.inr (some (mo v e))), some (.inl (nI p)), none] [] G _
  have q1 : G.1[102]? = some (0, 3) := hS.s rfl
  have q2 : G.1[103]? = some (1, 60) := hS.s rfl
  have q3 : G.1[104]? = some (1, 960) := hS.s rfl
  have q4 : G.1[105]? = some (2, 60) := hS.s rfl
  have q5 : G.1[106]? = some (2, 60) := hS.s rfl
  have q6 : G.2.2 102 0 = some 103 := hS.r ck_r0
  have q7 : G.2.2 102 2 = some 104 := hS.r ck_r2
  have q8 : G.2.2 102 3 = some 105 := hS.r ck_r3
  have q9 : G.2.2 102 4 = some 106 := hS.r ck_r4
  have q11 : G.1[107]? = some (1, 16) := hS.s rfl
  have q12 : G.1[108]? = some (1, 16) := hS.s rfl
  have q13 : G.2.2 102 5 = some 107 := hS.r ck_r5
  have q14 : G.2.2 102 6 = some 108 := hS.r ck_r6
  have hM := hP e he
  have hop28 := (hM.2.2.1.2.2.2.1 p hp).1
  have hn6 := hM.2.2.1.1
  obtain ⟨b1, b2, b3, b4⟩ := (hI.2.2.2 p hp).2.2 x hx
  obtain ⟨g1, g2, g3, g4⟩ := gF_ok hI hp hx
  refine go_aload_n dC_goOnFrom_0 rfl rfl ?_
  refine go_getO dC_goOnFrom_1 flC_15 rfl (by assumption) (by assumption) ?_
  refine go_iload_n dC_goOnFrom_4 rfl rfl ?_
  refine go_bipush (nI 16) (by decide) dC_goOnFrom_5 ?_
  refine go_imul dC_goOnFrom_7 ?_
  rw [pk_mul, show p * 16 = 16 * p from Nat.mul_comm _ _]
  refine go_aload_n dC_goOnFrom_8 rfl rfl ?_
  refine go_getO dC_goOnFrom_9 flC_25 rfl (by assumption) (by assumption) ?_
  refine go_iconst (nI 0) (by decide) dC_goOnFrom_12 ?_
  refine go_bipush (nI 16) (by decide) dC_goOnFrom_13 ?_
  refine go_cp dC_goOnFrom_15 lkC_73 (by omega) q3 q11 (by omega) (by omega) (by decide) (by decide) (Nat.le_of_ble_eq_true rfl) ?_
  refine go_aload_n dC_goOnFrom_18 rfl rfl ?_
  refine go_aload_n dC_goOnFrom_19 rfl rfl ?_
  refine go_getO dC_goOnFrom_20 flC_9 rfl (by assumption) (by assumption) ?_
  refine go_iload_n dC_goOnFrom_23 rfl rfl ?_
  refine go_ialV (v := nI x.1) q2 (by omega) (by decide) (by rw [ro_I (by decide)]; exact b1) dC_goOnFrom_24 ?_
  refine go_putI dC_goOnFrom_25 fpC_79 rfl q1 ?_
  show am_Go w jC_goOnFrom d (0, 0) 28 _ [] (gX G p x.1) _
  refine go_aload_n dC_goOnFrom_28 rfl rfl ?_
  refine go_getO dC_goOnFrom_29 flC_25 rfl (by assumption) (by assumption) ?_
  refine go_bipush (nI 8) (by decide) dC_goOnFrom_32 ?_
  refine go_aload_n dC_goOnFrom_34 rfl rfl ?_
  refine go_getO dC_goOnFrom_35 flC_28 rfl (by assumption) (by assumption) ?_
  refine go_bipush (nI 8) (by decide) dC_goOnFrom_38 ?_
  refine go_bipush (nI 8) (by decide) dC_goOnFrom_40 ?_
  refine go_cp dC_goOnFrom_42 lkC_73 (by omega) q11 q12 (by omega) (by omega) (by decide) (by decide) (Nat.le_of_ble_eq_true rfl) ?_
  refine go_aload_n dC_goOnFrom_45 rfl rfl ?_
  refine go_getO dC_goOnFrom_46 flC_28 rfl (by assumption) (by assumption) ?_
  refine go_iconst (nI 0) (by decide) dC_goOnFrom_49 ?_
  refine go_iconst (nI 1) (by decide) dC_goOnFrom_50 ?_
  refine go_iastoreN q12 (by omega) (by decide) dC_goOnFrom_51 ?_
  show am_Go w jC_goOnFrom d (0, 0) 52 _ [] (gF G p x.1) _
  refine go_iconst (nI 0) (by decide) dC_goOnFrom_52 ?_
  refine go_istore dC_goOnFrom_53 (Nat.le_of_ble_eq_true rfl) ?_
  exact C_g1 w hd G v e p Q x hv he hp g4 t (mR (Q e)) 0 (gF G p x.1) (by omega) (gF_o.St hS) gF_o (hP.same gF_o) g2 g3 g1
set_option maxRecDepth 100000 in
theorem C_f1 (w : am_W) {d : Nat} {P : Option am_V → am_G → Prop} (hd : 5 ≤ d) (G0 : am_G) (v e : Nat) (Q : Nat → mT) (hv : v < 2) (he : e < 6) (rd mu : Nat)
    (K : ∀ (G : am_G) (b : Bool) (t : cT) lk, St0 G → oR aR G0 G → hldP G v Q → ckT G (Q e) t → cIv (gP Q) (Q e) t → (t.2.2 = false → b = false → ∀ i, i < mN (Q e) → t.2.1 i = false) → (b = true → cMu t (mN (Q e)) + 1 ≤ mu) → am_Go w jC_follow d (0, 0) 99 [some (.inr (some 102)), some (.inr (some (2 + 50 * v))), some (.inl (nI e)), some (.inr (some (mo v e))), some (.inl (am_b b)), some (.inl (nI rd)), lk] [] G P) :
    ∀ (r k : Nat) (G : am_G) (b : Bool) (t : cT), k + r = mN (Q e) → St0 G → oR aR G0 G → hldP G v Q → ckT G (Q e) t → cIv (gP Q) (Q e) t → cMu t (mN (Q e)) ≤ mu → (b = false → ∀ i, i < k → t.2.1 i = false) → (b = true → cMu t (mN (Q e)) + 1 ≤ mu) → am_Go w jC_follow d (0, 0) 48 [some (.inr (some 102)), some (.inr (some (2 + 50 * v))), some (.inl (nI e)), some (.inr (some (mo v e))), some (.inl (am_b b)), some (.inl (nI rd)), some (.inl (nI k))] [] G P := by
  intro r
  induction r with
  | zero =>
    intro k G b t hk hS ho hP hI hv1 hm hb1 hb2
    have hsz := hI.1
    have hn6 := (hP e he).2.2.1.1
    have q1 : G.1[102]? = some (0, 3) := hS.s rfl
    have q2 : G.1[103]? = some (1, 60) := hS.s rfl
    have q3 : G.1[104]? = some (1, 960) := hS.s rfl
    have q4 : G.1[105]? = some (2, 60) := hS.s rfl
    have q5 : G.1[106]? = some (2, 60) := hS.s rfl
    have q6 : G.2.2 102 0 = some 103 := hS.r ck_r0
    have q7 : G.2.2 102 2 = some 104 := hS.r ck_r2
    have q8 : G.2.2 102 3 = some 105 := hS.r ck_r3
    have q9 : G.2.2 102 4 = some 106 := hS.r ck_r4
    have q11 : G.1[107]? = some (1, 16) := hS.s rfl
    have q12 : G.1[108]? = some (1, 16) := hS.s rfl
    have q13 : G.2.2 102 5 = some 107 := hS.r ck_r5
    have q14 : G.2.2 102 6 = some 108 := hS.r ck_r6
    refine go_iload dC_follow_48 rfl ?_
    refine go_aload_n dC_follow_50 rfl rfl ?_
    refine go_getV dC_follow_51 flC_45 rfl (by assumption) (by first | assumption | (simp (disch := omega) only [wi_I, ro_I, wi_In, wi_Is]; done) | (simp (disch := omega) only [wi_I, ro_I, wi_In, wi_Is]; first | assumption | rfl) | rfl) ?_
    refine go_icmp_geN (by omega) (by omega) dC_follow_54 (tgt := 99) (by decide) (fun c1 => ?_) (fun c1 => absurd c1 (by omega))
    exact K G b t _ hS ho hP hI hv1 (fun _ hb i hi => hb1 hb i (by omega)) hb2
  | succ r ih =>
    intro k G b t hk hS ho hP hI hv1 hm hb1 hb2
    have hsz := hI.1
    have h9 := hI.2.1
    have hkn : k < mN (Q e) := by omega
    obtain ⟨a1, a2, a3⟩ := hI.2.2.2 k hkn
    have hn6 := (hP e he).2.2.1.1
    have hmv := (hP e he).2.2.1
    have q1 : G.1[102]? = some (0, 3) := hS.s rfl
    have q2 : G.1[103]? = some (1, 60) := hS.s rfl
    have q3 : G.1[104]? = some (1, 960) := hS.s rfl
    have q4 : G.1[105]? = some (2, 60) := hS.s rfl
    have q5 : G.1[106]? = some (2, 60) := hS.s rfl
    have q6 : G.2.2 102 0 = some 103 := hS.r ck_r0
    have q7 : G.2.2 102 2 = some 104 := hS.r ck_r2
    have q8 : G.2.2 102 3 = some 105 := hS.r ck_r3
    have q9 : G.2.2 102 4 = some 106 := hS.r ck_r4
    have q11 : G.1[107]? = some (1, 16) := hS.s rfl
    have q12 : G.1[108]? = some (1, 16) := hS.s rfl
    have q13 : G.2.2 102 5 = some 107 := hS.r ck_r5
    have q14 : G.2.2 102 6 = some 108 := hS.r ck_r6
    refine go_iload dC_follow_48 rfl ?_
    refine go_aload_n dC_follow_50 rfl rfl ?_
    refine go_getV dC_follow_51 flC_45 rfl (by assumption) (by first | assumption | (simp (disch := omega) only [wi_I, ro_I, wi_In, wi_Is]; done) | (simp (disch := omega) only [wi_I, ro_I, wi_In, wi_Is]; first | assumption | rfl) | rfl) ?_
    refine go_icmp_geN (by omega) (by omega) dC_follow_54 (tgt := 99) (by decide) (fun c1 => absurd c1 (by omega)) (fun c1 => ?_)
    refine go_aload_n dC_follow_57 rfl rfl ?_
    refine go_getV dC_follow_58 flC_41 rfl (by assumption) (by first | assumption | (simp (disch := omega) only [wi_I, ro_I, wi_In, wi_Is]; done) | (simp (disch := omega) only [wi_I, ro_I, wi_In, wi_Is]; first | assumption | rfl) | rfl) ?_
    refine go_if_neB dC_follow_61 (tgt := 99) (by decide) (fun c61 => ?_) (fun c61 => ?_)
    · exact K G b t _ hS ho hP hI hv1 (fun h => by rw [c61] at h; cases h) hb2
    · refine go_aload_n dC_follow_64 rfl rfl ?_
      refine go_getO dC_follow_65 flC_22 rfl (by assumption) (by assumption) ?_
      refine go_iload dC_follow_68 rfl ?_
      refine go_balV q5 (by omega) (by decide) a2 dC_follow_70 ?_
      refine go_if_eqB dC_follow_71 (tgt := 93) (by decide) (fun c71 => ?_) (fun c71 => ?_)
      · refine go_inc dC_follow_93 rfl ?_
        refine go_goto dC_follow_96 (tgt := 48) (by decide) ?_
        first | exact ih (k + 1) G b t (by omega) hS ho hP hI hv1 hm (fun hb i hi => f1_k (hb1 hb) c71 i hi) hb2 | exact ih (k + 1) G2 true _ (by omega) (ho2.St SX) ((ho.tr oX.up).tr ho2) (PX.same ho2) hI2 (hv1.go hmv hkn hx) (by omega) (fun hb => by cases hb) (fun _ => by omega)
      · refine go_aload_n dC_follow_74 rfl rfl ?_
        refine go_getO dC_follow_75 flC_22 rfl (by assumption) (by assumption) ?_
        refine go_iload dC_follow_78 rfl ?_
        refine go_iconst (am_b false) (by decide) dC_follow_80 ?_
        refine go_bastoreN (am_b_and1 false) q5 (by omega) (by decide) dC_follow_81 ?_
        refine go_iconst (am_b true) (by decide) dC_follow_82 ?_
        refine go_istore dC_follow_83 (Nat.le_of_ble_eq_true rfl) ?_
        obtain ⟨X, hX⟩ : ∃ X, X = am_wi G 106 k (am_b false) := ⟨_, rfl⟩
        rw [← hX]
        have oX : oK G X := by rw [hX]; exact oK.wi ⟨by omega, by omega⟩
        have IX : ckT X (Q e) (t.1, va_up t.2.1 k false, t.2.2) := by rw [hX]; exact ckI.wait hI
        have SX := oX.St hS
        have PX := hP.same oX.up
        have q1x : X.1[102]? = some (0, 3) := SX.s rfl
        obtain ⟨x, hx⟩ := hv1.some hkn c71
        refine go_aload_n dC_follow_85 rfl rfl ?_
        refine go_aload_n dC_follow_86 rfl rfl ?_
        refine go_aload_n dC_follow_87 rfl rfl ?_
        refine go_iload dC_follow_88 rfl ?_
        refine go_cV (k' := (0, 0)) dC_follow_90 _ csC_49 q1x rfl imC_goOnFrom seC_goOnFrom rfl (okC_goOnFrom (d := 4) w (by decide) X v e k Q x hv he hkn (t.1, va_up t.2.1 k false, t.2.2) hx SX PX IX) (by omega) (by decide) (Nat.le_of_ble_eq_true rfl) (fun r2 G2 hr2 hn2 => ?_)
        obtain ⟨rfl, hI2, ho2⟩ := hr2
        have hmu := cMu_dec c71 (mN (Q e))
        rw [if_pos hkn] at hmu
        have hmu2 := cGo_mu (g := gP Q) (M := Q e) (p := k) (x := x) (t := (t.1, va_up t.2.1 k false, t.2.2)) hn6
        refine go_inc dC_follow_93 rfl ?_
        refine go_goto dC_follow_96 (tgt := 48) (by decide) ?_
        first | exact ih (k + 1) G b t (by omega) hS ho hP hI hv1 hm (fun hb i hi => f1_k (hb1 hb) c71 i hi) hb2 | exact ih (k + 1) G2 true _ (by omega) (ho2.St SX) ((ho.tr oX.up).tr ho2) (PX.same ho2) hI2 (hv1.go hmv hkn hx) (by omega) (fun hb => by cases hb) (fun _ => by omega)
set_option maxRecDepth 100000 in
theorem C_f3 (w : am_W) {d : Nat} (G0 G : am_G) (v e : Nat) (Q : Nat → mT) (hv : v < 2) (he : e < 6) (b : Bool) (rd : Nat) (lk : Option am_V) (t : cT) (hS : St0 G) (ho : oR aR G0 G) (hI : ckT G (Q e) t) (hv1 : cIv (gP Q) (Q e) t) (hw : t.2.2 = false → ∀ i, i < mN (Q e) → t.2.1 i = false) : am_Go w jC_follow d (0, 0) 105 [some (.inr (some 102)), some (.inr (some (2 + 50 * v))), some (.inl (nI e)), some (.inr (some (mo v e))), some (.inl (am_b b)), some (.inl (nI rd)), lk] [] G (fun r G' => ∃ t : cT, r = some (.inl (am_b (!t.2.2))) ∧ ckT G' (Q e) t ∧ oR aR G0 G' ∧ (t.2.2 = false → fLeast (gP Q) (Q e) t.1) ∧ (t.2.2 = true → ∀ T, ¬ fSol (gP Q) (Q e) T)) := by
  have hfin : (t.2.2 = false → fLeast (gP Q) (Q e) t.1) ∧ (t.2.2 = true → ∀ T, ¬ fSol (gP Q) (Q e) T) := ⟨fun h => hv1.1.least h (hw h), fun h T => hv1.1.none h T⟩
  have h9 := hI.2.1
  have q1 : G.1[102]? = some (0, 3) := hS.s rfl
  have q2 : G.1[103]? = some (1, 60) := hS.s rfl
  have q3 : G.1[104]? = some (1, 960) := hS.s rfl
  have q4 : G.1[105]? = some (2, 60) := hS.s rfl
  have q5 : G.1[106]? = some (2, 60) := hS.s rfl
  have q6 : G.2.2 102 0 = some 103 := hS.r ck_r0
  have q7 : G.2.2 102 2 = some 104 := hS.r ck_r2
  have q8 : G.2.2 102 3 = some 105 := hS.r ck_r3
  have q9 : G.2.2 102 4 = some 106 := hS.r ck_r4
  have q11 : G.1[107]? = some (1, 16) := hS.s rfl
  have q12 : G.1[108]? = some (1, 16) := hS.s rfl
  have q13 : G.2.2 102 5 = some 107 := hS.r ck_r5
  have q14 : G.2.2 102 6 = some 108 := hS.r ck_r6
  refine go_aload_n dC_follow_105 rfl rfl ?_
  refine go_getV dC_follow_106 flC_41 rfl (by assumption) (by first | assumption | (simp (disch := omega) only [wi_I, ro_I, wi_In, wi_Is]; done) | (simp (disch := omega) only [wi_I, ro_I, wi_In, wi_Is]; first | assumption | rfl) | rfl) ?_
  refine go_if_neB dC_follow_109 (tgt := 116) (by decide) (fun c109 => ?_) (fun c109 => ?_)
  · refine go_iconst (nI 0) (by decide) dC_follow_116 ?_
    refine go_zreturn rfl (by first | exact Or.inl rfl | exact Or.inr rfl | exact am_b_01 _) dC_follow_117 ?_
    exact ⟨t, by rw [c109]; rfl, hI, ho, hfin⟩
  · refine go_iconst (nI 1) (by decide) dC_follow_112 ?_
    refine go_goto dC_follow_113 (tgt := 117) (by decide) ?_
    refine go_zreturn rfl (by first | exact Or.inl rfl | exact Or.inr rfl | exact am_b_01 _) dC_follow_117 ?_
    exact ⟨t, by rw [c109]; rfl, hI, ho, hfin⟩
set_option maxRecDepth 100000 in
theorem C_f2 (w : am_W) {d : Nat} (hd : 5 ≤ d) (G0 : am_G) (v e : Nat) (Q : Nat → mT) (hv : v < 2) (he : e < 6) : ∀ (r rd : Nat) (G : am_G) (b : Bool) (t : cT) (lk : Option am_V), rd + r = 10000 → St0 G → oR aR G0 G → hldP G v Q → ckT G (Q e) t → cIv (gP Q) (Q e) t → (t.2.2 = false → b = false → ∀ i, i < mN (Q e) → t.2.1 i = false) → (b = true → cMu t (mN (Q e)) ≤ r) → am_Go w jC_follow d (0, 0) 29 [some (.inr (some 102)), some (.inr (some (2 + 50 * v))), some (.inl (nI e)), some (.inr (some (mo v e))), some (.inl (am_b b)), some (.inl (nI rd)), lk] [] G (fun r G' => ∃ t : cT, r = some (.inl (am_b (!t.2.2))) ∧ ckT G' (Q e) t ∧ oR aR G0 G' ∧ (t.2.2 = false → fLeast (gP Q) (Q e) t.1) ∧ (t.2.2 = true → ∀ T, ¬ fSol (gP Q) (Q e) T)) := by
  intro r
  induction r with
  | zero =>
    intro rd G b t lk hk hS ho hP hI hv1 hb1 hb2
    refine go_iload dC_follow_29 rfl ?_
    refine go_if_eqB dC_follow_31 (tgt := 105) (by decide) (fun c31 => ?_) (fun c31 => ?_)
    · exact C_f3 w G0 G v e Q hv he b rd lk t hS ho hI hv1 (fun h => by cases b with | false => exact hb1 h rfl | true => exact cMu_0 _ (by have := hb2 rfl; omega))
    · refine go_iload dC_follow_34 rfl ?_
      refine go_sipush (nI 10000) (by decide) dC_follow_36 ?_
      refine go_icmp_geN (by omega) (by omega) dC_follow_39 (tgt := 105) (by decide) (fun c1 => ?_) (fun c1 => absurd c1 (by omega))
      exact C_f3 w G0 G v e Q hv he b rd lk t hS ho hI hv1 (fun h => by cases b with | false => exact hb1 h rfl | true => exact cMu_0 _ (by have := hb2 rfl; omega))
  | succ r ih =>
    intro rd G b t lk hk hS ho hP hI hv1 hb1 hb2
    refine go_iload dC_follow_29 rfl ?_
    refine go_if_eqB dC_follow_31 (tgt := 105) (by decide) (fun c31 => ?_) (fun c31 => ?_)
    · exact C_f3 w G0 G v e Q hv he b rd lk t hS ho hI hv1 (fun h => hb1 h c31)
    · refine go_iload dC_follow_34 rfl ?_
      refine go_sipush (nI 10000) (by decide) dC_follow_36 ?_
      refine go_icmp_geN (by omega) (by omega) dC_follow_39 (tgt := 105) (by decide) (fun c1 => absurd c1 (by omega)) (fun c1 => ?_)
      refine go_iconst (am_b false) (by decide) dC_follow_42 ?_
      refine go_istore dC_follow_43 (Nat.le_of_ble_eq_true rfl) ?_
      refine go_iconst (nI 0) (by decide) dC_follow_45 ?_
      refine go_istore dC_follow_46 (Nat.le_of_ble_eq_true rfl) ?_
      refine C_f1 w hd G0 v e Q hv he rd (r + 1) (fun X b2 t2 lk2 hSX oX PX IX vX h1 h2 => ?_) (mN (Q e)) 0 G false t (by omega) hS ho hP hI hv1 (hb2 c31) (fun _ i hi => absurd hi (by omega)) (fun h => by cases h)
      refine go_inc dC_follow_99 rfl ?_
      refine go_goto dC_follow_102 (tgt := 29) (by decide) ?_
      exact ih (rd + 1) X b2 t2 lk2 (by omega) hSX oX PX IX vX h1 (fun h => by have := h2 h; omega)
set_option maxRecDepth 100000 in
theorem okC_follow (w : am_W) {d : Nat} (hd : 5 ≤ d) (G : am_G) (v e : Nat) (Q : Nat → mT) (hv : v < 2) (he : e < 6) (hS : St0 G) (hP : hldP G v Q) : am_Ok w jC_follow d (0, 0) [.inr (some 102), .inr (some (2 + 50 * v)), .inl (nI e)] G (fun r G' => ∃ t : cT, r = some (.inl (am_b (!t.2.2))) ∧ ckT G' (Q e) t ∧ oR aR G G' ∧ (t.2.2 = false → fLeast (gP Q) (Q e) t.1) ∧ (t.2.2 = true → ∀ T, ¬ fSol (gP Q) (Q e) T)) := by
  refine am_ok_of rfl (Nat.le_of_ble_eq_true rfl) ?_
  show am_Go w jC_follow d (0, 0) 0 [some (.inr (some 102)), some (.inr (some (2 + 50 * v))), some (.inl (nI e)), none, none, none, none] [] G _
  have q1 : G.1[102]? = some (0, 3) := hS.s rfl
  have q2 : G.1[103]? = some (1, 60) := hS.s rfl
  have q3 : G.1[104]? = some (1, 960) := hS.s rfl
  have q4 : G.1[105]? = some (2, 60) := hS.s rfl
  have q5 : G.1[106]? = some (2, 60) := hS.s rfl
  have q6 : G.2.2 102 0 = some 103 := hS.r ck_r0
  have q7 : G.2.2 102 2 = some 104 := hS.r ck_r2
  have q8 : G.2.2 102 3 = some 105 := hS.r ck_r3
  have q9 : G.2.2 102 4 = some 106 := hS.r ck_r4
  have q11 : G.1[107]? = some (1, 16) := hS.s rfl
  have q12 : G.1[108]? = some (1, 16) := hS.s rfl
  have q13 : G.2.2 102 5 = some 107 := hS.r ck_r5
  have q14 : G.2.2 102 6 = some 108 := hS.r ck_r6
  obtain ⟨p1, p2, p3, p4⟩ := pr_l v hv
  have u1 := hS.s p1
  have u2 := hS.s p2
  have u3 := hS.r p3
  have u4 := hS.r (pm_l v hv e he)
  have hM := hP e he
  have hn6 := hM.2.2.1.1
  refine go_aload_n dC_follow_0 rfl rfl ?_
  refine go_getO dC_follow_1 flC_31 rfl (by assumption) (by assumption) ?_
  refine go_iload_n dC_follow_4 rfl rfl ?_
  refine go_aaO (t := 1) (by decide) u2 he (by decide) u4 dC_follow_5 ?_
  refine go_astore_n dC_follow_6 rfl (Nat.le_of_ble_eq_true rfl) ?_
  refine go_aload_n dC_follow_7 rfl rfl ?_
  refine go_aload_n dC_follow_8 rfl rfl ?_
  refine go_cV (k' := (0, 0)) dC_follow_9 _ csC_37 q1 rfl imC_begin seC_begin rfl (okC_begin (d := 2) w (by decide) G (mo v e) (Q e) hS hM) (by omega) (by decide) (Nat.le_of_ble_eq_true rfl) (fun r2 X hr2 hn2 => ?_)
  obtain ⟨rfl, IX, oX⟩ := hr2
  have SX := oX.St hS
  have PX := hP.same oX
  have h9 := IX.2.1
  have q1 : X.1[102]? = some (0, 3) := SX.s rfl
  refine go_aload_n dC_follow_12 rfl rfl ?_
  refine go_getV dC_follow_13 flC_41 rfl (by assumption) (by first | assumption | (simp (disch := omega) only [wi_I, ro_I, wi_In, wi_Is]; done) | (simp (disch := omega) only [wi_I, ro_I, wi_In, wi_Is]; first | assumption | rfl) | rfl) ?_
  refine go_if_neB dC_follow_16 (tgt := 23) (by decide) (fun c16 => ?_) (fun c16 => ?_)
  · refine go_iconst (am_b false) (by decide) dC_follow_23 ?_
    refine go_istore dC_follow_24 (Nat.le_of_ble_eq_true rfl) ?_
    refine go_iconst (nI 0) (by decide) dC_follow_26 ?_
    refine go_istore dC_follow_27 (Nat.le_of_ble_eq_true rfl) ?_
    first | exact C_f2 w hd G v e Q hv he 10000 0 X false (cBeg (Q e)) _ rfl SX oX PX IX cIv.beg (fun h => by rw [c16] at h; cases h) (fun h => by cases h) | exact C_f2 w hd G v e Q hv he 10000 0 X true (cBeg (Q e)) _ rfl SX oX PX IX cIv.beg (fun _ h => by cases h) (fun h => by have := cMu_le (t := cBeg (Q e)) (mN (Q e)); omega)
  · refine go_iconst (am_b true) (by decide) dC_follow_19 ?_
    refine go_goto dC_follow_20 (tgt := 24) (by decide) ?_
    refine go_istore dC_follow_24 (Nat.le_of_ble_eq_true rfl) ?_
    refine go_iconst (nI 0) (by decide) dC_follow_26 ?_
    refine go_istore dC_follow_27 (Nat.le_of_ble_eq_true rfl) ?_
    first | exact C_f2 w hd G v e Q hv he 10000 0 X false (cBeg (Q e)) _ rfl SX oX PX IX cIv.beg (fun h => by rw [c16] at h; cases h) (fun h => by cases h) | exact C_f2 w hd G v e Q hv he 10000 0 X true (cBeg (Q e)) _ rfl SX oX PX IX cIv.beg (fun _ h => by cases h) (fun h => by have := cMu_le (t := cBeg (Q e)) (mN (Q e)); omega)
