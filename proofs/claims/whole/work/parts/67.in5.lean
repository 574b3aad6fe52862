/-! the class: a PLAIN subroutine, the draft -/
theorem iffT {P : Prop} (h : P) : (true = true ↔ P) := ⟨fun _ => h, fun _ => rfl⟩
theorem iffF {P : Prop} (h : ¬ P) : (false = true ↔ P) := ⟨(fun q => by cases q), fun q => absurd q h⟩
theorem jm3T {o : Nat} (h : decide (nI o = nI 11 ∨ nI o = nI 12 ∨ nI o = nI 17) = true) (ho : o < 28) : jm3 o := by
  have := of_decide_eq_true h
  rcases this with e | e | e
  · exact Or.inl ((nI_eq (by omega) (by decide)).mp e)
  · exact Or.inr (Or.inl ((nI_eq (by omega) (by decide)).mp e))
  · exact Or.inr (Or.inr ((nI_eq (by omega) (by decide)).mp e))
theorem jm3F {o : Nat} (h : decide (nI o = nI 11 ∨ nI o = nI 12 ∨ nI o = nI 17) = false) : ¬ jm3 o := fun q => of_decide_eq_false h (by
  rcases q with e | e | e
  · exact Or.inl (by rw [e])
  · exact Or.inr (Or.inl (by rw [e]))
  · exact Or.inr (Or.inr (by rw [e])))
def kpI (M : mT) (b e i : Nat) : Prop := mO M i ≠ 23 ∧ (mO M i = 2 ∨ mO M i = 3 ∨ mO M i = 27 → ¬ mA M i = mA M b) ∧ (jm3 (mO M i) → b < bN M i ∧ bN M i ≤ e)
def ldI (M : mT) (b e i : Nat) : Prop := jm3 (mO M i) ∧ b ≤ bN M i ∧ bN M i ≤ e
section Kp
variable {M : mT} {b e k : Nat} {c : Bool}
theorem plI_k (h1 : b < k) (h2 : k < e) (hc : c = true ↔ kpI M b e k) (h : c = true) : plI M b e k := by unfold plI; rw [if_pos ⟨h1, h2⟩]; exact hc.mp h
theorem plI_kx (h1 : b < k) (h2 : k < e) (hc : c = true ↔ kpI M b e k) (h : c = false) : ¬ plI M b e k := by
  unfold plI
  rw [if_pos ⟨h1, h2⟩]
  intro q
  rw [hc.mpr q] at h; cases h
theorem plI_l (h1 : ¬ (b < k ∧ k < e)) (hc : c = true ↔ ldI M b e k) (h : c = false) : plI M b e k := by
  unfold plI
  rw [if_neg h1]
  intro q1 q2
  rw [hc.mpr ⟨q1, q2⟩] at h; cases h
theorem plI_lx (h1 : ¬ (b < k ∧ k < e)) (hc : c = true ↔ ldI M b e k) (h : c = true) : ¬ plI M b e k := by
  unfold plI
  rw [if_neg h1]
  intro q
  obtain ⟨q1, q2⟩ := hc.mp h
  exact q q1 q2
end Kp
/-- only the rewriter and its draft have changed -/
def oD (G G' : am_G) : Prop := oR (fun i => 150 ≤ i ∧ i ≤ 158) G G'
theorem oD.rf {G : am_G} : oD G G := oR.rf
theorem oD.tr {G G1 G2 : am_G} (h1 : oD G G1) (h2 : oD G1 G2) : oD G G2 := oR.tr h1 h2
theorem oD.St {G G1 : am_G} (h1 : oD G G1) (hs : St0 G) : St0 G1 := oR.St h1 hs
theorem oD.w {G : am_G} {i k : Nat} {x : Int32} (hi : 150 ≤ i ∧ i ≤ 158) : oD G (am_wi G i k x) := oR.wi hi
theorem oD.h8 {G G' : am_G} (h : oR (hR8 151) G G') : oD G G' := h.up (fun i hi => by unfold hR8 at hi; omega)
theorem hldM.d {G G' : am_G} {h : Nat} {M : mT} (q : hldM G h M) (h8 : h + 8 ≤ 102) (ho : oD G G') : hldM G' h M := ⟨by
  have := q.1
  unfold isM at this ⊢
  rw [ho.1, ho.2.1]
  exact this, q.2.1.same (fun i h1 h2 => ho.2.2 i (by omega)), q.2.2.1, q.2.2.2⟩
theorem sh_150 : SH[150]? = some (0, 7) := by decide +kernel
theorem rt_150 : (150, 0, 151) ∈ RT := by decide +kernel
/-- the rows of the draft are R, or there are too many -/
def cWw (G : am_G) (R : wT) : Prop := G.2.1 151 8 = nI (min R.1 8) ∧ G.2.1 150 3 = am_b (decide (8 < R.1)) ∧ ∀ i, i < R.1 → i < 8 → G.2.1 155 i = nI (R.2.1 i) ∧ G.2.1 156 i = nI (R.2.2.1 i) ∧ G.2.1 157 i = nI (R.2.2.2.1 i) ∧ G.2.1 158 i = nI (R.2.2.2.2 i)
def dI (G : am_G) (M : mT) (P : Nat → Prop) : Prop := ∀ i, P i → G.2.1 152 i = nI (mO M i) ∧ G.2.1 153 i = mA M i ∧ G.2.1 154 i = mB M i
section Dr
variable {G G' : am_G} {R : wT} {f t a y : Nat}
theorem cWw.no (h : cWw G R) (hf : ¬ f < t) : cWw G (wAdd R f t a y) := by unfold wAdd; rw [if_neg hf]; exact h
theorem cWw.add (h : cWw G R) (hf : f < t) (h8 : min R.1 8 < 8) : cWw (E_row G 151 (min R.1 8) (nI f) (nI t) (nI a) (nI y)) (wAdd R f t a y) := by
  obtain ⟨h1, h2, h3⟩ := h
  have hR : R.1 < 8 := by omega
  have em : min R.1 8 = R.1 := by omega
  unfold wAdd E_row
  rw [if_pos hf, em]
  refine ⟨?_, ?_, fun i hi h9 => ?_⟩
  · show _ = nI (min (R.1 + 1) 8)
    rw [wi_Is, show min (R.1 + 1) 8 = R.1 + 1 by omega]
  · show _ = am_b (decide (8 < R.1 + 1))
    simp (disch := omega) only [wi_I]
    rw [h2, decide_eq_false (show ¬ 8 < R.1 by omega), decide_eq_false (show ¬ 8 < R.1 + 1 by omega)]
  · have hi : i < R.1 + 1 := hi
    show _ = nI (va_up R.2.1 R.1 f i) ∧ _ = nI (va_up R.2.2.1 R.1 t i) ∧ _ = nI (va_up R.2.2.2.1 R.1 a i) ∧ _ = nI (va_up R.2.2.2.2 R.1 y i)
    by_cases e : i = R.1
    · rw [e, am_up_eq, am_up_eq, am_up_eq, am_up_eq]
      simp (disch := omega) only [wi_I, wi_Is]
      exact ⟨trivial, trivial, trivial, trivial⟩
    · rw [am_up_ne e, am_up_ne e, am_up_ne e, am_up_ne e]
      simp (disch := omega) only [wi_I, wi_In]
      exact h3 i (by omega) h9
theorem cWw.fl (h : cWw G R) (hf : f < t) (h8 : ¬ min R.1 8 < 8) : cWw (am_wi G 150 3 (am_b true)) (wAdd R f t a y) := by
  obtain ⟨h1, h2, h3⟩ := h
  have hR : 8 ≤ R.1 := by omega
  unfold wAdd
  rw [if_pos hf]
  refine ⟨?_, ?_, fun i hi h9 => ?_⟩
  · show _ = nI (min (R.1 + 1) 8)
    rw [wi_I (by decide), h1, show min (R.1 + 1) 8 = min R.1 8 by omega]
  · show _ = am_b (decide (8 < R.1 + 1))
    rw [wi_Is, decide_eq_true (show 8 < R.1 + 1 by omega)]
  · show _ = nI (va_up R.2.1 R.1 f i) ∧ _ = nI (va_up R.2.2.1 R.1 t i) ∧ _ = nI (va_up R.2.2.2.1 R.1 a i) ∧ _ = nI (va_up R.2.2.2.2 R.1 y i)
    rw [am_up_ne (by omega), am_up_ne (by omega), am_up_ne (by omega), am_up_ne (by omega)]
    simp (disch := omega) only [wi_I]
    exact h3 i (by omega) h9
theorem cWw.same (h : cWw G R) (h1 : G'.2.1 151 8 = G.2.1 151 8) (h2 : G'.2.1 150 3 = G.2.1 150 3) (h3 : ∀ i, 155 ≤ i → i ≤ 158 → G'.2.1 i = G.2.1 i) : cWw G' R := by
  unfold cWw
  rw [h1, h2, h3 155 (by omega) (by omega), h3 156 (by omega) (by omega), h3 157 (by omega) (by omega), h3 158 (by omega) (by omega)]
  exact h
theorem dI.put {M : mT} {P P' : Nat → Prop} {i o : Nat} {x z : Int32} (h : dI G M P) (ho : o = mO M i) (hx : x = mA M i) (hz : z = mB M i) (ha : am_sf 0 o = -1 → x = 0) (hb : am_sf 1 o = -1 → z = 0) (hP : ∀ k, P' k → k = i ∨ P k) : dI (E_putF G 151 i o x z) M P' := fun k hk => by
  have e1 : (if am_sf 0 o = -1 then nI 0 else x) = mA M i := by
    split
    · rename_i q; rw [← hx, ha q]; rfl
    · exact hx
  have e2 : (if am_sf 1 o = -1 then nI 0 else z) = mB M i := by
    split
    · rename_i q; rw [← hz, hb q]; rfl
    · exact hz
  unfold E_putF
  rw [e1, e2]
  by_cases e : k = i
  · rw [e]; simp (disch := omega) only [wi_I, wi_Is]; exact ⟨by rw [ho], trivial, trivial⟩
  · simp (disch := omega) only [wi_I, wi_In]; exact h k ((hP k hk).resolve_left e)
theorem dI.same {M : mT} {P : Nat → Prop} (h : dI G M P) (h1 : ∀ i, 152 ≤ i → i ≤ 154 → G'.2.1 i = G.2.1 i) : dI G' M P := fun k hk => by
  rw [h1 152 (by omega) (by omega), h1 153 (by omega) (by omega), h1 154 (by omega) (by omega)]
  exact h k hk
end Dr
theorem iEq {v : Int32} {k : Nat} (h : v.toInt = (k : Int)) (hk : k < 2 ^ 31) : v = nI k := by
  apply Int32.toInt_inj.mp
  rw [h, nI_toInt hk]
theorem mv_t {x n : Nat} (hx : x < 10000) (hn : n < 10000) : (nI x + (nI n - nI 1)).toInt = (x : Int) + (n : Int) - 1 := by
  have h1 : (nI n - nI 1).toInt = (n : Int) - ((1 : Nat) : Int) := zD_t (by omega) (by omega)
  rw [Int32.toInt_add, h1, nI_toInt (by omega)]
  have := Int.bmod_eq_of_le (n := (x : Int) + ((n : Int) - ((1 : Nat) : Int))) (m := 2 ^ 32) (by omega) (by omega)
  omega
theorem mv_e {x n : Nat} (hx : x < 10000) (hn : n < 10000) (h : 1 ≤ x + n) : nI x + (nI n - nI 1) = nI (x + n - 1) := iEq (by rw [mv_t hx hn]; omega) (by omega)
theorem mv_lt {x n f : Nat} (hx : x < 10000) (hn : n < 10000) (hf : f < 10000) : nI f < nI x + (nI n - nI 1) ↔ f < x + n - 1 := by
  rw [Int32.lt_iff_toInt_lt, mv_t hx hn, nI_toInt (by omega)]
  omega
theorem sp_t {x p b : Nat} (hx : x < 10000) (hp : p < 10000) (hb : b < 10000) : (nI x + (nI p - nI b - nI 1)).toInt = (x : Int) + (p : Int) - (b : Int) - 1 := by
  rw [Int32.toInt_add, v2_t hp hb, nI_toInt (by omega)]
  have := Int.bmod_eq_of_le (n := (x : Int) + ((p : Int) - (b : Int) - 1)) (m := 2 ^ 32) (by omega) (by omega)
  omega
theorem sp_e {x p b : Nat} (hx : x < 10000) (hp : p < 10000) (hb : b < 10000) (h : b + 1 ≤ x + p) : nI x + (nI p - nI b - nI 1) = nI (x + p - (b + 1)) := iEq (by rw [sp_t hx hp hb]; omega) (by omega)
theorem sp_lt {x p b f : Nat} (hx : x < 10000) (hp : p < 10000) (hb : b < 10000) (hf : f < 10000) : nI f < nI x + (nI p - nI b - nI 1) ↔ f < x + p - (b + 1) := by
  rw [Int32.lt_iff_toInt_lt, sp_t hx hp hb, nI_toInt (by omega)]
  omega
theorem mn_n {a b : Nat} (ha : a < 1000) (hb : b < 1000) : (if nI b < nI a then nI b else nI a) = nI (min a b) := by
  by_cases q : b < a
  · rw [if_pos ((nI_ltI (by omega) (by omega)).mpr q), show min a b = b by omega]
  · rw [if_neg (fun e => q ((nI_ltI (by omega) (by omega)).mp e)), show min a b = a by omega]
theorem mx_m {a b : Nat} (ha : a < 1000) (hb : b < 1000) : (if nI a < nI b then nI b else nI a) = nI (max a b) := mx_n ha hb

set_option maxRecDepth 100000 in
theorem okE_leadsInto (w : am_W) {d : Nat} (hd : 1 ≤ d) (G : am_G) (h i b e : Nat) (M : mT) (hi : i < mN M) (hb : b < 200) (he : e < 200) (hM : hldM G h M) : am_Ok w jE_leadsInto d (0, 0) [.inr (some h), .inl (nI i), .inl (nI b), .inl (nI e)] G (fun r G' => ∃ c : Bool, r = some (.inl (am_b c)) ∧ (c = true ↔ ldI M b e i) ∧ G' = G) := by
  refine am_ok_of rfl (Nat.le_of_ble_eq_true rfl) ?_
  show am_Go w jE_leadsInto d (0, 0) 0 [some (.inr (some h)), some (.inl (nI i)), some (.inl (nI b)), some (.inl (nI e))] [] G _
  obtain ⟨hs, ⟨r0, r1, r2, r3, r4, r5, r6⟩, s1, s2, s3, s4, s5, s6, s7⟩ := id hM.1
  have hV := hM.2.2.1
  have hn6 := hV.1
  obtain ⟨m1, m2, m3⟩ := hM.2.1.2.1 i hi
  have h28 := (hV.2.2.2.1 i hi).1
  refine go_aload_n dE_leadsInto_0 rfl rfl ?_
  refine go_getO dE_leadsInto_1 flE_9 rfl (by assumption) (by assumption) ?_
  refine go_iload_n dE_leadsInto_4 rfl rfl ?_
  refine go_ialV s1 (by omega) (by decide) m1 dE_leadsInto_5 ?_
  refine go_cS (k' := (0, 0)) dE_leadsInto_6 _ csE_92 stF_isJump rfl (okF_isJump (d := 0) w G (nI (mO M i))) (by omega) (by decide) (Nat.le_of_ble_eq_true rfl) (fun r G1 hr hn => ?_)
  obtain ⟨rfl, hG⟩ := hr
  rw [hG]
  clear hG hn
  refine go_if_eqB dE_leadsInto_9 (tgt := 36) (by decide) (fun c9 => ?_) (fun c9 => ?_)
  · refine go_iconst (am_b false) (by decide) dE_leadsInto_36 ?_
    refine go_zreturn rfl (by first | exact Or.inl rfl | exact Or.inr rfl | exact am_b_01 _) dE_leadsInto_37 ?_
    first | exact ⟨true, rfl, iffT ⟨jm3T c9 h28, c19, c29⟩, rfl⟩ | exact ⟨false, rfl, iffF (fun q => jm3F c9 q.1), rfl⟩ | exact ⟨false, rfl, iffF (fun q => n2a c19 q.2), rfl⟩ | exact ⟨false, rfl, iffF (fun q => n2b c29 q.2), rfl⟩
  · obtain ⟨q1, q2⟩ := hV.jm hi (jm3_4 (jm3T c9 h28))
    rw [q1] at m3
    refine go_aload_n dE_leadsInto_12 rfl rfl ?_
    refine go_getO dE_leadsInto_13 flE_18 rfl (by assumption) (by assumption) ?_
    refine go_iload_n dE_leadsInto_16 rfl rfl ?_
    refine go_ialV s3 (by omega) (by decide) m3 dE_leadsInto_17 ?_
    refine go_iload_n dE_leadsInto_18 rfl rfl ?_
    refine go_icmp_ltN (by omega) (by omega) dE_leadsInto_19 (tgt := 36) (by decide) (fun c19 => ?_) (fun c19 => ?_)
    · refine go_iconst (am_b false) (by decide) dE_leadsInto_36 ?_
      refine go_zreturn rfl (by first | exact Or.inl rfl | exact Or.inr rfl | exact am_b_01 _) dE_leadsInto_37 ?_
      first | exact ⟨true, rfl, iffT ⟨jm3T c9 h28, c19, c29⟩, rfl⟩ | exact ⟨false, rfl, iffF (fun q => jm3F c9 q.1), rfl⟩ | exact ⟨false, rfl, iffF (fun q => n2a c19 q.2), rfl⟩ | exact ⟨false, rfl, iffF (fun q => n2b c29 q.2), rfl⟩
    · refine go_aload_n dE_leadsInto_22 rfl rfl ?_
      refine go_getO dE_leadsInto_23 flE_18 rfl (by assumption) (by assumption) ?_
      refine go_iload_n dE_leadsInto_26 rfl rfl ?_
      refine go_ialV s3 (by omega) (by decide) m3 dE_leadsInto_27 ?_
      refine go_iload_n dE_leadsInto_28 rfl rfl ?_
      refine go_icmp_gtN (by omega) (by omega) dE_leadsInto_29 (tgt := 36) (by decide) (fun c29 => ?_) (fun c29 => ?_)
      · refine go_iconst (am_b false) (by decide) dE_leadsInto_36 ?_
        refine go_zreturn rfl (by first | exact Or.inl rfl | exact Or.inr rfl | exact am_b_01 _) dE_leadsInto_37 ?_
        first | exact ⟨true, rfl, iffT ⟨jm3T c9 h28, c19, c29⟩, rfl⟩ | exact ⟨false, rfl, iffF (fun q => jm3F c9 q.1), rfl⟩ | exact ⟨false, rfl, iffF (fun q => n2a c19 q.2), rfl⟩ | exact ⟨false, rfl, iffF (fun q => n2b c29 q.2), rfl⟩
      · refine go_iconst (am_b true) (by decide) dE_leadsInto_32 ?_
        refine go_goto dE_leadsInto_33 (tgt := 37) (by decide) ?_
        refine go_zreturn rfl (by first | exact Or.inl rfl | exact Or.inr rfl | exact am_b_01 _) dE_leadsInto_37 ?_
        first | exact ⟨true, rfl, iffT ⟨jm3T c9 h28, c19, c29⟩, rfl⟩ | exact ⟨false, rfl, iffF (fun q => jm3F c9 q.1), rfl⟩ | exact ⟨false, rfl, iffF (fun q => n2a c19 q.2), rfl⟩ | exact ⟨false, rfl, iffF (fun q => n2b c29 q.2), rfl⟩
set_option maxRecDepth 100000 in
theorem E_kp (w : am_W) {d : Nat} (hd : 1 ≤ d) (G : am_G) (h i b e : Nat) (M : mT) (hi : i < mN M) (hb : b < 200) (he : e < 200) (hM : hldM G h M) (hbN : b < mN M) (u : Bool) (hu : u = true ↔ (mO M i = 2 ∨ mO M i = 3 ∨ mO M i = 27)) : am_Go w jE_keepsPlain d (0, 0) 38 [some (.inr (some h)), some (.inl (nI i)), some (.inl (nI b)), some (.inl (nI e)), some (.inl (am_b u))] [] G (fun r G' => ∃ c : Bool, r = some (.inl (am_b c)) ∧ (c = true ↔ kpI M b e i) ∧ G' = G) := by
  obtain ⟨hs, ⟨r0, r1, r2, r3, r4, r5, r6⟩, s1, s2, s3, s4, s5, s6, s7⟩ := id hM.1
  have hV := hM.2.2.1
  have hn6 := hV.1
  obtain ⟨m1, m2, m3⟩ := hM.2.1.2.1 i hi
  have h28 := (hV.2.2.2.1 i hi).1
  obtain ⟨-, n2, -⟩ := hM.2.1.2.1 b hbN
  have K71 : mO M i ≠ 23 → (mO M i = 2 ∨ mO M i = 3 ∨ mO M i = 27 → ¬ mA M i = mA M b) → am_Go w jE_keepsPlain d (0, 0) 71 [some (.inr (some h)), some (.inl (nI i)), some (.inl (nI b)), some (.inl (nI e)), some (.inl (am_b u))] [] G (fun r G' => ∃ c : Bool, r = some (.inl (am_b c)) ∧ (c = true ↔ kpI M b e i) ∧ G' = G) := fun h1 h2 => by
    refine go_aload_n dE_keepsPlain_71 rfl rfl ?_
    refine go_getO dE_keepsPlain_72 flE_9 rfl (by assumption) (by assumption) ?_
    refine go_iload_n dE_keepsPlain_75 rfl rfl ?_
    refine go_ialV s1 (by omega) (by decide) m1 dE_keepsPlain_76 ?_
    refine go_cS (k' := (0, 0)) dE_keepsPlain_77 _ csE_92 stF_isJump rfl (okF_isJump (d := 0) w G (nI (mO M i))) (by omega) (by decide) (Nat.le_of_ble_eq_true rfl) (fun r G1 hr hn => ?_)
    obtain ⟨rfl, hG⟩ := hr
    rw [hG]
    clear hG hn
    refine go_if_eqB dE_keepsPlain_80 (tgt := 103) (by decide) (fun c80 => ?_) (fun c80 => ?_)
    · refine go_iconst (am_b true) (by decide) dE_keepsPlain_103 ?_
      refine go_goto dE_keepsPlain_104 (tgt := 108) (by decide) ?_
      refine go_zreturn rfl (by first | exact Or.inl rfl | exact Or.inr rfl | exact am_b_01 _) dE_keepsPlain_108 ?_
      first | exact ⟨true, rfl, iffT ⟨h1, h2, fun _ => ⟨c90, c100⟩⟩, rfl⟩ | exact ⟨true, rfl, iffT ⟨h1, h2, fun q => absurd q (jm3F c80)⟩, rfl⟩ | exact ⟨false, rfl, iffF (fun q => n3a c90 (q.2.2 (jm3T c80 h28))), rfl⟩ | exact ⟨false, rfl, iffF (fun q => n3b c100 (q.2.2 (jm3T c80 h28))), rfl⟩
    · obtain ⟨q1, q2⟩ := hV.jm hi (jm3_4 (jm3T c80 h28))
      rw [q1] at m3
      refine go_aload_n dE_keepsPlain_83 rfl rfl ?_
      refine go_getO dE_keepsPlain_84 flE_18 rfl (by assumption) (by assumption) ?_
      refine go_iload_n dE_keepsPlain_87 rfl rfl ?_
      refine go_ialV s3 (by omega) (by decide) m3 dE_keepsPlain_88 ?_
      refine go_iload_n dE_keepsPlain_89 rfl rfl ?_
      refine go_icmp_leN (by omega) (by omega) dE_keepsPlain_90 (tgt := 107) (by decide) (fun c90 => ?_) (fun c90 => ?_)
      · refine go_iconst (am_b false) (by decide) dE_keepsPlain_107 ?_
        refine go_zreturn rfl (by first | exact Or.inl rfl | exact Or.inr rfl | exact am_b_01 _) dE_keepsPlain_108 ?_
        first | exact ⟨true, rfl, iffT ⟨h1, h2, fun _ => ⟨c90, c100⟩⟩, rfl⟩ | exact ⟨true, rfl, iffT ⟨h1, h2, fun q => absurd q (jm3F c80)⟩, rfl⟩ | exact ⟨false, rfl, iffF (fun q => n3a c90 (q.2.2 (jm3T c80 h28))), rfl⟩ | exact ⟨false, rfl, iffF (fun q => n3b c100 (q.2.2 (jm3T c80 h28))), rfl⟩
      · refine go_aload_n dE_keepsPlain_93 rfl rfl ?_
        refine go_getO dE_keepsPlain_94 flE_18 rfl (by assumption) (by assumption) ?_
        refine go_iload_n dE_keepsPlain_97 rfl rfl ?_
        refine go_ialV s3 (by omega) (by decide) m3 dE_keepsPlain_98 ?_
        refine go_iload_n dE_keepsPlain_99 rfl rfl ?_
        refine go_icmp_gtN (by omega) (by omega) dE_keepsPlain_100 (tgt := 107) (by decide) (fun c100 => ?_) (fun c100 => ?_)
        · refine go_iconst (am_b false) (by decide) dE_keepsPlain_107 ?_
          refine go_zreturn rfl (by first | exact Or.inl rfl | exact Or.inr rfl | exact am_b_01 _) dE_keepsPlain_108 ?_
          first | exact ⟨true, rfl, iffT ⟨h1, h2, fun _ => ⟨c90, c100⟩⟩, rfl⟩ | exact ⟨true, rfl, iffT ⟨h1, h2, fun q => absurd q (jm3F c80)⟩, rfl⟩ | exact ⟨false, rfl, iffF (fun q => n3a c90 (q.2.2 (jm3T c80 h28))), rfl⟩ | exact ⟨false, rfl, iffF (fun q => n3b c100 (q.2.2 (jm3T c80 h28))), rfl⟩
        · refine go_iconst (am_b true) (by decide) dE_keepsPlain_103 ?_
          refine go_goto dE_keepsPlain_104 (tgt := 108) (by decide) ?_
          refine go_zreturn rfl (by first | exact Or.inl rfl | exact Or.inr rfl | exact am_b_01 _) dE_keepsPlain_108 ?_
          first | exact ⟨true, rfl, iffT ⟨h1, h2, fun _ => ⟨c90, c100⟩⟩, rfl⟩ | exact ⟨true, rfl, iffT ⟨h1, h2, fun q => absurd q (jm3F c80)⟩, rfl⟩ | exact ⟨false, rfl, iffF (fun q => n3a c90 (q.2.2 (jm3T c80 h28))), rfl⟩ | exact ⟨false, rfl, iffF (fun q => n3b c100 (q.2.2 (jm3T c80 h28))), rfl⟩
  refine go_aload_n dE_keepsPlain_38 rfl rfl ?_
  refine go_getO dE_keepsPlain_39 flE_9 rfl (by assumption) (by assumption) ?_
  refine go_iload_n dE_keepsPlain_42 rfl rfl ?_
  refine go_ialV s1 (by omega) (by decide) m1 dE_keepsPlain_43 ?_
  refine go_bipush (nI 23) (by decide) dE_keepsPlain_44 ?_
  refine go_icmp_eqN (by omega) (by decide) dE_keepsPlain_46 (tgt := 69) (by decide) (fun c46 => ?_) (fun c46 => ?_)
  · refine go_iconst (am_b false) (by decide) dE_keepsPlain_69 ?_
    refine go_zreturn rfl (am_b_01 _) dE_keepsPlain_70 ?_
    first | exact ⟨false, rfl, iffF (fun q => q.1 c46), rfl⟩ | exact ⟨false, rfl, iffF (fun q => q.2.1 (hu.mp c51) c66), rfl⟩
  · refine go_iload dE_keepsPlain_49 rfl ?_
    refine go_if_eqB dE_keepsPlain_51 (tgt := 71) (by decide) (fun c51 => ?_) (fun c51 => ?_)
    · first | exact K71 c46 (fun _ => c66) | exact K71 c46 (fun q => nbX c51 (hu.mpr q))
    · refine go_aload_n dE_keepsPlain_54 rfl rfl ?_
      refine go_getO dE_keepsPlain_55 flE_15 rfl (by assumption) (by assumption) ?_
      refine go_iload_n dE_keepsPlain_58 rfl rfl ?_
      refine go_ialV s2 (by omega) (by decide) m2 dE_keepsPlain_59 ?_
      refine go_aload_n dE_keepsPlain_60 rfl rfl ?_
      refine go_getO dE_keepsPlain_61 flE_15 rfl (by assumption) (by assumption) ?_
      refine go_iload_n dE_keepsPlain_64 rfl rfl ?_
      refine go_ialV s2 (by omega) (by decide) n2 dE_keepsPlain_65 ?_
      refine go_icmp_ne dE_keepsPlain_66 (tgt := 71) (by decide) (fun c66 => ?_) (fun c66 => ?_)
      · first | exact K71 c46 (fun _ => c66) | exact K71 c46 (fun q => nbX c51 (hu.mpr q))
      · refine go_iconst (am_b false) (by decide) dE_keepsPlain_69 ?_
        refine go_zreturn rfl (am_b_01 _) dE_keepsPlain_70 ?_
        first | exact ⟨false, rfl, iffF (fun q => q.1 c46), rfl⟩ | exact ⟨false, rfl, iffF (fun q => q.2.1 (hu.mp c51) c66), rfl⟩
set_option maxRecDepth 100000 in
theorem okE_keepsPlain (w : am_W) {d : Nat} (hd : 1 ≤ d) (G : am_G) (h i b e : Nat) (M : mT) (hi : i < mN M) (hb : b < 200) (he : e < 200) (hM : hldM G h M) (hbN : b < mN M) : am_Ok w jE_keepsPlain d (0, 0) [.inr (some h), .inl (nI i), .inl (nI b), .inl (nI e)] G (fun r G' => ∃ c : Bool, r = some (.inl (am_b c)) ∧ (c = true ↔ kpI M b e i) ∧ G' = G) := by
  refine am_ok_of rfl (Nat.le_of_ble_eq_true rfl) ?_
  show am_Go w jE_keepsPlain d (0, 0) 0 [some (.inr (some h)), some (.inl (nI i)), some (.inl (nI b)), some (.inl (nI e)), none] [] G _
  obtain ⟨hs, ⟨r0, r1, r2, r3, r4, r5, r6⟩, s1, s2, s3, s4, s5, s6, s7⟩ := id hM.1
  have hV := hM.2.2.1
  have hn6 := hV.1
  obtain ⟨m1, m2, m3⟩ := hM.2.1.2.1 i hi
  have h28 := (hV.2.2.2.1 i hi).1
  refine go_aload_n dE_keepsPlain_0 rfl rfl ?_
  refine go_getO dE_keepsPlain_1 flE_9 rfl (by assumption) (by assumption) ?_
  refine go_iload_n dE_keepsPlain_4 rfl rfl ?_
  refine go_ialV s1 (by omega) (by decide) m1 dE_keepsPlain_5 ?_
  refine go_iconst (nI 2) (by decide) dE_keepsPlain_6 ?_
  refine go_icmp_eqN (by omega) (by decide) dE_keepsPlain_7 (tgt := 31) (by decide) (fun c7 => ?_) (fun c7 => ?_)
  · refine go_iconst (am_b true) (by decide) dE_keepsPlain_31 ?_
    refine go_goto dE_keepsPlain_32 (tgt := 36) (by decide) ?_
    refine go_istore dE_keepsPlain_36 (Nat.le_of_ble_eq_true rfl) ?_
    first | exact E_kp w hd G h i b e M hi hb he hM hbN true (iffT (Or.inl c7)) | exact E_kp w hd G h i b e M hi hb he hM hbN true (iffT (Or.inr (Or.inl c17))) | exact E_kp w hd G h i b e M hi hb he hM hbN true (iffT (Or.inr (Or.inr c28))) | exact E_kp w hd G h i b e M hi hb he hM hbN false (iffF (fun q => nL c7 c17 c28 ⟨q, trivial⟩))
  · refine go_aload_n dE_keepsPlain_10 rfl rfl ?_
    refine go_getO dE_keepsPlain_11 flE_9 rfl (by assumption) (by assumption) ?_
    refine go_iload_n dE_keepsPlain_14 rfl rfl ?_
    refine go_ialV s1 (by omega) (by decide) m1 dE_keepsPlain_15 ?_
    refine go_iconst (nI 3) (by decide) dE_keepsPlain_16 ?_
    refine go_icmp_eqN (by omega) (by decide) dE_keepsPlain_17 (tgt := 31) (by decide) (fun c17 => ?_) (fun c17 => ?_)
    · refine go_iconst (am_b true) (by decide) dE_keepsPlain_31 ?_
      refine go_goto dE_keepsPlain_32 (tgt := 36) (by decide) ?_
      refine go_istore dE_keepsPlain_36 (Nat.le_of_ble_eq_true rfl) ?_
      first | exact E_kp w hd G h i b e M hi hb he hM hbN true (iffT (Or.inl c7)) | exact E_kp w hd G h i b e M hi hb he hM hbN true (iffT (Or.inr (Or.inl c17))) | exact E_kp w hd G h i b e M hi hb he hM hbN true (iffT (Or.inr (Or.inr c28))) | exact E_kp w hd G h i b e M hi hb he hM hbN false (iffF (fun q => nL c7 c17 c28 ⟨q, trivial⟩))
    · refine go_aload_n dE_keepsPlain_20 rfl rfl ?_
      refine go_getO dE_keepsPlain_21 flE_9 rfl (by assumption) (by assumption) ?_
      refine go_iload_n dE_keepsPlain_24 rfl rfl ?_
      refine go_ialV s1 (by omega) (by decide) m1 dE_keepsPlain_25 ?_
      refine go_bipush (nI 27) (by decide) dE_keepsPlain_26 ?_
      refine go_icmp_neN (by omega) (by decide) dE_keepsPlain_28 (tgt := 35) (by decide) (fun c28 => ?_) (fun c28 => ?_)
      · refine go_iconst (am_b false) (by decide) dE_keepsPlain_35 ?_
        refine go_istore dE_keepsPlain_36 (Nat.le_of_ble_eq_true rfl) ?_
        first | exact E_kp w hd G h i b e M hi hb he hM hbN true (iffT (Or.inl c7)) | exact E_kp w hd G h i b e M hi hb he hM hbN true (iffT (Or.inr (Or.inl c17))) | exact E_kp w hd G h i b e M hi hb he hM hbN true (iffT (Or.inr (Or.inr c28))) | exact E_kp w hd G h i b e M hi hb he hM hbN false (iffF (fun q => nL c7 c17 c28 ⟨q, trivial⟩))
      · refine go_iconst (am_b true) (by decide) dE_keepsPlain_31 ?_
        refine go_goto dE_keepsPlain_32 (tgt := 36) (by decide) ?_
        refine go_istore dE_keepsPlain_36 (Nat.le_of_ble_eq_true rfl) ?_
        first | exact E_kp w hd G h i b e M hi hb he hM hbN true (iffT (Or.inl c7)) | exact E_kp w hd G h i b e M hi hb he hM hbN true (iffT (Or.inr (Or.inl c17))) | exact E_kp w hd G h i b e M hi hb he hM hbN true (iffT (Or.inr (Or.inr c28))) | exact E_kp w hd G h i b e M hi hb he hM hbN false (iffF (fun q => nL c7 c17 c28 ⟨q, trivial⟩))
set_option maxRecDepth 100000 in
theorem E_p1 (w : am_W) {d : Nat} {P : Option am_V → am_G → Prop} (G : am_G) (h b : Nat) (M : mT) (hb : b < mN M) (hM : hldM G h M) (z : Nat) (K : z ≤ mN M → am_Go w jE_plainEnd d (0, 0) 41 [some (.inr (some h)), some (.inl (nI b)), some (.inl (nI z)), none, none] [] G P) :
    ∀ (r k : Nat), k + r = mN M → fBk M r k = z → am_Go w jE_plainEnd d (0, 0) 16 [some (.inr (some h)), some (.inl (nI b)), some (.inl (nI k)), none, none] [] G P := by
  obtain ⟨hs, ⟨r0, r1, r2, r3, r4, r5, r6⟩, s1, s2, s3, s4, s5, s6, s7⟩ := id hM.1
  have hV := hM.2.2.1
  have hn6 := hV.1
  have mn := hM.2.1.1.1
  intro r
  induction r with
  | zero =>
    intro k hk hz
    refine go_iload_n dE_plainEnd_16 rfl rfl ?_
    refine go_aload_n dE_plainEnd_17 rfl rfl ?_
    refine go_getV dE_plainEnd_18 flE_33 rfl (by assumption) (by first | assumption | (simp (disch := omega) only [wi_I, ro_I, wi_In, wi_Is]; done) | (simp (disch := omega) only [wi_I, ro_I, wi_In, wi_Is]; first | assumption | rfl) | rfl) ?_
    refine go_icmp_geN (by omega) (by omega) dE_plainEnd_21 (tgt := 41) (by decide) (fun c1 => ?_) (fun c1 => absurd c1 (by omega))
    have e0 : k = z := hz
    rw [e0]
    exact K (by omega)
  | succ r ih =>
    intro k hk hz
    have hkn : k < mN M := by omega
    obtain ⟨m1, m2, m3⟩ := hM.2.1.2.1 k hkn
    have h28 := (hV.2.2.2.1 k hkn).1
    refine go_iload_n dE_plainEnd_16 rfl rfl ?_
    refine go_aload_n dE_plainEnd_17 rfl rfl ?_
    refine go_getV dE_plainEnd_18 flE_33 rfl (by assumption) (by first | assumption | (simp (disch := omega) only [wi_I, ro_I, wi_In, wi_Is]; done) | (simp (disch := omega) only [wi_I, ro_I, wi_In, wi_Is]; first | assumption | rfl) | rfl) ?_
    refine go_icmp_geN (by omega) (by omega) dE_plainEnd_21 (tgt := 41) (by decide) (fun c1 => absurd c1 (by omega)) (fun c1 => ?_)
    refine go_aload_n dE_plainEnd_24 rfl rfl ?_
    refine go_getO dE_plainEnd_25 flE_9 rfl (by assumption) (by assumption) ?_
    refine go_iload_n dE_plainEnd_28 rfl rfl ?_
    refine go_ialV s1 (by omega) (by decide) m1 dE_plainEnd_29 ?_
    refine go_bipush (nI 24) (by decide) dE_plainEnd_30 ?_
    refine go_icmp_eqN (by omega) (by decide) dE_plainEnd_32 (tgt := 41) (by decide) (fun c32 => ?_) (fun c32 => ?_)
    · have e0 : k = z := (fBk_y c32).symm.trans hz
      rw [e0]
      exact K (by omega)
    · refine go_inc dE_plainEnd_35 rfl ?_
      refine go_goto dE_plainEnd_38 (tgt := 16) (by decide) ?_
      exact ih (k + 1) (by omega) ((fBk_n c32).symm.trans hz)
set_option maxRecDepth 100000 in
theorem E_p2 (w : am_W) {d : Nat} {P : Option am_V → am_G → Prop} (hd : 2 ≤ d) (G : am_G) (h b : Nat) (M : mT) (hb : b < mN M) (hM : hldM G h M) (e : Nat) (he : e < mN M) (K : (∀ i, i < mN M → plI M b e i) → ∀ l3 l4, am_Go w jE_plainEnd d (0, 0) 131 [some (.inr (some h)), some (.inl (nI b)), some (.inl (nI e)), l3, l4] [] G P) (F : ¬ plE M b e → P (some (.inl (-2))) G) :
    ∀ (r k : Nat) (l4 : Option am_V), k + r = mN M → (∀ i, i < k → plI M b e i) → am_Go w jE_plainEnd d (0, 0) 69 [some (.inr (some h)), some (.inl (nI b)), some (.inl (nI e)), some (.inl (nI k)), l4] [] G P := by
  obtain ⟨hs, ⟨r0, r1, r2, r3, r4, r5, r6⟩, s1, s2, s3, s4, s5, s6, s7⟩ := id hM.1
  have hV := hM.2.2.1
  have hn6 := hV.1
  have mn := hM.2.1.1.1
  intro r
  induction r with
  | zero =>
    intro k l4 hk h1
    refine go_iload_n dE_plainEnd_69 rfl rfl ?_
    refine go_aload_n dE_plainEnd_70 rfl rfl ?_
    refine go_getV dE_plainEnd_71 flE_33 rfl (by assumption) (by first | assumption | (simp (disch := omega) only [wi_I, ro_I, wi_In, wi_Is]; done) | (simp (disch := omega) only [wi_I, ro_I, wi_In, wi_Is]; first | assumption | rfl) | rfl) ?_
    refine go_icmp_geN (by omega) (by omega) dE_plainEnd_74 (tgt := 131) (by decide) (fun c1 => ?_) (fun c1 => absurd c1 (by omega))
    exact K (fun i hi => h1 i (by omega)) _ _
  | succ r ih =>
    intro k l4 hk h1
    have hkn : k < mN M := by omega
    have KK : plI M b e k → ∀ l4, am_Go w jE_plainEnd d (0, 0) 125 [some (.inr (some h)), some (.inl (nI b)), some (.inl (nI e)), some (.inl (nI k)), l4] [] G P := fun hp l4 => by
      refine go_inc dE_plainEnd_125 rfl ?_
      refine go_goto dE_plainEnd_128 (tgt := 69) (by decide) ?_
      refine ih (k + 1) _ (by omega) (fun i hi => ?_)
      by_cases ei : i = k
      · rw [ei]; exact hp
      · exact h1 i (by omega)
    have FF : ¬ plI M b e k → ∀ l4, am_Go w jE_plainEnd d (0, 0) 122 [some (.inr (some h)), some (.inl (nI b)), some (.inl (nI e)), some (.inl (nI k)), l4] [] G P := fun hp l4 => by
      refine go_bipush (-2) (by decide) dE_plainEnd_122 ?_
      refine go_ireturn rfl dE_plainEnd_124 ?_
      exact F (plE_i hkn hp)
    have OUT : ¬ (b < k ∧ k < e) → am_Go w jE_plainEnd d (0, 0) 94 [some (.inr (some h)), some (.inl (nI b)), some (.inl (nI e)), some (.inl (nI k)), some (.inl (am_b false))] [] G P := fun hin => by
      refine go_iload dE_plainEnd_94 rfl ?_
      refine go_if_eqB dE_plainEnd_96 (tgt := 112) (by decide) (fun c1 => ?_) (fun c1 => absurd c1 (by decide))
      refine go_aload_n dE_plainEnd_112 rfl rfl ?_
      refine go_iload_n dE_plainEnd_113 rfl rfl ?_
      refine go_iload_n dE_plainEnd_114 rfl rfl ?_
      refine go_iload_n dE_plainEnd_115 rfl rfl ?_
      refine go_cV (k' := (0, 0)) dE_plainEnd_116 _ csE_89 (by assumption) rfl imE_leadsInto seE_leadsInto rfl (okE_leadsInto (d := 1) w (by decide) G h k b e M hkn (by omega) (by omega) hM) (by omega) (by decide) (Nat.le_of_ble_eq_true rfl) (fun r G1 hr hn => ?_)
      obtain ⟨c, rfl, q2, hG⟩ := hr
      rw [hG]
      clear hG hn
      refine go_if_eqB dE_plainEnd_119 (tgt := 125) (by decide) (fun c119 => ?_) (fun c119 => ?_)
      · exact KK (plI_l hin q2 c119) _
      · exact FF (plI_lx hin q2 c119) _
    have INS : b < k → k < e → am_Go w jE_plainEnd d (0, 0) 94 [some (.inr (some h)), some (.inl (nI b)), some (.inl (nI e)), some (.inl (nI k)), some (.inl (am_b true))] [] G P := fun hi1 hi2 => by
      refine go_iload dE_plainEnd_94 rfl ?_
      refine go_if_eqB dE_plainEnd_96 (tgt := 112) (by decide) (fun c1 => absurd c1 (by decide)) (fun c1 => ?_)
      refine go_aload_n dE_plainEnd_99 rfl rfl ?_
      refine go_iload_n dE_plainEnd_100 rfl rfl ?_
      refine go_iload_n dE_plainEnd_101 rfl rfl ?_
      refine go_iload_n dE_plainEnd_102 rfl rfl ?_
      refine go_cV (k' := (0, 0)) dE_plainEnd_103 _ csE_85 (by assumption) rfl imE_keepsPlain seE_keepsPlain rfl (okE_keepsPlain (d := 1) w (by decide) G h k b e M hkn (by omega) (by omega) hM hb) (by omega) (by decide) (Nat.le_of_ble_eq_true rfl) (fun r G1 hr hn => ?_)
      obtain ⟨c, rfl, q2, hG⟩ := hr
      rw [hG]
      clear hG hn
      refine go_if_neB dE_plainEnd_106 (tgt := 125) (by decide) (fun c106 => ?_) (fun c106 => ?_)
      · exact KK (plI_k hi1 hi2 q2 c106) _
      · refine go_goto dE_plainEnd_109 (tgt := 122) (by decide) ?_
        exact FF (plI_kx hi1 hi2 q2 c106) _
    refine go_iload_n dE_plainEnd_69 rfl rfl ?_
    refine go_aload_n dE_plainEnd_70 rfl rfl ?_
    refine go_getV dE_plainEnd_71 flE_33 rfl (by assumption) (by first | assumption | (simp (disch := omega) only [wi_I, ro_I, wi_In, wi_Is]; done) | (simp (disch := omega) only [wi_I, ro_I, wi_In, wi_Is]; first | assumption | rfl) | rfl) ?_
    refine go_icmp_geN (by omega) (by omega) dE_plainEnd_74 (tgt := 131) (by decide) (fun c1 => absurd c1 (by omega)) (fun c1 => ?_)
    refine go_iload_n dE_plainEnd_77 rfl rfl ?_
    refine go_iload_n dE_plainEnd_78 rfl rfl ?_
    refine go_icmp_leN (by omega) (by omega) dE_plainEnd_79 (tgt := 91) (by decide) (fun c79 => ?_) (fun c79 => ?_)
    · refine go_iconst (am_b false) (by decide) dE_plainEnd_91 ?_
      refine go_istore dE_plainEnd_92 (Nat.le_of_ble_eq_true rfl) ?_
      first | exact INS c79 c84 | exact OUT (fun q => absurd q.2 (Nat.not_lt.mpr c84)) | exact OUT (fun q => absurd q.1 (Nat.not_lt.mpr c79))
    · refine go_iload_n dE_plainEnd_82 rfl rfl ?_
      refine go_iload_n dE_plainEnd_83 rfl rfl ?_
      refine go_icmp_geN (by omega) (by omega) dE_plainEnd_84 (tgt := 91) (by decide) (fun c84 => ?_) (fun c84 => ?_)
      · refine go_iconst (am_b false) (by decide) dE_plainEnd_91 ?_
        refine go_istore dE_plainEnd_92 (Nat.le_of_ble_eq_true rfl) ?_
        first | exact INS c79 c84 | exact OUT (fun q => absurd q.2 (Nat.not_lt.mpr c84)) | exact OUT (fun q => absurd q.1 (Nat.not_lt.mpr c79))
      · refine go_iconst (am_b true) (by decide) dE_plainEnd_87 ?_
        refine go_goto dE_plainEnd_88 (tgt := 92) (by decide) ?_
        refine go_istore dE_plainEnd_92 (Nat.le_of_ble_eq_true rfl) ?_
        first | exact INS c79 c84 | exact OUT (fun q => absurd q.2 (Nat.not_lt.mpr c84)) | exact OUT (fun q => absurd q.1 (Nat.not_lt.mpr c79))
set_option maxRecDepth 100000 in
theorem E_p3 (w : am_W) {d : Nat} {P : Option am_V → am_G → Prop} (G : am_G) (h b : Nat) (M : mT) (hb : b < mN M) (hM : hldM G h M) (e : Nat) (he : e < mN M) (K : (∀ i, i < mR M → plW M b e i) → P (some (.inl (nI e))) G) (F : ¬ plE M b e → P (some (.inl (-2))) G) :
    ∀ (r k : Nat) (l4 : Option am_V), k + r = mR M → (∀ i, i < k → plW M b e i) → am_Go w jE_plainEnd d (0, 0) 133 [some (.inr (some h)), some (.inl (nI b)), some (.inl (nI e)), some (.inl (nI k)), l4] [] G P := by
  obtain ⟨hs, ⟨r0, r1, r2, r3, r4, r5, r6⟩, s1, s2, s3, s4, s5, s6, s7⟩ := id hM.1
  have hV := hM.2.2.1
  have hn6 := hV.1
  have mr := hM.2.1.1.2.1
  have hr8 := hV.2.1
  intro r
  induction r with
  | zero =>
    intro k l4 hk h1
    refine go_iload_n dE_plainEnd_133 rfl rfl ?_
    refine go_aload_n dE_plainEnd_134 rfl rfl ?_
    refine go_getV dE_plainEnd_135 flE_37 rfl (by assumption) (by first | assumption | (simp (disch := omega) only [wi_I, ro_I, wi_In, wi_Is]; done) | (simp (disch := omega) only [wi_I, ro_I, wi_In, wi_Is]; first | assumption | rfl) | rfl) ?_
    refine go_icmp_geN (by omega) (by omega) dE_plainEnd_138 (tgt := 170) (by decide) (fun c1 => ?_) (fun c1 => absurd c1 (by omega))
    refine go_iload_n dE_plainEnd_170 rfl rfl ?_
    refine go_ireturn rfl dE_plainEnd_171 ?_
    exact K (fun i hi => h1 i (by omega))
  | succ r ih =>
    intro k l4 hk h1
    have hkr : k < mR M := by omega
    obtain ⟨-, -, e3, -⟩ := hM.2.1.2.2 k hkr
    have b3 := (hV.2.2.2.2 k hkr).2.2.1
    have i1 := fun (hp : plW M b e k) => ih (k + 1) l4 (by omega) (fun i hi => by
      by_cases ei : i = k
      · rw [ei]; exact hp
      · exact h1 i (by omega))
    refine go_iload_n dE_plainEnd_133 rfl rfl ?_
    refine go_aload_n dE_plainEnd_134 rfl rfl ?_
    refine go_getV dE_plainEnd_135 flE_37 rfl (by assumption) (by first | assumption | (simp (disch := omega) only [wi_I, ro_I, wi_In, wi_Is]; done) | (simp (disch := omega) only [wi_I, ro_I, wi_In, wi_Is]; first | assumption | rfl) | rfl) ?_
    refine go_icmp_geN (by omega) (by omega) dE_plainEnd_138 (tgt := 170) (by decide) (fun c1 => absurd c1 (by omega)) (fun c1 => ?_)
    refine go_aload_n dE_plainEnd_141 rfl rfl ?_
    refine go_getO dE_plainEnd_142 flE_27 rfl (by assumption) (by assumption) ?_
    refine go_iload_n dE_plainEnd_145 rfl rfl ?_
    refine go_ialV s6 (by omega) (by decide) e3 dE_plainEnd_146 ?_
    refine go_iload_n dE_plainEnd_147 rfl rfl ?_
    refine go_icmp_ltN (by omega) (by omega) dE_plainEnd_148 (tgt := 164) (by decide) (fun c148 => ?_) (fun c148 => ?_)
    · refine go_inc dE_plainEnd_164 rfl ?_
      refine go_goto dE_plainEnd_167 (tgt := 133) (by decide) ?_
      first | exact i1 (n2a c148) | exact i1 (n2b c158)
    · refine go_aload_n dE_plainEnd_151 rfl rfl ?_
      refine go_getO dE_plainEnd_152 flE_27 rfl (by assumption) (by assumption) ?_
      refine go_iload_n dE_plainEnd_155 rfl rfl ?_
      refine go_ialV s6 (by omega) (by decide) e3 dE_plainEnd_156 ?_
      refine go_iload_n dE_plainEnd_157 rfl rfl ?_
      refine go_icmp_gtN (by omega) (by omega) dE_plainEnd_158 (tgt := 164) (by decide) (fun c158 => ?_) (fun c158 => ?_)
      · refine go_inc dE_plainEnd_164 rfl ?_
        refine go_goto dE_plainEnd_167 (tgt := 133) (by decide) ?_
        first | exact i1 (n2a c148) | exact i1 (n2b c158)
      · refine go_bipush (-2) (by decide) dE_plainEnd_161 ?_
        refine go_ireturn rfl dE_plainEnd_163 ?_
        exact F (plE_w hkr (fun q => q ⟨c148, c158⟩))
set_option maxRecDepth 100000 in
theorem okE_plainEnd (w : am_W) {d : Nat} (hd : 2 ≤ d) (G : am_G) (h b : Nat) (M : mT) (hb2 : b < 200) (hM : hldM G h M) : am_Ok w jE_plainEnd d (0, 0) [.inr (some h), .inl (nI b)] G (fun r G' => r = some (.inl (rRes (pE M b))) ∧ G' = G) := by
  refine am_ok_of rfl (Nat.le_of_ble_eq_true rfl) ?_
  show am_Go w jE_plainEnd d (0, 0) 0 [some (.inr (some h)), some (.inl (nI b)), none, none, none] [] G _
  obtain ⟨hs, ⟨r0, r1, r2, r3, r4, r5, r6⟩, s1, s2, s3, s4, s5, s6, s7⟩ := id hM.1
  have hV := hM.2.2.1
  have hn6 := hV.1
  have mn := hM.2.1.1.1
  refine go_aload_n dE_plainEnd_0 rfl rfl ?_
  refine go_iload_n dE_plainEnd_1 rfl rfl ?_
  refine go_iconst (nI 3) (by decide) dE_plainEnd_2 ?_
  refine go_cV (k' := (0, 0)) dE_plainEnd_3 _ csE_82 (by assumption) rfl imE_hasAt seE_hasAt rfl (okE_hasAt (d := 1) w (by decide) G h (mN M) (nI b) (nI 3) (by omega) mn hM.1) (by omega) (by decide) (Nat.le_of_ble_eq_true rfl) (fun r G1 hr hn => ?_)
  obtain ⟨rfl, hG⟩ := hr
  rw [hG]
  clear hG hn
  refine go_if_neB dE_plainEnd_6 (tgt := 12) (by decide) (fun c6 => ?_) (fun c6 => ?_)
  · rw [Bool.and_eq_true] at c6
    obtain ⟨c61, c62⟩ := c6
    rw [bel_nI (by omega)] at c61
    have hb := of_decide_eq_true c61
    obtain ⟨m1, n2, m3⟩ := hM.2.1.2.1 b hb
    have h28 := (hV.2.2.2.1 b hb).1
    rw [nI_clamp (by omega), m1] at c62
    have h3 : mO M b = 3 := (nI_eq (by omega) (by decide)).mp (of_decide_eq_true c62)
    refine go_iload_n dE_plainEnd_12 rfl rfl ?_
    refine go_iconst (nI 1) (by decide) dE_plainEnd_13 ?_
    first | refine go_iaddN dE_plainEnd_14 ?_ | refine go_iadd dE_plainEnd_14 ?_
    refine go_istore_n dE_plainEnd_15 rfl (Nat.le_of_ble_eq_true rfl) ?_
    refine E_p1 w G h b M hb hM (fBk M (mN M - (b + 1)) (b + 1)) (fun hz => ?_) (mN M - (b + 1)) (b + 1) (by omega) rfl
    have hz2 := (fBk_le (M := M) (r := mN M - (b + 1)) (k := b + 1)).1
    have hF : ¬ plE M b (fBk M (mN M - (b + 1)) (b + 1)) → (some (.inl (-2)) : Option am_V) = some (.inl (rRes (pE M b))) ∧ G = G := fun q => ⟨by rw [pE_x q]; rfl, rfl⟩
    have hY : plE M b (fBk M (mN M - (b + 1)) (b + 1)) → (some (.inl (nI (fBk M (mN M - (b + 1)) (b + 1)))) : Option am_V) = some (.inl (rRes (pE M b))) ∧ G = G := fun q => ⟨by rw [pE_y hb h3 q]; rfl, rfl⟩
    generalize fBk M (mN M - (b + 1)) (b + 1) = z at *
    refine go_iload_n dE_plainEnd_41 rfl rfl ?_
    refine go_aload_n dE_plainEnd_42 rfl rfl ?_
    refine go_getV dE_plainEnd_43 flE_33 rfl (by assumption) (by first | assumption | (simp (disch := omega) only [wi_I, ro_I, wi_In, wi_Is]; done) | (simp (disch := omega) only [wi_I, ro_I, wi_In, wi_Is]; first | assumption | rfl) | rfl) ?_
    refine go_icmp_geN (by omega) (by omega) dE_plainEnd_46 (tgt := 64) (by decide) (fun c46 => ?_) (fun c46 => ?_)
    · refine go_bipush (-2) (by decide) dE_plainEnd_64 ?_
      refine go_ireturn rfl dE_plainEnd_66 ?_
      first | exact hF (fun q => c61 q.1.2) | exact hF (fun q => absurd q.1.1 (Nat.not_lt.mpr c46))
    · obtain ⟨-, z2, -⟩ := hM.2.1.2.1 z (by omega)
      refine go_aload_n dE_plainEnd_49 rfl rfl ?_
      refine go_getO dE_plainEnd_50 flE_15 rfl (by assumption) (by assumption) ?_
      refine go_iload_n dE_plainEnd_53 rfl rfl ?_
      refine go_ialV s2 (by omega) (by decide) z2 dE_plainEnd_54 ?_
      refine go_aload_n dE_plainEnd_55 rfl rfl ?_
      refine go_getO dE_plainEnd_56 flE_15 rfl (by assumption) (by assumption) ?_
      refine go_iload_n dE_plainEnd_59 rfl rfl ?_
      refine go_ialV s2 (by omega) (by decide) n2 dE_plainEnd_60 ?_
      refine go_icmp_eq dE_plainEnd_61 (tgt := 67) (by decide) (fun c61 => ?_) (fun c61 => ?_)
      · refine go_iconst (nI 0) (by decide) dE_plainEnd_67 ?_
        refine go_istore_n dE_plainEnd_68 rfl (Nat.le_of_ble_eq_true rfl) ?_
        refine E_p2 w hd G h b M hb hM z (by omega) (fun hA l3 l4 => ?_) hF (mN M) 0 _ (by omega) (fun i hi => absurd hi (Nat.not_lt_zero i))
        refine go_iconst (nI 0) (by decide) dE_plainEnd_131 ?_
        refine go_istore_n dE_plainEnd_132 rfl (Nat.le_of_ble_eq_true rfl) ?_
        exact E_p3 w G h b M hb hM z (by omega) (fun hW => hY ⟨⟨by omega, c61⟩, hA, hW⟩) hF (mR M) 0 _ (by omega) (fun i hi => absurd hi (Nat.not_lt_zero i))
      · refine go_bipush (-2) (by decide) dE_plainEnd_64 ?_
        refine go_ireturn rfl dE_plainEnd_66 ?_
        first | exact hF (fun q => c61 q.1.2) | exact hF (fun q => absurd q.1.1 (Nat.not_lt.mpr c46))
  · refine go_bipush (-2) (by decide) dE_plainEnd_9 ?_
    refine go_ireturn rfl dE_plainEnd_11 ?_
    refine ⟨?_, rfl⟩
    rw [pE_n (fun q => ?_)]
    · rfl
    · rw [bel_nI (by omega), nI_clamp (by omega), decide_eq_true q.1, Bool.true_and, (hM.2.1.2.1 b q.1).1, q.2] at c6
      exact absurd c6 (by decide)
