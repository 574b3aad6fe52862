section Cw
variable {w : am_W} {j d : Nat} {k : Nat × Nat} {pc : Nat} {L : List (Option am_V)} {st : List am_V} {G : am_G} {P P' : Option am_V → am_G → Prop}
theorem go_cS {idx j' n d' : Nat} {k' : Nat × Nat} (h : decode (am_by j) pc = .ok (.invokestatic idx, 3)) (av : List am_V) (hc0 : am_Cs (am_own j) idx j' n) (hw : Cond.static (am_y j') ∈ am_T) (hn0 : av.length = n) (hM : am_Ok w j' d' k' av G P') (hd : d' + 1 ≤ d) (hk : k'.1 ≤ k.1 ∧ k'.2 ≤ k.2) (hsl : st.length ≤ 8)
    (kk : ∀ (r : Option am_V) (G' : am_G), P' r G' → am_n G ≤ am_n G' → am_Go w j d (k.1 - k'.1, k.2 - k'.2) (pc + 3) L (r.toList ++ st) G' P) : am_Go w j d k pc L (av.reverse ++ st) G P := go_callS av hc0 hw hn0 hd hk hsl h hM kk
theorem go_cV {idx j' n d' i ci : Nat} {k' : Nat × Nat} (h : decode (am_by j) pc = .ok (.invokevirtual idx, 3)) (av : List am_V) (hc0 : am_Cs (am_own j) idx j' n) (hsh : G.1[i]? = some (0, ci)) (hcl : (am_cl[ci]?).map (fun r => r.1) = some (am_y j').cls) (hw : Cond.instanceMethod (am_y j') ∈ am_T) (hw2 : Cond.selects (am_y j').cls (am_y j') (am_y j') ∈ am_T) (hn0 : av.length = n) (hM : am_Ok w j' d' k' (.inr (some i) :: av) G P') (hd : d' + 1 ≤ d) (hk : k'.1 ≤ k.1 ∧ k'.2 ≤ k.2) (hsl : st.length ≤ 8)
    (kk : ∀ (r : Option am_V) (G' : am_G), P' r G' → am_n G ≤ am_n G' → am_Go w j d (k.1 - k'.1, k.2 - k'.2) (pc + 3) L (r.toList ++ st) G' P) : am_Go w j d k pc L (av.reverse ++ .inr (some i) :: st) G P := go_callV av hc0 hsh hcl hw hw2 hn0 hd hk hsl h hM kk
end Cw

theorem nI_one : nI 1 = 1 := rfl
/-- x is one of 0 .. n - 1 -/
def bel (x : Int32) (n : Nat) : Bool := decide (0 ≤ x.toInt ∧ x.toInt < n)
theorem bel_of {x : Int32} {n : Nat} (h : bel x n = true) (hn : n < 2 ^ 31) : ∃ a : Nat, a < n ∧ x = nI a := by
  have h := of_decide_eq_true h
  exact vp_in_of (vp_in_iff.mpr h) hn
theorem bel_nI {a n : Nat} (ha : a < 2 ^ 31) : bel (nI a) n = decide (a < n) := by
  unfold bel
  rw [nI_toInt ha]
  congr 1
  apply propext
  omega
theorem bel_lt {x : Int32} {n : Nat} (hn : n < 2 ^ 31) : bel x n = true ↔ (0 ≤ x ∧ x < nI n) := by
  unfold bel
  rw [decide_eq_true_iff, Int32.le_iff_toInt_le, Int32.lt_iff_toInt_lt, nI_toInt hn, Int32.toInt_zero]
theorem bel_le {x : Int32} {n : Nat} (hn : n < 2 ^ 31) : bel x (n + 1) = true ↔ (0 ≤ x ∧ x ≤ nI n) := by
  unfold bel
  rw [decide_eq_true_iff, Int32.le_iff_toInt_le, Int32.le_iff_toInt_le, nI_toInt hn, Int32.toInt_zero]
  omega
theorem am_b_dec {c : Prop} [Decidable c] (h : c) : am_b (decide c) = 1 := by simp [am_b, h]
theorem am_b_ndec {c : Prop} [Decidable c] (h : ¬ c) : am_b (decide c) = 0 := by simp [am_b, h]
theorem i_nlt {x y : Int32} : ¬ x < y ↔ y ≤ x := by
  rw [Int32.lt_iff_toInt_lt, Int32.le_iff_toInt_le]; omega
theorem i_s1 {x y : Int32} (hy : y < 100) : x < y + nI 1 ↔ x ≤ y := by
  have h1 : (nI 1).toInt = 1 := rfl
  have h2 : (100 : Int32).toInt = 100 := rfl
  rw [Int32.lt_iff_toInt_lt, h2] at hy
  rw [Int32.lt_iff_toInt_lt, Int32.le_iff_toInt_le, Int32.toInt_add, h1]
  have h3 : -2147483648 ≤ y.toInt := Int32.le_toInt y
  have h4 : Int.bmod (y.toInt + 1) (2 ^ 32) = y.toInt + 1 := by
    apply Int.bmod_eq_of_le_mul_two <;> omega
  rw [h4]; omega
theorem i_z8 {x y : Int32} (hy : y < 100) (h : decide (0 ≤ x ∧ x < y + nI 1) = true) : 0 ≤ x ∧ x ≤ y := by
  have h := of_decide_eq_true h
  exact ⟨h.1, (i_s1 hy).mp h.2⟩
theorem i_z9 {x y : Int32} (hy : y < 100) (h : decide (0 ≤ x ∧ x < y + nI 1) = false) : ¬ (0 ≤ x ∧ x ≤ y) := fun q => of_decide_eq_false h ⟨q.1, (i_s1 hy).mpr q.2⟩
theorem i_nle {x y : Int32} : ¬ x ≤ y ↔ y < x := by
  rw [Int32.lt_iff_toInt_lt, Int32.le_iff_toInt_le]; omega
set_option maxRecDepth 100000 in
theorem okF_isBelow (w : am_W) {d : Nat} (G : am_G) (x b : Int32) : am_Ok w jF_isBelow d (0, 0) [.inl x, .inl b] G (fun r G' => r = some (.inl (am_b (decide (0 ≤ x ∧ x < b)))) ∧ G' = G) := by
  refine am_ok_of rfl (Nat.le_of_ble_eq_true rfl) ?_
  show am_Go w jF_isBelow d (0, 0) 0 [some (.inl x), some (.inl b)] [] G _
  refine go_iload_n dF_isBelow_0 rfl rfl ?_
  refine go_if_lt dF_isBelow_1 (tgt := 13) (by decide) (fun c1 => ?_) (fun c1 => ?_)
  · refine go_iconst (nI 0) (by decide) dF_isBelow_13 ?_
    refine go_zreturn rfl (by first | exact Or.inl rfl | exact Or.inr rfl | exact am_b_01 _) dF_isBelow_14 ?_
    first | exact ⟨by rw [am_b_ndec (fun h => i_nle.mpr c1 h.1)]; rfl, rfl⟩ | exact ⟨by rw [am_b_ndec (fun h => i_nlt.mpr c6 h.2)]; rfl, rfl⟩ | exact ⟨by rw [am_b_dec ⟨i_nlt.mp c1, i_nle.mp c6⟩]; rfl, rfl⟩
  · refine go_iload_n dF_isBelow_4 rfl rfl ?_
    refine go_iload_n dF_isBelow_5 rfl rfl ?_
    refine go_icmp_ge dF_isBelow_6 (tgt := 13) (by decide) (fun c6 => ?_) (fun c6 => ?_)
    · refine go_iconst (nI 0) (by decide) dF_isBelow_13 ?_
      refine go_zreturn rfl (by first | exact Or.inl rfl | exact Or.inr rfl | exact am_b_01 _) dF_isBelow_14 ?_
      first | exact ⟨by rw [am_b_ndec (fun h => i_nle.mpr c1 h.1)]; rfl, rfl⟩ | exact ⟨by rw [am_b_ndec (fun h => i_nlt.mpr c6 h.2)]; rfl, rfl⟩ | exact ⟨by rw [am_b_dec ⟨i_nlt.mp c1, i_nle.mp c6⟩]; rfl, rfl⟩
    · refine go_iconst (nI 1) (by decide) dF_isBelow_9 ?_
      refine go_goto dF_isBelow_10 (tgt := 14) (by decide) ?_
      refine go_zreturn rfl (by first | exact Or.inl rfl | exact Or.inr rfl | exact am_b_01 _) dF_isBelow_14 ?_
      first | exact ⟨by rw [am_b_ndec (fun h => i_nle.mpr c1 h.1)]; rfl, rfl⟩ | exact ⟨by rw [am_b_ndec (fun h => i_nlt.mpr c6 h.2)]; rfl, rfl⟩ | exact ⟨by rw [am_b_dec ⟨i_nlt.mp c1, i_nle.mp c6⟩]; rfl, rfl⟩
set_option maxRecDepth 100000 in
theorem okF_hasBit (w : am_W) {d : Nat} (G : am_G) (x b : Int32) : am_Ok w jF_hasBit d (0, 0) [.inl x, .inl b] G (fun r G' => r = some (.inl (am_b (decide (¬ ((x >>> (b &&& 31)) &&& nI 1 = 0)))) ) ∧ G' = G) := by
  refine am_ok_of rfl (Nat.le_of_ble_eq_true rfl) ?_
  show am_Go w jF_hasBit d (0, 0) 0 [some (.inl x), some (.inl b)] [] G _
  refine go_iload_n dF_hasBit_0 rfl rfl ?_
  refine go_iload_n dF_hasBit_1 rfl rfl ?_
  refine go_ishr dF_hasBit_2 ?_
  refine go_iconst (nI 1) (by decide) dF_hasBit_3 ?_
  refine go_iand dF_hasBit_4 ?_
  refine go_if_eq dF_hasBit_5 (tgt := 12) (by decide) (fun c5 => ?_) (fun c5 => ?_)
  · refine go_iconst (nI 0) (by decide) dF_hasBit_12 ?_
    refine go_zreturn rfl (by first | exact Or.inl rfl | exact Or.inr rfl | exact am_b_01 _) dF_hasBit_13 ?_
    exact ⟨by first | (simp_all [am_b, nI_one, nI_0, i_nlt, i_nle]; done) | (have h9 := i_nle.mpr c1; simp_all [am_b, nI_one, nI_0]; done) | (have h9 := i_nle.mpr c2; simp_all [am_b, nI_one, nI_0]; done), rfl⟩
  · refine go_iconst (nI 1) (by decide) dF_hasBit_8 ?_
    refine go_goto dF_hasBit_9 (tgt := 13) (by decide) ?_
    refine go_zreturn rfl (by first | exact Or.inl rfl | exact Or.inr rfl | exact am_b_01 _) dF_hasBit_13 ?_
    exact ⟨by first | (simp_all [am_b, nI_one, nI_0, i_nlt, i_nle]; done) | (have h9 := i_nle.mpr c1; simp_all [am_b, nI_one, nI_0]; done) | (have h9 := i_nle.mpr c2; simp_all [am_b, nI_one, nI_0]; done), rfl⟩
set_option maxRecDepth 100000 in
theorem okF_isJump (w : am_W) {d : Nat} (G : am_G) (x : Int32) : am_Ok w jF_isJump d (0, 0) [.inl x] G (fun r G' => r = some (.inl (am_b (decide (x = nI 11 ∨ x = nI 12 ∨ x = nI 17)))) ∧ G' = G) := by
  refine am_ok_of rfl (Nat.le_of_ble_eq_true rfl) ?_
  show am_Go w jF_isJump d (0, 0) 0 [some (.inl x)] [] G _
  refine go_iload_n dF_isJump_0 rfl rfl ?_
  refine go_bipush (nI 11) (by decide) dF_isJump_1 ?_
  refine go_icmp_eq dF_isJump_3 (tgt := 18) (by decide) (fun c3 => ?_) (fun c3 => ?_)
  · refine go_iconst (nI 1) (by decide) dF_isJump_18 ?_
    refine go_goto dF_isJump_19 (tgt := 23) (by decide) ?_
    refine go_zreturn rfl (by first | exact Or.inl rfl | exact Or.inr rfl | exact am_b_01 _) dF_isJump_23 ?_
    exact ⟨by first | (simp_all [am_b, nI_one, nI_0, i_nlt, i_nle]; done) | (have h9 := i_nle.mpr c1; simp_all [am_b, nI_one, nI_0]; done) | (have h9 := i_nle.mpr c2; simp_all [am_b, nI_one, nI_0]; done), rfl⟩
  · refine go_iload_n dF_isJump_6 rfl rfl ?_
    refine go_bipush (nI 12) (by decide) dF_isJump_7 ?_
    refine go_icmp_eq dF_isJump_9 (tgt := 18) (by decide) (fun c9 => ?_) (fun c9 => ?_)
    · refine go_iconst (nI 1) (by decide) dF_isJump_18 ?_
      refine go_goto dF_isJump_19 (tgt := 23) (by decide) ?_
      refine go_zreturn rfl (by first | exact Or.inl rfl | exact Or.inr rfl | exact am_b_01 _) dF_isJump_23 ?_
      exact ⟨by first | (simp_all [am_b, nI_one, nI_0, i_nlt, i_nle]; done) | (have h9 := i_nle.mpr c1; simp_all [am_b, nI_one, nI_0]; done) | (have h9 := i_nle.mpr c2; simp_all [am_b, nI_one, nI_0]; done), rfl⟩
    · refine go_iload_n dF_isJump_12 rfl rfl ?_
      refine go_bipush (nI 17) (by decide) dF_isJump_13 ?_
      refine go_icmp_ne dF_isJump_15 (tgt := 22) (by decide) (fun c15 => ?_) (fun c15 => ?_)
      · refine go_iconst (nI 0) (by decide) dF_isJump_22 ?_
        refine go_zreturn rfl (by first | exact Or.inl rfl | exact Or.inr rfl | exact am_b_01 _) dF_isJump_23 ?_
        exact ⟨by first | (simp_all [am_b, nI_one, nI_0, i_nlt, i_nle]; done) | (have h9 := i_nle.mpr c1; simp_all [am_b, nI_one, nI_0]; done) | (have h9 := i_nle.mpr c2; simp_all [am_b, nI_one, nI_0]; done), rfl⟩
      · refine go_iconst (nI 1) (by decide) dF_isJump_18 ?_
        refine go_goto dF_isJump_19 (tgt := 23) (by decide) ?_
        refine go_zreturn rfl (by first | exact Or.inl rfl | exact Or.inr rfl | exact am_b_01 _) dF_isJump_23 ?_
        exact ⟨by first | (simp_all [am_b, nI_one, nI_0, i_nlt, i_nle]; done) | (have h9 := i_nle.mpr c1; simp_all [am_b, nI_one, nI_0]; done) | (have h9 := i_nle.mpr c2; simp_all [am_b, nI_one, nI_0]; done), rfl⟩
set_option maxRecDepth 100000 in
theorem okR_in (w : am_W) {d : Nat} (G : am_G) (x y z : Int32) : am_Ok w jR_in d (0, 0) [.inl x, .inl y, .inl z] G (fun r G' => r = some (.inl (am_b (decide (y ≤ x ∧ x ≤ z)))) ∧ G' = G) := by
  refine am_ok_of rfl (Nat.le_of_ble_eq_true rfl) ?_
  show am_Go w jR_in d (0, 0) 0 [some (.inl x), some (.inl y), some (.inl z)] [] G _
  refine go_iload_n dR_in_0 rfl rfl ?_
  refine go_iload_n dR_in_1 rfl rfl ?_
  refine go_icmp_lt dR_in_2 (tgt := 14) (by decide) (fun c2 => ?_) (fun c2 => ?_)
  · refine go_iconst (nI 0) (by decide) dR_in_14 ?_
    refine go_zreturn rfl (by first | exact Or.inl rfl | exact Or.inr rfl | exact am_b_01 _) dR_in_15 ?_
    first | exact ⟨by rw [am_b_ndec (fun h => i_nle.mpr c2 h.1)]; rfl, rfl⟩ | exact ⟨by rw [am_b_ndec (fun h => i_nle.mpr c7 h.2)]; rfl, rfl⟩ | exact ⟨by rw [am_b_dec ⟨i_nlt.mp c2, i_nlt.mp c7⟩]; rfl, rfl⟩
  · refine go_iload_n dR_in_5 rfl rfl ?_
    refine go_iload_n dR_in_6 rfl rfl ?_
    refine go_icmp_gt dR_in_7 (tgt := 14) (by decide) (fun c7 => ?_) (fun c7 => ?_)
    · refine go_iconst (nI 0) (by decide) dR_in_14 ?_
      refine go_zreturn rfl (by first | exact Or.inl rfl | exact Or.inr rfl | exact am_b_01 _) dR_in_15 ?_
      first | exact ⟨by rw [am_b_ndec (fun h => i_nle.mpr c2 h.1)]; rfl, rfl⟩ | exact ⟨by rw [am_b_ndec (fun h => i_nle.mpr c7 h.2)]; rfl, rfl⟩ | exact ⟨by rw [am_b_dec ⟨i_nlt.mp c2, i_nlt.mp c7⟩]; rfl, rfl⟩
    · refine go_iconst (nI 1) (by decide) dR_in_10 ?_
      refine go_goto dR_in_11 (tgt := 15) (by decide) ?_
      refine go_zreturn rfl (by first | exact Or.inl rfl | exact Or.inr rfl | exact am_b_01 _) dR_in_15 ?_
      first | exact ⟨by rw [am_b_ndec (fun h => i_nle.mpr c2 h.1)]; rfl, rfl⟩ | exact ⟨by rw [am_b_ndec (fun h => i_nle.mpr c7 h.2)]; rfl, rfl⟩ | exact ⟨by rw [am_b_dec ⟨i_nlt.mp c2, i_nlt.mp c7⟩]; rfl, rfl⟩
set_option maxRecDepth 100000 in
theorem okR_isJump (w : am_W) {d : Nat} (G : am_G) (x : Int32) : am_Ok w jR_isJump d (0, 0) [.inl x] G (fun r G' => r = some (.inl (am_b (decide (x = nI 11 ∨ x = nI 12 ∨ x = nI 17 ∨ x = nI 23)))) ∧ G' = G) := by
  refine am_ok_of rfl (Nat.le_of_ble_eq_true rfl) ?_
  show am_Go w jR_isJump d (0, 0) 0 [some (.inl x)] [] G _
  refine go_iload_n dR_isJump_0 rfl rfl ?_
  refine go_bipush (nI 11) (by decide) dR_isJump_1 ?_
  refine go_icmp_eq dR_isJump_3 (tgt := 24) (by decide) (fun c3 => ?_) (fun c3 => ?_)
  · refine go_iconst (nI 1) (by decide) dR_isJump_24 ?_
    refine go_goto dR_isJump_25 (tgt := 29) (by decide) ?_
    refine go_zreturn rfl (by first | exact Or.inl rfl | exact Or.inr rfl | exact am_b_01 _) dR_isJump_29 ?_
    exact ⟨by first | (simp_all [am_b, nI_one, nI_0, i_nlt, i_nle]; done) | (have h9 := i_nle.mpr c1; simp_all [am_b, nI_one, nI_0]; done) | (have h9 := i_nle.mpr c2; simp_all [am_b, nI_one, nI_0]; done), rfl⟩
  · refine go_iload_n dR_isJump_6 rfl rfl ?_
    refine go_bipush (nI 12) (by decide) dR_isJump_7 ?_
    refine go_icmp_eq dR_isJump_9 (tgt := 24) (by decide) (fun c9 => ?_) (fun c9 => ?_)
    · refine go_iconst (nI 1) (by decide) dR_isJump_24 ?_
      refine go_goto dR_isJump_25 (tgt := 29) (by decide) ?_
      refine go_zreturn rfl (by first | exact Or.inl rfl | exact Or.inr rfl | exact am_b_01 _) dR_isJump_29 ?_
      exact ⟨by first | (simp_all [am_b, nI_one, nI_0, i_nlt, i_nle]; done) | (have h9 := i_nle.mpr c1; simp_all [am_b, nI_one, nI_0]; done) | (have h9 := i_nle.mpr c2; simp_all [am_b, nI_one, nI_0]; done), rfl⟩
    · refine go_iload_n dR_isJump_12 rfl rfl ?_
      refine go_bipush (nI 17) (by decide) dR_isJump_13 ?_
      refine go_icmp_eq dR_isJump_15 (tgt := 24) (by decide) (fun c15 => ?_) (fun c15 => ?_)
      · refine go_iconst (nI 1) (by decide) dR_isJump_24 ?_
        refine go_goto dR_isJump_25 (tgt := 29) (by decide) ?_
        refine go_zreturn rfl (by first | exact Or.inl rfl | exact Or.inr rfl | exact am_b_01 _) dR_isJump_29 ?_
        exact ⟨by first | (simp_all [am_b, nI_one, nI_0, i_nlt, i_nle]; done) | (have h9 := i_nle.mpr c1; simp_all [am_b, nI_one, nI_0]; done) | (have h9 := i_nle.mpr c2; simp_all [am_b, nI_one, nI_0]; done), rfl⟩
      · refine go_iload_n dR_isJump_18 rfl rfl ?_
        refine go_bipush (nI 23) (by decide) dR_isJump_19 ?_
        refine go_icmp_ne dR_isJump_21 (tgt := 28) (by decide) (fun c21 => ?_) (fun c21 => ?_)
        · refine go_iconst (nI 0) (by decide) dR_isJump_28 ?_
          refine go_zreturn rfl (by first | exact Or.inl rfl | exact Or.inr rfl | exact am_b_01 _) dR_isJump_29 ?_
          exact ⟨by first | (simp_all [am_b, nI_one, nI_0, i_nlt, i_nle]; done) | (have h9 := i_nle.mpr c1; simp_all [am_b, nI_one, nI_0]; done) | (have h9 := i_nle.mpr c2; simp_all [am_b, nI_one, nI_0]; done), rfl⟩
        · refine go_iconst (nI 1) (by decide) dR_isJump_24 ?_
          refine go_goto dR_isJump_25 (tgt := 29) (by decide) ?_
          refine go_zreturn rfl (by first | exact Or.inl rfl | exact Or.inr rfl | exact am_b_01 _) dR_isJump_29 ?_
          exact ⟨by first | (simp_all [am_b, nI_one, nI_0, i_nlt, i_nle]; done) | (have h9 := i_nle.mpr c1; simp_all [am_b, nI_one, nI_0]; done) | (have h9 := i_nle.mpr c2; simp_all [am_b, nI_one, nI_0]; done), rfl⟩
def rMost (x : Int32) : Int32 := if x = nI 2 ∨ x = nI 3 ∨ x = nI 14 ∨ x = nI 24 ∨ x = nI 27 then nI 7 else if x = nI 12 then nI 2 else if x = nI 21 then nI 5 else -1
set_option maxRecDepth 100000 in
theorem okR_mostA (w : am_W) {d : Nat} (G : am_G) (x : Int32) : am_Ok w jR_mostA d (0, 0) [.inl x] G (fun r G' => r = some (.inl (rMost x)) ∧ G' = G) := by
  refine am_ok_of rfl (Nat.le_of_ble_eq_true rfl) ?_
  show am_Go w jR_mostA d (0, 0) 0 [some (.inl x)] [] G _
  refine go_iload_n dR_mostA_0 rfl rfl ?_
  refine go_iconst (nI 2) (by decide) dR_mostA_1 ?_
  refine go_icmp_eq dR_mostA_2 (tgt := 28) (by decide) (fun c2 => ?_) (fun c2 => ?_)
  · refine go_bipush (nI 7) (by decide) dR_mostA_28 ?_
    refine go_goto dR_mostA_30 (tgt := 54) (by decide) ?_
    refine go_ireturn rfl dR_mostA_54 ?_
    exact ⟨by simp_all [rMost], rfl⟩
  · refine go_iload_n dR_mostA_5 rfl rfl ?_
    refine go_iconst (nI 3) (by decide) dR_mostA_6 ?_
    refine go_icmp_eq dR_mostA_7 (tgt := 28) (by decide) (fun c7 => ?_) (fun c7 => ?_)
    · refine go_bipush (nI 7) (by decide) dR_mostA_28 ?_
      refine go_goto dR_mostA_30 (tgt := 54) (by decide) ?_
      refine go_ireturn rfl dR_mostA_54 ?_
      exact ⟨by simp_all [rMost], rfl⟩
    · refine go_iload_n dR_mostA_10 rfl rfl ?_
      refine go_bipush (nI 14) (by decide) dR_mostA_11 ?_
      refine go_icmp_eq dR_mostA_13 (tgt := 28) (by decide) (fun c13 => ?_) (fun c13 => ?_)
      · refine go_bipush (nI 7) (by decide) dR_mostA_28 ?_
        refine go_goto dR_mostA_30 (tgt := 54) (by decide) ?_
        refine go_ireturn rfl dR_mostA_54 ?_
        exact ⟨by simp_all [rMost], rfl⟩
      · refine go_iload_n dR_mostA_16 rfl rfl ?_
        refine go_bipush (nI 24) (by decide) dR_mostA_17 ?_
        refine go_icmp_eq dR_mostA_19 (tgt := 28) (by decide) (fun c19 => ?_) (fun c19 => ?_)
        · refine go_bipush (nI 7) (by decide) dR_mostA_28 ?_
          refine go_goto dR_mostA_30 (tgt := 54) (by decide) ?_
          refine go_ireturn rfl dR_mostA_54 ?_
          exact ⟨by simp_all [rMost], rfl⟩
        · refine go_iload_n dR_mostA_22 rfl rfl ?_
          refine go_bipush (nI 27) (by decide) dR_mostA_23 ?_
          refine go_icmp_ne dR_mostA_25 (tgt := 33) (by decide) (fun c25 => ?_) (fun c25 => ?_)
          · refine go_iload_n dR_mostA_33 rfl rfl ?_
            refine go_bipush (nI 12) (by decide) dR_mostA_34 ?_
            refine go_icmp_ne dR_mostA_36 (tgt := 43) (by decide) (fun c36 => ?_) (fun c36 => ?_)
            · refine go_iload_n dR_mostA_43 rfl rfl ?_
              refine go_bipush (nI 21) (by decide) dR_mostA_44 ?_
              refine go_icmp_ne dR_mostA_46 (tgt := 53) (by decide) (fun c46 => ?_) (fun c46 => ?_)
              · refine go_iconst (-1) (by decide) dR_mostA_53 ?_
                refine go_ireturn rfl dR_mostA_54 ?_
                exact ⟨by simp_all [rMost], rfl⟩
              · refine go_iconst (nI 5) (by decide) dR_mostA_49 ?_
                refine go_goto dR_mostA_50 (tgt := 54) (by decide) ?_
                refine go_ireturn rfl dR_mostA_54 ?_
                exact ⟨by simp_all [rMost], rfl⟩
            · refine go_iconst (nI 2) (by decide) dR_mostA_39 ?_
              refine go_goto dR_mostA_40 (tgt := 54) (by decide) ?_
              refine go_ireturn rfl dR_mostA_54 ?_
              exact ⟨by simp_all [rMost], rfl⟩
          · refine go_bipush (nI 7) (by decide) dR_mostA_28 ?_
            refine go_goto dR_mostA_30 (tgt := 54) (by decide) ?_
            refine go_ireturn rfl dR_mostA_54 ?_
            exact ⟨by simp_all [rMost], rfl⟩
def rShift (x p n : Int32) : Int32 := if x ≤ p then x else x + n - nI 1
set_option maxRecDepth 100000 in
theorem okR_shifted (w : am_W) {d : Nat} (G : am_G) (x y z : Int32) : am_Ok w jR_shifted d (0, 0) [.inl x, .inl y, .inl z] G (fun r G' => r = some (.inl (rShift x y z)) ∧ G' = G) := by
  refine am_ok_of rfl (Nat.le_of_ble_eq_true rfl) ?_
  show am_Go w jR_shifted d (0, 0) 0 [some (.inl x), some (.inl y), some (.inl z)] [] G _
  refine go_iload_n dR_shifted_0 rfl rfl ?_
  refine go_iload_n dR_shifted_1 rfl rfl ?_
  refine go_icmp_le dR_shifted_2 (tgt := 13) (by decide) (fun c2 => ?_) (fun c2 => ?_)
  · refine go_iload_n dR_shifted_13 rfl rfl ?_
    refine go_ireturn rfl dR_shifted_14 ?_
    exact ⟨by first | (unfold rShift; rw [if_pos c2]; done) | (unfold rShift; rw [if_neg c2]; done), rfl⟩
  · refine go_iload_n dR_shifted_5 rfl rfl ?_
    refine go_iload_n dR_shifted_6 rfl rfl ?_
    refine go_iadd dR_shifted_7 ?_
    refine go_iconst (nI 1) (by decide) dR_shifted_8 ?_
    refine go_isub dR_shifted_9 ?_
    refine go_goto dR_shifted_10 (tgt := 14) (by decide) ?_
    refine go_ireturn rfl dR_shifted_14 ?_
    exact ⟨by first | (unfold rShift; rw [if_pos c2]; done) | (unfold rShift; rw [if_neg c2]; done), rfl⟩
theorem okF_below (w : am_W) {d : Nat} (G : am_G) (x : Int32) (n : Nat) (hn : n < 2 ^ 31) : am_Ok w jF_isBelow d (0, 0) [.inl x, .inl (nI n)] G (fun r G' => r = some (.inl (am_b (bel x n))) ∧ G' = G) := by
  refine (okF_isBelow w G x (nI n)).post (fun r G' h => ⟨?_, h.2⟩)
  rw [h.1]
  congr 3
  rw [Bool.eq_iff_iff, decide_eq_true_iff, bel_lt hn]
theorem okR_in0 (w : am_W) {d : Nat} (G : am_G) (x : Int32) (n : Nat) (hn : n < 2 ^ 31) : am_Ok w jR_in d (0, 0) [.inl x, .inl (nI 0), .inl (nI n)] G (fun r G' => r = some (.inl (am_b (bel x (n + 1)))) ∧ G' = G) := by
  refine (okR_in w G x (nI 0) (nI n)).post (fun r G' h => ⟨?_, h.2⟩)
  rw [h.1, nI_0]
  congr 3
  rw [Bool.eq_iff_iff, decide_eq_true_iff, bel_le hn]
/-- what an operand may be by its table's number; what an instruction may be -/
def okO (most x : Int32) : Bool := decide (most = -1 ∨ most = 99 ∨ (0 ≤ x ∧ x ≤ most))
def insOk (p a b : Int32) : Bool := bel p 28 && (okO (am_sf 0 p.toNatClampNeg) a && okO (am_sf 1 p.toNatClampNeg) b)

set_option maxRecDepth 100000 in
theorem okF_isOperand (w : am_W) {d : Nat} (hd : 1 ≤ d) (G : am_G) (x y : Int32) (hy : y < 100) : am_Ok w jF_isOperand d (0, 0) [.inl x, .inl y] G (fun r G' => r = some (.inl (am_b (okO y x))) ∧ G' = G) := by
  refine am_ok_of rfl (Nat.le_of_ble_eq_true rfl) ?_
  show am_Go w jF_isOperand d (0, 0) 0 [some (.inl x), some (.inl y)] [] G _
  refine go_iload_n dF_isOperand_0 rfl rfl ?_
  refine go_iconst (-1) (by decide) dF_isOperand_1 ?_
  refine go_icmp_eq dF_isOperand_2 (tgt := 21) (by decide) (fun c2 => ?_) (fun c2 => ?_)
  · refine go_iconst (nI 1) (by decide) dF_isOperand_21 ?_
    refine go_goto dF_isOperand_22 (tgt := 26) (by decide) ?_
    refine go_zreturn rfl (by first | exact Or.inl rfl | exact Or.inr rfl | exact am_b_01 _) dF_isOperand_26 ?_
    first | exact ⟨by unfold okO; rw [am_b_dec (Or.inl c2)]; rfl, rfl⟩ | exact ⟨by unfold okO; rw [am_b_dec (Or.inr (Or.inl (show y = (99 : Int32) from c8)))]; rfl, rfl⟩ | exact ⟨by unfold okO; rw [am_b_ndec (fun h => h.elim c2 (fun h => h.elim c8 (fun h => i_z9 hy c18 h)))]; rfl, rfl⟩ | exact ⟨by unfold okO; rw [am_b_dec (Or.inr (Or.inr (i_z8 hy c18)))]; rfl, rfl⟩
  · refine go_iload_n dF_isOperand_5 rfl rfl ?_
    refine go_bipush (nI 99) (by decide) dF_isOperand_6 ?_
    refine go_icmp_eq dF_isOperand_8 (tgt := 21) (by decide) (fun c8 => ?_) (fun c8 => ?_)
    · refine go_iconst (nI 1) (by decide) dF_isOperand_21 ?_
      refine go_goto dF_isOperand_22 (tgt := 26) (by decide) ?_
      refine go_zreturn rfl (by first | exact Or.inl rfl | exact Or.inr rfl | exact am_b_01 _) dF_isOperand_26 ?_
      first | exact ⟨by unfold okO; rw [am_b_dec (Or.inl c2)]; rfl, rfl⟩ | exact ⟨by unfold okO; rw [am_b_dec (Or.inr (Or.inl (show y = (99 : Int32) from c8)))]; rfl, rfl⟩ | exact ⟨by unfold okO; rw [am_b_ndec (fun h => h.elim c2 (fun h => h.elim c8 (fun h => i_z9 hy c18 h)))]; rfl, rfl⟩ | exact ⟨by unfold okO; rw [am_b_dec (Or.inr (Or.inr (i_z8 hy c18)))]; rfl, rfl⟩
    · refine go_iload_n dF_isOperand_11 rfl rfl ?_
      refine go_iload_n dF_isOperand_12 rfl rfl ?_
      refine go_iconst (nI 1) (by decide) dF_isOperand_13 ?_
      refine go_iadd dF_isOperand_14 ?_
      refine go_cS (k' := (0, 0)) dF_isOperand_15 _ csF_51 stF_isBelow rfl (okF_isBelow w G x (y + nI 1)) (by omega) (by decide) (Nat.le_of_ble_eq_true rfl) (fun r G1 hr hn => ?_)
      obtain ⟨rfl, hG⟩ := hr
      rw [hG]
      clear hG hn
      refine go_if_eqB dF_isOperand_18 (tgt := 25) (by decide) (fun c18 => ?_) (fun c18 => ?_)
      · refine go_iconst (nI 0) (by decide) dF_isOperand_25 ?_
        refine go_zreturn rfl (by first | exact Or.inl rfl | exact Or.inr rfl | exact am_b_01 _) dF_isOperand_26 ?_
        first | exact ⟨by unfold okO; rw [am_b_dec (Or.inl c2)]; rfl, rfl⟩ | exact ⟨by unfold okO; rw [am_b_dec (Or.inr (Or.inl (show y = (99 : Int32) from c8)))]; rfl, rfl⟩ | exact ⟨by unfold okO; rw [am_b_ndec (fun h => h.elim c2 (fun h => h.elim c8 (fun h => i_z9 hy c18 h)))]; rfl, rfl⟩ | exact ⟨by unfold okO; rw [am_b_dec (Or.inr (Or.inr (i_z8 hy c18)))]; rfl, rfl⟩
      · refine go_iconst (nI 1) (by decide) dF_isOperand_21 ?_
        refine go_goto dF_isOperand_22 (tgt := 26) (by decide) ?_
        refine go_zreturn rfl (by first | exact Or.inl rfl | exact Or.inr rfl | exact am_b_01 _) dF_isOperand_26 ?_
        first | exact ⟨by unfold okO; rw [am_b_dec (Or.inl c2)]; rfl, rfl⟩ | exact ⟨by unfold okO; rw [am_b_dec (Or.inr (Or.inl (show y = (99 : Int32) from c8)))]; rfl, rfl⟩ | exact ⟨by unfold okO; rw [am_b_ndec (fun h => h.elim c2 (fun h => h.elim c8 (fun h => i_z9 hy c18 h)))]; rfl, rfl⟩ | exact ⟨by unfold okO; rw [am_b_dec (Or.inr (Or.inr (i_z8 hy c18)))]; rfl, rfl⟩
theorem s0_lt : ∀ a, a < 28 → am_sf 0 a < 100 := by decide +kernel
theorem s1_lt : ∀ a, a < 28 → am_sf 1 a < 100 := by decide +kernel
set_option maxRecDepth 100000 in
theorem okF_isInstruction (w : am_W) {d : Nat} (hd : 2 ≤ d) (G : am_G) (x y z : Int32) : am_Ok w jF_isInstruction d (0, 0) [.inl x, .inl y, .inl z] G (fun r G' => r = some (.inl (am_b (insOk x y z))) ∧ G' = G) := by
  refine am_ok_of rfl (Nat.le_of_ble_eq_true rfl) ?_
  show am_Go w jF_isInstruction d (0, 0) 0 [some (.inl x), some (.inl y), some (.inl z)] [] G _
  refine go_iload_n dF_isInstruction_0 rfl rfl ?_
  refine go_bipush (nI 28) (by decide) dF_isInstruction_1 ?_
  refine go_cS (k' := (0, 0)) dF_isInstruction_3 _ csF_51 stF_isBelow rfl (okF_below w G x 28 (by decide)) (by omega) (by decide) (Nat.le_of_ble_eq_true rfl) (fun r G1 hr hn => ?_)
  obtain ⟨rfl, hG⟩ := hr
  rw [hG]
  clear hG hn
  refine go_if_eqB dF_isInstruction_6 (tgt := 37) (by decide) (fun c6 => ?_) (fun c6 => ?_)
  · refine go_iconst (nI 0) (by decide) dF_isInstruction_37 ?_
    refine go_zreturn rfl (by first | exact Or.inl rfl | exact Or.inr rfl | exact am_b_01 _) dF_isInstruction_38 ?_
    first | exact ⟨by unfold insOk; rw [c6]; rfl, rfl⟩ | exact ⟨by unfold insOk; rw [c6, nI_clamp (by omega), c18]; rfl, rfl⟩ | exact ⟨by unfold insOk; rw [c6, nI_clamp (by omega), c18, c30]; rfl, rfl⟩
  · refine go_iload_n dF_isInstruction_9 rfl rfl ?_
    refine go_getstatic (q := 0) (by decide) dF_isInstruction_10 gsF_206 ?_
    refine go_iload_n dF_isInstruction_13 rfl rfl ?_
    obtain ⟨a, ha, rfl⟩ := bel_of c6 (by decide)
    refine go_ialoadS (q := 0) (by decide) (vp_in_nI ha (by decide)) dF_isInstruction_14 ?_
    rw [nI_clamp (by omega)]
    refine go_cS (k' := (0, 0)) dF_isInstruction_15 _ csF_209 stF_isOperand rfl (okF_isOperand (d := 1) w (by decide) G y (am_sf 0 a) (s0_lt a ha)) (by omega) (by decide) (Nat.le_of_ble_eq_true rfl) (fun r G1 hr hn => ?_)
    obtain ⟨rfl, hG⟩ := hr
    rw [hG]
    clear hG hn
    refine go_if_eqB dF_isInstruction_18 (tgt := 37) (by decide) (fun c18 => ?_) (fun c18 => ?_)
    · refine go_iconst (nI 0) (by decide) dF_isInstruction_37 ?_
      refine go_zreturn rfl (by first | exact Or.inl rfl | exact Or.inr rfl | exact am_b_01 _) dF_isInstruction_38 ?_
      first | exact ⟨by unfold insOk; rw [c6]; rfl, rfl⟩ | exact ⟨by unfold insOk; rw [c6, nI_clamp (by omega), c18]; rfl, rfl⟩ | exact ⟨by unfold insOk; rw [c6, nI_clamp (by omega), c18, c30]; rfl, rfl⟩
    · refine go_iload_n dF_isInstruction_21 rfl rfl ?_
      refine go_getstatic (q := 1) (by decide) dF_isInstruction_22 gsF_212 ?_
      refine go_iload_n dF_isInstruction_25 rfl rfl ?_
      refine go_ialoadS (q := 1) (by decide) (vp_in_nI ha (by decide)) dF_isInstruction_26 ?_
      rw [nI_clamp (by omega)]
      refine go_cS (k' := (0, 0)) dF_isInstruction_27 _ csF_209 stF_isOperand rfl (okF_isOperand (d := 1) w (by decide) G z (am_sf 1 a) (s1_lt a ha)) (by omega) (by decide) (Nat.le_of_ble_eq_true rfl) (fun r G1 hr hn => ?_)
      obtain ⟨rfl, hG⟩ := hr
      rw [hG]
      clear hG hn
      refine go_if_eqB dF_isInstruction_30 (tgt := 37) (by decide) (fun c30 => ?_) (fun c30 => ?_)
      · refine go_iconst (nI 0) (by decide) dF_isInstruction_37 ?_
        refine go_zreturn rfl (by first | exact Or.inl rfl | exact Or.inr rfl | exact am_b_01 _) dF_isInstruction_38 ?_
        first | exact ⟨by unfold insOk; rw [c6]; rfl, rfl⟩ | exact ⟨by unfold insOk; rw [c6, nI_clamp (by omega), c18]; rfl, rfl⟩ | exact ⟨by unfold insOk; rw [c6, nI_clamp (by omega), c18, c30]; rfl, rfl⟩
      · refine go_iconst (nI 1) (by decide) dF_isInstruction_33 ?_
        refine go_goto dF_isInstruction_34 (tgt := 38) (by decide) ?_
        refine go_zreturn rfl (by first | exact Or.inl rfl | exact Or.inr rfl | exact am_b_01 _) dF_isInstruction_38 ?_
        first | exact ⟨by unfold insOk; rw [c6]; rfl, rfl⟩ | exact ⟨by unfold insOk; rw [c6, nI_clamp (by omega), c18]; rfl, rfl⟩ | exact ⟨by unfold insOk; rw [c6, nI_clamp (by omega), c18, c30]; rfl, rfl⟩
theorem rg_j : ∀ a, a < 28 → (decide (nI a = nI 11 ∨ nI a = nI 12 ∨ nI a = nI 17 ∨ nI a = nI 23) = decide (am_sf 1 a = 59)) := by decide +kernel
theorem rg_b : ∀ a, a < 28 → (am_sf 1 a = 59 ∨ am_sf 1 a = -1 ∨ am_sf 1 a = 99) := by decide +kernel
theorem rg_a : ∀ a, a < 28 → ((rMost (nI a) = -1 ∧ (am_sf 0 a = -1 ∨ am_sf 0 a = 99)) ∨ (rMost (nI a) = am_sf 0 a ∧ 0 ≤ am_sf 0 a ∧ am_sf 0 a ≤ 7)) := by decide +kernel
theorem bel_60 {x : Int32} : bel x 60 = decide (0 ≤ x ∧ x ≤ 59) := by
  rw [Bool.eq_iff_iff, decide_eq_true_iff]
  exact bel_le (n := 59) (by decide)

section Rg
variable {a : Nat} {y z : Int32}
theorem rg_ins (ha : a < 28) : insOk (nI a) y z = (okO (am_sf 0 a) y && okO (am_sf 1 a) z) := by
  unfold insOk
  rw [bel_nI (by omega), nI_clamp (by omega)]
  simp [ha]
theorem rg_bz (ha : a < 28) : okO (am_sf 1 a) z = (!decide (am_sf 1 a = 59) || bel z 60) := by
  rw [bel_60]
  unfold okO
  rcases rg_b a ha with h | h | h <;> rw [h] <;> simp
theorem rg_ay (ha : a < 28) : okO (am_sf 0 a) y = (decide (rMost (nI a) < 0) || decide (nI 0 ≤ y ∧ y ≤ rMost (nI a))) := by
  unfold okO
  rw [nI_0]
  rcases rg_a a ha with ⟨h1, h2⟩ | ⟨h1, h2, h3⟩
  · rw [h1]
    have e : decide ((-1 : Int32) < 0) = true := by decide
    rw [e, Bool.true_or]
    rcases h2 with h | h <;> rw [h] <;> simp
  · rw [h1]
    have e1 : ¬ am_sf 0 a = -1 := fun h => by rw [h] at h2; exact absurd h2 (by decide)
    have e2 : ¬ am_sf 0 a = 99 := fun h => by rw [h] at h3; exact absurd h3 (by decide)
    have e3 : ¬ am_sf 0 a < 0 := i_nlt.mpr h2
    simp [e1, e2, e3]
theorem rg_1 (ha : a < 28) (_ : bel (nI a) 28 = true) (h1 : decide (am_sf 1 a = 59) = true) (h2 : bel z 60 = false) : am_b (insOk (nI a) y z) = 0 := by
  rw [rg_ins ha, rg_bz ha, h1, h2]; simp [am_b]
theorem rg_2 (ha : a < 28) (_ : bel (nI a) 28 = true) (h1 : decide (am_sf 1 a = 59) = false) (h3 : rMost (nI a) < 0) : am_b (insOk (nI a) y z) = 1 := by
  rw [rg_ins ha, rg_bz ha, rg_ay ha, h1]; simp [am_b, h3]
theorem rg_3 (ha : a < 28) (_ : bel (nI a) 28 = true) (h1 : decide (am_sf 1 a = 59) = true) (h2 : bel z 60 = true) (h3 : rMost (nI a) < 0) : am_b (insOk (nI a) y z) = 1 := by
  rw [rg_ins ha, rg_bz ha, rg_ay ha, h1, h2]; simp [am_b, h3]
theorem rg_4 (ha : a < 28) (_ : bel (nI a) 28 = true) (h1 : decide (am_sf 1 a = 59) = false) (h3 : ¬ rMost (nI a) < 0) {c : Bool} (h4 : decide (nI 0 ≤ y ∧ y ≤ rMost (nI a)) = c) : am_b (insOk (nI a) y z) = am_b c := by
  rw [rg_ins ha, rg_bz ha, rg_ay ha, h1, h4]; simp [am_b, h3]
theorem rg_5 (ha : a < 28) (_ : bel (nI a) 28 = true) (h1 : decide (am_sf 1 a = 59) = true) (h2 : bel z 60 = true) (h3 : ¬ rMost (nI a) < 0) {c : Bool} (h4 : decide (nI 0 ≤ y ∧ y ≤ rMost (nI a)) = c) : am_b (insOk (nI a) y z) = am_b c := by
  rw [rg_ins ha, rg_bz ha, rg_ay ha, h1, h2, h4]; simp [am_b, h3]
end Rg
set_option maxRecDepth 100000 in
theorem okR_isGood (w : am_W) {d : Nat} (hd : 1 ≤ d) (G : am_G) (x y z : Int32) : am_Ok w jR_isGood d (0, 0) [.inl x, .inl y, .inl z] G (fun r G' => r = some (.inl (am_b (insOk x y z))) ∧ G' = G) := by
  refine am_ok_of rfl (Nat.le_of_ble_eq_true rfl) ?_
  show am_Go w jR_isGood d (0, 0) 0 [some (.inl x), some (.inl y), some (.inl z), none] [] G _
  refine go_iload_n dR_isGood_0 rfl rfl ?_
  refine go_iconst (nI 0) (by decide) dR_isGood_1 ?_
  refine go_bipush (nI 27) (by decide) dR_isGood_2 ?_
  refine go_cS (k' := (0, 0)) dR_isGood_4 _ csR_123 stR_in rfl (okR_in0 (d := 0) w G x 27 (by decide)) (by omega) (by decide) (Nat.le_of_ble_eq_true rfl) (fun r G1 hr hn => ?_)
  obtain ⟨rfl, hG⟩ := hr
  rw [hG]
  clear hG hn
  refine go_if_eqB dR_isGood_7 (tgt := 27) (by decide) (fun c7 => ?_) (fun c7 => ?_)
  · refine go_iconst (nI 0) (by decide) dR_isGood_27 ?_
    refine go_zreturn rfl (by first | exact Or.inl rfl | exact Or.inr rfl | exact am_b_01 _) dR_isGood_28 ?_
    first | exact ⟨by unfold insOk; rw [c7]; rfl, rfl⟩ | exact ⟨by rw [rg_1 ha c7 c14 c24]; rfl, rfl⟩ | exact ⟨by rw [rg_2 ha c7 c14 c35]; rfl, rfl⟩ | exact ⟨by rw [rg_3 ha c7 c14 c24 c35]; rfl, rfl⟩ | exact ⟨by rw [rg_4 ha c7 c14 c35 c44]; rfl, rfl⟩ | exact ⟨by rw [rg_5 ha c7 c14 c24 c35 c44]; rfl, rfl⟩
  · obtain ⟨a, ha, rfl⟩ := bel_of c7 (by decide)
    refine go_iload_n dR_isGood_10 rfl rfl ?_
    refine go_cS (k' := (0, 0)) dR_isGood_11 _ csR_139 stR_isJump rfl (okR_isJump (d := 0) w G (nI a)) (by omega) (by decide) (Nat.le_of_ble_eq_true rfl) (fun r G1 hr hn => ?_)
    obtain ⟨rfl, hG⟩ := hr
    rw [hG]
    clear hG hn
    rw [rg_j a ha]
    refine go_if_eqB dR_isGood_14 (tgt := 29) (by decide) (fun c14 => ?_) (fun c14 => ?_)
    · refine go_iload_n dR_isGood_29 rfl rfl ?_
      refine go_cS (k' := (0, 0)) dR_isGood_30 _ csR_143 stR_mostA rfl (okR_mostA (d := 0) w G (nI a)) (by omega) (by decide) (Nat.le_of_ble_eq_true rfl) (fun r G1 hr hn => ?_)
      obtain ⟨rfl, hG⟩ := hr
      rw [hG]
      clear hG hn
      refine go_istore_n dR_isGood_33 rfl (Nat.le_of_ble_eq_true rfl) ?_
      refine go_iload_n dR_isGood_34 rfl rfl ?_
      refine go_if_lt dR_isGood_35 (tgt := 47) (by decide) (fun c35 => ?_) (fun c35 => ?_)
      · refine go_iconst (nI 1) (by decide) dR_isGood_47 ?_
        refine go_goto dR_isGood_48 (tgt := 52) (by decide) ?_
        refine go_zreturn rfl (by first | exact Or.inl rfl | exact Or.inr rfl | exact am_b_01 _) dR_isGood_52 ?_
        first | exact ⟨by unfold insOk; rw [c7]; rfl, rfl⟩ | exact ⟨by rw [rg_1 ha c7 c14 c24]; rfl, rfl⟩ | exact ⟨by rw [rg_2 ha c7 c14 c35]; rfl, rfl⟩ | exact ⟨by rw [rg_3 ha c7 c14 c24 c35]; rfl, rfl⟩ | exact ⟨by rw [rg_4 ha c7 c14 c35 c44]; rfl, rfl⟩ | exact ⟨by rw [rg_5 ha c7 c14 c24 c35 c44]; rfl, rfl⟩
      · refine go_iload_n dR_isGood_38 rfl rfl ?_
        refine go_iconst (nI 0) (by decide) dR_isGood_39 ?_
        refine go_iload_n dR_isGood_40 rfl rfl ?_
        refine go_cS (k' := (0, 0)) dR_isGood_41 _ csR_123 stR_in rfl (okR_in (d := 0) w G y (nI 0) (rMost (nI a))) (by omega) (by decide) (Nat.le_of_ble_eq_true rfl) (fun r G1 hr hn => ?_)
        obtain ⟨rfl, hG⟩ := hr
        rw [hG]
        clear hG hn
        refine go_if_eqB dR_isGood_44 (tgt := 51) (by decide) (fun c44 => ?_) (fun c44 => ?_)
        · refine go_iconst (nI 0) (by decide) dR_isGood_51 ?_
          refine go_zreturn rfl (by first | exact Or.inl rfl | exact Or.inr rfl | exact am_b_01 _) dR_isGood_52 ?_
          first | exact ⟨by unfold insOk; rw [c7]; rfl, rfl⟩ | exact ⟨by rw [rg_1 ha c7 c14 c24]; rfl, rfl⟩ | exact ⟨by rw [rg_2 ha c7 c14 c35]; rfl, rfl⟩ | exact ⟨by rw [rg_3 ha c7 c14 c24 c35]; rfl, rfl⟩ | exact ⟨by rw [rg_4 ha c7 c14 c35 c44]; rfl, rfl⟩ | exact ⟨by rw [rg_5 ha c7 c14 c24 c35 c44]; rfl, rfl⟩
        · refine go_iconst (nI 1) (by decide) dR_isGood_47 ?_
          refine go_goto dR_isGood_48 (tgt := 52) (by decide) ?_
          refine go_zreturn rfl (by first | exact Or.inl rfl | exact Or.inr rfl | exact am_b_01 _) dR_isGood_52 ?_
          first | exact ⟨by unfold insOk; rw [c7]; rfl, rfl⟩ | exact ⟨by rw [rg_1 ha c7 c14 c24]; rfl, rfl⟩ | exact ⟨by rw [rg_2 ha c7 c14 c35]; rfl, rfl⟩ | exact ⟨by rw [rg_3 ha c7 c14 c24 c35]; rfl, rfl⟩ | exact ⟨by rw [rg_4 ha c7 c14 c35 c44]; rfl, rfl⟩ | exact ⟨by rw [rg_5 ha c7 c14 c24 c35 c44]; rfl, rfl⟩
    · refine go_iload_n dR_isGood_17 rfl rfl ?_
      refine go_iconst (nI 0) (by decide) dR_isGood_18 ?_
      refine go_bipush (nI 59) (by decide) dR_isGood_19 ?_
      refine go_cS (k' := (0, 0)) dR_isGood_21 _ csR_123 stR_in rfl (okR_in0 (d := 0) w G z 59 (by decide)) (by omega) (by decide) (Nat.le_of_ble_eq_true rfl) (fun r G1 hr hn => ?_)
      obtain ⟨rfl, hG⟩ := hr
      rw [hG]
      clear hG hn
      refine go_if_neB dR_isGood_24 (tgt := 29) (by decide) (fun c24 => ?_) (fun c24 => ?_)
      · refine go_iload_n dR_isGood_29 rfl rfl ?_
        refine go_cS (k' := (0, 0)) dR_isGood_30 _ csR_143 stR_mostA rfl (okR_mostA (d := 0) w G (nI a)) (by omega) (by decide) (Nat.le_of_ble_eq_true rfl) (fun r G1 hr hn => ?_)
        obtain ⟨rfl, hG⟩ := hr
        rw [hG]
        clear hG hn
        refine go_istore_n dR_isGood_33 rfl (Nat.le_of_ble_eq_true rfl) ?_
        refine go_iload_n dR_isGood_34 rfl rfl ?_
        refine go_if_lt dR_isGood_35 (tgt := 47) (by decide) (fun c35 => ?_) (fun c35 => ?_)
        · refine go_iconst (nI 1) (by decide) dR_isGood_47 ?_
          refine go_goto dR_isGood_48 (tgt := 52) (by decide) ?_
          refine go_zreturn rfl (by first | exact Or.inl rfl | exact Or.inr rfl | exact am_b_01 _) dR_isGood_52 ?_
          first | exact ⟨by unfold insOk; rw [c7]; rfl, rfl⟩ | exact ⟨by rw [rg_1 ha c7 c14 c24]; rfl, rfl⟩ | exact ⟨by rw [rg_2 ha c7 c14 c35]; rfl, rfl⟩ | exact ⟨by rw [rg_3 ha c7 c14 c24 c35]; rfl, rfl⟩ | exact ⟨by rw [rg_4 ha c7 c14 c35 c44]; rfl, rfl⟩ | exact ⟨by rw [rg_5 ha c7 c14 c24 c35 c44]; rfl, rfl⟩
        · refine go_iload_n dR_isGood_38 rfl rfl ?_
          refine go_iconst (nI 0) (by decide) dR_isGood_39 ?_
          refine go_iload_n dR_isGood_40 rfl rfl ?_
          refine go_cS (k' := (0, 0)) dR_isGood_41 _ csR_123 stR_in rfl (okR_in (d := 0) w G y (nI 0) (rMost (nI a))) (by omega) (by decide) (Nat.le_of_ble_eq_true rfl) (fun r G1 hr hn => ?_)
          obtain ⟨rfl, hG⟩ := hr
          rw [hG]
          clear hG hn
          refine go_if_eqB dR_isGood_44 (tgt := 51) (by decide) (fun c44 => ?_) (fun c44 => ?_)
          · refine go_iconst (nI 0) (by decide) dR_isGood_51 ?_
            refine go_zreturn rfl (by first | exact Or.inl rfl | exact Or.inr rfl | exact am_b_01 _) dR_isGood_52 ?_
            first | exact ⟨by unfold insOk; rw [c7]; rfl, rfl⟩ | exact ⟨by rw [rg_1 ha c7 c14 c24]; rfl, rfl⟩ | exact ⟨by rw [rg_2 ha c7 c14 c35]; rfl, rfl⟩ | exact ⟨by rw [rg_3 ha c7 c14 c24 c35]; rfl, rfl⟩ | exact ⟨by rw [rg_4 ha c7 c14 c35 c44]; rfl, rfl⟩ | exact ⟨by rw [rg_5 ha c7 c14 c24 c35 c44]; rfl, rfl⟩
          · refine go_iconst (nI 1) (by decide) dR_isGood_47 ?_
            refine go_goto dR_isGood_48 (tgt := 52) (by decide) ?_
            refine go_zreturn rfl (by first | exact Or.inl rfl | exact Or.inr rfl | exact am_b_01 _) dR_isGood_52 ?_
            first | exact ⟨by unfold insOk; rw [c7]; rfl, rfl⟩ | exact ⟨by rw [rg_1 ha c7 c14 c24]; rfl, rfl⟩ | exact ⟨by rw [rg_2 ha c7 c14 c35]; rfl, rfl⟩ | exact ⟨by rw [rg_3 ha c7 c14 c24 c35]; rfl, rfl⟩ | exact ⟨by rw [rg_4 ha c7 c14 c35 c44]; rfl, rfl⟩ | exact ⟨by rw [rg_5 ha c7 c14 c24 c35 c44]; rfl, rfl⟩
      · refine go_iconst (nI 0) (by decide) dR_isGood_27 ?_
        refine go_zreturn rfl (by first | exact Or.inl rfl | exact Or.inr rfl | exact am_b_01 _) dR_isGood_28 ?_
        first | exact ⟨by unfold insOk; rw [c7]; rfl, rfl⟩ | exact ⟨by rw [rg_1 ha c7 c14 c24]; rfl, rfl⟩ | exact ⟨by rw [rg_2 ha c7 c14 c35]; rfl, rfl⟩ | exact ⟨by rw [rg_3 ha c7 c14 c24 c35]; rfl, rfl⟩ | exact ⟨by rw [rg_4 ha c7 c14 c35 c44]; rfl, rfl⟩ | exact ⟨by rw [rg_5 ha c7 c14 c24 c35 c44]; rfl, rfl⟩
