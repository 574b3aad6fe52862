theorem go_eqL {w : am_W} {j d : Nat} {k : Nat × Nat} {pc : Nat} {L L' : List (Option am_V)} {st : List am_V} {G : am_G} {P : Option am_V → am_G → Prop} (e : L = L') (kk : am_Go w j d k pc L' st G P) : am_Go w j d k pc L st G P := by rw [e]; exact kk
def hd4 (G : am_G) (q : Nat) (M : mT) : Prop := G.2.1 167 q = nI (mN M) ∧ G.2.1 169 q = nI (mR M) ∧ G.2.1 168 q = nI (mG M) ∧ G.2.1 174 q = am_b (mL M)
def cd3 (G : am_G) (q : Nat) (M : mT) (k : Nat) : Prop := ∀ i, i < k → G.2.1 164 (60 * q + i) = nI (mO M i) ∧ G.2.1 165 (60 * q + i) = mA M i ∧ G.2.1 166 (60 * q + i) = mB M i
def rw4 (G : am_G) (q : Nat) (M : mT) (k : Nat) : Prop := ∀ i, i < k → G.2.1 170 (8 * q + i) = nI (mF M i) ∧ G.2.1 171 (8 * q + i) = nI (mE M i) ∧ G.2.1 172 (8 * q + i) = nI (mP M i) ∧ G.2.1 173 (8 * q + i) = nI (mY M i)
theorem R_setF_hd {G : am_G} {q q' i : Nat} {p a b : Int32} {M : mT} (h : hd4 G q M) : hd4 (R_setF G q' i p a b) q M := by
  unfold hd4 R_setF
  rw [wi_I (by decide), wi_I (by decide), wi_I (by decide), wi_I (by decide), wi_I (by decide), wi_I (by decide), wi_I (by decide), wi_I (by decide), wi_I (by decide), wi_I (by decide), wi_I (by decide), wi_I (by decide)]
  exact h
theorem R_rowF_hd {G : am_G} {q q' i : Nat} {f t a y : Int32} {M : mT} (h : hd4 G q M) : hd4 (R_rowF G q' i f t a y) q M := by
  unfold hd4 R_rowF
  simp (disch := decide) only [wi_I]
  exact h
theorem R_setF_cd {G : am_G} {q k : Nat} {M : mT} (h : cd3 G q M k) : cd3 (R_setF G q k (nI (mO M k)) (mA M k) (mB M k)) q M (k + 1) := fun i hi => by
  have e1 : (R_setF G q k (nI (mO M k)) (mA M k) (mB M k)).2.1 164 (60 * q + i) = if i = k then nI (mO M k) else G.2.1 164 (60 * q + i) := by
    unfold R_setF; rw [wi_I (by decide), wi_I (by decide), wi_if]
  have e2 : (R_setF G q k (nI (mO M k)) (mA M k) (mB M k)).2.1 165 (60 * q + i) = if i = k then mA M k else G.2.1 165 (60 * q + i) := by
    unfold R_setF; rw [wi_I (by decide), wi_if, wi_I (by decide)]
  have e3 : (R_setF G q k (nI (mO M k)) (mA M k) (mB M k)).2.1 166 (60 * q + i) = if i = k then mB M k else G.2.1 166 (60 * q + i) := by
    unfold R_setF; rw [wi_if, wi_I (by decide), wi_I (by decide)]
  rw [e1, e2, e3]
  by_cases e : i = k
  · subst e; simp only [if_true]; exact ⟨trivial, trivial, trivial⟩
  · rw [if_neg e, if_neg e, if_neg e]; exact h i (by omega)
theorem R_rowF_cd {G : am_G} {q q' k i : Nat} {f t a y : Int32} {M : mT} (h : cd3 G q M k) : cd3 (R_rowF G q' i f t a y) q M k := fun x hx => by
  unfold R_rowF
  simp (disch := decide) only [wi_I]
  exact h x hx
theorem R_rowF_rw {G : am_G} {q k : Nat} {M : mT} (h : rw4 G q M k) : rw4 (R_rowF G q k (nI (mF M k)) (nI (mE M k)) (nI (mP M k)) (nI (mY M k))) q M (k + 1) := fun i hi => by
  have e1 : (R_rowF G q k (nI (mF M k)) (nI (mE M k)) (nI (mP M k)) (nI (mY M k))).2.1 170 (8 * q + i) = if i = k then nI (mF M k) else G.2.1 170 (8 * q + i) := by
    unfold R_rowF; rw [wi_I (by decide), wi_I (by decide), wi_I (by decide), wi_if]
  have e2 : (R_rowF G q k (nI (mF M k)) (nI (mE M k)) (nI (mP M k)) (nI (mY M k))).2.1 171 (8 * q + i) = if i = k then nI (mE M k) else G.2.1 171 (8 * q + i) := by
    unfold R_rowF; rw [wi_I (by decide), wi_I (by decide), wi_if, wi_I (by decide)]
  have e3 : (R_rowF G q k (nI (mF M k)) (nI (mE M k)) (nI (mP M k)) (nI (mY M k))).2.1 172 (8 * q + i) = if i = k then nI (mP M k) else G.2.1 172 (8 * q + i) := by
    unfold R_rowF; rw [wi_I (by decide), wi_if, wi_I (by decide), wi_I (by decide)]
  have e4 : (R_rowF G q k (nI (mF M k)) (nI (mE M k)) (nI (mP M k)) (nI (mY M k))).2.1 173 (8 * q + i) = if i = k then nI (mY M k) else G.2.1 173 (8 * q + i) := by
    unfold R_rowF; rw [wi_if, wi_I (by decide), wi_I (by decide), wi_I (by decide)]
  rw [e1, e2, e3, e4]
  by_cases e : i = k
  · subst e; simp only [if_true]; exact ⟨trivial, trivial, trivial, trivial⟩
  · rw [if_neg e, if_neg e, if_neg e, if_neg e]; exact h i (by omega)
/-- in the midst of method m's copying: k instructions, r rows -/
def brI (G0 G : am_G) (m : Nat) (M : mT) (k r : Nat) : Prop := oQ (6 + m) G0 G ∧ hd4 G (6 + m) M ∧ cd3 G (6 + m) M k ∧ rw4 G (6 + m) M r
set_option maxRecDepth 100000 in
theorem R_br1 (w : am_W) {d : Nat} (hd : 1 ≤ d) {P : Option am_V → am_G → Prop} (G0 : am_G) (hS0 : St0 G0) (n m : Nat) (hm : m < 6) (M : mT) (hn6 : mN M ≤ 60) (hr8 : mR M ≤ 8) (h0 : rM G0 m M) (K : ∀ G, brI G0 G m M (mN M) 0 → am_Go w jR_branch d (0, 0) 130 [some (.inr (some 163)), some (.inl (nI n)), some (.inl (nI m)), some (.inl (nI (mN M)))] [] G P) :
    ∀ (r k : Nat) (G : am_G), k + r = mN M → brI G0 G m M (k) 0 → am_Go w jR_branch d (0, 0) 72 [some (.inr (some 163)), some (.inl (nI n)), some (.inl (nI m)), some (.inl (nI k))] [] G P := by
  intro r
  induction r with
  | zero =>
    intro k G hk hI
    have hS := hI.1.St hS0
    have hm0 := h0.ag hn6 hr8 (hI.1.2.2.2 m (by omega))
    obtain ⟨⟨hN, hR, hA, hL⟩, hc, hrr⟩ := hm0
    refine go_iload_n dR_branch_72 rfl rfl ?_
    refine go_aload_n dR_branch_73 rfl rfl ?_
    refine go_getO (a := 167) dR_branch_74 flR_19 rfl (hS.s sh_163) (hS.r rt_many) ?_
    refine go_iload_n dR_branch_77 rfl rfl ?_
    first | refine go_ialV (hS.s sh_167) (by omega) (by decide) (by assumption) dR_branch_78 ?_ | refine go_ialoadN (hS.s sh_167) (by omega) (by decide) dR_branch_78 ?_
    refine go_icmp_geN (by omega) (by omega) dR_branch_79 (tgt := 130) (by decide) (fun c => ?_) (fun c => absurd c (by omega))
    have e : k = mN M := by omega
    subst e
    exact K G hI
  | succ r ih =>
    intro k G hk hI
    have hS := hI.1.St hS0
    have hm0 := h0.ag hn6 hr8 (hI.1.2.2.2 m (by omega))
    obtain ⟨⟨hN, hR, hA, hL⟩, hc, hrr⟩ := hm0
    obtain ⟨h1, h2, h3⟩ := hc k (by omega)
    refine go_iload_n dR_branch_72 rfl rfl ?_
    refine go_aload_n dR_branch_73 rfl rfl ?_
    refine go_getO (a := 167) dR_branch_74 flR_19 rfl (hS.s sh_163) (hS.r rt_many) ?_
    refine go_iload_n dR_branch_77 rfl rfl ?_
    first | refine go_ialV (hS.s sh_167) (by omega) (by decide) (by assumption) dR_branch_78 ?_ | refine go_ialoadN (hS.s sh_167) (by omega) (by decide) dR_branch_78 ?_
    refine go_icmp_geN (by omega) (by omega) dR_branch_79 (tgt := 130) (by decide) (fun c => absurd c (by omega)) (fun c => ?_)
    refine go_aload_n dR_branch_82 rfl rfl ?_
    refine go_bipush (nI 6) (by decide) dR_branch_83 ?_
    refine go_iload_n dR_branch_85 rfl rfl ?_
    first | refine go_iaddN dR_branch_86 ?_ | refine go_iadd dR_branch_86 ?_
    refine go_iload_n dR_branch_87 rfl rfl ?_
    refine go_aload_n dR_branch_88 rfl rfl ?_
    refine go_getO (a := 164) dR_branch_89 flR_7 rfl (hS.s sh_163) (hS.r rt_op) ?_
    refine go_bipush (nI 60) (by decide) dR_branch_92 ?_
    refine go_iload_n dR_branch_94 rfl rfl ?_
    first | refine go_imulN dR_branch_95 ?_ | refine go_imul dR_branch_95 ?_
    refine go_iload_n dR_branch_96 rfl rfl ?_
    first | refine go_iaddN dR_branch_97 ?_ | refine go_iadd dR_branch_97 ?_
    first | refine go_ialV (hS.s sh_164) (by omega) (by decide) (by assumption) dR_branch_98 ?_ | refine go_ialoadN (hS.s sh_164) (by omega) (by decide) dR_branch_98 ?_
    refine go_aload_n dR_branch_99 rfl rfl ?_
    refine go_getO (a := 165) dR_branch_100 flR_13 rfl (hS.s sh_163) (hS.r rt_one) ?_
    refine go_bipush (nI 60) (by decide) dR_branch_103 ?_
    refine go_iload_n dR_branch_105 rfl rfl ?_
    first | refine go_imulN dR_branch_106 ?_ | refine go_imul dR_branch_106 ?_
    refine go_iload_n dR_branch_107 rfl rfl ?_
    first | refine go_iaddN dR_branch_108 ?_ | refine go_iadd dR_branch_108 ?_
    first | refine go_ialV (hS.s sh_165) (by omega) (by decide) (by assumption) dR_branch_109 ?_ | refine go_ialoadN (hS.s sh_165) (by omega) (by decide) dR_branch_109 ?_
    refine go_aload_n dR_branch_110 rfl rfl ?_
    refine go_getO (a := 166) dR_branch_111 flR_16 rfl (hS.s sh_163) (hS.r rt_two) ?_
    refine go_bipush (nI 60) (by decide) dR_branch_114 ?_
    refine go_iload_n dR_branch_116 rfl rfl ?_
    first | refine go_imulN dR_branch_117 ?_ | refine go_imul dR_branch_117 ?_
    refine go_iload_n dR_branch_118 rfl rfl ?_
    first | refine go_iaddN dR_branch_119 ?_ | refine go_iadd dR_branch_119 ?_
    first | refine go_ialV (hS.s sh_166) (by omega) (by decide) (by assumption) dR_branch_120 ?_ | refine go_ialoadN (hS.s sh_166) (by omega) (by decide) dR_branch_120 ?_
    refine go_cV (k' := (0, 0)) dR_branch_121 _ csR_127 (hS.s sh_163) rfl imR_set seR_set rfl (okR_set (d := 0) w G (6 + m) k (nI (mO M k)) (mA M k) (mB M k) (by omega) (by omega) hS) (by omega) (by decide) (Nat.le_of_ble_eq_true rfl) (fun r1 G1 hr hn => ?_)
    obtain ⟨rfl, hG⟩ := hr
    first | refine go_inc dR_branch_124 rfl ?_ | refine go_iinc dR_branch_124 rfl ?_
    refine go_goto dR_branch_127 (tgt := 72) (by decide) ?_
    exact ih (k + 1) G1 (by omega) (by rw [hG]; exact ⟨hI.1.tr (R_setF_o (by omega)), R_setF_hd hI.2.1, R_setF_cd hI.2.2.1, fun i hi => absurd hi (Nat.not_lt_zero i)⟩)
set_option maxRecDepth 100000 in
theorem R_br2 (w : am_W) {d : Nat} (hd : 1 ≤ d) {P : Option am_V → am_G → Prop} (G0 : am_G) (hS0 : St0 G0) (n m : Nat) (hm : m < 6) (M : mT) (hn6 : mN M ≤ 60) (hr8 : mR M ≤ 8) (h0 : rM G0 m M) (K : ∀ G, brI G0 G m M (mN M) (mR M) → am_Go w jR_branch d (0, 0) 201 [some (.inr (some 163)), some (.inl (nI n)), some (.inl (nI m)), some (.inl (nI (mR M)))] [] G P) :
    ∀ (r k : Nat) (G : am_G), k + r = mR M → brI G0 G m M (mN M) (k) → am_Go w jR_branch d (0, 0) 132 [some (.inr (some 163)), some (.inl (nI n)), some (.inl (nI m)), some (.inl (nI k))] [] G P := by
  intro r
  induction r with
  | zero =>
    intro k G hk hI
    have hS := hI.1.St hS0
    have hm0 := h0.ag hn6 hr8 (hI.1.2.2.2 m (by omega))
    obtain ⟨⟨hN, hR, hA, hL⟩, hc, hrr⟩ := hm0
    refine go_iload_n dR_branch_132 rfl rfl ?_
    refine go_aload_n dR_branch_133 rfl rfl ?_
    refine go_getO (a := 169) dR_branch_134 flR_25 rfl (hS.s sh_163) (hS.r rt_rows) ?_
    refine go_iload_n dR_branch_137 rfl rfl ?_
    first | refine go_ialV (hS.s sh_169) (by omega) (by decide) (by assumption) dR_branch_138 ?_ | refine go_ialoadN (hS.s sh_169) (by omega) (by decide) dR_branch_138 ?_
    refine go_icmp_geN (by omega) (by omega) dR_branch_139 (tgt := 201) (by decide) (fun c => ?_) (fun c => absurd c (by omega))
    have e : k = mR M := by omega
    subst e
    exact K G hI
  | succ r ih =>
    intro k G hk hI
    have hS := hI.1.St hS0
    have hm0 := h0.ag hn6 hr8 (hI.1.2.2.2 m (by omega))
    obtain ⟨⟨hN, hR, hA, hL⟩, hc, hrr⟩ := hm0
    obtain ⟨h1, h2, h3, h4⟩ := hrr k (by omega)
    refine go_iload_n dR_branch_132 rfl rfl ?_
    refine go_aload_n dR_branch_133 rfl rfl ?_
    refine go_getO (a := 169) dR_branch_134 flR_25 rfl (hS.s sh_163) (hS.r rt_rows) ?_
    refine go_iload_n dR_branch_137 rfl rfl ?_
    first | refine go_ialV (hS.s sh_169) (by omega) (by decide) (by assumption) dR_branch_138 ?_ | refine go_ialoadN (hS.s sh_169) (by omega) (by decide) dR_branch_138 ?_
    refine go_icmp_geN (by omega) (by omega) dR_branch_139 (tgt := 201) (by decide) (fun c => absurd c (by omega)) (fun c => ?_)
    refine go_aload_n dR_branch_142 rfl rfl ?_
    refine go_bipush (nI 6) (by decide) dR_branch_143 ?_
    refine go_iload_n dR_branch_145 rfl rfl ?_
    first | refine go_iaddN dR_branch_146 ?_ | refine go_iadd dR_branch_146 ?_
    refine go_iload_n dR_branch_147 rfl rfl ?_
    refine go_aload_n dR_branch_148 rfl rfl ?_
    refine go_getO (a := 170) dR_branch_149 flR_28 rfl (hS.s sh_163) (hS.r rt_from) ?_
    refine go_bipush (nI 8) (by decide) dR_branch_152 ?_
    refine go_iload_n dR_branch_154 rfl rfl ?_
    first | refine go_imulN dR_branch_155 ?_ | refine go_imul dR_branch_155 ?_
    refine go_iload_n dR_branch_156 rfl rfl ?_
    first | refine go_iaddN dR_branch_157 ?_ | refine go_iadd dR_branch_157 ?_
    first | refine go_ialV (hS.s sh_170) (by omega) (by decide) (by assumption) dR_branch_158 ?_ | refine go_ialoadN (hS.s sh_170) (by omega) (by decide) dR_branch_158 ?_
    refine go_aload_n dR_branch_159 rfl rfl ?_
    refine go_getO (a := 171) dR_branch_160 flR_31 rfl (hS.s sh_163) (hS.r rt_to) ?_
    refine go_bipush (nI 8) (by decide) dR_branch_163 ?_
    refine go_iload_n dR_branch_165 rfl rfl ?_
    first | refine go_imulN dR_branch_166 ?_ | refine go_imul dR_branch_166 ?_
    refine go_iload_n dR_branch_167 rfl rfl ?_
    first | refine go_iaddN dR_branch_168 ?_ | refine go_iadd dR_branch_168 ?_
    first | refine go_ialV (hS.s sh_171) (by omega) (by decide) (by assumption) dR_branch_169 ?_ | refine go_ialoadN (hS.s sh_171) (by omega) (by decide) dR_branch_169 ?_
    refine go_aload_n dR_branch_170 rfl rfl ?_
    refine go_getO (a := 172) dR_branch_171 flR_34 rfl (hS.s sh_163) (hS.r rt_at) ?_
    refine go_bipush (nI 8) (by decide) dR_branch_174 ?_
    refine go_iload_n dR_branch_176 rfl rfl ?_
    first | refine go_imulN dR_branch_177 ?_ | refine go_imul dR_branch_177 ?_
    refine go_iload_n dR_branch_178 rfl rfl ?_
    first | refine go_iaddN dR_branch_179 ?_ | refine go_iadd dR_branch_179 ?_
    first | refine go_ialV (hS.s sh_172) (by omega) (by decide) (by assumption) dR_branch_180 ?_ | refine go_ialoadN (hS.s sh_172) (by omega) (by decide) dR_branch_180 ?_
    refine go_aload_n dR_branch_181 rfl rfl ?_
    refine go_getO (a := 173) dR_branch_182 flR_37 rfl (hS.s sh_163) (hS.r rt_type) ?_
    refine go_bipush (nI 8) (by decide) dR_branch_185 ?_
    refine go_iload_n dR_branch_187 rfl rfl ?_
    first | refine go_imulN dR_branch_188 ?_ | refine go_imul dR_branch_188 ?_
    refine go_iload_n dR_branch_189 rfl rfl ?_
    first | refine go_iaddN dR_branch_190 ?_ | refine go_iadd dR_branch_190 ?_
    first | refine go_ialV (hS.s sh_173) (by omega) (by decide) (by assumption) dR_branch_191 ?_ | refine go_ialoadN (hS.s sh_173) (by omega) (by decide) dR_branch_191 ?_
    refine go_cV (k' := (0, 0)) dR_branch_192 _ csR_131 (hS.s sh_163) rfl imR_setRow seR_setRow rfl (okR_setRow (d := 0) w G (6 + m) k (nI (mF M k)) (nI (mE M k)) (nI (mP M k)) (nI (mY M k)) (by omega) (by omega) hS) (by omega) (by decide) (Nat.le_of_ble_eq_true rfl) (fun r1 G1 hr hn => ?_)
    obtain ⟨rfl, hG⟩ := hr
    first | refine go_inc dR_branch_195 rfl ?_ | refine go_iinc dR_branch_195 rfl ?_
    refine go_goto dR_branch_198 (tgt := 132) (by decide) ?_
    exact ih (k + 1) G1 (by omega) (by rw [hG]; exact ⟨hI.1.tr (R_rowF_o (by omega)), R_rowF_hd hI.2.1, R_rowF_cd hI.2.2.1, R_rowF_rw hI.2.2.2⟩)
/-- the outer loop -/
def brO (G0 G : am_G) (f : Nat → mT) (m : Nat) : Prop := oR rfR G0 G ∧ (∀ i, (i < 164 ∨ 174 < i) → G.2.1 i = G0.2.1 i) ∧ (∀ q, q < 6 → rM G q (f q)) ∧ ∀ q, q < m → rM G (6 + q) (f q)
theorem brI_0 {G0 : am_G} {m : Nat} {M : mT} : brI G0 (am_wi (am_wi (am_wi (am_wi G0 167 (6 + m) (nI (mN M))) 168 (6 + m) (nI (mG M))) 174 (6 + m) (am_b (mL M))) 169 (6 + m) (nI (mR M))) m M 0 0 := by
  refine ⟨?_, ?_, fun i hi => absurd hi (Nat.not_lt_zero i), fun i hi => absurd hi (Nat.not_lt_zero i)⟩
  · exact (((oQ.wi (by omega) (Or.inr (Or.inr ⟨by omega, rfl⟩))).tr (oQ.wi (by omega) (Or.inr (Or.inr ⟨by omega, rfl⟩)))).tr (oQ.wi (by omega) (Or.inr (Or.inr ⟨by omega, rfl⟩)))).tr (oQ.wi (by omega) (Or.inr (Or.inr ⟨by omega, rfl⟩)))
  · unfold hd4
    rw [wi_I (by decide), wi_I (by decide), wi_I (by decide), wi_Is, wi_Is, wi_I (by decide), wi_I (by decide), wi_Is, wi_I (by decide), wi_Is]
    exact ⟨rfl, rfl, rfl, rfl⟩
theorem brO_s {G0 G X : am_G} {f : Nat → mT} {m : Nat} (hm : m < 6) (hv : ∀ q, q < 6 → mN (f q) ≤ 60 ∧ mR (f q) ≤ 8) (h : brO G0 G f m) (hX : brI G X m (f m) (mN (f m)) (mR (f m))) : brO G0 X f (m + 1) := by
  refine ⟨h.1.tr hX.1.R, fun i hi => (hX.1.2.2.1 i hi).trans (h.2.1 i hi), fun q hq => (h.2.2.1 q hq).ag (hv q hq).1 (hv q hq).2 (hX.1.2.2.2 q (by omega)), fun q hq => ?_⟩
  by_cases e : q = m
  · rw [e]; exact ⟨hX.2.1, hX.2.2.1, hX.2.2.2⟩
  · exact (h.2.2.2 q (by omega)).ag (hv q (by omega)).1 (hv q (by omega)).2 (hX.1.2.2.2 (6 + q) (by omega))
set_option maxRecDepth 100000 in
theorem R_brO (w : am_W) {d : Nat} (hd : 1 ≤ d) {P : Option am_V → am_G → Prop} (G0 : am_G) (hS0 : St0 G0) (f : Nat → mT) (hv : ∀ q, q < 6 → mN (f q) ≤ 60 ∧ mR (f q) ≤ 8) (K : ∀ G lk, brO G0 G f 6 → am_Go w jR_branch d (0, 0) 216 [some (.inr (some 163)), some (.inl (nI (sumN f 6))), some (.inl (nI 6)), lk] [] G P) :
    ∀ (r m : Nat) (G : am_G) (lk : Option am_V), m + r = 6 → brO G0 G f m → am_Go w jR_branch d (0, 0) 4 [some (.inr (some 163)), some (.inl (nI (sumN f m))), some (.inl (nI m)), lk] [] G P := by
  intro r
  induction r with
  | zero =>
    intro m G lk hm hI
    have hS := hI.1.St hS0
    refine go_iload_n dR_branch_4 rfl rfl ?_
    refine go_bipush (nI 6) (by decide) dR_branch_5 ?_
    refine go_icmp_geN (by omega) (by omega) dR_branch_7 (tgt := 216) (by decide) (fun c => ?_) (fun c => absurd c (by omega))
    have e : m = 6 := by omega
    subst e
    exact K G lk hI
  | succ r ih =>
    intro m G lk hm hI
    have hS := hI.1.St hS0
    have hm6 : m < 6 := by omega
    have hm0 := hI.2.2.1 m hm6
    obtain ⟨hv1, hv2⟩ := hv m hm6
    obtain ⟨M, hM⟩ : ∃ M, M = f m := ⟨_, rfl⟩
    rw [← hM] at hm0 hv1 hv2
    obtain ⟨⟨hN, hR, hA, hL⟩, -, -⟩ := hm0
    have hm0 := hI.2.2.1 m hm6
    rw [← hM] at hm0
    refine go_iload_n dR_branch_4 rfl rfl ?_
    refine go_bipush (nI 6) (by decide) dR_branch_5 ?_
    refine go_icmp_geN (by omega) (by omega) dR_branch_7 (tgt := 216) (by decide) (fun c => absurd c (by omega)) (fun c => ?_)
    refine go_aload_n dR_branch_10 rfl rfl ?_
    refine go_getO (a := 167) dR_branch_11 flR_19 rfl (hS.s sh_163) (hS.r rt_many) ?_
    refine go_bipush (nI 6) (by decide) dR_branch_14 ?_
    refine go_iload_n dR_branch_16 rfl rfl ?_
    first | refine go_iaddN dR_branch_17 ?_ | refine go_iadd dR_branch_17 ?_
    refine go_aload_n dR_branch_18 rfl rfl ?_
    refine go_getO (a := 167) dR_branch_19 flR_19 rfl (hS.s sh_163) (hS.r rt_many) ?_
    refine go_iload_n dR_branch_22 rfl rfl ?_
    refine go_ialV (hS.s sh_167) (by omega) (by decide) (by first | exact hN | (simp (disch := decide) only [wi_I]; exact hN)) dR_branch_23 ?_
    refine go_iastoreN (hS.s sh_167) (by omega) (by decide) dR_branch_24 ?_
    refine go_aload_n dR_branch_25 rfl rfl ?_
    refine go_getO (a := 168) dR_branch_26 flR_22 rfl (hS.s sh_163) (hS.r rt_takes) ?_
    refine go_bipush (nI 6) (by decide) dR_branch_29 ?_
    refine go_iload_n dR_branch_31 rfl rfl ?_
    first | refine go_iaddN dR_branch_32 ?_ | refine go_iadd dR_branch_32 ?_
    refine go_aload_n dR_branch_33 rfl rfl ?_
    refine go_getO (a := 168) dR_branch_34 flR_22 rfl (hS.s sh_163) (hS.r rt_takes) ?_
    refine go_iload_n dR_branch_37 rfl rfl ?_
    refine go_ialV (hS.s sh_168) (by omega) (by decide) (by first | exact hA | (simp (disch := decide) only [wi_I]; exact hA)) dR_branch_38 ?_
    refine go_iastoreN (hS.s sh_168) (by omega) (by decide) dR_branch_39 ?_
    refine go_aload_n dR_branch_40 rfl rfl ?_
    refine go_getO (a := 174) dR_branch_41 flR_40 rfl (hS.s sh_163) (hS.r rt_locked) ?_
    refine go_bipush (nI 6) (by decide) dR_branch_44 ?_
    refine go_iload_n dR_branch_46 rfl rfl ?_
    first | refine go_iaddN dR_branch_47 ?_ | refine go_iadd dR_branch_47 ?_
    refine go_aload_n dR_branch_48 rfl rfl ?_
    refine go_getO (a := 174) dR_branch_49 flR_40 rfl (hS.s sh_163) (hS.r rt_locked) ?_
    refine go_iload_n dR_branch_52 rfl rfl ?_
    refine go_balV (hS.s sh_174) (by omega) (by decide) (by first | exact hL | (simp (disch := decide) only [wi_I]; exact hL)) dR_branch_53 ?_
    refine go_bastoreN (by first | decide | exact am_b_and1 _) (hS.s sh_174) (by omega) (by decide) dR_branch_54 ?_
    refine go_aload_n dR_branch_55 rfl rfl ?_
    refine go_getO (a := 169) dR_branch_56 flR_25 rfl (hS.s sh_163) (hS.r rt_rows) ?_
    refine go_bipush (nI 6) (by decide) dR_branch_59 ?_
    refine go_iload_n dR_branch_61 rfl rfl ?_
    first | refine go_iaddN dR_branch_62 ?_ | refine go_iadd dR_branch_62 ?_
    refine go_aload_n dR_branch_63 rfl rfl ?_
    refine go_getO (a := 169) dR_branch_64 flR_25 rfl (hS.s sh_163) (hS.r rt_rows) ?_
    refine go_iload_n dR_branch_67 rfl rfl ?_
    refine go_ialV (hS.s sh_169) (by omega) (by decide) (by first | exact hR | (simp (disch := decide) only [wi_I]; exact hR)) dR_branch_68 ?_
    refine go_iastoreN (hS.s sh_169) (by omega) (by decide) dR_branch_69 ?_
    refine go_iconst (nI 0) (by decide) dR_branch_70 ?_
    refine go_istore_n dR_branch_71 rfl (Nat.le_of_ble_eq_true rfl) ?_
    refine R_br1 w hd G hS (sumN f m) m hm6 M hv1 hv2 hm0 (fun X hX => ?_) (mN M) 0 _ (by omega) brI_0
    refine go_iconst (nI 0) (by decide) dR_branch_130 ?_
    refine go_istore_n dR_branch_131 rfl (Nat.le_of_ble_eq_true rfl) ?_
    refine R_br2 w hd G hS (sumN f m) m hm6 M hv1 hv2 hm0 (fun X2 hX2 => ?_) (mR M) 0 X (by omega) hX
    have hS2 := hX2.1.St hS
    have hN2 : X2.2.1 167 m = nI (mN M) := (hm0.ag hv1 hv2 (hX2.1.2.2.2 m (by omega))).1.1
    refine go_iload_n dR_branch_201 rfl rfl ?_
    refine go_aload_n dR_branch_202 rfl rfl ?_
    refine go_getO (a := 167) dR_branch_203 flR_19 rfl (hS2.s sh_163) (hS2.r rt_many) ?_
    refine go_iload_n dR_branch_206 rfl rfl ?_
    refine go_ialV (hS2.s sh_167) (by omega) (by decide) hN2 dR_branch_207 ?_
    first | refine go_iaddN dR_branch_208 ?_ | refine go_iadd dR_branch_208 ?_
    refine go_istore_n dR_branch_209 rfl (Nat.le_of_ble_eq_true rfl) ?_
    first | refine go_inc dR_branch_210 rfl ?_ | refine go_iinc dR_branch_210 rfl ?_
    refine go_goto dR_branch_213 (tgt := 4) (by decide) ?_
    have e9 : sumN f m + mN M = sumN f (m + 1) := by rw [hM]; rfl
    rw [hM] at hX2
    refine go_eqL (by rw [e9]) ?_
    exact ih (m + 1) X2 _ (by omega) (brO_s hm6 hv hI hX2)
theorem brR_end {G G1 : am_G} {s : sT} (hc : rS G s) (hb : brO G G1 s.2.1 6) : rEnd G (am_wi G1 163 11 (nI 1)) (aBranch s).2 := by
  obtain ⟨ho, hf, h0, h1⟩ := hb
  have hq : ∀ i, i ≠ 163 → (am_wi G1 163 11 (nI 1)).2.1 i = G1.2.1 i := fun i hi => wi_I hi
  have hm : ∀ q M, rM G1 q M → rM (am_wi G1 163 11 (nI 1)) q M := fun q M h => by
    unfold rM at h ⊢
    rw [hq 167 (by decide), hq 169 (by decide), hq 168 (by decide), hq 174 (by decide), hq 164 (by decide), hq 165 (by decide), hq 166 (by decide), hq 170 (by decide), hq 171 (by decide), hq 172 (by decide), hq 173 (by decide)]
    exact h
  refine ⟨⟨wi_Is, fun q hq' => ?_, ?_⟩, ho.tr (oR.wi (show 163 ≤ 163 by decide))⟩
  · show rM _ q (if q < 6 then s.2.1 q else s.2.1 (q - 6))
    by_cases e : q < 6
    · rw [if_pos e]; exact hm q _ (h0 q e)
    · rw [if_neg e]
      have h := hm (6 + (q - 6)) _ (h1 (q - 6) (by omega))
      rw [show 6 + (q - 6) = q by omega] at h
      exact h
  · have := hc.2.2
    show rL _ s.2.2
    unfold rL at this ⊢
    rw [wi_In (by decide), wi_In (by decide), wi_In (by decide), wi_In (by decide), wi_In (by decide), wi_In (by decide), hq 191 (by decide), hf 163 (by omega), hf 191 (by omega)]
    exact this
set_option maxRecDepth 100000 in
theorem okR_branch (w : am_W) {d : Nat} (hd : 3 ≤ d) (G : am_G) (s : sT) (hS : St0 G) (hc : rS G s) (hv : sV s) : am_Ok w jR_branch d (0, 0) [.inr (some 163)] G (fun r G' => r = some (.inl (aBranch s).1) ∧ rEnd G G' (aBranch s).2) := by
  refine am_ok_of rfl (Nat.le_of_ble_eq_true rfl) ?_
  show am_Go w jR_branch d (0, 0) 0 [some (.inr (some 163)), none, none, none] [] G _
  refine go_iconst (nI 0) (by decide) dR_branch_0 ?_
  refine go_istore_n dR_branch_1 rfl (Nat.le_of_ble_eq_true rfl) ?_
  refine go_iconst (nI 0) (by decide) dR_branch_2 ?_
  refine go_istore_n dR_branch_3 rfl (Nat.le_of_ble_eq_true rfl) ?_
  refine R_brO w (by omega) G hS s.2.1 (fun q hq => ⟨(hv.2.1 q (by omega)).1, (hv.2.1 q (by omega)).2.1⟩) (fun X lk hX => ?_) 6 0 G _ (by omega) ⟨oR.rf, fun _ _ => rfl, fun q hq => hc.2.1 q (by omega), fun q hq => absurd hq (Nat.not_lt_zero q)⟩
  have hS1 := hX.1.St hS
  refine go_aload_n dR_branch_216 rfl rfl ?_
  refine go_iconst (nI 1) (by decide) dR_branch_217 ?_
  refine go_putI dR_branch_218 fpR_119 rfl (hS1.s sh_163) ?_
  refine go_iload_n dR_branch_221 rfl rfl ?_
  refine go_ireturn rfl dR_branch_222 ?_
  exact ⟨rfl, brR_end hc hX⟩
