theorem sh_163 : SH[163]? = some (0, 8) := by decide +kernel
theorem sh_164 : SH[164]? = some (1, 720) := by decide +kernel
theorem sh_165 : SH[165]? = some (1, 720) := by decide +kernel
theorem sh_166 : SH[166]? = some (1, 720) := by decide +kernel
theorem sh_167 : SH[167]? = some (1, 12) := by decide +kernel
theorem sh_168 : SH[168]? = some (1, 12) := by decide +kernel
theorem sh_169 : SH[169]? = some (1, 12) := by decide +kernel
theorem sh_170 : SH[170]? = some (1, 96) := by decide +kernel
theorem sh_171 : SH[171]? = some (1, 96) := by decide +kernel
theorem sh_172 : SH[172]? = some (1, 96) := by decide +kernel
theorem sh_173 : SH[173]? = some (1, 96) := by decide +kernel
theorem sh_174 : SH[174]? = some (2, 12) := by decide +kernel
theorem sh_175 : SH[175]? = some (2, 60) := by decide +kernel
theorem sh_176 : SH[176]? = some (1, 60) := by decide +kernel
theorem sh_177 : SH[177]? = some (1, 480) := by decide +kernel
theorem sh_178 : SH[178]? = some (1, 480) := by decide +kernel
theorem sh_179 : SH[179]? = some (1, 8) := by decide +kernel
theorem sh_180 : SH[180]? = some (1, 8) := by decide +kernel
theorem sh_181 : SH[181]? = some (2, 6) := by decide +kernel
theorem sh_182 : SH[182]? = some (1, 2200) := by decide +kernel
theorem sh_183 : SH[183]? = some (1, 2200) := by decide +kernel
theorem sh_184 : SH[184]? = some (1, 1100) := by decide +kernel
theorem sh_185 : SH[185]? = some (1, 12) := by decide +kernel
theorem sh_186 : SH[186]? = some (1, 12) := by decide +kernel
theorem sh_187 : SH[187]? = some (1, 12) := by decide +kernel
theorem sh_188 : SH[188]? = some (1, 12) := by decide +kernel
theorem sh_189 : SH[189]? = some (1, 96) := by decide +kernel
theorem sh_190 : SH[190]? = some (1, 96) := by decide +kernel
theorem sh_191 : SH[191]? = some (1, 120) := by decide +kernel
theorem sh_192 : SH[192]? = some (1, 120) := by decide +kernel
theorem sh_193 : SH[193]? = some (1, 130) := by decide +kernel
theorem sh_194 : SH[194]? = some (1, 130) := by decide +kernel
theorem sh_195 : SH[195]? = some (1, 130) := by decide +kernel
theorem sh_196 : SH[196]? = some (1, 40) := by decide +kernel
theorem sh_197 : SH[197]? = some (1, 40) := by decide +kernel
theorem sh_198 : SH[198]? = some (1, 40) := by decide +kernel
theorem sh_199 : SH[199]? = some (1, 40) := by decide +kernel
theorem rt_op : (163, 0, 164) ∈ RT := by decide +kernel
theorem rt_one : (163, 1, 165) ∈ RT := by decide +kernel
theorem rt_two : (163, 2, 166) ∈ RT := by decide +kernel
theorem rt_many : (163, 3, 167) ∈ RT := by decide +kernel
theorem rt_takes : (163, 4, 168) ∈ RT := by decide +kernel
theorem rt_rows : (163, 5, 169) ∈ RT := by decide +kernel
theorem rt_from : (163, 6, 170) ∈ RT := by decide +kernel
theorem rt_to : (163, 7, 171) ∈ RT := by decide +kernel
theorem rt_at : (163, 8, 172) ∈ RT := by decide +kernel
theorem rt_type : (163, 9, 173) ∈ RT := by decide +kernel
theorem rt_locked : (163, 10, 174) ∈ RT := by decide +kernel
theorem rt_come : (163, 12, 175) ∈ RT := by decide +kernel
theorem rt_deep : (163, 13, 176) ∈ RT := by decide +kernel
theorem rt_sKind : (163, 14, 177) ∈ RT := by decide +kernel
theorem rt_lKind : (163, 15, 178) ∈ RT := by decide +kernel
theorem rt_kind : (163, 16, 179) ∈ RT := by decide +kernel
theorem rt_local : (163, 17, 180) ∈ RT := by decide +kernel
theorem rt_seen : (163, 22, 181) ∈ RT := by decide +kernel
theorem rt_objectType : (163, 23, 182) ∈ RT := by decide +kernel
theorem rt_item : (163, 24, 183) ∈ RT := by decide +kernel
theorem rt_entered : (163, 25, 184) ∈ RT := by decide +kernel
theorem rt_fMethod : (163, 26, 185) ∈ RT := by decide +kernel
theorem rt_fPlace : (163, 27, 186) ∈ RT := by decide +kernel
theorem rt_fDepth : (163, 28, 187) ∈ RT := by decide +kernel
theorem rt_fBase : (163, 29, 188) ∈ RT := by decide +kernel
theorem rt_value : (163, 30, 189) ∈ RT := by decide +kernel
theorem rt_fLocal : (163, 31, 190) ∈ RT := by decide +kernel
theorem rt_trace : (163, 32, 191) ∈ RT := by decide +kernel
theorem rt_kept : (163, 33, 192) ∈ RT := by decide +kernel
theorem rt_newOp : (163, 44, 193) ∈ RT := by decide +kernel
theorem rt_newOne : (163, 45, 194) ∈ RT := by decide +kernel
theorem rt_newTwo : (163, 46, 195) ∈ RT := by decide +kernel
theorem rt_newFrom : (163, 47, 196) ∈ RT := by decide +kernel
theorem rt_newTo : (163, 48, 197) ∈ RT := by decide +kernel
theorem rt_newAt : (163, 49, 198) ∈ RT := by decide +kernel
theorem rt_newType : (163, 50, 199) ∈ RT := by decide +kernel
section HpR
variable {w : am_W} {j d : Nat} {k : Nat × Nat} {pc : Nat} {L : List (Option am_V)} {st : List am_V} {G : am_G} {P : Option am_V → am_G → Prop} {a b : Nat}
theorem go_iaddN (h : decode (am_by j) pc = .ok (.iadd, 1)) (kk : am_Go w j d k (pc + 1) L (.inl (nI (a + b)) :: st) G P) : am_Go w j d k pc L (.inl (nI b) :: .inl (nI a) :: st) G P := go_iadd h (by rw [nI_add]; exact kk)
theorem go_imulN (h : decode (am_by j) pc = .ok (.imul, 1)) (kk : am_Go w j d k (pc + 1) L (.inl (nI (a * b)) :: st) G P) : am_Go w j d k pc L (.inl (nI b) :: .inl (nI a) :: st) G P := go_imul h (by rw [pk_mul]; exact kk)
theorem go_isubN (hb : b ≤ a) (h : decode (am_by j) pc = .ok (.isub, 1)) (kk : am_Go w j d k (pc + 1) L (.inl (nI (a - b)) :: st) G P) : am_Go w j d k pc L (.inl (nI b) :: .inl (nI a) :: st) G P := go_isub h (by rw [pk_sub hb]; exact kk)
end HpR
def R_setF (G : am_G) (q i : Nat) (p a b : Int32) : am_G := am_wi (am_wi (am_wi G 164 (60 * q + i) p) 165 (60 * q + i) a) 166 (60 * q + i) b
def R_rowF (G : am_G) (q i : Nat) (f t a y : Int32) : am_G := am_wi (am_wi (am_wi (am_wi G 170 (8 * q + i) f) 171 (8 * q + i) t) 172 (8 * q + i) a) 173 (8 * q + i) y
/-- number q's entries are the same -/
def rAg (q : Nat) (G G' : am_G) : Prop := (∀ a, 164 ≤ a → a ≤ 166 → ∀ i, i < 60 → G'.2.1 a (60 * q + i) = G.2.1 a (60 * q + i)) ∧ (∀ a, 170 ≤ a → a ≤ 173 → ∀ i, i < 8 → G'.2.1 a (8 * q + i) = G.2.1 a (8 * q + i)) ∧ G'.2.1 167 q = G.2.1 167 q ∧ G'.2.1 168 q = G.2.1 168 q ∧ G'.2.1 169 q = G.2.1 169 q ∧ G'.2.1 174 q = G.2.1 174 q
theorem rM.ag {q : Nat} {G G' : am_G} {M : mT} (hn : mN M ≤ 60) (hr : mR M ≤ 8) (h : rAg q G G') (hm : rM G q M) : rM G' q M := by
  obtain ⟨⟨m1, m2, m3, m4⟩, m5, m6⟩ := hm
  obtain ⟨h1, h2, h3, h4, h5, h6⟩ := h
  refine ⟨⟨h3.trans m1, h5.trans m2, h4.trans m3, h6.trans m4⟩, fun i hi => ?_, fun i hi => ?_⟩
  · obtain ⟨a1, a2, a3⟩ := m5 i hi
    exact ⟨(h1 164 (by omega) (by omega) i (by omega)).trans a1, (h1 165 (by omega) (by omega) i (by omega)).trans a2, (h1 166 (by omega) (by omega) i (by omega)).trans a3⟩
  · obtain ⟨a1, a2, a3, a4⟩ := m6 i hi
    exact ⟨(h2 170 (by omega) (by omega) i (by omega)).trans a1, (h2 171 (by omega) (by omega) i (by omega)).trans a2, (h2 172 (by omega) (by omega) i (by omega)).trans a3, (h2 173 (by omega) (by omega) i (by omega)).trans a4⟩
/-- only number q's entries have changed -/
def oQ (q : Nat) (G G' : am_G) : Prop := G'.1 = G.1 ∧ G'.2.2 = G.2.2 ∧ (∀ i, (i < 164 ∨ 174 < i) → G'.2.1 i = G.2.1 i) ∧ ∀ q', q' ≠ q → rAg q' G G'
theorem oQ.rf {q : Nat} {G : am_G} : oQ q G G := ⟨rfl, rfl, fun _ _ => rfl, fun _ _ => ⟨fun _ _ _ _ _ => rfl, fun _ _ _ _ _ => rfl, rfl, rfl, rfl, rfl⟩⟩
theorem oQ.tr {q : Nat} {G G1 G2 : am_G} (h1 : oQ q G G1) (h2 : oQ q G1 G2) : oQ q G G2 := by
  refine ⟨h2.1.trans h1.1, h2.2.1.trans h1.2.1, fun i hi => (h2.2.2.1 i hi).trans (h1.2.2.1 i hi), fun q' hq => ?_⟩
  obtain ⟨a1, a2, a3, a4, a5, a6⟩ := h1.2.2.2 q' hq
  obtain ⟨b1, b2, b3, b4, b5, b6⟩ := h2.2.2.2 q' hq
  exact ⟨fun a x y i hi => (b1 a x y i hi).trans (a1 a x y i hi), fun a x y i hi => (b2 a x y i hi).trans (a2 a x y i hi), b3.trans a3, b4.trans a4, b5.trans a5, b6.trans a6⟩
theorem oQ.R {q : Nat} {G G1 : am_G} (h : oQ q G G1) : oR rfR G G1 := ⟨h.1, h.2.1, fun i hi => h.2.2.1 i (by unfold rfR at hi; omega)⟩
theorem oQ.St {q : Nat} {G G1 : am_G} (h : oQ q G G1) (hs : St0 G) : St0 G1 := h.R.St hs
theorem oQ.wi {q a k : Nat} {G : am_G} {x : Int32} (ha : 164 ≤ a ∧ a ≤ 174) (hk : (a ≤ 166 ∧ ∃ i, i < 60 ∧ k = 60 * q + i) ∨ (170 ≤ a ∧ a ≤ 173 ∧ ∃ i, i < 8 ∧ k = 8 * q + i) ∨ ((a = 167 ∨ a = 168 ∨ a = 169 ∨ a = 174) ∧ k = q)) : oQ q G (am_wi G a k x) := by
  refine ⟨rfl, rfl, fun i hi => wi_I (by omega), fun q' hq => ?_⟩
  have key : ∀ a' i', (a' = a → i' ≠ k) → (am_wi G a k x).2.1 a' i' = G.2.1 a' i' := fun a' i' h => by
    by_cases e : a' = a
    · subst e; rw [wi_In (h rfl)]
    · rw [wi_I e]
  refine ⟨fun a' h1 h2 i hi => key _ _ (fun e => ?_), fun a' h1 h2 i hi => key _ _ (fun e => ?_), key _ _ (fun e => ?_), key _ _ (fun e => ?_), key _ _ (fun e => ?_), key _ _ (fun e => ?_)⟩
  all_goals
    rcases hk with ⟨g1, i2, g2, g3⟩ | ⟨g1, g2, i2, g3, g4⟩ | ⟨g1, g2⟩ <;> omega
theorem R_setF_o {G : am_G} {q i : Nat} {p a b : Int32} (hi : i < 60) : oQ q G (R_setF G q i p a b) :=
  ((oQ.wi (by omega) (Or.inl ⟨by omega, i, hi, rfl⟩)).tr (oQ.wi (by omega) (Or.inl ⟨by omega, i, hi, rfl⟩))).tr (oQ.wi (by omega) (Or.inl ⟨by omega, i, hi, rfl⟩))
theorem R_rowF_o {G : am_G} {q i : Nat} {f t a y : Int32} (hi : i < 8) : oQ q G (R_rowF G q i f t a y) :=
  (((oQ.wi (by omega) (Or.inr (Or.inl ⟨by omega, by omega, i, hi, rfl⟩))).tr (oQ.wi (by omega) (Or.inr (Or.inl ⟨by omega, by omega, i, hi, rfl⟩)))).tr (oQ.wi (by omega) (Or.inr (Or.inl ⟨by omega, by omega, i, hi, rfl⟩)))).tr (oQ.wi (by omega) (Or.inr (Or.inl ⟨by omega, by omega, i, hi, rfl⟩)))
/-- what must hold behind a call of the reference -/
def rEnd (G G' : am_G) (s' : sT) : Prop := rS G' s' ∧ oR rfR G G'
theorem rEnd.rf {G : am_G} {s : sT} (h : rS G s) : rEnd G G s := ⟨h, oR.rf⟩
theorem rS.ag {G G' : am_G} {s : sT} {q : Nat} {M : mT} (hv : sV s) (hs : rS G s) (ho : oQ q G G') (hM : rM G' q M) : rS G' (s.1, va_up s.2.1 q M, s.2.2) := by
  refine ⟨by rw [ho.2.2.1 163 (by omega)]; exact hs.1, fun q' hq' => ?_, ?_⟩
  · show rM G' q' (va_up s.2.1 q M q')
    by_cases e : q' = q
    · rw [e, am_up_eq]; exact hM
    · rw [am_up_ne e]
      exact (hs.2.1 q' hq').ag (hv.2.1 q' hq').1 (hv.2.1 q' hq').2.1 (ho.2.2.2 q' e)
  · have h := hs.2.2
    unfold rL at h ⊢
    rw [ho.2.2.1 163 (by omega), ho.2.2.1 191 (by omega)]
    exact h
theorem rEnd.put {G G' : am_G} {s : sT} {m : Nat} {M : mT} (hv : sV s) (hs : rS G s) (ho : oQ (6 * s.1 + m) G G') (hM : rM G' (6 * s.1 + m) M) : rEnd G G' (zPut s m M) := ⟨hs.ag hv ho hM, ho.R⟩

set_option maxRecDepth 100000 in
theorem okR_own (w : am_W) {d : Nat} (G : am_G) (v m : Nat) (hw : G.2.1 163 11 = nI v) (hS : St0 G) : am_Ok w jR_own d (0, 0) [.inr (some 163), .inl (nI m)] G (fun r G' => r = some (.inl (nI (6 * v + m))) ∧ G' = G) := by
  refine am_ok_of rfl (Nat.le_of_ble_eq_true rfl) ?_
  show am_Go w jR_own d (0, 0) 0 [some (.inr (some 163)), some (.inl (nI m))] [] G _
  refine go_bipush (nI 6) (by decide) dR_own_0 ?_
  refine go_aload_n dR_own_2 rfl rfl ?_
  refine go_getV dR_own_3 flR_119 rfl (hS.s sh_163) (by first | assumption | (simp (disch := omega) only [wi_I, ro_I, wi_In, wi_Is]; done) | (simp (disch := omega) only [wi_I, ro_I, wi_In, wi_Is]; first | assumption | rfl) | rfl) ?_
  first | refine go_imulN dR_own_6 ?_ | refine go_imul dR_own_6 ?_
  refine go_iload_n dR_own_7 rfl rfl ?_
  first | refine go_iaddN dR_own_8 ?_ | refine go_iadd dR_own_8 ?_
  refine go_ireturn rfl dR_own_9 ?_
  exact ⟨rfl, rfl⟩
set_option maxRecDepth 100000 in
theorem okR_set (w : am_W) {d : Nat} (G : am_G) (q i : Nat) (p a b : Int32) (hq : q < 12) (hi : i < 60) (hS : St0 G) : am_Ok w jR_set d (0, 0) [.inr (some 163), .inl (nI q), .inl (nI i), .inl p, .inl a, .inl b] G (fun r G' => r = none ∧ G' = R_setF G q i p a b) := by
  refine am_ok_of rfl (Nat.le_of_ble_eq_true rfl) ?_
  show am_Go w jR_set d (0, 0) 0 [some (.inr (some 163)), some (.inl (nI q)), some (.inl (nI i)), some (.inl p), some (.inl a), some (.inl b)] [] G _
  refine go_aload_n dR_set_0 rfl rfl ?_
  refine go_getO (a := 164) dR_set_1 flR_7 rfl (hS.s sh_163) (hS.r rt_op) ?_
  refine go_bipush (nI 60) (by decide) dR_set_4 ?_
  refine go_iload_n dR_set_6 rfl rfl ?_
  first | refine go_imulN dR_set_7 ?_ | refine go_imul dR_set_7 ?_
  refine go_iload_n dR_set_8 rfl rfl ?_
  first | refine go_iaddN dR_set_9 ?_ | refine go_iadd dR_set_9 ?_
  refine go_iload_n dR_set_10 rfl rfl ?_
  refine go_iastoreN (hS.s sh_164) (by omega) (by decide) dR_set_11 ?_
  refine go_aload_n dR_set_12 rfl rfl ?_
  refine go_getO (a := 165) dR_set_13 flR_13 rfl (hS.s sh_163) (hS.r rt_one) ?_
  refine go_bipush (nI 60) (by decide) dR_set_16 ?_
  refine go_iload_n dR_set_18 rfl rfl ?_
  first | refine go_imulN dR_set_19 ?_ | refine go_imul dR_set_19 ?_
  refine go_iload_n dR_set_20 rfl rfl ?_
  first | refine go_iaddN dR_set_21 ?_ | refine go_iadd dR_set_21 ?_
  refine go_iload dR_set_22 rfl ?_
  refine go_iastoreN (hS.s sh_165) (by omega) (by decide) dR_set_24 ?_
  refine go_aload_n dR_set_25 rfl rfl ?_
  refine go_getO (a := 166) dR_set_26 flR_16 rfl (hS.s sh_163) (hS.r rt_two) ?_
  refine go_bipush (nI 60) (by decide) dR_set_29 ?_
  refine go_iload_n dR_set_31 rfl rfl ?_
  first | refine go_imulN dR_set_32 ?_ | refine go_imul dR_set_32 ?_
  refine go_iload_n dR_set_33 rfl rfl ?_
  first | refine go_iaddN dR_set_34 ?_ | refine go_iadd dR_set_34 ?_
  refine go_iload dR_set_35 rfl ?_
  refine go_iastoreN (hS.s sh_166) (by omega) (by decide) dR_set_37 ?_
  refine go_return rfl dR_set_38 ?_
  exact ⟨rfl, rfl⟩
set_option maxRecDepth 100000 in
theorem okR_setRow (w : am_W) {d : Nat} (G : am_G) (q i : Nat) (f t a y : Int32) (hq : q < 12) (hi : i < 8) (hS : St0 G) : am_Ok w jR_setRow d (0, 0) [.inr (some 163), .inl (nI q), .inl (nI i), .inl f, .inl t, .inl a, .inl y] G (fun r G' => r = none ∧ G' = R_rowF G q i f t a y) := by
  refine am_ok_of rfl (Nat.le_of_ble_eq_true rfl) ?_
  show am_Go w jR_setRow d (0, 0) 0 [some (.inr (some 163)), some (.inl (nI q)), some (.inl (nI i)), some (.inl f), some (.inl t), some (.inl a), some (.inl y)] [] G _
  refine go_aload_n dR_setRow_0 rfl rfl ?_
  refine go_getO (a := 170) dR_setRow_1 flR_28 rfl (hS.s sh_163) (hS.r rt_from) ?_
  refine go_bipush (nI 8) (by decide) dR_setRow_4 ?_
  refine go_iload_n dR_setRow_6 rfl rfl ?_
  first | refine go_imulN dR_setRow_7 ?_ | refine go_imul dR_setRow_7 ?_
  refine go_iload_n dR_setRow_8 rfl rfl ?_
  first | refine go_iaddN dR_setRow_9 ?_ | refine go_iadd dR_setRow_9 ?_
  refine go_iload_n dR_setRow_10 rfl rfl ?_
  refine go_iastoreN (hS.s sh_170) (by omega) (by decide) dR_setRow_11 ?_
  refine go_aload_n dR_setRow_12 rfl rfl ?_
  refine go_getO (a := 171) dR_setRow_13 flR_31 rfl (hS.s sh_163) (hS.r rt_to) ?_
  refine go_bipush (nI 8) (by decide) dR_setRow_16 ?_
  refine go_iload_n dR_setRow_18 rfl rfl ?_
  first | refine go_imulN dR_setRow_19 ?_ | refine go_imul dR_setRow_19 ?_
  refine go_iload_n dR_setRow_20 rfl rfl ?_
  first | refine go_iaddN dR_setRow_21 ?_ | refine go_iadd dR_setRow_21 ?_
  refine go_iload dR_setRow_22 rfl ?_
  refine go_iastoreN (hS.s sh_171) (by omega) (by decide) dR_setRow_24 ?_
  refine go_aload_n dR_setRow_25 rfl rfl ?_
  refine go_getO (a := 172) dR_setRow_26 flR_34 rfl (hS.s sh_163) (hS.r rt_at) ?_
  refine go_bipush (nI 8) (by decide) dR_setRow_29 ?_
  refine go_iload_n dR_setRow_31 rfl rfl ?_
  first | refine go_imulN dR_setRow_32 ?_ | refine go_imul dR_setRow_32 ?_
  refine go_iload_n dR_setRow_33 rfl rfl ?_
  first | refine go_iaddN dR_setRow_34 ?_ | refine go_iadd dR_setRow_34 ?_
  refine go_iload dR_setRow_35 rfl ?_
  refine go_iastoreN (hS.s sh_172) (by omega) (by decide) dR_setRow_37 ?_
  refine go_aload_n dR_setRow_38 rfl rfl ?_
  refine go_getO (a := 173) dR_setRow_39 flR_37 rfl (hS.s sh_163) (hS.r rt_type) ?_
  refine go_bipush (nI 8) (by decide) dR_setRow_42 ?_
  refine go_iload_n dR_setRow_44 rfl rfl ?_
  first | refine go_imulN dR_setRow_45 ?_ | refine go_imul dR_setRow_45 ?_
  refine go_iload_n dR_setRow_46 rfl rfl ?_
  first | refine go_iaddN dR_setRow_47 ?_ | refine go_iadd dR_setRow_47 ?_
  refine go_iload dR_setRow_48 rfl ?_
  refine go_iastoreN (hS.s sh_173) (by omega) (by decide) dR_setRow_50 ?_
  refine go_return rfl dR_setRow_51 ?_
  exact ⟨rfl, rfl⟩
