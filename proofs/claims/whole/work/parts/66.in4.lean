theorem mxT {f b : Nat} (h : b < f) : nI f = nI (max f (b + 1)) := by rw [mx_b, if_pos h]
theorem mxF {f b : Nat} (h : f ≤ b) : nI (b + 1) = nI (max f (b + 1)) := by rw [mx_b, if_neg (by omega)]
theorem mnT {t e : Nat} (h : t < e) : nI t = nI (min t e) := by rw [mn_e, if_neg (by omega)]
theorem mnF {t e : Nat} (h : e ≤ t) : nI e = nI (min t e) := by rw [mn_e, if_pos h]
theorem v2_t {x b : Nat} (hx : x < 10000) (hb : b < 10000) : (nI x - nI b - nI 1).toInt = (x : Int) - (b : Int) - 1 := by
  have h1 : (nI x - nI b).toInt = (x : Int) - (b : Int) := zD_t (by omega) (by omega)
  rw [Int32.toInt_sub, h1, nI_toInt (by omega)]
  exact Int.bmod_eq_of_le (by omega) (by omega)
theorem v2_lt {x b f : Nat} (hx : x < 10000) (hb : b < 10000) (hf : f < 10000) : nI f < nI x - nI b - nI 1 ↔ f < x - (b + 1) := by
  rw [Int32.lt_iff_toInt_lt, v2_t hx hb, nI_toInt (by omega)]
  omega
theorem v2_eq {x b f : Nat} (h : f < x - (b + 1)) : nI x - nI b - nI 1 = nI (x - (b + 1)) := by
  rw [pk_sub (show b ≤ x by omega), pk_sub (show 1 ≤ x - b by omega), Nat.sub_sub]
theorem v3_lt {x f : Nat} (hx : x < 10000) (hf : f < 10000) : nI f < nI x - nI 1 ↔ f < x - 1 := by
  have := zD_lt (a := x) (b := 1) (f := f) (by omega) (by omega) (by omega)
  rw [show nI x - nI 1 = zD x 1 from rfl, this]
  omega
theorem v3_eq {x f : Nat} (h : f < x - 1) : nI x - nI 1 = nI (x - 1) := pk_sub (by omega)
theorem uRows_le {M : mT} {p b e n : Nat} : ∀ k, (uRows M p b e n k).1 ≤ 3 * k
  | 0 => Nat.le_refl _
  | k + 1 => by
    have ih := uRows_le (M := M) (p := p) (b := b) (e := e) (n := n) k
    show (uRow M p b e n (uRows M p b e n k) k).1 ≤ _
    unfold uRow
    have h1 := (wAdd_le (R := uRows M p b e n k) (f := mF M k) (t := min (mE M k) p) (a := mvd p n (mP M k)) (y := mY M k)).2
    have h2 := (wAdd_le (R := wAdd (uRows M p b e n k) (mF M k) (min (mE M k) p) (mvd p n (mP M k)) (mY M k)) (f := max (mF M k) (b + 1) + p - (b + 1)) (t := min (mE M k) e + p - (b + 1)) (a := mvd p n (mP M k)) (y := mY M k)).2
    have h3 := (wAdd_le (R := wAdd (wAdd (uRows M p b e n k) (mF M k) (min (mE M k) p) (mvd p n (mP M k)) (mY M k)) (max (mF M k) (b + 1) + p - (b + 1)) (min (mE M k) e + p - (b + 1)) (mvd p n (mP M k)) (mY M k)) (f := max (mF M k) (p + 1) + n - 1) (t := mE M k + n - 1) (a := mvd p n (mP M k)) (y := mY M k)).2
    omega
theorem uC_y {M : mT} {p b k : Nat} (h : jm4 (mO M (b + 1 + k))) : (uC M p b k).2.2 = nI (p + bN M (b + 1 + k) - (b + 1)) := if_pos h
theorem uC_n {M : mT} {p b k : Nat} (h : ¬ jm4 (mO M (b + 1 + k))) : (uC M p b k).2.2 = mB M (b + 1 + k) := if_neg h
/-- inside a PLAIN subroutine -/
theorem plE.jmp {M : mT} {b e i : Nat} (h : plE M b e) (h1 : b < i) (h2 : i < e) (hj : jm4 (mO M i)) : b < bN M i ∧ bN M i ≤ e ∧ mO M i ≠ 23 := by
  have := h.2.1 i (by have := h.1.1; omega)
  unfold plI at this
  rw [if_pos ⟨h1, h2⟩] at this
  obtain ⟨q1, -, q3⟩ := this
  obtain ⟨q4, q5⟩ := q3 (jm4_3 hj q1)
  exact ⟨q4, q5, q1⟩

set_option maxRecDepth 100000 in
theorem R_us (w : am_W) {d : Nat} {P : Option am_V → am_G → Prop} (G : am_G) (v m p b e n : Nat) (M : mT) (l1 l5 : Option am_V) (hv : v < 2) (hm : m < 6) (hp : p < mN M) (hV : mV M) (hb : b < mN M) (he : e < mN M) (hbe : b < e) (hne : n = e - b - 1) (k : Nat) (l14 l15 l16 : Option am_V) (bf : mF M k ≤ 120) (bt : mE M k ≤ 120) (hn6 : mN M ≤ 60) (K : am_Go w jR_unfold d (0, 0) 264 [some (.inr (some 163)), l1, some (.inl (nI p)), some (.inl (nI (6 * v + m))), some (.inl (nI (60 * (6 * v + m)))), l5, some (.inl (nI b)), some (.inl (nI e)), some (.inl (nI n)), some (.inl (nI k)), some (.inl (nI (8 * (6 * v + m) + k))), some (.inl (nI (mF M k))), some (.inl (nI (mE M k))), some (.inl (nI (mvd p n (mP M k)))), some (.inl (nI (max (mF M k) (b + 1)))), some (.inl (nI (min (mE M k) e))), some (.inl (nI (max (mF M k) (p + 1))))] [.inl (nI (min (mE M k) p)), .inl (nI (mF M k)), .inr (some 163)] G P) : am_Go w jR_unfold d (0, 0) 199 [some (.inr (some 163)), l1, some (.inl (nI p)), some (.inl (nI (6 * v + m))), some (.inl (nI (60 * (6 * v + m)))), l5, some (.inl (nI b)), some (.inl (nI e)), some (.inl (nI n)), some (.inl (nI k)), some (.inl (nI (8 * (6 * v + m) + k))), some (.inl (nI (mF M k))), some (.inl (nI (mE M k))), some (.inl (nI (mvd p n (mP M k)))), l14, l15, l16] [] G P := by
  have S4 : am_Go w jR_unfold d (0, 0) 249 [some (.inr (some 163)), l1, some (.inl (nI p)), some (.inl (nI (6 * v + m))), some (.inl (nI (60 * (6 * v + m)))), l5, some (.inl (nI b)), some (.inl (nI e)), some (.inl (nI n)), some (.inl (nI k)), some (.inl (nI (8 * (6 * v + m) + k))), some (.inl (nI (mF M k))), some (.inl (nI (mE M k))), some (.inl (nI (mvd p n (mP M k)))), some (.inl (nI (max (mF M k) (b + 1)))), some (.inl (nI (min (mE M k) e))), some (.inl (nI (max (mF M k) (p + 1))))] [] G P := by
    refine go_aload_n dR_unfold_249 rfl rfl ?_
    refine go_iload dR_unfold_250 rfl ?_
    refine go_iload dR_unfold_252 rfl ?_
    refine go_iload_n dR_unfold_254 rfl rfl ?_
    refine go_icmp_geN (by omega) (by omega) dR_unfold_255 (tgt := 263) (by decide) (fun c255 => ?_) (fun c255 => ?_)
    · refine go_iload_n dR_unfold_263 rfl rfl ?_
      first | refine go_top (mnT c255) ?_ | refine go_top (mnF c255) ?_
      exact K
    · refine go_iload dR_unfold_258 rfl ?_
      refine go_goto dR_unfold_260 (tgt := 264) (by decide) ?_
      first | refine go_top (mnT c255) ?_ | refine go_top (mnF c255) ?_
      exact K
  have S3 : am_Go w jR_unfold d (0, 0) 233 [some (.inr (some 163)), l1, some (.inl (nI p)), some (.inl (nI (6 * v + m))), some (.inl (nI (60 * (6 * v + m)))), l5, some (.inl (nI b)), some (.inl (nI e)), some (.inl (nI n)), some (.inl (nI k)), some (.inl (nI (8 * (6 * v + m) + k))), some (.inl (nI (mF M k))), some (.inl (nI (mE M k))), some (.inl (nI (mvd p n (mP M k)))), some (.inl (nI (max (mF M k) (b + 1)))), some (.inl (nI (min (mE M k) e))), l16] [] G P := by
    refine go_iload dR_unfold_233 rfl ?_
    refine go_iload_n dR_unfold_235 rfl rfl ?_
    refine go_icmp_leN (by omega) (by omega) dR_unfold_236 (tgt := 244) (by decide) (fun c236 => ?_) (fun c236 => ?_)
    · refine go_iload_n dR_unfold_244 rfl rfl ?_
      refine go_iconst (nI 1) (by decide) dR_unfold_245 ?_
      first | refine go_iaddN dR_unfold_246 ?_ | refine go_iadd dR_unfold_246 ?_
      first | refine go_top (mxT c236) ?_ | refine go_top (mxF c236) ?_
      refine go_istore dR_unfold_247 (Nat.le_of_ble_eq_true rfl) ?_
      exact S4
    · refine go_iload dR_unfold_239 rfl ?_
      refine go_goto dR_unfold_241 (tgt := 247) (by decide) ?_
      first | refine go_top (mxT c236) ?_ | refine go_top (mxF c236) ?_
      refine go_istore dR_unfold_247 (Nat.le_of_ble_eq_true rfl) ?_
      exact S4
  have S2 : am_Go w jR_unfold d (0, 0) 217 [some (.inr (some 163)), l1, some (.inl (nI p)), some (.inl (nI (6 * v + m))), some (.inl (nI (60 * (6 * v + m)))), l5, some (.inl (nI b)), some (.inl (nI e)), some (.inl (nI n)), some (.inl (nI k)), some (.inl (nI (8 * (6 * v + m) + k))), some (.inl (nI (mF M k))), some (.inl (nI (mE M k))), some (.inl (nI (mvd p n (mP M k)))), some (.inl (nI (max (mF M k) (b + 1)))), l15, l16] [] G P := by
    refine go_iload dR_unfold_217 rfl ?_
    refine go_iload dR_unfold_219 rfl ?_
    refine go_icmp_geN (by omega) (by omega) dR_unfold_221 (tgt := 229) (by decide) (fun c221 => ?_) (fun c221 => ?_)
    · refine go_iload dR_unfold_229 rfl ?_
      first | refine go_top (mnT c221) ?_ | refine go_top (mnF c221) ?_
      refine go_istore dR_unfold_231 (Nat.le_of_ble_eq_true rfl) ?_
      exact S3
    · refine go_iload dR_unfold_224 rfl ?_
      refine go_goto dR_unfold_226 (tgt := 231) (by decide) ?_
      first | refine go_top (mnT c221) ?_ | refine go_top (mnF c221) ?_
      refine go_istore dR_unfold_231 (Nat.le_of_ble_eq_true rfl) ?_
      exact S3
  refine go_iload dR_unfold_199 rfl ?_
  refine go_iload dR_unfold_201 rfl ?_
  refine go_icmp_leN (by omega) (by omega) dR_unfold_203 (tgt := 211) (by decide) (fun c203 => ?_) (fun c203 => ?_)
  · refine go_iload dR_unfold_211 rfl ?_
    refine go_iconst (nI 1) (by decide) dR_unfold_213 ?_
    first | refine go_iaddN dR_unfold_214 ?_ | refine go_iadd dR_unfold_214 ?_
    first | refine go_top (mxT c203) ?_ | refine go_top (mxF c203) ?_
    refine go_istore dR_unfold_215 (Nat.le_of_ble_eq_true rfl) ?_
    exact S2
  · refine go_iload dR_unfold_206 rfl ?_
    refine go_goto dR_unfold_208 (tgt := 215) (by decide) ?_
    first | refine go_top (mxT c203) ?_ | refine go_top (mxF c203) ?_
    refine go_istore dR_unfold_215 (Nat.le_of_ble_eq_true rfl) ?_
    exact S2
set_option maxRecDepth 100000 in
theorem R_u1 (w : am_W) {d : Nat} {P : Option am_V → am_G → Prop} (hd : 1 ≤ d) (G0 : am_G) (v m p b e n : Nat) (M : mT) (l1 l5 : Option am_V) (hv : v < 2) (hm : m < 6) (hp : p < mN M) (hV : mV M) (hb : b < mN M) (he : e < mN M) (hbe : b < e) (hne : n = e - b - 1) (hM0 : rM G0 (6 * v + m) M) (K : ∀ (G : am_G) l9 l10 l11 l12 l13 l14 l15 l16, St0 G → oNw G0 G → rWw G (uRows M p b e n (mR M)) → am_Go w jR_unfold d (0, 0) 340 [some (.inr (some 163)), l1, some (.inl (nI p)), some (.inl (nI (6 * v + m))), some (.inl (nI (60 * (6 * v + m)))), l5, some (.inl (nI b)), some (.inl (nI e)), some (.inl (nI n)), l9, l10, l11, l12, l13, l14, l15, l16] [] G P) :
    ∀ (r k : Nat) (G : am_G) (l10 l11 l12 l13 l14 l15 l16 : Option am_V), k + r = mR M → St0 G → oNw G0 G → rWw G (uRows M p b e n k) → am_Go w jR_unfold d (0, 0) 146 [some (.inr (some 163)), l1, some (.inl (nI p)), some (.inl (nI (6 * v + m))), some (.inl (nI (60 * (6 * v + m)))), l5, some (.inl (nI b)), some (.inl (nI e)), some (.inl (nI n)), some (.inl (nI k)), l10, l11, l12, l13, l14, l15, l16] [] G P := by
  have hn6 := hV.1
  have hr8 := hV.2.1
  intro r
  induction r with
  | zero =>
    intro k G l10 l11 l12 l13 l14 l15 l16 hk hS ho hW
    have mr := (hM0.nw ho).1.2.1
    refine go_iload dR_unfold_146 rfl ?_
    refine go_aload_n dR_unfold_148 rfl rfl ?_
    refine go_getO (a := 169) dR_unfold_149 flR_25 rfl (hS.s sh_163) (hS.r rt_rows) ?_
    refine go_iload_n dR_unfold_152 rfl rfl ?_
    first | refine go_ialV (hS.s sh_169) (by omega) (by decide) (by assumption) dR_unfold_153 ?_ | refine go_ialoadN (hS.s sh_169) (by omega) (by decide) dR_unfold_153 ?_
    refine go_icmp_geN (by omega) (by omega) dR_unfold_154 (tgt := 340) (by decide) (fun c1 => ?_) (fun c1 => absurd c1 (by omega))
    rw [show k = mR M by omega] at hW
    exact K G _ _ _ _ _ _ _ _ hS ho hW
  | succ r ih =>
    intro k G l10 l11 l12 l13 l14 l15 l16 hk hS ho hW
    have mr := (hM0.nw ho).1.2.1
    have hkr : k < mR M := by omega
    obtain ⟨e1, e2, e3, e4⟩ := (hM0.nw ho).2.2 k hkr
    obtain ⟨b1, b2, b3, b4⟩ := hV.2.2.2.2 k hkr
    have u3 := uRows_le (M := M) (p := p) (b := b) (e := e) (n := n) k
    refine go_iload dR_unfold_146 rfl ?_
    refine go_aload_n dR_unfold_148 rfl rfl ?_
    refine go_getO (a := 169) dR_unfold_149 flR_25 rfl (hS.s sh_163) (hS.r rt_rows) ?_
    refine go_iload_n dR_unfold_152 rfl rfl ?_
    first | refine go_ialV (hS.s sh_169) (by omega) (by decide) (by assumption) dR_unfold_153 ?_ | refine go_ialoadN (hS.s sh_169) (by omega) (by decide) dR_unfold_153 ?_
    refine go_icmp_geN (by omega) (by omega) dR_unfold_154 (tgt := 340) (by decide) (fun c1 => absurd c1 (by omega)) (fun c1 => ?_)
    refine go_bipush (nI 8) (by decide) dR_unfold_157 ?_
    refine go_iload_n dR_unfold_159 rfl rfl ?_
    first | refine go_imulN dR_unfold_160 ?_ | refine go_imul dR_unfold_160 ?_
    refine go_iload dR_unfold_161 rfl ?_
    first | refine go_iaddN dR_unfold_163 ?_ | refine go_iadd dR_unfold_163 ?_
    refine go_istore dR_unfold_164 (Nat.le_of_ble_eq_true rfl) ?_
    refine go_aload_n dR_unfold_166 rfl rfl ?_
    refine go_getO (a := 170) dR_unfold_167 flR_28 rfl (hS.s sh_163) (hS.r rt_from) ?_
    refine go_iload dR_unfold_170 rfl ?_
    refine go_ialV (hS.s sh_170) (by omega) (by decide) e1 dR_unfold_172 ?_
    refine go_istore dR_unfold_173 (Nat.le_of_ble_eq_true rfl) ?_
    refine go_aload_n dR_unfold_175 rfl rfl ?_
    refine go_getO (a := 171) dR_unfold_176 flR_31 rfl (hS.s sh_163) (hS.r rt_to) ?_
    refine go_iload dR_unfold_179 rfl ?_
    refine go_ialV (hS.s sh_171) (by omega) (by decide) e2 dR_unfold_181 ?_
    refine go_istore dR_unfold_182 (Nat.le_of_ble_eq_true rfl) ?_
    refine go_aload_n dR_unfold_184 rfl rfl ?_
    refine go_getO (a := 172) dR_unfold_185 flR_34 rfl (hS.s sh_163) (hS.r rt_at) ?_
    refine go_iload dR_unfold_188 rfl ?_
    refine go_ialV (hS.s sh_172) (by omega) (by decide) e3 dR_unfold_190 ?_
    refine go_iload_n dR_unfold_191 rfl rfl ?_
    refine go_iload dR_unfold_192 rfl ?_
    refine go_cS (k' := (0, 0)) dR_unfold_194 _ csR_280 stR_shifted rfl (okR_shifted (d := 0) w G (nI (mP M k)) (nI p) (nI n)) (by omega) (by decide) (Nat.le_of_ble_eq_true rfl) (fun r G1 hr hn => ?_)
    obtain ⟨rfl, hG⟩ := hr
    rw [hG]
    clear hG hn
    rw [rSh (by omega) (by omega)]
    refine go_istore dR_unfold_197 (Nat.le_of_ble_eq_true rfl) ?_
    refine R_us w G v m p b e n M l1 l5 hv hm hp hV hb he hbe hne k _ _ _ (by omega) (by omega) hn6 ?_
    refine go_iload dR_unfold_264 rfl ?_
    refine go_aload_n dR_unfold_266 rfl rfl ?_
    refine go_getO (a := 173) dR_unfold_267 flR_37 rfl (hS.s sh_163) (hS.r rt_type) ?_
    refine go_iload dR_unfold_270 rfl ?_
    refine go_ialV (hS.s sh_173) (by omega) (by decide) e4 dR_unfold_272 ?_
    refine go_cV (k' := (0, 0)) dR_unfold_273 _ csR_288 (hS.s sh_163) rfl imR_newRow seR_newRow rfl (okR_newRow (d := 0) w G (uRows M p b e n k) (mF M k) (min (mE M k) p) (mvd p n (mP M k)) (mY M k) (nI (min (mE M k) p)) hS hW (by omega) (nI_ltI (by omega) (by omega)) (fun _ => rfl)) (by omega) (by decide) (Nat.le_of_ble_eq_true rfl) (fun r G1 hr hn => ?_)
    obtain ⟨rfl, W1, o1, -⟩ := hr
    have hS := o1.St hS
    have e4 := ((hM0.nw (ho.tr o1)).2.2 k hkr).2.2.2
    refine go_aload_n dR_unfold_276 rfl rfl ?_
    refine go_iload_n dR_unfold_277 rfl rfl ?_
    refine go_iload dR_unfold_278 rfl ?_
    first | refine go_iaddN dR_unfold_280 ?_ | refine go_iadd dR_unfold_280 ?_
    refine go_iload dR_unfold_281 rfl ?_
    refine go_isubN (by omega) dR_unfold_283 ?_
    refine go_iconst (nI 1) (by decide) dR_unfold_284 ?_
    refine go_isubN (by omega) dR_unfold_285 ?_
    rw [show p + max (mF M k) (b + 1) - b - 1 = max (mF M k) (b + 1) + p - (b + 1) by omega]
    refine go_iload_n dR_unfold_286 rfl rfl ?_
    refine go_iload dR_unfold_287 rfl ?_
    refine go_iaddN dR_unfold_289 ?_
    rw [Nat.add_comm p (min (mE M k) e)]
    refine go_iload dR_unfold_290 rfl ?_
    refine go_isub dR_unfold_292 ?_
    refine go_iconst (nI 1) (by decide) dR_unfold_293 ?_
    refine go_isub dR_unfold_294 ?_
    refine go_iload dR_unfold_295 rfl ?_
    refine go_aload_n dR_unfold_297 rfl rfl ?_
    refine go_getO (a := 173) dR_unfold_298 flR_37 rfl (hS.s sh_163) (hS.r rt_type) ?_
    refine go_iload dR_unfold_301 rfl ?_
    refine go_ialV (hS.s sh_173) (by omega) (by decide) e4 dR_unfold_303 ?_
    refine go_cV (k' := (0, 0)) dR_unfold_304 _ csR_288 (hS.s sh_163) rfl imR_newRow seR_newRow rfl (okR_newRow (d := 0) w G1 (wAdd (uRows M p b e n k) (mF M k) (min (mE M k) p) (mvd p n (mP M k)) (mY M k)) (max (mF M k) (b + 1) + p - (b + 1)) (min (mE M k) e + p - (b + 1)) (mvd p n (mP M k)) (mY M k) (nI (min (mE M k) e + p) - nI b - nI 1) hS W1 (by have := (wAdd_le (R := uRows M p b e n k) (f := mF M k) (t := min (mE M k) p) (a := (mvd p n (mP M k))) (y := mY M k)).2; omega) (v2_lt (by omega) (by omega) (by omega)) (v2_eq)) (by omega) (by decide) (Nat.le_of_ble_eq_true rfl) (fun r G1 hr hn => ?_)
    obtain ⟨rfl, W2, o2, -⟩ := hr
    have hS := o2.St hS
    have e4 := ((hM0.nw ((ho.tr o1).tr o2)).2.2 k hkr).2.2.2
    refine go_aload_n dR_unfold_307 rfl rfl ?_
    refine go_iload dR_unfold_308 rfl ?_
    refine go_iload dR_unfold_310 rfl ?_
    first | refine go_iaddN dR_unfold_312 ?_ | refine go_iadd dR_unfold_312 ?_
    refine go_iconst (nI 1) (by decide) dR_unfold_313 ?_
    refine go_isubN (by omega) dR_unfold_314 ?_
    refine go_iload dR_unfold_315 rfl ?_
    refine go_iload dR_unfold_317 rfl ?_
    first | refine go_iaddN dR_unfold_319 ?_ | refine go_iadd dR_unfold_319 ?_
    refine go_iconst (nI 1) (by decide) dR_unfold_320 ?_
    refine go_isub dR_unfold_321 ?_
    refine go_iload dR_unfold_322 rfl ?_
    refine go_aload_n dR_unfold_324 rfl rfl ?_
    refine go_getO (a := 173) dR_unfold_325 flR_37 rfl (hS.s sh_163) (hS.r rt_type) ?_
    refine go_iload dR_unfold_328 rfl ?_
    refine go_ialV (hS.s sh_173) (by omega) (by decide) e4 dR_unfold_330 ?_
    refine go_cV (k' := (0, 0)) dR_unfold_331 _ csR_288 (hS.s sh_163) rfl imR_newRow seR_newRow rfl (okR_newRow (d := 0) w G1 (wAdd (wAdd (uRows M p b e n k) (mF M k) (min (mE M k) p) (mvd p n (mP M k)) (mY M k)) (max (mF M k) (b + 1) + p - (b + 1)) (min (mE M k) e + p - (b + 1)) (mvd p n (mP M k)) (mY M k)) (max (mF M k) (p + 1) + n - 1) (mE M k + n - 1) (mvd p n (mP M k)) (mY M k) (nI (mE M k + n) - nI 1) hS W2 (by have h1 := (wAdd_le (R := uRows M p b e n k) (f := mF M k) (t := min (mE M k) p) (a := (mvd p n (mP M k))) (y := mY M k)).2; have h2 := (wAdd_le (R := wAdd (uRows M p b e n k) (mF M k) (min (mE M k) p) (mvd p n (mP M k)) (mY M k)) (f := max (mF M k) (b + 1) + p - (b + 1)) (t := min (mE M k) e + p - (b + 1)) (a := (mvd p n (mP M k))) (y := mY M k)).2; omega) (v3_lt (by omega) (by omega)) (v3_eq)) (by omega) (by decide) (Nat.le_of_ble_eq_true rfl) (fun r G1 hr hn => ?_)
    obtain ⟨rfl, W3, o3, -⟩ := hr
    have hS := o3.St hS
    have e4 := ((hM0.nw (((ho.tr o1).tr o2).tr o3)).2.2 k hkr).2.2.2
    refine go_inc dR_unfold_334 rfl ?_
    refine go_goto dR_unfold_337 (tgt := 146) (by decide) ?_
    exact ih (k + 1) G1 _ _ _ _ _ _ _ (by omega) hS (((ho.tr o1).tr o2).tr o3) W3
set_option maxRecDepth 100000 in
theorem R_u2 (w : am_W) {d : Nat} {P : Option am_V → am_G → Prop} (hd : 1 ≤ d) (G0 : am_G) (v m p b e n : Nat) (M : mT) (l1 l5 : Option am_V) (hv : v < 2) (hm : m < 6) (hp : p < mN M) (hV : mV M) (hb : b < mN M) (he : e < mN M) (hbe : b < e) (hne : n = e - b - 1) (R : wT) (hN : mN M + n - 1 ≤ 60) (hE : plE M b e) (hM0 : rM G0 (6 * v + m) M) (K : ∀ (G : am_G) l9 l10 l11 l12 l13 l14 l15 l16, St0 G → oR (fun i => 193 ≤ i ∧ i ≤ 195) G0 G → rI G (mNew M p n (uC M p b) R) (fun i => p ≤ i ∧ i < p + n) → am_Go w jR_unfold d (0, 0) 459 [some (.inr (some 163)), l1, some (.inl (nI p)), some (.inl (nI (6 * v + m))), some (.inl (nI (60 * (6 * v + m)))), l5, some (.inl (nI b)), some (.inl (nI e)), some (.inl (nI n)), l9, l10, l11, l12, l13, l14, l15, l16] [] G P) :
    ∀ (r k : Nat) (G : am_G) (l10 l11 l12 l13 l14 l15 l16 : Option am_V), k + r = n → St0 G → oR (fun i => 193 ≤ i ∧ i ≤ 195) G0 G → rI G (mNew M p n (uC M p b) R) (fun i => p ≤ i ∧ i < p + k) → am_Go w jR_unfold d (0, 0) 371 [some (.inr (some 163)), l1, some (.inl (nI p)), some (.inl (nI (6 * v + m))), some (.inl (nI (60 * (6 * v + m)))), l5, some (.inl (nI b)), some (.inl (nI e)), some (.inl (nI n)), some (.inl (nI k)), l10, l11, l12, l13, l14, l15, l16] [] G P := by
  have hn6 := hV.1
  intro r
  induction r with
  | zero =>
    intro k G l10 l11 l12 l13 l14 l15 l16 hk hS ho hI
    refine go_iload dR_unfold_371 rfl ?_
    refine go_iload dR_unfold_373 rfl ?_
    refine go_icmp_geN (by omega) (by omega) dR_unfold_375 (tgt := 459) (by decide) (fun c1 => ?_) (fun c1 => absurd c1 (by omega))
    rw [show k = n by omega] at hI
    exact K G _ _ _ _ _ _ _ _ hS ho hI
  | succ r ih =>
    intro k G l10 l11 l12 l13 l14 l15 l16 hk hS ho hI
    have hj : b + 1 + k < mN M := by omega
    obtain ⟨m1, m2, m3⟩ := (hM0.j (G' := G) (fun i h1 h2 => ho.2.2 i (by omega))).2.1 (b + 1 + k) hj
    have h28 := (hV.2.2.2.1 _ hj).1
    obtain ⟨T1, T2, T3⟩ := mNew_in (M := M) (p := p) (n := n) (C := uC M p b) (R := R) (show k < n by omega)
    refine go_iload dR_unfold_371 rfl ?_
    refine go_iload dR_unfold_373 rfl ?_
    refine go_icmp_geN (by omega) (by omega) dR_unfold_375 (tgt := 459) (by decide) (fun c1 => absurd c1 (by omega)) (fun c1 => ?_)
    refine go_iload dR_unfold_378 rfl ?_
    refine go_iload dR_unfold_380 rfl ?_
    first | refine go_iaddN dR_unfold_382 ?_ | refine go_iadd dR_unfold_382 ?_
    refine go_iconst (nI 1) (by decide) dR_unfold_383 ?_
    first | refine go_iaddN dR_unfold_384 ?_ | refine go_iadd dR_unfold_384 ?_
    refine go_iload dR_unfold_385 rfl ?_
    refine go_iaddN dR_unfold_387 ?_
    rw [show 60 * (6 * v + m) + b + 1 + k = 60 * (6 * v + m) + (b + 1 + k) by omega]
    refine go_istore dR_unfold_388 (Nat.le_of_ble_eq_true rfl) ?_
    refine go_aload_n dR_unfold_390 rfl rfl ?_
    refine go_getO (a := 164) dR_unfold_391 flR_7 rfl (hS.s sh_163) (hS.r rt_op) ?_
    refine go_iload dR_unfold_394 rfl ?_
    refine go_ialV (hS.s sh_164) (by omega) (by decide) m1 dR_unfold_396 ?_
    refine go_cS (k' := (0, 0)) dR_unfold_397 _ csR_139 stR_isJump rfl (okR_isJump (d := 0) w G (nI (mO M (b + 1 + k)))) (by omega) (by decide) (Nat.le_of_ble_eq_true rfl) (fun r G1 hr hn => ?_)
    obtain ⟨rfl, hG⟩ := hr
    rw [hG]
    clear hG hn
    refine go_istore dR_unfold_400 (Nat.le_of_ble_eq_true rfl) ?_
    refine go_aload_n dR_unfold_402 rfl rfl ?_
    refine go_iload_n dR_unfold_403 rfl rfl ?_
    refine go_iload dR_unfold_404 rfl ?_
    first | refine go_iaddN dR_unfold_406 ?_ | refine go_iadd dR_unfold_406 ?_
    refine go_aload_n dR_unfold_407 rfl rfl ?_
    refine go_getO (a := 164) dR_unfold_408 flR_7 rfl (hS.s sh_163) (hS.r rt_op) ?_
    refine go_iload dR_unfold_411 rfl ?_
    refine go_ialV (hS.s sh_164) (by omega) (by decide) m1 dR_unfold_413 ?_
    refine go_aload_n dR_unfold_414 rfl rfl ?_
    refine go_getO (a := 165) dR_unfold_415 flR_13 rfl (hS.s sh_163) (hS.r rt_one) ?_
    refine go_iload dR_unfold_418 rfl ?_
    refine go_ialV (hS.s sh_165) (by omega) (by decide) m2 dR_unfold_420 ?_
    refine go_iload dR_unfold_421 rfl ?_
    refine go_if_eqB dR_unfold_423 (tgt := 443) (by decide) (fun c423 => ?_) (fun c423 => ?_)
    · refine go_aload_n dR_unfold_443 rfl rfl ?_
      refine go_getO (a := 166) dR_unfold_444 flR_16 rfl (hS.s sh_163) (hS.r rt_two) ?_
      refine go_iload dR_unfold_447 rfl ?_
      refine go_ialV (hS.s sh_166) (by omega) (by decide) m3 dR_unfold_449 ?_
      have hB := uC_n (p := p) (jmF c423)
      refine go_cV (k' := (0, 0)) dR_unfold_450 _ csR_292 (hS.s sh_163) rfl imR_newInstruction seR_newInstruction rfl (okR_newInstruction (d := 0) w G (p + k) _ _ _ (by omega) hS) (by omega) (by decide) (Nat.le_of_ble_eq_true rfl) (fun r G1 hr hn => ?_)
      obtain ⟨rfl, hG⟩ := hr
      rw [hG]
      clear hG hn
      refine go_inc dR_unfold_453 rfl ?_
      refine go_goto dR_unfold_456 (tgt := 371) (by decide) ?_
      refine ih (k + 1) _ _ _ _ _ _ _ _ (by omega) hS (((ho.tr (oR.wi ⟨by decide, by decide⟩)).tr (oR.wi ⟨by decide, by decide⟩)).tr (oR.wi ⟨by decide, by decide⟩)) (hI.put (by rw [T1]; rfl) (by rw [T2]; rfl) (by rw [T3, hB]) (fun i hi => ?_))
      have hi : p ≤ i ∧ i < p + (k + 1) := hi
      omega
    · refine go_iload_n dR_unfold_426 rfl rfl ?_
      refine go_aload_n dR_unfold_427 rfl rfl ?_
      refine go_getO (a := 166) dR_unfold_428 flR_16 rfl (hS.s sh_163) (hS.r rt_two) ?_
      refine go_iload dR_unfold_431 rfl ?_
      refine go_ialV (hS.s sh_166) (by omega) (by decide) m3 dR_unfold_433 ?_
      have hj4 := jmT c423 h28
      obtain ⟨q1, q2⟩ := hV.jm hj hj4
      obtain ⟨q3, q4, -⟩ := hE.jmp (show b < b + 1 + k by omega) (by omega) hj4
      rw [q1]
      first | refine go_iaddN dR_unfold_434 ?_ | refine go_iadd dR_unfold_434 ?_
      refine go_iload dR_unfold_435 rfl ?_
      refine go_isubN (by omega) dR_unfold_437 ?_
      refine go_iconst (nI 1) (by decide) dR_unfold_438 ?_
      refine go_isubN (by omega) dR_unfold_439 ?_
      rw [Nat.sub_sub]
      have hB := uC_y (p := p) hj4
      refine go_goto dR_unfold_440 (tgt := 450) (by decide) ?_
      refine go_cV (k' := (0, 0)) dR_unfold_450 _ csR_292 (hS.s sh_163) rfl imR_newInstruction seR_newInstruction rfl (okR_newInstruction (d := 0) w G (p + k) _ _ _ (by omega) hS) (by omega) (by decide) (Nat.le_of_ble_eq_true rfl) (fun r G1 hr hn => ?_)
      obtain ⟨rfl, hG⟩ := hr
      rw [hG]
      clear hG hn
      refine go_inc dR_unfold_453 rfl ?_
      refine go_goto dR_unfold_456 (tgt := 371) (by decide) ?_
      refine ih (k + 1) _ _ _ _ _ _ _ _ (by omega) hS (((ho.tr (oR.wi ⟨by decide, by decide⟩)).tr (oR.wi ⟨by decide, by decide⟩)).tr (oR.wi ⟨by decide, by decide⟩)) (hI.put (by rw [T1]; rfl) (by rw [T2]; rfl) (by rw [T3, hB]) (fun i hi => ?_))
      have hi : p ≤ i ∧ i < p + (k + 1) := hi
      omega
set_option maxRecDepth 100000 in
theorem R_u0 (w : am_W) {d : Nat} (hd : 2 ≤ d) (G : am_G) (v m p b e n : Nat) (M : mT) (l1 l5 : Option am_V) (hv : v < 2) (hm : m < 6) (hp : p < mN M) (hV : mV M) (hb : b < mN M) (he : e < mN M) (hbe : b < e) (hne : n = e - b - 1) (l9 l10 l11 l12 l13 l14 l15 l16 : Option am_V) (hE : plE M b e) (hS : St0 G) (hM : rM G (6 * v + m) M) : am_Go w jR_unfold d (0, 0) 138 [some (.inr (some 163)), l1, some (.inl (nI p)), some (.inl (nI (6 * v + m))), some (.inl (nI (60 * (6 * v + m)))), l5, some (.inl (nI b)), some (.inl (nI e)), some (.inl (nI n)), l9, l10, l11, l12, l13, l14, l15, l16] [] G (fun r G' => (r = some (.inl (-3)) ∧ (60 < mN M + n - 1 ∨ 8 < (uRows M p b e n (mR M)).1) ∧ oNw G G') ∨ (r = some (.inl (nI (mN M + n - 1))) ∧ mN M + n - 1 ≤ 60 ∧ (uRows M p b e n (mR M)).1 ≤ 8 ∧ ∃ G1, oNw G G1 ∧ oQ (6 * v + m) G1 G' ∧ rM G' (6 * v + m) (mNew M p n (uC M p b) (uRows M p b e n (mR M))))) := by
  have hn6 := hV.1
  have hr8 := hV.2.1
  have W0 : rWw (am_wi G 163 51 (nI 0)) (uRows M p b e n 0) := ⟨wi_Is, fun i hi => absurd hi (Nat.not_lt_zero i)⟩
  have u3 := uRows_le (M := M) (p := p) (b := b) (e := e) (n := n) (mR M)
  refine go_aload_n dR_unfold_138 rfl rfl ?_
  refine go_iconst (nI 0) (by decide) dR_unfold_139 ?_
  refine go_putI dR_unfold_140 fpR_277 rfl (hS.s sh_163) ?_
  refine go_iconst (nI 0) (by decide) dR_unfold_143 ?_
  refine go_istore dR_unfold_144 (Nat.le_of_ble_eq_true rfl) ?_
  refine R_u1 w (by omega) G v m p b e n M l1 l5 hv hm hp hV hb he hbe hne hM (fun X k9 k10 k11 k12 k13 k14 k15 k16 SX ox WX => ?_) (mR M) 0 _ _ _ _ _ _ _ _ (by omega) hS oNw.w3 W0
  have hS := SX
  have mn := (hM.nw ox).1.1
  have nr := WX.1
  refine go_aload_n dR_unfold_340 rfl rfl ?_
  refine go_getO (a := 167) dR_unfold_341 flR_19 rfl (hS.s sh_163) (hS.r rt_many) ?_
  refine go_iload_n dR_unfold_344 rfl rfl ?_
  refine go_ialV (hS.s sh_167) (by omega) (by decide) mn dR_unfold_345 ?_
  refine go_iload dR_unfold_346 rfl ?_
  first | refine go_iaddN dR_unfold_348 ?_ | refine go_iadd dR_unfold_348 ?_
  refine go_iconst (nI 1) (by decide) dR_unfold_349 ?_
  refine go_isubN (by omega) dR_unfold_350 ?_
  refine go_bipush (nI 60) (by decide) dR_unfold_351 ?_
  refine go_icmp_gtN (by omega) (by decide) dR_unfold_353 (tgt := 365) (by decide) (fun c353 => ?_) (fun c353 => ?_)
  · refine go_bipush (-3) (by decide) dR_unfold_365 ?_
    refine go_ireturn rfl dR_unfold_367 ?_
    first | exact Or.inl ⟨rfl, Or.inr c362, ox⟩ | exact Or.inl ⟨rfl, Or.inl c353, ox⟩
  · refine go_aload_n dR_unfold_356 rfl rfl ?_
    refine go_getV dR_unfold_357 flR_277 rfl (hS.s sh_163) (by first | assumption | (simp (disch := omega) only [wi_I, ro_I, wi_In, wi_Is]; done) | (simp (disch := omega) only [wi_I, ro_I, wi_In, wi_Is]; first | assumption | rfl) | rfl) ?_
    refine go_bipush (nI 8) (by decide) dR_unfold_360 ?_
    refine go_icmp_leN (by omega) (by decide) dR_unfold_362 (tgt := 368) (by decide) (fun c362 => ?_) (fun c362 => ?_)
    · refine go_iconst (nI 0) (by decide) dR_unfold_368 ?_
      refine go_istore dR_unfold_369 (Nat.le_of_ble_eq_true rfl) ?_
      refine R_u2 w (by omega) X v m p b e n M l1 l5 hv hm hp hV hb he hbe hne (uRows M p b e n (mR M)) (by omega) hE (hM.nw ox) (fun Y j9 j10 j11 j12 j13 j14 j15 j16 SY oy IY => ?_) n 0 X _ _ _ _ _ _ _ (by omega) SX oR.rf (fun i hi => absurd hi.2 (by omega))
      have hS := SY
      have oY : oNw X Y := ⟨oy.up (fun i hi => by omega), fun k _ => by rw [oy.2.2 163 (by omega)]⟩
      have WY : rWw Y (uRows M p b e n (mR M)) := by
        obtain ⟨w1, w2⟩ := WX
        refine ⟨by rw [oy.2.2 163 (by omega)]; exact w1, fun i hi => ?_⟩
        rw [oy.2.2 196 (by omega), oy.2.2 197 (by omega), oy.2.2 198 (by omega), oy.2.2 199 (by omega)]
        exact w2 i hi
      refine go_aload_n dR_unfold_459 rfl rfl ?_
      refine go_iload_n dR_unfold_460 rfl rfl ?_
      refine go_iload_n dR_unfold_461 rfl rfl ?_
      refine go_iload dR_unfold_462 rfl ?_
      refine go_cV (k' := (0, 0)) dR_unfold_464 _ csR_295 (hS.s sh_163) rfl imR_replace seR_replace rfl (okR_replace (d := 1) w (by decide) Y v m p n M (uC M p b) (uRows M p b e n (mR M)) hv hm hp hV (by omega) (by omega) SY ((hM.nw ox).nw oY) WY IY) (by omega) (by decide) (Nat.le_of_ble_eq_true rfl) (fun r G1 hr hn => ?_)
      obtain ⟨rfl, Gx, q1, q2, q3⟩ := hr
      refine go_ireturn rfl dR_unfold_467 ?_
      exact Or.inr ⟨rfl, c353, c362, Gx, (ox.tr oY).tr q1, q2, q3⟩
    · refine go_bipush (-3) (by decide) dR_unfold_365 ?_
      refine go_ireturn rfl dR_unfold_367 ?_
      first | exact Or.inl ⟨rfl, Or.inr c362, ox⟩ | exact Or.inl ⟨rfl, Or.inl c353, ox⟩
set_option maxRecDepth 100000 in
theorem okR_unfold (w : am_W) {d : Nat} (hd : 4 ≤ d) (G : am_G) (s : sT) (x y : Int32) (hS : St0 G) (hc : rS G s) (hv : sV s) : am_Ok w jR_unfold d (0, 0) [.inr (some 163), .inl x, .inl y] G (fun r G' => r = some (.inl (aUnf s x y).1) ∧ rEnd G G' (aUnf s x y).2) := by
  refine am_ok_of rfl (Nat.le_of_ble_eq_true rfl) ?_
  show am_Go w jR_unfold d (0, 0) 0 [some (.inr (some 163)), some (.inl x), some (.inl y), none, none, none, none, none, none, none, none, none, none, none, none, none, none] [] G _
  refine go_iload_n dR_unfold_0 rfl rfl ?_
  refine go_iconst (nI 0) (by decide) dR_unfold_1 ?_
  refine go_iconst (nI 5) (by decide) dR_unfold_2 ?_
  refine go_cS (k' := (0, 0)) dR_unfold_3 _ csR_123 stR_in rfl (okR_in0 (d := 0) w G x 5 (by decide)) (by omega) (by decide) (Nat.le_of_ble_eq_true rfl) (fun r G1 hr hn => ?_)
  obtain ⟨rfl, hG⟩ := hr
  rw [hG]
  clear hG hn
  refine go_if_neB dR_unfold_6 (tgt := 11) (by decide) (fun c6 => ?_) (fun c6 => ?_)
  · obtain ⟨m, hm, rfl⟩ := bel_of c6 (by decide)
    have hv1 := hv.1
    refine go_aload_n dR_unfold_11 rfl rfl ?_
    refine go_iload_n dR_unfold_12 rfl rfl ?_
    refine go_cV (k' := (0, 0)) dR_unfold_13 _ csR_135 (hS.s sh_163) rfl imR_own seR_own rfl (okR_own (d := 0) w G s.1 m hc.1 hS) (by omega) (by decide) (Nat.le_of_ble_eq_true rfl) (fun r G1 hr hn => ?_)
    obtain ⟨rfl, hG⟩ := hr
    rw [hG]
    clear hG hn
    refine go_istore_n dR_unfold_16 rfl (Nat.le_of_ble_eq_true rfl) ?_
    refine go_bipush (nI 60) (by decide) dR_unfold_17 ?_
    refine go_iload_n dR_unfold_19 rfl rfl ?_
    first | refine go_imulN dR_unfold_20 ?_ | refine go_imul dR_unfold_20 ?_
    refine go_istore dR_unfold_21 (Nat.le_of_ble_eq_true rfl) ?_
    refine go_aload_n dR_unfold_23 rfl rfl ?_
    refine go_iload_n dR_unfold_24 rfl rfl ?_
    refine go_cV (k' := (0, 0)) dR_unfold_25 _ csR_188 (hS.s sh_163) rfl imR_isRight seR_isRight rfl (okR_isRight (d := 3) w (by decide) G s.1 m (zQ s s.1) hv1 hm hS (rS.hR hc hv hv1)) (by omega) (by decide) (Nat.le_of_ble_eq_true rfl) (fun r G1 hr hn => ?_)
    obtain ⟨t, rfl, I1, o1, L1, N1⟩ := hr
    have hS := o1.St hS
    refine go_istore dR_unfold_28 (Nat.le_of_ble_eq_true rfl) ?_
    refine go_iload dR_unfold_30 rfl ?_
    refine go_if_neB dR_unfold_32 (tgt := 38) (by decide) (fun c32 => ?_) (fun c32 => ?_)
    · obtain ⟨hL, -⟩ := L1 (nbT c32)
      rw [aUnf_y hm hL]
      have RC := hc.j o1
      have hM := RC.2.1 (6 * s.1 + m) (by omega)
      have hV := hv.2.1 (6 * s.1 + m) (by omega)
      have hM : rM G1 (6 * s.1 + m) (zM s m) := hM
      have hV : mV (zM s m) := hV
      have hn6 := hV.1
      have mn := hM.1.1
      have oR1 := o1.rf2
      refine go_iload_n dR_unfold_38 rfl rfl ?_
      refine go_iconst (nI 0) (by decide) dR_unfold_39 ?_
      refine go_aload_n dR_unfold_40 rfl rfl ?_
      refine go_getO (a := 167) dR_unfold_41 flR_19 rfl (hS.s sh_163) (hS.r rt_many) ?_
      refine go_iload_n dR_unfold_44 rfl rfl ?_
      refine go_ialV (hS.s sh_167) (by omega) (by decide) mn dR_unfold_45 ?_
      refine go_iconst (nI 1) (by decide) dR_unfold_46 ?_
      refine go_isub dR_unfold_47 ?_
      refine go_cS (k' := (0, 0)) dR_unfold_48 _ csR_123 stR_in rfl (okR_inN (d := 0) w G1 y (mN (zM s m)) (by omega)) (by omega) (by decide) (Nat.le_of_ble_eq_true rfl) (fun r G1 hr hn => ?_)
      obtain ⟨rfl, hG⟩ := hr
      subst hG
      clear hn
      refine go_if_eqB dR_unfold_51 (tgt := 86) (by decide) (fun c51 => ?_) (fun c51 => ?_)
      · refine go_bipush (-2) (by decide) dR_unfold_86 ?_
        refine go_ireturn rfl dR_unfold_88 ?_
        first | (have q := uU_o (s := s) (m := m) c51; rw [q]; exact ⟨rfl, RC, oR1⟩) | (have q := uU_n (s := s) hn6 hp c65 (pE_n (fun z => absurd z.1 (Nat.not_lt.mpr c83))); rw [q]; exact ⟨rfl, RC, oR1⟩) | (have q := uU_g (s := s) (m := m) (show p < 1000 by omega) c65; rw [q]; exact ⟨rfl, RC, oR1⟩)
      · obtain ⟨p, hp, rfl⟩ := bel_of c51 (by omega)
        obtain ⟨m1, m2, m3⟩ := hM.2.1 p hp
        have h28 := (hV.2.2.2.1 p hp).1
        refine go_aload_n dR_unfold_54 rfl rfl ?_
        refine go_getO (a := 164) dR_unfold_55 flR_7 rfl (hS.s sh_163) (hS.r rt_op) ?_
        refine go_iload dR_unfold_58 rfl ?_
        refine go_iload_n dR_unfold_60 rfl rfl ?_
        first | refine go_iaddN dR_unfold_61 ?_ | refine go_iadd dR_unfold_61 ?_
        refine go_ialV (hS.s sh_164) (by omega) (by decide) m1 dR_unfold_62 ?_
        refine go_bipush (nI 23) (by decide) dR_unfold_63 ?_
        refine go_icmp_neN (by omega) (by decide) dR_unfold_65 (tgt := 86) (by decide) (fun c65 => ?_) (fun c65 => ?_)
        · refine go_bipush (-2) (by decide) dR_unfold_86 ?_
          refine go_ireturn rfl dR_unfold_88 ?_
          first | (have q := uU_o (s := s) (m := m) c51; rw [q]; exact ⟨rfl, RC, oR1⟩) | (have q := uU_n (s := s) hn6 hp c65 (pE_n (fun z => absurd z.1 (Nat.not_lt.mpr c83))); rw [q]; exact ⟨rfl, RC, oR1⟩) | (have q := uU_g (s := s) (m := m) (show p < 1000 by omega) c65; rw [q]; exact ⟨rfl, RC, oR1⟩)
        · obtain ⟨b1, b2⟩ := hV.jm hp (Or.inr (Or.inr (Or.inr c65)))
          rw [b1] at m3
          refine go_aload_n dR_unfold_68 rfl rfl ?_
          refine go_getO (a := 166) dR_unfold_69 flR_16 rfl (hS.s sh_163) (hS.r rt_two) ?_
          refine go_iload dR_unfold_72 rfl ?_
          refine go_iload_n dR_unfold_74 rfl rfl ?_
          first | refine go_iaddN dR_unfold_75 ?_ | refine go_iadd dR_unfold_75 ?_
          refine go_ialV (hS.s sh_166) (by omega) (by decide) m3 dR_unfold_76 ?_
          refine go_aload_n dR_unfold_77 rfl rfl ?_
          refine go_getO (a := 167) dR_unfold_78 flR_19 rfl (hS.s sh_163) (hS.r rt_many) ?_
          refine go_iload_n dR_unfold_81 rfl rfl ?_
          refine go_ialV (hS.s sh_167) (by omega) (by decide) mn dR_unfold_82 ?_
          refine go_icmp_ltN (by omega) (by omega) dR_unfold_83 (tgt := 89) (by decide) (fun c83 => ?_) (fun c83 => ?_)
          · refine go_aload_n dR_unfold_89 rfl rfl ?_
            refine go_getO (a := 166) dR_unfold_90 flR_16 rfl (hS.s sh_163) (hS.r rt_two) ?_
            refine go_iload dR_unfold_93 rfl ?_
            refine go_iload_n dR_unfold_95 rfl rfl ?_
            first | refine go_iaddN dR_unfold_96 ?_ | refine go_iadd dR_unfold_96 ?_
            refine go_ialV (hS.s sh_166) (by omega) (by decide) m3 dR_unfold_97 ?_
            refine go_istore dR_unfold_98 (Nat.le_of_ble_eq_true rfl) ?_
            refine go_aload_n dR_unfold_100 rfl rfl ?_
            refine go_iload_n dR_unfold_101 rfl rfl ?_
            refine go_iload dR_unfold_102 rfl ?_
            refine go_cV (k' := (0, 0)) dR_unfold_104 _ csR_284 (hS.s sh_163) rfl imR_endOf seR_endOf rfl (okR_endOf (d := 0) w G1 s.1 m (bN (zM s m) p) (zM s m) hv1 hm c83 hV hS hM) (by omega) (by decide) (Nat.le_of_ble_eq_true rfl) (fun r G1 hr hn => ?_)
            obtain ⟨rfl, hG⟩ := hr
            subst hG
            clear hn
            cases hE : pE (zM s m) (bN (zM s m) p) with
            | none =>
              rw [show eRes none = -1 from rfl]
              refine go_istore dR_unfold_107 (Nat.le_of_ble_eq_true rfl) ?_
              refine go_iload dR_unfold_109 rfl ?_
              refine go_iload dR_unfold_111 rfl ?_
              refine go_isub dR_unfold_113 ?_
              refine go_iconst (nI 1) (by decide) dR_unfold_114 ?_
              refine go_isub dR_unfold_115 ?_
              refine go_istore dR_unfold_116 (Nat.le_of_ble_eq_true rfl) ?_
              refine go_iload dR_unfold_118 rfl ?_
              refine go_if_lt dR_unfold_120 (tgt := 135) (by decide) (fun c1 => ?_) (fun c1 => absurd (by decide) c1)
              refine go_bipush (-2) (by decide) dR_unfold_135 ?_
              refine go_ireturn rfl dR_unfold_137 ?_
              rw [uU_n hn6 hp c65 hE]
              exact ⟨rfl, RC, oR1⟩
            | some e =>
              rw [show eRes (some e) = nI e from rfl]
              obtain ⟨-, hPE, hbe⟩ := pE_s hE
              have he := hPE.1.1
              refine go_istore dR_unfold_107 (Nat.le_of_ble_eq_true rfl) ?_
              refine go_iload dR_unfold_109 rfl ?_
              refine go_iload dR_unfold_111 rfl ?_
              refine go_isubN (by omega) dR_unfold_113 ?_
              refine go_iconst (nI 1) (by decide) dR_unfold_114 ?_
              refine go_isubN (by omega) dR_unfold_115 ?_
              refine go_istore dR_unfold_116 (Nat.le_of_ble_eq_true rfl) ?_
              refine go_iload dR_unfold_118 rfl ?_
              refine go_if_lt dR_unfold_120 (tgt := 135) (by decide) (fun c1 => absurd c1 (nI_n0 (by omega))) (fun c1 => ?_)
              refine go_iload_n dR_unfold_123 rfl rfl ?_
              refine go_iload dR_unfold_124 rfl ?_
              refine go_icmp_ltN (by omega) (by omega) dR_unfold_126 (tgt := 138) (by decide) (fun c126 => ?_) (fun c126 => ?_)
              · have hnb : ¬ (bN (zM s m) p ≤ p ∧ p ≤ e) := by omega
                refine go_post (R_u0 w (by omega) G1 s.1 m p (bN (zM s m) p) e (e - bN (zM s m) p - 1) (zM s m) _ _ hv1 hm hp hV c83 he hbe rfl _ _ _ _ _ _ _ _ hPE hS hM) (fun r9 G9 q => ?_)
                rcases q with ⟨q1, q2, q3⟩ | ⟨q1, q2, q3, Gy, q4, q5, q6⟩
                · rw [uU_f hn6 hp c65 hE hnb q2]
                  exact ⟨q1, RC.nw q3, oR1.tr q3.rf2⟩
                · rw [uU_y hn6 hp c65 hE hnb q2 q3]
                  exact ⟨q1, (rEnd.put hv (RC.nw q4) q5 q6).1, (oR1.tr q4.rf2).tr q5.R⟩
              · refine go_iload_n dR_unfold_129 rfl rfl ?_
                refine go_iload dR_unfold_130 rfl ?_
                refine go_icmp_gtN (by omega) (by omega) dR_unfold_132 (tgt := 138) (by decide) (fun c132 => ?_) (fun c132 => ?_)
                · have hnb : ¬ (bN (zM s m) p ≤ p ∧ p ≤ e) := by omega
                  refine go_post (R_u0 w (by omega) G1 s.1 m p (bN (zM s m) p) e (e - bN (zM s m) p - 1) (zM s m) _ _ hv1 hm hp hV c83 he hbe rfl _ _ _ _ _ _ _ _ hPE hS hM) (fun r9 G9 q => ?_)
                  rcases q with ⟨q1, q2, q3⟩ | ⟨q1, q2, q3, Gy, q4, q5, q6⟩
                  · rw [uU_f hn6 hp c65 hE hnb q2]
                    exact ⟨q1, RC.nw q3, oR1.tr q3.rf2⟩
                  · rw [uU_y hn6 hp c65 hE hnb q2 q3]
                    exact ⟨q1, (rEnd.put hv (RC.nw q4) q5 q6).1, (oR1.tr q4.rf2).tr q5.R⟩
                · refine go_bipush (-2) (by decide) dR_unfold_135 ?_
                  refine go_ireturn rfl dR_unfold_137 ?_
                  rw [uU_b hn6 hp c65 hE c126 c132]
                  exact ⟨rfl, RC, oR1⟩
          · refine go_bipush (-2) (by decide) dR_unfold_86 ?_
            refine go_ireturn rfl dR_unfold_88 ?_
            first | (have q := uU_o (s := s) (m := m) c51; rw [q]; exact ⟨rfl, RC, oR1⟩) | (have q := uU_n (s := s) hn6 hp c65 (pE_n (fun z => absurd z.1 (Nat.not_lt.mpr c83))); rw [q]; exact ⟨rfl, RC, oR1⟩) | (have q := uU_g (s := s) (m := m) (show p < 1000 by omega) c65; rw [q]; exact ⟨rfl, RC, oR1⟩)
    · refine go_bipush (-4) (by decide) dR_unfold_35 ?_
      refine go_ireturn rfl dR_unfold_37 ?_
      rw [aUnf_w hm (N1 (nbF c32))]
      exact ⟨rfl, hc.j o1, o1.rf2⟩
  · refine go_iconst (-1) (by decide) dR_unfold_9 ?_
    refine go_ireturn rfl dR_unfold_10 ?_
    rw [aUnf_o c6]
    exact ⟨rfl, rEnd.rf hc⟩
