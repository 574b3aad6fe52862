set_option maxRecDepth 100000 in
theorem R_il1 (w : am_W) {d : Nat} {P : Option am_V → am_G → Prop} (hd : 1 ≤ d) (G0 : am_G) (v m c p f : Nat) (M C : mT) (l1 l4 l9 : Option am_V) (hv : v < 2) (hm : m < 6) (hc6 : c < 6) (hp : p < mN M) (hV : mV M) (hC : mV C) (hf : f ≤ 8) (hM0 : rM G0 (6 * v + m) M) (hC0 : rM G0 (6 * v + c) C) (K : ∀ (G : am_G) l10 l11 l12 l13, St0 G → oNw G0 G → rWw G (iR1 C (p + mG C) (mR C)) → am_Go w jR_inline d (0, 0) 266 [some (.inr (some 163)), l1, some (.inl (nI p)), some (.inl (nI (6 * v + m))), l4, some (.inl (nI (6 * v + c))), some (.inl (nI f)), some (.inl (nI (iN C))), some (.inl (nI (p + mG C))), l9, l10, l11, l12, l13] [] G P) :
    ∀ (r k : Nat) (G : am_G) (l11 l12 l13 : Option am_V), k + r = mR C → St0 G → oNw G0 G → rWw G (iR1 C (p + mG C) k) → am_Go w jR_inline d (0, 0) 166 [some (.inr (some 163)), l1, some (.inl (nI p)), some (.inl (nI (6 * v + m))), l4, some (.inl (nI (6 * v + c))), some (.inl (nI f)), some (.inl (nI (iN C))), some (.inl (nI (p + mG C))), l9, some (.inl (nI k)), l11, l12, l13] [] G P := by
  have hn6 := hV.1
  have hr8 := hV.2.1
  have cn6 := hC.1
  have cr8 := hC.2.1
  have cg3 := hC.2.2.1
  have eN : iN C = mG C + mN C := rfl
  intro r
  induction r with
  | zero =>
    intro k G l11 l12 l13 hk hS ho hW
    have mr := (hC0.nw ho).1.2.1
    refine go_iload dR_inline_166 rfl ?_
    refine go_aload_n dR_inline_168 rfl rfl ?_
    refine go_getO (a := 169) dR_inline_169 flR_25 rfl (hS.s sh_163) (hS.r rt_rows) ?_
    refine go_iload dR_inline_172 rfl ?_
    first | refine go_ialV (hS.s sh_169) (by omega) (by decide) (by assumption) dR_inline_174 ?_ | refine go_ialoadN (hS.s sh_169) (by omega) (by decide) dR_inline_174 ?_
    refine go_icmp_geN (by omega) (by omega) dR_inline_175 (tgt := 266) (by decide) (fun c1 => ?_) (fun c1 => absurd c1 (by omega))
    rw [show k = mR C by omega] at hW
    exact K G _ _ _ _ hS ho hW
  | succ r ih =>
    intro k G l11 l12 l13 hk hS ho hW
    have mr := (hC0.nw ho).1.2.1
    have mn := (hC0.nw ho).1.1
    have hkr : k < mR C := by omega
    obtain ⟨e1, e2, e3, e4⟩ := (hC0.nw ho).2.2 k hkr
    obtain ⟨b1, b2, b3, b4⟩ := hC.2.2.2.2 k hkr
    have u3 := iR1_le (C := C) (q := p + mG C) k
    have K224 : am_Go w jR_inline d (0, 0) 224 [some (.inr (some 163)), l1, some (.inl (nI p)), some (.inl (nI (6 * v + m))), l4, some (.inl (nI (6 * v + c))), some (.inl (nI f)), some (.inl (nI (iN C))), some (.inl (nI (p + mG C))), l9, some (.inl (nI k)), some (.inl (nI (8 * (6 * v + c) + k))), some (.inl (nI (min (mE C k) (mN C)))), l13] [] G P := by
      refine go_aload_n dR_inline_224 rfl rfl ?_
      refine go_aload_n dR_inline_225 rfl rfl ?_
      refine go_getO (a := 170) dR_inline_226 flR_28 rfl (hS.s sh_163) (hS.r rt_from) ?_
      refine go_iload dR_inline_229 rfl ?_
      refine go_ialV (hS.s sh_170) (by omega) (by decide) e1 dR_inline_231 ?_
      refine go_iload dR_inline_232 rfl ?_
      first | refine go_iaddN dR_inline_234 ?_ | refine go_iadd dR_inline_234 ?_
      refine go_iload dR_inline_235 rfl ?_
      refine go_iload dR_inline_237 rfl ?_
      first | refine go_iaddN dR_inline_239 ?_ | refine go_iadd dR_inline_239 ?_
      refine go_aload_n dR_inline_240 rfl rfl ?_
      refine go_getO (a := 172) dR_inline_241 flR_34 rfl (hS.s sh_163) (hS.r rt_at) ?_
      refine go_iload dR_inline_244 rfl ?_
      refine go_ialV (hS.s sh_172) (by omega) (by decide) e3 dR_inline_246 ?_
      refine go_iload dR_inline_247 rfl ?_
      first | refine go_iaddN dR_inline_249 ?_ | refine go_iadd dR_inline_249 ?_
      refine go_aload_n dR_inline_250 rfl rfl ?_
      refine go_getO (a := 173) dR_inline_251 flR_37 rfl (hS.s sh_163) (hS.r rt_type) ?_
      refine go_iload dR_inline_254 rfl ?_
      refine go_ialV (hS.s sh_173) (by omega) (by decide) e4 dR_inline_256 ?_
      refine go_cV (k' := (0, 0)) dR_inline_257 _ csR_288 (hS.s sh_163) rfl imR_newRow seR_newRow rfl (okR_newRow (d := 0) w G (iR1 C (p + mG C) k) (mF C k + (p + mG C)) (min (mE C k) (mN C) + (p + mG C)) (mP C k + (p + mG C)) (mY C k) (nI (min (mE C k) (mN C) + (p + mG C))) hS hW (by omega) (nI_ltI (by omega) (by omega)) (fun _ => rfl)) (by omega) (by decide) (Nat.le_of_ble_eq_true rfl) (fun r G1 hr hn => ?_)
      obtain ⟨rfl, W1, o1, -⟩ := hr
      refine go_inc dR_inline_260 rfl ?_
      refine go_goto dR_inline_263 (tgt := 166) (by decide) ?_
      exact ih (k + 1) G1 _ _ _ (by omega) (o1.St hS) (ho.tr o1) W1
    refine go_iload dR_inline_166 rfl ?_
    refine go_aload_n dR_inline_168 rfl rfl ?_
    refine go_getO (a := 169) dR_inline_169 flR_25 rfl (hS.s sh_163) (hS.r rt_rows) ?_
    refine go_iload dR_inline_172 rfl ?_
    first | refine go_ialV (hS.s sh_169) (by omega) (by decide) (by assumption) dR_inline_174 ?_ | refine go_ialoadN (hS.s sh_169) (by omega) (by decide) dR_inline_174 ?_
    refine go_icmp_geN (by omega) (by omega) dR_inline_175 (tgt := 266) (by decide) (fun c1 => absurd c1 (by omega)) (fun c1 => ?_)
    refine go_bipush (nI 8) (by decide) dR_inline_178 ?_
    refine go_iload dR_inline_180 rfl ?_
    first | refine go_imulN dR_inline_182 ?_ | refine go_imul dR_inline_182 ?_
    refine go_iload dR_inline_183 rfl ?_
    first | refine go_iaddN dR_inline_185 ?_ | refine go_iadd dR_inline_185 ?_
    refine go_istore dR_inline_186 (Nat.le_of_ble_eq_true rfl) ?_
    refine go_aload_n dR_inline_188 rfl rfl ?_
    refine go_getO (a := 171) dR_inline_189 flR_31 rfl (hS.s sh_163) (hS.r rt_to) ?_
    refine go_iload dR_inline_192 rfl ?_
    refine go_ialV (hS.s sh_171) (by omega) (by decide) e2 dR_inline_194 ?_
    refine go_aload_n dR_inline_195 rfl rfl ?_
    refine go_getO (a := 167) dR_inline_196 flR_19 rfl (hS.s sh_163) (hS.r rt_many) ?_
    refine go_iload dR_inline_199 rfl ?_
    refine go_ialV (hS.s sh_167) (by omega) (by decide) mn dR_inline_201 ?_
    refine go_icmp_geN (by omega) (by omega) dR_inline_202 (tgt := 215) (by decide) (fun c202 => ?_) (fun c202 => ?_)
    · refine go_aload_n dR_inline_215 rfl rfl ?_
      refine go_getO (a := 167) dR_inline_216 flR_19 rfl (hS.s sh_163) (hS.r rt_many) ?_
      refine go_iload dR_inline_219 rfl ?_
      refine go_ialV (hS.s sh_167) (by omega) (by decide) mn dR_inline_221 ?_
      first | refine go_top (mnT c202) ?_ | refine go_top (mnF c202) ?_
      refine go_istore dR_inline_222 (Nat.le_of_ble_eq_true rfl) ?_
      exact K224
    · refine go_aload_n dR_inline_205 rfl rfl ?_
      refine go_getO (a := 171) dR_inline_206 flR_31 rfl (hS.s sh_163) (hS.r rt_to) ?_
      refine go_iload dR_inline_209 rfl ?_
      refine go_ialV (hS.s sh_171) (by omega) (by decide) e2 dR_inline_211 ?_
      refine go_goto dR_inline_212 (tgt := 222) (by decide) ?_
      first | refine go_top (mnT c202) ?_ | refine go_top (mnF c202) ?_
      refine go_istore dR_inline_222 (Nat.le_of_ble_eq_true rfl) ?_
      exact K224
set_option maxRecDepth 100000 in
theorem R_il2 (w : am_W) {d : Nat} {P : Option am_V → am_G → Prop} (hd : 1 ≤ d) (G0 : am_G) (v m c p f : Nat) (M C : mT) (l1 l4 l9 : Option am_V) (hv : v < 2) (hm : m < 6) (hc6 : c < 6) (hp : p < mN M) (hV : mV M) (hC : mV C) (hf : f ≤ 8) (hM0 : rM G0 (6 * v + m) M) (hC0 : rM G0 (6 * v + c) C) (K : ∀ (G : am_G) l10 l11 l12 l13, St0 G → oNw G0 G → rWw G (iRR M C p) → am_Go w jR_inline d (0, 0) 345 [some (.inr (some 163)), l1, some (.inl (nI p)), some (.inl (nI (6 * v + m))), l4, some (.inl (nI (6 * v + c))), some (.inl (nI f)), some (.inl (nI (iN C))), some (.inl (nI (p + mG C))), l9, l10, l11, l12, l13] [] G P) :
    ∀ (r k : Nat) (G : am_G) (l11 l12 l13 : Option am_V), k + r = mR M → St0 G → oNw G0 G → rWw G (iR2 M p (iN C) (iR1 C (p + mG C) (mR C)) k) → am_Go w jR_inline d (0, 0) 269 [some (.inr (some 163)), l1, some (.inl (nI p)), some (.inl (nI (6 * v + m))), l4, some (.inl (nI (6 * v + c))), some (.inl (nI f)), some (.inl (nI (iN C))), some (.inl (nI (p + mG C))), l9, some (.inl (nI k)), l11, l12, l13] [] G P := by
  have hn6 := hV.1
  have hr8 := hV.2.1
  have cn6 := hC.1
  have cr8 := hC.2.1
  have cg3 := hC.2.2.1
  have eN : iN C = mG C + mN C := rfl
  intro r
  induction r with
  | zero =>
    intro k G l11 l12 l13 hk hS ho hW
    have mr := (hM0.nw ho).1.2.1
    refine go_iload dR_inline_269 rfl ?_
    refine go_aload_n dR_inline_271 rfl rfl ?_
    refine go_getO (a := 169) dR_inline_272 flR_25 rfl (hS.s sh_163) (hS.r rt_rows) ?_
    refine go_iload_n dR_inline_275 rfl rfl ?_
    first | refine go_ialV (hS.s sh_169) (by omega) (by decide) (by assumption) dR_inline_276 ?_ | refine go_ialoadN (hS.s sh_169) (by omega) (by decide) dR_inline_276 ?_
    refine go_icmp_geN (by omega) (by omega) dR_inline_277 (tgt := 345) (by decide) (fun c1 => ?_) (fun c1 => absurd c1 (by omega))
    rw [show k = mR M by omega] at hW
    exact K G _ _ _ _ hS ho hW
  | succ r ih =>
    intro k G l11 l12 l13 hk hS ho hW
    have mr := (hM0.nw ho).1.2.1
    have hkr : k < mR M := by omega
    obtain ⟨e1, e2, e3, e4⟩ := (hM0.nw ho).2.2 k hkr
    obtain ⟨b1, b2, b3, b4⟩ := hV.2.2.2.2 k hkr
    have u3 := iR1_le (C := C) (q := p + mG C) (mR C)
    have u4 := iR2_le (M := M) (p := p) (n := iN C) (R := iR1 C (p + mG C) (mR C)) k
    have bm : ∀ x, x ≤ mN M + 60 → mvd p (iN C) x < 1000 := fun x hx => by unfold mvd; split <;> omega
    have bm1 := bm _ b1
    have bm2 := bm _ b2
    refine go_iload dR_inline_269 rfl ?_
    refine go_aload_n dR_inline_271 rfl rfl ?_
    refine go_getO (a := 169) dR_inline_272 flR_25 rfl (hS.s sh_163) (hS.r rt_rows) ?_
    refine go_iload_n dR_inline_275 rfl rfl ?_
    first | refine go_ialV (hS.s sh_169) (by omega) (by decide) (by assumption) dR_inline_276 ?_ | refine go_ialoadN (hS.s sh_169) (by omega) (by decide) dR_inline_276 ?_
    refine go_icmp_geN (by omega) (by omega) dR_inline_277 (tgt := 345) (by decide) (fun c1 => absurd c1 (by omega)) (fun c1 => ?_)
    refine go_bipush (nI 8) (by decide) dR_inline_280 ?_
    refine go_iload_n dR_inline_282 rfl rfl ?_
    first | refine go_imulN dR_inline_283 ?_ | refine go_imul dR_inline_283 ?_
    refine go_iload dR_inline_284 rfl ?_
    first | refine go_iaddN dR_inline_286 ?_ | refine go_iadd dR_inline_286 ?_
    refine go_istore dR_inline_287 (Nat.le_of_ble_eq_true rfl) ?_
    refine go_aload_n dR_inline_289 rfl rfl ?_
    refine go_aload_n dR_inline_290 rfl rfl ?_
    refine go_getO (a := 170) dR_inline_291 flR_28 rfl (hS.s sh_163) (hS.r rt_from) ?_
    refine go_iload dR_inline_294 rfl ?_
    refine go_ialV (hS.s sh_170) (by omega) (by decide) e1 dR_inline_296 ?_
    refine go_iload_n dR_inline_297 rfl rfl ?_
    refine go_iload dR_inline_298 rfl ?_
    refine go_cS (k' := (0, 0)) dR_inline_300 _ csR_280 stR_shifted rfl (okR_shifted (d := 0) w G (nI (mF M k)) (nI p) (nI (iN C))) (by omega) (by decide) (Nat.le_of_ble_eq_true rfl) (fun r G1 hr hn => ?_)
    obtain ⟨rfl, hG⟩ := hr
    rw [hG]
    clear hG hn
    rw [rSh (by omega) (by omega)]
    refine go_aload_n dR_inline_303 rfl rfl ?_
    refine go_getO (a := 171) dR_inline_304 flR_31 rfl (hS.s sh_163) (hS.r rt_to) ?_
    refine go_iload dR_inline_307 rfl ?_
    refine go_ialV (hS.s sh_171) (by omega) (by decide) e2 dR_inline_309 ?_
    refine go_iload_n dR_inline_310 rfl rfl ?_
    refine go_iload dR_inline_311 rfl ?_
    refine go_cS (k' := (0, 0)) dR_inline_313 _ csR_280 stR_shifted rfl (okR_shifted (d := 0) w G (nI (mE M k)) (nI p) (nI (iN C))) (by omega) (by decide) (Nat.le_of_ble_eq_true rfl) (fun r G1 hr hn => ?_)
    obtain ⟨rfl, hG⟩ := hr
    rw [hG]
    clear hG hn
    rw [rSh (by omega) (by omega)]
    refine go_aload_n dR_inline_316 rfl rfl ?_
    refine go_getO (a := 172) dR_inline_317 flR_34 rfl (hS.s sh_163) (hS.r rt_at) ?_
    refine go_iload dR_inline_320 rfl ?_
    refine go_ialV (hS.s sh_172) (by omega) (by decide) e3 dR_inline_322 ?_
    refine go_iload_n dR_inline_323 rfl rfl ?_
    refine go_iload dR_inline_324 rfl ?_
    refine go_cS (k' := (0, 0)) dR_inline_326 _ csR_280 stR_shifted rfl (okR_shifted (d := 0) w G (nI (mP M k)) (nI p) (nI (iN C))) (by omega) (by decide) (Nat.le_of_ble_eq_true rfl) (fun r G1 hr hn => ?_)
    obtain ⟨rfl, hG⟩ := hr
    rw [hG]
    clear hG hn
    rw [rSh (by omega) (by omega)]
    refine go_aload_n dR_inline_329 rfl rfl ?_
    refine go_getO (a := 173) dR_inline_330 flR_37 rfl (hS.s sh_163) (hS.r rt_type) ?_
    refine go_iload dR_inline_333 rfl ?_
    refine go_ialV (hS.s sh_173) (by omega) (by decide) e4 dR_inline_335 ?_
    refine go_cV (k' := (0, 0)) dR_inline_336 _ csR_288 (hS.s sh_163) rfl imR_newRow seR_newRow rfl (okR_newRow (d := 0) w G (iR2 M p (iN C) (iR1 C (p + mG C) (mR C)) k) (mvd p (iN C) (mF M k)) (mvd p (iN C) (mE M k)) (mvd p (iN C) (mP M k)) (mY M k) (nI (mvd p (iN C) (mE M k))) hS hW (by omega) (nI_ltI (by omega) (by omega)) (fun _ => rfl)) (by omega) (by decide) (Nat.le_of_ble_eq_true rfl) (fun r G1 hr hn => ?_)
    obtain ⟨rfl, W1, o1, -⟩ := hr
    refine go_inc dR_inline_339 rfl ?_
    refine go_goto dR_inline_342 (tgt := 269) (by decide) ?_
    exact ih (k + 1) G1 _ _ _ (by omega) (o1.St hS) (ho.tr o1) W1
set_option maxRecDepth 100000 in
theorem R_il3 (w : am_W) {d : Nat} {P : Option am_V → am_G → Prop} (hd : 1 ≤ d) (G0 : am_G) (v m c p f : Nat) (M C : mT) (l1 l4 l9 : Option am_V) (hv : v < 2) (hm : m < 6) (hc6 : c < 6) (hp : p < mN M) (hV : mV M) (hC : mV C) (hf : f ≤ 8) (R : wT) (hN : mN M + iN C - 1 ≤ 60) (hM0 : rM G0 (6 * v + m) M) (hC0 : rM G0 (6 * v + c) C) (K : ∀ (G : am_G) l10 l11 l12 l13, St0 G → oR (fun i => 193 ≤ i ∧ i ≤ 195) G0 G → rI G (mNew M p (iN C) (iC C p f (iN C)) R) (fun i => p ≤ i ∧ i < p + mG C) → am_Go w jR_inline d (0, 0) 419 [some (.inr (some 163)), l1, some (.inl (nI p)), some (.inl (nI (6 * v + m))), l4, some (.inl (nI (6 * v + c))), some (.inl (nI f)), some (.inl (nI (iN C))), some (.inl (nI (p + mG C))), l9, l10, l11, l12, l13] [] G P) :
    ∀ (r k : Nat) (G : am_G) (l11 l12 l13 : Option am_V), k + r = mG C → St0 G → oR (fun i => 193 ≤ i ∧ i ≤ 195) G0 G → rI G (mNew M p (iN C) (iC C p f (iN C)) R) (fun i => p ≤ i ∧ i < p + k) → am_Go w jR_inline d (0, 0) 376 [some (.inr (some 163)), l1, some (.inl (nI p)), some (.inl (nI (6 * v + m))), l4, some (.inl (nI (6 * v + c))), some (.inl (nI f)), some (.inl (nI (iN C))), some (.inl (nI (p + mG C))), l9, some (.inl (nI k)), l11, l12, l13] [] G P := by
  have hn6 := hV.1
  have hr8 := hV.2.1
  have cn6 := hC.1
  have cr8 := hC.2.1
  have cg3 := hC.2.2.1
  have eN : iN C = mG C + mN C := rfl
  intro r
  induction r with
  | zero =>
    intro k G l11 l12 l13 hk hS ho hI
    have tk := (hC0.j (G' := G) (fun i h1 h2 => ho.2.2 i (by omega))).1.2.2.1
    refine go_iload dR_inline_376 rfl ?_
    refine go_aload_n dR_inline_378 rfl rfl ?_
    refine go_getO (a := 168) dR_inline_379 flR_22 rfl (hS.s sh_163) (hS.r rt_takes) ?_
    refine go_iload dR_inline_382 rfl ?_
    first | refine go_ialV (hS.s sh_168) (by omega) (by decide) (by assumption) dR_inline_384 ?_ | refine go_ialoadN (hS.s sh_168) (by omega) (by decide) dR_inline_384 ?_
    refine go_icmp_geN (by omega) (by omega) dR_inline_385 (tgt := 419) (by decide) (fun c1 => ?_) (fun c1 => absurd c1 (by omega))
    rw [show k = mG C by omega] at hI
    exact K G _ _ _ _ hS ho hI
  | succ r ih =>
    intro k G l11 l12 l13 hk hS ho hI
    have tk := (hC0.j (G' := G) (fun i h1 h2 => ho.2.2 i (by omega))).1.2.2.1
    obtain ⟨T1, T2, T3⟩ := mNew_in (M := M) (p := p) (n := iN C) (C := iC C p f (iN C)) (R := R) (show k < iN C by omega)
    rw [iC_s (show k < mG C by omega)] at T1 T2 T3
    refine go_iload dR_inline_376 rfl ?_
    refine go_aload_n dR_inline_378 rfl rfl ?_
    refine go_getO (a := 168) dR_inline_379 flR_22 rfl (hS.s sh_163) (hS.r rt_takes) ?_
    refine go_iload dR_inline_382 rfl ?_
    first | refine go_ialV (hS.s sh_168) (by omega) (by decide) (by assumption) dR_inline_384 ?_ | refine go_ialoadN (hS.s sh_168) (by omega) (by decide) dR_inline_384 ?_
    refine go_icmp_geN (by omega) (by omega) dR_inline_385 (tgt := 419) (by decide) (fun c1 => absurd c1 (by omega)) (fun c1 => ?_)
    refine go_aload_n dR_inline_388 rfl rfl ?_
    refine go_iload_n dR_inline_389 rfl rfl ?_
    refine go_iload dR_inline_390 rfl ?_
    first | refine go_iaddN dR_inline_392 ?_ | refine go_iadd dR_inline_392 ?_
    refine go_iconst (nI 3) (by decide) dR_inline_393 ?_
    refine go_iload dR_inline_394 rfl ?_
    refine go_aload_n dR_inline_396 rfl rfl ?_
    refine go_getO (a := 168) dR_inline_397 flR_22 rfl (hS.s sh_163) (hS.r rt_takes) ?_
    refine go_iload dR_inline_400 rfl ?_
    refine go_ialV (hS.s sh_168) (by omega) (by decide) tk dR_inline_402 ?_
    first | refine go_iaddN dR_inline_403 ?_ | refine go_iadd dR_inline_403 ?_
    refine go_iconst (nI 1) (by decide) dR_inline_404 ?_
    refine go_isubN (by omega) dR_inline_405 ?_
    refine go_iload dR_inline_406 rfl ?_
    refine go_isubN (by omega) dR_inline_408 ?_
    refine go_iconst (nI 0) (by decide) dR_inline_409 ?_
    refine go_cV (k' := (0, 0)) dR_inline_410 _ csR_292 (hS.s sh_163) rfl imR_newInstruction seR_newInstruction rfl (okR_newInstruction (d := 0) w G (p + k) _ _ _ (by omega) hS) (by omega) (by decide) (Nat.le_of_ble_eq_true rfl) (fun r G1 hr hn => ?_)
    obtain ⟨rfl, hG⟩ := hr
    rw [hG]
    clear hG hn
    refine go_inc dR_inline_413 rfl ?_
    refine go_goto dR_inline_416 (tgt := 376) (by decide) ?_
    refine ih (k + 1) _ _ _ _ (by omega) hS (((ho.tr (oR.wi ⟨by decide, by decide⟩)).tr (oR.wi ⟨by decide, by decide⟩)).tr (oR.wi ⟨by decide, by decide⟩)) (hI.put (by rw [T1]) T2.symm T3.symm (fun i hi => ?_))
    have hi : p ≤ i ∧ i < p + (k + 1) := hi
    omega
theorem jmR {o : Nat} (h : jm4 o) : decide (nI o = nI 11 ∨ nI o = nI 12 ∨ nI o = nI 17 ∨ nI o = nI 23) = true := by
  cases q : decide (nI o = nI 11 ∨ nI o = nI 12 ∨ nI o = nI 17 ∨ nI o = nI 23) with
  | true => rfl
  | false => exact absurd h (jmF q)
set_option maxRecDepth 100000 in
theorem R_il4 (w : am_W) {d : Nat} {P : Option am_V → am_G → Prop} (hd : 1 ≤ d) (G0 : am_G) (v m c p f : Nat) (M C : mT) (l1 l4 l9 : Option am_V) (hv : v < 2) (hm : m < 6) (hc6 : c < 6) (hp : p < mN M) (hV : mV M) (hC : mV C) (hf : f ≤ 8) (R : wT) (hN : mN M + iN C - 1 ≤ 60) (hP : ilP C) (hfl : f + gLx C true (mN C) ≤ 8) (hM0 : rM G0 (6 * v + m) M) (hC0 : rM G0 (6 * v + c) C) (K : ∀ (G : am_G) l10 l11 l12 l13, St0 G → oR (fun i => 193 ≤ i ∧ i ≤ 195) G0 G → rI G (mNew M p (iN C) (iC C p f (iN C)) R) (fun i => p ≤ i ∧ i < p + iN C) → am_Go w jR_inline d (0, 0) 567 [some (.inr (some 163)), l1, some (.inl (nI p)), some (.inl (nI (6 * v + m))), l4, some (.inl (nI (6 * v + c))), some (.inl (nI f)), some (.inl (nI (iN C))), some (.inl (nI (p + mG C))), l9, l10, l11, l12, l13] [] G P) :
    ∀ (r k : Nat) (G : am_G) (l11 l12 l13 : Option am_V), k + r = mN C → St0 G → oR (fun i => 193 ≤ i ∧ i ≤ 195) G0 G → rI G (mNew M p (iN C) (iC C p f (iN C)) R) (fun i => p ≤ i ∧ i < p + (mG C + k)) → am_Go w jR_inline d (0, 0) 422 [some (.inr (some 163)), l1, some (.inl (nI p)), some (.inl (nI (6 * v + m))), l4, some (.inl (nI (6 * v + c))), some (.inl (nI f)), some (.inl (nI (iN C))), some (.inl (nI (p + mG C))), l9, some (.inl (nI k)), l11, l12, l13] [] G P := by
  have hn6 := hV.1
  have hr8 := hV.2.1
  have cn6 := hC.1
  have cr8 := hC.2.1
  have cg3 := hC.2.2.1
  have eN : iN C = mG C + mN C := rfl
  intro r
  induction r with
  | zero =>
    intro k G l11 l12 l13 hk hS ho hI
    have mn := (hC0.j (G' := G) (fun i h1 h2 => ho.2.2 i (by omega))).1.1
    refine go_iload dR_inline_422 rfl ?_
    refine go_aload_n dR_inline_424 rfl rfl ?_
    refine go_getO (a := 167) dR_inline_425 flR_19 rfl (hS.s sh_163) (hS.r rt_many) ?_
    refine go_iload dR_inline_428 rfl ?_
    first | refine go_ialV (hS.s sh_167) (by omega) (by decide) (by assumption) dR_inline_430 ?_ | refine go_ialoadN (hS.s sh_167) (by omega) (by decide) dR_inline_430 ?_
    refine go_icmp_geN (by omega) (by omega) dR_inline_431 (tgt := 567) (by decide) (fun c1 => ?_) (fun c1 => absurd c1 (by omega))
    rw [show k = mN C by omega] at hI
    exact K G _ _ _ _ hS ho hI
  | succ r ih =>
    intro k G l11 l12 l13 hk hS ho hI
    have hkn : k < mN C := by omega
    have mn := (hC0.j (G' := G) (fun i h1 h2 => ho.2.2 i (by omega))).1.1
    obtain ⟨m1, m2, m3⟩ := (hC0.j (G' := G) (fun i h1 h2 => ho.2.2 i (by omega))).2.1 k hkn
    have h28 := (hC.2.2.2.1 k hkn).1
    obtain ⟨T1, T2, T3⟩ := mNew_in (M := M) (p := p) (n := iN C) (C := iC C p f (iN C)) (R := R) (show mG C + k < iN C by omega)
    have ew : p + mG C + k = p + (mG C + k) := by omega
    have FIN : ∀ (x y z : Int32) (l12 l13 : Option am_V), x = nI (mO (mNew M p (iN C) (iC C p f (iN C)) R) (p + (mG C + k))) → y = mA (mNew M p (iN C) (iC C p f (iN C)) R) (p + (mG C + k)) → z = mB (mNew M p (iN C) (iC C p f (iN C)) R) (p + (mG C + k)) → am_Go w jR_inline d (0, 0) 561 [some (.inr (some 163)), l1, some (.inl (nI p)), some (.inl (nI (6 * v + m))), l4, some (.inl (nI (6 * v + c))), some (.inl (nI f)), some (.inl (nI (iN C))), some (.inl (nI (p + mG C))), l9, some (.inl (nI k)), some (.inl (nI (60 * (6 * v + c) + k))), l12, l13] [] (am_wi (am_wi (am_wi G 193 (p + mG C + k) x) 194 (p + mG C + k) y) 195 (p + mG C + k) z) P := fun x y z l12 l13 hx hy hz => by
      rw [ew]
      refine go_inc dR_inline_561 rfl ?_
      refine go_goto dR_inline_564 (tgt := 422) (by decide) ?_
      refine ih (k + 1) _ _ _ _ (by omega) hS (((ho.tr (oR.wi ⟨by decide, by decide⟩)).tr (oR.wi ⟨by decide, by decide⟩)).tr (oR.wi ⟨by decide, by decide⟩)) (hI.put hx hy hz (fun i hi => ?_))
      have hi : p ≤ i ∧ i < p + (mG C + (k + 1)) := hi
      omega
    have K533 : ∀ jj : Bool, (jj = true ↔ jm4 (mO C k)) → ¬ mO C k = 22 → am_Go w jR_inline d (0, 0) 533 [some (.inr (some 163)), l1, some (.inl (nI p)), some (.inl (nI (6 * v + m))), l4, some (.inl (nI (6 * v + c))), some (.inl (nI f)), some (.inl (nI (iN C))), some (.inl (nI (p + mG C))), l9, some (.inl (nI k)), some (.inl (nI (60 * (6 * v + c) + k))), some (.inl (nI (mO C k))), some (.inl (am_b jj))] [.inl (iC C p f (iN C) (mG C + k)).2.1, .inl (nI (mO C k)), .inl (nI (p + mG C + k)), .inr (some 163)] G P := fun jj hj h22 => by
      rw [iC_c h22] at T1
      refine go_iload dR_inline_533 rfl ?_
      refine go_if_eqB dR_inline_535 (tgt := 551) (by decide) (fun c535 => ?_) (fun c535 => ?_)
      · refine go_aload_n dR_inline_551 rfl rfl ?_
        refine go_getO (a := 166) dR_inline_552 flR_16 rfl (hS.s sh_163) (hS.r rt_two) ?_
        refine go_iload dR_inline_555 rfl ?_
        refine go_ialV (hS.s sh_166) (by omega) (by decide) m3 dR_inline_557 ?_
        rw [← iC_b2 (p := p) (f := f) (n := iN C) h22 (fun q => nbX c535 (hj.mpr q))]
        refine go_cV (k' := (0, 0)) dR_inline_558 _ csR_292 (hS.s sh_163) rfl imR_newInstruction seR_newInstruction rfl (okR_newInstruction (d := 0) w G (p + mG C + k) _ _ _ (by omega) hS) (by omega) (by decide) (Nat.le_of_ble_eq_true rfl) (fun r G1 hr hn => ?_)
        obtain ⟨rfl, hG⟩ := hr
        rw [hG]
        clear hG hn
        exact FIN _ _ _ _ _ (by rw [T1]) T2.symm T3.symm
      · refine go_aload_n dR_inline_538 rfl rfl ?_
        refine go_getO (a := 166) dR_inline_539 flR_16 rfl (hS.s sh_163) (hS.r rt_two) ?_
        refine go_iload dR_inline_542 rfl ?_
        refine go_ialV (hS.s sh_166) (by omega) (by decide) m3 dR_inline_544 ?_
        obtain ⟨q1, q2⟩ := hC.jm hkn (hj.mp c535)
        rw [q1]
        refine go_iload dR_inline_545 rfl ?_
        refine go_iaddN dR_inline_547 ?_
        rw [← iC_b1 (p := p) (f := f) (n := iN C) h22 (hj.mp c535)]
        refine go_goto dR_inline_548 (tgt := 558) (by decide) ?_
        refine go_cV (k' := (0, 0)) dR_inline_558 _ csR_292 (hS.s sh_163) rfl imR_newInstruction seR_newInstruction rfl (okR_newInstruction (d := 0) w G (p + mG C + k) _ _ _ (by omega) hS) (by omega) (by decide) (Nat.le_of_ble_eq_true rfl) (fun r G1 hr hn => ?_)
        obtain ⟨rfl, hG⟩ := hr
        rw [hG]
        clear hG hn
        exact FIN _ _ _ _ _ (by rw [T1]) T2.symm T3.symm
    refine go_iload dR_inline_422 rfl ?_
    refine go_aload_n dR_inline_424 rfl rfl ?_
    refine go_getO (a := 167) dR_inline_425 flR_19 rfl (hS.s sh_163) (hS.r rt_many) ?_
    refine go_iload dR_inline_428 rfl ?_
    first | refine go_ialV (hS.s sh_167) (by omega) (by decide) (by assumption) dR_inline_430 ?_ | refine go_ialoadN (hS.s sh_167) (by omega) (by decide) dR_inline_430 ?_
    refine go_icmp_geN (by omega) (by omega) dR_inline_431 (tgt := 567) (by decide) (fun c1 => absurd c1 (by omega)) (fun c1 => ?_)
    refine go_bipush (nI 60) (by decide) dR_inline_434 ?_
    refine go_iload dR_inline_436 rfl ?_
    first | refine go_imulN dR_inline_438 ?_ | refine go_imul dR_inline_438 ?_
    refine go_iload dR_inline_439 rfl ?_
    first | refine go_iaddN dR_inline_441 ?_ | refine go_iadd dR_inline_441 ?_
    refine go_istore dR_inline_442 (Nat.le_of_ble_eq_true rfl) ?_
    refine go_aload_n dR_inline_444 rfl rfl ?_
    refine go_getO (a := 164) dR_inline_445 flR_7 rfl (hS.s sh_163) (hS.r rt_op) ?_
    refine go_iload dR_inline_448 rfl ?_
    refine go_ialV (hS.s sh_164) (by omega) (by decide) m1 dR_inline_450 ?_
    refine go_istore dR_inline_451 (Nat.le_of_ble_eq_true rfl) ?_
    refine go_iload dR_inline_453 rfl ?_
    refine go_cS (k' := (0, 0)) dR_inline_455 _ csR_139 stR_isJump rfl (okR_isJump (d := 0) w G (nI (mO C k))) (by omega) (by decide) (Nat.le_of_ble_eq_true rfl) (fun r G1 hr hn => ?_)
    obtain ⟨rfl, hG⟩ := hr
    rw [hG]
    clear hG hn
    refine go_istore dR_inline_458 (Nat.le_of_ble_eq_true rfl) ?_
    refine go_iload dR_inline_460 rfl ?_
    refine go_bipush (nI 22) (by decide) dR_inline_462 ?_
    refine go_icmp_neN (by omega) (by decide) dR_inline_464 (tgt := 486) (by decide) (fun c464 => ?_) (fun c464 => ?_)
    · refine go_aload_n dR_inline_486 rfl rfl ?_
      refine go_iload dR_inline_487 rfl ?_
      refine go_iload dR_inline_489 rfl ?_
      first | refine go_iaddN dR_inline_491 ?_ | refine go_iadd dR_inline_491 ?_
      refine go_iload dR_inline_492 rfl ?_
      refine go_iload dR_inline_494 rfl ?_
      refine go_iconst (nI 2) (by decide) dR_inline_496 ?_
      refine go_icmp_eqN (by omega) (by decide) dR_inline_497 (tgt := 513) (by decide) (fun c497 => ?_) (fun c497 => ?_)
      · refine go_aload_n dR_inline_513 rfl rfl ?_
        refine go_getO (a := 165) dR_inline_514 flR_13 rfl (hS.s sh_163) (hS.r rt_one) ?_
        refine go_iload dR_inline_517 rfl ?_
        have hl : mO C k = 2 ∨ mO C k = 3 ∨ mO C k = 27 := by first | exact Or.inl c497 | exact Or.inr (Or.inl c503) | exact Or.inr (Or.inr c510)
        refine go_ialV (hS.s sh_165) (by omega) (by decide) m2 dR_inline_519 ?_
        obtain ⟨q1, q2⟩ := locO_V (r := false) hC hkn (by rcases hl with q | q | q; exact Or.inl q; exact Or.inr (Or.inl q); exact Or.inr (Or.inr (Or.inl q)))
        rw [q1]
        refine go_iload dR_inline_520 rfl ?_
        refine go_iaddN dR_inline_522 ?_
        rw [← iC_a1 (p := p) (f := f) (n := iN C) c464 hl]
        refine go_goto dR_inline_523 (tgt := 533) (by decide) ?_
        exact K533 _ ⟨fun q => jmT q h28, fun q => jmR q⟩ c464
      · refine go_iload dR_inline_500 rfl ?_
        refine go_iconst (nI 3) (by decide) dR_inline_502 ?_
        refine go_icmp_eqN (by omega) (by decide) dR_inline_503 (tgt := 513) (by decide) (fun c503 => ?_) (fun c503 => ?_)
        · refine go_aload_n dR_inline_513 rfl rfl ?_
          refine go_getO (a := 165) dR_inline_514 flR_13 rfl (hS.s sh_163) (hS.r rt_one) ?_
          refine go_iload dR_inline_517 rfl ?_
          have hl : mO C k = 2 ∨ mO C k = 3 ∨ mO C k = 27 := by first | exact Or.inl c497 | exact Or.inr (Or.inl c503) | exact Or.inr (Or.inr c510)
          refine go_ialV (hS.s sh_165) (by omega) (by decide) m2 dR_inline_519 ?_
          obtain ⟨q1, q2⟩ := locO_V (r := false) hC hkn (by rcases hl with q | q | q; exact Or.inl q; exact Or.inr (Or.inl q); exact Or.inr (Or.inr (Or.inl q)))
          rw [q1]
          refine go_iload dR_inline_520 rfl ?_
          refine go_iaddN dR_inline_522 ?_
          rw [← iC_a1 (p := p) (f := f) (n := iN C) c464 hl]
          refine go_goto dR_inline_523 (tgt := 533) (by decide) ?_
          exact K533 _ ⟨fun q => jmT q h28, fun q => jmR q⟩ c464
        · refine go_iload dR_inline_506 rfl ?_
          refine go_bipush (nI 27) (by decide) dR_inline_508 ?_
          refine go_icmp_neN (by omega) (by decide) dR_inline_510 (tgt := 526) (by decide) (fun c510 => ?_) (fun c510 => ?_)
          · refine go_aload_n dR_inline_526 rfl rfl ?_
            refine go_getO (a := 165) dR_inline_527 flR_13 rfl (hS.s sh_163) (hS.r rt_one) ?_
            refine go_iload dR_inline_530 rfl ?_
            refine go_ialV (hS.s sh_165) (by omega) (by decide) m2 dR_inline_532 ?_
            rw [← iC_a2 (p := p) (f := f) (n := iN C) c464 (fun q => nL c497 c503 c510 ⟨q, trivial⟩)]
            exact K533 _ ⟨fun q => jmT q h28, fun q => jmR q⟩ c464
          · refine go_aload_n dR_inline_513 rfl rfl ?_
            refine go_getO (a := 165) dR_inline_514 flR_13 rfl (hS.s sh_163) (hS.r rt_one) ?_
            refine go_iload dR_inline_517 rfl ?_
            have hl : mO C k = 2 ∨ mO C k = 3 ∨ mO C k = 27 := by first | exact Or.inl c497 | exact Or.inr (Or.inl c503) | exact Or.inr (Or.inr c510)
            refine go_ialV (hS.s sh_165) (by omega) (by decide) m2 dR_inline_519 ?_
            obtain ⟨q1, q2⟩ := locO_V (r := false) hC hkn (by rcases hl with q | q | q; exact Or.inl q; exact Or.inr (Or.inl q); exact Or.inr (Or.inr (Or.inl q)))
            rw [q1]
            refine go_iload dR_inline_520 rfl ?_
            refine go_iaddN dR_inline_522 ?_
            rw [← iC_a1 (p := p) (f := f) (n := iN C) c464 hl]
            refine go_goto dR_inline_523 (tgt := 533) (by decide) ?_
            exact K533 _ ⟨fun q => jmT q h28, fun q => jmR q⟩ c464
    · refine go_aload_n dR_inline_467 rfl rfl ?_
      refine go_iload dR_inline_468 rfl ?_
      refine go_iload dR_inline_470 rfl ?_
      first | refine go_iaddN dR_inline_472 ?_ | refine go_iadd dR_inline_472 ?_
      refine go_bipush (nI 11) (by decide) dR_inline_473 ?_
      refine go_iconst (nI 0) (by decide) dR_inline_475 ?_
      refine go_iload_n dR_inline_476 rfl rfl ?_
      refine go_iload dR_inline_477 rfl ?_
      first | refine go_iaddN dR_inline_479 ?_ | refine go_iadd dR_inline_479 ?_
      refine go_cV (k' := (0, 0)) dR_inline_480 _ csR_292 (hS.s sh_163) rfl imR_newInstruction seR_newInstruction rfl (okR_newInstruction (d := 0) w G (p + mG C + k) _ _ _ (by omega) hS) (by omega) (by decide) (Nat.le_of_ble_eq_true rfl) (fun r G1 hr hn => ?_)
      obtain ⟨rfl, hG⟩ := hr
      rw [hG]
      clear hG hn
      refine go_goto dR_inline_483 (tgt := 561) (by decide) ?_
      rw [iC_r c464] at T1 T2 T3
      exact FIN _ _ _ _ _ (by rw [T1]) T2.symm T3.symm
set_option maxRecDepth 100000 in
theorem R_il0 (w : am_W) {d : Nat} (hd : 2 ≤ d) (G : am_G) (v m c p f : Nat) (M C : mT) (l1 l4 l9 : Option am_V) (hv : v < 2) (hm : m < 6) (hc6 : c < 6) (hp : p < mN M) (hV : mV M) (hC : mV C) (hf : f ≤ 8) (hP : ilP C) (hfl : f + gLx C true (mN C) ≤ 8) (l10 l11 l12 l13 : Option am_V) (hS : St0 G) (hM : rM G (6 * v + m) M) (hCm : rM G (6 * v + c) C) : am_Go w jR_inline d (0, 0) 158 [some (.inr (some 163)), l1, some (.inl (nI p)), some (.inl (nI (6 * v + m))), l4, some (.inl (nI (6 * v + c))), some (.inl (nI f)), some (.inl (nI (iN C))), some (.inl (nI (p + mG C))), l9, l10, l11, l12, l13] [] G (fun r G' => (r = some (.inl (-3)) ∧ (60 < mN M + iN C - 1 ∨ 8 < (iRR M C p).1) ∧ oNw G G') ∨ (r = some (.inl (nI (mN M + iN C - 1))) ∧ mN M + iN C - 1 ≤ 60 ∧ (iRR M C p).1 ≤ 8 ∧ ∃ G1, oNw G G1 ∧ oQ (6 * v + m) G1 G' ∧ rM G' (6 * v + m) (mNew M p (iN C) (iC C p f (iN C)) (iRR M C p)))) := by
  have hn6 := hV.1
  have hr8 := hV.2.1
  have cn6 := hC.1
  have cr8 := hC.2.1
  have cg3 := hC.2.2.1
  have eN : iN C = mG C + mN C := rfl
  have W0 : rWw (am_wi G 163 51 (nI 0)) (iR1 C (p + mG C) 0) := ⟨wi_Is, fun i hi => absurd hi (Nat.not_lt_zero i)⟩
  have u3 := iR1_le (C := C) (q := p + mG C) (mR C)
  have u4 := iR2_le (M := M) (p := p) (n := iN C) (R := iR1 C (p + mG C) (mR C)) (mR M)
  have u5 : (iRR M C p).1 ≤ 16 := by show (iR2 M p (iN C) (iR1 C (p + mG C) (mR C)) (mR M)).1 ≤ 16; omega
  refine go_aload_n dR_inline_158 rfl rfl ?_
  refine go_iconst (nI 0) (by decide) dR_inline_159 ?_
  refine go_putI dR_inline_160 fpR_277 rfl (hS.s sh_163) ?_
  refine go_iconst (nI 0) (by decide) dR_inline_163 ?_
  refine go_istore dR_inline_164 (Nat.le_of_ble_eq_true rfl) ?_
  refine R_il1 w (by omega) G v m c p f M C l1 l4 l9 hv hm hc6 hp hV hC hf hM hCm (fun X j10 j11 j12 j13 SX ox WX => ?_) (mR C) 0 _ _ _ _ (by omega) hS oNw.w3 W0
  refine go_iconst (nI 0) (by decide) dR_inline_266 ?_
  refine go_istore dR_inline_267 (Nat.le_of_ble_eq_true rfl) ?_
  refine R_il2 w (by omega) G v m c p f M C l1 l4 l9 hv hm hc6 hp hV hC hf hM hCm (fun Y i10 i11 i12 i13 SY oy WY => ?_) (mR M) 0 X _ _ _ (by omega) SX ox WX
  have hS := SY
  have mn := (hM.nw oy).1.1
  have nr := WY.1
  refine go_aload_n dR_inline_345 rfl rfl ?_
  refine go_getO (a := 167) dR_inline_346 flR_19 rfl (hS.s sh_163) (hS.r rt_many) ?_
  refine go_iload_n dR_inline_349 rfl rfl ?_
  refine go_ialV (hS.s sh_167) (by omega) (by decide) mn dR_inline_350 ?_
  refine go_iload dR_inline_351 rfl ?_
  first | refine go_iaddN dR_inline_353 ?_ | refine go_iadd dR_inline_353 ?_
  refine go_iconst (nI 1) (by decide) dR_inline_354 ?_
  refine go_isubN (by omega) dR_inline_355 ?_
  refine go_bipush (nI 60) (by decide) dR_inline_356 ?_
  refine go_icmp_gtN (by omega) (by decide) dR_inline_358 (tgt := 370) (by decide) (fun c358 => ?_) (fun c358 => ?_)
  · refine go_bipush (-3) (by decide) dR_inline_370 ?_
    refine go_ireturn rfl dR_inline_372 ?_
    first | exact Or.inl ⟨rfl, Or.inr c367, oy⟩ | exact Or.inl ⟨rfl, Or.inl c358, oy⟩
  · refine go_aload_n dR_inline_361 rfl rfl ?_
    refine go_getV dR_inline_362 flR_277 rfl (hS.s sh_163) (by first | assumption | (simp (disch := omega) only [wi_I, ro_I, wi_In, wi_Is]; done) | (simp (disch := omega) only [wi_I, ro_I, wi_In, wi_Is]; first | assumption | rfl) | rfl) ?_
    refine go_bipush (nI 8) (by decide) dR_inline_365 ?_
    refine go_icmp_leN (by omega) (by decide) dR_inline_367 (tgt := 373) (by decide) (fun c367 => ?_) (fun c367 => ?_)
    · refine go_iconst (nI 0) (by decide) dR_inline_373 ?_
      refine go_istore dR_inline_374 (Nat.le_of_ble_eq_true rfl) ?_
      refine R_il3 w (by omega) Y v m c p f M C l1 l4 l9 hv hm hc6 hp hV hC hf (iRR M C p) c358 (hM.nw oy) (hCm.nw oy) (fun U a10 a11 a12 a13 SU ou IU => ?_) (mG C) 0 Y _ _ _ (by omega) SY oR.rf (fun i hi => absurd hi.2 (by omega))
      refine go_iconst (nI 0) (by decide) dR_inline_419 ?_
      refine go_istore dR_inline_420 (Nat.le_of_ble_eq_true rfl) ?_
      refine R_il4 w (by omega) Y v m c p f M C l1 l4 l9 hv hm hc6 hp hV hC hf (iRR M C p) c358 hP hfl (hM.nw oy) (hCm.nw oy) (fun V b10 b11 b12 b13 SV ov IV => ?_) (mN C) 0 U _ _ _ (by omega) SU ou (fun i hi => IU i (by have hi : p ≤ i ∧ i < p + (mG C + 0) := hi; exact ⟨hi.1, by omega⟩))
      have hS := SV
      have oV : oNw Y V := ⟨ov.up (fun i hi => by omega), fun k _ => by rw [ov.2.2 163 (by omega)]⟩
      have WV : rWw V (iRR M C p) := by
        obtain ⟨w1, w2⟩ := WY
        refine ⟨by rw [ov.2.2 163 (by omega)]; exact w1, fun i hi => ?_⟩
        rw [ov.2.2 196 (by omega), ov.2.2 197 (by omega), ov.2.2 198 (by omega), ov.2.2 199 (by omega)]
        exact w2 i hi
      refine go_aload_n dR_inline_567 rfl rfl ?_
      refine go_iload_n dR_inline_568 rfl rfl ?_
      refine go_iload_n dR_inline_569 rfl rfl ?_
      refine go_iload dR_inline_570 rfl ?_
      refine go_cV (k' := (0, 0)) dR_inline_572 _ csR_295 (hS.s sh_163) rfl imR_replace seR_replace rfl (okR_replace (d := 1) w (by decide) V v m p (iN C) M (iC C p f (iN C)) (iRR M C p) hv hm hp hV c358 c367 SV ((hM.nw oy).nw oV) WV IV) (by omega) (by decide) (Nat.le_of_ble_eq_true rfl) (fun r G1 hr hn => ?_)
      obtain ⟨rfl, Gx, q1, q2, q3⟩ := hr
      refine go_ireturn rfl dR_inline_575 ?_
      exact Or.inr ⟨rfl, c358, c367, Gx, (oy.tr oV).tr q1, q2, q3⟩
    · refine go_bipush (-3) (by decide) dR_inline_370 ?_
      refine go_ireturn rfl dR_inline_372 ?_
      first | exact Or.inl ⟨rfl, Or.inr c367, oy⟩ | exact Or.inl ⟨rfl, Or.inl c358, oy⟩
set_option maxRecDepth 100000 in
theorem okR_inline (w : am_W) {d : Nat} (hd : 5 ≤ d) (G : am_G) (s : sT) (x y : Int32) (hS : St0 G) (hc : rS G s) (hv : sV s) : am_Ok w jR_inline d (0, 0) [.inr (some 163), .inl x, .inl y] G (fun r G' => r = some (.inl (aInl s x y).1) ∧ rEnd G G' (aInl s x y).2) := by
  refine am_ok_of rfl (Nat.le_of_ble_eq_true rfl) ?_
  show am_Go w jR_inline d (0, 0) 0 [some (.inr (some 163)), some (.inl x), some (.inl y), none, none, none, none, none, none, none, none, none, none, none] [] G _
  refine go_iload_n dR_inline_0 rfl rfl ?_
  refine go_iconst (nI 0) (by decide) dR_inline_1 ?_
  refine go_iconst (nI 5) (by decide) dR_inline_2 ?_
  refine go_cS (k' := (0, 0)) dR_inline_3 _ csR_123 stR_in rfl (okR_in0 (d := 0) w G x 5 (by decide)) (by omega) (by decide) (Nat.le_of_ble_eq_true rfl) (fun r G1 hr hn => ?_)
  obtain ⟨rfl, hG⟩ := hr
  rw [hG]
  clear hG hn
  refine go_if_neB dR_inline_6 (tgt := 11) (by decide) (fun c6 => ?_) (fun c6 => ?_)
  · obtain ⟨m, hm, rfl⟩ := bel_of c6 (by decide)
    have hv1 := hv.1
    refine go_aload_n dR_inline_11 rfl rfl ?_
    refine go_iload_n dR_inline_12 rfl rfl ?_
    refine go_cV (k' := (0, 0)) dR_inline_13 _ csR_135 (hS.s sh_163) rfl imR_own seR_own rfl (okR_own (d := 0) w G s.1 m hc.1 hS) (by omega) (by decide) (Nat.le_of_ble_eq_true rfl) (fun r G1 hr hn => ?_)
    obtain ⟨rfl, hG⟩ := hr
    rw [hG]
    clear hG hn
    refine go_istore_n dR_inline_16 rfl (Nat.le_of_ble_eq_true rfl) ?_
    refine go_aload_n dR_inline_17 rfl rfl ?_
    refine go_iload_n dR_inline_18 rfl rfl ?_
    refine go_cV (k' := (0, 0)) dR_inline_19 _ csR_188 (hS.s sh_163) rfl imR_isRight seR_isRight rfl (okR_isRight (d := 3) w (by decide) G s.1 m (zQ s s.1) hv1 hm hS (rS.hR hc hv hv1)) (by omega) (by decide) (Nat.le_of_ble_eq_true rfl) (fun r G1 hr hn => ?_)
    obtain ⟨t, rfl, I1, o1, L1, N1⟩ := hr
    have hS := o1.St hS
    refine go_istore dR_inline_22 (Nat.le_of_ble_eq_true rfl) ?_
    refine go_iload dR_inline_24 rfl ?_
    refine go_if_neB dR_inline_26 (tgt := 32) (by decide) (fun c26 => ?_) (fun c26 => ?_)
    · obtain ⟨hL, -⟩ := L1 (nbT c26)
      have RC := hc.j o1
      have hR1 := rS.hR RC hv hv1
      have hM : rM G1 (6 * s.1 + m) (zM s m) := (hR1 m hm).1
      have hV : mV (zM s m) := (hR1 m hm).2
      have hn6 := hV.1
      have mn := hM.1.1
      have oR1 := o1.rf2
      refine go_iload_n dR_inline_32 rfl rfl ?_
      refine go_iconst (nI 0) (by decide) dR_inline_33 ?_
      refine go_aload_n dR_inline_34 rfl rfl ?_
      refine go_getO (a := 167) dR_inline_35 flR_19 rfl (hS.s sh_163) (hS.r rt_many) ?_
      refine go_iload_n dR_inline_38 rfl rfl ?_
      refine go_ialV (hS.s sh_167) (by omega) (by decide) mn dR_inline_39 ?_
      refine go_iconst (nI 1) (by decide) dR_inline_40 ?_
      refine go_isub dR_inline_41 ?_
      refine go_cS (k' := (0, 0)) dR_inline_42 _ csR_123 stR_in rfl (okR_inN (d := 0) w G1 y (mN (zM s m)) (by omega)) (by omega) (by decide) (Nat.le_of_ble_eq_true rfl) (fun r G1 hr hn => ?_)
      obtain ⟨rfl, hG⟩ := hr
      subst hG
      clear hn
      refine go_if_eqB dR_inline_45 (tgt := 64) (by decide) (fun c45 => ?_) (fun c45 => ?_)
      · refine go_bipush (-2) (by decide) dR_inline_64 ?_
        refine go_ireturn rfl dR_inline_66 ?_
        first | (have q := aInl_n1 (s := s) hm hL c45; rw [q]; exact ⟨rfl, RC, oR1⟩) | (have q := aInl_n2 (s := s) hm hL (show p < 1000 by omega) c61; rw [q]; exact ⟨rfl, RC, oR1⟩)
      · obtain ⟨p, hp, rfl⟩ := bel_of c45 (by omega)
        obtain ⟨m1, m2, m3⟩ := hM.2.1 p hp
        have h28 := (hV.2.2.2.1 p hp).1
        refine go_aload_n dR_inline_48 rfl rfl ?_
        refine go_getO (a := 164) dR_inline_49 flR_7 rfl (hS.s sh_163) (hS.r rt_op) ?_
        refine go_bipush (nI 60) (by decide) dR_inline_52 ?_
        refine go_iload_n dR_inline_54 rfl rfl ?_
        first | refine go_imulN dR_inline_55 ?_ | refine go_imul dR_inline_55 ?_
        refine go_iload_n dR_inline_56 rfl rfl ?_
        first | refine go_iaddN dR_inline_57 ?_ | refine go_iadd dR_inline_57 ?_
        refine go_ialV (hS.s sh_164) (by omega) (by decide) m1 dR_inline_58 ?_
        refine go_bipush (nI 21) (by decide) dR_inline_59 ?_
        refine go_icmp_eqN (by omega) (by decide) dR_inline_61 (tgt := 67) (by decide) (fun c61 => ?_) (fun c61 => ?_)
        · obtain ⟨a1, a2⟩ := hV.call hp c61
          rw [aInl_y hm hL hn6 hp c61]
          generalize hcc : aN (zM s m) p = c at *
          have hC : mV (zM s c) := (hR1 c a2).2
          have hCm : rM G1 (6 * s.1 + c) (zM s c) := (hR1 c a2).1
          have mc := hCm.1.1
          have tk := hCm.1.2.2.1
          have cn6 := hC.1
          have cg3 := hC.2.2.1
          have g8 := gLx_8 (r := true) hV (mN (zM s m)) (Nat.le_refl _)
          refine go_aload_n dR_inline_67 rfl rfl ?_
          refine go_aload_n dR_inline_68 rfl rfl ?_
          refine go_getO (a := 165) dR_inline_69 flR_13 rfl (hS.s sh_163) (hS.r rt_one) ?_
          refine go_bipush (nI 60) (by decide) dR_inline_72 ?_
          refine go_iload_n dR_inline_74 rfl rfl ?_
          first | refine go_imulN dR_inline_75 ?_ | refine go_imul dR_inline_75 ?_
          refine go_iload_n dR_inline_76 rfl rfl ?_
          first | refine go_iaddN dR_inline_77 ?_ | refine go_iadd dR_inline_77 ?_
          refine go_ialV (hS.s sh_165) (by omega) (by decide) (m2.trans a1) dR_inline_78 ?_
          refine go_cV (k' := (0, 0)) dR_inline_79 _ csR_135 (hS.s sh_163) rfl imR_own seR_own rfl (okR_own (d := 0) w G1 s.1 c RC.1 hS) (by omega) (by decide) (Nat.le_of_ble_eq_true rfl) (fun r G1 hr hn => ?_)
          obtain ⟨rfl, hG⟩ := hr
          subst hG
          clear hn
          refine go_istore dR_inline_82 (Nat.le_of_ble_eq_true rfl) ?_
          refine go_aload_n dR_inline_84 rfl rfl ?_
          refine go_iload_n dR_inline_85 rfl rfl ?_
          refine go_iconst (am_b true) (by decide) dR_inline_86 ?_
          refine go_cV (k' := (0, 0)) dR_inline_87 _ csR_298 (hS.s sh_163) rfl imR_greatest seR_greatest rfl (okR_greatest (d := 0) w G1 s.1 m (zM s m) true hv1 hm hV hS hM) (by omega) (by decide) (Nat.le_of_ble_eq_true rfl) (fun r G1 hr hn => ?_)
          obtain ⟨rfl, hG⟩ := hr
          subst hG
          clear hn
          refine go_iconst (nI 1) (by decide) dR_inline_90 ?_
          refine go_iadd dR_inline_91 ?_
          rw [nM_p]
          refine go_istore dR_inline_92 (Nat.le_of_ble_eq_true rfl) ?_
          refine go_aload_n dR_inline_94 rfl rfl ?_
          refine go_getO (a := 168) dR_inline_95 flR_22 rfl (hS.s sh_163) (hS.r rt_takes) ?_
          refine go_iload dR_inline_98 rfl ?_
          refine go_ialV (hS.s sh_168) (by omega) (by decide) tk dR_inline_100 ?_
          refine go_aload_n dR_inline_101 rfl rfl ?_
          refine go_getO (a := 167) dR_inline_102 flR_19 rfl (hS.s sh_163) (hS.r rt_many) ?_
          refine go_iload dR_inline_105 rfl ?_
          refine go_ialV (hS.s sh_167) (by omega) (by decide) mc dR_inline_107 ?_
          first | refine go_iaddN dR_inline_108 ?_ | refine go_iadd dR_inline_108 ?_
          refine go_istore dR_inline_109 (Nat.le_of_ble_eq_true rfl) ?_
          refine go_iload_n dR_inline_111 rfl rfl ?_
          refine go_aload_n dR_inline_112 rfl rfl ?_
          refine go_getO (a := 168) dR_inline_113 flR_22 rfl (hS.s sh_163) (hS.r rt_takes) ?_
          refine go_iload dR_inline_116 rfl ?_
          refine go_ialV (hS.s sh_168) (by omega) (by decide) tk dR_inline_118 ?_
          first | refine go_iaddN dR_inline_119 ?_ | refine go_iadd dR_inline_119 ?_
          refine go_istore dR_inline_120 (Nat.le_of_ble_eq_true rfl) ?_
          refine go_aload_n dR_inline_122 rfl rfl ?_
          refine go_iload dR_inline_123 rfl ?_
          refine go_cV (k' := (0, 0)) dR_inline_125 _ csR_188 (hS.s sh_163) rfl imR_isRight seR_isRight rfl (okR_isRight (d := 3) w (by decide) G1 s.1 c (zQ s s.1) hv1 a2 hS hR1) (by omega) (by decide) (Nat.le_of_ble_eq_true rfl) (fun r G1 hr hn => ?_)
          obtain ⟨t2, rfl, I2, o2, L2, N2⟩ := hr
          have hS := o2.St hS
          refine go_istore dR_inline_128 (Nat.le_of_ble_eq_true rfl) ?_
          refine go_iload dR_inline_130 rfl ?_
          refine go_if_neB dR_inline_132 (tgt := 138) (by decide) (fun c132 => ?_) (fun c132 => ?_)
          · obtain ⟨hT, -⟩ := L2 (nbT c132)
            have hT : fLeast (gP (zQ s s.1)) (zM s c) t2.1 := hT
            refine go_aload_n dR_inline_138 rfl rfl ?_
            refine go_iload_n dR_inline_139 rfl rfl ?_
            refine go_iload dR_inline_140 rfl ?_
            refine go_iload_n dR_inline_142 rfl rfl ?_
            refine go_iload dR_inline_143 rfl ?_
            refine go_cV (k' := (0, 0)) dR_inline_145 _ csR_302 (hS.s sh_163) rfl imR_mayInline seR_mayInline rfl (okR_mayInline (d := 4) w (by decide) G1 s.1 m c p (zQ s s.1) hv1 hm a2 hp t.1 t2.1 hL hT hS (hR1.j o2)) (by omega) (by decide) (Nat.le_of_ble_eq_true rfl) (fun r G1 hr hn => ?_)
            obtain ⟨bb, rfl, b2, o3⟩ := hr
            have hS := o3.St hS
            refine go_istore dR_inline_148 (Nat.le_of_ble_eq_true rfl) ?_
            refine go_iload dR_inline_150 rfl ?_
            refine go_if_neB dR_inline_152 (tgt := 158) (by decide) (fun c152 => ?_) (fun c152 => ?_)
            · have hmay := b2.mp c152
              obtain ⟨S7, T7, -, -, -, -, hiP, hfl, -, -⟩ := id hmay
              have hR3 := (hR1.j o2).j o3
              refine go_post (R_il0 w (by omega) G1 s.1 m c p (gLx (zM s m) true (mN (zM s m))) (zM s m) (zM s c) _ _ _ hv1 hm a2 hp hV hC g8 hiP hfl _ _ _ _ hS (hR3 m hm).1 (hR3 c a2).1) (fun r9 G9 q => ?_)
              rcases q with ⟨q1, q2, q3⟩ | ⟨q1, q2, q3, Gy, q4, q5, q6⟩
              · rw [uY_f (by rw [hcc]; exact hT) (by rw [hcc]; exact hmay) (by rw [hcc]; exact q2)]
                exact ⟨q1, ((RC.j o2).j o3).nw q3, ((oR1.tr o2.rf2).tr o3.rf2).tr q3.rf2⟩
              · rw [uY_y (by rw [hcc]; exact hT) (by rw [hcc]; exact hmay) (by rw [hcc]; exact q2) (by rw [hcc]; exact q3), hcc]
                exact ⟨q1, (rEnd.put hv (((RC.j o2).j o3).nw q4) q5 q6).1, (((oR1.tr o2.rf2).tr o3.rf2).tr q4.rf2).tr q5.R⟩
            · refine go_bipush (-2) (by decide) dR_inline_155 ?_
              refine go_ireturn rfl dR_inline_157 ?_
              rw [uY_n (by rw [hcc]; exact hT) (by rw [hcc]; exact fun q => nbX c152 (b2.mpr q))]
              exact ⟨rfl, (RC.j o2).j o3, (oR1.tr o2.rf2).tr o3.rf2⟩
          · refine go_bipush (-4) (by decide) dR_inline_135 ?_
            refine go_ireturn rfl dR_inline_137 ?_
            rw [uY_w (by rw [hcc]; exact N2 (nbF c132))]
            exact ⟨rfl, RC.j o2, oR1.tr o2.rf2⟩
        · refine go_bipush (-2) (by decide) dR_inline_64 ?_
          refine go_ireturn rfl dR_inline_66 ?_
          first | (have q := aInl_n1 (s := s) hm hL c45; rw [q]; exact ⟨rfl, RC, oR1⟩) | (have q := aInl_n2 (s := s) hm hL (show p < 1000 by omega) c61; rw [q]; exact ⟨rfl, RC, oR1⟩)
    · refine go_bipush (-4) (by decide) dR_inline_29 ?_
      refine go_ireturn rfl dR_inline_31 ?_
      rw [aInl_w hm (N1 (nbF c26))]
      exact ⟨rfl, hc.j o1, o1.rf2⟩
  · refine go_iconst (-1) (by decide) dR_inline_9 ?_
    refine go_ireturn rfl dR_inline_10 ?_
    rw [aInl_o c6]
    exact ⟨rfl, rEnd.rf hc⟩
