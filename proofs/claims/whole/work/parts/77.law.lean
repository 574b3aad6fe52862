/-! the law: what is there at the start, one turn for each kind of call, the loop -/
theorem and15 (x : Int32) : ∃ c, c < 16 ∧ x &&& nI 15 = nI c := by
  refine ⟨(x &&& nI 15).toBitVec.toNat, ?_, ?_⟩
  · rw [Int32.toBitVec_and, BitVec.toNat_and]
    have : x.toBitVec.toNat &&& (nI 15).toBitVec.toNat ≤ (nI 15).toBitVec.toNat := Nat.and_le_right
    have e : (nI 15).toBitVec.toNat = 15 := by decide
    omega
  · apply Int32.toBitVec_inj.mp
    apply BitVec.eq_of_toNat_eq
    generalize x &&& nI 15 = y
    show _ = (Int32.ofNat y.toBitVec.toNat).toBitVec.toNat
    have := y.toBitVec.isLt
    show _ = (BitVec.ofNat 32 y.toBitVec.toNat).toNat
    rw [BitVec.toNat_ofNat, Nat.mod_eq_of_lt this]
section Lw
variable {w : am_W} {k : Nat × Nat} {i : Nat} {G G1 G2 : am_G} {s s' : sT} {P : Option am_V → am_G → Prop}
theorem go_ialXN {j d pc a : Nat} {L : List (Option am_V)} {st : List am_V} (ha : a < w.2.2.2.2.1) (hn : w.2.2.2.2.1 < 2 ^ 31) (h : decode (am_by j) pc = .ok (.iaload, 1)) (kk : am_Go w j d k (pc + 1) L (.inl (w.2.2.2.2.2 a) :: st) G P) : am_Go w j d k pc L (.inl (nI a) :: .inr (some 1000000) :: st) G P :=
  go_ialoadX (vp_in_nI ha hn) h (by rw [nI_clamp (by omega)]; exact kk)
theorem lw_c (hr : rS G s) (h : cEnd2 G G1 s') : St0 G1 ∧ cS G1 s' ∧ rS G1 s := ⟨h.1, h.2.1, hr.same h.2.2⟩
theorem lw_r (h1 : St0 G1 ∧ cS G1 s' ∧ rS G1 s) (h : rEnd G1 G2 s') : St0 G2 ∧ cS G2 s' ∧ rS G2 s' := ⟨h.2.St h1.1, h1.2.1.same (fun i hi => h.2.2.2 i (by unfold rfR; omega)), h.1⟩
theorem sh_0x (hS : St0 G) : G.1[0]? = some (0, 0) := hS.s rfl
theorem sh_163x (hS : St0 G) : G.1[163]? = some (0, 8) := hS.s sh_163
set_option maxRecDepth 100000 in
theorem lwc_write (hw : w.2.2.2.2.1 ≤ 3584) (hi : i + 7 ≤ w.2.2.2.2.1) (hS : St0 G) (hc : cS G s) (hr : rS G s) (hv : sV s) (K : ∀ G' s', St0 G' → cS G' s' → rS G' s' → sV s' → am_Go w jY_law 12 k 778 [some (.inr (some 1000000)), some (.inr (some 0)), some (.inr (some 163)), some (.inl (nI i))] [] G' P) : am_Go w jY_law 12 k 112 [some (.inr (some 1000000)), some (.inr (some 0)), some (.inr (some 163)), some (.inl (nI i))] [] G P := by
  refine go_aload_n dY_law_112 rfl rfl ?_
  refine go_aload_n dY_law_113 rfl rfl ?_
  refine go_iload_n dY_law_114 rfl rfl ?_
  refine go_iconst (nI 1) (by decide) dY_law_115 ?_
  refine go_iaddN dY_law_116 ?_
  refine go_ialXN (by omega) (by omega) dY_law_117 ?_
  refine go_cV (k' := (0, 0)) dY_law_118 _ csY_13 (sh_0x hS) rfl imF_write seF_write rfl (okF_write w (d := 11) (by decide) G s (w.2.2.2.2.2 (i + 1)) hS hc hv) (by decide) ⟨Nat.zero_le _, Nat.zero_le _⟩ (Nat.le_of_ble_eq_true rfl) (fun r G1 hq hn => ?_)
  obtain ⟨rfl, hE⟩ := hq
  have h1 := lw_c hr (hE.two hS)
  clear hE hn
  refine go_aload_n dY_law_121 rfl rfl ?_
  refine go_aload_n dY_law_122 rfl rfl ?_
  refine go_iload_n dY_law_123 rfl rfl ?_
  refine go_iconst (nI 1) (by decide) dY_law_124 ?_
  refine go_iaddN dY_law_125 ?_
  refine go_ialXN (by omega) (by omega) dY_law_126 ?_
  refine go_cV (k' := (0, 0)) dY_law_127 _ csY_17 (sh_163x h1.1) rfl imR_write seR_write rfl (okR_write w (d := 11) (by decide) G1 s (w.2.2.2.2.2 (i + 1)) h1.1 h1.2.2 hv) (by decide) ⟨Nat.zero_le _, Nat.zero_le _⟩ (Nat.le_of_ble_eq_true rfl) (fun r G2 hq hn => ?_)
  obtain ⟨rfl, hE⟩ := hq
  have h2 := lw_r h1 hE
  clear hE hn
  exact go_icmp_eq dY_law_130 (tgt := 778) (by decide) (fun _ => K G2 _ h2.1 h2.2.1 h2.2.2 (aWrite_v hv)) (fun c => absurd rfl c)
set_option maxRecDepth 100000 in
theorem lwc_branch (hw : w.2.2.2.2.1 ≤ 3584) (hi : i + 7 ≤ w.2.2.2.2.1) (hS : St0 G) (hc : cS G s) (hr : rS G s) (hv : sV s) (K : ∀ G' s', St0 G' → cS G' s' → rS G' s' → sV s' → am_Go w jY_law 12 k 778 [some (.inr (some 1000000)), some (.inr (some 0)), some (.inr (some 163)), some (.inl (nI i))] [] G' P) : am_Go w jY_law 12 k 135 [some (.inr (some 1000000)), some (.inr (some 0)), some (.inr (some 163)), some (.inl (nI i))] [] G P := by
  refine go_aload_n dY_law_135 rfl rfl ?_
  refine go_cV (k' := (0, 0)) dY_law_136 _ csY_18 (sh_0x hS) rfl imF_branch seF_branch rfl (okF_branch w (d := 11) (by decide) G s  hS hc hv) (by decide) ⟨Nat.zero_le _, Nat.zero_le _⟩ (Nat.le_of_ble_eq_true rfl) (fun r G1 hq hn => ?_)
  obtain ⟨rfl, hE⟩ := hq
  have h1 := lw_c hr (hE.two hS)
  clear hE hn
  refine go_aload_n dY_law_139 rfl rfl ?_
  refine go_cV (k' := (0, 0)) dY_law_140 _ csY_22 (sh_163x h1.1) rfl imR_branch seR_branch rfl (okR_branch w (d := 11) (by decide) G1 s  h1.1 h1.2.2 hv) (by decide) ⟨Nat.zero_le _, Nat.zero_le _⟩ (Nat.le_of_ble_eq_true rfl) (fun r G2 hq hn => ?_)
  obtain ⟨rfl, hE⟩ := hq
  have h2 := lw_r h1 hE
  clear hE hn
  exact go_icmp_eq dY_law_143 (tgt := 778) (by decide) (fun _ => K G2 _ h2.1 h2.2.1 h2.2.2 (aBranch_v hv)) (fun c => absurd rfl c)
set_option maxRecDepth 100000 in
theorem lwc_method0 (hw : w.2.2.2.2.1 ≤ 3584) (hi : i + 7 ≤ w.2.2.2.2.1) (h3 : w.2.2.2.2.2 (i + 3) = 0) (hS : St0 G) (hc : cS G s) (hr : rS G s) (hv : sV s) (K : ∀ G' s', St0 G' → cS G' s' → rS G' s' → sV s' → am_Go w jY_law 12 k 778 [some (.inr (some 1000000)), some (.inr (some 0)), some (.inr (some 163)), some (.inl (nI i))] [] G' P) : am_Go w jY_law 12 k 148 [some (.inr (some 1000000)), some (.inr (some 0)), some (.inr (some 163)), some (.inl (nI i))] [] G P := by
  refine go_aload_n dY_law_148 rfl rfl ?_
  refine go_aload_n dY_law_149 rfl rfl ?_
  refine go_iload_n dY_law_150 rfl rfl ?_
  refine go_iconst (nI 1) (by decide) dY_law_151 ?_
  refine go_iaddN dY_law_152 ?_
  refine go_ialXN (by omega) (by omega) dY_law_153 ?_
  refine go_aload_n dY_law_154 rfl rfl ?_
  refine go_iload_n dY_law_155 rfl rfl ?_
  refine go_iconst (nI 2) (by decide) dY_law_156 ?_
  refine go_iaddN dY_law_157 ?_
  refine go_ialXN (by omega) (by omega) dY_law_158 ?_
  refine go_aload_n dY_law_159 rfl rfl ?_
  refine go_iload_n dY_law_160 rfl rfl ?_
  refine go_iconst (nI 3) (by decide) dY_law_161 ?_
  refine go_iaddN dY_law_162 ?_
  refine go_ialXN (by omega) (by omega) dY_law_163 ?_
  refine go_if_eq dY_law_164 (tgt := 171) (by decide) (fun _ => ?_) (fun c => absurd h3 c)
  refine go_iconst (nI 0) (by decide) dY_law_171 ?_
  rw [show nI 0 = am_b false from rfl]
  refine go_cV (k' := (0, 0)) dY_law_172 _ csY_23 (sh_0x hS) rfl imF_method seF_method rfl (okF_method w (d := 11) (by decide) G s (w.2.2.2.2.2 (i + 1)) (w.2.2.2.2.2 (i + 2)) false hS hc hv) (by decide) ⟨Nat.zero_le _, Nat.zero_le _⟩ (Nat.le_of_ble_eq_true rfl) (fun r G1 hq hn => ?_)
  obtain ⟨rfl, hE⟩ := hq
  have h1 := lw_c hr (hE.two hS)
  clear hE hn
  refine go_aload_n dY_law_175 rfl rfl ?_
  refine go_aload_n dY_law_176 rfl rfl ?_
  refine go_iload_n dY_law_177 rfl rfl ?_
  refine go_iconst (nI 1) (by decide) dY_law_178 ?_
  refine go_iaddN dY_law_179 ?_
  refine go_ialXN (by omega) (by omega) dY_law_180 ?_
  refine go_aload_n dY_law_181 rfl rfl ?_
  refine go_iload_n dY_law_182 rfl rfl ?_
  refine go_iconst (nI 2) (by decide) dY_law_183 ?_
  refine go_iaddN dY_law_184 ?_
  refine go_ialXN (by omega) (by omega) dY_law_185 ?_
  refine go_aload_n dY_law_186 rfl rfl ?_
  refine go_iload_n dY_law_187 rfl rfl ?_
  refine go_iconst (nI 3) (by decide) dY_law_188 ?_
  refine go_iaddN dY_law_189 ?_
  refine go_ialXN (by omega) (by omega) dY_law_190 ?_
  refine go_if_eq dY_law_191 (tgt := 198) (by decide) (fun _ => ?_) (fun c => absurd h3 c)
  refine go_iconst (nI 0) (by decide) dY_law_198 ?_
  rw [show nI 0 = am_b false from rfl]
  refine go_cV (k' := (0, 0)) dY_law_199 _ csY_27 (sh_163x h1.1) rfl imR_method seR_method rfl (okR_method w (d := 11) (by decide) G1 s (w.2.2.2.2.2 (i + 1)) (w.2.2.2.2.2 (i + 2)) false h1.1 h1.2.2 hv) (by decide) ⟨Nat.zero_le _, Nat.zero_le _⟩ (Nat.le_of_ble_eq_true rfl) (fun r G2 hq hn => ?_)
  obtain ⟨rfl, hE⟩ := hq
  have h2 := lw_r h1 hE
  clear hE hn
  exact go_icmp_eq dY_law_202 (tgt := 778) (by decide) (fun _ => K G2 _ h2.1 h2.2.1 h2.2.2 (aMethod_v hv)) (fun c => absurd rfl c)
set_option maxRecDepth 100000 in
theorem lwc_method1 (hw : w.2.2.2.2.1 ≤ 3584) (hi : i + 7 ≤ w.2.2.2.2.1) (h3 : ¬ w.2.2.2.2.2 (i + 3) = 0) (hS : St0 G) (hc : cS G s) (hr : rS G s) (hv : sV s) (K : ∀ G' s', St0 G' → cS G' s' → rS G' s' → sV s' → am_Go w jY_law 12 k 778 [some (.inr (some 1000000)), some (.inr (some 0)), some (.inr (some 163)), some (.inl (nI i))] [] G' P) : am_Go w jY_law 12 k 148 [some (.inr (some 1000000)), some (.inr (some 0)), some (.inr (some 163)), some (.inl (nI i))] [] G P := by
  refine go_aload_n dY_law_148 rfl rfl ?_
  refine go_aload_n dY_law_149 rfl rfl ?_
  refine go_iload_n dY_law_150 rfl rfl ?_
  refine go_iconst (nI 1) (by decide) dY_law_151 ?_
  refine go_iaddN dY_law_152 ?_
  refine go_ialXN (by omega) (by omega) dY_law_153 ?_
  refine go_aload_n dY_law_154 rfl rfl ?_
  refine go_iload_n dY_law_155 rfl rfl ?_
  refine go_iconst (nI 2) (by decide) dY_law_156 ?_
  refine go_iaddN dY_law_157 ?_
  refine go_ialXN (by omega) (by omega) dY_law_158 ?_
  refine go_aload_n dY_law_159 rfl rfl ?_
  refine go_iload_n dY_law_160 rfl rfl ?_
  refine go_iconst (nI 3) (by decide) dY_law_161 ?_
  refine go_iaddN dY_law_162 ?_
  refine go_ialXN (by omega) (by omega) dY_law_163 ?_
  refine go_if_eq dY_law_164 (tgt := 171) (by decide) (fun c => absurd c h3) (fun _ => ?_)
  refine go_iconst (nI 1) (by decide) dY_law_167 ?_
  refine go_goto dY_law_168 (tgt := 172) (by decide) ?_
  rw [show nI 1 = am_b true from rfl]
  refine go_cV (k' := (0, 0)) dY_law_172 _ csY_23 (sh_0x hS) rfl imF_method seF_method rfl (okF_method w (d := 11) (by decide) G s (w.2.2.2.2.2 (i + 1)) (w.2.2.2.2.2 (i + 2)) true hS hc hv) (by decide) ⟨Nat.zero_le _, Nat.zero_le _⟩ (Nat.le_of_ble_eq_true rfl) (fun r G1 hq hn => ?_)
  obtain ⟨rfl, hE⟩ := hq
  have h1 := lw_c hr (hE.two hS)
  clear hE hn
  refine go_aload_n dY_law_175 rfl rfl ?_
  refine go_aload_n dY_law_176 rfl rfl ?_
  refine go_iload_n dY_law_177 rfl rfl ?_
  refine go_iconst (nI 1) (by decide) dY_law_178 ?_
  refine go_iaddN dY_law_179 ?_
  refine go_ialXN (by omega) (by omega) dY_law_180 ?_
  refine go_aload_n dY_law_181 rfl rfl ?_
  refine go_iload_n dY_law_182 rfl rfl ?_
  refine go_iconst (nI 2) (by decide) dY_law_183 ?_
  refine go_iaddN dY_law_184 ?_
  refine go_ialXN (by omega) (by omega) dY_law_185 ?_
  refine go_aload_n dY_law_186 rfl rfl ?_
  refine go_iload_n dY_law_187 rfl rfl ?_
  refine go_iconst (nI 3) (by decide) dY_law_188 ?_
  refine go_iaddN dY_law_189 ?_
  refine go_ialXN (by omega) (by omega) dY_law_190 ?_
  refine go_if_eq dY_law_191 (tgt := 198) (by decide) (fun c => absurd c h3) (fun _ => ?_)
  refine go_iconst (nI 1) (by decide) dY_law_194 ?_
  refine go_goto dY_law_195 (tgt := 199) (by decide) ?_
  rw [show nI 1 = am_b true from rfl]
  refine go_cV (k' := (0, 0)) dY_law_199 _ csY_27 (sh_163x h1.1) rfl imR_method seR_method rfl (okR_method w (d := 11) (by decide) G1 s (w.2.2.2.2.2 (i + 1)) (w.2.2.2.2.2 (i + 2)) true h1.1 h1.2.2 hv) (by decide) ⟨Nat.zero_le _, Nat.zero_le _⟩ (Nat.le_of_ble_eq_true rfl) (fun r G2 hq hn => ?_)
  obtain ⟨rfl, hE⟩ := hq
  have h2 := lw_r h1 hE
  clear hE hn
  exact go_icmp_eq dY_law_202 (tgt := 778) (by decide) (fun _ => K G2 _ h2.1 h2.2.1 h2.2.2 (aMethod_v hv)) (fun c => absurd rfl c)
set_option maxRecDepth 100000 in
theorem lwc_add (hw : w.2.2.2.2.1 ≤ 3584) (hi : i + 7 ≤ w.2.2.2.2.1) (hS : St0 G) (hc : cS G s) (hr : rS G s) (hv : sV s) (K : ∀ G' s', St0 G' → cS G' s' → rS G' s' → sV s' → am_Go w jY_law 12 k 778 [some (.inr (some 1000000)), some (.inr (some 0)), some (.inr (some 163)), some (.inl (nI i))] [] G' P) : am_Go w jY_law 12 k 207 [some (.inr (some 1000000)), some (.inr (some 0)), some (.inr (some 163)), some (.inl (nI i))] [] G P := by
  refine go_aload_n dY_law_207 rfl rfl ?_
  refine go_aload_n dY_law_208 rfl rfl ?_
  refine go_iload_n dY_law_209 rfl rfl ?_
  refine go_iconst (nI 1) (by decide) dY_law_210 ?_
  refine go_iaddN dY_law_211 ?_
  refine go_ialXN (by omega) (by omega) dY_law_212 ?_
  refine go_aload_n dY_law_213 rfl rfl ?_
  refine go_iload_n dY_law_214 rfl rfl ?_
  refine go_iconst (nI 2) (by decide) dY_law_215 ?_
  refine go_iaddN dY_law_216 ?_
  refine go_ialXN (by omega) (by omega) dY_law_217 ?_
  refine go_aload_n dY_law_218 rfl rfl ?_
  refine go_iload_n dY_law_219 rfl rfl ?_
  refine go_iconst (nI 3) (by decide) dY_law_220 ?_
  refine go_iaddN dY_law_221 ?_
  refine go_ialXN (by omega) (by omega) dY_law_222 ?_
  refine go_aload_n dY_law_223 rfl rfl ?_
  refine go_iload_n dY_law_224 rfl rfl ?_
  refine go_iconst (nI 4) (by decide) dY_law_225 ?_
  refine go_iaddN dY_law_226 ?_
  refine go_ialXN (by omega) (by omega) dY_law_227 ?_
  refine go_cV (k' := (0, 0)) dY_law_228 _ csY_28 (sh_0x hS) rfl imF_add seF_add rfl (okF_add w (d := 11) (by decide) G s (w.2.2.2.2.2 (i + 1)) (w.2.2.2.2.2 (i + 2)) (w.2.2.2.2.2 (i + 3)) (w.2.2.2.2.2 (i + 4)) hS hc hv) (by decide) ⟨Nat.zero_le _, Nat.zero_le _⟩ (Nat.le_of_ble_eq_true rfl) (fun r G1 hq hn => ?_)
  obtain ⟨rfl, hE⟩ := hq
  have h1 := lw_c hr (hE.two hS)
  clear hE hn
  refine go_aload_n dY_law_231 rfl rfl ?_
  refine go_aload_n dY_law_232 rfl rfl ?_
  refine go_iload_n dY_law_233 rfl rfl ?_
  refine go_iconst (nI 1) (by decide) dY_law_234 ?_
  refine go_iaddN dY_law_235 ?_
  refine go_ialXN (by omega) (by omega) dY_law_236 ?_
  refine go_aload_n dY_law_237 rfl rfl ?_
  refine go_iload_n dY_law_238 rfl rfl ?_
  refine go_iconst (nI 2) (by decide) dY_law_239 ?_
  refine go_iaddN dY_law_240 ?_
  refine go_ialXN (by omega) (by omega) dY_law_241 ?_
  refine go_aload_n dY_law_242 rfl rfl ?_
  refine go_iload_n dY_law_243 rfl rfl ?_
  refine go_iconst (nI 3) (by decide) dY_law_244 ?_
  refine go_iaddN dY_law_245 ?_
  refine go_ialXN (by omega) (by omega) dY_law_246 ?_
  refine go_aload_n dY_law_247 rfl rfl ?_
  refine go_iload_n dY_law_248 rfl rfl ?_
  refine go_iconst (nI 4) (by decide) dY_law_249 ?_
  refine go_iaddN dY_law_250 ?_
  refine go_ialXN (by omega) (by omega) dY_law_251 ?_
  refine go_cV (k' := (0, 0)) dY_law_252 _ csY_32 (sh_163x h1.1) rfl imR_add seR_add rfl (okR_add w (d := 11) (by decide) G1 s (w.2.2.2.2.2 (i + 1)) (w.2.2.2.2.2 (i + 2)) (w.2.2.2.2.2 (i + 3)) (w.2.2.2.2.2 (i + 4)) h1.1 h1.2.2 hv) (by decide) ⟨Nat.zero_le _, Nat.zero_le _⟩ (Nat.le_of_ble_eq_true rfl) (fun r G2 hq hn => ?_)
  obtain ⟨rfl, hE⟩ := hq
  have h2 := lw_r h1 hE
  clear hE hn
  exact go_icmp_eq dY_law_255 (tgt := 778) (by decide) (fun _ => K G2 _ h2.1 h2.2.1 h2.2.2 (aAdd_v hv)) (fun c => absurd rfl c)
set_option maxRecDepth 100000 in
theorem lwc_change (hw : w.2.2.2.2.1 ≤ 3584) (hi : i + 7 ≤ w.2.2.2.2.1) (hS : St0 G) (hc : cS G s) (hr : rS G s) (hv : sV s) (K : ∀ G' s', St0 G' → cS G' s' → rS G' s' → sV s' → am_Go w jY_law 12 k 778 [some (.inr (some 1000000)), some (.inr (some 0)), some (.inr (some 163)), some (.inl (nI i))] [] G' P) : am_Go w jY_law 12 k 260 [some (.inr (some 1000000)), some (.inr (some 0)), some (.inr (some 163)), some (.inl (nI i))] [] G P := by
  refine go_aload_n dY_law_260 rfl rfl ?_
  refine go_aload_n dY_law_261 rfl rfl ?_
  refine go_iload_n dY_law_262 rfl rfl ?_
  refine go_iconst (nI 1) (by decide) dY_law_263 ?_
  refine go_iaddN dY_law_264 ?_
  refine go_ialXN (by omega) (by omega) dY_law_265 ?_
  refine go_aload_n dY_law_266 rfl rfl ?_
  refine go_iload_n dY_law_267 rfl rfl ?_
  refine go_iconst (nI 2) (by decide) dY_law_268 ?_
  refine go_iaddN dY_law_269 ?_
  refine go_ialXN (by omega) (by omega) dY_law_270 ?_
  refine go_aload_n dY_law_271 rfl rfl ?_
  refine go_iload_n dY_law_272 rfl rfl ?_
  refine go_iconst (nI 3) (by decide) dY_law_273 ?_
  refine go_iaddN dY_law_274 ?_
  refine go_ialXN (by omega) (by omega) dY_law_275 ?_
  refine go_aload_n dY_law_276 rfl rfl ?_
  refine go_iload_n dY_law_277 rfl rfl ?_
  refine go_iconst (nI 4) (by decide) dY_law_278 ?_
  refine go_iaddN dY_law_279 ?_
  refine go_ialXN (by omega) (by omega) dY_law_280 ?_
  refine go_aload_n dY_law_281 rfl rfl ?_
  refine go_iload_n dY_law_282 rfl rfl ?_
  refine go_iconst (nI 5) (by decide) dY_law_283 ?_
  refine go_iaddN dY_law_284 ?_
  refine go_ialXN (by omega) (by omega) dY_law_285 ?_
  refine go_cV (k' := (0, 0)) dY_law_286 _ csY_33 (sh_0x hS) rfl imF_change seF_change rfl (okF_change w (d := 11) (by decide) G s (w.2.2.2.2.2 (i + 1)) (w.2.2.2.2.2 (i + 2)) (w.2.2.2.2.2 (i + 3)) (w.2.2.2.2.2 (i + 4)) (w.2.2.2.2.2 (i + 5)) hS hc hv) (by decide) ⟨Nat.zero_le _, Nat.zero_le _⟩ (Nat.le_of_ble_eq_true rfl) (fun r G1 hq hn => ?_)
  obtain ⟨rfl, hE⟩ := hq
  have h1 := lw_c hr (hE.two hS)
  clear hE hn
  refine go_aload_n dY_law_289 rfl rfl ?_
  refine go_aload_n dY_law_290 rfl rfl ?_
  refine go_iload_n dY_law_291 rfl rfl ?_
  refine go_iconst (nI 1) (by decide) dY_law_292 ?_
  refine go_iaddN dY_law_293 ?_
  refine go_ialXN (by omega) (by omega) dY_law_294 ?_
  refine go_aload_n dY_law_295 rfl rfl ?_
  refine go_iload_n dY_law_296 rfl rfl ?_
  refine go_iconst (nI 2) (by decide) dY_law_297 ?_
  refine go_iaddN dY_law_298 ?_
  refine go_ialXN (by omega) (by omega) dY_law_299 ?_
  refine go_aload_n dY_law_300 rfl rfl ?_
  refine go_iload_n dY_law_301 rfl rfl ?_
  refine go_iconst (nI 3) (by decide) dY_law_302 ?_
  refine go_iaddN dY_law_303 ?_
  refine go_ialXN (by omega) (by omega) dY_law_304 ?_
  refine go_aload_n dY_law_305 rfl rfl ?_
  refine go_iload_n dY_law_306 rfl rfl ?_
  refine go_iconst (nI 4) (by decide) dY_law_307 ?_
  refine go_iaddN dY_law_308 ?_
  refine go_ialXN (by omega) (by omega) dY_law_309 ?_
  refine go_aload_n dY_law_310 rfl rfl ?_
  refine go_iload_n dY_law_311 rfl rfl ?_
  refine go_iconst (nI 5) (by decide) dY_law_312 ?_
  refine go_iaddN dY_law_313 ?_
  refine go_ialXN (by omega) (by omega) dY_law_314 ?_
  refine go_cV (k' := (0, 0)) dY_law_315 _ csY_37 (sh_163x h1.1) rfl imR_change seR_change rfl (okR_change w (d := 11) (by decide) G1 s (w.2.2.2.2.2 (i + 1)) (w.2.2.2.2.2 (i + 2)) (w.2.2.2.2.2 (i + 3)) (w.2.2.2.2.2 (i + 4)) (w.2.2.2.2.2 (i + 5)) h1.1 h1.2.2 hv) (by decide) ⟨Nat.zero_le _, Nat.zero_le _⟩ (Nat.le_of_ble_eq_true rfl) (fun r G2 hq hn => ?_)
  obtain ⟨rfl, hE⟩ := hq
  have h2 := lw_r h1 hE
  clear hE hn
  exact go_icmp_eq dY_law_318 (tgt := 778) (by decide) (fun _ => K G2 _ h2.1 h2.2.1 h2.2.2 (aChange_v hv)) (fun c => absurd rfl c)
set_option maxRecDepth 100000 in
theorem lwc_row (hw : w.2.2.2.2.1 ≤ 3584) (hi : i + 7 ≤ w.2.2.2.2.1) (hS : St0 G) (hc : cS G s) (hr : rS G s) (hv : sV s) (K : ∀ G' s', St0 G' → cS G' s' → rS G' s' → sV s' → am_Go w jY_law 12 k 778 [some (.inr (some 1000000)), some (.inr (some 0)), some (.inr (some 163)), some (.inl (nI i))] [] G' P) : am_Go w jY_law 12 k 323 [some (.inr (some 1000000)), some (.inr (some 0)), some (.inr (some 163)), some (.inl (nI i))] [] G P := by
  refine go_aload_n dY_law_323 rfl rfl ?_
  refine go_aload_n dY_law_324 rfl rfl ?_
  refine go_iload_n dY_law_325 rfl rfl ?_
  refine go_iconst (nI 1) (by decide) dY_law_326 ?_
  refine go_iaddN dY_law_327 ?_
  refine go_ialXN (by omega) (by omega) dY_law_328 ?_
  refine go_aload_n dY_law_329 rfl rfl ?_
  refine go_iload_n dY_law_330 rfl rfl ?_
  refine go_iconst (nI 2) (by decide) dY_law_331 ?_
  refine go_iaddN dY_law_332 ?_
  refine go_ialXN (by omega) (by omega) dY_law_333 ?_
  refine go_aload_n dY_law_334 rfl rfl ?_
  refine go_iload_n dY_law_335 rfl rfl ?_
  refine go_iconst (nI 3) (by decide) dY_law_336 ?_
  refine go_iaddN dY_law_337 ?_
  refine go_ialXN (by omega) (by omega) dY_law_338 ?_
  refine go_aload_n dY_law_339 rfl rfl ?_
  refine go_iload_n dY_law_340 rfl rfl ?_
  refine go_iconst (nI 4) (by decide) dY_law_341 ?_
  refine go_iaddN dY_law_342 ?_
  refine go_ialXN (by omega) (by omega) dY_law_343 ?_
  refine go_aload_n dY_law_344 rfl rfl ?_
  refine go_iload_n dY_law_345 rfl rfl ?_
  refine go_iconst (nI 5) (by decide) dY_law_346 ?_
  refine go_iaddN dY_law_347 ?_
  refine go_ialXN (by omega) (by omega) dY_law_348 ?_
  refine go_cV (k' := (0, 0)) dY_law_349 _ csY_38 (sh_0x hS) rfl imF_row seF_row rfl (okF_row w (d := 11) (by decide) G s (w.2.2.2.2.2 (i + 1)) (w.2.2.2.2.2 (i + 2)) (w.2.2.2.2.2 (i + 3)) (w.2.2.2.2.2 (i + 4)) (w.2.2.2.2.2 (i + 5)) hS hc hv) (by decide) ⟨Nat.zero_le _, Nat.zero_le _⟩ (Nat.le_of_ble_eq_true rfl) (fun r G1 hq hn => ?_)
  obtain ⟨rfl, hE⟩ := hq
  have h1 := lw_c hr (hE.two hS)
  clear hE hn
  refine go_aload_n dY_law_352 rfl rfl ?_
  refine go_aload_n dY_law_353 rfl rfl ?_
  refine go_iload_n dY_law_354 rfl rfl ?_
  refine go_iconst (nI 1) (by decide) dY_law_355 ?_
  refine go_iaddN dY_law_356 ?_
  refine go_ialXN (by omega) (by omega) dY_law_357 ?_
  refine go_aload_n dY_law_358 rfl rfl ?_
  refine go_iload_n dY_law_359 rfl rfl ?_
  refine go_iconst (nI 2) (by decide) dY_law_360 ?_
  refine go_iaddN dY_law_361 ?_
  refine go_ialXN (by omega) (by omega) dY_law_362 ?_
  refine go_aload_n dY_law_363 rfl rfl ?_
  refine go_iload_n dY_law_364 rfl rfl ?_
  refine go_iconst (nI 3) (by decide) dY_law_365 ?_
  refine go_iaddN dY_law_366 ?_
  refine go_ialXN (by omega) (by omega) dY_law_367 ?_
  refine go_aload_n dY_law_368 rfl rfl ?_
  refine go_iload_n dY_law_369 rfl rfl ?_
  refine go_iconst (nI 4) (by decide) dY_law_370 ?_
  refine go_iaddN dY_law_371 ?_
  refine go_ialXN (by omega) (by omega) dY_law_372 ?_
  refine go_aload_n dY_law_373 rfl rfl ?_
  refine go_iload_n dY_law_374 rfl rfl ?_
  refine go_iconst (nI 5) (by decide) dY_law_375 ?_
  refine go_iaddN dY_law_376 ?_
  refine go_ialXN (by omega) (by omega) dY_law_377 ?_
  refine go_cV (k' := (0, 0)) dY_law_378 _ csY_42 (sh_163x h1.1) rfl imR_row seR_row rfl (okR_row w (d := 11) (by decide) G1 s (w.2.2.2.2.2 (i + 1)) (w.2.2.2.2.2 (i + 2)) (w.2.2.2.2.2 (i + 3)) (w.2.2.2.2.2 (i + 4)) (w.2.2.2.2.2 (i + 5)) h1.1 h1.2.2 hv) (by decide) ⟨Nat.zero_le _, Nat.zero_le _⟩ (Nat.le_of_ble_eq_true rfl) (fun r G2 hq hn => ?_)
  obtain ⟨rfl, hE⟩ := hq
  have h2 := lw_r h1 hE
  clear hE hn
  exact go_icmp_eq dY_law_381 (tgt := 778) (by decide) (fun _ => K G2 _ h2.1 h2.2.1 h2.2.2 (aRow_v hv)) (fun c => absurd rfl c)
set_option maxRecDepth 100000 in
theorem lwc_check (hw : w.2.2.2.2.1 ≤ 3584) (hi : i + 7 ≤ w.2.2.2.2.1) (hS : St0 G) (hc : cS G s) (hr : rS G s) (hv : sV s) (K : ∀ G' s', St0 G' → cS G' s' → rS G' s' → sV s' → am_Go w jY_law 12 k 778 [some (.inr (some 1000000)), some (.inr (some 0)), some (.inr (some 163)), some (.inl (nI i))] [] G' P) : am_Go w jY_law 12 k 386 [some (.inr (some 1000000)), some (.inr (some 0)), some (.inr (some 163)), some (.inl (nI i))] [] G P := by
  refine go_aload_n dY_law_386 rfl rfl ?_
  refine go_aload_n dY_law_387 rfl rfl ?_
  refine go_iload_n dY_law_388 rfl rfl ?_
  refine go_iconst (nI 1) (by decide) dY_law_389 ?_
  refine go_iaddN dY_law_390 ?_
  refine go_ialXN (by omega) (by omega) dY_law_391 ?_
  refine go_cV (k' := (0, 0)) dY_law_392 _ csY_43 (sh_0x hS) rfl imF_check seF_check rfl (okF_check w (d := 11) (by decide) G s (w.2.2.2.2.2 (i + 1)) hS hc hv) (by decide) ⟨Nat.zero_le _, Nat.zero_le _⟩ (Nat.le_of_ble_eq_true rfl) (fun r G1 hq hn => ?_)
  obtain ⟨rfl, hE⟩ := hq
  have h1 := lw_c hr (hE.two hS)
  clear hE hn
  refine go_aload_n dY_law_395 rfl rfl ?_
  refine go_aload_n dY_law_396 rfl rfl ?_
  refine go_iload_n dY_law_397 rfl rfl ?_
  refine go_iconst (nI 1) (by decide) dY_law_398 ?_
  refine go_iaddN dY_law_399 ?_
  refine go_ialXN (by omega) (by omega) dY_law_400 ?_
  refine go_cV (k' := (0, 0)) dY_law_401 _ csY_47 (sh_163x h1.1) rfl imR_check seR_check rfl (okR_check w (d := 11) (by decide) G1 s (w.2.2.2.2.2 (i + 1)) h1.1 h1.2.2 hv) (by decide) ⟨Nat.zero_le _, Nat.zero_le _⟩ (Nat.le_of_ble_eq_true rfl) (fun r G2 hq hn => ?_)
  obtain ⟨rfl, hE⟩ := hq
  have h2 := lw_r h1 hE
  clear hE hn
  exact go_icmp_eq dY_law_404 (tgt := 778) (by decide) (fun _ => K G2 _ h2.1 h2.2.1 h2.2.2 hv) (fun c => absurd rfl c)
set_option maxRecDepth 100000 in
theorem lwc_kindAt (hw : w.2.2.2.2.1 ≤ 3584) (hi : i + 7 ≤ w.2.2.2.2.1) (hS : St0 G) (hc : cS G s) (hr : rS G s) (hv : sV s) (K : ∀ G' s', St0 G' → cS G' s' → rS G' s' → sV s' → am_Go w jY_law 12 k 778 [some (.inr (some 1000000)), some (.inr (some 0)), some (.inr (some 163)), some (.inl (nI i))] [] G' P) : am_Go w jY_law 12 k 409 [some (.inr (some 1000000)), some (.inr (some 0)), some (.inr (some 163)), some (.inl (nI i))] [] G P := by
  refine go_aload_n dY_law_409 rfl rfl ?_
  refine go_aload_n dY_law_410 rfl rfl ?_
  refine go_iload_n dY_law_411 rfl rfl ?_
  refine go_iconst (nI 1) (by decide) dY_law_412 ?_
  refine go_iaddN dY_law_413 ?_
  refine go_ialXN (by omega) (by omega) dY_law_414 ?_
  refine go_aload_n dY_law_415 rfl rfl ?_
  refine go_iload_n dY_law_416 rfl rfl ?_
  refine go_iconst (nI 2) (by decide) dY_law_417 ?_
  refine go_iaddN dY_law_418 ?_
  refine go_ialXN (by omega) (by omega) dY_law_419 ?_
  refine go_aload_n dY_law_420 rfl rfl ?_
  refine go_iload_n dY_law_421 rfl rfl ?_
  refine go_iconst (nI 3) (by decide) dY_law_422 ?_
  refine go_iaddN dY_law_423 ?_
  refine go_ialXN (by omega) (by omega) dY_law_424 ?_
  refine go_cV (k' := (0, 0)) dY_law_425 _ csY_48 (sh_0x hS) rfl imF_kindAt seF_kindAt rfl (okF_kindAt w (d := 11) (by decide) G s (w.2.2.2.2.2 (i + 1)) (w.2.2.2.2.2 (i + 2)) (w.2.2.2.2.2 (i + 3)) hS hc hv) (by decide) ⟨Nat.zero_le _, Nat.zero_le _⟩ (Nat.le_of_ble_eq_true rfl) (fun r G1 hq hn => ?_)
  obtain ⟨rfl, hE⟩ := hq
  have h1 := lw_c hr (hE.two hS)
  clear hE hn
  refine go_aload_n dY_law_428 rfl rfl ?_
  refine go_aload_n dY_law_429 rfl rfl ?_
  refine go_iload_n dY_law_430 rfl rfl ?_
  refine go_iconst (nI 1) (by decide) dY_law_431 ?_
  refine go_iaddN dY_law_432 ?_
  refine go_ialXN (by omega) (by omega) dY_law_433 ?_
  refine go_aload_n dY_law_434 rfl rfl ?_
  refine go_iload_n dY_law_435 rfl rfl ?_
  refine go_iconst (nI 2) (by decide) dY_law_436 ?_
  refine go_iaddN dY_law_437 ?_
  refine go_ialXN (by omega) (by omega) dY_law_438 ?_
  refine go_aload_n dY_law_439 rfl rfl ?_
  refine go_iload_n dY_law_440 rfl rfl ?_
  refine go_iconst (nI 3) (by decide) dY_law_441 ?_
  refine go_iaddN dY_law_442 ?_
  refine go_ialXN (by omega) (by omega) dY_law_443 ?_
  refine go_cV (k' := (0, 0)) dY_law_444 _ csY_52 (sh_163x h1.1) rfl imR_kindAt seR_kindAt rfl (okR_kindAt w (d := 11) (by decide) G1 s (w.2.2.2.2.2 (i + 1)) (w.2.2.2.2.2 (i + 2)) (w.2.2.2.2.2 (i + 3)) h1.1 h1.2.2 hv) (by decide) ⟨Nat.zero_le _, Nat.zero_le _⟩ (Nat.le_of_ble_eq_true rfl) (fun r G2 hq hn => ?_)
  obtain ⟨rfl, hE⟩ := hq
  have h2 := lw_r h1 hE
  clear hE hn
  exact go_icmp_eq dY_law_447 (tgt := 778) (by decide) (fun _ => K G2 _ h2.1 h2.2.1 h2.2.2 hv) (fun c => absurd rfl c)
set_option maxRecDepth 100000 in
theorem lwc_run (hw : w.2.2.2.2.1 ≤ 3584) (hi : i + 7 ≤ w.2.2.2.2.1) (hS : St0 G) (hc : cS G s) (hr : rS G s) (hv : sV s) (K : ∀ G' s', St0 G' → cS G' s' → rS G' s' → sV s' → am_Go w jY_law 12 k 778 [some (.inr (some 1000000)), some (.inr (some 0)), some (.inr (some 163)), some (.inl (nI i))] [] G' P) : am_Go w jY_law 12 k 452 [some (.inr (some 1000000)), some (.inr (some 0)), some (.inr (some 163)), some (.inl (nI i))] [] G P := by
  refine go_aload_n dY_law_452 rfl rfl ?_
  refine go_aload_n dY_law_453 rfl rfl ?_
  refine go_iload_n dY_law_454 rfl rfl ?_
  refine go_iconst (nI 1) (by decide) dY_law_455 ?_
  refine go_iaddN dY_law_456 ?_
  refine go_ialXN (by omega) (by omega) dY_law_457 ?_
  refine go_aload_n dY_law_458 rfl rfl ?_
  refine go_iload_n dY_law_459 rfl rfl ?_
  refine go_iconst (nI 2) (by decide) dY_law_460 ?_
  refine go_iaddN dY_law_461 ?_
  refine go_ialXN (by omega) (by omega) dY_law_462 ?_
  refine go_aload_n dY_law_463 rfl rfl ?_
  refine go_iload_n dY_law_464 rfl rfl ?_
  refine go_iconst (nI 3) (by decide) dY_law_465 ?_
  refine go_iaddN dY_law_466 ?_
  refine go_ialXN (by omega) (by omega) dY_law_467 ?_
  refine go_aload_n dY_law_468 rfl rfl ?_
  refine go_iload_n dY_law_469 rfl rfl ?_
  refine go_iconst (nI 4) (by decide) dY_law_470 ?_
  refine go_iaddN dY_law_471 ?_
  refine go_ialXN (by omega) (by omega) dY_law_472 ?_
  refine go_aload_n dY_law_473 rfl rfl ?_
  refine go_iload_n dY_law_474 rfl rfl ?_
  refine go_iconst (nI 5) (by decide) dY_law_475 ?_
  refine go_iaddN dY_law_476 ?_
  refine go_ialXN (by omega) (by omega) dY_law_477 ?_
  refine go_aload_n dY_law_478 rfl rfl ?_
  refine go_iload_n dY_law_479 rfl rfl ?_
  refine go_bipush (nI 6) (by decide) dY_law_480 ?_
  refine go_iaddN dY_law_482 ?_
  refine go_ialXN (by omega) (by omega) dY_law_483 ?_
  refine go_cV (k' := (0, 0)) dY_law_484 _ csY_53 (sh_0x hS) rfl imF_run seF_run rfl (okF_run w (d := 11) (by decide) G s (w.2.2.2.2.2 (i + 1)) (w.2.2.2.2.2 (i + 2)) (w.2.2.2.2.2 (i + 3)) (w.2.2.2.2.2 (i + 4)) (w.2.2.2.2.2 (i + 5)) (w.2.2.2.2.2 (i + 6)) hS hc hv) (by decide) ⟨Nat.zero_le _, Nat.zero_le _⟩ (Nat.le_of_ble_eq_true rfl) (fun r G1 hq hn => ?_)
  obtain ⟨rfl, hE⟩ := hq
  have h1 := lw_c hr hE
  clear hE hn
  refine go_aload_n dY_law_487 rfl rfl ?_
  refine go_aload_n dY_law_488 rfl rfl ?_
  refine go_iload_n dY_law_489 rfl rfl ?_
  refine go_iconst (nI 1) (by decide) dY_law_490 ?_
  refine go_iaddN dY_law_491 ?_
  refine go_ialXN (by omega) (by omega) dY_law_492 ?_
  refine go_aload_n dY_law_493 rfl rfl ?_
  refine go_iload_n dY_law_494 rfl rfl ?_
  refine go_iconst (nI 2) (by decide) dY_law_495 ?_
  refine go_iaddN dY_law_496 ?_
  refine go_ialXN (by omega) (by omega) dY_law_497 ?_
  refine go_aload_n dY_law_498 rfl rfl ?_
  refine go_iload_n dY_law_499 rfl rfl ?_
  refine go_iconst (nI 3) (by decide) dY_law_500 ?_
  refine go_iaddN dY_law_501 ?_
  refine go_ialXN (by omega) (by omega) dY_law_502 ?_
  refine go_aload_n dY_law_503 rfl rfl ?_
  refine go_iload_n dY_law_504 rfl rfl ?_
  refine go_iconst (nI 4) (by decide) dY_law_505 ?_
  refine go_iaddN dY_law_506 ?_
  refine go_ialXN (by omega) (by omega) dY_law_507 ?_
  refine go_aload_n dY_law_508 rfl rfl ?_
  refine go_iload_n dY_law_509 rfl rfl ?_
  refine go_iconst (nI 5) (by decide) dY_law_510 ?_
  refine go_iaddN dY_law_511 ?_
  refine go_ialXN (by omega) (by omega) dY_law_512 ?_
  refine go_aload_n dY_law_513 rfl rfl ?_
  refine go_iload_n dY_law_514 rfl rfl ?_
  refine go_bipush (nI 6) (by decide) dY_law_515 ?_
  refine go_iaddN dY_law_517 ?_
  refine go_ialXN (by omega) (by omega) dY_law_518 ?_
  refine go_cV (k' := (0, 0)) dY_law_519 _ csY_57 (sh_163x h1.1) rfl imR_run seR_run rfl (okR_run w (d := 11) (by decide) G1 s (w.2.2.2.2.2 (i + 1)) (w.2.2.2.2.2 (i + 2)) (w.2.2.2.2.2 (i + 3)) (w.2.2.2.2.2 (i + 4)) (w.2.2.2.2.2 (i + 5)) (w.2.2.2.2.2 (i + 6)) h1.1 h1.2.2 hv) (by decide) ⟨Nat.zero_le _, Nat.zero_le _⟩ (Nat.le_of_ble_eq_true rfl) (fun r G2 hq hn => ?_)
  obtain ⟨rfl, hE⟩ := hq
  have h2 := lw_r h1 hE
  clear hE hn
  exact go_icmp_eq dY_law_522 (tgt := 778) (by decide) (fun _ => K G2 _ h2.1 h2.2.1 h2.2.2 (aRun_v hv)) (fun c => absurd rfl c)
set_option maxRecDepth 100000 in
theorem lwc_ran (hw : w.2.2.2.2.1 ≤ 3584) (hi : i + 7 ≤ w.2.2.2.2.1) (hS : St0 G) (hc : cS G s) (hr : rS G s) (hv : sV s) (K : ∀ G' s', St0 G' → cS G' s' → rS G' s' → sV s' → am_Go w jY_law 12 k 778 [some (.inr (some 1000000)), some (.inr (some 0)), some (.inr (some 163)), some (.inl (nI i))] [] G' P) : am_Go w jY_law 12 k 527 [some (.inr (some 1000000)), some (.inr (some 0)), some (.inr (some 163)), some (.inl (nI i))] [] G P := by
  refine go_aload_n dY_law_527 rfl rfl ?_
  refine go_aload_n dY_law_528 rfl rfl ?_
  refine go_iload_n dY_law_529 rfl rfl ?_
  refine go_iconst (nI 1) (by decide) dY_law_530 ?_
  refine go_iaddN dY_law_531 ?_
  refine go_ialXN (by omega) (by omega) dY_law_532 ?_
  refine go_cV (k' := (0, 0)) dY_law_533 _ csY_58 (sh_0x hS) rfl imF_ran seF_ran rfl (okF_ran w (d := 11) (by decide) G s (w.2.2.2.2.2 (i + 1)) hS hc hv) (by decide) ⟨Nat.zero_le _, Nat.zero_le _⟩ (Nat.le_of_ble_eq_true rfl) (fun r G1 hq hn => ?_)
  obtain ⟨rfl, hE⟩ := hq
  have h1 := lw_c hr (show cEnd2 G G1 s by rw [hE]; exact cEnd2.rf hS hc)
  clear hE hn
  refine go_aload_n dY_law_536 rfl rfl ?_
  refine go_aload_n dY_law_537 rfl rfl ?_
  refine go_iload_n dY_law_538 rfl rfl ?_
  refine go_iconst (nI 1) (by decide) dY_law_539 ?_
  refine go_iaddN dY_law_540 ?_
  refine go_ialXN (by omega) (by omega) dY_law_541 ?_
  refine go_cV (k' := (0, 0)) dY_law_542 _ csY_61 (sh_163x h1.1) rfl imR_ran seR_ran rfl (okR_ran w (d := 11) (by decide) G1 s (w.2.2.2.2.2 (i + 1)) h1.1 h1.2.2 hv) (by decide) ⟨Nat.zero_le _, Nat.zero_le _⟩ (Nat.le_of_ble_eq_true rfl) (fun r G2 hq hn => ?_)
  obtain ⟨rfl, hE⟩ := hq
  have h2 := lw_r h1 (show rEnd G1 G2 s by rw [hE]; exact rEnd.rf h1.2.2)
  clear hE hn
  exact go_icmp_eq dY_law_545 (tgt := 778) (by decide) (fun _ => K G2 _ h2.1 h2.2.1 h2.2.2 hv) (fun c => absurd rfl c)
set_option maxRecDepth 100000 in
theorem lwc_trace (hw : w.2.2.2.2.1 ≤ 3584) (hi : i + 7 ≤ w.2.2.2.2.1) (hS : St0 G) (hc : cS G s) (hr : rS G s) (hv : sV s) (K : ∀ G' s', St0 G' → cS G' s' → rS G' s' → sV s' → am_Go w jY_law 12 k 778 [some (.inr (some 1000000)), some (.inr (some 0)), some (.inr (some 163)), some (.inl (nI i))] [] G' P) : am_Go w jY_law 12 k 550 [some (.inr (some 1000000)), some (.inr (some 0)), some (.inr (some 163)), some (.inl (nI i))] [] G P := by
  refine go_aload_n dY_law_550 rfl rfl ?_
  refine go_aload_n dY_law_551 rfl rfl ?_
  refine go_iload_n dY_law_552 rfl rfl ?_
  refine go_iconst (nI 1) (by decide) dY_law_553 ?_
  refine go_iaddN dY_law_554 ?_
  refine go_ialXN (by omega) (by omega) dY_law_555 ?_
  refine go_cV (k' := (0, 0)) dY_law_556 _ csY_62 (sh_0x hS) rfl imF_trace seF_trace rfl (okF_trace w (d := 11) (by decide) G s (w.2.2.2.2.2 (i + 1)) hS hc hv) (by decide) ⟨Nat.zero_le _, Nat.zero_le _⟩ (Nat.le_of_ble_eq_true rfl) (fun r G1 hq hn => ?_)
  obtain ⟨rfl, hE⟩ := hq
  have h1 := lw_c hr (show cEnd2 G G1 s by rw [hE]; exact cEnd2.rf hS hc)
  clear hE hn
  refine go_aload_n dY_law_559 rfl rfl ?_
  refine go_aload_n dY_law_560 rfl rfl ?_
  refine go_iload_n dY_law_561 rfl rfl ?_
  refine go_iconst (nI 1) (by decide) dY_law_562 ?_
  refine go_iaddN dY_law_563 ?_
  refine go_ialXN (by omega) (by omega) dY_law_564 ?_
  refine go_cV (k' := (0, 0)) dY_law_565 _ csY_65 (sh_163x h1.1) rfl imR_trace seR_trace rfl (okR_trace w (d := 11) (by decide) G1 s (w.2.2.2.2.2 (i + 1)) h1.1 h1.2.2 hv) (by decide) ⟨Nat.zero_le _, Nat.zero_le _⟩ (Nat.le_of_ble_eq_true rfl) (fun r G2 hq hn => ?_)
  obtain ⟨rfl, hE⟩ := hq
  have h2 := lw_r h1 (show rEnd G1 G2 s by rw [hE]; exact rEnd.rf h1.2.2)
  clear hE hn
  exact go_icmp_eq dY_law_568 (tgt := 778) (by decide) (fun _ => K G2 _ h2.1 h2.2.1 h2.2.2 hv) (fun c => absurd rfl c)
set_option maxRecDepth 100000 in
theorem lwc_compare (hw : w.2.2.2.2.1 ≤ 3584) (hi : i + 7 ≤ w.2.2.2.2.1) (hS : St0 G) (hc : cS G s) (hr : rS G s) (hv : sV s) (K : ∀ G' s', St0 G' → cS G' s' → rS G' s' → sV s' → am_Go w jY_law 12 k 778 [some (.inr (some 1000000)), some (.inr (some 0)), some (.inr (some 163)), some (.inl (nI i))] [] G' P) : am_Go w jY_law 12 k 573 [some (.inr (some 1000000)), some (.inr (some 0)), some (.inr (some 163)), some (.inl (nI i))] [] G P := by
  refine go_aload_n dY_law_573 rfl rfl ?_
  refine go_aload_n dY_law_574 rfl rfl ?_
  refine go_iload_n dY_law_575 rfl rfl ?_
  refine go_iconst (nI 1) (by decide) dY_law_576 ?_
  refine go_iaddN dY_law_577 ?_
  refine go_ialXN (by omega) (by omega) dY_law_578 ?_
  refine go_aload_n dY_law_579 rfl rfl ?_
  refine go_iload_n dY_law_580 rfl rfl ?_
  refine go_iconst (nI 2) (by decide) dY_law_581 ?_
  refine go_iaddN dY_law_582 ?_
  refine go_ialXN (by omega) (by omega) dY_law_583 ?_
  refine go_aload_n dY_law_584 rfl rfl ?_
  refine go_iload_n dY_law_585 rfl rfl ?_
  refine go_iconst (nI 3) (by decide) dY_law_586 ?_
  refine go_iaddN dY_law_587 ?_
  refine go_ialXN (by omega) (by omega) dY_law_588 ?_
  refine go_aload_n dY_law_589 rfl rfl ?_
  refine go_iload_n dY_law_590 rfl rfl ?_
  refine go_iconst (nI 4) (by decide) dY_law_591 ?_
  refine go_iaddN dY_law_592 ?_
  refine go_ialXN (by omega) (by omega) dY_law_593 ?_
  refine go_cV (k' := (0, 0)) dY_law_594 _ csY_66 (sh_0x hS) rfl imF_compare seF_compare rfl (okF_compare w (d := 11) (by decide) G s (w.2.2.2.2.2 (i + 1)) (w.2.2.2.2.2 (i + 2)) (w.2.2.2.2.2 (i + 3)) (w.2.2.2.2.2 (i + 4)) hS hc hv) (by decide) ⟨Nat.zero_le _, Nat.zero_le _⟩ (Nat.le_of_ble_eq_true rfl) (fun r G1 hq hn => ?_)
  obtain ⟨rfl, hE⟩ := hq
  have h1 := lw_c hr hE
  clear hE hn
  refine go_aload_n dY_law_597 rfl rfl ?_
  refine go_aload_n dY_law_598 rfl rfl ?_
  refine go_iload_n dY_law_599 rfl rfl ?_
  refine go_iconst (nI 1) (by decide) dY_law_600 ?_
  refine go_iaddN dY_law_601 ?_
  refine go_ialXN (by omega) (by omega) dY_law_602 ?_
  refine go_aload_n dY_law_603 rfl rfl ?_
  refine go_iload_n dY_law_604 rfl rfl ?_
  refine go_iconst (nI 2) (by decide) dY_law_605 ?_
  refine go_iaddN dY_law_606 ?_
  refine go_ialXN (by omega) (by omega) dY_law_607 ?_
  refine go_aload_n dY_law_608 rfl rfl ?_
  refine go_iload_n dY_law_609 rfl rfl ?_
  refine go_iconst (nI 3) (by decide) dY_law_610 ?_
  refine go_iaddN dY_law_611 ?_
  refine go_ialXN (by omega) (by omega) dY_law_612 ?_
  refine go_aload_n dY_law_613 rfl rfl ?_
  refine go_iload_n dY_law_614 rfl rfl ?_
  refine go_iconst (nI 4) (by decide) dY_law_615 ?_
  refine go_iaddN dY_law_616 ?_
  refine go_ialXN (by omega) (by omega) dY_law_617 ?_
  refine go_cV (k' := (0, 0)) dY_law_618 _ csY_69 (sh_163x h1.1) rfl imR_compare seR_compare rfl (okR_compare w (d := 11) (by decide) G1 s (w.2.2.2.2.2 (i + 1)) (w.2.2.2.2.2 (i + 2)) (w.2.2.2.2.2 (i + 3)) (w.2.2.2.2.2 (i + 4)) h1.1 h1.2.2 hv) (by decide) ⟨Nat.zero_le _, Nat.zero_le _⟩ (Nat.le_of_ble_eq_true rfl) (fun r G2 hq hn => ?_)
  obtain ⟨rfl, hE⟩ := hq
  have h2 := lw_r h1 hE
  clear hE hn
  exact go_icmp_eq dY_law_621 (tgt := 778) (by decide) (fun _ => K G2 _ h2.1 h2.2.1 h2.2.2 (aCmp_v hv)) (fun c => absurd rfl c)
set_option maxRecDepth 100000 in
theorem lwc_unfold (hw : w.2.2.2.2.1 ≤ 3584) (hi : i + 7 ≤ w.2.2.2.2.1) (hS : St0 G) (hc : cS G s) (hr : rS G s) (hv : sV s) (K : ∀ G' s', St0 G' → cS G' s' → rS G' s' → sV s' → am_Go w jY_law 12 k 778 [some (.inr (some 1000000)), some (.inr (some 0)), some (.inr (some 163)), some (.inl (nI i))] [] G' P) : am_Go w jY_law 12 k 626 [some (.inr (some 1000000)), some (.inr (some 0)), some (.inr (some 163)), some (.inl (nI i))] [] G P := by
  refine go_aload_n dY_law_626 rfl rfl ?_
  refine go_aload_n dY_law_627 rfl rfl ?_
  refine go_iload_n dY_law_628 rfl rfl ?_
  refine go_iconst (nI 1) (by decide) dY_law_629 ?_
  refine go_iaddN dY_law_630 ?_
  refine go_ialXN (by omega) (by omega) dY_law_631 ?_
  refine go_aload_n dY_law_632 rfl rfl ?_
  refine go_iload_n dY_law_633 rfl rfl ?_
  refine go_iconst (nI 2) (by decide) dY_law_634 ?_
  refine go_iaddN dY_law_635 ?_
  refine go_ialXN (by omega) (by omega) dY_law_636 ?_
  refine go_cV (k' := (0, 0)) dY_law_637 _ csY_70 (sh_0x hS) rfl imF_unfold seF_unfold rfl (okF_unfold w (d := 11) (by decide) G s (w.2.2.2.2.2 (i + 1)) (w.2.2.2.2.2 (i + 2)) hS hc hv) (by decide) ⟨Nat.zero_le _, Nat.zero_le _⟩ (Nat.le_of_ble_eq_true rfl) (fun r G1 hq hn => ?_)
  obtain ⟨rfl, hE⟩ := hq
  have h1 := lw_c hr (hE.two hS)
  clear hE hn
  refine go_aload_n dY_law_640 rfl rfl ?_
  refine go_aload_n dY_law_641 rfl rfl ?_
  refine go_iload_n dY_law_642 rfl rfl ?_
  refine go_iconst (nI 1) (by decide) dY_law_643 ?_
  refine go_iaddN dY_law_644 ?_
  refine go_ialXN (by omega) (by omega) dY_law_645 ?_
  refine go_aload_n dY_law_646 rfl rfl ?_
  refine go_iload_n dY_law_647 rfl rfl ?_
  refine go_iconst (nI 2) (by decide) dY_law_648 ?_
  refine go_iaddN dY_law_649 ?_
  refine go_ialXN (by omega) (by omega) dY_law_650 ?_
  refine go_cV (k' := (0, 0)) dY_law_651 _ csY_74 (sh_163x h1.1) rfl imR_unfold seR_unfold rfl (okR_unfold w (d := 11) (by decide) G1 s (w.2.2.2.2.2 (i + 1)) (w.2.2.2.2.2 (i + 2)) h1.1 h1.2.2 hv) (by decide) ⟨Nat.zero_le _, Nat.zero_le _⟩ (Nat.le_of_ble_eq_true rfl) (fun r G2 hq hn => ?_)
  obtain ⟨rfl, hE⟩ := hq
  have h2 := lw_r h1 hE
  clear hE hn
  exact go_icmp_eq dY_law_654 (tgt := 778) (by decide) (fun _ => K G2 _ h2.1 h2.2.1 h2.2.2 (aUnf_v hv)) (fun c => absurd rfl c)
set_option maxRecDepth 100000 in
theorem lwc_inline (hw : w.2.2.2.2.1 ≤ 3584) (hi : i + 7 ≤ w.2.2.2.2.1) (hS : St0 G) (hc : cS G s) (hr : rS G s) (hv : sV s) (K : ∀ G' s', St0 G' → cS G' s' → rS G' s' → sV s' → am_Go w jY_law 12 k 778 [some (.inr (some 1000000)), some (.inr (some 0)), some (.inr (some 163)), some (.inl (nI i))] [] G' P) : am_Go w jY_law 12 k 659 [some (.inr (some 1000000)), some (.inr (some 0)), some (.inr (some 163)), some (.inl (nI i))] [] G P := by
  refine go_aload_n dY_law_659 rfl rfl ?_
  refine go_aload_n dY_law_660 rfl rfl ?_
  refine go_iload_n dY_law_661 rfl rfl ?_
  refine go_iconst (nI 1) (by decide) dY_law_662 ?_
  refine go_iaddN dY_law_663 ?_
  refine go_ialXN (by omega) (by omega) dY_law_664 ?_
  refine go_aload_n dY_law_665 rfl rfl ?_
  refine go_iload_n dY_law_666 rfl rfl ?_
  refine go_iconst (nI 2) (by decide) dY_law_667 ?_
  refine go_iaddN dY_law_668 ?_
  refine go_ialXN (by omega) (by omega) dY_law_669 ?_
  refine go_cV (k' := (0, 0)) dY_law_670 _ csY_75 (sh_0x hS) rfl imF_inline seF_inline rfl (okF_inline w (d := 11) (by decide) G s (w.2.2.2.2.2 (i + 1)) (w.2.2.2.2.2 (i + 2)) hS hc hv) (by decide) ⟨Nat.zero_le _, Nat.zero_le _⟩ (Nat.le_of_ble_eq_true rfl) (fun r G1 hq hn => ?_)
  obtain ⟨rfl, hE⟩ := hq
  have h1 := lw_c hr (hE.two hS)
  clear hE hn
  refine go_aload_n dY_law_673 rfl rfl ?_
  refine go_aload_n dY_law_674 rfl rfl ?_
  refine go_iload_n dY_law_675 rfl rfl ?_
  refine go_iconst (nI 1) (by decide) dY_law_676 ?_
  refine go_iaddN dY_law_677 ?_
  refine go_ialXN (by omega) (by omega) dY_law_678 ?_
  refine go_aload_n dY_law_679 rfl rfl ?_
  refine go_iload_n dY_law_680 rfl rfl ?_
  refine go_iconst (nI 2) (by decide) dY_law_681 ?_
  refine go_iaddN dY_law_682 ?_
  refine go_ialXN (by omega) (by omega) dY_law_683 ?_
  refine go_cV (k' := (0, 0)) dY_law_684 _ csY_78 (sh_163x h1.1) rfl imR_inline seR_inline rfl (okR_inline w (d := 11) (by decide) G1 s (w.2.2.2.2.2 (i + 1)) (w.2.2.2.2.2 (i + 2)) h1.1 h1.2.2 hv) (by decide) ⟨Nat.zero_le _, Nat.zero_le _⟩ (Nat.le_of_ble_eq_true rfl) (fun r G2 hq hn => ?_)
  obtain ⟨rfl, hE⟩ := hq
  have h2 := lw_r h1 hE
  clear hE hn
  exact go_icmp_eq dY_law_687 (tgt := 778) (by decide) (fun _ => K G2 _ h2.1 h2.2.1 h2.2.2 (aInl_v hv)) (fun c => absurd rfl c)
set_option maxRecDepth 100000 in
theorem lwc_code (hw : w.2.2.2.2.1 ≤ 3584) (hi : i + 7 ≤ w.2.2.2.2.1) (hS : St0 G) (hc : cS G s) (hr : rS G s) (hv : sV s) (K : ∀ G' s', St0 G' → cS G' s' → rS G' s' → sV s' → am_Go w jY_law 12 k 778 [some (.inr (some 1000000)), some (.inr (some 0)), some (.inr (some 163)), some (.inl (nI i))] [] G' P) : am_Go w jY_law 12 k 692 [some (.inr (some 1000000)), some (.inr (some 0)), some (.inr (some 163)), some (.inl (nI i))] [] G P := by
  refine go_aload_n dY_law_692 rfl rfl ?_
  refine go_aload_n dY_law_693 rfl rfl ?_
  refine go_iload_n dY_law_694 rfl rfl ?_
  refine go_iconst (nI 1) (by decide) dY_law_695 ?_
  refine go_iaddN dY_law_696 ?_
  refine go_ialXN (by omega) (by omega) dY_law_697 ?_
  refine go_aload_n dY_law_698 rfl rfl ?_
  refine go_iload_n dY_law_699 rfl rfl ?_
  refine go_iconst (nI 2) (by decide) dY_law_700 ?_
  refine go_iaddN dY_law_701 ?_
  refine go_ialXN (by omega) (by omega) dY_law_702 ?_
  refine go_aload_n dY_law_703 rfl rfl ?_
  refine go_iload_n dY_law_704 rfl rfl ?_
  refine go_iconst (nI 3) (by decide) dY_law_705 ?_
  refine go_iaddN dY_law_706 ?_
  refine go_ialXN (by omega) (by omega) dY_law_707 ?_
  refine go_cV (k' := (0, 0)) dY_law_708 _ csY_79 (sh_0x hS) rfl imF_code seF_code rfl (okF_code w (d := 11) (by decide) G s (w.2.2.2.2.2 (i + 1)) (w.2.2.2.2.2 (i + 2)) (w.2.2.2.2.2 (i + 3)) hS hc hv) (by decide) ⟨Nat.zero_le _, Nat.zero_le _⟩ (Nat.le_of_ble_eq_true rfl) (fun r G1 hq hn => ?_)
  obtain ⟨rfl, hE⟩ := hq
  have h1 := lw_c hr (show cEnd2 G G1 s by rw [hE]; exact cEnd2.rf hS hc)
  clear hE hn
  refine go_aload_n dY_law_711 rfl rfl ?_
  refine go_aload_n dY_law_712 rfl rfl ?_
  refine go_iload_n dY_law_713 rfl rfl ?_
  refine go_iconst (nI 1) (by decide) dY_law_714 ?_
  refine go_iaddN dY_law_715 ?_
  refine go_ialXN (by omega) (by omega) dY_law_716 ?_
  refine go_aload_n dY_law_717 rfl rfl ?_
  refine go_iload_n dY_law_718 rfl rfl ?_
  refine go_iconst (nI 2) (by decide) dY_law_719 ?_
  refine go_iaddN dY_law_720 ?_
  refine go_ialXN (by omega) (by omega) dY_law_721 ?_
  refine go_aload_n dY_law_722 rfl rfl ?_
  refine go_iload_n dY_law_723 rfl rfl ?_
  refine go_iconst (nI 3) (by decide) dY_law_724 ?_
  refine go_iaddN dY_law_725 ?_
  refine go_ialXN (by omega) (by omega) dY_law_726 ?_
  refine go_cV (k' := (0, 0)) dY_law_727 _ csY_82 (sh_163x h1.1) rfl imR_code seR_code rfl (okR_code w (d := 11) (by decide) G1 s (w.2.2.2.2.2 (i + 1)) (w.2.2.2.2.2 (i + 2)) (w.2.2.2.2.2 (i + 3)) h1.1 h1.2.2 hv) (by decide) ⟨Nat.zero_le _, Nat.zero_le _⟩ (Nat.le_of_ble_eq_true rfl) (fun r G2 hq hn => ?_)
  obtain ⟨rfl, hE⟩ := hq
  have h2 := lw_r h1 (show rEnd G1 G2 s by rw [hE]; exact rEnd.rf h1.2.2)
  clear hE hn
  exact go_icmp_eq dY_law_730 (tgt := 778) (by decide) (fun _ => K G2 _ h2.1 h2.2.1 h2.2.2 hv) (fun c => absurd rfl c)
set_option maxRecDepth 100000 in
theorem lwc_table (hw : w.2.2.2.2.1 ≤ 3584) (hi : i + 7 ≤ w.2.2.2.2.1) (hS : St0 G) (hc : cS G s) (hr : rS G s) (hv : sV s) (K : ∀ G' s', St0 G' → cS G' s' → rS G' s' → sV s' → am_Go w jY_law 12 k 778 [some (.inr (some 1000000)), some (.inr (some 0)), some (.inr (some 163)), some (.inl (nI i))] [] G' P) : am_Go w jY_law 12 k 735 [some (.inr (some 1000000)), some (.inr (some 0)), some (.inr (some 163)), some (.inl (nI i))] [] G P := by
  refine go_aload_n dY_law_735 rfl rfl ?_
  refine go_aload_n dY_law_736 rfl rfl ?_
  refine go_iload_n dY_law_737 rfl rfl ?_
  refine go_iconst (nI 1) (by decide) dY_law_738 ?_
  refine go_iaddN dY_law_739 ?_
  refine go_ialXN (by omega) (by omega) dY_law_740 ?_
  refine go_aload_n dY_law_741 rfl rfl ?_
  refine go_iload_n dY_law_742 rfl rfl ?_
  refine go_iconst (nI 2) (by decide) dY_law_743 ?_
  refine go_iaddN dY_law_744 ?_
  refine go_ialXN (by omega) (by omega) dY_law_745 ?_
  refine go_aload_n dY_law_746 rfl rfl ?_
  refine go_iload_n dY_law_747 rfl rfl ?_
  refine go_iconst (nI 3) (by decide) dY_law_748 ?_
  refine go_iaddN dY_law_749 ?_
  refine go_ialXN (by omega) (by omega) dY_law_750 ?_
  refine go_cV (k' := (0, 0)) dY_law_751 _ csY_83 (sh_0x hS) rfl imF_table seF_table rfl (okF_table w (d := 11) (by decide) G s (w.2.2.2.2.2 (i + 1)) (w.2.2.2.2.2 (i + 2)) (w.2.2.2.2.2 (i + 3)) hS hc hv) (by decide) ⟨Nat.zero_le _, Nat.zero_le _⟩ (Nat.le_of_ble_eq_true rfl) (fun r G1 hq hn => ?_)
  obtain ⟨rfl, hE⟩ := hq
  have h1 := lw_c hr (show cEnd2 G G1 s by rw [hE]; exact cEnd2.rf hS hc)
  clear hE hn
  refine go_aload_n dY_law_754 rfl rfl ?_
  refine go_aload_n dY_law_755 rfl rfl ?_
  refine go_iload_n dY_law_756 rfl rfl ?_
  refine go_iconst (nI 1) (by decide) dY_law_757 ?_
  refine go_iaddN dY_law_758 ?_
  refine go_ialXN (by omega) (by omega) dY_law_759 ?_
  refine go_aload_n dY_law_760 rfl rfl ?_
  refine go_iload_n dY_law_761 rfl rfl ?_
  refine go_iconst (nI 2) (by decide) dY_law_762 ?_
  refine go_iaddN dY_law_763 ?_
  refine go_ialXN (by omega) (by omega) dY_law_764 ?_
  refine go_aload_n dY_law_765 rfl rfl ?_
  refine go_iload_n dY_law_766 rfl rfl ?_
  refine go_iconst (nI 3) (by decide) dY_law_767 ?_
  refine go_iaddN dY_law_768 ?_
  refine go_ialXN (by omega) (by omega) dY_law_769 ?_
  refine go_cV (k' := (0, 0)) dY_law_770 _ csY_86 (sh_163x h1.1) rfl imR_table seR_table rfl (okR_table w (d := 11) (by decide) G1 s (w.2.2.2.2.2 (i + 1)) (w.2.2.2.2.2 (i + 2)) (w.2.2.2.2.2 (i + 3)) h1.1 h1.2.2 hv) (by decide) ⟨Nat.zero_le _, Nat.zero_le _⟩ (Nat.le_of_ble_eq_true rfl) (fun r G2 hq hn => ?_)
  obtain ⟨rfl, hE⟩ := hq
  have h2 := lw_r h1 (show rEnd G1 G2 s by rw [hE]; exact rEnd.rf h1.2.2)
  clear hE hn
  exact go_icmp_eq dY_law_773 (tgt := 778) (by decide) (fun _ => K G2 _ h2.1 h2.2.1 h2.2.2 hv) (fun c => absurd rfl c)
theorem zD_gt {a b f : Nat} (ha : a < 100000) (hb : b < 100000) (hf : f < 100000) : nI a - nI b < nI f ↔ a < f + b := by
  have q : (nI a - nI b).toInt = (a : Int) - (b : Int) := zD_t ha hb
  rw [Int32.lt_iff_toInt_lt, q, nI_toInt (by omega)]
  omega
theorem i_add7 : nI i + Int32.ofInt 7 = nI (i + 7) := nI_add i 7
set_option maxRecDepth 100000 in
theorem lw_turn (hw : w.2.2.2.2.1 ≤ 3584) (hi : i + 7 ≤ w.2.2.2.2.1) (hS : St0 G) (hc : cS G s) (hr : rS G s) (hv : sV s) (K : ∀ G' s', St0 G' → cS G' s' → rS G' s' → sV s' → am_Go w jY_law 12 k 778 [some (.inr (some 1000000)), some (.inr (some 0)), some (.inr (some 163)), some (.inl (nI i))] [] G' P) : am_Go w jY_law 12 k 27 [some (.inr (some 1000000)), some (.inr (some 0)), some (.inr (some 163)), some (.inl (nI i))] [] G P := by
  refine go_aload_n dY_law_27 rfl rfl ?_
  refine go_iload_n dY_law_28 rfl rfl ?_
  refine go_ialXN (by omega) (by omega) dY_law_29 ?_
  refine go_bipush (nI 15) (by decide) dY_law_30 ?_
  refine go_iand dY_law_32 ?_
  obtain ⟨c, hc16, e⟩ := and15 (w.2.2.2.2.2 i)
  rw [e]
  clear e
  match c, hc16 with
  | 0, _ =>
    refine go_tableIn dY_law_33 (by decide) (by decide) (off := 79) rfl (tgt := 112) (by decide) ?_
    exact lwc_write hw hi hS hc hr hv K
  | 1, _ =>
    refine go_tableIn dY_law_33 (by decide) (by decide) (off := 102) rfl (tgt := 135) (by decide) ?_
    exact lwc_branch hw hi hS hc hr hv K
  | 2, _ =>
    refine go_tableIn dY_law_33 (by decide) (by decide) (off := 115) rfl (tgt := 148) (by decide) ?_
    by_cases h3 : w.2.2.2.2.2 (i + 3) = 0
    · exact lwc_method0 hw hi h3 hS hc hr hv K
    · exact lwc_method1 hw hi h3 hS hc hr hv K
  | 3, _ =>
    refine go_tableIn dY_law_33 (by decide) (by decide) (off := 174) rfl (tgt := 207) (by decide) ?_
    exact lwc_add hw hi hS hc hr hv K
  | 4, _ =>
    refine go_tableIn dY_law_33 (by decide) (by decide) (off := 227) rfl (tgt := 260) (by decide) ?_
    exact lwc_change hw hi hS hc hr hv K
  | 5, _ =>
    refine go_tableIn dY_law_33 (by decide) (by decide) (off := 290) rfl (tgt := 323) (by decide) ?_
    exact lwc_row hw hi hS hc hr hv K
  | 6, _ =>
    refine go_tableIn dY_law_33 (by decide) (by decide) (off := 353) rfl (tgt := 386) (by decide) ?_
    exact lwc_check hw hi hS hc hr hv K
  | 7, _ =>
    refine go_tableIn dY_law_33 (by decide) (by decide) (off := 376) rfl (tgt := 409) (by decide) ?_
    exact lwc_kindAt hw hi hS hc hr hv K
  | 8, _ =>
    refine go_tableIn dY_law_33 (by decide) (by decide) (off := 419) rfl (tgt := 452) (by decide) ?_
    exact lwc_run hw hi hS hc hr hv K
  | 9, _ =>
    refine go_tableIn dY_law_33 (by decide) (by decide) (off := 494) rfl (tgt := 527) (by decide) ?_
    exact lwc_ran hw hi hS hc hr hv K
  | 10, _ =>
    refine go_tableIn dY_law_33 (by decide) (by decide) (off := 517) rfl (tgt := 550) (by decide) ?_
    exact lwc_trace hw hi hS hc hr hv K
  | 11, _ =>
    refine go_tableIn dY_law_33 (by decide) (by decide) (off := 540) rfl (tgt := 573) (by decide) ?_
    exact lwc_compare hw hi hS hc hr hv K
  | 12, _ =>
    refine go_tableIn dY_law_33 (by decide) (by decide) (off := 593) rfl (tgt := 626) (by decide) ?_
    exact lwc_unfold hw hi hS hc hr hv K
  | 13, _ =>
    refine go_tableIn dY_law_33 (by decide) (by decide) (off := 626) rfl (tgt := 659) (by decide) ?_
    exact lwc_inline hw hi hS hc hr hv K
  | 14, _ =>
    refine go_tableIn dY_law_33 (by decide) (by decide) (off := 659) rfl (tgt := 692) (by decide) ?_
    exact lwc_code hw hi hS hc hr hv K
  | 15, _ =>
    refine go_tableIn dY_law_33 (by decide) (by decide) (off := 702) rfl (tgt := 735) (by decide) ?_
    exact lwc_table hw hi hS hc hr hv K
  | c + 16, h => exact absurd h (by omega)
end Lw
set_option maxRecDepth 100000 in
theorem lw_loop {w : am_W} {k : Nat × Nat} (hw : w.2.2.2.2.1 ≤ 3584) : ∀ (n i : Nat) (G : am_G) (s : sT), w.2.2.2.2.1 ≤ i + n → i ≤ w.2.2.2.2.1 → St0 G → cS G s → rS G s → sV s → am_Go w jY_law 12 k 18 [some (.inr (some 1000000)), some (.inr (some 0)), some (.inr (some 163)), some (.inl (nI i))] [] G (fun r _ => r = some (.inl 1)) := by
  intro n
  induction n with
  | zero =>
    intro i G s h1 h2 hS hc hr hv
    refine go_iload_n dY_law_18 rfl rfl ?_
    refine go_aload_n dY_law_19 rfl rfl ?_
    refine go_alenX dY_law_20 ?_
    refine go_bipush (nI 7) (by decide) dY_law_21 ?_
    refine go_isub dY_law_23 ?_
    refine go_icmp_gt dY_law_24 (tgt := 784) (by decide) (fun _ => ?_) (fun c => absurd ((zD_gt (by omega) (by omega) (by omega)).mpr (by omega)) c)
    refine go_iconst (nI 1) (by decide) dY_law_784 ?_
    exact go_zreturn rfl (Or.inr rfl) dY_law_785 rfl
  | succ n ih =>
    intro i G s h1 h2 hS hc hr hv
    refine go_iload_n dY_law_18 rfl rfl ?_
    refine go_aload_n dY_law_19 rfl rfl ?_
    refine go_alenX dY_law_20 ?_
    refine go_bipush (nI 7) (by decide) dY_law_21 ?_
    refine go_isub dY_law_23 ?_
    refine go_icmp_gt dY_law_24 (tgt := 784) (by decide) (fun _ => ?_) (fun c => ?_)
    · refine go_iconst (nI 1) (by decide) dY_law_784 ?_
      exact go_zreturn rfl (Or.inr rfl) dY_law_785 rfl
    · have h3 : i + 7 ≤ w.2.2.2.2.1 := by
        rcases Nat.lt_or_ge w.2.2.2.2.1 (i + 7) with q | q
        · exact absurd ((zD_gt (by omega) (by omega) (by omega)).mpr q) c
        · exact q
      refine lw_turn hw h3 hS hc hr hv (fun G' s' hS' hc' hr' hv' => ?_)
      refine go_iinc dY_law_778 rfl ?_
      rw [i_add7]
      refine go_goto dY_law_781 (tgt := 18) (by decide) ?_
      exact ih (i + 7) G' s' (by omega) h3 hS' hc' hr' hv'
/-- nothing is written yet -/
def s00 : sT := (0, (fun _ => ((0, (fun _ => 0), (fun _ => 0), fun _ => 0), (0, (fun _ => 0), (fun _ => 0), (fun _ => 0), fun _ => 0), 0, false)), (0, 0, 0, 0, 0, 0, fun _ => 0))
theorem s00_c {G : am_G} (h : zI G) : cS G s00 := ⟨h _ _, fun p _ m _ => ⟨⟨h _ _, h _ _, h _ _, h _ _⟩, fun i hi => absurd hi (Nat.not_lt_zero i), fun i hi => absurd hi (Nat.not_lt_zero i)⟩, h _ _, h _ _, h _ _, h _ _, h _ _, h _ _, fun i hi => absurd hi (Nat.not_lt_zero i)⟩
theorem s00_r {G : am_G} (h : zI G) : rS G s00 := ⟨h _ _, fun q _ => ⟨⟨h _ _, h _ _, h _ _, h _ _⟩, fun i hi => absurd hi (Nat.not_lt_zero i), fun i hi => absurd hi (Nat.not_lt_zero i)⟩, h _ _, h _ _, h _ _, h _ _, h _ _, h _ _, fun i hi => absurd hi (Nat.not_lt_zero i)⟩
theorem s00_v : sV s00 := ⟨Nat.zero_lt_succ _, fun _ _ => ⟨Nat.zero_le _, Nat.zero_le _, Nat.zero_le _, fun i hi => absurd hi (Nat.not_lt_zero i), fun i hi => absurd hi (Nat.not_lt_zero i)⟩, Nat.zero_lt_succ _, Nat.zero_lt_succ _, Nat.zero_lt_succ _, Nat.zero_lt_succ _, Nat.zero_lt_succ _⟩
theorem wi_nn {G : am_G} {a q : Nat} {x : Int32} : am_n (am_wi G a q x) = am_n G := rfl
theorem F_new_nn (G : am_G) (h : Nat) : am_n (F_new G h) = am_n G + 162 := by unfold F_new; rw [wi_nn, F_8_n]
set_option maxRecDepth 100000 in
theorem law_go : sr_law := by
  intro w hw
  refine go_new (ci := 0) (N := 7) (by decide) (by decide) (by decide) dY_law_0 nwY_7 ?_
  refine go_dup dY_law_3 ?_
  refine go_callI (k' := (162, 8000)) (i := 0) [] csY_9 rfl rfl imF_init rfl (show 11 + 1 ≤ 12 by decide) (by decide) (Nat.le_of_ble_eq_true rfl) dY_law_4 (okF_init w (by decide) (am_nw am_G0 (0, 0)) 0 (by decide) (by decide) rfl) (fun r Ga hr hn => ?_)
  obtain ⟨rfl, e1⟩ := hr
  clear hn
  refine go_astore_n dY_law_7 rfl (Nat.le_of_ble_eq_true rfl) ?_
  have n1 : am_n Ga = 163 := by rw [e1, F_new_nn]; rfl
  refine go_new (ci := 8) (N := 52) (by omega) (by decide) (by decide) dY_law_8 nwY_10 ?_
  rw [n1]
  refine go_dup dY_law_11 ?_
  refine go_callI (k' := (36, 10224)) (i := 163) [] csY_12 rfl rfl imR_init rfl (show 11 + 1 ≤ 12 by decide) (by decide) (Nat.le_of_ble_eq_true rfl) dY_law_12 (okR_init w (by decide) (am_nw Ga (0, 8)) 163 (by rw [nw_n]; omega) (n1 ▸ nw_at _ _)) (fun r Gb hr hn => ?_)
  obtain ⟨rfl, e2⟩ := hr
  clear hn
  refine go_astore_n dY_law_15 rfl (Nat.le_of_ble_eq_true rfl) ?_
  refine go_iconst (nI 0) (by decide) dY_law_16 ?_
  refine go_istore_n dY_law_17 rfl (Nat.le_of_ble_eq_true rfl) ?_
  have e3 : Gb = G1 := by rw [e2, e1]; unfold G1; rfl
  rw [e3]
  exact lw_loop hw w.2.2.2.2.1 0 G1 s00 (by omega) (Nat.zero_le _) G1_St (s00_c G1_z) (s00_r G1_z) s00_v
