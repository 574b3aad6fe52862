theorem mayI.yC {g : Nat → Nat} {M C : mT} {p : Nat} {sm : Bool} {S T : fM} (h1 : fLeast g M S) (h2 : fLeast g C T) (h3 : sm = false ∧ mL C = false ∧ ilP C) (h6 : gLx M true (mN M) + gLx C true (mN C) ≤ 8) (h7 : ilF S p (mG C)) (h8 : ilB T C) : mayI g M C p sm := ⟨S, T, h1, h2, h3.1, h3.2.1, h3.2.2, h6, h7, h8.a h2⟩
theorem mayI.nP {g : Nat → Nat} {M C : mT} {p : Nat} {sm : Bool} (h : ¬ (sm = false ∧ mL C = false ∧ ilP C)) : ¬ mayI g M C p sm := fun ⟨_, _, _, _, q1, q2, q3, _⟩ => h ⟨q1, q2, q3⟩
set_option maxRecDepth 100000 in
theorem F_in3 (w : am_W) {d : Nat} (hd : 4 ≤ d) (G : am_G) (s : sT) (m p c : Nat) (hm : m < 6) (hc6 : c < 6) (hp : p < mN (zM s m)) (hcc : aN (zM s m) p = c) (S : fM) (hL : fLeast (gP (zQ s s.1)) (zM s m) S) (hv : sV s) (fb : Bool) (hfb : fb = true ↔ ilF S p (mG (zM s c))) (t : cT) (hS : St0 G) (hc : cS G s) (hT : fLeast (gP (zQ s s.1)) (zM s c) t.1) (hI : ckT G (zM s c) t) (pb : Bool) (hpb : pb = true ↔ (decide (c = m) = false ∧ mL (zM s c) = false ∧ ilP (zM s c))) : am_Go w jF_inline d (0, 0) 157 [some (.inr (some 0)), some (.inl (nI m)), some (.inl (nI p)), some (.inr (some (mo s.1 m))), some (.inl (nI c)), some (.inr (some (mo s.1 c))), some (.inl (am_b fb)), some (.inl (am_b pb)), none] [] G (fun r G' => r = some (.inl (uY s m p).1) ∧ cEnd G G' (uY s m p).2) := by
  have hv1 := hv.1
  have hM : hldM G (mo s.1 m) (zM s m) := cS.hP hS hc hv hv1 m hm
  have hC : hldM G (mo s.1 c) (zM s c) := cS.hP hS hc hv hv1 c hc6
  have hs := hM.1.1
  have xs := hC.1.1
  have h8 : mo s.1 m + 8 ≤ 102 := by unfold mo; omega
  have g8 : mo s.1 c + 8 ≤ 102 := by unfold mo; omega
  have f8 := gLx_8 (r := true) hM.2.2.1 (mN (zM s m)) (Nat.le_refl _)
  have f9 := gLx_8 (r := true) hC.2.2.1 (mN (zM s c)) (Nat.le_refl _)
  have q6 : G.1[0]? = some (0, 0) := hS.s rfl
  have q7 : G.1[1]? = some (3, 2) := hS.s rfl
  have q8 : G.2.2 0 0 = some 1 := hS.r (by decide +kernel)
  have q9 : G.2.2 0 1 = some 102 := hS.r (by decide +kernel)
  have q10 : G.2.2 0 3 = some 150 := hS.r (by decide +kernel)
  have q11 : G.1[102]? = some (0, 3) := hS.s rfl
  have q12 : G.1[150]? = some (0, 7) := hS.s rfl
  have qp := hS.r (pr_l s.1 hv1).2.2.2
  have q13 : G.1[103]? = some (1, 60) := hS.s rfl
  have q14 : G.2.2 102 0 = some 103 := hS.r ck_r0
  refine go_aload_n dF_inline_157 rfl rfl ?_
  refine go_cV (k' := (0, 0)) dF_inline_158 _ csF_172 (by assumption) rfl imE_greatestLocal seE_greatestLocal rfl (okE_greatestLocal (d := 1) w (by decide) G (mo s.1 m) (zM s m) hM) (by omega) (by decide) (Nat.le_of_ble_eq_true rfl) (fun r G1 hr hn => ?_)
  obtain ⟨rfl, hG⟩ := hr
  rw [hG]
  clear hG hn
  refine go_iconst (nI 1) (by decide) dF_inline_161 ?_
  refine (go_iadd dF_inline_162 ?_)
  rw [nM_p]
  refine go_aload dF_inline_163 rfl ?_
  refine go_cV (k' := (0, 0)) dF_inline_165 _ csF_172 (by assumption) rfl imE_greatestLocal seE_greatestLocal rfl (okE_greatestLocal (d := 1) w (by decide) G (mo s.1 c) (zM s c) hC) (by omega) (by decide) (Nat.le_of_ble_eq_true rfl) (fun r G1 hr hn => ?_)
  obtain ⟨rfl, hG⟩ := hr
  rw [hG]
  clear hG hn
  refine (go_iadd dF_inline_168 ?_)
  refine go_istore dF_inline_169 (Nat.le_of_ble_eq_true rfl) ?_
  refine go_iload dF_inline_171 rfl ?_
  refine go_if_eqB dF_inline_173 (tgt := 200) (by decide) (fun c173 => ?_) (fun c173 => ?_)
  · refine go_bipush (-2) (by decide) dF_inline_200 ?_
    refine go_ireturn rfl dF_inline_202 ?_
    first | (have q := uY_n (s := s) (m := m) (p := p) (by rw [hcc]; exact hT) (by rw [hcc]; exact mayI.n7 (Nat.lt_of_not_le (fun z => c197 ((mv_l8 (by omega) (by omega)).mpr z)))); rw [q]; exact ⟨rfl, cEnd.rf hc⟩) | (have q0 : ¬ (mayI (gP (zQ s s.1)) (zM s m) (zM s c) p (decide (c = m))) := mayI.n6 hT (fun z => nbX c190 (b2.mpr z.b)); have q := uY_n (s := s) (m := m) (p := p) (by rw [hcc]; exact hT) (by rw [hcc]; exact q0); rw [q]; exact ⟨rfl, cEnd.rf hc⟩) | (have q0 : ¬ (mayI (gP (zQ s s.1)) (zM s m) (zM s c) p (decide (c = m))) := mayI.nP (fun z => nbX c178 (hpb.mpr z)); have q := uY_n (s := s) (m := m) (p := p) (by rw [hcc]; exact hT) (by rw [hcc]; exact q0); rw [q]; exact ⟨rfl, cEnd.rf hc⟩) | (have q0 : ¬ (mayI (gP (zQ s s.1)) (zM s m) (zM s c) p (decide (c = m))) := mayI.n5 hp hL (fun z => nbX c173 (hfb.mpr z)); have q := uY_n (s := s) (m := m) (p := p) (by rw [hcc]; exact hT) (by rw [hcc]; exact q0); rw [q]; exact ⟨rfl, cEnd.rf hc⟩)
  · refine go_iload dF_inline_176 rfl ?_
    refine go_if_eqB dF_inline_178 (tgt := 200) (by decide) (fun c178 => ?_) (fun c178 => ?_)
    · refine go_bipush (-2) (by decide) dF_inline_200 ?_
      refine go_ireturn rfl dF_inline_202 ?_
      first | (have q := uY_n (s := s) (m := m) (p := p) (by rw [hcc]; exact hT) (by rw [hcc]; exact mayI.n7 (Nat.lt_of_not_le (fun z => c197 ((mv_l8 (by omega) (by omega)).mpr z)))); rw [q]; exact ⟨rfl, cEnd.rf hc⟩) | (have q0 : ¬ (mayI (gP (zQ s s.1)) (zM s m) (zM s c) p (decide (c = m))) := mayI.n6 hT (fun z => nbX c190 (b2.mpr z.b)); have q := uY_n (s := s) (m := m) (p := p) (by rw [hcc]; exact hT) (by rw [hcc]; exact q0); rw [q]; exact ⟨rfl, cEnd.rf hc⟩) | (have q0 : ¬ (mayI (gP (zQ s s.1)) (zM s m) (zM s c) p (decide (c = m))) := mayI.nP (fun z => nbX c178 (hpb.mpr z)); have q := uY_n (s := s) (m := m) (p := p) (by rw [hcc]; exact hT) (by rw [hcc]; exact q0); rw [q]; exact ⟨rfl, cEnd.rf hc⟩) | (have q0 : ¬ (mayI (gP (zQ s s.1)) (zM s m) (zM s c) p (decide (c = m))) := mayI.n5 hp hL (fun z => nbX c173 (hfb.mpr z)); have q := uY_n (s := s) (m := m) (p := p) (by rw [hcc]; exact hT) (by rw [hcc]; exact q0); rw [q]; exact ⟨rfl, cEnd.rf hc⟩)
    · refine go_aload_n dF_inline_181 rfl rfl ?_
      refine go_getO dF_inline_182 flF_19 rfl (by assumption) (by assumption) ?_
      refine go_aload dF_inline_185 rfl ?_
      refine go_cV (k' := (0, 0)) dF_inline_187 _ csF_175 (by assumption) rfl imC_returnsAlone seC_returnsAlone rfl (okC_returnsAlone (d := 2) w (by decide) G (mo s.1 c) (zM s c) t hS hC hI) (by omega) (by decide) (Nat.le_of_ble_eq_true rfl) (fun r G1 hr hn => ?_)
      obtain ⟨cb, rfl, b2, hG⟩ := hr
      rw [hG]
      clear hG hn
      refine go_if_eqB dF_inline_190 (tgt := 200) (by decide) (fun c190 => ?_) (fun c190 => ?_)
      · refine go_bipush (-2) (by decide) dF_inline_200 ?_
        refine go_ireturn rfl dF_inline_202 ?_
        first | (have q := uY_n (s := s) (m := m) (p := p) (by rw [hcc]; exact hT) (by rw [hcc]; exact mayI.n7 (Nat.lt_of_not_le (fun z => c197 ((mv_l8 (by omega) (by omega)).mpr z)))); rw [q]; exact ⟨rfl, cEnd.rf hc⟩) | (have q0 : ¬ (mayI (gP (zQ s s.1)) (zM s m) (zM s c) p (decide (c = m))) := mayI.n6 hT (fun z => nbX c190 (b2.mpr z.b)); have q := uY_n (s := s) (m := m) (p := p) (by rw [hcc]; exact hT) (by rw [hcc]; exact q0); rw [q]; exact ⟨rfl, cEnd.rf hc⟩) | (have q0 : ¬ (mayI (gP (zQ s s.1)) (zM s m) (zM s c) p (decide (c = m))) := mayI.nP (fun z => nbX c178 (hpb.mpr z)); have q := uY_n (s := s) (m := m) (p := p) (by rw [hcc]; exact hT) (by rw [hcc]; exact q0); rw [q]; exact ⟨rfl, cEnd.rf hc⟩) | (have q0 : ¬ (mayI (gP (zQ s s.1)) (zM s m) (zM s c) p (decide (c = m))) := mayI.n5 hp hL (fun z => nbX c173 (hfb.mpr z)); have q := uY_n (s := s) (m := m) (p := p) (by rw [hcc]; exact hT) (by rw [hcc]; exact q0); rw [q]; exact ⟨rfl, cEnd.rf hc⟩)
      · refine go_iload dF_inline_193 rfl ?_
        refine go_bipush (nI 8) (by decide) dF_inline_195 ?_
        refine go_icmp_lt dF_inline_197 (tgt := 203) (by decide) (fun c197 => ?_) (fun c197 => ?_)
        · have hfl := (mv_l8 (by omega) (by omega)).mp c197
          have hmay : (mayI (gP (zQ s s.1)) (zM s m) (zM s c) p (decide (c = m))) := mayI.yC hL hT (hpb.mp c178) hfl (hfb.mp c173) (b2.mp c190)
          refine go_aload_n dF_inline_203 rfl rfl ?_
          refine go_getO dF_inline_204 flF_33 rfl (by assumption) (by assumption) ?_
          refine go_aload_n dF_inline_207 rfl rfl ?_
          refine go_iload_n dF_inline_208 rfl rfl ?_
          refine go_aload dF_inline_209 rfl ?_
          refine go_cV (k' := (0, 0)) dF_inline_211 _ csF_179 (by assumption) rfl imW_writeOutCall seW_writeOutCall rfl (okW_writeOutCall (d := 3) w (by decide) G (mo s.1 m) (mo s.1 c) p (zM s m) (zM s c) h8 g8 hp (hpb.mp c178).2.2 hfl hS hM hC) (by omega) (by decide) (Nat.le_of_ble_eq_true rfl) (fun r G1 hr hn => ?_)
          have hz := hr
          rcases hz with ⟨rfl, q2, q3⟩ | ⟨rfl, q2, q3, Gy, q4, q5, q6⟩
          · refine go_ireturn rfl dF_inline_214 ?_
            rw [uY_f (by rw [hcc]; exact hT) (by rw [hcc]; exact hmay) (by rw [hcc]; exact q2)]
            exact ⟨rfl, hc.d q3, q3.cl⟩
          · refine go_ireturn rfl dF_inline_214 ?_
            rw [uY_y (by rw [hcc]; exact hT) (by rw [hcc]; exact hmay) (by rw [hcc]; exact q2) (by rw [hcc]; exact q3), hcc]
            have E1 := cEnd.put hv1 hm (hc.d q4) q5 q6
            exact ⟨rfl, E1.1, q4.cl.tr E1.2⟩
        · refine go_bipush (-2) (by decide) dF_inline_200 ?_
          refine go_ireturn rfl dF_inline_202 ?_
          first | (have q := uY_n (s := s) (m := m) (p := p) (by rw [hcc]; exact hT) (by rw [hcc]; exact mayI.n7 (Nat.lt_of_not_le (fun z => c197 ((mv_l8 (by omega) (by omega)).mpr z)))); rw [q]; exact ⟨rfl, cEnd.rf hc⟩) | (have q0 : ¬ (mayI (gP (zQ s s.1)) (zM s m) (zM s c) p (decide (c = m))) := mayI.n6 hT (fun z => nbX c190 (b2.mpr z.b)); have q := uY_n (s := s) (m := m) (p := p) (by rw [hcc]; exact hT) (by rw [hcc]; exact q0); rw [q]; exact ⟨rfl, cEnd.rf hc⟩) | (have q0 : ¬ (mayI (gP (zQ s s.1)) (zM s m) (zM s c) p (decide (c = m))) := mayI.nP (fun z => nbX c178 (hpb.mpr z)); have q := uY_n (s := s) (m := m) (p := p) (by rw [hcc]; exact hT) (by rw [hcc]; exact q0); rw [q]; exact ⟨rfl, cEnd.rf hc⟩) | (have q0 : ¬ (mayI (gP (zQ s s.1)) (zM s m) (zM s c) p (decide (c = m))) := mayI.n5 hp hL (fun z => nbX c173 (hfb.mpr z)); have q := uY_n (s := s) (m := m) (p := p) (by rw [hcc]; exact hT) (by rw [hcc]; exact q0); rw [q]; exact ⟨rfl, cEnd.rf hc⟩)
theorem nnP {b : Bool} {P : Prop} (h : b = true ↔ ¬ P) (e : b = false) : P := Classical.byContradiction (fun q => by rw [h.mpr q] at e; cases e)
set_option maxRecDepth 100000 in
theorem F_in2 (w : am_W) {d : Nat} (hd : 4 ≤ d) (G : am_G) (s : sT) (m p c : Nat) (hm : m < 6) (hc6 : c < 6) (hp : p < mN (zM s m)) (hcc : aN (zM s m) p = c) (S : fM) (hL : fLeast (gP (zQ s s.1)) (zM s m) S) (hv : sV s) (fb : Bool) (hfb : fb = true ↔ ilF S p (mG (zM s c))) (t : cT) (hS : St0 G) (hc : cS G s) (hT : fLeast (gP (zQ s s.1)) (zM s c) t.1) (hI : ckT G (zM s c) t) : am_Go w jF_inline d (0, 0) 128 [some (.inr (some 0)), some (.inl (nI m)), some (.inl (nI p)), some (.inr (some (mo s.1 m))), some (.inl (nI c)), some (.inr (some (mo s.1 c))), some (.inl (am_b fb)), none, none] [] G (fun r G' => r = some (.inl (uY s m p).1) ∧ cEnd G G' (uY s m p).2) := by
  have hv1 := hv.1
  have hM : hldM G (mo s.1 m) (zM s m) := cS.hP hS hc hv hv1 m hm
  have hC : hldM G (mo s.1 c) (zM s c) := cS.hP hS hc hv hv1 c hc6
  have hs := hM.1.1
  have xs := hC.1.1
  have h8 : mo s.1 m + 8 ≤ 102 := by unfold mo; omega
  have g8 : mo s.1 c + 8 ≤ 102 := by unfold mo; omega
  have f8 := gLx_8 (r := true) hM.2.2.1 (mN (zM s m)) (Nat.le_refl _)
  have f9 := gLx_8 (r := true) hC.2.2.1 (mN (zM s c)) (Nat.le_refl _)
  have lk := hC.2.1.1.2.2.2
  refine go_iload dF_inline_128 rfl ?_
  refine go_iload_n dF_inline_130 rfl rfl ?_
  refine go_icmp_eqN (by omega) (by omega) dF_inline_131 (tgt := 154) (by decide) (fun c131 => ?_) (fun c131 => ?_)
  · refine go_iconst (am_b false) (by decide) dF_inline_154 ?_
    refine go_istore dF_inline_155 (Nat.le_of_ble_eq_true rfl) ?_
    first | exact F_in3 w hd G s m p c hm hc6 hp hcc S hL hv fb hfb t hS hc hT hI true (iffT ⟨decide_eq_false c131, c139, (nnP b2 c147)⟩) | exact F_in3 w hd G s m p c hm hc6 hp hcc S hL hv fb hfb t hS hc hT hI false (iffF (fun q => b2.mp c147 q.2.2)) | exact F_in3 w hd G s m p c hm hc6 hp hcc S hL hv fb hfb t hS hc hT hI false (iffF (fun q => absurd (q.2.1.symm.trans c139) (by decide))) | exact F_in3 w hd G s m p c hm hc6 hp hcc S hL hv fb hfb t hS hc hT hI false (iffF (fun q => of_decide_eq_false q.1 c131))
  · refine go_aload dF_inline_134 rfl ?_
    refine go_getV dF_inline_136 flF_164 rfl (by assumption) (by first | assumption | (simp (disch := omega) only [wi_I, ro_I, wi_In, wi_Is]; done) | (simp (disch := omega) only [wi_I, ro_I, wi_In, wi_Is]; first | assumption | rfl) | rfl) ?_
    refine go_if_neB dF_inline_139 (tgt := 154) (by decide) (fun c139 => ?_) (fun c139 => ?_)
    · refine go_iconst (am_b false) (by decide) dF_inline_154 ?_
      refine go_istore dF_inline_155 (Nat.le_of_ble_eq_true rfl) ?_
      first | exact F_in3 w hd G s m p c hm hc6 hp hcc S hL hv fb hfb t hS hc hT hI true (iffT ⟨decide_eq_false c131, c139, (nnP b2 c147)⟩) | exact F_in3 w hd G s m p c hm hc6 hp hcc S hL hv fb hfb t hS hc hT hI false (iffF (fun q => b2.mp c147 q.2.2)) | exact F_in3 w hd G s m p c hm hc6 hp hcc S hL hv fb hfb t hS hc hT hI false (iffF (fun q => absurd (q.2.1.symm.trans c139) (by decide))) | exact F_in3 w hd G s m p c hm hc6 hp hcc S hL hv fb hfb t hS hc hT hI false (iffF (fun q => of_decide_eq_false q.1 c131))
    · refine go_aload dF_inline_142 rfl ?_
      refine go_cV (k' := (0, 0)) dF_inline_144 _ csF_168 (by assumption) rfl imE_hasLocksOrSubroutines seE_hasLocksOrSubroutines rfl (okE_hasLocksOrSubroutines (d := 0) w G (mo s.1 c) (zM s c) hC) (by omega) (by decide) (Nat.le_of_ble_eq_true rfl) (fun r G1 hr hn => ?_)
      obtain ⟨cb, rfl, b2, hG⟩ := hr
      rw [hG]
      clear hG hn
      refine go_if_neB dF_inline_147 (tgt := 154) (by decide) (fun c147 => ?_) (fun c147 => ?_)
      · refine go_iconst (am_b false) (by decide) dF_inline_154 ?_
        refine go_istore dF_inline_155 (Nat.le_of_ble_eq_true rfl) ?_
        first | exact F_in3 w hd G s m p c hm hc6 hp hcc S hL hv fb hfb t hS hc hT hI true (iffT ⟨decide_eq_false c131, c139, (nnP b2 c147)⟩) | exact F_in3 w hd G s m p c hm hc6 hp hcc S hL hv fb hfb t hS hc hT hI false (iffF (fun q => b2.mp c147 q.2.2)) | exact F_in3 w hd G s m p c hm hc6 hp hcc S hL hv fb hfb t hS hc hT hI false (iffF (fun q => absurd (q.2.1.symm.trans c139) (by decide))) | exact F_in3 w hd G s m p c hm hc6 hp hcc S hL hv fb hfb t hS hc hT hI false (iffF (fun q => of_decide_eq_false q.1 c131))
      · refine go_iconst (am_b true) (by decide) dF_inline_150 ?_
        refine go_goto dF_inline_151 (tgt := 155) (by decide) ?_
        refine go_istore dF_inline_155 (Nat.le_of_ble_eq_true rfl) ?_
        first | exact F_in3 w hd G s m p c hm hc6 hp hcc S hL hv fb hfb t hS hc hT hI true (iffT ⟨decide_eq_false c131, c139, (nnP b2 c147)⟩) | exact F_in3 w hd G s m p c hm hc6 hp hcc S hL hv fb hfb t hS hc hT hI false (iffF (fun q => b2.mp c147 q.2.2)) | exact F_in3 w hd G s m p c hm hc6 hp hcc S hL hv fb hfb t hS hc hT hI false (iffF (fun q => absurd (q.2.1.symm.trans c139) (by decide))) | exact F_in3 w hd G s m p c hm hc6 hp hcc S hL hv fb hfb t hS hc hT hI false (iffF (fun q => of_decide_eq_false q.1 c131))
set_option maxRecDepth 100000 in
theorem F_in1 (w : am_W) {d : Nat} (hd : 6 ≤ d) (G : am_G) (s : sT) (m p c : Nat) (hm : m < 6) (hc6 : c < 6) (hp : p < mN (zM s m)) (hcc : aN (zM s m) p = c) (S : fM) (hL : fLeast (gP (zQ s s.1)) (zM s m) S) (hv : sV s) (fb : Bool) (hfb : fb = true ↔ ilF S p (mG (zM s c))) (hS : St0 G) (hc : cS G s) : am_Go w jF_inline d (0, 0) 104 [some (.inr (some 0)), some (.inl (nI m)), some (.inl (nI p)), some (.inr (some (mo s.1 m))), some (.inl (nI c)), some (.inr (some (mo s.1 c))), some (.inl (am_b fb)), none, none] [] G (fun r G' => r = some (.inl (uY s m p).1) ∧ cEnd G G' (uY s m p).2) := by
  have hv1 := hv.1
  have wr := hc.1
  have q6 : G.1[0]? = some (0, 0) := hS.s rfl
  have q7 : G.1[1]? = some (3, 2) := hS.s rfl
  have q8 : G.2.2 0 0 = some 1 := hS.r (by decide +kernel)
  have q9 : G.2.2 0 1 = some 102 := hS.r (by decide +kernel)
  have q10 : G.2.2 0 3 = some 150 := hS.r (by decide +kernel)
  have q11 : G.1[102]? = some (0, 3) := hS.s rfl
  have q12 : G.1[150]? = some (0, 7) := hS.s rfl
  have qp := hS.r (pr_l s.1 hv1).2.2.2
  have q13 : G.1[103]? = some (1, 60) := hS.s rfl
  have q14 : G.2.2 102 0 = some 103 := hS.r ck_r0
  refine go_aload_n dF_inline_104 rfl rfl ?_
  refine go_getO dF_inline_105 flF_19 rfl (by assumption) (by assumption) ?_
  refine go_aload_n dF_inline_108 rfl rfl ?_
  refine go_getO dF_inline_109 flF_11 rfl (by assumption) (by assumption) ?_
  refine go_aload_n dF_inline_112 rfl rfl ?_
  refine go_getV dF_inline_113 flF_47 rfl (by assumption) (by first | assumption | (simp (disch := omega) only [wi_I, ro_I, wi_In, wi_Is]; done) | (simp (disch := omega) only [wi_I, ro_I, wi_In, wi_Is]; first | assumption | rfl) | rfl) ?_
  refine go_aaO (t := 0) (by decide) q7 hv1 (by decide) qp dF_inline_116 ?_
  refine go_iload dF_inline_117 rfl ?_
  refine go_cV (k' := (0, 0)) dF_inline_119 _ csF_91 (by assumption) rfl imC_follow seC_follow rfl (okC_follow (d := 5) w (by decide) G s.1 c (zQ s s.1) hv1 hc6 hS (cS.hP hS hc hv hv1)) (by omega) (by decide) (Nat.le_of_ble_eq_true rfl) (fun r G1 hr hn => ?_)
  obtain ⟨t, rfl, I1, o1, L1, N1⟩ := hr
  have hS := o1.St hS
  refine go_if_neB dF_inline_122 (tgt := 128) (by decide) (fun c122 => ?_) (fun c122 => ?_)
  · have hT := L1 (nbT c122)
    refine go_post (F_in2 w (by omega) G1 s m p c hm hc6 hp hcc S hL hv fb hfb t hS (hc.ck o1) hT I1) (fun r9 G9 q => ?_)
    exact ⟨q.1, q.2.1, o1.cl.tr q.2.2⟩
  · refine go_bipush (-4) (by decide) dF_inline_125 ?_
    refine go_ireturn rfl dF_inline_127 ?_
    rw [uY_w (by rw [hcc]; exact N1 (nbF c122))]
    exact ⟨rfl, hc.ck o1, o1.cl⟩
set_option maxRecDepth 100000 in
theorem okF_inline (w : am_W) {d : Nat} (hd : 6 ≤ d) (G : am_G) (s : sT) (x y : Int32) (hS : St0 G) (hc : cS G s) (hv : sV s) : am_Ok w jF_inline d (0, 0) [.inr (some 0), .inl x, .inl y] G (fun r G' => r = some (.inl (aInl s x y).1) ∧ cEnd G G' (aInl s x y).2) := by
  refine am_ok_of rfl (Nat.le_of_ble_eq_true rfl) ?_
  show am_Go w jF_inline d (0, 0) 0 [some (.inr (some 0)), some (.inl x), some (.inl y), none, none, none, none, none, none] [] G _
  have hv1 := hv.1
  have wr := hc.1
  have q6 : G.1[0]? = some (0, 0) := hS.s rfl
  have q7 : G.1[1]? = some (3, 2) := hS.s rfl
  have q8 : G.2.2 0 0 = some 1 := hS.r (by decide +kernel)
  have q9 : G.2.2 0 1 = some 102 := hS.r (by decide +kernel)
  have q10 : G.2.2 0 3 = some 150 := hS.r (by decide +kernel)
  have q11 : G.1[102]? = some (0, 3) := hS.s rfl
  have q12 : G.1[150]? = some (0, 7) := hS.s rfl
  have qp := hS.r (pr_l s.1 hv1).2.2.2
  have q13 : G.1[103]? = some (1, 60) := hS.s rfl
  have q14 : G.2.2 102 0 = some 103 := hS.r ck_r0
  refine go_iload_n dF_inline_0 rfl rfl ?_
  refine go_bipush (nI 6) (by decide) dF_inline_1 ?_
  refine go_cS (k' := (0, 0)) dF_inline_3 _ csF_51 stF_isBelow rfl (okF_below (d := 0) w G x 6 (by decide)) (by omega) (by decide) (Nat.le_of_ble_eq_true rfl) (fun r G1 hr hn => ?_)
  obtain ⟨rfl, hG⟩ := hr
  rw [hG]
  clear hG hn
  refine go_if_neB dF_inline_6 (tgt := 11) (by decide) (fun c6 => ?_) (fun c6 => ?_)
  · obtain ⟨m, hm, rfl⟩ := bel_of c6 (by decide)
    refine go_aload_n dF_inline_11 rfl rfl ?_
    refine go_iload_n dF_inline_12 rfl rfl ?_
    refine go_cV (k' := (0, 0)) dF_inline_13 _ csF_63 (by assumption) rfl imF_writtenMethod seF_writtenMethod rfl (okF_writtenMethod (d := 0) w G s.1 m hv1 hm wr hS) (by omega) (by decide) (Nat.le_of_ble_eq_true rfl) (fun r G1 hr hn => ?_)
    obtain ⟨rfl, hG⟩ := hr
    rw [hG]
    clear hG hn
    refine go_astore_n dF_inline_16 rfl (Nat.le_of_ble_eq_true rfl) ?_
    refine go_aload_n dF_inline_17 rfl rfl ?_
    refine go_getO dF_inline_18 flF_19 rfl (by assumption) (by assumption) ?_
    refine go_aload_n dF_inline_21 rfl rfl ?_
    refine go_getO dF_inline_22 flF_11 rfl (by assumption) (by assumption) ?_
    refine go_aload_n dF_inline_25 rfl rfl ?_
    refine go_getV dF_inline_26 flF_47 rfl (by assumption) (by first | assumption | (simp (disch := omega) only [wi_I, ro_I, wi_In, wi_Is]; done) | (simp (disch := omega) only [wi_I, ro_I, wi_In, wi_Is]; first | assumption | rfl) | rfl) ?_
    refine go_aaO (t := 0) (by decide) q7 hv1 (by decide) qp dF_inline_29 ?_
    refine go_iload_n dF_inline_30 rfl rfl ?_
    refine go_cV (k' := (0, 0)) dF_inline_31 _ csF_91 (by assumption) rfl imC_follow seC_follow rfl (okC_follow (d := 5) w (by decide) G s.1 m (zQ s s.1) hv1 hm hS (cS.hP hS hc hv hv1)) (by omega) (by decide) (Nat.le_of_ble_eq_true rfl) (fun r G1 hr hn => ?_)
    obtain ⟨t, rfl, I1, o1, L1, N1⟩ := hr
    have hS := o1.St hS
    have hc1 := hc.ck o1
    have wr := hc1.1
    have q6 : G1.1[0]? = some (0, 0) := hS.s rfl
    have q7 : G1.1[1]? = some (3, 2) := hS.s rfl
    have q8 : G1.2.2 0 0 = some 1 := hS.r (by decide +kernel)
    have q9 : G1.2.2 0 1 = some 102 := hS.r (by decide +kernel)
    have q10 : G1.2.2 0 3 = some 150 := hS.r (by decide +kernel)
    have q11 : G1.1[102]? = some (0, 3) := hS.s rfl
    have q12 : G1.1[150]? = some (0, 7) := hS.s rfl
    have qp := hS.r (pr_l s.1 hv1).2.2.2
    have q13 : G1.1[103]? = some (1, 60) := hS.s rfl
    have q14 : G1.2.2 102 0 = some 103 := hS.r ck_r0
    refine go_if_neB dF_inline_34 (tgt := 40) (by decide) (fun c34 => ?_) (fun c34 => ?_)
    · have h0 := nbT c34
      have hL := L1 h0
      have hL : fLeast (gP (zQ s s.1)) (zM s m) t.1 := hL
      have hM : hldM G1 (mo s.1 m) (zM s m) := cS.hP hS hc1 hv hv1 m hm
      obtain ⟨hs, ⟨r0, r1, r2, r3, r4, r5, r6⟩, s1, s2, s3, s4, s5, s6, s7⟩ := id hM.1
      have hV := hM.2.2.1
      have hn6 := hV.1
      have mn := hM.2.1.1.1
      refine go_aload_n dF_inline_40 rfl rfl ?_
      refine go_iload_n dF_inline_41 rfl rfl ?_
      refine go_bipush (nI 21) (by decide) dF_inline_42 ?_
      refine go_cV (k' := (0, 0)) dF_inline_44 _ csF_155 (by assumption) rfl imE_hasAt seE_hasAt rfl (okE_hasAt (d := 1) w (by decide) G1 (mo s.1 m) (mN (zM s m)) y (nI 21) hn6 mn hM.1) (by omega) (by decide) (Nat.le_of_ble_eq_true rfl) (fun r G1 hr hn => ?_)
      obtain ⟨rfl, hG⟩ := hr
      subst hG
      clear hn
      refine go_if_neB dF_inline_47 (tgt := 53) (by decide) (fun c47 => ?_) (fun c47 => ?_)
      · obtain ⟨p, hp, rfl, hop⟩ := hasT (f := G1.2.1 (mo s.1 m + 1)) hn6 c47
        obtain ⟨m1, m2, m3⟩ := hM.2.1.2.1 p hp
        have h28 := (hV.2.2.2.1 p hp).1
        have h21 : mO (zM s m) p = 21 := (nI_eq (by omega) (by decide)).mp (m1.symm.trans hop)
        obtain ⟨a1, a2⟩ := hV.call hp h21
        rw [a1] at m2
        rw [aInl_y hm hL hn6 hp h21]
        generalize hcc : aN (zM s m) p = c at *
        have hC : hldM G1 (mo s.1 c) (zM s c) := cS.hP hS hc1 hv hv1 c a2
        have xs := hC.1.1
        have ag := hC.2.1.1.2.2.1
        have cg3 := hC.2.2.1.2.2.1
        refine go_aload_n dF_inline_53 rfl rfl ?_
        refine go_getO dF_inline_54 flF_158 rfl (by assumption) (by assumption) ?_
        refine go_iload_n dF_inline_57 rfl rfl ?_
        refine go_ialV s2 (by omega) (by decide) m2 dF_inline_58 ?_
        refine go_istore dF_inline_59 (Nat.le_of_ble_eq_true rfl) ?_
        refine go_aload_n dF_inline_61 rfl rfl ?_
        refine go_iload dF_inline_62 rfl ?_
        refine go_cV (k' := (0, 0)) dF_inline_64 _ csF_63 (by assumption) rfl imF_writtenMethod seF_writtenMethod rfl (okF_writtenMethod (d := 0) w G1 s.1 c hv1 a2 wr hS) (by omega) (by decide) (Nat.le_of_ble_eq_true rfl) (fun r G1 hr hn => ?_)
        obtain ⟨rfl, hG⟩ := hr
        subst hG
        clear hn
        refine go_astore dF_inline_67 (Nat.le_of_ble_eq_true rfl) ?_
        refine go_aload_n dF_inline_69 rfl rfl ?_
        refine go_getO dF_inline_70 flF_19 rfl (by assumption) (by assumption) ?_
        refine go_iload_n dF_inline_73 rfl rfl ?_
        refine go_cV (k' := (0, 0)) dF_inline_74 _ csF_98 (by assumption) rfl imC_comesTo seC_comesTo rfl (okC_comesTo (d := 1) w (by decide) G1 (zM s m) t (nI p) hn6 hS I1 h0) (by omega) (by decide) (Nat.le_of_ble_eq_true rfl) (fun r G1 hr hn => ?_)
        obtain ⟨rfl, hG⟩ := hr
        subst hG
        clear hn
        refine go_if_eqB dF_inline_77 (tgt := 101) (by decide) (fun c77 => ?_) (fun c77 => ?_)
        · refine go_iconst (am_b false) (by decide) dF_inline_101 ?_
          refine go_istore dF_inline_102 (Nat.le_of_ble_eq_true rfl) ?_
          have FIN : ∀ fb : Bool, (fb = true ↔ ilF t.1 p (mG (zM s c))) → _ := fun fb hfb => F_in1 w hd G1 s m p c hm a2 hp hcc t.1 hL hv fb hfb hS hc1
          first | (have q := FIN true (iffT ⟨z, hz, c94⟩); exact go_post q (fun r9 G9 q => ⟨q.1, q.2.1, o1.cl.tr q.2.2⟩)) | (have q := FIN false (iffF (ilF_n2 hz c94)); exact go_post q (fun r9 G9 q => ⟨q.1, q.2.1, o1.cl.tr q.2.2⟩)) | (rw [bel_nI (by omega), decide_eq_true hp, Bool.true_and, nI_clamp (by omega)] at c77; have q := FIN false (iffF (ilF_n1 c77)); exact go_post q (fun r9 G9 q => ⟨q.1, q.2.1, o1.cl.tr q.2.2⟩))
        · rw [bel_nI (by omega), decide_eq_true hp, Bool.true_and, nI_clamp (by omega)] at c77
          obtain ⟨z, hz⟩ := Option.isSome_iff_exists.mp c77
          have dz := ((I1.2.2.2 p hp).2.2 z hz).1
          have z8 := ((I1.2.2.2 p hp).2.2 z hz).2.2.2.1
          refine go_aload_n dF_inline_80 rfl rfl ?_
          refine go_getO dF_inline_81 flF_19 rfl (by assumption) (by assumption) ?_
          refine go_getO dF_inline_84 flF_102 rfl (by assumption) (by assumption) ?_
          refine go_iload_n dF_inline_87 rfl rfl ?_
          refine go_ialV q13 (by omega) (by decide) dz dF_inline_88 ?_
          refine go_aload dF_inline_89 rfl ?_
          refine go_getV dF_inline_91 flF_161 rfl (by assumption) (by first | assumption | (simp (disch := omega) only [wi_I, ro_I, wi_In, wi_Is]; done) | (simp (disch := omega) only [wi_I, ro_I, wi_In, wi_Is]; first | assumption | rfl) | rfl) ?_
          refine go_icmp_neN (by omega) (by omega) dF_inline_94 (tgt := 101) (by decide) (fun c94 => ?_) (fun c94 => ?_)
          · refine go_iconst (am_b false) (by decide) dF_inline_101 ?_
            refine go_istore dF_inline_102 (Nat.le_of_ble_eq_true rfl) ?_
            have FIN : ∀ fb : Bool, (fb = true ↔ ilF t.1 p (mG (zM s c))) → _ := fun fb hfb => F_in1 w hd G1 s m p c hm a2 hp hcc t.1 hL hv fb hfb hS hc1
            first | (have q := FIN true (iffT ⟨z, hz, c94⟩); exact go_post q (fun r9 G9 q => ⟨q.1, q.2.1, o1.cl.tr q.2.2⟩)) | (have q := FIN false (iffF (ilF_n2 hz c94)); exact go_post q (fun r9 G9 q => ⟨q.1, q.2.1, o1.cl.tr q.2.2⟩)) | (rw [bel_nI (by omega), decide_eq_true hp, Bool.true_and, nI_clamp (by omega)] at c77; have q := FIN false (iffF (ilF_n1 c77)); exact go_post q (fun r9 G9 q => ⟨q.1, q.2.1, o1.cl.tr q.2.2⟩))
          · refine go_iconst (am_b true) (by decide) dF_inline_97 ?_
            refine go_goto dF_inline_98 (tgt := 102) (by decide) ?_
            refine go_istore dF_inline_102 (Nat.le_of_ble_eq_true rfl) ?_
            have FIN : ∀ fb : Bool, (fb = true ↔ ilF t.1 p (mG (zM s c))) → _ := fun fb hfb => F_in1 w hd G1 s m p c hm a2 hp hcc t.1 hL hv fb hfb hS hc1
            first | (have q := FIN true (iffT ⟨z, hz, c94⟩); exact go_post q (fun r9 G9 q => ⟨q.1, q.2.1, o1.cl.tr q.2.2⟩)) | (have q := FIN false (iffF (ilF_n2 hz c94)); exact go_post q (fun r9 G9 q => ⟨q.1, q.2.1, o1.cl.tr q.2.2⟩)) | (rw [bel_nI (by omega), decide_eq_true hp, Bool.true_and, nI_clamp (by omega)] at c77; have q := FIN false (iffF (ilF_n1 c77)); exact go_post q (fun r9 G9 q => ⟨q.1, q.2.1, o1.cl.tr q.2.2⟩))
      · refine go_bipush (-2) (by decide) dF_inline_50 ?_
        refine go_ireturn rfl dF_inline_52 ?_
        rw [aInl_h (f := G1.2.1 (mo s.1 m + 1)) hm hL hV (fun i hi => (hM.2.1.2.1 i hi).1) c47]
        exact ⟨rfl, hc1, o1.cl⟩
    · refine go_bipush (-4) (by decide) dF_inline_37 ?_
      refine go_ireturn rfl dF_inline_39 ?_
      rw [aInl_w hm (N1 (nbF c34))]
      exact ⟨rfl, hc.ck o1, o1.cl⟩
  · refine go_iconst (-1) (by decide) dF_inline_9 ?_
    refine go_ireturn rfl dF_inline_10 ?_
    rw [aInl_o c6]
    exact ⟨rfl, cEnd.rf hc⟩
