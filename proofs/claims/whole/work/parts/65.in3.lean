section Pl
variable {M : mT} {b e k : Nat}
theorem plI_i {c j : Bool} (hc : c = decide (b < k ∧ k < e)) (h : c = true) (h1 : mO M k ≠ 23) (h2 : ¬ ((mO M k = 2 ∨ mO M k = 3 ∨ mO M k = 27) ∧ mA M k = mA M b)) (hj : j = true ↔ jm3 (mO M k)) (h3 : j = true → b < bN M k ∧ bN M k ≤ e) : plI M b e k := by
  unfold plI
  rw [hc] at h
  rw [if_pos (of_decide_eq_true h)]
  exact ⟨h1, fun q q2 => h2 ⟨q, q2⟩, fun q => h3 (hj.mpr q)⟩
theorem plI_o {c j : Bool} (hc : c = decide (b < k ∧ k < e)) (h : c = false) (hj : j = true ↔ jm3 (mO M k)) (h3 : j = true → ¬ (b ≤ bN M k ∧ bN M k ≤ e)) : plI M b e k := by
  unfold plI
  rw [hc] at h
  rw [if_neg (of_decide_eq_false h)]
  exact fun q => h3 (hj.mpr q)
theorem plI_x1 {c : Bool} (hc : c = decide (b < k ∧ k < e)) (h : c = true) (h1 : mO M k = 23) : ¬ plI M b e k := by
  unfold plI
  rw [hc] at h
  rw [if_pos (of_decide_eq_true h)]
  exact fun q => q.1 h1
theorem plI_x2 {c : Bool} (hc : c = decide (b < k ∧ k < e)) (h : c = true) (h1 : mO M k = 2 ∨ mO M k = 3 ∨ mO M k = 27) (h2 : mA M k = mA M b) : ¬ plI M b e k := by
  unfold plI
  rw [hc] at h
  rw [if_pos (of_decide_eq_true h)]
  exact fun q => q.2.1 h1 h2
theorem plI_x3 {c : Bool} (hc : c = decide (b < k ∧ k < e)) (h : c = true) (h1 : jm3 (mO M k)) (h2 : ¬ (b < bN M k ∧ bN M k ≤ e)) : ¬ plI M b e k := by
  unfold plI
  rw [hc] at h
  rw [if_pos (of_decide_eq_true h)]
  exact fun q => h2 (q.2.2 h1)
theorem plI_x4 {c : Bool} (hc : c = decide (b < k ∧ k < e)) (h : c = false) (h1 : jm3 (mO M k)) (h2 : b ≤ bN M k) (h3 : bN M k ≤ e) : ¬ plI M b e k := by
  unfold plI
  rw [hc] at h
  rw [if_neg (of_decide_eq_false h)]
  exact fun q => q h1 ⟨h2, h3⟩
theorem plE_i (hk : k < mN M) (h : ¬ plI M b e k) : ¬ plE M b e := fun q => h (q.2.1 k hk)
theorem plE_w (hk : k < mR M) (h : ¬ plW M b e k) : ¬ plE M b e := fun q => h (q.2.2 k hk)
end Pl
theorem jm3_4 {o : Nat} (h : jm3 o) : jm4 o := by
  rcases h with e | e | e
  · exact Or.inl e
  · exact Or.inr (Or.inl e)
  · exact Or.inr (Or.inr (Or.inl e))
theorem jm4_3 {o : Nat} (h : jm4 o) (h2 : o ≠ 23) : jm3 o := by
  rcases h with e | e | e | e
  · exact Or.inl e
  · exact Or.inr (Or.inl e)
  · exact Or.inr (Or.inr e)
  · exact absurd e h2
theorem mx_b {f b : Nat} : max f (b + 1) = if b < f then f else b + 1 := by
  split
  · exact Nat.max_eq_left (by omega)
  · exact Nat.max_eq_right (by omega)
theorem mn_e {t e : Nat} : min t e = if e ≤ t then e else t := by
  split
  · exact Nat.min_eq_right (by omega)
  · exact Nat.min_eq_left (by omega)
theorem nbX {j : Bool} {X : Prop} (h : j = false) (q : j = true) : X := by rw [h] at q; cases q
theorem inXt {b k e : Nat} (h1 : b < k) (h2 : k < e) : true = decide (b < k ∧ k < e) := (decide_eq_true ⟨h1, h2⟩).symm
theorem inXa {b k e : Nat} (h : k ≤ b) : false = decide (b < k ∧ k < e) := (decide_eq_false (fun q => absurd q.1 (Nat.not_lt.mpr h))).symm
theorem inXb {b k e : Nat} (h : e ≤ k) : false = decide (b < k ∧ k < e) := (decide_eq_false (fun q => absurd q.2 (Nat.not_lt.mpr h))).symm
theorem n2a {b e x : Nat} {P : Prop} (h : x < b) (q : b ≤ x ∧ x ≤ e) : P := absurd q.1 (Nat.not_le.mpr h)
theorem n2b {b e x : Nat} {P : Prop} (h : e < x) (q : b ≤ x ∧ x ≤ e) : P := absurd q.2 (Nat.not_le.mpr h)
theorem n3a {b e x : Nat} {P : Prop} (h : x ≤ b) (q : b < x ∧ x ≤ e) : P := absurd q.1 (Nat.not_lt.mpr h)
theorem n3b {b e x : Nat} {P : Prop} (h : e < x) (q : b < x ∧ x ≤ e) : P := absurd q.2 (Nat.not_le.mpr h)
theorem nL {o : Nat} {P Q : Prop} (h1 : ¬ o = 2) (h2 : ¬ o = 3) (h3 : ¬ o = 27) (q : (o = 2 ∨ o = 3 ∨ o = 27) ∧ P) : Q := by
  rcases q.1 with e | e | e
  · exact absurd e h1
  · exact absurd e h2
  · exact absurd e h3

set_option maxRecDepth 100000 in
theorem R_e2c (w : am_W) {d : Nat} {P : Option am_V → am_G → Prop} (G : am_G) (v m b : Nat) (M : mT) (hv : v < 2) (hm : m < 6) (hb : b < mN M) (hV : mV M) (e k : Nat) (c j : Bool) (hS : St0 G) (hM : rM G (6 * v + m) M) (he : e < mN M) (hk : k < mN M) (hc : c = decide (b < k ∧ k < e)) (hj : j = true ↔ jm3 (mO M k)) (K : plI M b e k → ∀ l6 l7 l8 l9, am_Go w jR_endOf d (0, 0) 273 [some (.inr (some 163)), some (.inl (nI (6 * v + m))), some (.inl (nI b)), some (.inl (nI (60 * (6 * v + m)))), some (.inl (nI e)), some (.inl (nI k)), l6, l7, l8, l9] [] G P) (F : ¬ plI M b e k → P (some (.inl (-1))) G) : am_Go w jR_endOf d (0, 0) 170 [some (.inr (some 163)), some (.inl (nI (6 * v + m))), some (.inl (nI b)), some (.inl (nI (60 * (6 * v + m)))), some (.inl (nI e)), some (.inl (nI k)), some (.inl (nI (mO M k))), some (.inl (mB M k)), some (.inl (am_b c)), some (.inl (am_b j))] [] G P := by
  have hn6 := hV.1
  obtain ⟨m1, m2, m3⟩ := hM.2.1 k hk
  obtain ⟨-, n2, -⟩ := hM.2.1 b hb
  have h28 := (hV.2.2.2.1 k hk).1
  have jb : j = true → mB M k = nI (bN M k) ∧ bN M k < 120 := fun q => hV.jm hk (jm3_4 (hj.mp q))
  have N23 : c = true → mO M k ≠ 23 → ¬ ((mO M k = 2 ∨ mO M k = 3 ∨ mO M k = 27) ∧ mA M k = mA M b) → am_Go w jR_endOf d (0, 0) 223 [some (.inr (some 163)), some (.inl (nI (6 * v + m))), some (.inl (nI b)), some (.inl (nI (60 * (6 * v + m)))), some (.inl (nI e)), some (.inl (nI k)), some (.inl (nI (mO M k))), some (.inl (mB M k)), some (.inl (am_b c)), some (.inl (am_b j))] [] G P := fun hin h1 h2 => by
    refine go_iload dR_endOf_223 rfl ?_
    refine go_if_eqB dR_endOf_225 (tgt := 248) (by decide) (fun c1 => absurd (hin.symm.trans c1) (by decide)) (fun c1 => ?_)
    refine go_iload dR_endOf_228 rfl ?_
    refine go_if_eqB dR_endOf_230 (tgt := 248) (by decide) (fun c230 => ?_) (fun c230 => ?_)
    · refine go_iload dR_endOf_248 rfl ?_
      refine go_if_neB dR_endOf_250 (tgt := 273) (by decide) (fun c2 => ?_) (fun c2 => absurd (hin.symm.trans c2) (by decide))
      first | exact K (plI_i hc hin h1 h2 hj (nbX c230)) _ _ _ _ | exact K (plI_i hc hin h1 h2 hj (fun _ => ⟨c236, c243⟩)) _ _ _ _
    · obtain ⟨b1, b2⟩ := jb c230
      rw [b1]
      refine go_iload dR_endOf_233 rfl ?_
      refine go_iload_n dR_endOf_235 rfl rfl ?_
      refine go_icmp_leN (by omega) (by omega) dR_endOf_236 (tgt := 246) (by decide) (fun c236 => ?_) (fun c236 => ?_)
      · refine go_iconst (-1) (by decide) dR_endOf_246 ?_
        refine go_ireturn rfl dR_endOf_247 ?_
        first | exact F (plI_x3 hc hin (hj.mp c230) (n3a c236)) | exact F (plI_x3 hc hin (hj.mp c230) (n3b c243))
      · refine go_iload dR_endOf_239 rfl ?_
        refine go_iload dR_endOf_241 rfl ?_
        refine go_icmp_leN (by omega) (by omega) dR_endOf_243 (tgt := 248) (by decide) (fun c243 => ?_) (fun c243 => ?_)
        · refine go_iload dR_endOf_248 rfl ?_
          refine go_if_neB dR_endOf_250 (tgt := 273) (by decide) (fun c2 => ?_) (fun c2 => absurd (hin.symm.trans c2) (by decide))
          first | exact K (plI_i hc hin h1 h2 hj (nbX c230)) _ _ _ _ | exact K (plI_i hc hin h1 h2 hj (fun _ => ⟨c236, c243⟩)) _ _ _ _
        · refine go_iconst (-1) (by decide) dR_endOf_246 ?_
          refine go_ireturn rfl dR_endOf_247 ?_
          first | exact F (plI_x3 hc hin (hj.mp c230) (n3a c236)) | exact F (plI_x3 hc hin (hj.mp c230) (n3b c243))
  have N23o : c = false → am_Go w jR_endOf d (0, 0) 223 [some (.inr (some 163)), some (.inl (nI (6 * v + m))), some (.inl (nI b)), some (.inl (nI (60 * (6 * v + m)))), some (.inl (nI e)), some (.inl (nI k)), some (.inl (nI (mO M k))), some (.inl (mB M k)), some (.inl (am_b c)), some (.inl (am_b j))] [] G P := fun hin => by
    refine go_iload dR_endOf_223 rfl ?_
    refine go_if_eqB dR_endOf_225 (tgt := 248) (by decide) (fun c1 => ?_) (fun c1 => absurd (hin.symm.trans c1) (by decide))
    refine go_iload dR_endOf_248 rfl ?_
    refine go_if_neB dR_endOf_250 (tgt := 273) (by decide) (fun c1 => absurd (hin.symm.trans c1) (by decide)) (fun c1 => ?_)
    refine go_iload dR_endOf_253 rfl ?_
    refine go_if_eqB dR_endOf_255 (tgt := 273) (by decide) (fun c255 => ?_) (fun c255 => ?_)
    · first | exact K (plI_o hc hin hj (nbX c255)) _ _ _ _ | exact K (plI_o hc hin hj (fun _ => n2a c261)) _ _ _ _ | exact K (plI_o hc hin hj (fun _ => n2b c268)) _ _ _ _
    · obtain ⟨b1, b2⟩ := jb c255
      rw [b1]
      refine go_iload dR_endOf_258 rfl ?_
      refine go_iload_n dR_endOf_260 rfl rfl ?_
      refine go_icmp_ltN (by omega) (by omega) dR_endOf_261 (tgt := 273) (by decide) (fun c261 => ?_) (fun c261 => ?_)
      · first | exact K (plI_o hc hin hj (nbX c255)) _ _ _ _ | exact K (plI_o hc hin hj (fun _ => n2a c261)) _ _ _ _ | exact K (plI_o hc hin hj (fun _ => n2b c268)) _ _ _ _
      · refine go_iload dR_endOf_264 rfl ?_
        refine go_iload dR_endOf_266 rfl ?_
        refine go_icmp_gtN (by omega) (by omega) dR_endOf_268 (tgt := 273) (by decide) (fun c268 => ?_) (fun c268 => ?_)
        · first | exact K (plI_o hc hin hj (nbX c255)) _ _ _ _ | exact K (plI_o hc hin hj (fun _ => n2a c261)) _ _ _ _ | exact K (plI_o hc hin hj (fun _ => n2b c268)) _ _ _ _
        · refine go_iconst (-1) (by decide) dR_endOf_271 ?_
          refine go_ireturn rfl dR_endOf_272 ?_
          exact F (plI_x4 hc hin (hj.mp c255) c261 c268)
  refine go_iload dR_endOf_170 rfl ?_
  refine go_if_eqB dR_endOf_172 (tgt := 223) (by decide) (fun c172 => ?_) (fun c172 => ?_)
  · first | exact N23 c172 c179 (fun q => c218 q.2) | exact N23 c172 c179 (nL c185 c191 c198) | exact N23o c172
  · refine go_iload dR_endOf_175 rfl ?_
    refine go_bipush (nI 23) (by decide) dR_endOf_177 ?_
    refine go_icmp_eqN (by omega) (by decide) dR_endOf_179 (tgt := 221) (by decide) (fun c179 => ?_) (fun c179 => ?_)
    · refine go_iconst (-1) (by decide) dR_endOf_221 ?_
      refine go_ireturn rfl dR_endOf_222 ?_
      first | exact F (plI_x1 hc c172 c179) | exact F (plI_x2 hc c172 (Or.inl c185) c218) | exact F (plI_x2 hc c172 (Or.inr (Or.inl c191)) c218) | exact F (plI_x2 hc c172 (Or.inr (Or.inr c198)) c218)
    · refine go_iload dR_endOf_182 rfl ?_
      refine go_iconst (nI 2) (by decide) dR_endOf_184 ?_
      refine go_icmp_eqN (by omega) (by decide) dR_endOf_185 (tgt := 201) (by decide) (fun c185 => ?_) (fun c185 => ?_)
      · refine go_aload_n dR_endOf_201 rfl rfl ?_
        refine go_getO (a := 165) dR_endOf_202 flR_13 rfl (hS.s sh_163) (hS.r rt_one) ?_
        refine go_iload_n dR_endOf_205 rfl rfl ?_
        refine go_iload dR_endOf_206 rfl ?_
        first | refine go_iaddN dR_endOf_208 ?_ | refine go_iadd dR_endOf_208 ?_
        refine go_ialV (hS.s sh_165) (by omega) (by decide) m2 dR_endOf_209 ?_
        refine go_aload_n dR_endOf_210 rfl rfl ?_
        refine go_getO (a := 165) dR_endOf_211 flR_13 rfl (hS.s sh_163) (hS.r rt_one) ?_
        refine go_iload_n dR_endOf_214 rfl rfl ?_
        refine go_iload_n dR_endOf_215 rfl rfl ?_
        first | refine go_iaddN dR_endOf_216 ?_ | refine go_iadd dR_endOf_216 ?_
        refine go_ialV (hS.s sh_165) (by omega) (by decide) n2 dR_endOf_217 ?_
        refine go_icmp_ne dR_endOf_218 (tgt := 223) (by decide) (fun c218 => ?_) (fun c218 => ?_)
        · first | exact N23 c172 c179 (fun q => c218 q.2) | exact N23 c172 c179 (nL c185 c191 c198) | exact N23o c172
        · refine go_iconst (-1) (by decide) dR_endOf_221 ?_
          refine go_ireturn rfl dR_endOf_222 ?_
          first | exact F (plI_x1 hc c172 c179) | exact F (plI_x2 hc c172 (Or.inl c185) c218) | exact F (plI_x2 hc c172 (Or.inr (Or.inl c191)) c218) | exact F (plI_x2 hc c172 (Or.inr (Or.inr c198)) c218)
      · refine go_iload dR_endOf_188 rfl ?_
        refine go_iconst (nI 3) (by decide) dR_endOf_190 ?_
        refine go_icmp_eqN (by omega) (by decide) dR_endOf_191 (tgt := 201) (by decide) (fun c191 => ?_) (fun c191 => ?_)
        · refine go_aload_n dR_endOf_201 rfl rfl ?_
          refine go_getO (a := 165) dR_endOf_202 flR_13 rfl (hS.s sh_163) (hS.r rt_one) ?_
          refine go_iload_n dR_endOf_205 rfl rfl ?_
          refine go_iload dR_endOf_206 rfl ?_
          first | refine go_iaddN dR_endOf_208 ?_ | refine go_iadd dR_endOf_208 ?_
          refine go_ialV (hS.s sh_165) (by omega) (by decide) m2 dR_endOf_209 ?_
          refine go_aload_n dR_endOf_210 rfl rfl ?_
          refine go_getO (a := 165) dR_endOf_211 flR_13 rfl (hS.s sh_163) (hS.r rt_one) ?_
          refine go_iload_n dR_endOf_214 rfl rfl ?_
          refine go_iload_n dR_endOf_215 rfl rfl ?_
          first | refine go_iaddN dR_endOf_216 ?_ | refine go_iadd dR_endOf_216 ?_
          refine go_ialV (hS.s sh_165) (by omega) (by decide) n2 dR_endOf_217 ?_
          refine go_icmp_ne dR_endOf_218 (tgt := 223) (by decide) (fun c218 => ?_) (fun c218 => ?_)
          · first | exact N23 c172 c179 (fun q => c218 q.2) | exact N23 c172 c179 (nL c185 c191 c198) | exact N23o c172
          · refine go_iconst (-1) (by decide) dR_endOf_221 ?_
            refine go_ireturn rfl dR_endOf_222 ?_
            first | exact F (plI_x1 hc c172 c179) | exact F (plI_x2 hc c172 (Or.inl c185) c218) | exact F (plI_x2 hc c172 (Or.inr (Or.inl c191)) c218) | exact F (plI_x2 hc c172 (Or.inr (Or.inr c198)) c218)
        · refine go_iload dR_endOf_194 rfl ?_
          refine go_bipush (nI 27) (by decide) dR_endOf_196 ?_
          refine go_icmp_neN (by omega) (by decide) dR_endOf_198 (tgt := 223) (by decide) (fun c198 => ?_) (fun c198 => ?_)
          · first | exact N23 c172 c179 (fun q => c218 q.2) | exact N23 c172 c179 (nL c185 c191 c198) | exact N23o c172
          · refine go_aload_n dR_endOf_201 rfl rfl ?_
            refine go_getO (a := 165) dR_endOf_202 flR_13 rfl (hS.s sh_163) (hS.r rt_one) ?_
            refine go_iload_n dR_endOf_205 rfl rfl ?_
            refine go_iload dR_endOf_206 rfl ?_
            first | refine go_iaddN dR_endOf_208 ?_ | refine go_iadd dR_endOf_208 ?_
            refine go_ialV (hS.s sh_165) (by omega) (by decide) m2 dR_endOf_209 ?_
            refine go_aload_n dR_endOf_210 rfl rfl ?_
            refine go_getO (a := 165) dR_endOf_211 flR_13 rfl (hS.s sh_163) (hS.r rt_one) ?_
            refine go_iload_n dR_endOf_214 rfl rfl ?_
            refine go_iload_n dR_endOf_215 rfl rfl ?_
            first | refine go_iaddN dR_endOf_216 ?_ | refine go_iadd dR_endOf_216 ?_
            refine go_ialV (hS.s sh_165) (by omega) (by decide) n2 dR_endOf_217 ?_
            refine go_icmp_ne dR_endOf_218 (tgt := 223) (by decide) (fun c218 => ?_) (fun c218 => ?_)
            · first | exact N23 c172 c179 (fun q => c218 q.2) | exact N23 c172 c179 (nL c185 c191 c198) | exact N23o c172
            · refine go_iconst (-1) (by decide) dR_endOf_221 ?_
              refine go_ireturn rfl dR_endOf_222 ?_
              first | exact F (plI_x1 hc c172 c179) | exact F (plI_x2 hc c172 (Or.inl c185) c218) | exact F (plI_x2 hc c172 (Or.inr (Or.inl c191)) c218) | exact F (plI_x2 hc c172 (Or.inr (Or.inr c198)) c218)
set_option maxRecDepth 100000 in
theorem R_e2b (w : am_W) {d : Nat} {P : Option am_V → am_G → Prop} (G : am_G) (v m b : Nat) (M : mT) (hv : v < 2) (hm : m < 6) (hb : b < mN M) (hV : mV M) (e k : Nat) (c : Bool) (l9 : Option am_V) (hS : St0 G) (hM : rM G (6 * v + m) M) (he : e < mN M) (hk : k < mN M) (hc : c = decide (b < k ∧ k < e)) (K : plI M b e k → ∀ l6 l7 l8 l9, am_Go w jR_endOf d (0, 0) 273 [some (.inr (some 163)), some (.inl (nI (6 * v + m))), some (.inl (nI b)), some (.inl (nI (60 * (6 * v + m)))), some (.inl (nI e)), some (.inl (nI k)), l6, l7, l8, l9] [] G P) (F : ¬ plI M b e k → P (some (.inl (-1))) G) : am_Go w jR_endOf d (0, 0) 142 [some (.inr (some 163)), some (.inl (nI (6 * v + m))), some (.inl (nI b)), some (.inl (nI (60 * (6 * v + m)))), some (.inl (nI e)), some (.inl (nI k)), some (.inl (nI (mO M k))), some (.inl (mB M k)), some (.inl (am_b c)), l9] [] G P := by
  have h28 := (hV.2.2.2.1 k hk).1
  refine go_iload dR_endOf_142 rfl ?_
  refine go_bipush (nI 11) (by decide) dR_endOf_144 ?_
  refine go_icmp_eqN (by omega) (by decide) dR_endOf_146 (tgt := 163) (by decide) (fun c146 => ?_) (fun c146 => ?_)
  · refine go_iconst (am_b true) (by decide) dR_endOf_163 ?_
    refine go_goto dR_endOf_164 (tgt := 168) (by decide) ?_
    refine go_istore dR_endOf_168 (Nat.le_of_ble_eq_true rfl) ?_
    first | exact R_e2c w G v m b M hv hm hb hV e k c true hS hM he hk hc ⟨fun _ => Or.inl c146, fun _ => rfl⟩ K F | exact R_e2c w G v m b M hv hm hb hV e k c true hS hM he hk hc ⟨fun _ => Or.inr (Or.inl c153), fun _ => rfl⟩ K F | exact R_e2c w G v m b M hv hm hb hV e k c true hS hM he hk hc ⟨fun _ => Or.inr (Or.inr c160), fun _ => rfl⟩ K F | exact R_e2c w G v m b M hv hm hb hV e k c false hS hM he hk hc ⟨(fun q => by cases q), fun q => absurd q (fun z => by rcases z with z | z | z; exact c146 z; exact c153 z; exact c160 z)⟩ K F
  · refine go_iload dR_endOf_149 rfl ?_
    refine go_bipush (nI 12) (by decide) dR_endOf_151 ?_
    refine go_icmp_eqN (by omega) (by decide) dR_endOf_153 (tgt := 163) (by decide) (fun c153 => ?_) (fun c153 => ?_)
    · refine go_iconst (am_b true) (by decide) dR_endOf_163 ?_
      refine go_goto dR_endOf_164 (tgt := 168) (by decide) ?_
      refine go_istore dR_endOf_168 (Nat.le_of_ble_eq_true rfl) ?_
      first | exact R_e2c w G v m b M hv hm hb hV e k c true hS hM he hk hc ⟨fun _ => Or.inl c146, fun _ => rfl⟩ K F | exact R_e2c w G v m b M hv hm hb hV e k c true hS hM he hk hc ⟨fun _ => Or.inr (Or.inl c153), fun _ => rfl⟩ K F | exact R_e2c w G v m b M hv hm hb hV e k c true hS hM he hk hc ⟨fun _ => Or.inr (Or.inr c160), fun _ => rfl⟩ K F | exact R_e2c w G v m b M hv hm hb hV e k c false hS hM he hk hc ⟨(fun q => by cases q), fun q => absurd q (fun z => by rcases z with z | z | z; exact c146 z; exact c153 z; exact c160 z)⟩ K F
    · refine go_iload dR_endOf_156 rfl ?_
      refine go_bipush (nI 17) (by decide) dR_endOf_158 ?_
      refine go_icmp_neN (by omega) (by decide) dR_endOf_160 (tgt := 167) (by decide) (fun c160 => ?_) (fun c160 => ?_)
      · refine go_iconst (am_b false) (by decide) dR_endOf_167 ?_
        refine go_istore dR_endOf_168 (Nat.le_of_ble_eq_true rfl) ?_
        first | exact R_e2c w G v m b M hv hm hb hV e k c true hS hM he hk hc ⟨fun _ => Or.inl c146, fun _ => rfl⟩ K F | exact R_e2c w G v m b M hv hm hb hV e k c true hS hM he hk hc ⟨fun _ => Or.inr (Or.inl c153), fun _ => rfl⟩ K F | exact R_e2c w G v m b M hv hm hb hV e k c true hS hM he hk hc ⟨fun _ => Or.inr (Or.inr c160), fun _ => rfl⟩ K F | exact R_e2c w G v m b M hv hm hb hV e k c false hS hM he hk hc ⟨(fun q => by cases q), fun q => absurd q (fun z => by rcases z with z | z | z; exact c146 z; exact c153 z; exact c160 z)⟩ K F
      · refine go_iconst (am_b true) (by decide) dR_endOf_163 ?_
        refine go_goto dR_endOf_164 (tgt := 168) (by decide) ?_
        refine go_istore dR_endOf_168 (Nat.le_of_ble_eq_true rfl) ?_
        first | exact R_e2c w G v m b M hv hm hb hV e k c true hS hM he hk hc ⟨fun _ => Or.inl c146, fun _ => rfl⟩ K F | exact R_e2c w G v m b M hv hm hb hV e k c true hS hM he hk hc ⟨fun _ => Or.inr (Or.inl c153), fun _ => rfl⟩ K F | exact R_e2c w G v m b M hv hm hb hV e k c true hS hM he hk hc ⟨fun _ => Or.inr (Or.inr c160), fun _ => rfl⟩ K F | exact R_e2c w G v m b M hv hm hb hV e k c false hS hM he hk hc ⟨(fun q => by cases q), fun q => absurd q (fun z => by rcases z with z | z | z; exact c146 z; exact c153 z; exact c160 z)⟩ K F
set_option maxRecDepth 100000 in
theorem R_e2 (w : am_W) {d : Nat} {P : Option am_V → am_G → Prop} (G : am_G) (v m b : Nat) (M : mT) (hv : v < 2) (hm : m < 6) (hb : b < mN M) (hV : mV M) (e : Nat) (hS : St0 G) (hM : rM G (6 * v + m) M) (he : e < mN M) (K : (∀ i, i < mN M → plI M b e i) → ∀ l5 l6 l7 l8 l9, am_Go w jR_endOf d (0, 0) 279 [some (.inr (some 163)), some (.inl (nI (6 * v + m))), some (.inl (nI b)), some (.inl (nI (60 * (6 * v + m)))), some (.inl (nI e)), l5, l6, l7, l8, l9] [] G P) (F : ¬ plE M b e → P (some (.inl (-1))) G) :
    ∀ (r k : Nat) (l6 l7 l8 l9 : Option am_V), k + r = mN M → (∀ i, i < k → plI M b e i) → am_Go w jR_endOf d (0, 0) 89 [some (.inr (some 163)), some (.inl (nI (6 * v + m))), some (.inl (nI b)), some (.inl (nI (60 * (6 * v + m)))), some (.inl (nI e)), some (.inl (nI k)), l6, l7, l8, l9] [] G P := by
  have hn6 := hV.1
  have mn := hM.1.1
  intro r
  induction r with
  | zero =>
    intro k l6 l7 l8 l9 hk h1
    refine go_iload dR_endOf_89 rfl ?_
    refine go_aload_n dR_endOf_91 rfl rfl ?_
    refine go_getO (a := 167) dR_endOf_92 flR_19 rfl (hS.s sh_163) (hS.r rt_many) ?_
    refine go_iload_n dR_endOf_95 rfl rfl ?_
    first | refine go_ialV (hS.s sh_167) (by omega) (by decide) (by assumption) dR_endOf_96 ?_ | refine go_ialoadN (hS.s sh_167) (by omega) (by decide) dR_endOf_96 ?_
    refine go_icmp_geN (by omega) (by omega) dR_endOf_97 (tgt := 279) (by decide) (fun c1 => ?_) (fun c1 => absurd c1 (by omega))
    exact K (fun i hi => h1 i (by omega)) _ _ _ _ _
  | succ r ih =>
    intro k l6 l7 l8 l9 hk h1
    have hkn : k < mN M := by omega
    obtain ⟨m1, m2, m3⟩ := hM.2.1 k hkn
    have KK : plI M b e k → ∀ l6 l7 l8 l9, am_Go w jR_endOf d (0, 0) 273 [some (.inr (some 163)), some (.inl (nI (6 * v + m))), some (.inl (nI b)), some (.inl (nI (60 * (6 * v + m)))), some (.inl (nI e)), some (.inl (nI k)), l6, l7, l8, l9] [] G P := fun hp l6 l7 l8 l9 => by
      refine go_inc dR_endOf_273 rfl ?_
      refine go_goto dR_endOf_276 (tgt := 89) (by decide) ?_
      refine ih (k + 1) _ _ _ _ (by omega) (fun i hi => ?_)
      by_cases ei : i = k
      · rw [ei]; exact hp
      · exact h1 i (by omega)
    have FF : ¬ plI M b e k → P (some (.inl (-1))) G := fun hp => F (plE_i hkn hp)
    refine go_iload dR_endOf_89 rfl ?_
    refine go_aload_n dR_endOf_91 rfl rfl ?_
    refine go_getO (a := 167) dR_endOf_92 flR_19 rfl (hS.s sh_163) (hS.r rt_many) ?_
    refine go_iload_n dR_endOf_95 rfl rfl ?_
    first | refine go_ialV (hS.s sh_167) (by omega) (by decide) (by assumption) dR_endOf_96 ?_ | refine go_ialoadN (hS.s sh_167) (by omega) (by decide) dR_endOf_96 ?_
    refine go_icmp_geN (by omega) (by omega) dR_endOf_97 (tgt := 279) (by decide) (fun c1 => absurd c1 (by omega)) (fun c1 => ?_)
    refine go_aload_n dR_endOf_100 rfl rfl ?_
    refine go_getO (a := 164) dR_endOf_101 flR_7 rfl (hS.s sh_163) (hS.r rt_op) ?_
    refine go_iload_n dR_endOf_104 rfl rfl ?_
    refine go_iload dR_endOf_105 rfl ?_
    first | refine go_iaddN dR_endOf_107 ?_ | refine go_iadd dR_endOf_107 ?_
    refine go_ialV (hS.s sh_164) (by omega) (by decide) m1 dR_endOf_108 ?_
    refine go_istore dR_endOf_109 (Nat.le_of_ble_eq_true rfl) ?_
    refine go_aload_n dR_endOf_111 rfl rfl ?_
    refine go_getO (a := 166) dR_endOf_112 flR_16 rfl (hS.s sh_163) (hS.r rt_two) ?_
    refine go_iload_n dR_endOf_115 rfl rfl ?_
    refine go_iload dR_endOf_116 rfl ?_
    first | refine go_iaddN dR_endOf_118 ?_ | refine go_iadd dR_endOf_118 ?_
    refine go_ialV (hS.s sh_166) (by omega) (by decide) m3 dR_endOf_119 ?_
    refine go_istore dR_endOf_120 (Nat.le_of_ble_eq_true rfl) ?_
    refine go_iload dR_endOf_122 rfl ?_
    refine go_iload_n dR_endOf_124 rfl rfl ?_
    refine go_icmp_leN (by omega) (by omega) dR_endOf_125 (tgt := 139) (by decide) (fun c125 => ?_) (fun c125 => ?_)
    · refine go_iconst (am_b false) (by decide) dR_endOf_139 ?_
      refine go_istore dR_endOf_140 (Nat.le_of_ble_eq_true rfl) ?_
      first | exact R_e2b w G v m b M hv hm hb hV e k true _ hS hM he hkn (inXt c125 c132) KK FF | exact R_e2b w G v m b M hv hm hb hV e k false _ hS hM he hkn (inXa c125) KK FF | exact R_e2b w G v m b M hv hm hb hV e k false _ hS hM he hkn (inXb c132) KK FF
    · refine go_iload dR_endOf_128 rfl ?_
      refine go_iload dR_endOf_130 rfl ?_
      refine go_icmp_geN (by omega) (by omega) dR_endOf_132 (tgt := 139) (by decide) (fun c132 => ?_) (fun c132 => ?_)
      · refine go_iconst (am_b false) (by decide) dR_endOf_139 ?_
        refine go_istore dR_endOf_140 (Nat.le_of_ble_eq_true rfl) ?_
        first | exact R_e2b w G v m b M hv hm hb hV e k true _ hS hM he hkn (inXt c125 c132) KK FF | exact R_e2b w G v m b M hv hm hb hV e k false _ hS hM he hkn (inXa c125) KK FF | exact R_e2b w G v m b M hv hm hb hV e k false _ hS hM he hkn (inXb c132) KK FF
      · refine go_iconst (am_b true) (by decide) dR_endOf_135 ?_
        refine go_goto dR_endOf_136 (tgt := 140) (by decide) ?_
        refine go_istore dR_endOf_140 (Nat.le_of_ble_eq_true rfl) ?_
        first | exact R_e2b w G v m b M hv hm hb hV e k true _ hS hM he hkn (inXt c125 c132) KK FF | exact R_e2b w G v m b M hv hm hb hV e k false _ hS hM he hkn (inXa c125) KK FF | exact R_e2b w G v m b M hv hm hb hV e k false _ hS hM he hkn (inXb c132) KK FF
set_option maxRecDepth 100000 in
theorem R_e3 (w : am_W) {d : Nat} {P : Option am_V → am_G → Prop} (G : am_G) (v m b : Nat) (M : mT) (hv : v < 2) (hm : m < 6) (hb : b < mN M) (hV : mV M) (e : Nat) (hS : St0 G) (hM : rM G (6 * v + m) M) (he : e < mN M) (K : (∀ i, i < mR M → plW M b e i) → P (some (.inl (nI e))) G) (F : ¬ plE M b e → P (some (.inl (-1))) G) :
    ∀ (r k : Nat) (l6 l7 l8 l9 : Option am_V), k + r = mR M → (∀ i, i < k → plW M b e i) → am_Go w jR_endOf d (0, 0) 282 [some (.inr (some 163)), some (.inl (nI (6 * v + m))), some (.inl (nI b)), some (.inl (nI (60 * (6 * v + m)))), some (.inl (nI e)), some (.inl (nI k)), l6, l7, l8, l9] [] G P := by
  have hn6 := hV.1
  have hr8 := hV.2.1
  have mr := hM.1.2.1
  intro r
  induction r with
  | zero =>
    intro k l6 l7 l8 l9 hk h1
    refine go_iload dR_endOf_282 rfl ?_
    refine go_aload_n dR_endOf_284 rfl rfl ?_
    refine go_getO (a := 169) dR_endOf_285 flR_25 rfl (hS.s sh_163) (hS.r rt_rows) ?_
    refine go_iload_n dR_endOf_288 rfl rfl ?_
    first | refine go_ialV (hS.s sh_169) (by omega) (by decide) (by assumption) dR_endOf_289 ?_ | refine go_ialoadN (hS.s sh_169) (by omega) (by decide) dR_endOf_289 ?_
    refine go_icmp_geN (by omega) (by omega) dR_endOf_290 (tgt := 334) (by decide) (fun c1 => ?_) (fun c1 => absurd c1 (by omega))
    refine go_iload dR_endOf_334 rfl ?_
    refine go_ireturn rfl dR_endOf_336 ?_
    exact K (fun i hi => h1 i (by omega))
  | succ r ih =>
    intro k l6 l7 l8 l9 hk h1
    have hkr : k < mR M := by omega
    obtain ⟨-, -, e3, -⟩ := hM.2.2 k hkr
    have b3 := (hV.2.2.2.2 k hkr).2.2.1
    have i1 := fun (hp : plW M b e k) => ih (k + 1) l6 l7 l8 l9 (by omega) (fun i hi => by
      by_cases ei : i = k
      · rw [ei]; exact hp
      · exact h1 i (by omega))
    refine go_iload dR_endOf_282 rfl ?_
    refine go_aload_n dR_endOf_284 rfl rfl ?_
    refine go_getO (a := 169) dR_endOf_285 flR_25 rfl (hS.s sh_163) (hS.r rt_rows) ?_
    refine go_iload_n dR_endOf_288 rfl rfl ?_
    first | refine go_ialV (hS.s sh_169) (by omega) (by decide) (by assumption) dR_endOf_289 ?_ | refine go_ialoadN (hS.s sh_169) (by omega) (by decide) dR_endOf_289 ?_
    refine go_icmp_geN (by omega) (by omega) dR_endOf_290 (tgt := 334) (by decide) (fun c1 => absurd c1 (by omega)) (fun c1 => ?_)
    refine go_aload_n dR_endOf_293 rfl rfl ?_
    refine go_getO (a := 172) dR_endOf_294 flR_34 rfl (hS.s sh_163) (hS.r rt_at) ?_
    refine go_bipush (nI 8) (by decide) dR_endOf_297 ?_
    refine go_iload_n dR_endOf_299 rfl rfl ?_
    first | refine go_imulN dR_endOf_300 ?_ | refine go_imul dR_endOf_300 ?_
    refine go_iload dR_endOf_301 rfl ?_
    first | refine go_iaddN dR_endOf_303 ?_ | refine go_iadd dR_endOf_303 ?_
    refine go_ialV (hS.s sh_172) (by omega) (by decide) e3 dR_endOf_304 ?_
    refine go_iload_n dR_endOf_305 rfl rfl ?_
    refine go_icmp_ltN (by omega) (by omega) dR_endOf_306 (tgt := 328) (by decide) (fun c306 => ?_) (fun c306 => ?_)
    · refine go_inc dR_endOf_328 rfl ?_
      refine go_goto dR_endOf_331 (tgt := 282) (by decide) ?_
      first | exact i1 (n2a c306) | exact i1 (n2b c323)
    · refine go_aload_n dR_endOf_309 rfl rfl ?_
      refine go_getO (a := 172) dR_endOf_310 flR_34 rfl (hS.s sh_163) (hS.r rt_at) ?_
      refine go_bipush (nI 8) (by decide) dR_endOf_313 ?_
      refine go_iload_n dR_endOf_315 rfl rfl ?_
      first | refine go_imulN dR_endOf_316 ?_ | refine go_imul dR_endOf_316 ?_
      refine go_iload dR_endOf_317 rfl ?_
      first | refine go_iaddN dR_endOf_319 ?_ | refine go_iadd dR_endOf_319 ?_
      refine go_ialV (hS.s sh_172) (by omega) (by decide) e3 dR_endOf_320 ?_
      refine go_iload dR_endOf_321 rfl ?_
      refine go_icmp_gtN (by omega) (by omega) dR_endOf_323 (tgt := 328) (by decide) (fun c323 => ?_) (fun c323 => ?_)
      · refine go_inc dR_endOf_328 rfl ?_
        refine go_goto dR_endOf_331 (tgt := 282) (by decide) ?_
        first | exact i1 (n2a c306) | exact i1 (n2b c323)
      · refine go_iconst (-1) (by decide) dR_endOf_326 ?_
        refine go_ireturn rfl dR_endOf_327 ?_
        exact F (plE_w hkr (fun q => q ⟨c306, c323⟩))
set_option maxRecDepth 100000 in
theorem R_e1 (w : am_W) {d : Nat} {P : Option am_V → am_G → Prop} (G : am_G) (v m b : Nat) (M : mT) (hv : v < 2) (hm : m < 6) (hb : b < mN M) (hV : mV M) (hS : St0 G) (hM : rM G (6 * v + m) M) (z : Nat) (K : z ≤ mN M → am_Go w jR_endOf d (0, 0) 53 [some (.inr (some 163)), some (.inl (nI (6 * v + m))), some (.inl (nI b)), some (.inl (nI (60 * (6 * v + m)))), some (.inl (nI z)), none, none, none, none, none] [] G P) :
    ∀ (r k : Nat), k + r = mN M → fBk M r k = z → am_Go w jR_endOf d (0, 0) 22 [some (.inr (some 163)), some (.inl (nI (6 * v + m))), some (.inl (nI b)), some (.inl (nI (60 * (6 * v + m)))), some (.inl (nI k)), none, none, none, none, none] [] G P := by
  have hn6 := hV.1
  have mn := hM.1.1
  intro r
  induction r with
  | zero =>
    intro k hk hz
    refine go_iload dR_endOf_22 rfl ?_
    refine go_aload_n dR_endOf_24 rfl rfl ?_
    refine go_getO (a := 167) dR_endOf_25 flR_19 rfl (hS.s sh_163) (hS.r rt_many) ?_
    refine go_iload_n dR_endOf_28 rfl rfl ?_
    first | refine go_ialV (hS.s sh_167) (by omega) (by decide) (by assumption) dR_endOf_29 ?_ | refine go_ialoadN (hS.s sh_167) (by omega) (by decide) dR_endOf_29 ?_
    refine go_icmp_geN (by omega) (by omega) dR_endOf_30 (tgt := 53) (by decide) (fun c1 => ?_) (fun c1 => absurd c1 (by omega))
    have e0 : k = z := hz
    rw [e0]
    exact K (by omega)
  | succ r ih =>
    intro k hk hz
    have hkn : k < mN M := by omega
    obtain ⟨m1, m2, m3⟩ := hM.2.1 k hkn
    have h28 := (hV.2.2.2.1 k hkn).1
    refine go_iload dR_endOf_22 rfl ?_
    refine go_aload_n dR_endOf_24 rfl rfl ?_
    refine go_getO (a := 167) dR_endOf_25 flR_19 rfl (hS.s sh_163) (hS.r rt_many) ?_
    refine go_iload_n dR_endOf_28 rfl rfl ?_
    first | refine go_ialV (hS.s sh_167) (by omega) (by decide) (by assumption) dR_endOf_29 ?_ | refine go_ialoadN (hS.s sh_167) (by omega) (by decide) dR_endOf_29 ?_
    refine go_icmp_geN (by omega) (by omega) dR_endOf_30 (tgt := 53) (by decide) (fun c1 => absurd c1 (by omega)) (fun c1 => ?_)
    refine go_aload_n dR_endOf_33 rfl rfl ?_
    refine go_getO (a := 164) dR_endOf_34 flR_7 rfl (hS.s sh_163) (hS.r rt_op) ?_
    refine go_iload_n dR_endOf_37 rfl rfl ?_
    refine go_iload dR_endOf_38 rfl ?_
    first | refine go_iaddN dR_endOf_40 ?_ | refine go_iadd dR_endOf_40 ?_
    refine go_ialV (hS.s sh_164) (by omega) (by decide) m1 dR_endOf_41 ?_
    refine go_bipush (nI 24) (by decide) dR_endOf_42 ?_
    refine go_icmp_eqN (by omega) (by decide) dR_endOf_44 (tgt := 53) (by decide) (fun c44 => ?_) (fun c44 => ?_)
    · have e0 : k = z := (fBk_y c44).symm.trans hz
      rw [e0]
      exact K (by omega)
    · refine go_inc dR_endOf_47 rfl ?_
      refine go_goto dR_endOf_50 (tgt := 22) (by decide) ?_
      exact ih (k + 1) (by omega) ((fBk_n c44).symm.trans hz)
set_option maxRecDepth 100000 in
theorem okR_endOf (w : am_W) {d : Nat} (G : am_G) (v m b : Nat) (M : mT) (hv : v < 2) (hm : m < 6) (hb : b < mN M) (hV : mV M) (hS : St0 G) (hM : rM G (6 * v + m) M) : am_Ok w jR_endOf d (0, 0) [.inr (some 163), .inl (nI (6 * v + m)), .inl (nI b)] G (fun r G' => r = some (.inl (eRes (pE M b))) ∧ G' = G) := by
  refine am_ok_of rfl (Nat.le_of_ble_eq_true rfl) ?_
  show am_Go w jR_endOf d (0, 0) 0 [some (.inr (some 163)), some (.inl (nI (6 * v + m))), some (.inl (nI b)), none, none, none, none, none, none, none] [] G _
  have hn6 := hV.1
  have mn := hM.1.1
  obtain ⟨m1, n2, m3⟩ := hM.2.1 b hb
  have h28 := (hV.2.2.2.1 b hb).1
  refine go_bipush (nI 60) (by decide) dR_endOf_0 ?_
  refine go_iload_n dR_endOf_2 rfl rfl ?_
  first | refine go_imulN dR_endOf_3 ?_ | refine go_imul dR_endOf_3 ?_
  refine go_istore_n dR_endOf_4 rfl (Nat.le_of_ble_eq_true rfl) ?_
  refine go_iload_n dR_endOf_5 rfl rfl ?_
  refine go_istore dR_endOf_6 (Nat.le_of_ble_eq_true rfl) ?_
  refine go_aload_n dR_endOf_8 rfl rfl ?_
  refine go_getO (a := 164) dR_endOf_9 flR_7 rfl (hS.s sh_163) (hS.r rt_op) ?_
  refine go_iload_n dR_endOf_12 rfl rfl ?_
  refine go_iload_n dR_endOf_13 rfl rfl ?_
  first | refine go_iaddN dR_endOf_14 ?_ | refine go_iadd dR_endOf_14 ?_
  refine go_ialV (hS.s sh_164) (by omega) (by decide) m1 dR_endOf_15 ?_
  refine go_iconst (nI 3) (by decide) dR_endOf_16 ?_
  refine go_icmp_eqN (by omega) (by decide) dR_endOf_17 (tgt := 22) (by decide) (fun c17 => ?_) (fun c17 => ?_)
  · refine R_e1 w G v m b M hv hm hb hV hS hM (fBk M (mN M - (b + 1)) (b + 1)) (fun hz => ?_) (mN M - b) b (by omega) (by rw [show mN M - b = mN M - (b + 1) + 1 by omega, fBk_n (by omega)])
    have hz2 := (fBk_le (M := M) (r := mN M - (b + 1)) (k := b + 1)).1
    have hF : ¬ plE M b (fBk M (mN M - (b + 1)) (b + 1)) → (some (.inl (-1)) : Option am_V) = some (.inl (eRes (pE M b))) ∧ G = G := fun q => ⟨by rw [pE_x q]; rfl, rfl⟩
    have hY : plE M b (fBk M (mN M - (b + 1)) (b + 1)) → (some (.inl (nI (fBk M (mN M - (b + 1)) (b + 1)))) : Option am_V) = some (.inl (eRes (pE M b))) ∧ G = G := fun q => ⟨by rw [pE_y hb c17 q]; rfl, rfl⟩
    generalize fBk M (mN M - (b + 1)) (b + 1) = z at *
    refine go_iload dR_endOf_53 rfl ?_
    refine go_aload_n dR_endOf_55 rfl rfl ?_
    refine go_getO (a := 167) dR_endOf_56 flR_19 rfl (hS.s sh_163) (hS.r rt_many) ?_
    refine go_iload_n dR_endOf_59 rfl rfl ?_
    first | refine go_ialV (hS.s sh_167) (by omega) (by decide) (by assumption) dR_endOf_60 ?_ | refine go_ialoadN (hS.s sh_167) (by omega) (by decide) dR_endOf_60 ?_
    refine go_icmp_eqN (by omega) (by omega) dR_endOf_61 (tgt := 84) (by decide) (fun c61 => ?_) (fun c61 => ?_)
    · refine go_iconst (-1) (by decide) dR_endOf_84 ?_
      refine go_ireturn rfl dR_endOf_85 ?_
      first | exact hF (fun q => c81 q.1.2) | exact hF (fun q => absurd q.1.1 (by omega))
    · obtain ⟨-, z2, -⟩ := hM.2.1 z (by omega)
      refine go_aload_n dR_endOf_64 rfl rfl ?_
      refine go_getO (a := 165) dR_endOf_65 flR_13 rfl (hS.s sh_163) (hS.r rt_one) ?_
      refine go_iload_n dR_endOf_68 rfl rfl ?_
      refine go_iload dR_endOf_69 rfl ?_
      first | refine go_iaddN dR_endOf_71 ?_ | refine go_iadd dR_endOf_71 ?_
      refine go_ialV (hS.s sh_165) (by omega) (by decide) z2 dR_endOf_72 ?_
      refine go_aload_n dR_endOf_73 rfl rfl ?_
      refine go_getO (a := 165) dR_endOf_74 flR_13 rfl (hS.s sh_163) (hS.r rt_one) ?_
      refine go_iload_n dR_endOf_77 rfl rfl ?_
      refine go_iload_n dR_endOf_78 rfl rfl ?_
      first | refine go_iaddN dR_endOf_79 ?_ | refine go_iadd dR_endOf_79 ?_
      refine go_ialV (hS.s sh_165) (by omega) (by decide) n2 dR_endOf_80 ?_
      refine go_icmp_eq dR_endOf_81 (tgt := 86) (by decide) (fun c81 => ?_) (fun c81 => ?_)
      · refine go_iconst (nI 0) (by decide) dR_endOf_86 ?_
        refine go_istore dR_endOf_87 (Nat.le_of_ble_eq_true rfl) ?_
        refine R_e2 w G v m b M hv hm hb hV z hS hM (by omega) (fun hA l5 l6 l7 l8 l9 => ?_) hF (mN M) 0 _ _ _ _ (by omega) (fun i hi => absurd hi (Nat.not_lt_zero i))
        refine go_iconst (nI 0) (by decide) dR_endOf_279 ?_
        refine go_istore dR_endOf_280 (Nat.le_of_ble_eq_true rfl) ?_
        exact R_e3 w G v m b M hv hm hb hV z hS hM (by omega) (fun hW => hY ⟨⟨by omega, c81⟩, hA, hW⟩) hF (mR M) 0 _ _ _ _ (by omega) (fun i hi => absurd hi (Nat.not_lt_zero i))
      · refine go_iconst (-1) (by decide) dR_endOf_84 ?_
        refine go_ireturn rfl dR_endOf_85 ?_
        first | exact hF (fun q => c81 q.1.2) | exact hF (fun q => absurd q.1.1 (by omega))
  · refine go_iconst (-1) (by decide) dR_endOf_20 ?_
    refine go_ireturn rfl dR_endOf_21 ?_
    exact ⟨by rw [pE_n (fun q => c17 q.2)]; rfl, rfl⟩
