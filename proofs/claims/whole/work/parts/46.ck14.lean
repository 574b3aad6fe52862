theorem oJ.wi {G : am_G} {a k : Nat} {x : Int32} (h : 175 ≤ a ∧ a ≤ 180) : oJ G (am_wi G a k x) := ⟨oR.wi (Or.inr h), fun _ _ _ _ => by rw [wi_I (by omega)]⟩
theorem oJ.f {G : am_G} {k : Nat} {x : Int32} (h : k = 18 ∨ k = 20 ∨ k = 21) : oJ G (am_wi G 163 k x) := ⟨oR.wi (Or.inl rfl), fun i _ _ _ => wi_In (by omega)⟩
theorem fIn_K {M : mT} : fK (fIn M) := ⟨fun i hi => absurd hi (Nat.not_lt_zero i), fun i _ k hk => by
  have hk : (if i < mG M then some 0 else none) = some k := hk
  split at hk
  · cases hk; exact Or.inl rfl
  · cases hk⟩
theorem fSol_0 {g : Nat → Nat} {M : mT} (h : mN M = 0) (T : fM) : ¬ fSol g M T := fun hT => by
  have := hT.1.1
  omega
/-- changed is set anew -/
theorem rkT.ch {G : am_G} {t : rT} {c : Bool} (h : rkT G t) : rkT (am_wi G 163 21 (am_b c)) (t.1, c, t.2.2) := by
  refine ⟨by rw [wi_In (by decide)]; exact h.1, fun h0 => ⟨wi_Is, fun p hp => ((h.2 h0).2 p hp).same ?_ ?_ (fun i _ => ?_) (fun i _ => ?_)⟩⟩
  · rw [wi_I (by decide)]
  · rw [wi_I (by decide)]
  · rw [wi_I (by decide)]
  · rw [wi_I (by decide)]
theorem rGo_n {g : Nat → Nat} {M : mT} {p : Nat} {x : fS} {t : rT} (h : fEff g (mO M p) (aN M p) (bN M p) x = none) : rGo g M p x t = (t.1, t.2.1, true) := by unfold rGo; rw [h]
theorem rGo_s {g : Nat → Nat} {M : mT} {p : Nat} {x y : fS} {t : rT} (h : fEff g (mO M p) (aN M p) (bN M p) x = some y) : rGo g M p x t = rRow M p (rNx M p y t) (mR M) := by unfold rGo; rw [h]
theorem nbF {b : Bool} (h : (!b) = false) : b = true := by cases b with | true => rfl | false => cases h
theorem nbT {b : Bool} (h : (!b) = true) : b = false := by cases b with | false => rfl | true => cases h
def rInvJ (g : Nat → Nat) (M : mT) (t : rT) : Prop := ∃ j, rInv g M j t ∧ (t.2.2 = false → j = mN M)
theorem rInvJ.at {g : Nat → Nat} {M : mT} {t : rT} (h : rInvJ g M t) : rInv g M (mN M) t ∨ t.2.2 = true := by
  obtain ⟨j, h1, h2⟩ := h
  cases e : t.2.2 with
  | true => exact Or.inr rfl
  | false => rw [h2 e] at h1; exact Or.inl h1

set_option maxRecDepth 100000 in
theorem R_iA (w : am_W) {d : Nat} {P : Option am_V → am_G → Prop} (G0 : am_G) (v e : Nat) (K : ∀ (G : am_G) lk, St0 G → oJ G0 G → G.2.1 163 20 = G0.2.1 163 20 → (∀ i, i < 60 → G.2.1 175 i = am_b false) → am_Go w jR_isRight d (0, 0) 39 [some (.inr (some 163)), some (.inl (nI (6 * v + e))), lk] [] G P) :
    ∀ (r k : Nat) (G : am_G), k + r = 60 → St0 G → oJ G0 G → G.2.1 163 20 = G0.2.1 163 20 → (∀ i, i < k → G.2.1 175 i = am_b false) → am_Go w jR_isRight d (0, 0) 20 [some (.inr (some 163)), some (.inl (nI (6 * v + e))), some (.inl (nI k))] [] G P := by
  intro r
  induction r with
  | zero =>
    intro k G hk hS ho h20 h5
    refine go_iload_n dR_isRight_20 rfl rfl ?_
    refine go_bipush (nI 60) (by decide) dR_isRight_21 ?_
    refine go_icmp_geN (by omega) (by omega) dR_isRight_23 (tgt := 39) (by decide) (fun c1 => ?_) (fun c1 => absurd c1 (by omega))
    exact K G _ hS ho h20 (fun i hi => h5 i (by omega))
  | succ r ih =>
    intro k G hk hS ho h20 h5
    refine go_iload_n dR_isRight_20 rfl rfl ?_
    refine go_bipush (nI 60) (by decide) dR_isRight_21 ?_
    refine go_icmp_geN (by omega) (by omega) dR_isRight_23 (tgt := 39) (by decide) (fun c1 => absurd c1 (by omega)) (fun c1 => ?_)
    refine go_aload_n dR_isRight_26 rfl rfl ?_
    refine go_getO (a := 175) dR_isRight_27 flR_44 rfl (hS.s sh_163) (hS.r rt_come) ?_
    refine go_iload_n dR_isRight_30 rfl rfl ?_
    refine go_iconst (am_b false) (by decide) dR_isRight_31 ?_
    refine go_bastoreN (am_b_and1 false) (hS.s sh_175) (by omega) (by decide) dR_isRight_32 ?_
    first | refine go_inc dR_isRight_33 rfl ?_ | refine go_iinc dR_isRight_33 rfl ?_
    refine go_goto dR_isRight_36 (tgt := 20) (by decide) ?_
    refine ih (k + 1) _ (by omega) hS (ho.tr (oJ.wi ⟨by omega, by omega⟩)) (by rw [wi_I (by decide)]; exact h20) (fun i hi => ?_)
    rw [wi_at]
    by_cases e : i = k
    · rw [if_pos e]
    · rw [if_neg e]; exact h5 i (by omega)
set_option maxRecDepth 100000 in
theorem R_iB (w : am_W) {d : Nat} {P : Option am_V → am_G → Prop} (G0 : am_G) (v e : Nat) (M : mT) (hv : v < 2) (he : e < 6) (hg : mG M ≤ 3) (K : ∀ (G : am_G) lk, St0 G → oR (fun i => i = 180) G0 G → (∀ i, i < 8 → G.2.1 180 i = kR (if i < mG M then some 0 else none)) → am_Go w jR_isRight d (0, 0) 88 [some (.inr (some 163)), some (.inl (nI (6 * v + e))), lk] [] G P) (hT : G0.2.1 168 (6 * v + e) = nI (mG M)) :
    ∀ (r k : Nat) (G : am_G), k + r = 8 → St0 G → oR (fun i => i = 180) G0 G → (∀ i, i < k → G.2.1 180 i = kR (if i < mG M then some 0 else none)) → am_Go w jR_isRight d (0, 0) 55 [some (.inr (some 163)), some (.inl (nI (6 * v + e))), some (.inl (nI k))] [] G P := by
  intro r
  induction r with
  | zero =>
    intro k G hk hS ho h5
    refine go_iload_n dR_isRight_55 rfl rfl ?_
    refine go_bipush (nI 8) (by decide) dR_isRight_56 ?_
    refine go_icmp_geN (by omega) (by omega) dR_isRight_58 (tgt := 88) (by decide) (fun c1 => ?_) (fun c1 => absurd c1 (by omega))
    exact K G _ hS ho (fun i hi => h5 i (by omega))
  | succ r ih =>
    intro k G hk hS ho h5
    have hT2 : G.2.1 168 (6 * v + e) = nI (mG M) := by rw [ho.2.2 168 (by decide)]; exact hT
    refine go_iload_n dR_isRight_55 rfl rfl ?_
    refine go_bipush (nI 8) (by decide) dR_isRight_56 ?_
    refine go_icmp_geN (by omega) (by omega) dR_isRight_58 (tgt := 88) (by decide) (fun c1 => absurd c1 (by omega)) (fun c1 => ?_)
    refine go_aload_n dR_isRight_61 rfl rfl ?_
    refine go_getO (a := 180) dR_isRight_62 flR_59 rfl (hS.s sh_163) (hS.r rt_local) ?_
    refine go_iload_n dR_isRight_65 rfl rfl ?_
    refine go_iload_n dR_isRight_66 rfl rfl ?_
    refine go_aload_n dR_isRight_67 rfl rfl ?_
    refine go_getO (a := 168) dR_isRight_68 flR_22 rfl (hS.s sh_163) (hS.r rt_takes) ?_
    refine go_iload_n dR_isRight_71 rfl rfl ?_
    refine go_ialV (hS.s sh_168) (by omega) (by decide) hT2 dR_isRight_72 ?_
    refine go_icmp_geN (by omega) (by omega) dR_isRight_73 (tgt := 80) (by decide) (fun c73 => ?_) (fun c73 => ?_)
    · refine go_iconst (-1) (by decide) dR_isRight_80 ?_
      refine go_iastoreN (hS.s sh_180) (by omega) (by decide) dR_isRight_81 ?_
      first | refine go_inc dR_isRight_82 rfl ?_ | refine go_iinc dR_isRight_82 rfl ?_
      refine go_goto dR_isRight_85 (tgt := 55) (by decide) ?_
      refine ih (k + 1) _ (by omega) hS (ho.tr (oR.wi rfl)) (fun i hi => ?_)
      rw [wi_at]
      by_cases e : i = k
      · rw [if_pos e, e]; first | (rw [if_pos c73]; rfl) | (rw [if_neg (by omega)]; rfl)
      · rw [if_neg e]; exact h5 i (by omega)
    · refine go_iconst (nI 0) (by decide) dR_isRight_76 ?_
      refine go_goto dR_isRight_77 (tgt := 81) (by decide) ?_
      refine go_iastoreN (hS.s sh_180) (by omega) (by decide) dR_isRight_81 ?_
      first | refine go_inc dR_isRight_82 rfl ?_ | refine go_iinc dR_isRight_82 rfl ?_
      refine go_goto dR_isRight_85 (tgt := 55) (by decide) ?_
      refine ih (k + 1) _ (by omega) hS (ho.tr (oR.wi rfl)) (fun i hi => ?_)
      rw [wi_at]
      by_cases e : i = k
      · rw [if_pos e, e]; first | (rw [if_pos c73]; rfl) | (rw [if_neg (by omega)]; rfl)
      · rw [if_neg e]; exact h5 i (by omega)
set_option maxRecDepth 100000 in
theorem R_sw (w : am_W) {d : Nat} {P : Option am_V → am_G → Prop} (hd : 3 ≤ d) (G0 : am_G) (v e : Nat) (Q : Nat → mT) (hv : v < 2) (he : e < 6) (mu : Nat) (K : ∀ (G : am_G) (t : rT) lk, St0 G → oJ G0 G → hldR G v Q → rkT G t → rInvJ (gP Q) (Q e) t → (t.2.1 = true → rMu t (mN (Q e)) + 1 ≤ mu) → am_Go w jR_isRight d (0, 0) 192 [some (.inr (some 163)), some (.inl (nI (6 * v + e))), lk] [] G P) :
    ∀ (r k : Nat) (G : am_G) (t : rT), k + r = mN (Q e) → St0 G → oJ G0 G → hldR G v Q → rkT G t → rInv (gP Q) (Q e) k t → rMu t (mN (Q e)) ≤ mu → (t.2.1 = true → rMu t (mN (Q e)) + 1 ≤ mu) → am_Go w jR_isRight d (0, 0) 120 [some (.inr (some 163)), some (.inl (nI (6 * v + e))), some (.inl (nI k))] [] G P := by
  intro r
  induction r with
  | zero =>
    intro k G t hk hS ho hR hI hv1 hm hm2
    have hN := (hR e he).1.1.1
    have hn6 := (hR e he).2.1
    refine go_iload_n dR_isRight_120 rfl rfl ?_
    refine go_aload_n dR_isRight_121 rfl rfl ?_
    refine go_getO (a := 167) dR_isRight_122 flR_19 rfl (hS.s sh_163) (hS.r rt_many) ?_
    refine go_iload_n dR_isRight_125 rfl rfl ?_
    refine go_ialV (hS.s sh_167) (by omega) (by decide) hN dR_isRight_126 ?_
    refine go_icmp_geN (by omega) (by omega) dR_isRight_127 (tgt := 192) (by decide) (fun c1 => ?_) (fun c1 => absurd c1 (by omega))
    exact K G t _ hS ho hR hI ⟨k, hv1, fun _ => by omega⟩ hm2
  | succ r ih =>
    intro k G t hk hS ho hR hI hv1 hm hm2
    have hN := (hR e he).1.1.1
    have hmv := (hR e he).2
    have hn6 := hmv.1
    have hfl := hI.1
    have hkn : k < mN (Q e) := by omega
    refine go_iload_n dR_isRight_120 rfl rfl ?_
    refine go_aload_n dR_isRight_121 rfl rfl ?_
    refine go_getO (a := 167) dR_isRight_122 flR_19 rfl (hS.s sh_163) (hS.r rt_many) ?_
    refine go_iload_n dR_isRight_125 rfl rfl ?_
    refine go_ialV (hS.s sh_167) (by omega) (by decide) hN dR_isRight_126 ?_
    refine go_icmp_geN (by omega) (by omega) dR_isRight_127 (tgt := 192) (by decide) (fun c1 => absurd c1 (by omega)) (fun c1 => ?_)
    refine go_aload_n dR_isRight_130 rfl rfl ?_
    refine go_getV dR_isRight_131 flR_155 rfl (hS.s sh_163) (by first | assumption | (simp (disch := omega) only [wi_I, ro_I, wi_In, wi_Is]; done) | (simp (disch := omega) only [wi_I, ro_I, wi_In, wi_Is]; first | assumption | rfl) | rfl) ?_
    refine go_if_eqB dR_isRight_134 (tgt := 192) (by decide) (fun c134 => ?_) (fun c134 => ?_)
    · exact K G t _ hS ho hR hI ⟨k, hv1, fun q => by rw [nbF c134] at q; cases q⟩ hm2
    · have h0 := nbT c134
      have h75 := ((hI.2 h0).2 k (by omega)).1
      refine go_aload_n dR_isRight_137 rfl rfl ?_
      refine go_getO (a := 175) dR_isRight_138 flR_44 rfl (hS.s sh_163) (hS.r rt_come) ?_
      refine go_iload_n dR_isRight_141 rfl rfl ?_
      refine go_balV (hS.s sh_175) (by omega) (by decide) h75 dR_isRight_142 ?_
      refine go_if_neB dR_isRight_143 (tgt := 149) (by decide) (fun c143 => ?_) (fun c143 => ?_)
      · obtain ⟨x, hx⟩ := Option.isSome_iff_exists.mp c143
        have hst := ((hI.2 h0).2 k (by omega)).2 x hx
        have hfl1 : G.2.1 163 20 = am_b true := by rw [hfl, h0]; rfl
        have hV := hv1.go hmv hkn hx
        have hK : rKp (Q e) t (rGo (gP Q) (Q e) k x t) := rGo_kp
        refine go_aload_n dR_isRight_149 rfl rfl ?_
        refine go_iload_n dR_isRight_150 rfl rfl ?_
        refine go_cV (k' := (0, 0)) dR_isRight_151 _ csR_176 (hS.s sh_163) rfl imR_fetch seR_fetch rfl (okR_fetch (d := 0) w G k x (by omega) hS hst hfl1) (by omega) (by decide) (Nat.le_of_ble_eq_true rfl) (fun r1 G1 hr1 hn1 => ?_)
        obtain ⟨rfl, -, o1, w1⟩ := hr1
        have S1 := o1.St hS
        have R1 := hR.j o1.j
        refine go_aload_n dR_isRight_154 rfl rfl ?_
        refine go_iload_n dR_isRight_155 rfl rfl ?_
        refine go_iload_n dR_isRight_156 rfl rfl ?_
        refine go_cV (k' := (0, 0)) dR_isRight_157 _ csR_179 (S1.s sh_163) rfl imR_leave seR_leave rfl (okR_leaveM (d := 2) w (by decide) G1 x v e k Q hv he hkn S1 R1 w1) (by omega) (by decide) (Nat.le_of_ble_eq_true rfl) (fun r2 G2 hr2 hn2 => ?_)
        obtain ⟨rfl, w2, o2⟩ := hr2
        have o12 := o1.tr o2
        have S2 := o12.St hS
        have R2 := hR.j o12.j
        have f2 := w2.flag
        cases hf : fEff (gP Q) (mO (Q e) k) (aN (Q e) k) (bN (Q e) k) x with
        | none =>
          rw [hf] at f2
          have I2 : rkT G2 (rGo (gP Q) (Q e) k x t) := by rw [rGo_n hf]; exact rkT.bad f2
          refine go_aload_n dR_isRight_160 rfl rfl ?_
          refine go_getV dR_isRight_161 flR_155 rfl (S2.s sh_163) f2 ?_
          refine go_if_eqB dR_isRight_164 (tgt := 173) (by decide) (fun c1 => ?_) (fun c1 => absurd c1 (by decide))
          refine go_aload_n dR_isRight_173 rfl rfl ?_
          refine go_getV dR_isRight_174 flR_155 rfl (S2.s sh_163) f2 ?_
          refine go_if_eqB dR_isRight_177 (tgt := 186) (by decide) (fun c1 => ?_) (fun c1 => absurd c1 (by decide))
          refine go_inc dR_isRight_186 rfl ?_
          refine go_goto dR_isRight_189 (tgt := 120) (by decide) ?_
          exact ih (k + 1) G2 _ (by omega) S2 (ho.tr o12.j) R2 I2 hV (by have q := hK.2.2.2.1; omega) (fun q => by rcases hK.2.2.2.2.1 q with a | a; exact (by have z := hm2 a; have y := hK.2.2.2.1; omega); omega)
        | some y =>
          rw [hf] at w2 f2
          obtain ⟨nw2, b2, k2, -⟩ := w2
          have I2 : rkT G2 t := hI.n h0 o12 f2
          refine go_aload_n dR_isRight_160 rfl rfl ?_
          refine go_getV dR_isRight_161 flR_155 rfl (S2.s sh_163) f2 ?_
          refine go_if_eqB dR_isRight_164 (tgt := 173) (by decide) (fun c1 => by cases c1) (fun c1 => ?_)
          refine go_aload_n dR_isRight_167 rfl rfl ?_
          refine go_iload_n dR_isRight_168 rfl rfl ?_
          refine go_iload_n dR_isRight_169 rfl rfl ?_
          refine go_cV (k' := (0, 0)) dR_isRight_170 _ csR_182 (S2.s sh_163) rfl imR_goOn seR_goOn rfl (okR_goOn (d := 1) w (by decide) G2 (Q e) (6 * v + e) k y (by omega) hkn hmv b2 k2 t (fun h => fEff_24 (by rw [← h]; exact hf)) S2 (R2 e he).1 nw2 I2 h0) (by omega) (by decide) (Nat.le_of_ble_eq_true rfl) (fun r3 G3 hr3 hn3 => ?_)
          obtain ⟨rfl, I3, o3⟩ := hr3
          have S3 := o3.St S2
          have R3 := R2.j o3.j
          have f3 := I3.1
          refine go_aload_n dR_isRight_173 rfl rfl ?_
          refine go_getV dR_isRight_174 flR_155 rfl (S3.s sh_163) f3 ?_
          refine go_if_eqB dR_isRight_177 (tgt := 186) (by decide) (fun c177 => ?_) (fun c177 => ?_)
          · have I4 : rkT G3 (rGo (gP Q) (Q e) k x t) := by rw [rGo_s hf, rRow_w (t := rNx (Q e) k y t) (i := 0) (Nat.zero_le _) (nbF c177)]; exact I3
            refine go_inc dR_isRight_186 rfl ?_
            refine go_goto dR_isRight_189 (tgt := 120) (by decide) ?_
            exact ih (k + 1) G3 _ (by omega) S3 ((ho.tr o12.j).tr o3.j) R3 I4 hV (by have q := hK.2.2.2.1; omega) (fun q => by rcases hK.2.2.2.2.1 q with a | a; exact (by have z := hm2 a; have y := hK.2.2.2.1; omega); omega)
          · obtain ⟨x1, hx1, -⟩ := (rNx_kp (M := Q e) (p := k) (y := y) (t := t)).1 k x hkn hx
            refine go_aload_n dR_isRight_180 rfl rfl ?_
            refine go_iload_n dR_isRight_181 rfl rfl ?_
            refine go_iload_n dR_isRight_182 rfl rfl ?_
            refine go_cV (k' := (0, 0)) dR_isRight_183 _ csR_185 (S3.s sh_163) rfl imR_refuse seR_refuse rfl (okR_refuse (d := 1) w (by decide) G3 (Q e) (6 * v + e) k x1 (by omega) hkn hmv (rNx (Q e) k y t) hx1 S3 (R3 e he).1 I3) (by omega) (by decide) (Nat.le_of_ble_eq_true rfl) (fun r4 G4 hr4 hn4 => ?_)
            obtain ⟨rfl, I4, o4⟩ := hr4
            rw [← rGo_s hf] at I4
            have S4 := o4.St S3
            have R4 := R3.j o4
            refine go_inc dR_isRight_186 rfl ?_
            refine go_goto dR_isRight_189 (tgt := 120) (by decide) ?_
            exact ih (k + 1) G4 _ (by omega) S4 (((ho.tr o12.j).tr o3.j).tr o4) R4 I4 hV (by have q := hK.2.2.2.1; omega) (fun q => by rcases hK.2.2.2.2.1 q with a | a; exact (by have z := hm2 a; have y := hK.2.2.2.1; omega); omega)
      · refine go_goto dR_isRight_146 (tgt := 186) (by decide) ?_
        have hz : t.1 k = none := a1n c143
        refine go_inc dR_isRight_186 rfl ?_
        refine go_goto dR_isRight_189 (tgt := 120) (by decide) ?_
        exact ih (k + 1) G t (by omega) hS ho hR hI (hv1.skip hz) hm hm2
set_option maxRecDepth 100000 in
theorem R_i3 (w : am_W) {d : Nat} (G0 G : am_G) (v e : Nat) (Q : Nat → mT) (hv : v < 2) (he : e < 6) (t : rT) (lk : Option am_V) (hS : St0 G) (ho : oJ G0 G) (hI : rkT G t) (h1 : t.2.2 = false → fLeast (gP Q) (Q e) t.1 ∧ ∀ p, mN (Q e) ≤ p → t.1 p = none) (h2 : t.2.2 = true → ∀ T, ¬ fSol (gP Q) (Q e) T) : am_Go w jR_isRight d (0, 0) 195 [some (.inr (some 163)), some (.inl (nI (6 * v + e))), lk] [] G (fun r G' => ∃ t : rT, r = some (.inl (am_b (!t.2.2))) ∧ rkT G' t ∧ oJ G0 G' ∧ (t.2.2 = false → fLeast (gP Q) (Q e) t.1 ∧ ∀ p, mN (Q e) ≤ p → t.1 p = none) ∧ (t.2.2 = true → ∀ T, ¬ fSol (gP Q) (Q e) T)) := by
  have hfl := hI.1
  refine go_aload_n dR_isRight_195 rfl rfl ?_
  refine go_getV dR_isRight_196 flR_155 rfl (hS.s sh_163) (by first | assumption | (simp (disch := omega) only [wi_I, ro_I, wi_In, wi_Is]; done) | (simp (disch := omega) only [wi_I, ro_I, wi_In, wi_Is]; first | assumption | rfl) | rfl) ?_
  refine go_zreturn rfl (by first | exact Or.inl rfl | exact Or.inr rfl | exact am_b_01 _) dR_isRight_199 ?_
  exact ⟨t, rfl, hI, ho, h1, h2⟩
set_option maxRecDepth 100000 in
theorem R_i2w (w : am_W) {d : Nat} (G0 G : am_G) (v e : Nat) (Q : Nat → mT) (hv : v < 2) (he : e < 6) (t : rT) (lk : Option am_V) (j : Nat) (hS : St0 G) (ho : oJ G0 G) (hI : rkT G t) (hv1 : rInv (gP Q) (Q e) j t) (ht : t.2.2 = true) : am_Go w jR_isRight d (0, 0) 99 [some (.inr (some 163)), some (.inl (nI (6 * v + e))), lk] [] G (fun r G' => ∃ t : rT, r = some (.inl (am_b (!t.2.2))) ∧ rkT G' t ∧ oJ G0 G' ∧ (t.2.2 = false → fLeast (gP Q) (Q e) t.1 ∧ ∀ p, mN (Q e) ≤ p → t.1 p = none) ∧ (t.2.2 = true → ∀ T, ¬ fSol (gP Q) (Q e) T)) := by
  have hfl : G.2.1 163 20 = am_b false := by rw [hI.1, ht]; rfl
  refine go_aload_n dR_isRight_99 rfl rfl ?_
  refine go_getV dR_isRight_100 flR_159 rfl (hS.s sh_163) (by first | assumption | (simp (disch := omega) only [wi_I, ro_I, wi_In, wi_Is]; done) | (simp (disch := omega) only [wi_I, ro_I, wi_In, wi_Is]; first | assumption | rfl) | rfl) ?_
  refine go_if_eq dR_isRight_103 (tgt := 195) (by decide) (fun c103 => ?_) (fun c103 => ?_)
  · exact R_i3 w G0 G v e Q hv he t lk hS ho hI (fun h => by rw [ht] at h; cases h) (fun _ T => hv1.none ht T)
  · refine go_aload_n dR_isRight_106 rfl rfl ?_
    refine go_getV dR_isRight_107 flR_155 rfl (hS.s sh_163) (by first | assumption | (simp (disch := omega) only [wi_I, ro_I, wi_In, wi_Is]; done) | (simp (disch := omega) only [wi_I, ro_I, wi_In, wi_Is]; first | assumption | rfl) | rfl) ?_
    refine go_if_eqB dR_isRight_110 (tgt := 195) (by decide) (fun c1 => ?_) (fun c1 => absurd c1 (by decide))
    exact R_i3 w G0 G v e Q hv he t lk hS ho hI (fun h => by rw [ht] at h; cases h) (fun _ T => hv1.none ht T)
set_option maxRecDepth 100000 in
theorem R_i4 (w : am_W) {d : Nat} (hd : 3 ≤ d) (G0 G : am_G) (v e : Nat) (Q : Nat → mT) (hv : v < 2) (he : e < 6) (t : rT) (lk : Option am_V) (hS : St0 G) (ho : oJ G0 G) (hR : hldR G v Q) (hI : rkT G t) (hv1 : rInvJ (gP Q) (Q e) t) (hc : t.2.1 = false) : am_Go w jR_isRight d (0, 0) 99 [some (.inr (some 163)), some (.inl (nI (6 * v + e))), lk] [] G (fun r G' => ∃ t : rT, r = some (.inl (am_b (!t.2.2))) ∧ rkT G' t ∧ oJ G0 G' ∧ (t.2.2 = false → fLeast (gP Q) (Q e) t.1 ∧ ∀ p, mN (Q e) ≤ p → t.1 p = none) ∧ (t.2.2 = true → ∀ T, ¬ fSol (gP Q) (Q e) T)) := by
  obtain ⟨j, hj, -⟩ := id hv1
  cases ht : t.2.2 with
  | true => exact R_i2w w G0 G v e Q hv he t lk j hS ho hI hj ht
  | false =>
    have hch := (hI.2 ht).1
    rw [hc] at hch
    have hL : rInv (gP Q) (Q e) (mN (Q e)) t := by
      rcases hv1.at with q | q
      · exact q
      · rw [ht] at q; cases q
    refine go_aload_n dR_isRight_99 rfl rfl ?_
    refine go_getV dR_isRight_100 flR_159 rfl (hS.s sh_163) (by first | assumption | (simp (disch := omega) only [wi_I, ro_I, wi_In, wi_Is]; done) | (simp (disch := omega) only [wi_I, ro_I, wi_In, wi_Is]; first | assumption | rfl) | rfl) ?_
    refine go_if_eqB dR_isRight_103 (tgt := 195) (by decide) (fun c1 => ?_) (fun c1 => absurd c1 (by decide))
    exact R_i3 w G0 G v e Q hv he t lk hS ho hI (fun _ => ⟨hL.least ht hc, hL.2.2⟩) (fun h => by rw [ht] at h; cases h)
set_option maxRecDepth 100000 in
theorem R_i2 (w : am_W) {d : Nat} (hd : 3 ≤ d) (G0 : am_G) (v e : Nat) (Q : Nat → mT) (hv : v < 2) (he : e < 6) : ∀ (n : Nat) (G : am_G) (t : rT) (lk : Option am_V), rMu t (mN (Q e)) ≤ n → St0 G → oJ G0 G → hldR G v Q → rkT G t → (rInvJ (gP Q) (Q e) t ∨ (t.2.1 = true ∧ rInv (gP Q) (Q e) 0 t)) → am_Go w jR_isRight d (0, 0) 99 [some (.inr (some 163)), some (.inl (nI (6 * v + e))), lk] [] G (fun r G' => ∃ t : rT, r = some (.inl (am_b (!t.2.2))) ∧ rkT G' t ∧ oJ G0 G' ∧ (t.2.2 = false → fLeast (gP Q) (Q e) t.1 ∧ ∀ p, mN (Q e) ≤ p → t.1 p = none) ∧ (t.2.2 = true → ∀ T, ¬ fSol (gP Q) (Q e) T)) := by
  intro n
  induction n with
  | zero =>
    intro G t lk hn hS ho hR hI hv1
    obtain ⟨j, hj⟩ : ∃ j, rInv (gP Q) (Q e) j t := by
      rcases hv1 with ⟨j, h, -⟩ | ⟨-, h⟩
      · exact ⟨j, h⟩
      · exact ⟨0, h⟩
    cases ht : t.2.2 with
    | true => exact R_i2w w G0 G v e Q hv he t lk j hS ho hI hj ht
    | false =>
      have hfl : G.2.1 163 20 = am_b true := by rw [hI.1, ht]; rfl
      have hch := (hI.2 ht).1
      cases hc : t.2.1 with
      | false =>
        rw [hc] at hch
        have hL : rInv (gP Q) (Q e) (mN (Q e)) t := by
          rcases hv1 with h | h
          · rcases h.at with q | q
            · exact q
            · rw [ht] at q; cases q
          · rw [hc] at h; cases h.1
        refine go_aload_n dR_isRight_99 rfl rfl ?_
        refine go_getV dR_isRight_100 flR_159 rfl (hS.s sh_163) (by first | assumption | (simp (disch := omega) only [wi_I, ro_I, wi_In, wi_Is]; done) | (simp (disch := omega) only [wi_I, ro_I, wi_In, wi_Is]; first | assumption | rfl) | rfl) ?_
        refine go_if_eqB dR_isRight_103 (tgt := 195) (by decide) (fun c1 => ?_) (fun c1 => absurd c1 (by decide))
        exact R_i3 w G0 G v e Q hv he t lk hS ho hI (fun _ => ⟨hL.least ht hc, hL.2.2⟩) (fun h => by rw [ht] at h; cases h)
      | true =>
        rw [hc] at hch
        refine go_aload_n dR_isRight_99 rfl rfl ?_
        refine go_getV dR_isRight_100 flR_159 rfl (hS.s sh_163) (by first | assumption | (simp (disch := omega) only [wi_I, ro_I, wi_In, wi_Is]; done) | (simp (disch := omega) only [wi_I, ro_I, wi_In, wi_Is]; first | assumption | rfl) | rfl) ?_
        refine go_if_eqB dR_isRight_103 (tgt := 195) (by decide) (fun c1 => absurd c1 (by decide)) (fun c1 => ?_)
        refine go_aload_n dR_isRight_106 rfl rfl ?_
        refine go_getV dR_isRight_107 flR_155 rfl (hS.s sh_163) (by first | assumption | (simp (disch := omega) only [wi_I, ro_I, wi_In, wi_Is]; done) | (simp (disch := omega) only [wi_I, ro_I, wi_In, wi_Is]; first | assumption | rfl) | rfl) ?_
        refine go_if_eqB dR_isRight_110 (tgt := 195) (by decide) (fun c1 => absurd c1 (by decide)) (fun c1 => ?_)
        refine go_aload_n dR_isRight_113 rfl rfl ?_
        refine go_iconst (am_b false) (by decide) dR_isRight_114 ?_
        refine go_putZ (am_b_01 _) dR_isRight_115 fpR_159 rfl (hS.s sh_163) ?_
        refine go_iconst (nI 0) (by decide) dR_isRight_118 ?_
        refine go_istore_n dR_isRight_119 rfl (Nat.le_of_ble_eq_true rfl) ?_
        have I1 := hI.ch (c := false)
        have o1 : oJ G (am_wi G 163 21 (am_b false)) := oJ.f (Or.inr (Or.inr rfl))
        have e1 : rMu (t.1, false, t.2.2) (mN (Q e)) = rMu t (mN (Q e)) := rMu_c (t := t) (t' := (t.1, false, t.2.2)) rfl _
        refine R_sw w hd G0 v e Q hv he (rMu t (mN (Q e))) (fun X t3 lk3 S3 o3 R3 I3 v3 h3 => ?_) (mN (Q e)) 0 _ (t.1, false, t.2.2) (by omega) (o1.St hS) (ho.tr o1) (hR.j o1) I1 hj.again (Nat.le_of_eq e1) (fun h => by cases h)
        refine go_goto dR_isRight_192 (tgt := 99) (by decide) ?_
        cases hc3 : t3.2.1 with
        | true => exact absurd (h3 hc3) (by have := hn; omega)
        | false => exact R_i4 w hd G0 X v e Q hv he t3 lk3 S3 o3 R3 I3 v3 hc3
  | succ n ih =>
    intro G t lk hn hS ho hR hI hv1
    obtain ⟨j, hj⟩ : ∃ j, rInv (gP Q) (Q e) j t := by
      rcases hv1 with ⟨j, h, -⟩ | ⟨-, h⟩
      · exact ⟨j, h⟩
      · exact ⟨0, h⟩
    cases ht : t.2.2 with
    | true => exact R_i2w w G0 G v e Q hv he t lk j hS ho hI hj ht
    | false =>
      have hfl : G.2.1 163 20 = am_b true := by rw [hI.1, ht]; rfl
      have hch := (hI.2 ht).1
      cases hc : t.2.1 with
      | false =>
        rw [hc] at hch
        have hL : rInv (gP Q) (Q e) (mN (Q e)) t := by
          rcases hv1 with h | h
          · rcases h.at with q | q
            · exact q
            · rw [ht] at q; cases q
          · rw [hc] at h; cases h.1
        refine go_aload_n dR_isRight_99 rfl rfl ?_
        refine go_getV dR_isRight_100 flR_159 rfl (hS.s sh_163) (by first | assumption | (simp (disch := omega) only [wi_I, ro_I, wi_In, wi_Is]; done) | (simp (disch := omega) only [wi_I, ro_I, wi_In, wi_Is]; first | assumption | rfl) | rfl) ?_
        refine go_if_eqB dR_isRight_103 (tgt := 195) (by decide) (fun c1 => ?_) (fun c1 => absurd c1 (by decide))
        exact R_i3 w G0 G v e Q hv he t lk hS ho hI (fun _ => ⟨hL.least ht hc, hL.2.2⟩) (fun h => by rw [ht] at h; cases h)
      | true =>
        rw [hc] at hch
        refine go_aload_n dR_isRight_99 rfl rfl ?_
        refine go_getV dR_isRight_100 flR_159 rfl (hS.s sh_163) (by first | assumption | (simp (disch := omega) only [wi_I, ro_I, wi_In, wi_Is]; done) | (simp (disch := omega) only [wi_I, ro_I, wi_In, wi_Is]; first | assumption | rfl) | rfl) ?_
        refine go_if_eqB dR_isRight_103 (tgt := 195) (by decide) (fun c1 => absurd c1 (by decide)) (fun c1 => ?_)
        refine go_aload_n dR_isRight_106 rfl rfl ?_
        refine go_getV dR_isRight_107 flR_155 rfl (hS.s sh_163) (by first | assumption | (simp (disch := omega) only [wi_I, ro_I, wi_In, wi_Is]; done) | (simp (disch := omega) only [wi_I, ro_I, wi_In, wi_Is]; first | assumption | rfl) | rfl) ?_
        refine go_if_eqB dR_isRight_110 (tgt := 195) (by decide) (fun c1 => absurd c1 (by decide)) (fun c1 => ?_)
        refine go_aload_n dR_isRight_113 rfl rfl ?_
        refine go_iconst (am_b false) (by decide) dR_isRight_114 ?_
        refine go_putZ (am_b_01 _) dR_isRight_115 fpR_159 rfl (hS.s sh_163) ?_
        refine go_iconst (nI 0) (by decide) dR_isRight_118 ?_
        refine go_istore_n dR_isRight_119 rfl (Nat.le_of_ble_eq_true rfl) ?_
        have I1 := hI.ch (c := false)
        have o1 : oJ G (am_wi G 163 21 (am_b false)) := oJ.f (Or.inr (Or.inr rfl))
        have e1 : rMu (t.1, false, t.2.2) (mN (Q e)) = rMu t (mN (Q e)) := rMu_c (t := t) (t' := (t.1, false, t.2.2)) rfl _
        refine R_sw w hd G0 v e Q hv he (rMu t (mN (Q e))) (fun X t3 lk3 S3 o3 R3 I3 v3 h3 => ?_) (mN (Q e)) 0 _ (t.1, false, t.2.2) (by omega) (o1.St hS) (ho.tr o1) (hR.j o1) I1 hj.again (Nat.le_of_eq e1) (fun h => by cases h)
        refine go_goto dR_isRight_192 (tgt := 99) (by decide) ?_
        cases hc3 : t3.2.1 with
        | true => exact ih X t3 lk3 (by have := h3 hc3; omega) S3 o3 R3 I3 (Or.inl v3)
        | false => exact R_i4 w hd G0 X v e Q hv he t3 lk3 S3 o3 R3 I3 v3 hc3
set_option maxRecDepth 100000 in
theorem R_iz (w : am_W) {d : Nat} (G0 G : am_G) (v e : Nat) (Q : Nat → mT) (hv : v < 2) (he : e < 6) (lk : Option am_V) (hS : St0 G) (ho : oJ G0 G) (h20 : G.2.1 163 20 = am_b false) (h0 : mN (Q e) = 0) : am_Go w jR_isRight d (0, 0) 39 [some (.inr (some 163)), some (.inl (nI (6 * v + e))), lk] [] G (fun r G' => ∃ t : rT, r = some (.inl (am_b (!t.2.2))) ∧ rkT G' t ∧ oJ G0 G' ∧ (t.2.2 = false → fLeast (gP Q) (Q e) t.1 ∧ ∀ p, mN (Q e) ≤ p → t.1 p = none) ∧ (t.2.2 = true → ∀ T, ¬ fSol (gP Q) (Q e) T)) := by
  refine go_aload_n dR_isRight_39 rfl rfl ?_
  refine go_getV dR_isRight_40 flR_155 rfl (hS.s sh_163) (by first | assumption | (simp (disch := omega) only [wi_I, ro_I, wi_In, wi_Is]; done) | (simp (disch := omega) only [wi_I, ro_I, wi_In, wi_Is]; first | assumption | rfl) | rfl) ?_
  refine go_if_neB dR_isRight_43 (tgt := 48) (by decide) (fun c1 => absurd c1 (by decide)) (fun c1 => ?_)
  refine go_iconst (nI 0) (by decide) dR_isRight_46 ?_
  refine go_zreturn rfl (by first | exact Or.inl rfl | exact Or.inr rfl | exact am_b_01 _) dR_isRight_47 ?_
  exact ⟨(fun _ => none, false, true), rfl, rkT.bad (t := (fun _ => none, false, true)) h20, ho, (fun h => by cases h), fun _ T => fSol_0 h0 T⟩
set_option maxRecDepth 100000 in
theorem R_io (w : am_W) {d : Nat} (hd : 3 ≤ d) (G0 G : am_G) (v e : Nat) (Q : Nat → mT) (hv : v < 2) (he : e < 6) (lk : Option am_V) (hS : St0 G) (ho : oJ G0 G) (hR : hldR G v Q) (h20 : G.2.1 163 20 = am_b true) (h75 : ∀ i, i < 60 → G.2.1 175 i = am_b false) : am_Go w jR_isRight d (0, 0) 39 [some (.inr (some 163)), some (.inl (nI (6 * v + e))), lk] [] G (fun r G' => ∃ t : rT, r = some (.inl (am_b (!t.2.2))) ∧ rkT G' t ∧ oJ G0 G' ∧ (t.2.2 = false → fLeast (gP Q) (Q e) t.1 ∧ ∀ p, mN (Q e) ≤ p → t.1 p = none) ∧ (t.2.2 = true → ∀ T, ¬ fSol (gP Q) (Q e) T)) := by
  have hmv := (hR e he).2
  have hn6 := hmv.1
  have hg3 := hmv.2.2.1
  have hT := (hR e he).1.1.2.2.1
  refine go_aload_n dR_isRight_39 rfl rfl ?_
  refine go_getV dR_isRight_40 flR_155 rfl (hS.s sh_163) (by first | assumption | (simp (disch := omega) only [wi_I, ro_I, wi_In, wi_Is]; done) | (simp (disch := omega) only [wi_I, ro_I, wi_In, wi_Is]; first | assumption | rfl) | rfl) ?_
  refine go_if_neB dR_isRight_43 (tgt := 48) (by decide) (fun c1 => ?_) (fun c1 => absurd c1 (by decide))
  refine go_aload_n dR_isRight_48 rfl rfl ?_
  refine go_iconst (nI 0) (by decide) dR_isRight_49 ?_
  refine go_putI dR_isRight_50 fpR_152 rfl (hS.s sh_163) ?_
  refine go_iconst (nI 0) (by decide) dR_isRight_53 ?_
  refine go_istore_n dR_isRight_54 rfl (Nat.le_of_ble_eq_true rfl) ?_
  refine R_iB w (am_wi G 163 18 (nI 0)) v e (Q e) hv he hg3 (fun X lk2 SX oX h80 => ?_) (by rw [wi_I (by decide)]; exact hT) 8 0 _ rfl hS oR.rf (fun i hi => absurd hi (by omega))
  have o1 : oJ G X := (oJ.f (Or.inl rfl)).tr ⟨oX.up (fun i hi => by omega), fun k _ _ _ => by rw [oX.2.2 163 (by decide)]⟩
  have hnw : nowR X (fIn (Q e)) := ⟨by rw [oX.2.2 163 (by decide), wi_Is]; rfl, fun i hi => absurd hi (Nat.not_lt_zero i), h80⟩
  have RX := hR.j o1
  have h20X : X.2.1 163 20 = am_b true := by rw [oX.2.2 163 (by decide), wi_In (by decide)]; exact h20
  have h75X : ∀ i, i < 60 → plR X i ((fun _ => none : fM) i) := fun i hi => ⟨by rw [oX.2.2 175 (by decide), wi_I (by decide)]; exact h75 i hi, fun x hx => by cases hx⟩
  refine go_aload_n dR_isRight_88 rfl rfl ?_
  refine go_iload_n dR_isRight_89 rfl rfl ?_
  refine go_iconst (nI 0) (by decide) dR_isRight_90 ?_
  refine go_cV (k' := (0, 0)) dR_isRight_91 _ csR_172 (SX.s sh_163) rfl imR_arrive seR_arrive rfl (okR_arriveG (d := 0) w X (Q e) (fun _ => none, false, false) (6 * v + e) 0 (fIn (Q e)) (by omega) (by decide) hn6 (RX e he).1.1.1 SX hnw fIn_B fIn_K h20X h75X _ rfl (Or.inr rfl) rfl) (by omega) (by decide) (Nat.le_of_ble_eq_true rfl) (fun r3 G3 hr3 hn3 => ?_)
  obtain ⟨rfl, I3, o3⟩ := hr3
  have S3 := o3.St SX
  have R3 := RX.j o3.j
  refine go_aload_n dR_isRight_94 rfl rfl ?_
  refine go_iconst (am_b true) (by decide) dR_isRight_95 ?_
  refine go_putZ (am_b_01 _) dR_isRight_96 fpR_159 rfl (S3.s sh_163) ?_
  have o4 : oJ G3 (am_wi G3 163 21 (am_b true)) := oJ.f (Or.inr (Or.inr rfl))
  exact R_i2 w hd G0 v e Q hv he _ _ _ _ (Nat.le_refl _) (o4.St S3) (((ho.tr o1).tr o3.j).tr o4) (R3.j o4) (I3.ch (c := true)) (Or.inr ⟨rfl, rInv.beg.again⟩)
set_option maxRecDepth 100000 in
theorem okR_isRight (w : am_W) {d : Nat} (hd : 3 ≤ d) (G : am_G) (v e : Nat) (Q : Nat → mT) (hv : v < 2) (he : e < 6) (hS : St0 G) (hR : hldR G v Q) : am_Ok w jR_isRight d (0, 0) [.inr (some 163), .inl (nI (6 * v + e))] G (fun r G' => ∃ t : rT, r = some (.inl (am_b (!t.2.2))) ∧ rkT G' t ∧ oJ G G' ∧ (t.2.2 = false → fLeast (gP Q) (Q e) t.1 ∧ ∀ p, mN (Q e) ≤ p → t.1 p = none) ∧ (t.2.2 = true → ∀ T, ¬ fSol (gP Q) (Q e) T)) := by
  refine am_ok_of rfl (Nat.le_of_ble_eq_true rfl) ?_
  show am_Go w jR_isRight d (0, 0) 0 [some (.inr (some 163)), some (.inl (nI (6 * v + e))), none] [] G _
  have hN := (hR e he).1.1.1
  have hmv := (hR e he).2
  have hn6 := hmv.1
  refine go_aload_n dR_isRight_0 rfl rfl ?_
  refine go_aload_n dR_isRight_1 rfl rfl ?_
  refine go_getO (a := 167) dR_isRight_2 flR_19 rfl (hS.s sh_163) (hS.r rt_many) ?_
  refine go_iload_n dR_isRight_5 rfl rfl ?_
  refine go_ialV (hS.s sh_167) (by omega) (by decide) hN dR_isRight_6 ?_
  refine go_if_leN (by omega) dR_isRight_7 (tgt := 14) (by decide) (fun c7 => ?_) (fun c7 => ?_)
  · refine go_iconst (am_b false) (by decide) dR_isRight_14 ?_
    refine go_putZ (am_b_01 _) dR_isRight_15 fpR_155 rfl (hS.s sh_163) ?_
    refine go_iconst (nI 0) (by decide) dR_isRight_18 ?_
    refine go_istore_n dR_isRight_19 rfl (Nat.le_of_ble_eq_true rfl) ?_
    refine R_iA w _ v e (fun X lk hSX oX h20 h75 => ?_) 60 0 _ rfl hS oJ.rf rfl (fun i hi => absurd hi (by omega))
    rw [wi_Is] at h20
    have oX := (oJ.f (G := G) (Or.inr (Or.inl rfl))).tr oX
    first | exact R_iz w G X v e Q hv he _ hSX oX h20 (by omega) | exact R_io w hd G X v e Q hv he _ hSX oX (hR.j oX) h20 h75
  · refine go_iconst (am_b true) (by decide) dR_isRight_10 ?_
    refine go_goto dR_isRight_11 (tgt := 15) (by decide) ?_
    refine go_putZ (am_b_01 _) dR_isRight_15 fpR_155 rfl (hS.s sh_163) ?_
    refine go_iconst (nI 0) (by decide) dR_isRight_18 ?_
    refine go_istore_n dR_isRight_19 rfl (Nat.le_of_ble_eq_true rfl) ?_
    refine R_iA w _ v e (fun X lk hSX oX h20 h75 => ?_) 60 0 _ rfl hS oJ.rf rfl (fun i hi => absurd hi (by omega))
    rw [wi_Is] at h20
    have oX := (oJ.f (G := G) (Or.inr (Or.inl rfl))).tr oX
    first | exact R_iz w G X v e Q hv he _ hSX oX h20 (by omega) | exact R_io w hd G X v e Q hv he _ hSX oX (hR.j oX) h20 h75
