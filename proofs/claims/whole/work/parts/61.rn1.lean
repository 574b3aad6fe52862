/-! run and compare, of both. -/
def aT (s : sT) (p m l : Nat) (x y z : Int32) : xT := xRun (zQ s p) l (xIni (zQ s p) m x y z)
noncomputable def aRun (s : sT) (p m l x y z : Int32) : Int32 × sT := if bel p 2 = true ∧ bel m 6 = true ∧ bel l 1001 = true then @ite (Int32 × sT) (sndP (zQ s p.toNatClampNeg) m.toNatClampNeg) (Classical.propDecidable _) (xRes (aT s p.toNatClampNeg m.toNatClampNeg l.toNatClampNeg x y z), (s.1, s.2.1, (aT s p.toNatClampNeg m.toNatClampNeg l.toNatClampNeg x y z).1)) (-4, s) else (-1, s)
section Ar
variable {s : sT} {p m l x y z : Int32} {a b c : Nat}
theorem aRun_o1 (h : bel p 2 = false) : aRun s p m l x y z = (-1, s) := if_neg (fun q => by rw [h] at q; exact absurd q.1 (by decide))
theorem aRun_o2 (h : bel m 6 = false) : aRun s p m l x y z = (-1, s) := if_neg (fun q => by rw [h] at q; exact absurd q.2.1 (by decide))
theorem aRun_o3 (h : bel l 1001 = false) : aRun s p m l x y z = (-1, s) := if_neg (fun q => by rw [h] at q; exact absurd q.2.2 (by decide))
theorem aRun_i (ha : a < 2) (hb : b < 6) (hc : c < 1001) : aRun s (nI a) (nI b) (nI c) x y z = @ite (Int32 × sT) (sndP (zQ s a) b) (Classical.propDecidable _) (xRes (aT s a b c x y z), (s.1, s.2.1, (aT s a b c x y z).1)) (-4, s) := by
  unfold aRun
  rw [if_pos ⟨by rw [bel_nI (by omega)]; exact decide_eq_true ha, by rw [bel_nI (by omega)]; exact decide_eq_true hb, by rw [bel_nI (by omega)]; exact decide_eq_true hc⟩, nI_clamp (n := a) (by omega), nI_clamp (n := b) (by omega), nI_clamp (n := c) (by omega)]
theorem aRun_w (ha : a < 2) (hb : b < 6) (hc : c < 1001) (h : ¬ sndP (zQ s a) b) : aRun s (nI a) (nI b) (nI c) x y z = (-4, s) := by rw [aRun_i ha hb hc, if_neg h]
theorem aRun_y (ha : a < 2) (hb : b < 6) (hc : c < 1001) (h : sndP (zQ s a) b) : aRun s (nI a) (nI b) (nI c) x y z = (xRes (aT s a b c x y z), (s.1, s.2.1, (aT s a b c x y z).1)) := by rw [aRun_i ha hb hc, if_pos h]
theorem sV.q (hv : sV s) (ha : a < 2) : ∀ b, b < 6 → mV (zQ s a b) := fun b hb => hv.2.1 _ (by omega)
theorem aT_v (hv : sV s) (ha : a < 2) (hb : b < 6) (hc : c < 1001) (h : sndP (zQ s a) b) : lV (aT s a b c x y z).1 ∧ ∀ e, xO (aT s a b c x y z) = some e → e < 24 := by
  obtain ⟨i1, i2⟩ := ini_inv (Q := zQ s a) (Z := zOf (zQ s a)) x y z hb h.zs
  obtain ⟨r1, r2⟩ := xRun_inv h.zs (hv.q ha) c _ i1 (by omega)
  obtain ⟨-, n1, n2, n3, n4, n5⟩ := r1
  have r2 : lD (aT s a b c x y z).1 ≤ 1000 := r2
  have n1 : lM (aT s a b c x y z).1 + xH (aT s a b c x y z) ≤ lD (aT s a b c x y z).1 := n1
  have n2 : lNn (aT s a b c x y z).1 + xH (aT s a b c x y z) ≤ 64 * lD (aT s a b c x y z).1 + 64 := n2
  have n3 : lH (aT s a b c x y z).1 ≤ lD (aT s a b c x y z).1 := n3
  have n4 : lX (aT s a b c x y z).1 ≤ 12 := n4
  refine ⟨⟨?_, ?_, ?_, ?_, ?_⟩, n5⟩
  · show lD (aT s a b c x y z).1 < 100000; omega
  · show lM (aT s a b c x y z).1 < 100000; omega
  · show lX (aT s a b c x y z).1 < 100000; omega
  · show lNn (aT s a b c x y z).1 < 100000; omega
  · show lH (aT s a b c x y z).1 < 100000; omega
theorem aRun_v (hv : sV s) : sV (aRun s p m l x y z).2 := by
  cases h1 : bel p 2 with
  | false => rw [aRun_o1 h1]; exact hv
  | true =>
    cases h2 : bel m 6 with
    | false => rw [aRun_o2 h2]; exact hv
    | true =>
      cases h3 : bel l 1001 with
      | false => rw [aRun_o3 h3]; exact hv
      | true =>
        obtain ⟨a, ha, rfl⟩ := bel_of h1 (by decide)
        obtain ⟨b, hb, rfl⟩ := bel_of h2 (by decide)
        obtain ⟨c, hc, rfl⟩ := bel_of h3 (by decide)
        by_cases q : sndP (zQ s a) b
        · rw [aRun_y ha hb hc q]; exact ⟨hv.1, hv.2.1, (aT_v hv ha hb hc q).1⟩
        · rw [aRun_w ha hb hc q]; exact hv
theorem xRes_e {t : xT} {G : am_G} {p h k : Nat} {b : Bool} (X : cX p h G t k b) : G.2.1 h 1 = xRes t := by
  cases hO : xO t with
  | none => rw [xRes_n hO]; exact X.2.2.2.2.2.2.2.2.2.1 hO
  | some e => rw [xRes_s hO]; exact X.2.2.2.2.2.2.2.2.2.2.1 e hO
end Ar
/-- what must hold behind the class's run -/
def cEnd2 (G G' : am_G) (s' : sT) : Prop := St0 G' ∧ cS G' s' ∧ ∀ i, 163 ≤ i → G'.2.1 i = G.2.1 i
section Rn
variable {G G1 G' : am_G} {s : sT}
theorem cEnd2.rf (hS : St0 G) (h : cS G s) : cEnd2 G G s := ⟨hS, h, fun _ _ => rfl⟩
theorem cEnd.two {s' : sT} (hS : St0 G) (h : cEnd G G' s') : cEnd2 G G' s' := ⟨h.2.St hS, h.1, fun i hi => h.2.2.2 i (by unfold clR; omega)⟩
theorem cEnd2.ck (hS : St0 G) (h : cS G s) (ho : oR aR G G1) : cEnd2 G G1 s := ⟨ho.St hS, h.ck ho, fun i hi => ho.2.2 i (by omega)⟩
theorem cS.wl {l : lT} (h : cS G s) (ho : oW 159 G G') (hl : cL G' 159 l) : cS G' (s.1, s.2.1, l) := ⟨by rw [ho.2.1 0 (by omega)]; exact h.1, fun p hp m hm => (h.2.1 p hp m hm).same (fun i h1 h2 => ho.2.1 i (by unfold mo at h1 h2; omega)), hl⟩
theorem rS.xl {l : lT} (h : rS G s) (ho : oX G G') (hl : rL G' l) : rS G' (s.1, s.2.1, l) := ⟨by rw [ho.2 11 (by omega)]; exact h.1, fun q hq => (h.2.1 q hq).j (fun i h1 h2 => ho.1.2.2 i (by omega)), hl⟩
theorem oX.rf2 (h : oX G G') : oR rfR G G' := h.1.up (fun i hi => by unfold rfR; omega)
theorem oB.rf2 (h : oB G G') : oR rfR G G' := h.1.up (fun i hi => by unfold rfR; omega)
end Rn
/-! compare -/
def sameL (l0 l1 : lT) : Prop := lNn l0 = lNn l1 ∧ ∀ k, k < lNn l1 → k < 120 → lK l0 k = lK l1 k
noncomputable def aCmpV (t0 t1 : xT) : Int32 := if xRes t0 = -5 ∨ xRes t1 = -5 then nI 3 else if ¬ xRes t0 = xRes t1 ∨ ¬ t0.1.1 = t1.1.1 then nI 1 else @ite Int32 (sameL t0.1 t1.1) (Classical.propDecidable _) (nI 0) (nI 2)
section Cm
variable {t0 t1 : xT}
theorem aC_3a (h : xRes t0 = -5) : aCmpV t0 t1 = nI 3 := if_pos (Or.inl h)
theorem aC_3b (h : xRes t1 = -5) : aCmpV t0 t1 = nI 3 := if_pos (Or.inr h)
theorem aC_n (h0 : ¬ xRes t0 = -5) (h1 : ¬ xRes t1 = -5) : aCmpV t0 t1 = if ¬ xRes t0 = xRes t1 ∨ ¬ t0.1.1 = t1.1.1 then nI 1 else @ite Int32 (sameL t0.1 t1.1) (Classical.propDecidable _) (nI 0) (nI 2) := if_neg (fun q => q.elim h0 h1)
theorem aC_1a (h0 : ¬ xRes t0 = -5) (h1 : ¬ xRes t1 = -5) (h : ¬ xRes t0 = xRes t1) : aCmpV t0 t1 = nI 1 := by rw [aC_n h0 h1, if_pos (Or.inl h)]
theorem aC_1b (h0 : ¬ xRes t0 = -5) (h1 : ¬ xRes t1 = -5) (h : ¬ t0.1.1 = t1.1.1) : aCmpV t0 t1 = nI 1 := by rw [aC_n h0 h1, if_pos (Or.inr h)]
theorem aC_0 (h0 : ¬ xRes t0 = -5) (h1 : ¬ xRes t1 = -5) (h2 : xRes t0 = xRes t1) (h3 : t0.1.1 = t1.1.1) (h : sameL t0.1 t1.1) : aCmpV t0 t1 = nI 0 := by rw [aC_n h0 h1, if_neg (fun q => q.elim (fun z => z h2) (fun z => z h3)), if_pos h]
theorem aC_2 (h0 : ¬ xRes t0 = -5) (h1 : ¬ xRes t1 = -5) (h2 : xRes t0 = xRes t1) (h3 : t0.1.1 = t1.1.1) (h : ¬ sameL t0.1 t1.1) : aCmpV t0 t1 = nI 2 := by rw [aC_n h0 h1, if_neg (fun q => q.elim (fun z => z h2) (fun z => z h3)), if_neg h]
end Cm
noncomputable def aCmp (s : sT) (m x y z : Int32) : Int32 × sT := if bel m 6 = true then @ite (Int32 × sT) (sndP (zQ s 0) m.toNatClampNeg ∧ sndP (zQ s 1) m.toNatClampNeg) (Classical.propDecidable _) (aCmpV (aT s 0 m.toNatClampNeg 1000 x y z) (aT s 1 m.toNatClampNeg 1000 x y z), (s.1, s.2.1, (aT s 1 m.toNatClampNeg 1000 x y z).1)) (-4, s) else (-1, s)
section Cn
variable {s : sT} {m x y z : Int32} {a : Nat}
theorem aCmp_o (h : bel m 6 = false) : aCmp s m x y z = (-1, s) := if_neg (by rw [h]; decide)
theorem aCmp_i (ha : a < 6) : aCmp s (nI a) x y z = @ite (Int32 × sT) (sndP (zQ s 0) a ∧ sndP (zQ s 1) a) (Classical.propDecidable _) (aCmpV (aT s 0 a 1000 x y z) (aT s 1 a 1000 x y z), (s.1, s.2.1, (aT s 1 a 1000 x y z).1)) (-4, s) := by
  unfold aCmp
  rw [if_pos (by rw [bel_nI (by omega)]; exact decide_eq_true ha), nI_clamp (by omega)]
theorem aCmp_w1 (ha : a < 6) (h : ¬ sndP (zQ s 0) a) : aCmp s (nI a) x y z = (-4, s) := by rw [aCmp_i ha, if_neg (fun q => h q.1)]
theorem aCmp_w2 (ha : a < 6) (h : ¬ sndP (zQ s 1) a) : aCmp s (nI a) x y z = (-4, s) := by rw [aCmp_i ha, if_neg (fun q => h q.2)]
theorem aCmp_y (ha : a < 6) (h0 : sndP (zQ s 0) a) (h1 : sndP (zQ s 1) a) : aCmp s (nI a) x y z = (aCmpV (aT s 0 a 1000 x y z) (aT s 1 a 1000 x y z), (s.1, s.2.1, (aT s 1 a 1000 x y z).1)) := by rw [aCmp_i ha, if_pos ⟨h0, h1⟩]
theorem aCmp_v (hv : sV s) : sV (aCmp s m x y z).2 := by
  cases h1 : bel m 6 with
  | false => rw [aCmp_o h1]; exact hv
  | true =>
    obtain ⟨a, ha, rfl⟩ := bel_of h1 (by decide)
    by_cases q0 : sndP (zQ s 0) a
    · by_cases q1 : sndP (zQ s 1) a
      · rw [aCmp_y ha q0 q1]; exact ⟨hv.1, hv.2.1, (aT_v hv (by decide) ha (by decide) q1).1⟩
      · rw [aCmp_w2 ha q1]; exact hv
    · rw [aCmp_w1 ha q0]; exact hv
end Cn
theorem nsP {b : Bool} {P : Prop} (h : b = true ↔ P) (e : b = false) : ¬ P := fun q => by rw [h.mpr q] at e; cases e

theorem rt_109 : (0, 2, 109) ∈ RT := by decide +kernel
set_option maxRecDepth 100000 in
theorem okR_run (w : am_W) {d : Nat} (hd : 9 ≤ d) (G : am_G) (s : sT) (p m l x y z : Int32) (hS : St0 G) (hc : rS G s) (hv : sV s) : am_Ok w jR_run d (0, 0) [.inr (some 163), .inl p, .inl m, .inl l, .inl x, .inl y, .inl z] G (fun r G' => r = some (.inl (aRun s p m l x y z).1) ∧ rEnd G G' (aRun s p m l x y z).2) := by
  refine am_ok_of rfl (Nat.le_of_ble_eq_true rfl) ?_
  show am_Go w jR_run d (0, 0) 0 [some (.inr (some 163)), some (.inl p), some (.inl m), some (.inl l), some (.inl x), some (.inl y), some (.inl z), none] [] G _
  refine go_iload_n dR_run_0 rfl rfl ?_
  refine go_iconst (nI 0) (by decide) dR_run_1 ?_
  refine go_iconst (nI 1) (by decide) dR_run_2 ?_
  refine go_cS (k' := (0, 0)) dR_run_3 _ csR_123 stR_in rfl (okR_in0 (d := 0) w G p 1 (by decide)) (by omega) (by decide) (Nat.le_of_ble_eq_true rfl) (fun r G1 hr hn => ?_)
  obtain ⟨rfl, hG⟩ := hr
  rw [hG]
  clear hG hn
  refine go_if_eqB dR_run_6 (tgt := 29) (by decide) (fun c6 => ?_) (fun c6 => ?_)
  · refine go_iconst (-1) (by decide) dR_run_29 ?_
    refine go_ireturn rfl dR_run_30 ?_
    first | (have q := aRun_o1 (s := s) (m := m) (l := l) (x := x) (y := y) (z := z) c6; rw [q]; exact ⟨rfl, rEnd.rf hc⟩) | (have q := aRun_o2 (s := s) (p := p) (l := l) (x := x) (y := y) (z := z) c15; rw [q]; exact ⟨rfl, rEnd.rf hc⟩) | (have q := aRun_o3 (s := s) (p := p) (m := m) (x := x) (y := y) (z := z) c26; rw [q]; exact ⟨rfl, rEnd.rf hc⟩)
  · refine go_iload_n dR_run_9 rfl rfl ?_
    refine go_iconst (nI 0) (by decide) dR_run_10 ?_
    refine go_iconst (nI 5) (by decide) dR_run_11 ?_
    refine go_cS (k' := (0, 0)) dR_run_12 _ csR_123 stR_in rfl (okR_in0 (d := 0) w G m 5 (by decide)) (by omega) (by decide) (Nat.le_of_ble_eq_true rfl) (fun r G1 hr hn => ?_)
    obtain ⟨rfl, hG⟩ := hr
    rw [hG]
    clear hG hn
    refine go_if_eqB dR_run_15 (tgt := 29) (by decide) (fun c15 => ?_) (fun c15 => ?_)
    · refine go_iconst (-1) (by decide) dR_run_29 ?_
      refine go_ireturn rfl dR_run_30 ?_
      first | (have q := aRun_o1 (s := s) (m := m) (l := l) (x := x) (y := y) (z := z) c6; rw [q]; exact ⟨rfl, rEnd.rf hc⟩) | (have q := aRun_o2 (s := s) (p := p) (l := l) (x := x) (y := y) (z := z) c15; rw [q]; exact ⟨rfl, rEnd.rf hc⟩) | (have q := aRun_o3 (s := s) (p := p) (m := m) (x := x) (y := y) (z := z) c26; rw [q]; exact ⟨rfl, rEnd.rf hc⟩)
    · refine go_iload_n dR_run_18 rfl rfl ?_
      refine go_iconst (nI 0) (by decide) dR_run_19 ?_
      refine go_sipush (nI 1000) (by decide) dR_run_20 ?_
      refine go_cS (k' := (0, 0)) dR_run_23 _ csR_123 stR_in rfl (okR_in0 (d := 0) w G l 1000 (by decide)) (by omega) (by decide) (Nat.le_of_ble_eq_true rfl) (fun r G1 hr hn => ?_)
      obtain ⟨rfl, hG⟩ := hr
      rw [hG]
      clear hG hn
      refine go_if_neB dR_run_26 (tgt := 31) (by decide) (fun c26 => ?_) (fun c26 => ?_)
      · obtain ⟨a, ha, rfl⟩ := bel_of c6 (by decide)
        obtain ⟨b, hb, rfl⟩ := bel_of c15 (by decide)
        obtain ⟨c, hc3, rfl⟩ := bel_of c26 (by decide)
        refine go_aload_n dR_run_31 rfl rfl ?_
        refine go_bipush (nI 6) (by decide) dR_run_32 ?_
        refine go_iload_n dR_run_34 rfl rfl ?_
        first | refine go_imulN dR_run_35 ?_ | refine go_imul dR_run_35 ?_
        refine go_iload_n dR_run_36 rfl rfl ?_
        first | refine go_iaddN dR_run_37 ?_ | refine go_iadd dR_run_37 ?_
        refine go_cV (k' := (0, 0)) dR_run_38 _ csR_270 (hS.s sh_163) rfl imR_allRight seR_allRight rfl (okR_allRight (d := 4) w (by decide) G a b (zQ s a) ha hb hS (rS.hR hc hv ha)) (by omega) (by decide) (Nat.le_of_ble_eq_true rfl) (fun r G1 hr hn => ?_)
        obtain ⟨t, rfl, bS, o1⟩ := hr
        have hS := o1.St hS
        refine go_istore dR_run_41 (Nat.le_of_ble_eq_true rfl) ?_
        refine go_iload dR_run_43 rfl ?_
        refine go_if_eqB dR_run_45 (tgt := 68) (by decide) (fun c45 => ?_) (fun c45 => ?_)
        · refine go_bipush (-4) (by decide) dR_run_68 ?_
          refine go_ireturn rfl dR_run_70 ?_
          first | (have q := aRun_w (x := x) (y := y) (z := z) ha hb hc3 (nsP bS c45); rw [q]; exact ⟨rfl, hc.b o1, o1.rf2⟩) | (have q := aRun_y (x := x) (y := y) (z := z) ha hb hc3 (bS.mp c45); rw [q]; exact ⟨rfl, (hc.b o1).xl o2 X2.1, o1.rf2.tr o2.rf2⟩)
        · refine go_aload_n dR_run_48 rfl rfl ?_
          refine go_bipush (nI 6) (by decide) dR_run_49 ?_
          refine go_iload_n dR_run_51 rfl rfl ?_
          first | refine go_imulN dR_run_52 ?_ | refine go_imul dR_run_52 ?_
          refine go_iload_n dR_run_53 rfl rfl ?_
          first | refine go_iaddN dR_run_54 ?_ | refine go_iadd dR_run_54 ?_
          refine go_iload_n dR_run_55 rfl rfl ?_
          refine go_iload dR_run_56 rfl ?_
          refine go_iload dR_run_58 rfl ?_
          refine go_iload dR_run_60 rfl ?_
          refine go_cV (k' := (0, 0)) dR_run_62 _ csR_273 (hS.s sh_163) rfl imR_go seR_go rfl (okR_go (d := 8) w (by decide) G1 a b c x y z (zQ s a) (zOf (zQ s a)) ha hb (by omega) (hv.q ha) (bS.mp c45).zs hS (rS.hR (hc.b o1) hv ha)) (by omega) (by decide) (Nat.le_of_ble_eq_true rfl) (fun r G1 hr hn => ?_)
          obtain ⟨rfl, X2, o2⟩ := hr
          refine go_goto dR_run_65 (tgt := 70) (by decide) ?_
          refine go_ireturn rfl dR_run_70 ?_
          first | (have q := aRun_w (x := x) (y := y) (z := z) ha hb hc3 (nsP bS c45); rw [q]; exact ⟨rfl, hc.b o1, o1.rf2⟩) | (have q := aRun_y (x := x) (y := y) (z := z) ha hb hc3 (bS.mp c45); rw [q]; exact ⟨rfl, (hc.b o1).xl o2 X2.1, o1.rf2.tr o2.rf2⟩)
      · refine go_iconst (-1) (by decide) dR_run_29 ?_
        refine go_ireturn rfl dR_run_30 ?_
        first | (have q := aRun_o1 (s := s) (m := m) (l := l) (x := x) (y := y) (z := z) c6; rw [q]; exact ⟨rfl, rEnd.rf hc⟩) | (have q := aRun_o2 (s := s) (p := p) (l := l) (x := x) (y := y) (z := z) c15; rw [q]; exact ⟨rfl, rEnd.rf hc⟩) | (have q := aRun_o3 (s := s) (p := p) (m := m) (x := x) (y := y) (z := z) c26; rw [q]; exact ⟨rfl, rEnd.rf hc⟩)
set_option maxRecDepth 100000 in
theorem R_cp (w : am_W) {d : Nat} {P : Option am_V → am_G → Prop} (G0 : am_G) (l1 l2 l3 l4 l5 l6 l7 l8 l10 : Option am_V) (K : ∀ (G : am_G) lk, St0 G → oR (fun i => i = 192) G0 G → (∀ i, i < 120 → G.2.1 192 i = G0.2.1 191 i) → am_Go w jR_compare d (0, 0) 101 [some (.inr (some 163)), l1, l2, l3, l4, l5, l6, l7, l8, lk, l10] [] G P) :
    ∀ (r k : Nat) (G : am_G), k + r = 120 → St0 G → oR (fun i => i = 192) G0 G → (∀ i, i < k → G.2.1 192 i = G0.2.1 191 i) → am_Go w jR_compare d (0, 0) 74 [some (.inr (some 163)), l1, l2, l3, l4, l5, l6, l7, l8, some (.inl (nI k)), l10] [] G P := by
  intro r
  induction r with
  | zero =>
    intro k G hk hS ho h1
    refine go_iload dR_compare_74 rfl ?_
    refine go_bipush (nI 120) (by decide) dR_compare_76 ?_
    refine go_icmp_geN (by omega) (by decide) dR_compare_78 (tgt := 101) (by decide) (fun c1 => ?_) (fun c1 => absurd c1 (by omega))
    exact K G _ hS ho (fun i hi => h1 i (by omega))
  | succ r ih =>
    intro k G hk hS ho h1
    have e1 : G.2.1 191 k = G0.2.1 191 k := by rw [ho.2.2 191 (by decide)]
    refine go_iload dR_compare_74 rfl ?_
    refine go_bipush (nI 120) (by decide) dR_compare_76 ?_
    refine go_icmp_geN (by omega) (by decide) dR_compare_78 (tgt := 101) (by decide) (fun c1 => absurd c1 (by omega)) (fun c1 => ?_)
    refine go_aload_n dR_compare_81 rfl rfl ?_
    refine go_getO (a := 192) dR_compare_82 flR_95 rfl (hS.s sh_163) (hS.r rt_kept) ?_
    refine go_iload dR_compare_85 rfl ?_
    refine go_aload_n dR_compare_87 rfl rfl ?_
    refine go_getO (a := 191) dR_compare_88 flR_92 rfl (hS.s sh_163) (hS.r rt_trace) ?_
    refine go_iload dR_compare_91 rfl ?_
    refine go_ialV (hS.s sh_191) (by omega) (by decide) e1 dR_compare_93 ?_
    refine go_iastoreN (hS.s sh_192) (by omega) (by decide) dR_compare_94 ?_
    refine go_inc dR_compare_95 rfl ?_
    refine go_goto dR_compare_98 (tgt := 74) (by decide) ?_
    refine ih (k + 1) _ (by omega) hS (ho.tr (oR.wi rfl)) (fun i hi => ?_)
    rw [wi_at]
    by_cases e : i = k
    · rw [if_pos e, e]
    · rw [if_neg e]; exact h1 i (by omega)
set_option maxRecDepth 100000 in
theorem R_cq (w : am_W) {d : Nat} (G : am_G) (l0 l : lT) (l1 l2 l3 l4 l5 l6 l7 l8 l9 : Option am_V) (hS : St0 G) (hn : lNn l0 = lNn l) (hb : lNn l < 100000) (h0 : ∀ i, i < lNn l0 → i < 120 → G.2.1 192 i = lK l0 i) (h1 : ∀ i, i < lNn l → i < 120 → G.2.1 191 i = lK l i) (ht : G.2.1 163 39 = nI (lNn l)) :
    ∀ (r k : Nat), k + r = 120 → (∀ i, i < k → i < lNn l → lK l0 i = lK l i) → am_Go w jR_compare d (0, 0) 166 [some (.inr (some 163)), l1, l2, l3, l4, l5, l6, l7, l8, l9, some (.inl (nI k))] [] G (fun r G' => (r = some (.inl (nI 0)) ∧ sameL l0 l ∨ r = some (.inl (nI 2)) ∧ ¬ sameL l0 l) ∧ G' = G) := by
  intro r
  induction r with
  | zero =>
    intro k hk he
    refine go_iload dR_compare_166 rfl ?_
    refine go_aload_n dR_compare_168 rfl rfl ?_
    refine go_getV dR_compare_169 flR_191 rfl (hS.s sh_163) (by first | assumption | (simp (disch := omega) only [wi_I, ro_I, wi_In, wi_Is]; done) | (simp (disch := omega) only [wi_I, ro_I, wi_In, wi_Is]; first | assumption | rfl) | rfl) ?_
    refine go_icmp_geN (by omega) (by omega) dR_compare_172 (tgt := 207) (by decide) (fun c172 => ?_) (fun c172 => ?_)
    · refine go_iconst (nI 0) (by decide) dR_compare_207 ?_
      refine go_ireturn rfl dR_compare_208 ?_
      exact ⟨Or.inl ⟨rfl, hn, fun i i1 i2 => he i (by omega) i1⟩, rfl⟩
    · refine go_iload dR_compare_175 rfl ?_
      refine go_bipush (nI 120) (by decide) dR_compare_177 ?_
      refine go_icmp_geN (by omega) (by decide) dR_compare_179 (tgt := 207) (by decide) (fun c1 => ?_) (fun c1 => absurd c1 (by omega))
      refine go_iconst (nI 0) (by decide) dR_compare_207 ?_
      refine go_ireturn rfl dR_compare_208 ?_
      exact ⟨Or.inl ⟨rfl, hn, fun i i1 i2 => he i (by omega) i1⟩, rfl⟩
  | succ r ih =>
    intro k hk he
    refine go_iload dR_compare_166 rfl ?_
    refine go_aload_n dR_compare_168 rfl rfl ?_
    refine go_getV dR_compare_169 flR_191 rfl (hS.s sh_163) (by first | assumption | (simp (disch := omega) only [wi_I, ro_I, wi_In, wi_Is]; done) | (simp (disch := omega) only [wi_I, ro_I, wi_In, wi_Is]; first | assumption | rfl) | rfl) ?_
    refine go_icmp_geN (by omega) (by omega) dR_compare_172 (tgt := 207) (by decide) (fun c172 => ?_) (fun c172 => ?_)
    · refine go_iconst (nI 0) (by decide) dR_compare_207 ?_
      refine go_ireturn rfl dR_compare_208 ?_
      exact ⟨Or.inl ⟨rfl, hn, fun i i1 i2 => he i (by omega) i1⟩, rfl⟩
    · refine go_iload dR_compare_175 rfl ?_
      refine go_bipush (nI 120) (by decide) dR_compare_177 ?_
      refine go_icmp_geN (by omega) (by decide) dR_compare_179 (tgt := 207) (by decide) (fun c1 => absurd c1 (by omega)) (fun c1 => ?_)
      have e0 := h0 k (by omega) (by omega)
      have e1 := h1 k (by omega) (by omega)
      refine go_aload_n dR_compare_182 rfl rfl ?_
      refine go_getO (a := 192) dR_compare_183 flR_95 rfl (hS.s sh_163) (hS.r rt_kept) ?_
      refine go_iload dR_compare_186 rfl ?_
      refine go_ialV (hS.s sh_192) (by omega) (by decide) e0 dR_compare_188 ?_
      refine go_aload_n dR_compare_189 rfl rfl ?_
      refine go_getO (a := 191) dR_compare_190 flR_92 rfl (hS.s sh_163) (hS.r rt_trace) ?_
      refine go_iload dR_compare_193 rfl ?_
      refine go_ialV (hS.s sh_191) (by omega) (by decide) e1 dR_compare_195 ?_
      refine go_icmp_eq dR_compare_196 (tgt := 201) (by decide) (fun c196 => ?_) (fun c196 => ?_)
      · refine go_inc dR_compare_201 rfl ?_
        refine go_goto dR_compare_204 (tgt := 166) (by decide) ?_
        refine ih (k + 1) (by omega) (fun i i1 i2 => ?_)
        by_cases e : i = k
        · rw [e]; exact c196
        · exact he i (by omega) i2
      · refine go_iconst (nI 2) (by decide) dR_compare_199 ?_
        refine go_ireturn rfl dR_compare_200 ?_
        exact ⟨Or.inr ⟨rfl, fun q => c196 (q.2 k (by omega) (by omega))⟩, rfl⟩
set_option maxRecDepth 100000 in
theorem okR_compare (w : am_W) {d : Nat} (hd : 9 ≤ d) (G : am_G) (s : sT) (m x y z : Int32) (hS : St0 G) (hc : rS G s) (hv : sV s) : am_Ok w jR_compare d (0, 0) [.inr (some 163), .inl m, .inl x, .inl y, .inl z] G (fun r G' => r = some (.inl (aCmp s m x y z).1) ∧ rEnd G G' (aCmp s m x y z).2) := by
  refine am_ok_of rfl (Nat.le_of_ble_eq_true rfl) ?_
  show am_Go w jR_compare d (0, 0) 0 [some (.inr (some 163)), some (.inl m), some (.inl x), some (.inl y), some (.inl z), none, none, none, none, none, none] [] G _
  refine go_iload_n dR_compare_0 rfl rfl ?_
  refine go_iconst (nI 0) (by decide) dR_compare_1 ?_
  refine go_iconst (nI 5) (by decide) dR_compare_2 ?_
  refine go_cS (k' := (0, 0)) dR_compare_3 _ csR_123 stR_in rfl (okR_in0 (d := 0) w G m 5 (by decide)) (by omega) (by decide) (Nat.le_of_ble_eq_true rfl) (fun r G1 hr hn => ?_)
  obtain ⟨rfl, hG⟩ := hr
  rw [hG]
  clear hG hn
  refine go_if_neB dR_compare_6 (tgt := 11) (by decide) (fun c6 => ?_) (fun c6 => ?_)
  · obtain ⟨b, hb, rfl⟩ := bel_of c6 (by decide)
    have e0 : nI b = nI (6 * 0 + b) := by rw [Nat.mul_zero, Nat.zero_add]
    refine go_aload_n dR_compare_11 rfl rfl ?_
    refine go_iload_n dR_compare_12 rfl rfl ?_
    have AR := okR_allRight (d := 4) w (by decide) G 0 b (zQ s 0) (by decide) hb hS (rS.hR hc hv (by decide))
    rw [← e0] at AR
    refine go_cV (k' := (0, 0)) dR_compare_13 _ csR_270 (hS.s sh_163) rfl imR_allRight seR_allRight rfl (AR) (by omega) (by decide) (Nat.le_of_ble_eq_true rfl) (fun r G1 hr hn => ?_)
    obtain ⟨t1, rfl, bS1, o1⟩ := hr
    have hS := o1.St hS
    refine go_if_eqB dR_compare_16 (tgt := 34) (by decide) (fun c16 => ?_) (fun c16 => ?_)
    · refine go_iconst (am_b false) (by decide) dR_compare_34 ?_
      refine go_istore dR_compare_35 (Nat.le_of_ble_eq_true rfl) ?_
      refine go_iload dR_compare_37 rfl ?_
      refine go_if_neB dR_compare_39 (tgt := 45) (by decide) (fun c1 => absurd c1 (by decide)) (fun c1 => ?_)
      refine go_bipush (-4) (by decide) dR_compare_42 ?_
      refine go_ireturn rfl dR_compare_44 ?_
      first | (have q := aCmp_w2 (x := x) (y := y) (z := z) hb (nsP bS2 c27); rw [q]; exact ⟨rfl, (hc.b o1).b o2, o1.rf2.tr o2.rf2⟩) | (have q := aCmp_w1 (x := x) (y := y) (z := z) hb (nsP bS1 c16); rw [q]; exact ⟨rfl, hc.b o1, o1.rf2⟩)
    · refine go_aload_n dR_compare_19 rfl rfl ?_
      refine go_bipush (nI 6) (by decide) dR_compare_20 ?_
      refine go_iload_n dR_compare_22 rfl rfl ?_
      refine go_iaddN dR_compare_23 ?_
      refine go_cV (k' := (0, 0)) dR_compare_24 _ csR_270 (hS.s sh_163) rfl imR_allRight seR_allRight rfl (okR_allRight (d := 4) w (by decide) G1 1 b (zQ s 1) (by decide) hb hS (rS.hR (hc.b o1) hv (by decide))) (by omega) (by decide) (Nat.le_of_ble_eq_true rfl) (fun r G1 hr hn => ?_)
      obtain ⟨t2, rfl, bS2, o2⟩ := hr
      have hS := o2.St hS
      refine go_if_eqB dR_compare_27 (tgt := 34) (by decide) (fun c27 => ?_) (fun c27 => ?_)
      · refine go_iconst (am_b false) (by decide) dR_compare_34 ?_
        refine go_istore dR_compare_35 (Nat.le_of_ble_eq_true rfl) ?_
        refine go_iload dR_compare_37 rfl ?_
        refine go_if_neB dR_compare_39 (tgt := 45) (by decide) (fun c1 => absurd c1 (by decide)) (fun c1 => ?_)
        refine go_bipush (-4) (by decide) dR_compare_42 ?_
        refine go_ireturn rfl dR_compare_44 ?_
        first | (have q := aCmp_w2 (x := x) (y := y) (z := z) hb (nsP bS2 c27); rw [q]; exact ⟨rfl, (hc.b o1).b o2, o1.rf2.tr o2.rf2⟩) | (have q := aCmp_w1 (x := x) (y := y) (z := z) hb (nsP bS1 c16); rw [q]; exact ⟨rfl, hc.b o1, o1.rf2⟩)
      · refine go_iconst (am_b true) (by decide) dR_compare_30 ?_
        refine go_goto dR_compare_31 (tgt := 35) (by decide) ?_
        refine go_istore dR_compare_35 (Nat.le_of_ble_eq_true rfl) ?_
        refine go_iload dR_compare_37 rfl ?_
        refine go_if_neB dR_compare_39 (tgt := 45) (by decide) (fun c1 => ?_) (fun c1 => absurd c1 (by decide))
        refine go_aload_n dR_compare_45 rfl rfl ?_
        refine go_iload_n dR_compare_46 rfl rfl ?_
        have GO := okR_go (d := 8) w (by decide) G1 0 b 1000 x y z (zQ s 0) (zOf (zQ s 0)) (by decide) hb (by decide) (hv.q (by decide)) (bS1.mp c16).zs hS (rS.hR ((hc.b o1).b o2) hv (by decide))
        rw [← e0] at GO
        refine go_sipush (nI 1000) (by decide) dR_compare_47 ?_
        refine go_iload_n dR_compare_50 rfl rfl ?_
        refine go_iload_n dR_compare_51 rfl rfl ?_
        refine go_iload dR_compare_52 rfl ?_
        refine go_cV (k' := (0, 0)) dR_compare_54 _ csR_273 (hS.s sh_163) rfl imR_go seR_go rfl (GO) (by omega) (by decide) (Nat.le_of_ble_eq_true rfl) (fun r G1 hr hn => ?_)
        obtain ⟨rfl, X3, o3⟩ := hr
        have X3 : xR 0 G1 (aT s 0 b 1000 x y z) := X3
        have hS := o3.St hS
        have rs1 := X3.1.1
        have tl1 := X3.tl
        refine go_istore dR_compare_57 (Nat.le_of_ble_eq_true rfl) ?_
        refine go_aload_n dR_compare_59 rfl rfl ?_
        refine go_getV dR_compare_60 flR_241 rfl (hS.s sh_163) (by first | assumption | (simp (disch := omega) only [wi_I, ro_I, wi_In, wi_Is]; done) | (simp (disch := omega) only [wi_I, ro_I, wi_In, wi_Is]; first | assumption | rfl) | rfl) ?_
        refine go_istore dR_compare_63 (Nat.le_of_ble_eq_true rfl) ?_
        refine go_aload_n dR_compare_65 rfl rfl ?_
        refine go_getV dR_compare_66 flR_191 rfl (hS.s sh_163) (by first | assumption | (simp (disch := omega) only [wi_I, ro_I, wi_In, wi_Is]; done) | (simp (disch := omega) only [wi_I, ro_I, wi_In, wi_Is]; first | assumption | rfl) | rfl) ?_
        refine go_istore dR_compare_69 (Nat.le_of_ble_eq_true rfl) ?_
        refine go_iconst (nI 0) (by decide) dR_compare_71 ?_
        refine go_istore dR_compare_72 (Nat.le_of_ble_eq_true rfl) ?_
        obtain ⟨Ga, ea⟩ : ∃ Ga, Ga = G1 := ⟨_, rfl⟩
        subst ea
        have hS1 := hS
        refine R_cp w Ga _ _ _ _ _ _ _ _ _ (fun X lk SX oK hK => ?_) 120 0 Ga rfl hS1 oR.rf (fun i hi => absurd hi (Nat.not_lt_zero i))
        have hS := SX
        have lb0 := (aT_v (x := x) (y := y) (z := z) hv (by decide) hb (by decide : 1000 < 1001) (bS1.mp c16)).1
        have Rx : rS X (s.1, s.2.1, (aT s 0 b 1000 x y z).1) := ⟨by rw [oK.2.2 163 (by decide)]; exact (((hc.b o1).b o2).xl o3 X3.1).1, fun q hq => ((((hc.b o1).b o2).xl o3 X3.1).2.1 q hq).j (fun i i1 i2 => oK.2.2 i (by omega)), by unfold rL; rw [oK.2.2 163 (by decide), oK.2.2 191 (by decide)]; exact X3.1⟩
        refine go_aload_n dR_compare_101 rfl rfl ?_
        refine go_bipush (nI 6) (by decide) dR_compare_102 ?_
        refine go_iload_n dR_compare_104 rfl rfl ?_
        refine go_iaddN dR_compare_105 ?_
        refine go_sipush (nI 1000) (by decide) dR_compare_106 ?_
        refine go_iload_n dR_compare_109 rfl rfl ?_
        refine go_iload_n dR_compare_110 rfl rfl ?_
        refine go_iload dR_compare_111 rfl ?_
        refine go_cV (k' := (0, 0)) dR_compare_113 _ csR_273 (hS.s sh_163) rfl imR_go seR_go rfl (okR_go (d := 8) w (by decide) X 1 b 1000 x y z (zQ s 1) (zOf (zQ s 1)) (by decide) hb (by decide) (hv.q (by decide)) (bS2.mp c27).zs SX (rS.hR (s := (s.1, s.2.1, (aT s 0 b 1000 x y z).1)) Rx ⟨hv.1, hv.2.1, lb0⟩ (by decide))) (by omega) (by decide) (Nat.le_of_ble_eq_true rfl) (fun r G1 hr hn => ?_)
        obtain ⟨rfl, X4, o4⟩ := hr
        have X4 : xR 1 G1 (aT s 1 b 1000 x y z) := X4
        have hS := o4.St hS
        have rs2 := X4.1.1
        have tl2 := X4.tl
        have lb1 := (aT_v (x := x) (y := y) (z := z) hv (by decide) hb (by decide : 1000 < 1001) (bS2.mp c27)).1
        have la : lNn (aT s 0 b 1000 x y z).1 < 100000 := lb0.2.2.2.1
        have lb : lNn (aT s 1 b 1000 x y z).1 < 100000 := lb1.2.2.2.1
        have Rf : rS G1 (s.1, s.2.1, (aT s 1 b 1000 x y z).1) := Rx.xl o4 X4.1
        have Of : oR rfR G G1 := (((o1.rf2.tr o2.rf2).tr o3.rf2).tr (oK.up (fun i hi => by unfold rfR; omega))).tr o4.rf2
        have K0 : ∀ i, i < lNn (aT s 0 b 1000 x y z).1 → i < 120 → G1.2.1 192 i = lK (aT s 0 b 1000 x y z).1 i := fun i i1 i2 => by rw [o4.1.2.2 192 (by decide), hK i i2]; exact X3.1.2.2.2.2.2.2 i i1 i2
        have K1 : ∀ i, i < lNn (aT s 1 b 1000 x y z).1 → i < 120 → G1.2.1 191 i = lK (aT s 1 b 1000 x y z).1 i := X4.1.2.2.2.2.2.2
        refine go_istore dR_compare_116 (Nat.le_of_ble_eq_true rfl) ?_
        refine go_iload dR_compare_118 rfl ?_
        refine go_bipush (-5) (by decide) dR_compare_120 ?_
        refine go_icmp_eq dR_compare_122 (tgt := 132) (by decide) (fun c122 => ?_) (fun c122 => ?_)
        · refine go_iconst (nI 3) (by decide) dR_compare_132 ?_
          refine go_ireturn rfl dR_compare_133 ?_
          rw [aCmp_y hb (bS1.mp c16) (bS2.mp c27)]
          first | (have q := aC_3a (t0 := aT s 0 b 1000 x y z) (t1 := aT s 1 b 1000 x y z) c122; rw [q]; exact ⟨rfl, Rf, Of⟩) | (have q := aC_3b (t1 := aT s 1 b 1000 x y z) (t0 := aT s 0 b 1000 x y z) c129; rw [q]; exact ⟨rfl, Rf, Of⟩)
        · refine go_iload dR_compare_125 rfl ?_
          refine go_bipush (-5) (by decide) dR_compare_127 ?_
          refine go_icmp_ne dR_compare_129 (tgt := 134) (by decide) (fun c129 => ?_) (fun c129 => ?_)
          · refine go_iload dR_compare_134 rfl ?_
            refine go_iload dR_compare_136 rfl ?_
            refine go_icmp_ne dR_compare_138 (tgt := 150) (by decide) (fun c138 => ?_) (fun c138 => ?_)
            · refine go_iconst (nI 1) (by decide) dR_compare_150 ?_
              refine go_ireturn rfl dR_compare_151 ?_
              rw [aCmp_y hb (bS1.mp c16) (bS2.mp c27)]
              first | (have q := aC_1a (t0 := aT s 0 b 1000 x y z) (t1 := aT s 1 b 1000 x y z) c122 c129 c138; rw [q]; exact ⟨rfl, Rf, Of⟩) | (have q := aC_1b (t0 := aT s 0 b 1000 x y z) (t1 := aT s 1 b 1000 x y z) c122 c129 c147; rw [q]; exact ⟨rfl, Rf, Of⟩)
            · refine go_iload dR_compare_141 rfl ?_
              refine go_aload_n dR_compare_143 rfl rfl ?_
              refine go_getV dR_compare_144 flR_241 rfl (hS.s sh_163) (by first | assumption | (simp (disch := omega) only [wi_I, ro_I, wi_In, wi_Is]; done) | (simp (disch := omega) only [wi_I, ro_I, wi_In, wi_Is]; first | assumption | rfl) | rfl) ?_
              refine go_icmp_eq dR_compare_147 (tgt := 152) (by decide) (fun c147 => ?_) (fun c147 => ?_)
              · refine go_iload dR_compare_152 rfl ?_
                refine go_aload_n dR_compare_154 rfl rfl ?_
                refine go_getV dR_compare_155 flR_191 rfl (hS.s sh_163) (by first | assumption | (simp (disch := omega) only [wi_I, ro_I, wi_In, wi_Is]; done) | (simp (disch := omega) only [wi_I, ro_I, wi_In, wi_Is]; first | assumption | rfl) | rfl) ?_
                refine go_icmp_eqN (by omega) (by omega) dR_compare_158 (tgt := 163) (by decide) (fun c158 => ?_) (fun c158 => ?_)
                · refine go_iconst (nI 0) (by decide) dR_compare_163 ?_
                  refine go_istore dR_compare_164 (Nat.le_of_ble_eq_true rfl) ?_
                  refine go_post (R_cq w G1 (aT s 0 b 1000 x y z).1 (aT s 1 b 1000 x y z).1 _ _ _ _ _ _ _ _ _ hS c158 lb K0 K1 tl2 120 0 rfl (fun i hi => absurd hi (Nat.not_lt_zero i))) (fun r9 G9 q => ?_)
                  obtain ⟨q1, rfl⟩ := q
                  rw [aCmp_y hb (bS1.mp c16) (bS2.mp c27)]
                  rcases q1 with ⟨q2, q3⟩ | ⟨q2, q3⟩
                  · rw [aC_0 (t0 := aT s 0 b 1000 x y z) (t1 := aT s 1 b 1000 x y z) c122 c129 c138 c147 q3]; exact ⟨q2, Rf, Of⟩
                  · rw [aC_2 (t0 := aT s 0 b 1000 x y z) (t1 := aT s 1 b 1000 x y z) c122 c129 c138 c147 q3]; exact ⟨q2, Rf, Of⟩
                · refine go_iconst (nI 2) (by decide) dR_compare_161 ?_
                  refine go_ireturn rfl dR_compare_162 ?_
                  rw [aCmp_y hb (bS1.mp c16) (bS2.mp c27), aC_2 (t0 := aT s 0 b 1000 x y z) (t1 := aT s 1 b 1000 x y z) c122 c129 c138 c147 (fun q => c158 q.1)]
                  exact ⟨rfl, Rf, Of⟩
              · refine go_iconst (nI 1) (by decide) dR_compare_150 ?_
                refine go_ireturn rfl dR_compare_151 ?_
                rw [aCmp_y hb (bS1.mp c16) (bS2.mp c27)]
                first | (have q := aC_1a (t0 := aT s 0 b 1000 x y z) (t1 := aT s 1 b 1000 x y z) c122 c129 c138; rw [q]; exact ⟨rfl, Rf, Of⟩) | (have q := aC_1b (t0 := aT s 0 b 1000 x y z) (t1 := aT s 1 b 1000 x y z) c122 c129 c147; rw [q]; exact ⟨rfl, Rf, Of⟩)
          · refine go_iconst (nI 3) (by decide) dR_compare_132 ?_
            refine go_ireturn rfl dR_compare_133 ?_
            rw [aCmp_y hb (bS1.mp c16) (bS2.mp c27)]
            first | (have q := aC_3a (t0 := aT s 0 b 1000 x y z) (t1 := aT s 1 b 1000 x y z) c122; rw [q]; exact ⟨rfl, Rf, Of⟩) | (have q := aC_3b (t1 := aT s 1 b 1000 x y z) (t0 := aT s 0 b 1000 x y z) c129; rw [q]; exact ⟨rfl, Rf, Of⟩)
  · refine go_iconst (-1) (by decide) dR_compare_9 ?_
    refine go_ireturn rfl dR_compare_10 ?_
    rw [aCmp_o c6]
    exact ⟨rfl, rEnd.rf hc⟩
