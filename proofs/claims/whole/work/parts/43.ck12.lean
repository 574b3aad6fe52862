def fr1 (G G1 : am_G) : Prop := oR (fun i => i = 163 ∨ i = 177) G G1 ∧ ∀ k, k ≠ 20 → G1.2.1 163 k = G.2.1 163 k
def fr2 (G G1 : am_G) : Prop := oR (fun i => i = 163 ∨ i = 178) G G1 ∧ ∀ k, k ≠ 21 → G1.2.1 163 k = G.2.1 163 k
theorem fr1.rf {G : am_G} : fr1 G G := ⟨oR.rf, fun _ _ => rfl⟩
theorem fr1.w {G G1 : am_G} {x : Int32} (h : fr1 G G1) : fr1 G (am_wi G1 163 20 x) := ⟨h.1.tr (oR.wi (Or.inl rfl)), fun k hk => by rw [wi_In hk]; exact h.2 k hk⟩
theorem fr1.k {G G1 : am_G} {j : Nat} {x : Int32} (h : fr1 G G1) : fr1 G (am_wi G1 177 j x) := ⟨h.1.tr (oR.wi (Or.inr rfl)), fun k hk => by rw [wi_I (by decide)]; exact h.2 k hk⟩
/-- what loop 1 leaves -/
def a1E (t : rT) (G G1 : am_G) (p : Nat) (y : fS) (c : Bool) : Prop := fr1 G G1 ∧ G1.2.1 163 20 = am_b c ∧ (c = false → ∃ z, t.1 p = some z ∧ (decide (z.1 = y.1) && cSm z y y.1) = false) ∧
  (c = true → (∀ z, t.1 p = some z → z.1 = y.1 ∧ ∀ i, i < y.1 → z.2.1 i = y.2.1 i) ∧ (∀ i, i < y.1 → G1.2.1 177 (8 * p + i) = nI (y.2.1 i)) ∧ ∀ j, (j < 8 * p ∨ 8 * p + 8 ≤ j) → G1.2.1 177 j = G.2.1 177 j)
theorem arr_fin {G G1 G2 X : am_G} {M : mT} {t : rT} {p : Nat} {y : fS} {c : Bool} {cv : Int32} (hI : ∀ p, p < 60 → plR G p (t.1 p)) (hcv : cv = am_b t.2.1 ∨ t.1 p = none) (h0 : t.2.2 = false) (hn6 : mN M ≤ 60) (hp : p < mN M) (hnw : nowR G y) (hb : fB y) (hk : fK y) (h1 : a1E t G G1 p y c)
    (f2 : fr2 G1 G2) (h21 : G2.2.1 163 21 = chI (t.1 p).isSome cv (fun i => G1.2.1 178 (8 * p + i)) (fun i => G1.2.1 180 i) 8)
    (h8 : ∀ j, G2.2.1 178 j = if 8 * p ≤ j ∧ j < 8 * p + 8 then vL (t.1 p).isSome (G1.2.1 178 j) (G1.2.1 180 (j - 8 * p)) else G1.2.1 178 j)
    (hX : ((t.1 p).isSome = true ∧ X = G2) ∨ ((t.1 p).isSome = false ∧ X = am_wi G2 163 21 (am_b true))) :
    rkT (am_wi (am_wi X 175 p (am_b true)) 176 p (nI y.1)) (rCome M t p y) ∧ oV G (am_wi (am_wi X 175 p (am_b true)) 176 p (nI y.1)) := by
  obtain ⟨f1, hc, hw, hr⟩ := h1
  have oX : ∀ i, i ≠ 163 → X.2.1 i = G2.2.1 i := fun i hi => by
    rcases hX with ⟨-, e⟩ | ⟨-, e⟩
    · rw [e]
    · rw [e, wi_I hi]
  have oX3 : ∀ k, k ≠ 21 → X.2.1 163 k = G2.2.1 163 k := fun k hk => by
    rcases hX with ⟨-, e⟩ | ⟨-, e⟩
    · rw [e]
    · rw [e, wi_In hk]
  have oXr : oV G2 X := by
    rcases hX with ⟨-, e⟩ | ⟨-, e⟩
    · rw [e]; exact oV.rf
    · rw [e]; exact oV.c
  have o1 : oV G G1 := ⟨f1.1.up (fun i hi => by omega), fun k h1 h2 => f1.2 k h1⟩
  have o2 : oV G1 G2 := ⟨f2.1.up (fun i hi => by omega), fun k h1 h2 => f2.2 k h2⟩
  have e78 : G1.2.1 178 = G.2.1 178 := f1.1.2.2 178 (by omega)
  have e80 : G1.2.1 180 = G.2.1 180 := f1.1.2.2 180 (by omega)
  rw [e78, e80] at h21
  have oF : oV G (am_wi (am_wi X 175 p (am_b true)) 176 p (nI y.1)) := ((((o1.tr o2).tr oXr).tr (oV.wi ⟨by omega, by omega⟩)).tr (oV.wi ⟨by omega, by omega⟩))
  refine ⟨rkT.come hI h0 hn6 hp hnw hb hk oF (c := c) (ch := chL (t.1 p).isSome t.2.1 (fun i => G.2.1 178 (8 * p + i)) (fun i => G.2.1 180 i) 8) ?_ ?_ rfl hw (fun e => ?_) (fun j => ?_) (fun j => ?_) (fun j => ?_), oF⟩
  · rw [wi_I (by decide), wi_I (by decide), oX3 20 (by decide), f2.2 20 (by decide)]; exact hc
  · rw [wi_I (by decide), wi_I (by decide)]
    rcases hX with ⟨e1, e⟩ | ⟨e1, e⟩
    · have ecv : cv = am_b t.2.1 := by
        rcases hcv with q | q
        · exact q
        · rw [q] at e1; cases e1
      rw [e, h21, ecv, chI_b, e1]; show am_b _ = am_b (_ || false); rw [Bool.or_false]
    · rw [e, wi_Is, e1]; show am_b _ = am_b (_ || true); rw [Bool.or_true]
  · obtain ⟨r1, r2, r3⟩ := hr e
    have e77 : (am_wi (am_wi X 175 p (am_b true)) 176 p (nI y.1)).2.1 177 = G1.2.1 177 := by rw [wi_I (by decide), wi_I (by decide), oX 177 (by decide), f2.1.2.2 177 (by omega)]
    rw [e77]
    exact ⟨r1, r2, r3⟩
  · rw [wi_I (by decide), wi_at, oX 175 (by decide), f2.1.2.2 175 (by omega), f1.1.2.2 175 (by omega)]
  · rw [wi_at, wi_I (by decide), oX 176 (by decide), f2.1.2.2 176 (by omega), f1.1.2.2 176 (by omega)]
  · rw [wi_I (by decide), wi_I (by decide), oX 178 (by decide), h8, e78, e80]

set_option maxRecDepth 100000 in
theorem R_a1w (w : am_W) {d : Nat} {P : Option am_V → am_G → Prop} (G1 : am_G) (q p k e : Nat) (hk : k < 1000) (he : e < 1000) (hS : St0 G1) (h18 : G1.2.1 163 18 = nI e) (h20 : G1.2.1 163 20 = am_b false) (K : am_Go w jR_arrive d (0, 0) 117 [some (.inr (some 163)), some (.inl (nI q)), some (.inl (nI p)), some (.inl (nI k)), none] [] G1 P) : am_Go w jR_arrive d (0, 0) 45 [some (.inr (some 163)), some (.inl (nI q)), some (.inl (nI p)), some (.inl (nI k)), none] [] G1 P := by
  refine go_iload_n dR_arrive_45 rfl rfl ?_
  refine go_aload_n dR_arrive_46 rfl rfl ?_
  refine go_getV dR_arrive_47 flR_152 rfl (hS.s sh_163) (by first | assumption | (simp (disch := omega) only [wi_I, ro_I, wi_In, wi_Is]; done) | (simp (disch := omega) only [wi_I, ro_I, wi_In, wi_Is]; first | assumption | rfl) | rfl) ?_
  refine go_icmp_geN (by omega) (by omega) dR_arrive_50 (tgt := 117) (by decide) (fun c50 => ?_) (fun c50 => ?_)
  · exact K
  · refine go_aload_n dR_arrive_53 rfl rfl ?_
    refine go_getV dR_arrive_54 flR_155 rfl (hS.s sh_163) (by first | assumption | (simp (disch := omega) only [wi_I, ro_I, wi_In, wi_Is]; done) | (simp (disch := omega) only [wi_I, ro_I, wi_In, wi_Is]; first | assumption | rfl) | rfl) ?_
    refine go_if_eqB dR_arrive_57 (tgt := 117) (by decide) (fun c1 => ?_) (fun c1 => absurd c1 (by decide))
    exact K
section A1
variable {G G1 : am_G} {p k : Nat} {z y : fS}
theorem a1x (hk : k < y.1) (h : ¬ z.2.1 k = y.2.1 k) : (decide (z.1 = y.1) && cSm z y y.1) = false := by
  cases e : cSm z y y.1 with
  | false => rw [Bool.and_false]
  | true => exact absurd (cSm_t e k hk) h
theorem a1w (h1 : ∀ i, i < k → G1.2.1 177 (8 * p + i) = nI (y.2.1 i)) : ∀ i, i < k + 1 → (am_wi G1 177 (8 * p + k) (nI (y.2.1 k))).2.1 177 (8 * p + i) = nI (y.2.1 i) := fun i hi => by
  rw [wi_at]
  by_cases e : i = k
  · rw [if_pos (by omega), e]
  · rw [if_neg (by omega)]; exact h1 i (by omega)
theorem a1o {v : Int32} (h2 : ∀ j, (j < 8 * p ∨ 8 * p + k ≤ j) → G1.2.1 177 j = G.2.1 177 j) : ∀ j, (j < 8 * p ∨ 8 * p + (k + 1) ≤ j) → (am_wi G1 177 (8 * p + k) v).2.1 177 j = G.2.1 177 j := fun j hj => by
  rw [wi_In (by omega)]; exact h2 j (by omega)
theorem a1s (h : ∀ i, i < k → z.2.1 i = y.2.1 i) (h2 : z.2.1 k = y.2.1 k) : ∀ i, i < k + 1 → z.2.1 i = y.2.1 i := fun i hi => by
  by_cases e : i = k
  · rw [e]; exact h2
  · exact h i (by omega)
theorem a1n {s : Option fS} (h : s.isSome = false) : s = none := by cases s with | none => rfl | some _ => cases h
end A1
set_option maxRecDepth 100000 in
theorem R_a1 (w : am_W) {d : Nat} {P : Option am_V → am_G → Prop} (G : am_G) (t : rT) (q p : Nat) (y : fS) (hp : p < 60) (hI : ∀ i, i < 60 → plR G i (t.1 i)) (hb : fB y) (hnw : nowR G y) (hz1 : ∀ z, t.1 p = some z → z.1 = y.1) (K : ∀ (G1 : am_G) (c : Bool) lk, St0 G1 → a1E t G G1 p y c → am_Go w jR_arrive d (0, 0) 117 [some (.inr (some 163)), some (.inl (nI q)), some (.inl (nI p)), lk, none] [] G1 P) :
    ∀ (r k : Nat) (G1 : am_G), k + r = y.1 → St0 G1 → fr1 G G1 → G1.2.1 163 20 = am_b true → (∀ i, i < k → G1.2.1 177 (8 * p + i) = nI (y.2.1 i)) → (∀ j, (j < 8 * p ∨ 8 * p + k ≤ j) → G1.2.1 177 j = G.2.1 177 j) → (∀ z, t.1 p = some z → ∀ i, i < k → z.2.1 i = y.2.1 i) → am_Go w jR_arrive d (0, 0) 45 [some (.inr (some 163)), some (.inl (nI q)), some (.inl (nI p)), some (.inl (nI k)), none] [] G1 P := by
  intro r
  induction r with
  | zero =>
    intro k G1 hk hS hf h20 h1 h2 h3
    have h8 := hb.1
    have h18 : G1.2.1 163 18 = nI y.1 := by rw [hf.2 18 (by decide)]; exact hnw.1
    refine go_iload_n dR_arrive_45 rfl rfl ?_
    refine go_aload_n dR_arrive_46 rfl rfl ?_
    refine go_getV dR_arrive_47 flR_152 rfl (hS.s sh_163) (by first | assumption | (simp (disch := omega) only [wi_I, ro_I, wi_In, wi_Is]; done) | (simp (disch := omega) only [wi_I, ro_I, wi_In, wi_Is]; first | assumption | rfl) | rfl) ?_
    refine go_icmp_geN (by omega) (by omega) dR_arrive_50 (tgt := 117) (by decide) (fun c1 => ?_) (fun c1 => absurd c1 (by omega))
    exact K G1 true _ hS ⟨hf, h20, (fun e => by cases e), fun _ => ⟨fun z hz => ⟨hz1 z hz, fun i hi => h3 z hz i (by omega)⟩, fun i hi => h1 i (by omega), fun j hj => h2 j (by omega)⟩⟩
  | succ r ih =>
    intro k G1 hk hS hf h20 h1 h2 h3
    have h8 := hb.1
    have h18 : G1.2.1 163 18 = nI y.1 := by rw [hf.2 18 (by decide)]; exact hnw.1
    have h75 : G1.2.1 175 p = am_b (t.1 p).isSome := by rw [hf.1.2.2 175 (by omega)]; exact (hI p hp).1
    have h79 : G1.2.1 179 k = nI (y.2.1 k) := by rw [hf.1.2.2 179 (by omega)]; exact hnw.2.1 k (by omega)
    have hyb := hb.2.1 k (by omega)
    refine go_iload_n dR_arrive_45 rfl rfl ?_
    refine go_aload_n dR_arrive_46 rfl rfl ?_
    refine go_getV dR_arrive_47 flR_152 rfl (hS.s sh_163) (by first | assumption | (simp (disch := omega) only [wi_I, ro_I, wi_In, wi_Is]; done) | (simp (disch := omega) only [wi_I, ro_I, wi_In, wi_Is]; first | assumption | rfl) | rfl) ?_
    refine go_icmp_geN (by omega) (by omega) dR_arrive_50 (tgt := 117) (by decide) (fun c1 => absurd c1 (by omega)) (fun c1 => ?_)
    refine go_aload_n dR_arrive_53 rfl rfl ?_
    refine go_getV dR_arrive_54 flR_155 rfl (hS.s sh_163) (by first | assumption | (simp (disch := omega) only [wi_I, ro_I, wi_In, wi_Is]; done) | (simp (disch := omega) only [wi_I, ro_I, wi_In, wi_Is]; first | assumption | rfl) | rfl) ?_
    refine go_if_eqB dR_arrive_57 (tgt := 117) (by decide) (fun c1 => absurd c1 (by decide)) (fun c1 => ?_)
    refine go_aload_n dR_arrive_60 rfl rfl ?_
    refine go_getO (a := 175) dR_arrive_61 flR_44 rfl (hS.s sh_163) (hS.r rt_come) ?_
    refine go_iload_n dR_arrive_64 rfl rfl ?_
    refine go_balV (hS.s sh_175) (by omega) (by decide) h75 dR_arrive_65 ?_
    refine go_if_eqB dR_arrive_66 (tgt := 94) (by decide) (fun c66 => ?_) (fun c66 => ?_)
    · refine go_aload_n dR_arrive_94 rfl rfl ?_
      refine go_getO (a := 177) dR_arrive_95 flR_50 rfl (hS.s sh_163) (hS.r rt_sKind) ?_
      refine go_bipush (nI 8) (by decide) dR_arrive_98 ?_
      refine go_iload_n dR_arrive_100 rfl rfl ?_
      first | refine go_imulN dR_arrive_101 ?_ | refine go_imul dR_arrive_101 ?_
      refine go_iload_n dR_arrive_102 rfl rfl ?_
      first | refine go_iaddN dR_arrive_103 ?_ | refine go_iadd dR_arrive_103 ?_
      refine go_aload_n dR_arrive_104 rfl rfl ?_
      refine go_getO (a := 179) dR_arrive_105 flR_56 rfl (hS.s sh_163) (hS.r rt_kind) ?_
      refine go_iload_n dR_arrive_108 rfl rfl ?_
      refine go_ialV (v := nI (y.2.1 k)) (hS.s sh_179) (by omega) (by decide) (by first | exact h79 | (rw [wi_I (by decide)]; exact h79)) dR_arrive_109 ?_
      refine go_iastoreN (hS.s sh_177) (by omega) (by decide) dR_arrive_110 ?_
      first | refine go_inc dR_arrive_111 rfl ?_ | refine go_iinc dR_arrive_111 rfl ?_
      refine go_goto dR_arrive_114 (tgt := 45) (by decide) ?_
      first | exact R_a1w w _ q p (k + 1) y.1 (by omega) (by omega) hS (by rw [wi_I (by decide), wi_In (by decide)]; exact h18) (by rw [wi_I (by decide), wi_Is]) (K _ false _ hS ⟨hf.w.k, (by rw [wi_I (by decide), wi_Is]), (fun _ => ⟨z, hz, a1x (by omega) c86⟩), (fun e => by cases e)⟩) | exact ih (k + 1) _ (by omega) hS hf.k (by rw [wi_I (by decide)]; exact h20) (a1w h1) (a1o h2) (fun z2 hz2 i hi => a1s (h3 z2 hz2) (by first | exact absurd hz2 (by rw [a1n c66]; exact fun q => by cases q) | (rw [hz] at hz2; cases hz2; exact c86)) i hi)
    · obtain ⟨z, hz⟩ := Option.isSome_iff_exists.mp c66
      have e1 := hz1 z hz
      obtain ⟨a1, a2, a3, a4, a5⟩ := (hI p hp).2 z hz
      have h77 : G1.2.1 177 (8 * p + k) = nI (z.2.1 k) := by rw [h2 _ (by omega)]; exact a2 k (by omega)
      have hzb := a4.2.1 k (by omega)
      refine go_aload_n dR_arrive_69 rfl rfl ?_
      refine go_getO (a := 177) dR_arrive_70 flR_50 rfl (hS.s sh_163) (hS.r rt_sKind) ?_
      refine go_bipush (nI 8) (by decide) dR_arrive_73 ?_
      refine go_iload_n dR_arrive_75 rfl rfl ?_
      first | refine go_imulN dR_arrive_76 ?_ | refine go_imul dR_arrive_76 ?_
      refine go_iload_n dR_arrive_77 rfl rfl ?_
      first | refine go_iaddN dR_arrive_78 ?_ | refine go_iadd dR_arrive_78 ?_
      refine go_ialV (hS.s sh_177) (by omega) (by decide) h77 dR_arrive_79 ?_
      refine go_aload_n dR_arrive_80 rfl rfl ?_
      refine go_getO (a := 179) dR_arrive_81 flR_56 rfl (hS.s sh_163) (hS.r rt_kind) ?_
      refine go_iload_n dR_arrive_84 rfl rfl ?_
      refine go_ialV (hS.s sh_179) (by omega) (by decide) h79 dR_arrive_85 ?_
      refine go_icmp_eqN (by omega) (by omega) dR_arrive_86 (tgt := 94) (by decide) (fun c86 => ?_) (fun c86 => ?_)
      · refine go_aload_n dR_arrive_94 rfl rfl ?_
        refine go_getO (a := 177) dR_arrive_95 flR_50 rfl (hS.s sh_163) (hS.r rt_sKind) ?_
        refine go_bipush (nI 8) (by decide) dR_arrive_98 ?_
        refine go_iload_n dR_arrive_100 rfl rfl ?_
        first | refine go_imulN dR_arrive_101 ?_ | refine go_imul dR_arrive_101 ?_
        refine go_iload_n dR_arrive_102 rfl rfl ?_
        first | refine go_iaddN dR_arrive_103 ?_ | refine go_iadd dR_arrive_103 ?_
        refine go_aload_n dR_arrive_104 rfl rfl ?_
        refine go_getO (a := 179) dR_arrive_105 flR_56 rfl (hS.s sh_163) (hS.r rt_kind) ?_
        refine go_iload_n dR_arrive_108 rfl rfl ?_
        refine go_ialV (v := nI (y.2.1 k)) (hS.s sh_179) (by omega) (by decide) (by first | exact h79 | (rw [wi_I (by decide)]; exact h79)) dR_arrive_109 ?_
        refine go_iastoreN (hS.s sh_177) (by omega) (by decide) dR_arrive_110 ?_
        first | refine go_inc dR_arrive_111 rfl ?_ | refine go_iinc dR_arrive_111 rfl ?_
        refine go_goto dR_arrive_114 (tgt := 45) (by decide) ?_
        first | exact R_a1w w _ q p (k + 1) y.1 (by omega) (by omega) hS (by rw [wi_I (by decide), wi_In (by decide)]; exact h18) (by rw [wi_I (by decide), wi_Is]) (K _ false _ hS ⟨hf.w.k, (by rw [wi_I (by decide), wi_Is]), (fun _ => ⟨z, hz, a1x (by omega) c86⟩), (fun e => by cases e)⟩) | exact ih (k + 1) _ (by omega) hS hf.k (by rw [wi_I (by decide)]; exact h20) (a1w h1) (a1o h2) (fun z2 hz2 i hi => a1s (h3 z2 hz2) (by first | exact absurd hz2 (by rw [a1n c66]; exact fun q => by cases q) | (rw [hz] at hz2; cases hz2; exact c86)) i hi)
      · refine go_aload_n dR_arrive_89 rfl rfl ?_
        refine go_iconst (am_b false) (by decide) dR_arrive_90 ?_
        refine go_putZ (am_b_01 _) dR_arrive_91 fpR_155 rfl (hS.s sh_163) ?_
        refine go_aload_n dR_arrive_94 rfl rfl ?_
        refine go_getO (a := 177) dR_arrive_95 flR_50 rfl (hS.s sh_163) (hS.r rt_sKind) ?_
        refine go_bipush (nI 8) (by decide) dR_arrive_98 ?_
        refine go_iload_n dR_arrive_100 rfl rfl ?_
        first | refine go_imulN dR_arrive_101 ?_ | refine go_imul dR_arrive_101 ?_
        refine go_iload_n dR_arrive_102 rfl rfl ?_
        first | refine go_iaddN dR_arrive_103 ?_ | refine go_iadd dR_arrive_103 ?_
        refine go_aload_n dR_arrive_104 rfl rfl ?_
        refine go_getO (a := 179) dR_arrive_105 flR_56 rfl (hS.s sh_163) (hS.r rt_kind) ?_
        refine go_iload_n dR_arrive_108 rfl rfl ?_
        refine go_ialV (v := nI (y.2.1 k)) (hS.s sh_179) (by omega) (by decide) (by first | exact h79 | (rw [wi_I (by decide)]; exact h79)) dR_arrive_109 ?_
        refine go_iastoreN (hS.s sh_177) (by omega) (by decide) dR_arrive_110 ?_
        first | refine go_inc dR_arrive_111 rfl ?_ | refine go_iinc dR_arrive_111 rfl ?_
        refine go_goto dR_arrive_114 (tgt := 45) (by decide) ?_
        first | exact R_a1w w _ q p (k + 1) y.1 (by omega) (by omega) hS (by rw [wi_I (by decide), wi_In (by decide)]; exact h18) (by rw [wi_I (by decide), wi_Is]) (K _ false _ hS ⟨hf.w.k, (by rw [wi_I (by decide), wi_Is]), (fun _ => ⟨z, hz, a1x (by omega) c86⟩), (fun e => by cases e)⟩) | exact ih (k + 1) _ (by omega) hS hf.k (by rw [wi_I (by decide)]; exact h20) (a1w h1) (a1o h2) (fun z2 hz2 i hi => a1s (h3 z2 hz2) (by first | exact absurd hz2 (by rw [a1n c66]; exact fun q => by cases q) | (rw [hz] at hz2; cases hz2; exact c86)) i hi)
set_option maxRecDepth 100000 in
theorem R_a3 (w : am_W) {d : Nat} (G G1 : am_G) (M : mT) (t : rT) (q p : Nat) (y : fS) (c : Bool) (lk : Option am_V) (hn6 : mN M ≤ 60) (hp : p < mN M) (hS1 : St0 G1) (hnw : nowR G y) (hb : fB y) (hk : fK y) (hI2 : ∀ p, p < 60 → plR G p (t.1 p)) (cv : Int32) (hi2 : G.2.1 163 21 = cv) (hcv : cv = am_b t.2.1 ∨ t.1 p = none) (h0 : t.2.2 = false) (h1 : a1E t G G1 p y c) : am_Go w jR_arrive d (0, 0) 117 [some (.inr (some 163)), some (.inl (nI q)), some (.inl (nI p)), lk, none] [] G1 (fun r G' => r = none ∧ rkT G' (rCome M t p y) ∧ oV G G') := by
  refine go_iconst (nI 0) (by decide) dR_arrive_117 ?_
  refine go_istore_n dR_arrive_118 rfl (Nat.le_of_ble_eq_true rfl) ?_
  refine R_a2 w G1 q p (t.1 p).isSome cv (by omega) (by rw [h1.1.1.2.2 175 (by omega)]; exact (hI2 p (by omega)).1) (fun G2 lk2 ll2 hS2 f2 h21 h8 => ?_) 8 0 G1 none rfl hS1 ⟨oR.rf, fun _ _ => rfl⟩ (by rw [h1.1.2 21 (by decide)]; exact hi2) (fun j => by rw [if_neg (by omega)])
  have e75 : G2.2.1 175 p = am_b (t.1 p).isSome := by rw [f2.1.2.2 175 (by omega), h1.1.1.2.2 175 (by omega)]; exact (hI2 p (by omega)).1
  have e18 : G2.2.1 163 18 = nI y.1 := by rw [f2.2 18 (by decide), h1.1.2 18 (by decide)]; exact hnw.1
  clear hS1
  have hS := hS2
  refine go_aload_n dR_arrive_215 rfl rfl ?_
  refine go_getO (a := 175) dR_arrive_216 flR_44 rfl (hS.s sh_163) (hS.r rt_come) ?_
  refine go_iload_n dR_arrive_219 rfl rfl ?_
  refine go_balV (hS.s sh_175) (by omega) (by decide) e75 dR_arrive_220 ?_
  refine go_if_neB dR_arrive_221 (tgt := 229) (by decide) (fun c221 => ?_) (fun c221 => ?_)
  · refine go_aload_n dR_arrive_229 rfl rfl ?_
    refine go_getO (a := 175) dR_arrive_230 flR_44 rfl (hS.s sh_163) (hS.r rt_come) ?_
    refine go_iload_n dR_arrive_233 rfl rfl ?_
    refine go_iconst (am_b true) (by decide) dR_arrive_234 ?_
    refine go_bastoreN (am_b_and1 true) (hS.s sh_175) (by omega) (by decide) dR_arrive_235 ?_
    refine go_aload_n dR_arrive_236 rfl rfl ?_
    refine go_getO (a := 176) dR_arrive_237 flR_47 rfl (hS.s sh_163) (hS.r rt_deep) ?_
    refine go_iload_n dR_arrive_240 rfl rfl ?_
    refine go_aload_n dR_arrive_241 rfl rfl ?_
    refine go_getV (v := nI y.1) dR_arrive_242 flR_152 rfl (hS.s sh_163) (by first | (rw [wi_I (by decide), wi_In (by decide)]; exact e18) | (rw [wi_I (by decide)]; exact e18)) ?_
    refine go_iastoreN (hS.s sh_176) (by omega) (by decide) dR_arrive_245 ?_
    refine go_return rfl dR_arrive_246 ?_
    first | exact ⟨rfl, arr_fin hI2 hcv h0 hn6 hp hnw hb hk h1 f2 h21 h8 (Or.inl ⟨c221, rfl⟩)⟩ | exact ⟨rfl, arr_fin hI2 hcv h0 hn6 hp hnw hb hk h1 f2 h21 h8 (Or.inr ⟨c221, rfl⟩)⟩
  · refine go_aload_n dR_arrive_224 rfl rfl ?_
    refine go_iconst (am_b true) (by decide) dR_arrive_225 ?_
    refine go_putZ (am_b_01 _) dR_arrive_226 fpR_159 rfl (hS.s sh_163) ?_
    refine go_aload_n dR_arrive_229 rfl rfl ?_
    refine go_getO (a := 175) dR_arrive_230 flR_44 rfl (hS.s sh_163) (hS.r rt_come) ?_
    refine go_iload_n dR_arrive_233 rfl rfl ?_
    refine go_iconst (am_b true) (by decide) dR_arrive_234 ?_
    refine go_bastoreN (am_b_and1 true) (hS.s sh_175) (by omega) (by decide) dR_arrive_235 ?_
    refine go_aload_n dR_arrive_236 rfl rfl ?_
    refine go_getO (a := 176) dR_arrive_237 flR_47 rfl (hS.s sh_163) (hS.r rt_deep) ?_
    refine go_iload_n dR_arrive_240 rfl rfl ?_
    refine go_aload_n dR_arrive_241 rfl rfl ?_
    refine go_getV (v := nI y.1) dR_arrive_242 flR_152 rfl (hS.s sh_163) (by first | (rw [wi_I (by decide), wi_In (by decide)]; exact e18) | (rw [wi_I (by decide)]; exact e18)) ?_
    refine go_iastoreN (hS.s sh_176) (by omega) (by decide) dR_arrive_245 ?_
    refine go_return rfl dR_arrive_246 ?_
    first | exact ⟨rfl, arr_fin hI2 hcv h0 hn6 hp hnw hb hk h1 f2 h21 h8 (Or.inl ⟨c221, rfl⟩)⟩ | exact ⟨rfl, arr_fin hI2 hcv h0 hn6 hp hnw hb hk h1 f2 h21 h8 (Or.inr ⟨c221, rfl⟩)⟩
set_option maxRecDepth 100000 in
theorem okR_arriveG (w : am_W) {d : Nat} (G : am_G) (M : mT) (t : rT) (q p : Nat) (y : fS) (hq : q < 12) (hp1 : p < 1000) (hn6 : mN M ≤ 60) (hN : G.2.1 167 q = nI (mN M)) (hS : St0 G) (hnw : nowR G y) (hb : fB y) (hk : fK y) (hi1 : G.2.1 163 20 = am_b true) (hI2 : ∀ p, p < 60 → plR G p (t.1 p)) (cv : Int32) (hi2 : G.2.1 163 21 = cv) (hcv : cv = am_b t.2.1 ∨ t.1 p = none) (h0 : t.2.2 = false) : am_Ok w jR_arrive d (0, 0) [.inr (some 163), .inl (nI q), .inl (nI p)] G (fun r G' => r = none ∧ rkT G' (rCome M t p y) ∧ oV G G') := by
  refine am_ok_of rfl (Nat.le_of_ble_eq_true rfl) ?_
  show am_Go w jR_arrive d (0, 0) 0 [some (.inr (some 163)), some (.inl (nI q)), some (.inl (nI p)), none, none] [] G _
  have hdp := hnw.1
  have hb8 := hb.1
  refine go_iload_n dR_arrive_0 rfl rfl ?_
  refine go_aload_n dR_arrive_1 rfl rfl ?_
  refine go_getO (a := 167) dR_arrive_2 flR_19 rfl (hS.s sh_163) (hS.r rt_many) ?_
  refine go_iload_n dR_arrive_5 rfl rfl ?_
  refine go_ialV (hS.s sh_167) (by omega) (by decide) hN dR_arrive_6 ?_
  refine go_icmp_ltN (by omega) (by omega) dR_arrive_7 (tgt := 16) (by decide) (fun c7 => ?_) (fun c7 => ?_)
  · have c7a : p < mN M := c7
    have h75 := (hI2 p (by omega)).1
    refine go_aload_n dR_arrive_16 rfl rfl ?_
    refine go_getO (a := 175) dR_arrive_17 flR_44 rfl (hS.s sh_163) (hS.r rt_come) ?_
    refine go_iload_n dR_arrive_20 rfl rfl ?_
    refine go_balV (hS.s sh_175) (by omega) (by decide) h75 dR_arrive_21 ?_
    refine go_if_eqB dR_arrive_22 (tgt := 43) (by decide) (fun c22 => ?_) (fun c22 => ?_)
    · refine go_iconst (nI 0) (by decide) dR_arrive_43 ?_
      refine go_istore_n dR_arrive_44 rfl (Nat.le_of_ble_eq_true rfl) ?_
      first | exact R_a1 w G t q p y (by omega) hI2 hb hnw (fun z hz => absurd hz (by rw [a1n c22]; exact fun q => by cases q)) (fun G1 c lk hS1 h1 => R_a3 w G G1 M t q p y c lk hn6 c7a hS1 hnw hb hk hI2 _ hi2 hcv h0 h1) y.1 0 G (by omega) hS fr1.rf hi1 (fun i hi => absurd hi (by omega)) (fun j _ => rfl) (fun z _ i hi => absurd hi (by omega)) | exact R_a1 w G t q p y (by omega) hI2 hb hnw (fun z2 hz2 => by rw [hz] at hz2; cases hz2; exact c35) (fun G1 c lk hS1 h1 => R_a3 w G G1 M t q p y c lk hn6 c7a hS1 hnw hb hk hI2 _ hi2 hcv h0 h1) y.1 0 G (by omega) hS fr1.rf hi1 (fun i hi => absurd hi (by omega)) (fun j _ => rfl) (fun z _ i hi => absurd hi (by omega)) | exact R_a1w w _ q p 0 y.1 (by omega) (by omega) hS (by rw [wi_In (by decide)]; exact hdp) wi_Is (R_a3 w G _ M t q p y false _ hn6 c7a hS hnw hb hk hI2 _ hi2 hcv h0 ⟨fr1.rf.w, wi_Is, (fun _ => ⟨z, hz, by rw [decide_eq_false c35]; rfl⟩), (fun e => by cases e)⟩)
    · obtain ⟨z, hz⟩ := Option.isSome_iff_exists.mp c22
      obtain ⟨a1, a2, a3, a4, a5⟩ := (hI2 p (by omega)).2 z hz
      have hz8 := a4.1
      refine go_aload_n dR_arrive_25 rfl rfl ?_
      refine go_getO (a := 176) dR_arrive_26 flR_47 rfl (hS.s sh_163) (hS.r rt_deep) ?_
      refine go_iload_n dR_arrive_29 rfl rfl ?_
      refine go_ialV (hS.s sh_176) (by omega) (by decide) a1 dR_arrive_30 ?_
      refine go_aload_n dR_arrive_31 rfl rfl ?_
      refine go_getV dR_arrive_32 flR_152 rfl (hS.s sh_163) (by first | assumption | (simp (disch := omega) only [wi_I, ro_I, wi_In, wi_Is]; done) | (simp (disch := omega) only [wi_I, ro_I, wi_In, wi_Is]; first | assumption | rfl) | rfl) ?_
      refine go_icmp_eqN (by omega) (by omega) dR_arrive_35 (tgt := 43) (by decide) (fun c35 => ?_) (fun c35 => ?_)
      · refine go_iconst (nI 0) (by decide) dR_arrive_43 ?_
        refine go_istore_n dR_arrive_44 rfl (Nat.le_of_ble_eq_true rfl) ?_
        first | exact R_a1 w G t q p y (by omega) hI2 hb hnw (fun z hz => absurd hz (by rw [a1n c22]; exact fun q => by cases q)) (fun G1 c lk hS1 h1 => R_a3 w G G1 M t q p y c lk hn6 c7a hS1 hnw hb hk hI2 _ hi2 hcv h0 h1) y.1 0 G (by omega) hS fr1.rf hi1 (fun i hi => absurd hi (by omega)) (fun j _ => rfl) (fun z _ i hi => absurd hi (by omega)) | exact R_a1 w G t q p y (by omega) hI2 hb hnw (fun z2 hz2 => by rw [hz] at hz2; cases hz2; exact c35) (fun G1 c lk hS1 h1 => R_a3 w G G1 M t q p y c lk hn6 c7a hS1 hnw hb hk hI2 _ hi2 hcv h0 h1) y.1 0 G (by omega) hS fr1.rf hi1 (fun i hi => absurd hi (by omega)) (fun j _ => rfl) (fun z _ i hi => absurd hi (by omega)) | exact R_a1w w _ q p 0 y.1 (by omega) (by omega) hS (by rw [wi_In (by decide)]; exact hdp) wi_Is (R_a3 w G _ M t q p y false _ hn6 c7a hS hnw hb hk hI2 _ hi2 hcv h0 ⟨fr1.rf.w, wi_Is, (fun _ => ⟨z, hz, by rw [decide_eq_false c35]; rfl⟩), (fun e => by cases e)⟩)
      · refine go_aload_n dR_arrive_38 rfl rfl ?_
        refine go_iconst (am_b false) (by decide) dR_arrive_39 ?_
        refine go_putZ (am_b_01 _) dR_arrive_40 fpR_155 rfl (hS.s sh_163) ?_
        refine go_iconst (nI 0) (by decide) dR_arrive_43 ?_
        refine go_istore_n dR_arrive_44 rfl (Nat.le_of_ble_eq_true rfl) ?_
        first | exact R_a1 w G t q p y (by omega) hI2 hb hnw (fun z hz => absurd hz (by rw [a1n c22]; exact fun q => by cases q)) (fun G1 c lk hS1 h1 => R_a3 w G G1 M t q p y c lk hn6 c7a hS1 hnw hb hk hI2 _ hi2 hcv h0 h1) y.1 0 G (by omega) hS fr1.rf hi1 (fun i hi => absurd hi (by omega)) (fun j _ => rfl) (fun z _ i hi => absurd hi (by omega)) | exact R_a1 w G t q p y (by omega) hI2 hb hnw (fun z2 hz2 => by rw [hz] at hz2; cases hz2; exact c35) (fun G1 c lk hS1 h1 => R_a3 w G G1 M t q p y c lk hn6 c7a hS1 hnw hb hk hI2 _ hi2 hcv h0 h1) y.1 0 G (by omega) hS fr1.rf hi1 (fun i hi => absurd hi (by omega)) (fun j _ => rfl) (fun z _ i hi => absurd hi (by omega)) | exact R_a1w w _ q p 0 y.1 (by omega) (by omega) hS (by rw [wi_In (by decide)]; exact hdp) wi_Is (R_a3 w G _ M t q p y false _ hn6 c7a hS hnw hb hk hI2 _ hi2 hcv h0 ⟨fr1.rf.w, wi_Is, (fun _ => ⟨z, hz, by rw [decide_eq_false c35]; rfl⟩), (fun e => by cases e)⟩)
  · refine go_aload_n dR_arrive_10 rfl rfl ?_
    refine go_iconst (am_b false) (by decide) dR_arrive_11 ?_
    refine go_putZ (am_b_01 _) dR_arrive_12 fpR_155 rfl (hS.s sh_163) ?_
    refine go_return rfl dR_arrive_15 ?_
    exact ⟨rfl, by rw [rCome_out (by omega)]; exact ⟨wi_Is, fun e => by cases e⟩, oV.w⟩
theorem okR_arrive (w : am_W) {d : Nat} (G : am_G) (M : mT) (t : rT) (q p : Nat) (y : fS) (hq : q < 12) (hp1 : p < 1000) (hn6 : mN M ≤ 60) (hN : G.2.1 167 q = nI (mN M)) (hS : St0 G) (hnw : nowR G y) (hb : fB y) (hk : fK y) (hI : rkT G t) (h0 : t.2.2 = false) : am_Ok w jR_arrive d (0, 0) [.inr (some 163), .inl (nI q), .inl (nI p)] G (fun r G' => r = none ∧ rkT G' (rCome M t p y) ∧ oV G G') :=
  okR_arriveG w G M t q p y hq hp1 hn6 hN hS hnw hb hk (by rw [hI.1, h0]; rfl) (hI.2 h0).2 (am_b t.2.1) (hI.2 h0).1 (Or.inl rfl) h0
