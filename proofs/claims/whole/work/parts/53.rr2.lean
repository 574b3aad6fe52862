section Ra
variable {M : mT} {p t r k : Nat}
theorem xRow_a (h : p < mF M k) : xRow M p t (r + 1) k = xRow M p t r (k + 1) := if_neg (fun q => absurd q.1.1 (by omega))
theorem xRow_b (h : mE M k ≤ p) : xRow M p t (r + 1) k = xRow M p t r (k + 1) := if_neg (fun q => absurd q.1.2 (by omega))
theorem xRow_c (h : und t (mY M k) = false) : xRow M p t (r + 1) k = xRow M p t r (k + 1) := if_neg (fun q => by rw [h] at q; exact absurd q.2 (by decide))
theorem xRow_y (h1 : mF M k ≤ p) (h2 : p < mE M k) (h3 : und t (mY M k) = true) : xRow M p t (r + 1) k = some k := if_pos ⟨⟨h1, h2⟩, h3⟩
end Ra
section Rb
variable {Q : Nat → mT} {Z : Nat → fM} {m n o : Nat} {s : xT} {p : Nat} {G X : am_G}
theorem xRaise_s {r : Nat} (h : xRow (Q (uM (xC s))) (uP (xC s)) (xY s o) (mR (Q (uM (xC s)))) 0 = some r) : xRaise Q (n + 1) s o = xHave s o (mP (Q (uM (xC s))) r) := by
  show (match xRow (Q (uM (xC s))) (uP (xC s)) (xY s o) (mR (Q (uM (xC s)))) 0 with
    | some r => xHave s o (mP (Q (uM (xC s))) r)
    | none => xRaise Q n (xFin Q s o).1 (xFin Q s o).2) = _
  rw [h]
theorem xRaise_n (h : xRow (Q (uM (xC s))) (uP (xC s)) (xY s o) (mR (Q (uM (xC s)))) 0 = none) : xRaise Q (n + 1) s o = xRaise Q n (xFin Q s o).1 (xFin Q s o).2 := by
  show (match xRow (Q (uM (xC s))) (uP (xC s)) (xY s o) (mR (Q (uM (xC s)))) 0 with
    | some r => xHave s o (mP (Q (uM (xC s))) r)
    | none => xRaise Q n (xFin Q s o).1 (xFin Q s o).2) = _
  rw [h]
theorem xR.hvt {a : Nat} {v : Int32} (h : xR p G (xTell (xHad s) (nI (xY s o)) 5)) (hN : 1 ≤ xN s) : xR p (am_wi (am_wi (am_wi G 187 (xN s - 1) (nI 1)) 189 (8 * (xN s - 1)) (nI o)) 186 (xN s - 1) (nI a)) (xHave s o a) := xR.hav h hN
theorem xAft_0 {t : xT} : xAft Q (t, 0) = t := if_pos rfl
theorem xAft_n {t : Nat} : xAft Q (xNew s t) = xRaise Q (xN s) (xTell (xMake s t) (nI t) 4) (lM s.1 + 1) := if_neg (Nat.succ_ne_zero _)
theorem xAft_b1 {q : xT × Nat} {v : Int32} (h : 0 < q.2) : xAft Q (xBack q v) = xRaise Q (xN q.1) q.1 q.2 := by
  have h0 : ¬ q.2 = 0 := by omega
  unfold xBack
  rw [if_neg h0]
  exact if_neg h0
theorem xAft_b2 {q : xT × Nat} {v : Int32} (h : q.2 = 0) (h2 : xN q.1 = 0) : xAft Q (xBack q v) = xVal q.1 v := by
  unfold xBack
  rw [if_pos h, if_pos h2]
  exact xAft_0
theorem xAft_b3 {q : xT × Nat} {v : Int32} (h : q.2 = 0) (h2 : ¬ xN q.1 = 0) : xAft Q (xBack q v) = xSet q.1 (uGo (uPush (xC q.1) v) (uP (xC q.1) + 1)) := by
  unfold xBack
  rw [if_pos h, if_neg h2]
  exact xAft_0
theorem tyR.md {n : Nat} {f g : uT} (h : tyR Q Z m n f) (e1 : uM g = uM f) (e2 : uP g = uP f) (e3 : uB g = uB f) (e4 : uL g = uL f) : tyM Q Z m n g := by
  obtain ⟨h1, h2, h3, h4, x, h5, h6⟩ := h
  unfold tyM uLo
  rw [e1, e2, e3, e4]
  exact ⟨h1, h2, h3, h4, x, h5, h6.2.2.2⟩
theorem tyS.l8 {n : Nat} {f : uT} (h : tyS Q Z m n f) (hz : zSol Q Z m) : uD f < 8 := by
  obtain ⟨g1, g2, g3, g4, g5, x, y, g6, g7, g8⟩ := h
  obtain ⟨⟨y2, he2, -, -⟩, -⟩ := (hz _ g1 g2).2 _ x g3 g6
  rw [g5] at he2
  obtain ⟨u, e1, e2⟩ := Option.bind_eq_some_iff.mp (show (fTakes (gP Q (aN (Q (uM f)) (uP f))) x).bind (fGive 0) = some y2 from he2)
  rw [g7] at e1; cases e1
  exact (g8.give (v := nI 0) kOk.z0 e2).2.1
theorem uPop_less {f : uT} {j : Nat} : uPop (uLess f j) = uLess f (j + 1) := by
  show (uM f, uP f, uD f - j - 1, uB f, uV f, uL f) = (uM f, uP f, uD f - (j + 1), uB f, uV f, uL f)
  rw [Nat.sub_sub]
theorem uLess_0 {f : uT} : uLess f 0 = f := rfl
theorem xR.lks {E : Nat → Nat} (h : xR p G s) (ho : ∀ r, r ≠ 184 → X.2.1 r = G.2.1 r) (hw : ∀ k, k < xH s → X.2.1 184 k = nI (E k)) : xR p X (xHeld s (xH s) E) := by
  obtain ⟨a, b, c, d, e, f, g, i⟩ := h
  unfold xR rL
  rw [ho 163 (by decide), ho 191 (by decide), ho 182 (by decide), ho 183 (by decide)]
  exact ⟨a, b, c, hw, fun k hk => (e k hk).same (fun r r1 r2 => by rw [ho r (by omega)]) (fun r z r1 r2 _ => by rw [ho r (by omega)]), fun hk => (f hk).same (fun r r1 r2 => by rw [ho r (by omega)]) (fun r z r1 r2 _ => by rw [ho r (by omega)]), g, i⟩
theorem xR.w90 {k : Nat} {v : Int32} (h : xR p G s) (hk : 8 * xN s ≤ k) : xR p (am_wi G 190 k v) s :=
  h.off (fun _ _ _ => by rw [wi_I (by decide)]) (fun r hr => wi_I (by omega)) (fun r r1 r2 i hi => by rw [wi_I (by omega)]) (fun r r1 r2 i hi => by
    by_cases e : r = 190
    · rw [e, wi_In (by omega)]
    · rw [wi_I e])
theorem xFind_0 {e : Nat → Nat} {b o r : Nat} (h : r ≤ b) : xFind e b o r = none := by
  cases r with
  | zero => rfl
  | succ r => exact if_pos (by omega)
theorem xFind_y {e : Nat → Nat} {b o r : Nat} (h : b ≤ r) (he : e r = o) : xFind e b o (r + 1) = some r := by
  show (if r < b then none else if e r = o then some r else xFind e b o r) = _
  rw [if_neg (by omega), if_pos he]
theorem xFind_n {e : Nat → Nat} {b o r : Nat} (h : b ≤ r) (he : ¬ e r = o) : xFind e b o (r + 1) = xFind e b o r := by
  show (if r < b then none else if e r = o then some r else xFind e b o r) = _
  rw [if_neg (by omega), if_neg he]
theorem xLeave_s {f : uT} {o k : Nat} (h : xFind (xE s) (uB f) o (xH s) = some k) : xLeave s f o = xOn (xTell (xHeld s (xH s - 1) (fun i => if i < k then xE s i else xE s (i + 1))) (nI o) 3) f := by
  unfold xLeave
  rw [h]
theorem xLeave_n {f : uT} {o : Nat} (h : xFind (xE s) (uB f) o (xH s) = none) : xLeave s f o = xNew (xSet s f) 3 := by
  unfold xLeave
  rw [h]
/-- the sizes at an instruction -/
def rBd (s : xT) : Prop := lM s.1 + xH s + 1 ≤ 1000 ∧ lNn s.1 + xH s ≤ 70000 ∧ lH s.1 ≤ 1000 ∧ lX s.1 ≤ 12
end Rb

set_option maxRecDepth 100000 in
theorem R_rz1 (w : am_W) {d : Nat} {P : Option am_V → am_G → Prop} (hd : 1 ≤ d) (G : am_G) (p o t : Nat) (s : xT) (Q : Nat → mT) (l1 : Option am_V) (hp : p < 2) (hN : 1 ≤ xN s) (h12 : xN s ≤ 12) (hm : uM (xC s) < 6) (hP : uP (xC s) < 60) (ht : t < 8) (hS : St0 G) (h : xR p G s) (hR : hldR G p Q)
    (K1 : ∀ q, q < mR (Q (uM (xC s))) → xRow (Q (uM (xC s))) (uP (xC s)) t (mR (Q (uM (xC s)))) 0 = some q → am_Go w jR_raise d (0, 0) 109 [some (.inr (some 163)), l1, some (.inl (nI o)), some (.inl (nI (xN s - 1))), some (.inl (nI (6 * p + uM (xC s)))), some (.inl (nI t)), some (.inl (nI q)), some (.inl (nI (8 * (6 * p + uM (xC s)) + q)))] [] G P) (K2 : ∀ l6 l7, xRow (Q (uM (xC s))) (uP (xC s)) t (mR (Q (uM (xC s)))) 0 = none → am_Go w jR_raise d (0, 0) 163 [some (.inr (some 163)), l1, some (.inl (nI o)), some (.inl (nI (xN s - 1))), some (.inl (nI (6 * p + uM (xC s)))), some (.inl (nI t)), l6, l7] [] G P) :
    ∀ (r k : Nat) (l7 : Option am_V), k + r = mR (Q (uM (xC s))) → xRow (Q (uM (xC s))) (uP (xC s)) t (mR (Q (uM (xC s)))) 0 = xRow (Q (uM (xC s))) (uP (xC s)) t r k → am_Go w jR_raise d (0, 0) 37 [some (.inr (some 163)), l1, some (.inl (nI o)), some (.inl (nI (xN s - 1))), some (.inl (nI (6 * p + uM (xC s)))), some (.inl (nI t)), some (.inl (nI k)), l7] [] G P := by
  have pl := h.pl hN
  have hmv := (hR _ hm).2
  have hr8 := hmv.2.1
  have hn6 := hmv.1
  have rw1 := (hR _ hm).1.1.2.1
  intro r
  induction r with
  | zero =>
    intro k l7 hk hx
    refine go_iload dR_raise_37 rfl ?_
    refine go_aload_n dR_raise_39 rfl rfl ?_
    refine go_getO (a := 169) dR_raise_40 flR_25 rfl (hS.s sh_163) (hS.r rt_rows) ?_
    refine go_iload dR_raise_43 rfl ?_
    first | refine go_ialV (hS.s sh_169) (by omega) (by decide) (by assumption) dR_raise_45 ?_ | refine go_ialoadN (hS.s sh_169) (by omega) (by decide) dR_raise_45 ?_
    refine go_icmp_geN (by omega) (by omega) dR_raise_46 (tgt := 163) (by decide) (fun c1 => ?_) (fun c1 => absurd c1 (by omega))
    exact K2 _ _ hx
  | succ r ih =>
    intro k l7 hk hx
    have hkr : k < mR (Q (uM (xC s))) := by omega
    obtain ⟨e1, e2, e3, e4⟩ := (hR _ hm).1.2.2 k hkr
    obtain ⟨b1, b2, b3, b4⟩ := hmv.2.2.2.2 k hkr
    refine go_iload dR_raise_37 rfl ?_
    refine go_aload_n dR_raise_39 rfl rfl ?_
    refine go_getO (a := 169) dR_raise_40 flR_25 rfl (hS.s sh_163) (hS.r rt_rows) ?_
    refine go_iload dR_raise_43 rfl ?_
    first | refine go_ialV (hS.s sh_169) (by omega) (by decide) (by assumption) dR_raise_45 ?_ | refine go_ialoadN (hS.s sh_169) (by omega) (by decide) dR_raise_45 ?_
    refine go_icmp_geN (by omega) (by omega) dR_raise_46 (tgt := 163) (by decide) (fun c1 => absurd c1 (by omega)) (fun c1 => ?_)
    refine go_bipush (nI 8) (by decide) dR_raise_49 ?_
    refine go_iload dR_raise_51 rfl ?_
    first | refine go_imulN dR_raise_53 ?_ | refine go_imul dR_raise_53 ?_
    refine go_iload dR_raise_54 rfl ?_
    first | refine go_iaddN dR_raise_56 ?_ | refine go_iadd dR_raise_56 ?_
    refine go_istore dR_raise_57 (Nat.le_of_ble_eq_true rfl) ?_
    refine go_aload_n dR_raise_59 rfl rfl ?_
    refine go_getO (a := 186) dR_raise_60 flR_77 rfl (hS.s sh_163) (hS.r rt_fPlace) ?_
    refine go_iload_n dR_raise_63 rfl rfl ?_
    first | refine go_ialV (hS.s sh_186) (by omega) (by decide) (by assumption) dR_raise_64 ?_ | refine go_ialoadN (hS.s sh_186) (by omega) (by decide) dR_raise_64 ?_
    refine go_aload_n dR_raise_65 rfl rfl ?_
    refine go_getO (a := 170) dR_raise_66 flR_28 rfl (hS.s sh_163) (hS.r rt_from) ?_
    refine go_iload dR_raise_69 rfl ?_
    refine go_ialV (hS.s sh_170) (by omega) (by decide) e1 dR_raise_71 ?_
    refine go_icmp_ltN (by omega) (by omega) dR_raise_72 (tgt := 157) (by decide) (fun c72 => ?_) (fun c72 => ?_)
    · refine go_inc dR_raise_157 rfl ?_
      refine go_goto dR_raise_160 (tgt := 37) (by decide) ?_
      first | exact ih (k + 1) _ (by omega) (hx.trans (xRow_a c72)) | exact ih (k + 1) _ (by omega) (hx.trans (xRow_b c88)) | exact ih (k + 1) _ (by omega) (hx.trans (xRow_c c103))
    · refine go_aload_n dR_raise_75 rfl rfl ?_
      refine go_getO (a := 186) dR_raise_76 flR_77 rfl (hS.s sh_163) (hS.r rt_fPlace) ?_
      refine go_iload_n dR_raise_79 rfl rfl ?_
      first | refine go_ialV (hS.s sh_186) (by omega) (by decide) (by assumption) dR_raise_80 ?_ | refine go_ialoadN (hS.s sh_186) (by omega) (by decide) dR_raise_80 ?_
      refine go_aload_n dR_raise_81 rfl rfl ?_
      refine go_getO (a := 171) dR_raise_82 flR_31 rfl (hS.s sh_163) (hS.r rt_to) ?_
      refine go_iload dR_raise_85 rfl ?_
      refine go_ialV (hS.s sh_171) (by omega) (by decide) e2 dR_raise_87 ?_
      refine go_icmp_geN (by omega) (by omega) dR_raise_88 (tgt := 157) (by decide) (fun c88 => ?_) (fun c88 => ?_)
      · refine go_inc dR_raise_157 rfl ?_
        refine go_goto dR_raise_160 (tgt := 37) (by decide) ?_
        first | exact ih (k + 1) _ (by omega) (hx.trans (xRow_a c72)) | exact ih (k + 1) _ (by omega) (hx.trans (xRow_b c88)) | exact ih (k + 1) _ (by omega) (hx.trans (xRow_c c103))
      · refine go_iload dR_raise_91 rfl ?_
        refine go_aload_n dR_raise_93 rfl rfl ?_
        refine go_getO (a := 173) dR_raise_94 flR_37 rfl (hS.s sh_163) (hS.r rt_type) ?_
        refine go_iload dR_raise_97 rfl ?_
        refine go_ialV (hS.s sh_173) (by omega) (by decide) e4 dR_raise_99 ?_
        refine go_cS (k' := (0, 0)) dR_raise_100 _ csR_212 stR_isUnder rfl (okR_isUnder (d := 0) w G t (mY (Q (uM (xC s))) k) ht b4) (by omega) (by decide) (Nat.le_of_ble_eq_true rfl) (fun r G1 hr hn => ?_)
        obtain ⟨rfl, hG⟩ := hr
        rw [hG]
        clear hG hn
        refine go_if_neB dR_raise_103 (tgt := 109) (by decide) (fun c103 => ?_) (fun c103 => ?_)
        · exact K1 k hkr (hx.trans (xRow_y c72 c88 c103))
        · refine go_goto dR_raise_106 (tgt := 157) (by decide) ?_
          refine go_inc dR_raise_157 rfl ?_
          refine go_goto dR_raise_160 (tgt := 37) (by decide) ?_
          first | exact ih (k + 1) _ (by omega) (hx.trans (xRow_a c72)) | exact ih (k + 1) _ (by omega) (hx.trans (xRow_b c88)) | exact ih (k + 1) _ (by omega) (hx.trans (xRow_c c103))
set_option maxRecDepth 100000 in
theorem R_rz (w : am_W) {d : Nat} (hd : 3 ≤ d) (G0 : am_G) (p m : Nat) (Q : Nat → mT) (Z : Nat → fM) (l1 : Option am_V) (hp : p < 2) (hv : ∀ a, a < 6 → mV (Q a)) :
    ∀ (n : Nat) (s : xT) (o : Nat) (G : am_G) (l3 l4 l5 l6 l7 : Option am_V), n = xN s → tB Q Z m s → (1 ≤ xN s → tyM Q Z m (lM s.1) (xC s)) → 1 ≤ o → o ≤ lM s.1 → lM s.1 + xH s ≤ 1000 → lNn s.1 + xH s + 3 * n + 1 < 900000 → lH s.1 < 900000 → St0 G → xR p G s → hldR G p Q → oX G0 G → am_Go w jR_raise d (0, 0) 2 [some (.inr (some 163)), l1, some (.inl (nI o)), l3, l4, l5, l6, l7] [] G (fun r G' => r = none ∧ xR p G' (xRaise Q n s o) ∧ oX G0 G') := by
  intro n
  induction n with
  | zero =>
    intro s o G l3 l4 l5 l6 l7 hn hb hc h1 h2 hM hl hH hS h hR ho
    have nn := h.nn
    have oy := h.oy h1 h2
    refine go_aload_n dR_raise_2 rfl rfl ?_
    refine go_getV dR_raise_3 flR_200 rfl (hS.s sh_163) (by first | assumption | (simp (disch := omega) only [wi_I, ro_I, wi_In, wi_Is]; done) | (simp (disch := omega) only [wi_I, ro_I, wi_In, wi_Is]; first | assumption | rfl) | rfl) ?_
    refine go_if_leN (by omega) dR_raise_6 (tgt := 172) (by decide) (fun c1 => ?_) (fun c1 => absurd c1 (by omega))
    refine go_aload_n dR_raise_172 rfl rfl ?_
    refine go_iconst (am_b true) (by decide) dR_raise_173 ?_
    refine go_putZ (by first | exact am_b_01 _ | exact Or.inl rfl | exact Or.inr rfl) dR_raise_174 fpR_222 rfl (hS.s sh_163) ?_
    refine go_aload_n dR_raise_177 rfl rfl ?_
    refine go_bipush (nI 16) (by decide) dR_raise_178 ?_
    refine go_aload_n dR_raise_180 rfl rfl ?_
    refine go_getO (a := 182) dR_raise_181 flR_65 rfl (hS.s sh_163) (hS.r rt_objectType) ?_
    refine go_iload_n dR_raise_184 rfl rfl ?_
    refine go_iconst (nI 1) (by decide) dR_raise_185 ?_
    first | refine go_isubN (by omega) dR_raise_186 ?_ | refine go_isub dR_raise_186 ?_
    refine go_ialV (hS.s sh_182) (by omega) (by decide) (wi_V (by decide) oy) dR_raise_187 ?_
    first | refine go_iaddN dR_raise_188 ?_ | refine go_iadd dR_raise_188 ?_
    refine go_putI dR_raise_189 fpR_225 rfl (hS.s sh_163) ?_
    refine go_return rfl dR_raise_192 ?_
    exact ⟨rfl, h.fin, ho.tr ((oX.w3 ⟨by decide, by decide⟩).tr (oX.w3 ⟨by decide, by decide⟩))⟩
  | succ n ih =>
    intro s o G l3 l4 l5 l6 l7 hn hb hc h1 h2 hM hl hH hS h hR ho
    have nn := h.nn
    have oy := h.oy h1 h2
    have hN : 1 ≤ xN s := by omega
    have h12 := hb.2.2.1
    have mt := h.m hN
    have ty8 := hb.1 o h1 h2
    obtain ⟨t1, -, t3, t4, -⟩ := hc hN
    have hn6 := (hv _ t1).1
    have hr8 := (hv _ t1).2.1
    refine go_aload_n dR_raise_2 rfl rfl ?_
    refine go_getV dR_raise_3 flR_200 rfl (hS.s sh_163) (by first | assumption | (simp (disch := omega) only [wi_I, ro_I, wi_In, wi_Is]; done) | (simp (disch := omega) only [wi_I, ro_I, wi_In, wi_Is]; first | assumption | rfl) | rfl) ?_
    refine go_if_leN (by omega) dR_raise_6 (tgt := 172) (by decide) (fun c1 => absurd c1 (by omega)) (fun c1 => ?_)
    refine go_aload_n dR_raise_9 rfl rfl ?_
    refine go_getV dR_raise_10 flR_200 rfl (hS.s sh_163) (by first | assumption | (simp (disch := omega) only [wi_I, ro_I, wi_In, wi_Is]; done) | (simp (disch := omega) only [wi_I, ro_I, wi_In, wi_Is]; first | assumption | rfl) | rfl) ?_
    refine go_iconst (nI 1) (by decide) dR_raise_13 ?_
    first | refine go_isubN (by omega) dR_raise_14 ?_ | refine go_isub dR_raise_14 ?_
    refine go_istore_n dR_raise_15 rfl (Nat.le_of_ble_eq_true rfl) ?_
    refine go_aload_n dR_raise_16 rfl rfl ?_
    refine go_getO (a := 185) dR_raise_17 flR_74 rfl (hS.s sh_163) (hS.r rt_fMethod) ?_
    refine go_iload_n dR_raise_20 rfl rfl ?_
    first | refine go_ialV (hS.s sh_185) (by omega) (by decide) (by assumption) dR_raise_21 ?_ | refine go_ialoadN (hS.s sh_185) (by omega) (by decide) dR_raise_21 ?_
    refine go_istore dR_raise_22 (Nat.le_of_ble_eq_true rfl) ?_
    refine go_aload_n dR_raise_24 rfl rfl ?_
    refine go_getO (a := 182) dR_raise_25 flR_65 rfl (hS.s sh_163) (hS.r rt_objectType) ?_
    refine go_iload_n dR_raise_28 rfl rfl ?_
    refine go_iconst (nI 1) (by decide) dR_raise_29 ?_
    first | refine go_isubN (by omega) dR_raise_30 ?_ | refine go_isub dR_raise_30 ?_
    first | refine go_ialV (hS.s sh_182) (by omega) (by decide) (by assumption) dR_raise_31 ?_ | refine go_ialoadN (hS.s sh_182) (by omega) (by decide) dR_raise_31 ?_
    refine go_istore dR_raise_32 (Nat.le_of_ble_eq_true rfl) ?_
    refine go_iconst (nI 0) (by decide) dR_raise_34 ?_
    refine go_istore dR_raise_35 (Nat.le_of_ble_eq_true rfl) ?_
    refine R_rz1 w (by omega) G p o (xY s o) s Q _ hp hN h12 t1 (by omega) ty8 hS h hR (fun q hq he => ?_) (fun l6 l7 he => ?_) (mR (Q (uM (xC s)))) 0 _ (by omega) rfl
    · have hd1 := h.hd
      refine go_aload_n dR_raise_109 rfl rfl ?_
      refine go_dup dR_raise_110 ?_
      refine go_getV dR_raise_111 flR_216 rfl (hS.s sh_163) (by first | assumption | (simp (disch := omega) only [wi_I, ro_I, wi_In, wi_Is]; done) | (simp (disch := omega) only [wi_I, ro_I, wi_In, wi_Is]; first | assumption | rfl) | rfl) ?_
      refine go_iconst (nI 1) (by decide) dR_raise_114 ?_
      first | refine go_iaddN dR_raise_115 ?_ | refine go_iadd dR_raise_115 ?_
      refine go_putI dR_raise_116 fpR_216 rfl (hS.s sh_163) ?_
      refine go_aload_n dR_raise_119 rfl rfl ?_
      refine go_iload dR_raise_120 rfl ?_
      refine go_iconst (nI 5) (by decide) dR_raise_122 ?_
      refine go_cV (k' := (0, 0)) (G := am_wi G 163 40 (nI (lH s.1 + 1))) dR_raise_123 _ csR_197 (hS.s sh_163) rfl imR_tell seR_tell rfl (okR_tell (d := 0) w _ p (xHad s) (nI (xY s o)) 5 (by exact hS) h.had (show lNn s.1 < 1000000 by omega)) (by omega) (by decide) (Nat.le_of_ble_eq_true rfl) (fun r G1 hr hn => ?_)
      obtain ⟨rfl, X1, o1⟩ := hr
      have R1 := hR.x ((oX.w3 (G := G) (k := 40) (x := nI (lH s.1 + 1)) ⟨by decide, by decide⟩).tr o1.x)
      obtain ⟨-, -, a3, -⟩ := (R1 _ t1).1.2.2 q hq
      have hS := o1.St (G := am_wi G 163 40 (nI (lH s.1 + 1))) hS
      refine go_aload_n dR_raise_126 rfl rfl ?_
      refine go_getO (a := 187) dR_raise_127 flR_80 rfl (hS.s sh_163) (hS.r rt_fDepth) ?_
      refine go_iload_n dR_raise_130 rfl rfl ?_
      refine go_iconst (nI 1) (by decide) dR_raise_131 ?_
      refine go_iastoreN (hS.s sh_187) (by omega) (by decide) dR_raise_132 ?_
      refine go_aload_n dR_raise_133 rfl rfl ?_
      refine go_getO (a := 189) dR_raise_134 flR_86 rfl (hS.s sh_163) (hS.r rt_value) ?_
      refine go_bipush (nI 8) (by decide) dR_raise_137 ?_
      refine go_iload_n dR_raise_139 rfl rfl ?_
      first | refine go_imulN dR_raise_140 ?_ | refine go_imul dR_raise_140 ?_
      refine go_iload_n dR_raise_141 rfl rfl ?_
      refine go_iastoreN (hS.s sh_189) (by omega) (by decide) dR_raise_142 ?_
      refine go_aload_n dR_raise_143 rfl rfl ?_
      refine go_getO (a := 186) dR_raise_144 flR_77 rfl (hS.s sh_163) (hS.r rt_fPlace) ?_
      refine go_iload_n dR_raise_147 rfl rfl ?_
      refine go_aload_n dR_raise_148 rfl rfl ?_
      refine go_getO (a := 172) dR_raise_149 flR_34 rfl (hS.s sh_163) (hS.r rt_at) ?_
      refine go_iload dR_raise_152 rfl ?_
      refine go_ialV (hS.s sh_172) (by omega) (by decide) (wi_V (by decide) (wi_V (by decide) a3)) dR_raise_154 ?_
      refine go_iastoreN (hS.s sh_186) (by omega) (by decide) dR_raise_155 ?_
      refine go_return rfl dR_raise_156 ?_
      exact ⟨rfl, by rw [xRaise_s he]; exact X1.hvt (v := 0) hN, ((ho.tr (oX.w3 ⟨by decide, by decide⟩)).tr o1.x).tr (((oX.wi ⟨by decide, by decide⟩).tr (oX.wi ⟨by decide, by decide⟩)).tr (oX.wi ⟨by decide, by decide⟩))⟩
    · refine go_aload_n dR_raise_163 rfl rfl ?_
      refine go_iload_n dR_raise_164 rfl rfl ?_
      refine go_cV (k' := (0, 0)) dR_raise_165 _ csR_219 (hS.s sh_163) rfl imR_finish seR_finish rfl (okR_finish (d := 2) w (by decide) G p o s Q hp hN h12 t1 t4 hM (by omega) hS h hR) (by omega) (by decide) (Nat.le_of_ble_eq_true rfl) (fun r G1 hr hn => ?_)
      obtain ⟨rfl, X1, o1⟩ := hr
      obtain ⟨f1, f2, f3, f4, f5, f6, f7, f8, f9, f10, f11, f12⟩ := xFin_ty (Q := Q) (o := o) hb hN h2
      refine go_istore_n dR_raise_168 rfl (Nat.le_of_ble_eq_true rfl) ?_
      refine go_goto dR_raise_169 (tgt := 2) (by decide) ?_
      rw [xRaise_n he]
      exact ih _ _ G1 _ _ _ _ _ (by omega) f1 (fun q => (f2 q).m) (f6 h1) f5 (by omega) (by omega) (by omega) (o1.St hS) X1 (hR.x o1) (ho.tr o1)
set_option maxRecDepth 100000 in
theorem okR_raise (w : am_W) {d : Nat} (hd : 3 ≤ d) (G : am_G) (p m o : Nat) (s : xT) (Q : Nat → mT) (Z : Nat → fM) (hp : p < 2) (hv : ∀ a, a < 6 → mV (Q a)) (hb : tB Q Z m s) (hc : 1 ≤ xN s → tyM Q Z m (lM s.1) (xC s)) (h1 : 1 ≤ o) (h2 : o ≤ lM s.1) (hM : lM s.1 + xH s ≤ 1000) (hl : lNn s.1 + xH s < 800000) (hH : lH s.1 < 900000) (hS : St0 G) (h : xR p G s) (hR : hldR G p Q) : am_Ok w jR_raise d (0, 0) [.inr (some 163), .inl (nI o)] G (fun r G' => r = none ∧ xR p G' (xRaise Q (xN s) s o) ∧ oX G G') := by
  refine am_ok_of rfl (Nat.le_of_ble_eq_true rfl) ?_
  show am_Go w jR_raise d (0, 0) 0 [some (.inr (some 163)), some (.inl (nI o)), none, none, none, none, none, none] [] G _
  refine go_iload_n dR_raise_0 rfl rfl ?_
  refine go_istore_n dR_raise_1 rfl (Nat.le_of_ble_eq_true rfl) ?_
  exact R_rz w hd G p m Q Z _ hp hv (xN s) s o G _ _ _ _ _ rfl hb hc h1 h2 hM (by have := hb.2.2.1; omega) hH hS h hR oX.rf
set_option maxRecDepth 100000 in
theorem okR_machine (w : am_W) {d : Nat} (hd : 4 ≤ d) (G : am_G) (p m t : Nat) (s : xT) (Q : Nat → mT) (Z : Nat → fM) (hp : p < 2) (hv : ∀ a, a < 6 → mV (Q a)) (hb : tB Q Z m s) (hc : 1 ≤ xN s → tyM Q Z m (lM s.1) (xC s)) (ht : t < 8) (hB : rBd s) (hS : St0 G) (h : xR p G s) (hR : hldR G p Q) : am_Ok w jR_machine d (0, 0) [.inr (some 163), .inl (nI t)] G (fun r G' => r = none ∧ xR p G' (xAft Q (xNew s t)) ∧ oX G G') := by
  refine am_ok_of rfl (Nat.le_of_ble_eq_true rfl) ?_
  show am_Go w jR_machine d (0, 0) 0 [some (.inr (some 163)), some (.inl (nI t)), none] [] G _
  obtain ⟨n1, n2, n3, n4⟩ := hB
  rw [xAft_n]
  refine go_aload_n dR_machine_0 rfl rfl ?_
  refine go_iload_n dR_machine_1 rfl rfl ?_
  refine go_cV (k' := (0, 0)) dR_machine_2 _ csR_209 (hS.s sh_163) rfl imR_make seR_make rfl (okR_make (d := 1) w (by decide) G p s t hS h (by omega) (by omega)) (by omega) (by decide) (Nat.le_of_ble_eq_true rfl) (fun r G1 hr hn => ?_)
  obtain ⟨rfl, X1, o1⟩ := hr
  have hS := o1.St hS
  refine go_istore_n dR_machine_5 rfl (Nat.le_of_ble_eq_true rfl) ?_
  refine go_aload_n dR_machine_6 rfl rfl ?_
  refine go_iload_n dR_machine_7 rfl rfl ?_
  refine go_iconst (nI 4) (by decide) dR_machine_8 ?_
  refine go_cV (k' := (0, 0)) dR_machine_9 _ csR_197 (hS.s sh_163) rfl imR_tell seR_tell rfl (okR_tell (d := 0) w G1 p (xMake s t) (nI t) 4 hS X1 (show lNn s.1 + 1 < 1000000 by omega)) (by omega) (by decide) (Nat.le_of_ble_eq_true rfl) (fun r G1 hr hn => ?_)
  obtain ⟨rfl, X2, o2⟩ := hr
  have hS := o2.St hS
  refine go_aload_n dR_machine_12 rfl rfl ?_
  refine go_iload_n dR_machine_13 rfl rfl ?_
  refine go_cV (k' := (0, 0)) dR_machine_14 _ csR_228 (hS.s sh_163) rfl imR_raise seR_raise rfl (okR_raise (d := 3) w (by decide) G1 p m (lM s.1 + 1) (xTell (xMake s t) (nI t) 4) Q Z hp hv (hb.make ht) (fun q => (hc q).mono (Nat.le_succ _)) (by omega) (Nat.le_refl _) (show lM s.1 + 1 + xH s ≤ 1000 by omega) (show lNn s.1 + 1 + 1 + xH s < 800000 by omega) (show lH s.1 < 900000 by omega) hS X2 (hR.x (o1.tr o2.x))) (by omega) (by decide) (Nat.le_of_ble_eq_true rfl) (fun r G1 hr hn => ?_)
  obtain ⟨rfl, X3, o3⟩ := hr
  refine go_return rfl dR_machine_17 ?_
  exact ⟨rfl, X3, (o1.tr o2.x).tr o3⟩
set_option maxRecDepth 100000 in
theorem okR_callA (w : am_W) {d : Nat} (hd : 5 ≤ d) (G : am_G) (p m c : Nat) (s : xT) (Q : Nat → mT) (Z : Nat → fM) (hp : p < 2) (hc6 : c < 6) (hv : ∀ a, a < 6 → mV (Q a)) (hb : tB Q Z m s) (hN : 1 ≤ xN s) (hc : tyM Q Z m (lM s.1) (xC s)) (hD : mG (Q c) ≤ uD (xC s)) (hB : rBd s) (hS : St0 G) (h : xR p G s) (hR : hldR G p Q) (h12 : xN s = 12) : am_Ok w jR_call d (0, 0) [.inr (some 163), .inl (nI (6 * p + c))] G (fun r G' => r = none ∧ xR p G' (xAft Q (xNew s 4)) ∧ oX G G') := by
  refine am_ok_of rfl (Nat.le_of_ble_eq_true rfl) ?_
  show am_Go w jR_call d (0, 0) 0 [some (.inr (some 163)), some (.inl (nI (6 * p + c))), none, none, none] [] G _
  have nn := h.nn
  refine go_aload_n dR_call_0 rfl rfl ?_
  refine go_getV dR_call_1 flR_200 rfl (hS.s sh_163) (by first | assumption | (simp (disch := omega) only [wi_I, ro_I, wi_In, wi_Is]; done) | (simp (disch := omega) only [wi_I, ro_I, wi_In, wi_Is]; first | assumption | rfl) | rfl) ?_
  refine go_bipush (nI 12) (by decide) dR_call_4 ?_
  refine go_icmp_neN (by omega) (by decide) dR_call_6 (tgt := 15) (by decide) (fun c1 => absurd h12 c1) (fun c1 => ?_)
  refine go_aload_n dR_call_9 rfl rfl ?_
  refine go_iconst (nI 4) (by decide) dR_call_10 ?_
  refine go_cV (k' := (0, 0)) dR_call_11 _ csR_231 (hS.s sh_163) rfl imR_machine seR_machine rfl (okR_machine (d := 4) w (by decide) G p m 4 s Q Z hp hv hb (fun _ => hc) (by decide) hB hS h hR) (by omega) (by decide) (Nat.le_of_ble_eq_true rfl) (fun r G1 hr hn => ?_)
  obtain ⟨rfl, X1, o1⟩ := hr
  refine go_return rfl dR_call_14 ?_
  exact ⟨rfl, X1, o1⟩
theorem R_cF {s : xT} {g : uT} (_ : xN s < 12) : ∀ i, i < xN (xSet s g) → va_up (xF s) (xN s - 1) g i = if i + 1 < xN (xSet s g) then xF (xSet s g) i else xC (xSet s g) := fun i hi => by
  have hi : i < xN s := hi
  show _ = if i + 1 < xN s then xF s i else g
  by_cases e : i = xN s - 1
  · rw [e, am_up_eq, if_neg (by omega)]
  · rw [am_up_ne e, if_pos (by omega)]
theorem R_cV {s : xT} {G : am_G} {n : Nat} (hk : ∀ k, k < n → G.2.1 190 (8 * xN s + k) = uV (xC s) (uD (xC s) - n + k)) : ∀ a, a < 8 → ∀ v, (fun i => if i < n then some (uV (xC s) (uD (xC s) - n + i)) else none) a = some v → G.2.1 190 (8 * xN s + a) = v := fun a _ v hv => by
  have hv : (if a < n then some (uV (xC s) (uD (xC s) - n + a)) else none) = some v := hv
  split at hv
  · rename_i h; cases hv; exact hk a h
  · cases hv
set_option maxRecDepth 100000 in
theorem R_cl (w : am_W) {d : Nat} {P : Option am_V → am_G → Prop} (hd : 1 ≤ d) (G0 : am_G) (p c : Nat) (s : xT) (Q : Nat → mT) (hp : p < 2) (hc6 : c < 6) (hG : mG (Q c) ≤ 3) (hN : 1 ≤ xN s) (h12 : xN s < 12) (hD : mG (Q c) ≤ uD (xC s))
    (K : ∀ (G : am_G) l3 l4, St0 G → xR p G (xSet s (uLess (xC s) (mG (Q c)))) → oX G0 G → (∀ k, k < mG (Q c) → G.2.1 190 (8 * xN s + k) = uV (xC s) (uD (xC s) - mG (Q c) + k)) → am_Go w jR_call d (0, 0) 58 [some (.inr (some 163)), some (.inl (nI (6 * p + c))), some (.inl (nI (mG (Q c)))), l3, l4] [] G P) :
    ∀ (r : Nat) (G : am_G) (l4 : Option am_V), r ≤ mG (Q c) → St0 G → xR p G (xSet s (uLess (xC s) (mG (Q c) - r))) → oX G0 G → (∀ k, r ≤ k → k < mG (Q c) → G.2.1 190 (8 * xN s + k) = uV (xC s) (uD (xC s) - mG (Q c) + k)) → am_Go w jR_call d (0, 0) 26 [some (.inr (some 163)), some (.inl (nI (6 * p + c))), some (.inl (nI (mG (Q c)))), some (.inl (nM r)), l4] [] G P := by
  intro r
  induction r with
  | zero =>
    intro G l4 hr hS h ho hk
    refine go_iload_n dR_call_26 rfl rfl ?_
    refine go_if_lt dR_call_27 (tgt := 58) (by decide) (fun c1 => ?_) (fun c1 => absurd (by decide) c1)
    exact K G _ _ hS h ho (fun k h2 => hk k (Nat.zero_le _) h2)
  | succ r ih =>
    intro G l4 hr hS h ho hk
    rw [nM_1]
    have hD2 : 1 ≤ uD (uLess (xC s) (mG (Q c) - (r + 1))) := by show 1 ≤ uD (xC s) - (mG (Q c) - (r + 1)); omega
    refine go_iload_n dR_call_26 rfl rfl ?_
    refine go_if_lt dR_call_27 (tgt := 58) (by decide) (fun c1 => absurd c1 (nI_n0 (by omega))) (fun c1 => ?_)
    refine go_aload_n dR_call_30 rfl rfl ?_
    refine go_cV (k' := (0, 0)) dR_call_31 _ csR_234 (hS.s sh_163) rfl imR_pop seR_pop rfl (okR_pop (d := 0) w G p (xSet s (uLess (xC s) (mG (Q c) - (r + 1)))) hN (show xN s ≤ 12 by omega) hD2 hS h) (by omega) (by decide) (Nat.le_of_ble_eq_true rfl) (fun r G1 hr hn => ?_)
    obtain ⟨rfl, X1, o1, F1⟩ := hr
    have nn1 : G1.2.1 163 36 = nI (xN s) := X1.nn
    have hS := o1.St hS
    refine go_istore dR_call_34 (Nat.le_of_ble_eq_true rfl) ?_
    refine go_aload_n dR_call_36 rfl rfl ?_
    refine go_getO (a := 190) dR_call_37 flR_89 rfl (hS.s sh_163) (hS.r rt_fLocal) ?_
    refine go_bipush (nI 8) (by decide) dR_call_40 ?_
    refine go_aload_n dR_call_42 rfl rfl ?_
    refine go_getV dR_call_43 flR_200 rfl (hS.s sh_163) (by first | assumption | (simp (disch := omega) only [wi_I, ro_I, wi_In, wi_Is]; done) | (simp (disch := omega) only [wi_I, ro_I, wi_In, wi_Is]; first | assumption | rfl) | rfl) ?_
    first | refine go_imulN dR_call_46 ?_ | refine go_imul dR_call_46 ?_
    refine go_iload_n dR_call_47 rfl rfl ?_
    first | refine go_iaddN dR_call_48 ?_ | refine go_iadd dR_call_48 ?_
    refine go_iload dR_call_49 rfl ?_
    refine go_iastoreN (hS.s sh_190) (by omega) (by decide) dR_call_51 ?_
    refine go_iinc dR_call_52 rfl ?_
    rw [nM_d]
    have e1 : uPop (uLess (xC s) (mG (Q c) - (r + 1))) = uLess (xC s) (mG (Q c) - r) := by rw [uPop_less, show mG (Q c) - (r + 1) + 1 = mG (Q c) - r by omega]
    refine go_goto dR_call_55 (tgt := 26) (by decide) ?_
    refine ih _ _ (by omega) hS (xR.w90 (by rw [← e1]; exact X1) (show 8 * xN s ≤ 8 * xN s + r by omega)) ((ho.tr o1).tr (oX.wi ⟨by decide, by decide⟩)) (fun k k1 k2 => ?_)
    by_cases e : k = r
    · rw [e, wi_Is]
      show uV (xC s) (uD (xC s) - (mG (Q c) - (r + 1)) - 1) = _
      rw [show uD (xC s) - (mG (Q c) - (r + 1)) - 1 = uD (xC s) - mG (Q c) + r by omega]
    · rw [wi_In (by omega), F1 190 (by decide)]; exact hk k (by omega) k2
set_option maxRecDepth 100000 in
theorem okR_callB (w : am_W) {d : Nat} (hd : 5 ≤ d) (G : am_G) (p m c : Nat) (s : xT) (Q : Nat → mT) (Z : Nat → fM) (hp : p < 2) (hc6 : c < 6) (hv : ∀ a, a < 6 → mV (Q a)) (hb : tB Q Z m s) (hN : 1 ≤ xN s) (hc : tyM Q Z m (lM s.1) (xC s)) (hD : mG (Q c) ≤ uD (xC s)) (hB : rBd s) (hS : St0 G) (h : xR p G s) (hR : hldR G p Q) (h12 : xN s < 12) : am_Ok w jR_call d (0, 0) [.inr (some 163), .inl (nI (6 * p + c))] G (fun r G' => r = none ∧ xR p G' (xCall Q s c) ∧ oX G G') := by
  refine am_ok_of rfl (Nat.le_of_ble_eq_true rfl) ?_
  show am_Go w jR_call d (0, 0) 0 [some (.inr (some 163)), some (.inl (nI (6 * p + c))), none, none, none] [] G _
  have nn := h.nn
  have tk := (hR c hc6).1.1.2.2.1
  have hg3 := (hv c hc6).2.2.1
  obtain ⟨n1, n2, n3, n4⟩ := hB
  refine go_aload_n dR_call_0 rfl rfl ?_
  refine go_getV dR_call_1 flR_200 rfl (hS.s sh_163) (by first | assumption | (simp (disch := omega) only [wi_I, ro_I, wi_In, wi_Is]; done) | (simp (disch := omega) only [wi_I, ro_I, wi_In, wi_Is]; first | assumption | rfl) | rfl) ?_
  refine go_bipush (nI 12) (by decide) dR_call_4 ?_
  refine go_icmp_neN (by omega) (by decide) dR_call_6 (tgt := 15) (by decide) (fun c1 => ?_) (fun c1 => absurd c1 (by omega))
  refine go_aload_n dR_call_15 rfl rfl ?_
  refine go_getO (a := 168) dR_call_16 flR_22 rfl (hS.s sh_163) (hS.r rt_takes) ?_
  refine go_iload_n dR_call_19 rfl rfl ?_
  refine go_ialV (hS.s sh_168) (by omega) (by decide) tk dR_call_20 ?_
  refine go_istore_n dR_call_21 rfl (Nat.le_of_ble_eq_true rfl) ?_
  refine go_iload_n dR_call_22 rfl rfl ?_
  refine go_iconst (nI 1) (by decide) dR_call_23 ?_
  refine go_isub dR_call_24 ?_
  change am_Go w jR_call d (0, 0) 25 _ [.inl (nM (mG (Q c)))] _ _
  refine go_istore_n dR_call_25 rfl (Nat.le_of_ble_eq_true rfl) ?_
  refine R_cl w (by omega) G p c s Q hp hc6 hg3 hN h12 hD (fun X l3 l4 SX HX ox hk => ?_) (mG (Q c)) G _ (Nat.le_refl _) hS (by rw [Nat.sub_self]; exact h) oX.rf (fun k k1 k2 => absurd k1 (by omega))
  have hS := SX
  refine go_aload_n dR_call_58 rfl rfl ?_
  refine go_iload_n dR_call_59 rfl rfl ?_
  refine go_cV (k' := (0, 0)) dR_call_60 _ csR_238 (hS.s sh_163) rfl imR_begin seR_begin rfl (okR_begin (d := 1) w (by decide) X p c (xSet s (uLess (xC s) (mG (Q c)))) Q (va_up (xF s) (xN s - 1) (uLess (xC s) (mG (Q c)))) (fun i => if i < mG (Q c) then some (uV (xC s) (uD (xC s) - mG (Q c) + i)) else none) hp hc6 h12 n4 (show lNn s.1 < 1000000 by omega) SX HX (hR.x ox) (R_cF h12) (R_cV hk)) (by omega) (by decide) (Nat.le_of_ble_eq_true rfl) (fun r G1 hr hn => ?_)
  obtain ⟨rfl, X1, o1⟩ := hr
  refine go_return rfl dR_call_63 ?_
  exact ⟨rfl, X1, ox.tr o1⟩
set_option maxRecDepth 100000 in
theorem okR_back (w : am_W) {d : Nat} (hd : 4 ≤ d) (G : am_G) (p m : Nat) (s : xT) (v : Int32) (Q : Nat → mT) (Z : Nat → fM) (hp : p < 2) (hv : ∀ a, a < 6 → mV (Q a)) (hz : zSol Q Z m) (hb : tB Q Z m s) (hN : 1 ≤ xN s) (hc : tyM Q Z m (lM s.1) (xC s)) (hB : rBd s) (hS : St0 G) (h : xR p G s) (hR : hldR G p Q) : am_Ok w jR_back d (0, 0) [.inr (some 163), .inl v] G (fun r G' => r = none ∧ xR p G' (xAft Q (xBack (xFin Q s 0) v)) ∧ oX G G') := by
  refine am_ok_of rfl (Nat.le_of_ble_eq_true rfl) ?_
  show am_Go w jR_back d (0, 0) 0 [some (.inr (some 163)), some (.inl v), none] [] G _
  obtain ⟨n1, n2, n3, n4⟩ := hB
  have h12 := hb.2.2.1
  obtain ⟨f1, f2, f3, f4, f5, f6, f7, f8, f9, f10, f11, f12⟩ := xFin_ty (Q := Q) (o := 0) hb hN (Nat.zero_le _)
  refine go_aload_n dR_back_0 rfl rfl ?_
  refine go_iconst (nI 0) (by decide) dR_back_1 ?_
  refine go_cV (k' := (0, 0)) dR_back_2 _ csR_219 (hS.s sh_163) rfl imR_finish seR_finish rfl (okR_finish (d := 2) w (by decide) G p 0 s Q hp hN h12 hc.1 hc.2.2.2.1 (by omega) (by omega) hS h hR) (by omega) (by decide) (Nat.le_of_ble_eq_true rfl) (fun r G1 hr hn => ?_)
  obtain ⟨rfl, X1, o1⟩ := hr
  have nn1 := X1.nn
  have hR1 := hR.x o1
  have hS1 := o1.St hS
  have hS := hS1
  refine go_istore_n dR_back_5 rfl (Nat.le_of_ble_eq_true rfl) ?_
  refine go_iload_n dR_back_6 rfl rfl ?_
  refine go_if_leN (by omega) dR_back_7 (tgt := 16) (by decide) (fun c7 => ?_) (fun c7 => ?_)
  · refine go_aload_n dR_back_16 rfl rfl ?_
    refine go_getV dR_back_17 flR_200 rfl (hS.s sh_163) (by first | assumption | (simp (disch := omega) only [wi_I, ro_I, wi_In, wi_Is]; done) | (simp (disch := omega) only [wi_I, ro_I, wi_In, wi_Is]; first | assumption | rfl) | rfl) ?_
    refine go_if_neN (by omega) dR_back_20 (tgt := 39) (by decide) (fun c20 => ?_) (fun c20 => ?_)
    · refine go_aload_n dR_back_39 rfl rfl ?_
      refine go_iload_n dR_back_40 rfl rfl ?_
      refine go_cV (k' := (0, 0)) dR_back_41 _ csR_244 (hS.s sh_163) rfl imR_give seR_give rfl (okR_give (d := 0) w G1 p (xFin Q s 0).1 (by omega) (by omega) v ((f2 (by omega)).l8 hz) hS1 X1) (by omega) (by decide) (Nat.le_of_ble_eq_true rfl) (fun r G1 hr hn => ?_)
      obtain ⟨rfl, X2, o2⟩ := hr
      have nn2 : G1.2.1 163 36 = nI (xN (xFin Q s 0).1) := X2.nn
      have pl2 : G1.2.1 186 (xN (xFin Q s 0).1 - 1) = nI (uP (xC (xFin Q s 0).1)) := X2.pl (show 1 ≤ xN (xFin Q s 0).1 by omega)
      have hS := o2.St hS1
      refine go_aload_n dR_back_44 rfl rfl ?_
      refine go_getO (a := 186) dR_back_45 flR_77 rfl (hS.s sh_163) (hS.r rt_fPlace) ?_
      refine go_aload_n dR_back_48 rfl rfl ?_
      refine go_getV dR_back_49 flR_200 rfl (hS.s sh_163) (by first | assumption | (simp (disch := omega) only [wi_I, ro_I, wi_In, wi_Is]; done) | (simp (disch := omega) only [wi_I, ro_I, wi_In, wi_Is]; first | assumption | rfl) | rfl) ?_
      refine go_iconst (nI 1) (by decide) dR_back_52 ?_
      first | refine go_isubN (by omega) dR_back_53 ?_ | refine go_isub dR_back_53 ?_
      refine go_dup2 dR_back_54 ?_
      first | refine go_ialV (hS.s sh_186) (by omega) (by decide) (by assumption) dR_back_55 ?_ | refine go_ialoadN (hS.s sh_186) (by omega) (by decide) dR_back_55 ?_
      refine go_iconst (nI 1) (by decide) dR_back_56 ?_
      first | refine go_iaddN dR_back_57 ?_ | refine go_iadd dR_back_57 ?_
      refine go_iastoreN (hS.s sh_186) (by omega) (by decide) dR_back_58 ?_
      refine go_return rfl dR_back_59 ?_
      first | (have q := xAft_b1 (Q := Q) (v := v) c7; rw [q]; exact ⟨rfl, X2, o1.tr o2⟩) | (have q := xAft_b2 (Q := Q) (v := v) c7 c20; rw [q]; exact ⟨rfl, X1.val, o1.tr (((oX.w3 ⟨by decide, by decide⟩).tr (oX.w3 ⟨by decide, by decide⟩)).tr (oX.w3 ⟨by decide, by decide⟩))⟩) | (have q := xAft_b3 (Q := Q) (v := v) c7 c20; rw [q]; exact ⟨rfl, X2.go (show 1 ≤ xN (xFin Q s 0).1 by omega), (o1.tr o2).tr (oX.wi ⟨by decide, by decide⟩)⟩)
    · refine go_aload_n dR_back_23 rfl rfl ?_
      refine go_iconst (am_b true) (by decide) dR_back_24 ?_
      refine go_putZ (by first | exact am_b_01 _ | exact Or.inl rfl | exact Or.inr rfl) dR_back_25 fpR_222 rfl (hS.s sh_163) ?_
      refine go_aload_n dR_back_28 rfl rfl ?_
      refine go_iconst (nI 0) (by decide) dR_back_29 ?_
      refine go_putI dR_back_30 fpR_225 rfl (hS.s sh_163) ?_
      refine go_aload_n dR_back_33 rfl rfl ?_
      refine go_iload_n dR_back_34 rfl rfl ?_
      refine go_putI dR_back_35 fpR_241 rfl (hS.s sh_163) ?_
      refine go_return rfl dR_back_38 ?_
      first | (have q := xAft_b1 (Q := Q) (v := v) c7; rw [q]; exact ⟨rfl, X2, o1.tr o2⟩) | (have q := xAft_b2 (Q := Q) (v := v) c7 c20; rw [q]; exact ⟨rfl, X1.val, o1.tr (((oX.w3 ⟨by decide, by decide⟩).tr (oX.w3 ⟨by decide, by decide⟩)).tr (oX.w3 ⟨by decide, by decide⟩))⟩) | (have q := xAft_b3 (Q := Q) (v := v) c7 c20; rw [q]; exact ⟨rfl, X2.go (show 1 ≤ xN (xFin Q s 0).1 by omega), (o1.tr o2).tr (oX.wi ⟨by decide, by decide⟩)⟩)
  · refine go_aload_n dR_back_10 rfl rfl ?_
    refine go_iload_n dR_back_11 rfl rfl ?_
    refine go_cV (k' := (0, 0)) dR_back_12 _ csR_228 (hS.s sh_163) rfl imR_raise seR_raise rfl (okR_raise (d := 3) w (by decide) G1 p m (xFin Q s 0).2 (xFin Q s 0).1 Q Z hp hv f1 (fun q => (f2 q).m) (by omega) f5 (by omega) (by omega) (by omega) hS1 X1 hR1) (by omega) (by decide) (Nat.le_of_ble_eq_true rfl) (fun r G1 hr hn => ?_)
    obtain ⟨rfl, X2, o2⟩ := hr
    refine go_return rfl dR_back_15 ?_
    first | (have q := xAft_b1 (Q := Q) (v := v) c7; rw [q]; exact ⟨rfl, X2, o1.tr o2⟩) | (have q := xAft_b2 (Q := Q) (v := v) c7 c20; rw [q]; exact ⟨rfl, X1.val, o1.tr (((oX.w3 ⟨by decide, by decide⟩).tr (oX.w3 ⟨by decide, by decide⟩)).tr (oX.w3 ⟨by decide, by decide⟩))⟩) | (have q := xAft_b3 (Q := Q) (v := v) c7 c20; rw [q]; exact ⟨rfl, X2.go (show 1 ≤ xN (xFin Q s 0).1 by omega), (o1.tr o2).tr (oX.wi ⟨by decide, by decide⟩)⟩)
set_option maxRecDepth 100000 in
theorem R_rl (w : am_W) {d : Nat} {P : Option am_V → am_G → Prop} (G : am_G) (p o : Nat) (s : xT) (hN : 1 ≤ xN s) (h12 : xN s ≤ 12) (ho : o ≤ 1000) (hB : uB (xC s) ≤ 1000) (hH : xH s ≤ 1000) (hE : ∀ k, k < xH s → xE s k ≤ 1000) (hS : St0 G) (h : xR p G s)
    (K1 : ∀ r, r ≤ uB (xC s) → r ≤ 1000 → xFind (xE s) (uB (xC s)) o (xH s) = none → am_Go w jR_release d (0, 0) 38 [some (.inr (some 163)), some (.inl (nI o)), some (.inl (nM r)), none] [] G P)
    (K2 : ∀ i, i < xH s → uB (xC s) ≤ i → xFind (xE s) (uB (xC s)) o (xH s) = some i → am_Go w jR_release d (0, 0) 38 [some (.inr (some 163)), some (.inl (nI o)), some (.inl (nI i)), none] [] G P) :
    ∀ (r : Nat), r ≤ xH s → xFind (xE s) (uB (xC s)) o (xH s) = xFind (xE s) (uB (xC s)) o r → am_Go w jR_release d (0, 0) 7 [some (.inr (some 163)), some (.inl (nI o)), some (.inl (nM r)), none] [] G P := by
  have nn := h.nn
  have bs := h.bs hN
  intro r
  induction r with
  | zero =>
    intro hr hx
    refine go_iload_n dR_release_7 rfl rfl ?_
    refine go_aload_n dR_release_8 rfl rfl ?_
    refine go_getO (a := 188) dR_release_9 flR_83 rfl (hS.s sh_163) (hS.r rt_fBase) ?_
    refine go_aload_n dR_release_12 rfl rfl ?_
    refine go_getV dR_release_13 flR_200 rfl (hS.s sh_163) (by first | assumption | (simp (disch := omega) only [wi_I, ro_I, wi_In, wi_Is]; done) | (simp (disch := omega) only [wi_I, ro_I, wi_In, wi_Is]; first | assumption | rfl) | rfl) ?_
    refine go_iconst (nI 1) (by decide) dR_release_16 ?_
    first | refine go_isubN (by omega) dR_release_17 ?_ | refine go_isub dR_release_17 ?_
    first | refine go_ialV (hS.s sh_188) (by omega) (by decide) (by assumption) dR_release_18 ?_ | refine go_ialoadN (hS.s sh_188) (by omega) (by decide) dR_release_18 ?_
    refine go_icmp_lt dR_release_19 (tgt := 38) (by decide) (fun c1 => ?_) (fun c1 => absurd ((nM_ltb (by omega) (by omega)).mpr (Nat.zero_le _)) c1)
    exact K1 0 (Nat.zero_le _) (Nat.zero_le _) hx
  | succ r ih =>
    intro hr hx
    have lk := h.lk (k := r) (by omega)
    have hE1 := hE r (by omega)
    refine go_iload_n dR_release_7 rfl rfl ?_
    refine go_aload_n dR_release_8 rfl rfl ?_
    refine go_getO (a := 188) dR_release_9 flR_83 rfl (hS.s sh_163) (hS.r rt_fBase) ?_
    refine go_aload_n dR_release_12 rfl rfl ?_
    refine go_getV dR_release_13 flR_200 rfl (hS.s sh_163) (by first | assumption | (simp (disch := omega) only [wi_I, ro_I, wi_In, wi_Is]; done) | (simp (disch := omega) only [wi_I, ro_I, wi_In, wi_Is]; first | assumption | rfl) | rfl) ?_
    refine go_iconst (nI 1) (by decide) dR_release_16 ?_
    first | refine go_isubN (by omega) dR_release_17 ?_ | refine go_isub dR_release_17 ?_
    first | refine go_ialV (hS.s sh_188) (by omega) (by decide) (by assumption) dR_release_18 ?_ | refine go_ialoadN (hS.s sh_188) (by omega) (by decide) dR_release_18 ?_
    refine go_icmp_lt dR_release_19 (tgt := 38) (by decide) (fun c1 => ?_) (fun c1 => ?_)
    · have c2 := (nM_ltb (by omega) (by omega)).mp c1
      exact K1 (r + 1) c2 (by omega) (hx.trans (xFind_0 c2))
    · have c2 : uB (xC s) ≤ r := by
        rcases Nat.lt_or_ge r (uB (xC s)) with q | q
        · exact absurd ((nM_ltb (by omega) (by omega)).mpr q) c1
        · exact q
      rw [nM_1]
      skip
      refine go_aload_n dR_release_22 rfl rfl ?_
      refine go_getO (a := 184) dR_release_23 flR_71 rfl (hS.s sh_163) (hS.r rt_entered) ?_
      refine go_iload_n dR_release_26 rfl rfl ?_
      first | refine go_ialV (hS.s sh_184) (by omega) (by decide) (by assumption) dR_release_27 ?_ | refine go_ialoadN (hS.s sh_184) (by omega) (by decide) dR_release_27 ?_
      refine go_iload_n dR_release_28 rfl rfl ?_
      refine go_icmp_eqN (by omega) (by omega) dR_release_29 (tgt := 38) (by decide) (fun c29 => ?_) (fun c29 => ?_)
      · exact K2 r (by omega) c2 (hx.trans (xFind_y c2 c29))
      · refine go_iinc dR_release_32 rfl ?_
        rw [nM_d]
        refine go_goto dR_release_35 (tgt := 7) (by decide) ?_
        exact ih (by omega) (hx.trans (xFind_n c2 c29))
set_option maxRecDepth 100000 in
theorem R_rs (w : am_W) {d : Nat} {P : Option am_V → am_G → Prop} (G0 : am_G) (o i n : Nat) (E : Nat → Nat) (hn : n < 1000) (h35 : G0.2.1 163 35 = nI n)
    (K : ∀ (G : am_G), St0 G → oR (fun i => i = 184) G0 G → (∀ k, k < n → G.2.1 184 k = nI (if k < i then E k else E (k + 1))) → am_Go w jR_release d (0, 0) 99 [some (.inr (some 163)), some (.inl (nI o)), some (.inl (nI i)), some (.inl (nI n))] [] G P) :
    ∀ (r j : Nat) (G : am_G), j + r = n → i ≤ j → St0 G → oR (fun i => i = 184) G0 G → (∀ k, k ≤ n → G.2.1 184 k = nI (if k < i then E k else if k < j then E (k + 1) else E k)) → am_Go w jR_release d (0, 0) 71 [some (.inr (some 163)), some (.inl (nI o)), some (.inl (nI i)), some (.inl (nI j))] [] G P := by
  intro r
  induction r with
  | zero =>
    intro j G hj hi hS ho hk
    have hh : G.2.1 163 35 = nI n := by rw [ho.2.2 163 (by decide)]; exact h35
    refine go_iload_n dR_release_71 rfl rfl ?_
    refine go_aload_n dR_release_72 rfl rfl ?_
    refine go_getV dR_release_73 flR_203 rfl (hS.s sh_163) (by first | assumption | (simp (disch := omega) only [wi_I, ro_I, wi_In, wi_Is]; done) | (simp (disch := omega) only [wi_I, ro_I, wi_In, wi_Is]; first | assumption | rfl) | rfl) ?_
    refine go_icmp_geN (by omega) (by omega) dR_release_76 (tgt := 99) (by decide) (fun c1 => ?_) (fun c1 => absurd c1 (by omega))
    have e : j = n := by omega
    subst e
    refine K G hS ho (fun k h2 => ?_)
    rw [hk k (by omega), if_pos h2]
  | succ r ih =>
    intro j G hj hi hS ho hk
    have hh : G.2.1 163 35 = nI n := by rw [ho.2.2 163 (by decide)]; exact h35
    have hk1 : G.2.1 184 (j + 1) = nI (E (j + 1)) := by rw [hk (j + 1) (by omega), if_neg (by omega), if_neg (by omega)]
    refine go_iload_n dR_release_71 rfl rfl ?_
    refine go_aload_n dR_release_72 rfl rfl ?_
    refine go_getV dR_release_73 flR_203 rfl (hS.s sh_163) (by first | assumption | (simp (disch := omega) only [wi_I, ro_I, wi_In, wi_Is]; done) | (simp (disch := omega) only [wi_I, ro_I, wi_In, wi_Is]; first | assumption | rfl) | rfl) ?_
    refine go_icmp_geN (by omega) (by omega) dR_release_76 (tgt := 99) (by decide) (fun c1 => absurd c1 (by omega)) (fun c1 => ?_)
    refine go_aload_n dR_release_79 rfl rfl ?_
    refine go_getO (a := 184) dR_release_80 flR_71 rfl (hS.s sh_163) (hS.r rt_entered) ?_
    refine go_iload_n dR_release_83 rfl rfl ?_
    refine go_aload_n dR_release_84 rfl rfl ?_
    refine go_getO (a := 184) dR_release_85 flR_71 rfl (hS.s sh_163) (hS.r rt_entered) ?_
    refine go_iload_n dR_release_88 rfl rfl ?_
    refine go_iconst (nI 1) (by decide) dR_release_89 ?_
    first | refine go_iaddN dR_release_90 ?_ | refine go_iadd dR_release_90 ?_
    refine go_ialV (hS.s sh_184) (by omega) (by decide) hk1 dR_release_91 ?_
    refine go_iastoreN (hS.s sh_184) (by omega) (by decide) dR_release_92 ?_
    refine go_inc dR_release_93 rfl ?_
    refine go_goto dR_release_96 (tgt := 71) (by decide) ?_
    refine ih (j + 1) _ (by omega) (by omega) hS (ho.tr (oR.wi rfl)) (fun k h2 => ?_)
    rw [wi_at]
    by_cases e : k = j
    · rw [if_pos e, if_neg (by omega), if_pos (by omega), e]
    · rw [if_neg e, hk k h2]
      by_cases e1 : k < i
      · rw [if_pos e1, if_pos e1]
      · rw [if_neg e1, if_neg e1]
        by_cases e2 : k < j
        · rw [if_pos e2, if_pos (by omega)]
        · rw [if_neg e2, if_neg (by omega)]
set_option maxRecDepth 100000 in
theorem okR_release (w : am_W) {d : Nat} (hd : 5 ≤ d) (G : am_G) (p m o : Nat) (s : xT) (Q : Nat → mT) (Z : Nat → fM) (hp : p < 2) (hv : ∀ a, a < 6 → mV (Q a)) (hb : tB Q Z m s) (hN : 1 ≤ xN s) (hc : tyM Q Z m (lM s.1) (xC s)) (ho : o ≤ 1000) (hB : rBd s) (hS : St0 G) (h : xR p G s) (hR : hldR G p Q) : am_Ok w jR_release d (0, 0) [.inr (some 163), .inl (nI o)] G (fun r G' => r = none ∧ xR p G' (xAft Q (xLeave s (xC s) o)) ∧ oX G G') := by
  refine am_ok_of rfl (Nat.le_of_ble_eq_true rfl) ?_
  show am_Go w jR_release d (0, 0) 0 [some (.inr (some 163)), some (.inl (nI o)), none, none] [] G _
  have nn := h.nn
  have hh := h.hh
  have bs := h.bs hN
  have h12 := hb.2.2.1
  obtain ⟨n1, n2, n3, n4⟩ := id hB
  have u3 := hc.2.2.2.1
  refine go_aload_n dR_release_0 rfl rfl ?_
  refine go_getV dR_release_1 flR_203 rfl (hS.s sh_163) (by first | assumption | (simp (disch := omega) only [wi_I, ro_I, wi_In, wi_Is]; done) | (simp (disch := omega) only [wi_I, ro_I, wi_In, wi_Is]; first | assumption | rfl) | rfl) ?_
  refine go_iconst (nI 1) (by decide) dR_release_4 ?_
  refine go_isub dR_release_5 ?_
  change am_Go w jR_release d (0, 0) 6 _ [.inl (nM (xH s))] _ _
  refine go_istore_n dR_release_6 rfl (Nat.le_of_ble_eq_true rfl) ?_
  refine R_rl w G p o s hN h12 ho u3 (by omega) (fun k hk => by have := (hb.2.1 k hk).2; omega) hS h (fun r h1 hr9 hf => ?_) (fun i hi hbi hf => ?_) (xH s) (Nat.le_refl _) rfl
  · refine go_iload_n dR_release_38 rfl rfl ?_
    refine go_aload_n dR_release_39 rfl rfl ?_
    refine go_getO (a := 188) dR_release_40 flR_83 rfl (hS.s sh_163) (hS.r rt_fBase) ?_
    refine go_aload_n dR_release_43 rfl rfl ?_
    refine go_getV dR_release_44 flR_200 rfl (hS.s sh_163) (by first | assumption | (simp (disch := omega) only [wi_I, ro_I, wi_In, wi_Is]; done) | (simp (disch := omega) only [wi_I, ro_I, wi_In, wi_Is]; first | assumption | rfl) | rfl) ?_
    refine go_iconst (nI 1) (by decide) dR_release_47 ?_
    first | refine go_isubN (by omega) dR_release_48 ?_ | refine go_isub dR_release_48 ?_
    first | refine go_ialV (hS.s sh_188) (by omega) (by decide) (by assumption) dR_release_49 ?_ | refine go_ialoadN (hS.s sh_188) (by omega) (by decide) dR_release_49 ?_
    refine go_icmp_ge dR_release_50 (tgt := 59) (by decide) (fun c1 => ?_) (fun c1 => ?_)
    · exact absurd ((nM_ltb (by omega) (by omega)).mpr h1) (fun q => absurd c1 (i_nle.mpr q))
    · refine go_aload_n dR_release_53 rfl rfl ?_
      refine go_iconst (nI 3) (by decide) dR_release_54 ?_
      refine go_cV (k' := (0, 0)) dR_release_55 _ csR_231 (hS.s sh_163) rfl imR_machine seR_machine rfl (okR_machine (d := 4) w (by decide) G p m 3 s Q Z hp hv hb (fun _ => hc) (by decide) hB hS h hR) (by omega) (by decide) (Nat.le_of_ble_eq_true rfl) (fun r G1 hr hn => ?_)
      obtain ⟨rfl, X1, o1⟩ := hr
      refine go_return rfl dR_release_58 ?_
      exact ⟨rfl, by rw [xLeave_n hf]; exact X1, o1⟩
  · refine go_iload_n dR_release_38 rfl rfl ?_
    refine go_aload_n dR_release_39 rfl rfl ?_
    refine go_getO (a := 188) dR_release_40 flR_83 rfl (hS.s sh_163) (hS.r rt_fBase) ?_
    refine go_aload_n dR_release_43 rfl rfl ?_
    refine go_getV dR_release_44 flR_200 rfl (hS.s sh_163) (by first | assumption | (simp (disch := omega) only [wi_I, ro_I, wi_In, wi_Is]; done) | (simp (disch := omega) only [wi_I, ro_I, wi_In, wi_Is]; first | assumption | rfl) | rfl) ?_
    refine go_iconst (nI 1) (by decide) dR_release_47 ?_
    first | refine go_isubN (by omega) dR_release_48 ?_ | refine go_isub dR_release_48 ?_
    first | refine go_ialV (hS.s sh_188) (by omega) (by decide) (by assumption) dR_release_49 ?_ | refine go_ialoadN (hS.s sh_188) (by omega) (by decide) dR_release_49 ?_
    refine go_icmp_geN (by omega) (by omega) dR_release_50 (tgt := 59) (by decide) (fun c1 => ?_) (fun c1 => absurd c1 (by omega))
    refine go_aload_n dR_release_59 rfl rfl ?_
    refine go_dup dR_release_60 ?_
    refine go_getV dR_release_61 flR_203 rfl (hS.s sh_163) (by first | assumption | (simp (disch := omega) only [wi_I, ro_I, wi_In, wi_Is]; done) | (simp (disch := omega) only [wi_I, ro_I, wi_In, wi_Is]; first | assumption | rfl) | rfl) ?_
    refine go_iconst (nI 1) (by decide) dR_release_64 ?_
    first | refine go_isubN (by omega) dR_release_65 ?_ | refine go_isub dR_release_65 ?_
    refine go_putI dR_release_66 fpR_203 rfl (hS.s sh_163) ?_
    refine go_iload_n dR_release_69 rfl rfl ?_
    refine go_istore_n dR_release_70 rfl (Nat.le_of_ble_eq_true rfl) ?_
    have X1 : xR p (am_wi G 163 35 (nI (xH s - 1))) (xHeld s (xH s - 1) (xE s)) := h.less
    refine R_rs w (am_wi G 163 35 (nI (xH s - 1))) o i (xH s - 1) (xE s) (by omega) wi_Is (fun X SX ox hX => ?_) (xH s - 1 - i) i _ (by omega) (Nat.le_refl _) hS oR.rf (fun k hk => ?_)
    · have X2 : xR p X (xHeld s (xH s - 1) (fun k => if k < i then xE s k else xE s (k + 1))) := X1.lks (fun r hr => ox.2.2 r hr) hX
      have hS := SX
      refine go_aload_n dR_release_99 rfl rfl ?_
      refine go_iload_n dR_release_100 rfl rfl ?_
      refine go_iconst (nI 3) (by decide) dR_release_101 ?_
      refine go_cV (k' := (0, 0)) dR_release_102 _ csR_197 (hS.s sh_163) rfl imR_tell seR_tell rfl (okR_tell (d := 0) w X p _ (nI o) 3 SX X2 (show lNn s.1 < 1000000 by omega)) (by omega) (by decide) (Nat.le_of_ble_eq_true rfl) (fun r G1 hr hn => ?_)
      obtain ⟨rfl, X3, o3⟩ := hr
      have nn3 : G1.2.1 163 36 = nI (xN s) := X3.nn
      have pl3 : G1.2.1 186 (xN s - 1) = nI (uP (xC s)) := X3.pl hN
      have oM : oX G X := (oX.w3 ⟨by decide, by decide⟩).tr ⟨ox.up (fun r hr => Or.inr (by omega)), fun q _ => by rw [ox.2.2 163 (by decide)]⟩
      have hS := o3.St SX
      refine go_aload_n dR_release_105 rfl rfl ?_
      refine go_getO (a := 186) dR_release_106 flR_77 rfl (hS.s sh_163) (hS.r rt_fPlace) ?_
      refine go_aload_n dR_release_109 rfl rfl ?_
      refine go_getV dR_release_110 flR_200 rfl (hS.s sh_163) (by first | assumption | (simp (disch := omega) only [wi_I, ro_I, wi_In, wi_Is]; done) | (simp (disch := omega) only [wi_I, ro_I, wi_In, wi_Is]; first | assumption | rfl) | rfl) ?_
      refine go_iconst (nI 1) (by decide) dR_release_113 ?_
      first | refine go_isubN (by omega) dR_release_114 ?_ | refine go_isub dR_release_114 ?_
      refine go_dup2 dR_release_115 ?_
      first | refine go_ialV (hS.s sh_186) (by omega) (by decide) (by assumption) dR_release_116 ?_ | refine go_ialoadN (hS.s sh_186) (by omega) (by decide) dR_release_116 ?_
      refine go_iconst (nI 1) (by decide) dR_release_117 ?_
      first | refine go_iaddN dR_release_118 ?_ | refine go_iadd dR_release_118 ?_
      refine go_iastoreN (hS.s sh_186) (by omega) (by decide) dR_release_119 ?_
      refine go_return rfl dR_release_120 ?_
      exact ⟨rfl, by rw [xLeave_s hf]; unfold xOn; rw [xAft_0]; exact X3.go (show 1 ≤ xN s by omega), ((oM.tr o3.x)).tr (oX.wi ⟨by decide, by decide⟩)⟩
    · rw [wi_I (by decide), h.lk (by omega)]
      split
      · rfl
      · first | rfl | rw [if_neg (by omega)]
