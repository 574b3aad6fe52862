/-! The class's memory holds a run. -/
def cF (G : am_G) (i : Nat) (f : uT) : Prop := (G.2.1 (114 + 3 * i) 5 = nI (uM f) ∧ G.2.1 (114 + 3 * i) 6 = nI (uB f) ∧ G.2.1 (114 + 3 * i) 2 = nI (uD f) ∧ uD f ≤ 8) ∧ (∀ d, d < uD f → G.2.1 (116 + 3 * i) d = uV f d) ∧ ∀ a, a < 8 → ∀ v, uL f a = some v → G.2.1 (115 + 3 * i) a = v
def cP (G : am_G) (i : Nat) (a : Nat) : Prop := G.2.1 (114 + 3 * i) 3 = nI a ∧ G.2.1 (114 + 3 * i) 4 = nI (a + 1)
/-- b: the latest frame's INSTRUCTION is being done -/
def cX (p h : Nat) (G : am_G) (s : xT) (t : Nat) (b : Bool) : Prop := cL G h s.1 ∧ (G.2.1 109 6 = nI (xN s) ∧ G.2.1 109 7 = nI (xH s) ∧ G.2.1 109 8 = nI t ∧ (h = 159 ∨ h = 161)) ∧ (G.2.2 109 4 = some (2 + 50 * p) ∧ G.2.2 109 5 = some h) ∧ (∀ o, 1 ≤ o → o ≤ lM s.1 → G.2.1 111 o = nI (xY s o) ∧ G.2.1 112 o = xI s o) ∧ (∀ k, k < xH s → G.2.1 113 k = nI (xE s k)) ∧ (∀ i, i + 1 < xN s → cF G i (xF s i) ∧ cP G i (uP (xF s i))) ∧ (1 ≤ xN s → cF G (xN s - 1) (xC s)) ∧ (1 ≤ xN s → b = true → cP G (xN s - 1) (uP (xC s))) ∧ (1 ≤ xN s → b = false → G.2.1 (114 + 3 * (xN s - 1)) 4 = nI (uP (xC s))) ∧ (xO s = none → G.2.1 h 1 = -5) ∧ (∀ e, xO s = some e → G.2.1 h 1 = nI e) ∧ xN s ≤ 12
/-- only the machine and its ledger have changed; only the ledger -/
def oM (h : Nat) (G G' : am_G) : Prop := oR (fun i => (109 ≤ i ∧ i ≤ 149) ∨ i = h ∨ i = h + 1) G G'
def oLg (h : Nat) (G G' : am_G) : Prop := oR (fun i => i = h ∨ i = h + 1) G G' ∧ G'.2.1 h 1 = G.2.1 h 1
theorem oM.rf {h : Nat} {G : am_G} : oM h G G := oR.rf
theorem oM.tr {h : Nat} {G G1 G2 : am_G} (h1 : oM h G G1) (h2 : oM h G1 G2) : oM h G G2 := oR.tr h1 h2
theorem oM.St {h : Nat} {G G1 : am_G} (h1 : oM h G G1) (hs : St0 G) : St0 G1 := oR.St h1 hs
theorem oM.w {h : Nat} {G : am_G} {i k : Nat} {x : Int32} (hi : 109 ≤ i ∧ i ≤ 149) : oM h G (am_wi G i k x) := oR.wi (Or.inl hi)
theorem oM.l {h : Nat} {G : am_G} {k : Nat} {x : Int32} : oM h G (am_wi G h k x) := oR.wi (Or.inr (Or.inl rfl))
theorem oLg.m {h : Nat} {G G' : am_G} (q : oLg h G G') : oM h G G' := q.1.up (fun _ hi => Or.inr hi)
theorem cF.same {G G' : am_G} {i : Nat} {f : uT} (q : cF G i f) (h1 : ∀ k, k = 5 ∨ k = 6 ∨ k = 2 → G'.2.1 (114 + 3 * i) k = G.2.1 (114 + 3 * i) k) (h2 : G'.2.1 (115 + 3 * i) = G.2.1 (115 + 3 * i)) (h3 : G'.2.1 (116 + 3 * i) = G.2.1 (116 + 3 * i)) : cF G' i f := by
  obtain ⟨⟨a1, a2, a3, a4⟩, b, c⟩ := q
  refine ⟨⟨by rw [h1 5 (by omega)]; exact a1, by rw [h1 6 (by omega)]; exact a2, by rw [h1 2 (by omega)]; exact a3, a4⟩, fun d hd => by rw [h3]; exact b d hd, fun a ha v hv => by rw [h2]; exact c a ha v hv⟩
theorem cP.same {G G' : am_G} {i a : Nat} (q : cP G i a) (h1 : ∀ k, k = 3 ∨ k = 4 → G'.2.1 (114 + 3 * i) k = G.2.1 (114 + 3 * i) k) : cP G' i a := ⟨by rw [h1 3 (by omega)]; exact q.1, by rw [h1 4 (by omega)]; exact q.2⟩
section Cx
variable {p h t : Nat} {G G' : am_G} {s : xT} {b : Bool}
theorem cX.pop (q : cX p h G s t b) (hN : 1 ≤ xN s) : cX p h (am_wi G (114 + 3 * (xN s - 1)) 2 (nI (uD (xC s) - 1))) (xSet s (uPop (xC s))) t b := by
  obtain ⟨⟨a1, a2, a3, a4, a5, a6, a7⟩, ⟨b1, b2, b3, hh⟩, ⟨r1, r2⟩, c, d, e, f, g, i, j, l, n12⟩ := q
  refine ⟨⟨?_, ?_, ?_, ?_, ?_, ?_, fun i h1 h2 => ?_⟩, ⟨?_, ?_, ?_, hh⟩, ⟨r1, r2⟩, fun o h1 h2 => ?_, fun k hk => ?_, fun k hk => ?_, fun hk => ?_, fun hk hb => ?_, fun hk hb => ?_, fun hn => ?_, fun z hz => ?_, ?_⟩
  · first | (simp (disch := omega) only [wi_I, wi_In, wi_Is]; done) | (simp (disch := omega) only [wi_I, wi_In, wi_Is]; first | assumption | rfl)
  · first | (simp (disch := omega) only [wi_I, wi_In, wi_Is]; done) | (simp (disch := omega) only [wi_I, wi_In, wi_Is]; first | assumption | rfl)
  · first | (simp (disch := omega) only [wi_I, wi_In, wi_Is]; done) | (simp (disch := omega) only [wi_I, wi_In, wi_Is]; first | assumption | rfl)
  · first | (simp (disch := omega) only [wi_I, wi_In, wi_Is]; done) | (simp (disch := omega) only [wi_I, wi_In, wi_Is]; first | assumption | rfl)
  · first | (simp (disch := omega) only [wi_I, wi_In, wi_Is]; done) | (simp (disch := omega) only [wi_I, wi_In, wi_Is]; first | assumption | rfl)
  · first | (simp (disch := omega) only [wi_I, wi_In, wi_Is]; done) | (simp (disch := omega) only [wi_I, wi_In, wi_Is]; first | assumption | rfl)
  · simp (disch := omega) only [wi_I, wi_In, wi_Is]; exact a7 i h1 h2
  · first | (simp (disch := omega) only [wi_I, wi_In, wi_Is]; done) | (simp (disch := omega) only [wi_I, wi_In, wi_Is]; first | assumption | rfl)
  · first | (simp (disch := omega) only [wi_I, wi_In, wi_Is]; done) | (simp (disch := omega) only [wi_I, wi_In, wi_Is]; first | assumption | rfl)
  · first | (simp (disch := omega) only [wi_I, wi_In, wi_Is]; done) | (simp (disch := omega) only [wi_I, wi_In, wi_Is]; first | assumption | rfl)
  · simp (disch := omega) only [wi_I, wi_In, wi_Is]; exact c o h1 h2
  · simp (disch := omega) only [wi_I, wi_In, wi_Is]; exact d k hk
  · have hk : k + 1 < xN s := hk
    exact ⟨(e k hk).1.same (fun k hk => by simp (disch := omega) only [wi_I, wi_In]) (by simp (disch := omega) only [wi_I]) (by simp (disch := omega) only [wi_I]), (e k hk).2.same (fun k hk => by simp (disch := omega) only [wi_I, wi_In])⟩
  · change cF _ (xN s - 1) _
    obtain ⟨⟨z1, z2, z3, z4⟩, y, x⟩ := f hN
    refine ⟨⟨?_, ?_, ?_, ?_⟩, fun d hd => ?_, fun a ha v hv => ?_⟩
    · simp (disch := omega) only [wi_I, wi_In, wi_Is]; exact z1
    · simp (disch := omega) only [wi_I, wi_In, wi_Is]; exact z2
    · simp (disch := omega) only [wi_I, wi_In, wi_Is]; rfl
    · show uD (xC s) - 1 ≤ 8; omega
    · simp (disch := omega) only [wi_I, wi_In, wi_Is]; exact y d (by have hd : d < uD (xC s) - 1 := hd; omega)
    · simp (disch := omega) only [wi_I, wi_In, wi_Is]; exact x a ha v hv
  · have hk : 1 ≤ xN s := hk
    exact (g hk hb).same (fun k hk => by simp (disch := omega) only [wi_I, wi_In])
  · have hk : 1 ≤ xN s := hk
    have := i hk hb
    change Prod.fst (Prod.snd (_ : am_G)) (114 + 3 * (xN s - 1)) 4 = _
    simp (disch := omega) only [wi_I, wi_In, wi_Is]; exact this
  · simp (disch := omega) only [wi_I, wi_In, wi_Is]; exact j hn
  · simp (disch := omega) only [wi_I, wi_In, wi_Is]; exact l z hz
  · exact n12
theorem cX.push {v : Int32} (q : cX p h G s t b) (hN : 1 ≤ xN s) (h8 : uD (xC s) < 8) : cX p h (am_wi (am_wi G (116 + 3 * (xN s - 1)) (uD (xC s)) v) (114 + 3 * (xN s - 1)) 2 (nI (uD (xC s) + 1))) (xSet s (uPush (xC s) v)) t b := by
  obtain ⟨⟨a1, a2, a3, a4, a5, a6, a7⟩, ⟨b1, b2, b3, hh⟩, ⟨r1, r2⟩, c, d, e, f, g, i, j, l, n12⟩ := q
  refine ⟨⟨?_, ?_, ?_, ?_, ?_, ?_, fun i h1 h2 => ?_⟩, ⟨?_, ?_, ?_, hh⟩, ⟨r1, r2⟩, fun o h1 h2 => ?_, fun k hk => ?_, fun k hk => ?_, fun hk => ?_, fun hk hb => ?_, fun hk hb => ?_, fun hn => ?_, fun z hz => ?_, ?_⟩
  · first | (simp (disch := omega) only [wi_I, wi_In, wi_Is]; done) | (simp (disch := omega) only [wi_I, wi_In, wi_Is]; first | assumption | rfl)
  · first | (simp (disch := omega) only [wi_I, wi_In, wi_Is]; done) | (simp (disch := omega) only [wi_I, wi_In, wi_Is]; first | assumption | rfl)
  · first | (simp (disch := omega) only [wi_I, wi_In, wi_Is]; done) | (simp (disch := omega) only [wi_I, wi_In, wi_Is]; first | assumption | rfl)
  · first | (simp (disch := omega) only [wi_I, wi_In, wi_Is]; done) | (simp (disch := omega) only [wi_I, wi_In, wi_Is]; first | assumption | rfl)
  · first | (simp (disch := omega) only [wi_I, wi_In, wi_Is]; done) | (simp (disch := omega) only [wi_I, wi_In, wi_Is]; first | assumption | rfl)
  · first | (simp (disch := omega) only [wi_I, wi_In, wi_Is]; done) | (simp (disch := omega) only [wi_I, wi_In, wi_Is]; first | assumption | rfl)
  · simp (disch := omega) only [wi_I, wi_In, wi_Is]; exact a7 i h1 h2
  · first | (simp (disch := omega) only [wi_I, wi_In, wi_Is]; done) | (simp (disch := omega) only [wi_I, wi_In, wi_Is]; first | assumption | rfl)
  · first | (simp (disch := omega) only [wi_I, wi_In, wi_Is]; done) | (simp (disch := omega) only [wi_I, wi_In, wi_Is]; first | assumption | rfl)
  · first | (simp (disch := omega) only [wi_I, wi_In, wi_Is]; done) | (simp (disch := omega) only [wi_I, wi_In, wi_Is]; first | assumption | rfl)
  · simp (disch := omega) only [wi_I, wi_In, wi_Is]; exact c o h1 h2
  · simp (disch := omega) only [wi_I, wi_In, wi_Is]; exact d k hk
  · have hk : k + 1 < xN s := hk
    exact ⟨(e k hk).1.same (fun k hk => by simp (disch := omega) only [wi_I, wi_In]) (by simp (disch := omega) only [wi_I]) (by simp (disch := omega) only [wi_I]), (e k hk).2.same (fun k hk => by simp (disch := omega) only [wi_I, wi_In])⟩
  · change cF _ (xN s - 1) _
    obtain ⟨⟨z1, z2, z3, z4⟩, y, x⟩ := f hN
    refine ⟨⟨?_, ?_, ?_, ?_⟩, fun d hd => ?_, fun a ha v' hv => ?_⟩
    · simp (disch := omega) only [wi_I, wi_In, wi_Is]; exact z1
    · simp (disch := omega) only [wi_I, wi_In, wi_Is]; exact z2
    · simp (disch := omega) only [wi_I, wi_In, wi_Is]; rfl
    · exact h8
    · have hd : d < uD (xC s) + 1 := hd
      show _ = va_up (uV (xC s)) (uD (xC s)) v d
      by_cases ed : d = uD (xC s)
      · rw [ed, am_up_eq]; simp (disch := omega) only [wi_I, wi_In, wi_Is]
      · rw [am_up_ne ed]; simp (disch := omega) only [wi_I, wi_In, wi_Is]; exact y d (by omega)
    · simp (disch := omega) only [wi_I, wi_In, wi_Is]; exact x a ha v' hv
  · have hk : 1 ≤ xN s := hk
    exact (g hk hb).same (fun k hk => by simp (disch := omega) only [wi_I, wi_In])
  · have hk : 1 ≤ xN s := hk
    have := i hk hb
    change Prod.fst (Prod.snd (_ : am_G)) (114 + 3 * (xN s - 1)) 4 = _
    simp (disch := omega) only [wi_I, wi_In, wi_Is]; exact this
  · simp (disch := omega) only [wi_I, wi_In, wi_Is]; exact j hn
  · simp (disch := omega) only [wi_I, wi_In, wi_Is]; exact l z hz
  · exact n12
theorem cX.st {a : Nat} {v : Int32} (q : cX p h G s t b) (hN : 1 ≤ xN s) : cX p h (am_wi G (115 + 3 * (xN s - 1)) a v) (xSet s (uSt (xC s) a v)) t b := by
  obtain ⟨⟨a1, a2, a3, a4, a5, a6, a7⟩, ⟨b1, b2, b3, hh⟩, ⟨r1, r2⟩, c, d, e, f, g, i, j, l, n12⟩ := q
  refine ⟨⟨?_, ?_, ?_, ?_, ?_, ?_, fun i h1 h2 => ?_⟩, ⟨?_, ?_, ?_, hh⟩, ⟨r1, r2⟩, fun o h1 h2 => ?_, fun k hk => ?_, fun k hk => ?_, fun hk => ?_, fun hk hb => ?_, fun hk hb => ?_, fun hn => ?_, fun z hz => ?_, ?_⟩
  · first | (simp (disch := omega) only [wi_I, wi_In, wi_Is]; done) | (simp (disch := omega) only [wi_I, wi_In, wi_Is]; first | assumption | rfl)
  · first | (simp (disch := omega) only [wi_I, wi_In, wi_Is]; done) | (simp (disch := omega) only [wi_I, wi_In, wi_Is]; first | assumption | rfl)
  · first | (simp (disch := omega) only [wi_I, wi_In, wi_Is]; done) | (simp (disch := omega) only [wi_I, wi_In, wi_Is]; first | assumption | rfl)
  · first | (simp (disch := omega) only [wi_I, wi_In, wi_Is]; done) | (simp (disch := omega) only [wi_I, wi_In, wi_Is]; first | assumption | rfl)
  · first | (simp (disch := omega) only [wi_I, wi_In, wi_Is]; done) | (simp (disch := omega) only [wi_I, wi_In, wi_Is]; first | assumption | rfl)
  · first | (simp (disch := omega) only [wi_I, wi_In, wi_Is]; done) | (simp (disch := omega) only [wi_I, wi_In, wi_Is]; first | assumption | rfl)
  · simp (disch := omega) only [wi_I, wi_In, wi_Is]; exact a7 i h1 h2
  · first | (simp (disch := omega) only [wi_I, wi_In, wi_Is]; done) | (simp (disch := omega) only [wi_I, wi_In, wi_Is]; first | assumption | rfl)
  · first | (simp (disch := omega) only [wi_I, wi_In, wi_Is]; done) | (simp (disch := omega) only [wi_I, wi_In, wi_Is]; first | assumption | rfl)
  · first | (simp (disch := omega) only [wi_I, wi_In, wi_Is]; done) | (simp (disch := omega) only [wi_I, wi_In, wi_Is]; first | assumption | rfl)
  · simp (disch := omega) only [wi_I, wi_In, wi_Is]; exact c o h1 h2
  · simp (disch := omega) only [wi_I, wi_In, wi_Is]; exact d k hk
  · have hk : k + 1 < xN s := hk
    exact ⟨(e k hk).1.same (fun k hk => by simp (disch := omega) only [wi_I, wi_In]) (by simp (disch := omega) only [wi_I]) (by simp (disch := omega) only [wi_I]), (e k hk).2.same (fun k hk => by simp (disch := omega) only [wi_I, wi_In])⟩
  · change cF _ (xN s - 1) _
    obtain ⟨⟨z1, z2, z3, z4⟩, y, x⟩ := f hN
    refine ⟨⟨?_, ?_, ?_, z4⟩, fun d hd => ?_, fun k ha u hu => ?_⟩
    · simp (disch := omega) only [wi_I, wi_In, wi_Is]; exact z1
    · simp (disch := omega) only [wi_I, wi_In, wi_Is]; exact z2
    · simp (disch := omega) only [wi_I, wi_In, wi_Is]; exact z3
    · simp (disch := omega) only [wi_I, wi_In, wi_Is]; exact y d hd
    · have hu : va_up (uL (xC s)) a (some v) k = some u := hu
      by_cases ek : k = a
      · rw [ek, am_up_eq] at hu; cases hu; rw [ek]; simp (disch := omega) only [wi_I, wi_In, wi_Is]
      · rw [am_up_ne ek] at hu; simp (disch := omega) only [wi_I, wi_In, wi_Is]; exact x k ha u hu
  · have hk : 1 ≤ xN s := hk
    exact (g hk hb).same (fun k hk => by simp (disch := omega) only [wi_I, wi_In])
  · have hk : 1 ≤ xN s := hk
    have := i hk hb
    change Prod.fst (Prod.snd (_ : am_G)) (114 + 3 * (xN s - 1)) 4 = _
    simp (disch := omega) only [wi_I, wi_In, wi_Is]; exact this
  · simp (disch := omega) only [wi_I, wi_In, wi_Is]; exact j hn
  · simp (disch := omega) only [wi_I, wi_In, wi_Is]; exact l z hz
  · exact n12
theorem cX.nxt {n : Nat} (q : cX p h G s t b) (hN : 1 ≤ xN s) : cX p h (am_wi G (114 + 3 * (xN s - 1)) 4 (nI n)) (xSet s (uGo (xC s) n)) t false := by
  obtain ⟨⟨a1, a2, a3, a4, a5, a6, a7⟩, ⟨b1, b2, b3, hh⟩, ⟨r1, r2⟩, c, d, e, f, g, i, j, l, n12⟩ := q
  refine ⟨⟨?_, ?_, ?_, ?_, ?_, ?_, fun i h1 h2 => ?_⟩, ⟨?_, ?_, ?_, hh⟩, ⟨r1, r2⟩, fun o h1 h2 => ?_, fun k hk => ?_, fun k hk => ?_, fun hk => ?_, fun hk hb => ?_, fun hk hb => ?_, fun hn => ?_, fun z hz => ?_, ?_⟩
  · first | (simp (disch := omega) only [wi_I, wi_In, wi_Is]; done) | (simp (disch := omega) only [wi_I, wi_In, wi_Is]; first | assumption | rfl)
  · first | (simp (disch := omega) only [wi_I, wi_In, wi_Is]; done) | (simp (disch := omega) only [wi_I, wi_In, wi_Is]; first | assumption | rfl)
  · first | (simp (disch := omega) only [wi_I, wi_In, wi_Is]; done) | (simp (disch := omega) only [wi_I, wi_In, wi_Is]; first | assumption | rfl)
  · first | (simp (disch := omega) only [wi_I, wi_In, wi_Is]; done) | (simp (disch := omega) only [wi_I, wi_In, wi_Is]; first | assumption | rfl)
  · first | (simp (disch := omega) only [wi_I, wi_In, wi_Is]; done) | (simp (disch := omega) only [wi_I, wi_In, wi_Is]; first | assumption | rfl)
  · first | (simp (disch := omega) only [wi_I, wi_In, wi_Is]; done) | (simp (disch := omega) only [wi_I, wi_In, wi_Is]; first | assumption | rfl)
  · simp (disch := omega) only [wi_I, wi_In, wi_Is]; exact a7 i h1 h2
  · first | (simp (disch := omega) only [wi_I, wi_In, wi_Is]; done) | (simp (disch := omega) only [wi_I, wi_In, wi_Is]; first | assumption | rfl)
  · first | (simp (disch := omega) only [wi_I, wi_In, wi_Is]; done) | (simp (disch := omega) only [wi_I, wi_In, wi_Is]; first | assumption | rfl)
  · first | (simp (disch := omega) only [wi_I, wi_In, wi_Is]; done) | (simp (disch := omega) only [wi_I, wi_In, wi_Is]; first | assumption | rfl)
  · simp (disch := omega) only [wi_I, wi_In, wi_Is]; exact c o h1 h2
  · simp (disch := omega) only [wi_I, wi_In, wi_Is]; exact d k hk
  · have hk : k + 1 < xN s := hk
    exact ⟨(e k hk).1.same (fun k hk => by simp (disch := omega) only [wi_I, wi_In]) (by simp (disch := omega) only [wi_I]) (by simp (disch := omega) only [wi_I]), (e k hk).2.same (fun k hk => by simp (disch := omega) only [wi_I, wi_In])⟩
  · change cF _ (xN s - 1) (uGo (xC s) n)
    have f1 : cF G (xN s - 1) (uGo (xC s) n) := f hN
    exact f1.same (fun k hk => by simp (disch := omega) only [wi_I, wi_In]) (by simp (disch := omega) only [wi_I]) (by simp (disch := omega) only [wi_I])
  · cases hb
  · change Prod.fst (Prod.snd (_ : am_G)) (114 + 3 * (xN s - 1)) 4 = _
    simp (disch := omega) only [wi_I, wi_In, wi_Is]; rfl
  · simp (disch := omega) only [wi_I, wi_In, wi_Is]; exact j hn
  · simp (disch := omega) only [wi_I, wi_In, wi_Is]; exact l z hz
  · exact n12
theorem cX.beg (q : cX p h G s t false) (hN : 1 ≤ xN s) : cX p h (am_wi (am_wi G (114 + 3 * (xN s - 1)) 3 (nI (uP (xC s)))) (114 + 3 * (xN s - 1)) 4 (nI (uP (xC s) + 1))) (s) t true := by
  obtain ⟨⟨a1, a2, a3, a4, a5, a6, a7⟩, ⟨b1, b2, b3, hh⟩, ⟨r1, r2⟩, c, d, e, f, g, i, j, l, n12⟩ := q
  refine ⟨⟨?_, ?_, ?_, ?_, ?_, ?_, fun i h1 h2 => ?_⟩, ⟨?_, ?_, ?_, hh⟩, ⟨r1, r2⟩, fun o h1 h2 => ?_, fun k hk => ?_, fun k hk => ?_, fun hk => ?_, fun hk hb => ?_, fun hk hb => ?_, fun hn => ?_, fun z hz => ?_, ?_⟩
  · first | (simp (disch := omega) only [wi_I, wi_In, wi_Is]; done) | (simp (disch := omega) only [wi_I, wi_In, wi_Is]; first | assumption | rfl)
  · first | (simp (disch := omega) only [wi_I, wi_In, wi_Is]; done) | (simp (disch := omega) only [wi_I, wi_In, wi_Is]; first | assumption | rfl)
  · first | (simp (disch := omega) only [wi_I, wi_In, wi_Is]; done) | (simp (disch := omega) only [wi_I, wi_In, wi_Is]; first | assumption | rfl)
  · first | (simp (disch := omega) only [wi_I, wi_In, wi_Is]; done) | (simp (disch := omega) only [wi_I, wi_In, wi_Is]; first | assumption | rfl)
  · first | (simp (disch := omega) only [wi_I, wi_In, wi_Is]; done) | (simp (disch := omega) only [wi_I, wi_In, wi_Is]; first | assumption | rfl)
  · first | (simp (disch := omega) only [wi_I, wi_In, wi_Is]; done) | (simp (disch := omega) only [wi_I, wi_In, wi_Is]; first | assumption | rfl)
  · simp (disch := omega) only [wi_I, wi_In, wi_Is]; exact a7 i h1 h2
  · first | (simp (disch := omega) only [wi_I, wi_In, wi_Is]; done) | (simp (disch := omega) only [wi_I, wi_In, wi_Is]; first | assumption | rfl)
  · first | (simp (disch := omega) only [wi_I, wi_In, wi_Is]; done) | (simp (disch := omega) only [wi_I, wi_In, wi_Is]; first | assumption | rfl)
  · first | (simp (disch := omega) only [wi_I, wi_In, wi_Is]; done) | (simp (disch := omega) only [wi_I, wi_In, wi_Is]; first | assumption | rfl)
  · simp (disch := omega) only [wi_I, wi_In, wi_Is]; exact c o h1 h2
  · simp (disch := omega) only [wi_I, wi_In, wi_Is]; exact d k hk
  · have hk : k + 1 < xN s := hk
    exact ⟨(e k hk).1.same (fun k hk => by simp (disch := omega) only [wi_I, wi_In]) (by simp (disch := omega) only [wi_I]) (by simp (disch := omega) only [wi_I]), (e k hk).2.same (fun k hk => by simp (disch := omega) only [wi_I, wi_In])⟩
  · have hk : 1 ≤ xN s := hk
    exact (f hk).same (fun k hk => by simp (disch := omega) only [wi_I, wi_In]) (by simp (disch := omega) only [wi_I]) (by simp (disch := omega) only [wi_I])
  · exact ⟨by simp (disch := omega) only [wi_I, wi_In, wi_Is], by simp (disch := omega) only [wi_I, wi_In, wi_Is]⟩
  · cases hb
  · simp (disch := omega) only [wi_I, wi_In, wi_Is]; exact j hn
  · simp (disch := omega) only [wi_I, wi_In, wi_Is]; exact l z hz
  · exact n12
theorem cX.hav {o a : Nat} (q : cX p h G s t b) (hN : 1 ≤ xN s) : cX p h (am_wi (am_wi (am_wi (am_wi G (114 + 3 * (xN s - 1)) 2 (nI 0)) (116 + 3 * (xN s - 1)) 0 (nI o)) (114 + 3 * (xN s - 1)) 2 (nI 1)) (114 + 3 * (xN s - 1)) 4 (nI a)) (xSet s (uHave (xC s) o a)) t false := by
  obtain ⟨⟨a1, a2, a3, a4, a5, a6, a7⟩, ⟨b1, b2, b3, hh⟩, ⟨r1, r2⟩, c, d, e, f, g, i, j, l, n12⟩ := q
  refine ⟨⟨?_, ?_, ?_, ?_, ?_, ?_, fun i h1 h2 => ?_⟩, ⟨?_, ?_, ?_, hh⟩, ⟨r1, r2⟩, fun o h1 h2 => ?_, fun k hk => ?_, fun k hk => ?_, fun hk => ?_, fun hk hb => ?_, fun hk hb => ?_, fun hn => ?_, fun z hz => ?_, ?_⟩
  · first | (simp (disch := omega) only [wi_I, wi_In, wi_Is]; done) | (simp (disch := omega) only [wi_I, wi_In, wi_Is]; first | assumption | rfl)
  · first | (simp (disch := omega) only [wi_I, wi_In, wi_Is]; done) | (simp (disch := omega) only [wi_I, wi_In, wi_Is]; first | assumption | rfl)
  · first | (simp (disch := omega) only [wi_I, wi_In, wi_Is]; done) | (simp (disch := omega) only [wi_I, wi_In, wi_Is]; first | assumption | rfl)
  · first | (simp (disch := omega) only [wi_I, wi_In, wi_Is]; done) | (simp (disch := omega) only [wi_I, wi_In, wi_Is]; first | assumption | rfl)
  · first | (simp (disch := omega) only [wi_I, wi_In, wi_Is]; done) | (simp (disch := omega) only [wi_I, wi_In, wi_Is]; first | assumption | rfl)
  · first | (simp (disch := omega) only [wi_I, wi_In, wi_Is]; done) | (simp (disch := omega) only [wi_I, wi_In, wi_Is]; first | assumption | rfl)
  · simp (disch := omega) only [wi_I, wi_In, wi_Is]; exact a7 i h1 h2
  · first | (simp (disch := omega) only [wi_I, wi_In, wi_Is]; done) | (simp (disch := omega) only [wi_I, wi_In, wi_Is]; first | assumption | rfl)
  · first | (simp (disch := omega) only [wi_I, wi_In, wi_Is]; done) | (simp (disch := omega) only [wi_I, wi_In, wi_Is]; first | assumption | rfl)
  · first | (simp (disch := omega) only [wi_I, wi_In, wi_Is]; done) | (simp (disch := omega) only [wi_I, wi_In, wi_Is]; first | assumption | rfl)
  · simp (disch := omega) only [wi_I, wi_In, wi_Is]; exact c o h1 h2
  · simp (disch := omega) only [wi_I, wi_In, wi_Is]; exact d k hk
  · have hk : k + 1 < xN s := hk
    exact ⟨(e k hk).1.same (fun k hk => by simp (disch := omega) only [wi_I, wi_In]) (by simp (disch := omega) only [wi_I]) (by simp (disch := omega) only [wi_I]), (e k hk).2.same (fun k hk => by simp (disch := omega) only [wi_I, wi_In])⟩
  · change cF _ (xN s - 1) _
    obtain ⟨⟨z1, z2, z3, z4⟩, y, x⟩ := f hN
    refine ⟨⟨?_, ?_, ?_, ?_⟩, fun d hd => ?_, fun a ha v hv => ?_⟩
    · simp (disch := omega) only [wi_I, wi_In, wi_Is]; exact z1
    · simp (disch := omega) only [wi_I, wi_In, wi_Is]; exact z2
    · simp (disch := omega) only [wi_I, wi_In, wi_Is]; rfl
    · show 1 ≤ 8; decide
    · have hd : d < 1 := hd
      show _ = va_up (uV (xC s)) 0 (nI o) d
      rw [show d = 0 by omega, am_up_eq]; simp (disch := omega) only [wi_I, wi_In, wi_Is]
    · simp (disch := omega) only [wi_I, wi_In, wi_Is]; exact x a ha v hv
  · cases hb
  · change Prod.fst (Prod.snd (_ : am_G)) (114 + 3 * (xN s - 1)) 4 = _
    simp (disch := omega) only [wi_I, wi_In, wi_Is]; rfl
  · simp (disch := omega) only [wi_I, wi_In, wi_Is]; exact j hn
  · simp (disch := omega) only [wi_I, wi_In, wi_Is]; exact l z hz
  · exact n12
theorem cX.made {k0 : Nat} (q : cX p h G s t b) : cX p h (am_wi (am_wi (am_wi G h 4 (nI (lM s.1 + 1))) 111 (lM s.1 + 1) (nI k0)) 112 (lM s.1 + 1) (nI 0)) (xMade s k0) t b := by
  obtain ⟨⟨a1, a2, a3, a4, a5, a6, a7⟩, ⟨b1, b2, b3, hh⟩, ⟨r1, r2⟩, c, d, e, f, g, i, j, l, n12⟩ := q
  refine ⟨⟨?_, ?_, ?_, ?_, ?_, ?_, fun i h1 h2 => ?_⟩, ⟨?_, ?_, ?_, hh⟩, ⟨r1, r2⟩, fun o h1 h2 => ?_, fun k hk => ?_, fun k hk => ?_, fun hk => ?_, fun hk hb => ?_, fun hk hb => ?_, fun hn => ?_, fun z hz => ?_, ?_⟩
  · first | (simp (disch := omega) only [wi_I, wi_In, wi_Is]; done) | (simp (disch := omega) only [wi_I, wi_In, wi_Is]; first | assumption | rfl)
  · first | (simp (disch := omega) only [wi_I, wi_In, wi_Is]; done) | (simp (disch := omega) only [wi_I, wi_In, wi_Is]; first | assumption | rfl)
  · first | (simp (disch := omega) only [wi_I, wi_In, wi_Is]; done) | (simp (disch := omega) only [wi_I, wi_In, wi_Is]; first | assumption | rfl)
  · first | (simp (disch := omega) only [wi_I, wi_In, wi_Is]; done) | (simp (disch := omega) only [wi_I, wi_In, wi_Is]; first | assumption | rfl)
  · first | (simp (disch := omega) only [wi_I, wi_In, wi_Is]; done) | (simp (disch := omega) only [wi_I, wi_In, wi_Is]; first | assumption | rfl)
  · first | (simp (disch := omega) only [wi_I, wi_In, wi_Is]; done) | (simp (disch := omega) only [wi_I, wi_In, wi_Is]; first | assumption | rfl)
  · simp (disch := omega) only [wi_I, wi_In, wi_Is]; exact a7 i h1 h2
  · first | (simp (disch := omega) only [wi_I, wi_In, wi_Is]; done) | (simp (disch := omega) only [wi_I, wi_In, wi_Is]; first | assumption | rfl)
  · first | (simp (disch := omega) only [wi_I, wi_In, wi_Is]; done) | (simp (disch := omega) only [wi_I, wi_In, wi_Is]; first | assumption | rfl)
  · first | (simp (disch := omega) only [wi_I, wi_In, wi_Is]; done) | (simp (disch := omega) only [wi_I, wi_In, wi_Is]; first | assumption | rfl)
  · have h2 : o ≤ lM s.1 + 1 := h2
    show _ = nI (va_up (xY s) (lM s.1 + 1) k0 o) ∧ _ = va_up (xI s) (lM s.1 + 1) (nI 0) o
    by_cases eo : o = lM s.1 + 1
    · rw [eo, am_up_eq, am_up_eq]; simp (disch := omega) only [wi_I, wi_In, wi_Is]; exact ⟨trivial, trivial⟩
    · rw [am_up_ne eo, am_up_ne eo]; simp (disch := omega) only [wi_I, wi_In, wi_Is]; exact c o h1 (by omega)
  · simp (disch := omega) only [wi_I, wi_In, wi_Is]; exact d k hk
  · have hk : k + 1 < xN s := hk
    exact ⟨(e k hk).1.same (fun k hk => by simp (disch := omega) only [wi_I, wi_In]) (by simp (disch := omega) only [wi_I]) (by simp (disch := omega) only [wi_I]), (e k hk).2.same (fun k hk => by simp (disch := omega) only [wi_I, wi_In])⟩
  · have hk : 1 ≤ xN s := hk
    exact (f hk).same (fun k hk => by simp (disch := omega) only [wi_I, wi_In]) (by simp (disch := omega) only [wi_I]) (by simp (disch := omega) only [wi_I])
  · have hk : 1 ≤ xN s := hk
    exact (g hk hb).same (fun k hk => by simp (disch := omega) only [wi_I, wi_In])
  · have hk : 1 ≤ xN s := hk
    have := i hk hb
    change Prod.fst (Prod.snd (_ : am_G)) (114 + 3 * (xN s - 1)) 4 = _
    simp (disch := omega) only [wi_I, wi_In, wi_Is]; exact this
  · simp (disch := omega) only [wi_I, wi_In, wi_Is]; exact j hn
  · simp (disch := omega) only [wi_I, wi_In, wi_Is]; exact l z hz
  · exact n12
theorem cX.thr {u : Nat} (q : cX p h G s t b) : cX p h (am_wi G 109 8 (nI u)) (s) u b := by
  obtain ⟨⟨a1, a2, a3, a4, a5, a6, a7⟩, ⟨b1, b2, b3, hh⟩, ⟨r1, r2⟩, c, d, e, f, g, i, j, l, n12⟩ := q
  refine ⟨⟨?_, ?_, ?_, ?_, ?_, ?_, fun i h1 h2 => ?_⟩, ⟨?_, ?_, ?_, hh⟩, ⟨r1, r2⟩, fun o h1 h2 => ?_, fun k hk => ?_, fun k hk => ?_, fun hk => ?_, fun hk hb => ?_, fun hk hb => ?_, fun hn => ?_, fun z hz => ?_, ?_⟩
  · first | (simp (disch := omega) only [wi_I, wi_In, wi_Is]; done) | (simp (disch := omega) only [wi_I, wi_In, wi_Is]; first | assumption | rfl)
  · first | (simp (disch := omega) only [wi_I, wi_In, wi_Is]; done) | (simp (disch := omega) only [wi_I, wi_In, wi_Is]; first | assumption | rfl)
  · first | (simp (disch := omega) only [wi_I, wi_In, wi_Is]; done) | (simp (disch := omega) only [wi_I, wi_In, wi_Is]; first | assumption | rfl)
  · first | (simp (disch := omega) only [wi_I, wi_In, wi_Is]; done) | (simp (disch := omega) only [wi_I, wi_In, wi_Is]; first | assumption | rfl)
  · first | (simp (disch := omega) only [wi_I, wi_In, wi_Is]; done) | (simp (disch := omega) only [wi_I, wi_In, wi_Is]; first | assumption | rfl)
  · first | (simp (disch := omega) only [wi_I, wi_In, wi_Is]; done) | (simp (disch := omega) only [wi_I, wi_In, wi_Is]; first | assumption | rfl)
  · simp (disch := omega) only [wi_I, wi_In, wi_Is]; exact a7 i h1 h2
  · first | (simp (disch := omega) only [wi_I, wi_In, wi_Is]; done) | (simp (disch := omega) only [wi_I, wi_In, wi_Is]; first | assumption | rfl)
  · first | (simp (disch := omega) only [wi_I, wi_In, wi_Is]; done) | (simp (disch := omega) only [wi_I, wi_In, wi_Is]; first | assumption | rfl)
  · first | (simp (disch := omega) only [wi_I, wi_In, wi_Is]; done) | (simp (disch := omega) only [wi_I, wi_In, wi_Is]; first | assumption | rfl)
  · simp (disch := omega) only [wi_I, wi_In, wi_Is]; exact c o h1 h2
  · simp (disch := omega) only [wi_I, wi_In, wi_Is]; exact d k hk
  · have hk : k + 1 < xN s := hk
    exact ⟨(e k hk).1.same (fun k hk => by simp (disch := omega) only [wi_I, wi_In]) (by simp (disch := omega) only [wi_I]) (by simp (disch := omega) only [wi_I]), (e k hk).2.same (fun k hk => by simp (disch := omega) only [wi_I, wi_In])⟩
  · have hk : 1 ≤ xN s := hk
    exact (f hk).same (fun k hk => by simp (disch := omega) only [wi_I, wi_In]) (by simp (disch := omega) only [wi_I]) (by simp (disch := omega) only [wi_I])
  · have hk : 1 ≤ xN s := hk
    exact (g hk hb).same (fun k hk => by simp (disch := omega) only [wi_I, wi_In])
  · have hk : 1 ≤ xN s := hk
    have := i hk hb
    change Prod.fst (Prod.snd (_ : am_G)) (114 + 3 * (xN s - 1)) 4 = _
    simp (disch := omega) only [wi_I, wi_In, wi_Is]; exact this
  · simp (disch := omega) only [wi_I, wi_In, wi_Is]; exact j hn
  · simp (disch := omega) only [wi_I, wi_In, wi_Is]; exact l z hz
  · exact n12
theorem cX.less (q : cX p h G s t b) : cX p h (am_wi G 109 7 (nI (xH s - 1))) (xHeld s (xH s - 1) (xE s)) t b := by
  obtain ⟨⟨a1, a2, a3, a4, a5, a6, a7⟩, ⟨b1, b2, b3, hh⟩, ⟨r1, r2⟩, c, d, e, f, g, i, j, l, n12⟩ := q
  refine ⟨⟨?_, ?_, ?_, ?_, ?_, ?_, fun i h1 h2 => ?_⟩, ⟨?_, ?_, ?_, hh⟩, ⟨r1, r2⟩, fun o h1 h2 => ?_, fun k hk => ?_, fun k hk => ?_, fun hk => ?_, fun hk hb => ?_, fun hk hb => ?_, fun hn => ?_, fun z hz => ?_, ?_⟩
  · first | (simp (disch := omega) only [wi_I, wi_In, wi_Is]; done) | (simp (disch := omega) only [wi_I, wi_In, wi_Is]; first | assumption | rfl)
  · first | (simp (disch := omega) only [wi_I, wi_In, wi_Is]; done) | (simp (disch := omega) only [wi_I, wi_In, wi_Is]; first | assumption | rfl)
  · first | (simp (disch := omega) only [wi_I, wi_In, wi_Is]; done) | (simp (disch := omega) only [wi_I, wi_In, wi_Is]; first | assumption | rfl)
  · first | (simp (disch := omega) only [wi_I, wi_In, wi_Is]; done) | (simp (disch := omega) only [wi_I, wi_In, wi_Is]; first | assumption | rfl)
  · first | (simp (disch := omega) only [wi_I, wi_In, wi_Is]; done) | (simp (disch := omega) only [wi_I, wi_In, wi_Is]; first | assumption | rfl)
  · first | (simp (disch := omega) only [wi_I, wi_In, wi_Is]; done) | (simp (disch := omega) only [wi_I, wi_In, wi_Is]; first | assumption | rfl)
  · simp (disch := omega) only [wi_I, wi_In, wi_Is]; exact a7 i h1 h2
  · first | (simp (disch := omega) only [wi_I, wi_In, wi_Is]; done) | (simp (disch := omega) only [wi_I, wi_In, wi_Is]; first | assumption | rfl)
  · first | (simp (disch := omega) only [wi_I, wi_In, wi_Is]; done) | (simp (disch := omega) only [wi_I, wi_In, wi_Is]; first | assumption | rfl)
  · first | (simp (disch := omega) only [wi_I, wi_In, wi_Is]; done) | (simp (disch := omega) only [wi_I, wi_In, wi_Is]; first | assumption | rfl)
  · simp (disch := omega) only [wi_I, wi_In, wi_Is]; exact c o h1 h2
  · have hk : k < xH s - 1 := hk
    simp (disch := omega) only [wi_I, wi_In, wi_Is]; exact d k (by omega)
  · have hk : k + 1 < xN s := hk
    exact ⟨(e k hk).1.same (fun k hk => by simp (disch := omega) only [wi_I, wi_In]) (by simp (disch := omega) only [wi_I]) (by simp (disch := omega) only [wi_I]), (e k hk).2.same (fun k hk => by simp (disch := omega) only [wi_I, wi_In])⟩
  · have hk : 1 ≤ xN s := hk
    exact (f hk).same (fun k hk => by simp (disch := omega) only [wi_I, wi_In]) (by simp (disch := omega) only [wi_I]) (by simp (disch := omega) only [wi_I])
  · have hk : 1 ≤ xN s := hk
    exact (g hk hb).same (fun k hk => by simp (disch := omega) only [wi_I, wi_In])
  · have hk : 1 ≤ xN s := hk
    have := i hk hb
    change Prod.fst (Prod.snd (_ : am_G)) (114 + 3 * (xN s - 1)) 4 = _
    simp (disch := omega) only [wi_I, wi_In, wi_Is]; exact this
  · simp (disch := omega) only [wi_I, wi_In, wi_Is]; exact j hn
  · simp (disch := omega) only [wi_I, wi_In, wi_Is]; exact l z hz
  · exact n12
theorem cX.enter {u : Nat} (q : cX p h G s t b) : cX p h (am_wi (am_wi G 113 (xH s) (nI u)) 109 7 (nI (xH s + 1))) (xHeld s (xH s + 1) (va_up (xE s) (xH s) u)) t b := by
  obtain ⟨⟨a1, a2, a3, a4, a5, a6, a7⟩, ⟨b1, b2, b3, hh⟩, ⟨r1, r2⟩, c, d, e, f, g, i, j, l, n12⟩ := q
  refine ⟨⟨?_, ?_, ?_, ?_, ?_, ?_, fun i h1 h2 => ?_⟩, ⟨?_, ?_, ?_, hh⟩, ⟨r1, r2⟩, fun o h1 h2 => ?_, fun k hk => ?_, fun k hk => ?_, fun hk => ?_, fun hk hb => ?_, fun hk hb => ?_, fun hn => ?_, fun z hz => ?_, ?_⟩
  · first | (simp (disch := omega) only [wi_I, wi_In, wi_Is]; done) | (simp (disch := omega) only [wi_I, wi_In, wi_Is]; first | assumption | rfl)
  · first | (simp (disch := omega) only [wi_I, wi_In, wi_Is]; done) | (simp (disch := omega) only [wi_I, wi_In, wi_Is]; first | assumption | rfl)
  · first | (simp (disch := omega) only [wi_I, wi_In, wi_Is]; done) | (simp (disch := omega) only [wi_I, wi_In, wi_Is]; first | assumption | rfl)
  · first | (simp (disch := omega) only [wi_I, wi_In, wi_Is]; done) | (simp (disch := omega) only [wi_I, wi_In, wi_Is]; first | assumption | rfl)
  · first | (simp (disch := omega) only [wi_I, wi_In, wi_Is]; done) | (simp (disch := omega) only [wi_I, wi_In, wi_Is]; first | assumption | rfl)
  · first | (simp (disch := omega) only [wi_I, wi_In, wi_Is]; done) | (simp (disch := omega) only [wi_I, wi_In, wi_Is]; first | assumption | rfl)
  · simp (disch := omega) only [wi_I, wi_In, wi_Is]; exact a7 i h1 h2
  · first | (simp (disch := omega) only [wi_I, wi_In, wi_Is]; done) | (simp (disch := omega) only [wi_I, wi_In, wi_Is]; first | assumption | rfl)
  · first | (simp (disch := omega) only [wi_I, wi_In, wi_Is]; done) | (simp (disch := omega) only [wi_I, wi_In, wi_Is]; first | assumption | rfl)
  · first | (simp (disch := omega) only [wi_I, wi_In, wi_Is]; done) | (simp (disch := omega) only [wi_I, wi_In, wi_Is]; first | assumption | rfl)
  · simp (disch := omega) only [wi_I, wi_In, wi_Is]; exact c o h1 h2
  · have hk : k < xH s + 1 := hk
    show _ = nI (va_up (xE s) (xH s) u k)
    by_cases ek : k = xH s
    · rw [ek, am_up_eq]; simp (disch := omega) only [wi_I, wi_In, wi_Is]
    · rw [am_up_ne ek]; simp (disch := omega) only [wi_I, wi_In, wi_Is]; exact d k (by omega)
  · have hk : k + 1 < xN s := hk
    exact ⟨(e k hk).1.same (fun k hk => by simp (disch := omega) only [wi_I, wi_In]) (by simp (disch := omega) only [wi_I]) (by simp (disch := omega) only [wi_I]), (e k hk).2.same (fun k hk => by simp (disch := omega) only [wi_I, wi_In])⟩
  · have hk : 1 ≤ xN s := hk
    exact (f hk).same (fun k hk => by simp (disch := omega) only [wi_I, wi_In]) (by simp (disch := omega) only [wi_I]) (by simp (disch := omega) only [wi_I])
  · have hk : 1 ≤ xN s := hk
    exact (g hk hb).same (fun k hk => by simp (disch := omega) only [wi_I, wi_In])
  · have hk : 1 ≤ xN s := hk
    have := i hk hb
    change Prod.fst (Prod.snd (_ : am_G)) (114 + 3 * (xN s - 1)) 4 = _
    simp (disch := omega) only [wi_I, wi_In, wi_Is]; exact this
  · simp (disch := omega) only [wi_I, wi_In, wi_Is]; exact j hn
  · simp (disch := omega) only [wi_I, wi_In, wi_Is]; exact l z hz
  · exact n12
theorem cX.had (q : cX p h G s t b) : cX p h (am_wi G h 7 (nI (lH s.1 + 1))) (xHad s) t b := by
  obtain ⟨⟨a1, a2, a3, a4, a5, a6, a7⟩, ⟨b1, b2, b3, hh⟩, ⟨r1, r2⟩, c, d, e, f, g, i, j, l, n12⟩ := q
  refine ⟨⟨?_, ?_, ?_, ?_, ?_, ?_, fun i h1 h2 => ?_⟩, ⟨?_, ?_, ?_, hh⟩, ⟨r1, r2⟩, fun o h1 h2 => ?_, fun k hk => ?_, fun k hk => ?_, fun hk => ?_, fun hk hb => ?_, fun hk hb => ?_, fun hn => ?_, fun z hz => ?_, ?_⟩
  · first | (simp (disch := omega) only [wi_I, wi_In, wi_Is]; done) | (simp (disch := omega) only [wi_I, wi_In, wi_Is]; first | assumption | rfl)
  · first | (simp (disch := omega) only [wi_I, wi_In, wi_Is]; done) | (simp (disch := omega) only [wi_I, wi_In, wi_Is]; first | assumption | rfl)
  · first | (simp (disch := omega) only [wi_I, wi_In, wi_Is]; done) | (simp (disch := omega) only [wi_I, wi_In, wi_Is]; first | assumption | rfl)
  · first | (simp (disch := omega) only [wi_I, wi_In, wi_Is]; done) | (simp (disch := omega) only [wi_I, wi_In, wi_Is]; first | assumption | rfl)
  · first | (simp (disch := omega) only [wi_I, wi_In, wi_Is]; done) | (simp (disch := omega) only [wi_I, wi_In, wi_Is]; first | assumption | rfl)
  · first | (simp (disch := omega) only [wi_I, wi_In, wi_Is]; done) | (simp (disch := omega) only [wi_I, wi_In, wi_Is]; first | assumption | rfl)
  · simp (disch := omega) only [wi_I, wi_In, wi_Is]; exact a7 i h1 h2
  · first | (simp (disch := omega) only [wi_I, wi_In, wi_Is]; done) | (simp (disch := omega) only [wi_I, wi_In, wi_Is]; first | assumption | rfl)
  · first | (simp (disch := omega) only [wi_I, wi_In, wi_Is]; done) | (simp (disch := omega) only [wi_I, wi_In, wi_Is]; first | assumption | rfl)
  · first | (simp (disch := omega) only [wi_I, wi_In, wi_Is]; done) | (simp (disch := omega) only [wi_I, wi_In, wi_Is]; first | assumption | rfl)
  · simp (disch := omega) only [wi_I, wi_In, wi_Is]; exact c o h1 h2
  · simp (disch := omega) only [wi_I, wi_In, wi_Is]; exact d k hk
  · have hk : k + 1 < xN s := hk
    exact ⟨(e k hk).1.same (fun k hk => by simp (disch := omega) only [wi_I, wi_In]) (by simp (disch := omega) only [wi_I]) (by simp (disch := omega) only [wi_I]), (e k hk).2.same (fun k hk => by simp (disch := omega) only [wi_I, wi_In])⟩
  · have hk : 1 ≤ xN s := hk
    exact (f hk).same (fun k hk => by simp (disch := omega) only [wi_I, wi_In]) (by simp (disch := omega) only [wi_I]) (by simp (disch := omega) only [wi_I])
  · have hk : 1 ≤ xN s := hk
    exact (g hk hb).same (fun k hk => by simp (disch := omega) only [wi_I, wi_In])
  · have hk : 1 ≤ xN s := hk
    have := i hk hb
    change Prod.fst (Prod.snd (_ : am_G)) (114 + 3 * (xN s - 1)) 4 = _
    simp (disch := omega) only [wi_I, wi_In, wi_Is]; exact this
  · simp (disch := omega) only [wi_I, wi_In, wi_Is]; exact j hn
  · simp (disch := omega) only [wi_I, wi_In, wi_Is]; exact l z hz
  · exact n12
theorem cX.tick (q : cX p h G s t b) : cX p h (am_wi G h 3 (nI (lD s.1 + 1))) (xTick s) t b := by
  obtain ⟨⟨a1, a2, a3, a4, a5, a6, a7⟩, ⟨b1, b2, b3, hh⟩, ⟨r1, r2⟩, c, d, e, f, g, i, j, l, n12⟩ := q
  refine ⟨⟨?_, ?_, ?_, ?_, ?_, ?_, fun i h1 h2 => ?_⟩, ⟨?_, ?_, ?_, hh⟩, ⟨r1, r2⟩, fun o h1 h2 => ?_, fun k hk => ?_, fun k hk => ?_, fun hk => ?_, fun hk hb => ?_, fun hk hb => ?_, fun hn => ?_, fun z hz => ?_, ?_⟩
  · first | (simp (disch := omega) only [wi_I, wi_In, wi_Is]; done) | (simp (disch := omega) only [wi_I, wi_In, wi_Is]; first | assumption | rfl)
  · first | (simp (disch := omega) only [wi_I, wi_In, wi_Is]; done) | (simp (disch := omega) only [wi_I, wi_In, wi_Is]; first | assumption | rfl)
  · first | (simp (disch := omega) only [wi_I, wi_In, wi_Is]; done) | (simp (disch := omega) only [wi_I, wi_In, wi_Is]; first | assumption | rfl)
  · first | (simp (disch := omega) only [wi_I, wi_In, wi_Is]; done) | (simp (disch := omega) only [wi_I, wi_In, wi_Is]; first | assumption | rfl)
  · first | (simp (disch := omega) only [wi_I, wi_In, wi_Is]; done) | (simp (disch := omega) only [wi_I, wi_In, wi_Is]; first | assumption | rfl)
  · first | (simp (disch := omega) only [wi_I, wi_In, wi_Is]; done) | (simp (disch := omega) only [wi_I, wi_In, wi_Is]; first | assumption | rfl)
  · simp (disch := omega) only [wi_I, wi_In, wi_Is]; exact a7 i h1 h2
  · first | (simp (disch := omega) only [wi_I, wi_In, wi_Is]; done) | (simp (disch := omega) only [wi_I, wi_In, wi_Is]; first | assumption | rfl)
  · first | (simp (disch := omega) only [wi_I, wi_In, wi_Is]; done) | (simp (disch := omega) only [wi_I, wi_In, wi_Is]; first | assumption | rfl)
  · first | (simp (disch := omega) only [wi_I, wi_In, wi_Is]; done) | (simp (disch := omega) only [wi_I, wi_In, wi_Is]; first | assumption | rfl)
  · simp (disch := omega) only [wi_I, wi_In, wi_Is]; exact c o h1 h2
  · simp (disch := omega) only [wi_I, wi_In, wi_Is]; exact d k hk
  · have hk : k + 1 < xN s := hk
    exact ⟨(e k hk).1.same (fun k hk => by simp (disch := omega) only [wi_I, wi_In]) (by simp (disch := omega) only [wi_I]) (by simp (disch := omega) only [wi_I]), (e k hk).2.same (fun k hk => by simp (disch := omega) only [wi_I, wi_In])⟩
  · have hk : 1 ≤ xN s := hk
    exact (f hk).same (fun k hk => by simp (disch := omega) only [wi_I, wi_In]) (by simp (disch := omega) only [wi_I]) (by simp (disch := omega) only [wi_I])
  · have hk : 1 ≤ xN s := hk
    exact (g hk hb).same (fun k hk => by simp (disch := omega) only [wi_I, wi_In])
  · have hk : 1 ≤ xN s := hk
    have := i hk hb
    change Prod.fst (Prod.snd (_ : am_G)) (114 + 3 * (xN s - 1)) 4 = _
    simp (disch := omega) only [wi_I, wi_In, wi_Is]; exact this
  · simp (disch := omega) only [wi_I, wi_In, wi_Is]; exact j hn
  · simp (disch := omega) only [wi_I, wi_In, wi_Is]; exact l z hz
  · exact n12
theorem cX.item {u : Nat} {v : Int32} (q : cX p h G s t b) : cX p h (am_wi G 112 u v) (xItem s u v) t b := by
  obtain ⟨⟨a1, a2, a3, a4, a5, a6, a7⟩, ⟨b1, b2, b3, hh⟩, ⟨r1, r2⟩, c, d, e, f, g, i, j, l, n12⟩ := q
  refine ⟨⟨?_, ?_, ?_, ?_, ?_, ?_, fun i h1 h2 => ?_⟩, ⟨?_, ?_, ?_, hh⟩, ⟨r1, r2⟩, fun o h1 h2 => ?_, fun k hk => ?_, fun k hk => ?_, fun hk => ?_, fun hk hb => ?_, fun hk hb => ?_, fun hn => ?_, fun z hz => ?_, ?_⟩
  · first | (simp (disch := omega) only [wi_I, wi_In, wi_Is]; done) | (simp (disch := omega) only [wi_I, wi_In, wi_Is]; first | assumption | rfl)
  · first | (simp (disch := omega) only [wi_I, wi_In, wi_Is]; done) | (simp (disch := omega) only [wi_I, wi_In, wi_Is]; first | assumption | rfl)
  · first | (simp (disch := omega) only [wi_I, wi_In, wi_Is]; done) | (simp (disch := omega) only [wi_I, wi_In, wi_Is]; first | assumption | rfl)
  · first | (simp (disch := omega) only [wi_I, wi_In, wi_Is]; done) | (simp (disch := omega) only [wi_I, wi_In, wi_Is]; first | assumption | rfl)
  · first | (simp (disch := omega) only [wi_I, wi_In, wi_Is]; done) | (simp (disch := omega) only [wi_I, wi_In, wi_Is]; first | assumption | rfl)
  · first | (simp (disch := omega) only [wi_I, wi_In, wi_Is]; done) | (simp (disch := omega) only [wi_I, wi_In, wi_Is]; first | assumption | rfl)
  · simp (disch := omega) only [wi_I, wi_In, wi_Is]; exact a7 i h1 h2
  · first | (simp (disch := omega) only [wi_I, wi_In, wi_Is]; done) | (simp (disch := omega) only [wi_I, wi_In, wi_Is]; first | assumption | rfl)
  · first | (simp (disch := omega) only [wi_I, wi_In, wi_Is]; done) | (simp (disch := omega) only [wi_I, wi_In, wi_Is]; first | assumption | rfl)
  · first | (simp (disch := omega) only [wi_I, wi_In, wi_Is]; done) | (simp (disch := omega) only [wi_I, wi_In, wi_Is]; first | assumption | rfl)
  · show _ = nI (xY s o) ∧ _ = va_up (xI s) u v o
    by_cases eo : o = u
    · rw [eo, am_up_eq]; simp (disch := omega) only [wi_I, wi_In, wi_Is]; exact ⟨(c u (eo ▸ h1) (eo ▸ h2)).1, trivial⟩
    · rw [am_up_ne eo]; simp (disch := omega) only [wi_I, wi_In, wi_Is]; exact c o h1 h2
  · simp (disch := omega) only [wi_I, wi_In, wi_Is]; exact d k hk
  · have hk : k + 1 < xN s := hk
    exact ⟨(e k hk).1.same (fun k hk => by simp (disch := omega) only [wi_I, wi_In]) (by simp (disch := omega) only [wi_I]) (by simp (disch := omega) only [wi_I]), (e k hk).2.same (fun k hk => by simp (disch := omega) only [wi_I, wi_In])⟩
  · have hk : 1 ≤ xN s := hk
    exact (f hk).same (fun k hk => by simp (disch := omega) only [wi_I, wi_In]) (by simp (disch := omega) only [wi_I]) (by simp (disch := omega) only [wi_I])
  · have hk : 1 ≤ xN s := hk
    exact (g hk hb).same (fun k hk => by simp (disch := omega) only [wi_I, wi_In])
  · have hk : 1 ≤ xN s := hk
    have := i hk hb
    change Prod.fst (Prod.snd (_ : am_G)) (114 + 3 * (xN s - 1)) 4 = _
    simp (disch := omega) only [wi_I, wi_In, wi_Is]; exact this
  · simp (disch := omega) only [wi_I, wi_In, wi_Is]; exact j hn
  · simp (disch := omega) only [wi_I, wi_In, wi_Is]; exact l z hz
  · exact n12
theorem cX.fin {z0 : Nat} (q : cX p h G s t b) : cX p h (am_wi G h 1 (nI z0)) (xEnd s z0) t b := by
  obtain ⟨⟨a1, a2, a3, a4, a5, a6, a7⟩, ⟨b1, b2, b3, hh⟩, ⟨r1, r2⟩, c, d, e, f, g, i, j, l, n12⟩ := q
  refine ⟨⟨?_, ?_, ?_, ?_, ?_, ?_, fun i h1 h2 => ?_⟩, ⟨?_, ?_, ?_, hh⟩, ⟨r1, r2⟩, fun o h1 h2 => ?_, fun k hk => ?_, fun k hk => ?_, fun hk => ?_, fun hk hb => ?_, fun hk hb => ?_, fun hn => ?_, fun z hz => ?_, ?_⟩
  · first | (simp (disch := omega) only [wi_I, wi_In, wi_Is]; done) | (simp (disch := omega) only [wi_I, wi_In, wi_Is]; first | assumption | rfl)
  · first | (simp (disch := omega) only [wi_I, wi_In, wi_Is]; done) | (simp (disch := omega) only [wi_I, wi_In, wi_Is]; first | assumption | rfl)
  · first | (simp (disch := omega) only [wi_I, wi_In, wi_Is]; done) | (simp (disch := omega) only [wi_I, wi_In, wi_Is]; first | assumption | rfl)
  · first | (simp (disch := omega) only [wi_I, wi_In, wi_Is]; done) | (simp (disch := omega) only [wi_I, wi_In, wi_Is]; first | assumption | rfl)
  · first | (simp (disch := omega) only [wi_I, wi_In, wi_Is]; done) | (simp (disch := omega) only [wi_I, wi_In, wi_Is]; first | assumption | rfl)
  · first | (simp (disch := omega) only [wi_I, wi_In, wi_Is]; done) | (simp (disch := omega) only [wi_I, wi_In, wi_Is]; first | assumption | rfl)
  · simp (disch := omega) only [wi_I, wi_In, wi_Is]; exact a7 i h1 h2
  · first | (simp (disch := omega) only [wi_I, wi_In, wi_Is]; done) | (simp (disch := omega) only [wi_I, wi_In, wi_Is]; first | assumption | rfl)
  · first | (simp (disch := omega) only [wi_I, wi_In, wi_Is]; done) | (simp (disch := omega) only [wi_I, wi_In, wi_Is]; first | assumption | rfl)
  · first | (simp (disch := omega) only [wi_I, wi_In, wi_Is]; done) | (simp (disch := omega) only [wi_I, wi_In, wi_Is]; first | assumption | rfl)
  · simp (disch := omega) only [wi_I, wi_In, wi_Is]; exact c o h1 h2
  · simp (disch := omega) only [wi_I, wi_In, wi_Is]; exact d k hk
  · have hk : k + 1 < xN s := hk
    exact ⟨(e k hk).1.same (fun k hk => by simp (disch := omega) only [wi_I, wi_In]) (by simp (disch := omega) only [wi_I]) (by simp (disch := omega) only [wi_I]), (e k hk).2.same (fun k hk => by simp (disch := omega) only [wi_I, wi_In])⟩
  · have hk : 1 ≤ xN s := hk
    exact (f hk).same (fun k hk => by simp (disch := omega) only [wi_I, wi_In]) (by simp (disch := omega) only [wi_I]) (by simp (disch := omega) only [wi_I])
  · have hk : 1 ≤ xN s := hk
    exact (g hk hb).same (fun k hk => by simp (disch := omega) only [wi_I, wi_In])
  · have hk : 1 ≤ xN s := hk
    have := i hk hb
    change Prod.fst (Prod.snd (_ : am_G)) (114 + 3 * (xN s - 1)) 4 = _
    simp (disch := omega) only [wi_I, wi_In, wi_Is]; exact this
  · cases hn
  · cases hz; simp (disch := omega) only [wi_I, wi_In, wi_Is]
  · exact n12
theorem cX.val {v : Int32} (q : cX p h G s t b) : cX p h (am_wi (am_wi G h 2 v) h 1 (nI 0)) (xVal s v) t b := by
  obtain ⟨⟨a1, a2, a3, a4, a5, a6, a7⟩, ⟨b1, b2, b3, hh⟩, ⟨r1, r2⟩, c, d, e, f, g, i, j, l, n12⟩ := q
  refine ⟨⟨?_, ?_, ?_, ?_, ?_, ?_, fun i h1 h2 => ?_⟩, ⟨?_, ?_, ?_, hh⟩, ⟨r1, r2⟩, fun o h1 h2 => ?_, fun k hk => ?_, fun k hk => ?_, fun hk => ?_, fun hk hb => ?_, fun hk hb => ?_, fun hn => ?_, fun z hz => ?_, ?_⟩
  · first | (simp (disch := omega) only [wi_I, wi_In, wi_Is]; done) | (simp (disch := omega) only [wi_I, wi_In, wi_Is]; first | assumption | rfl)
  · first | (simp (disch := omega) only [wi_I, wi_In, wi_Is]; done) | (simp (disch := omega) only [wi_I, wi_In, wi_Is]; first | assumption | rfl)
  · first | (simp (disch := omega) only [wi_I, wi_In, wi_Is]; done) | (simp (disch := omega) only [wi_I, wi_In, wi_Is]; first | assumption | rfl)
  · first | (simp (disch := omega) only [wi_I, wi_In, wi_Is]; done) | (simp (disch := omega) only [wi_I, wi_In, wi_Is]; first | assumption | rfl)
  · first | (simp (disch := omega) only [wi_I, wi_In, wi_Is]; done) | (simp (disch := omega) only [wi_I, wi_In, wi_Is]; first | assumption | rfl)
  · first | (simp (disch := omega) only [wi_I, wi_In, wi_Is]; done) | (simp (disch := omega) only [wi_I, wi_In, wi_Is]; first | assumption | rfl)
  · simp (disch := omega) only [wi_I, wi_In, wi_Is]; exact a7 i h1 h2
  · first | (simp (disch := omega) only [wi_I, wi_In, wi_Is]; done) | (simp (disch := omega) only [wi_I, wi_In, wi_Is]; first | assumption | rfl)
  · first | (simp (disch := omega) only [wi_I, wi_In, wi_Is]; done) | (simp (disch := omega) only [wi_I, wi_In, wi_Is]; first | assumption | rfl)
  · first | (simp (disch := omega) only [wi_I, wi_In, wi_Is]; done) | (simp (disch := omega) only [wi_I, wi_In, wi_Is]; first | assumption | rfl)
  · simp (disch := omega) only [wi_I, wi_In, wi_Is]; exact c o h1 h2
  · simp (disch := omega) only [wi_I, wi_In, wi_Is]; exact d k hk
  · have hk : k + 1 < xN s := hk
    exact ⟨(e k hk).1.same (fun k hk => by simp (disch := omega) only [wi_I, wi_In]) (by simp (disch := omega) only [wi_I]) (by simp (disch := omega) only [wi_I]), (e k hk).2.same (fun k hk => by simp (disch := omega) only [wi_I, wi_In])⟩
  · have hk : 1 ≤ xN s := hk
    exact (f hk).same (fun k hk => by simp (disch := omega) only [wi_I, wi_In]) (by simp (disch := omega) only [wi_I]) (by simp (disch := omega) only [wi_I])
  · have hk : 1 ≤ xN s := hk
    exact (g hk hb).same (fun k hk => by simp (disch := omega) only [wi_I, wi_In])
  · have hk : 1 ≤ xN s := hk
    have := i hk hb
    change Prod.fst (Prod.snd (_ : am_G)) (114 + 3 * (xN s - 1)) 4 = _
    simp (disch := omega) only [wi_I, wi_In, wi_Is]; exact this
  · cases hn
  · cases hz; simp (disch := omega) only [wi_I, wi_In, wi_Is]
  · exact n12
theorem cX.down (q : cX p h G s t true) (hN : 1 ≤ xN s) : cX p h (am_wi G 109 6 (nI (xN s - 1))) (xDown s) t true := by
  obtain ⟨⟨a1, a2, a3, a4, a5, a6, a7⟩, ⟨b1, b2, b3, hh⟩, ⟨r1, r2⟩, c, d, e, f, g, i, j, l, n12⟩ := q
  refine ⟨⟨?_, ?_, ?_, ?_, ?_, ?_, fun i h1 h2 => ?_⟩, ⟨?_, ?_, ?_, hh⟩, ⟨r1, r2⟩, fun o h1 h2 => ?_, fun k hk => ?_, fun k hk => ?_, fun hk => ?_, fun hk hb => ?_, fun hk hb => ?_, fun hn => ?_, fun z hz => ?_, ?_⟩
  · first | (simp (disch := omega) only [wi_I, wi_In, wi_Is]; done) | (simp (disch := omega) only [wi_I, wi_In, wi_Is]; first | assumption | rfl)
  · first | (simp (disch := omega) only [wi_I, wi_In, wi_Is]; done) | (simp (disch := omega) only [wi_I, wi_In, wi_Is]; first | assumption | rfl)
  · first | (simp (disch := omega) only [wi_I, wi_In, wi_Is]; done) | (simp (disch := omega) only [wi_I, wi_In, wi_Is]; first | assumption | rfl)
  · first | (simp (disch := omega) only [wi_I, wi_In, wi_Is]; done) | (simp (disch := omega) only [wi_I, wi_In, wi_Is]; first | assumption | rfl)
  · first | (simp (disch := omega) only [wi_I, wi_In, wi_Is]; done) | (simp (disch := omega) only [wi_I, wi_In, wi_Is]; first | assumption | rfl)
  · first | (simp (disch := omega) only [wi_I, wi_In, wi_Is]; done) | (simp (disch := omega) only [wi_I, wi_In, wi_Is]; first | assumption | rfl)
  · simp (disch := omega) only [wi_I, wi_In, wi_Is]; exact a7 i h1 h2
  · first | (simp (disch := omega) only [wi_I, wi_In, wi_Is]; done) | (simp (disch := omega) only [wi_I, wi_In, wi_Is]; first | assumption | rfl)
  · first | (simp (disch := omega) only [wi_I, wi_In, wi_Is]; done) | (simp (disch := omega) only [wi_I, wi_In, wi_Is]; first | assumption | rfl)
  · first | (simp (disch := omega) only [wi_I, wi_In, wi_Is]; done) | (simp (disch := omega) only [wi_I, wi_In, wi_Is]; first | assumption | rfl)
  · simp (disch := omega) only [wi_I, wi_In, wi_Is]; exact c o h1 h2
  · simp (disch := omega) only [wi_I, wi_In, wi_Is]; exact d k hk
  · have hk : k + 1 < xN s - 1 := hk
    have hk2 : k + 1 < xN s := by omega
    exact ⟨(e k hk2).1.same (fun k hk => by simp (disch := omega) only [wi_I, wi_In]) (by simp (disch := omega) only [wi_I]) (by simp (disch := omega) only [wi_I]), (e k hk2).2.same (fun k hk => by simp (disch := omega) only [wi_I, wi_In])⟩
  · have hk : 1 ≤ xN s - 1 := hk
    exact (e (xN s - 2) (by omega)).1.same (fun k hk => by simp (disch := omega) only [wi_I, wi_In]) (by simp (disch := omega) only [wi_I]) (by simp (disch := omega) only [wi_I])
  · have hk : 1 ≤ xN s - 1 := hk
    exact (e (xN s - 2) (by omega)).2.same (fun k hk => by simp (disch := omega) only [wi_I, wi_In])
  · cases hb
  · simp (disch := omega) only [wi_I, wi_In, wi_Is]; exact j hn
  · simp (disch := omega) only [wi_I, wi_In, wi_Is]; exact l z hz
  · show xN s - 1 ≤ 12; omega
/-- the ledger alone changes -/
theorem cX.led {l' : lT} (q : cX p h G s t b) (hl : cL G' h l') (hm : lM l' = lM s.1) (ho : oLg h G G') : cX p h G' (l', s.2) t b := by
  obtain ⟨a, ⟨b1, b2, b3, hh⟩, ⟨r1, r2⟩, c, d, e, f, g, i, j, k, n12⟩ := q
  have w : ∀ r, r < 150 → G'.2.1 r = G.2.1 r := fun r hr => ho.1.2.2 r (by omega)
  refine ⟨hl, ⟨by rw [w 109 (by omega)]; exact b1, by rw [w 109 (by omega)]; exact b2, by rw [w 109 (by omega)]; exact b3, hh⟩, ⟨by rw [ho.1.2.1]; exact r1, by rw [ho.1.2.1]; exact r2⟩, fun o h1 h2 => ?_, fun k hk => ?_, fun k hk => ?_, fun hk => ?_, fun hk hb => ?_, fun hk hb => ?_, fun hn => ?_, fun z hz => ?_, n12⟩
  · rw [w 111 (by omega), w 112 (by omega)]; exact c o h1 (by have h2 : o ≤ lM l' := h2; omega)
  · rw [w 113 (by omega)]; exact d k hk
  · have hk : k + 1 < xN s := hk
    exact ⟨(e k hk).1.same (fun z _ => by rw [w _ (by omega)]) (w _ (by omega)) (w _ (by omega)), (e k hk).2.same (fun z _ => by rw [w _ (by omega)])⟩
  · have hk : 1 ≤ xN s := hk
    exact (f hk).same (fun z _ => by rw [w _ (by omega)]) (w _ (by omega)) (w _ (by omega))
  · have hk : 1 ≤ xN s := hk
    exact (g hk hb).same (fun z _ => by rw [w _ (by omega)])
  · have hk : 1 ≤ xN s := hk
    show G'.2.1 (114 + 3 * (xN s - 1)) 4 = _
    rw [w _ (by omega)]; exact i hk hb
  · rw [ho.2]; exact j hn
  · rw [ho.2]; exact k z hz
theorem cX.tell {v : Int32} {k : Nat} (q : cX p h G s t b) (hl : cL G' h (lTell s.1 (nI 16 * v + nI k))) (ho : oLg h G G') : cX p h G' (xTell s v k) t b := cX.led q hl rfl ho
theorem cX.ms (q : cX p h G s t true) (hN : 1 ≤ xN s) : cX p h G (xSet s (uGo (xC s) (uP (xC s) + 1))) t false := by
  obtain ⟨a, b, r, c, d, e, f, g, i, j, k, n12⟩ := q
  exact ⟨a, b, r, c, d, e, f, fun _ hb => absurd hb (by decide), fun _ _ => (g hN rfl).2, j, k, n12⟩
theorem cX.lks {E : Nat → Nat} (q : cX p h G s t b) (ho : ∀ r, r ≠ 113 → G'.2.1 r = G.2.1 r) (h2 : G'.2.2 = G.2.2) (hw : ∀ k, k < xH s → G'.2.1 113 k = nI (E k)) : cX p h G' (xHeld s (xH s) E) t b := by
  obtain ⟨a, ⟨b1, b2, b3, hh⟩, r, c, d, e, f, g, i, j, k, n12⟩ := q
  unfold cX cL
  rw [ho 109 (by decide), ho 111 (by decide), ho 112 (by decide), ho h (by omega), ho (h + 1) (by omega), h2]
  refine ⟨a, ⟨b1, b2, b3, hh⟩, r, c, hw, fun k hk => ?_, fun hk => ?_, fun hk hb => ?_, fun hk hb => ?_, j, k, n12⟩
  · have hk : k + 1 < xN s := hk
    exact ⟨(e k hk).1.same (fun z _ => by rw [ho _ (by omega)]) (ho _ (by omega)) (ho _ (by omega)), (e k hk).2.same (fun z _ => by rw [ho _ (by omega)])⟩
  · have hk : 1 ≤ xN s := hk
    exact (f hk).same (fun z _ => by rw [ho _ (by omega)]) (ho _ (by omega)) (ho _ (by omega))
  · have hk : 1 ≤ xN s := hk
    exact (g hk hb).same (fun z _ => by rw [ho _ (by omega)])
  · have hk : 1 ≤ xN s := hk
    show G'.2.1 (114 + 3 * (xN s - 1)) 4 = _
    rw [ho _ (by omega)]; exact i hk hb
/-- a frame is opened over the frames F -/
theorem cX.opn {c : Nat} {F : Nat → uT} {V : Nat → Option Int32} (q : cX p h G s t true) (h12 : xN s < 12) (hF : ∀ i, i < xN s → F i = if i + 1 < xN s then xF s i else xC s)
    (w1 : ∀ r, r ≠ h → r ≠ 109 → r ≠ 114 + 3 * xN s → G'.2.1 r = G.2.1 r) (w0 : G'.2.2 = G.2.2) (w2 : ∀ k, k ≠ 5 → G'.2.1 h k = G.2.1 h k) (w3 : G'.2.1 h 5 = nI (Nat.max (lX s.1) (xN s + 1))) (w4 : G'.2.1 109 6 = nI (xN s + 1)) (w5 : ∀ k, k ≠ 6 → G'.2.1 109 k = G.2.1 109 k)
    (v1 : G'.2.1 (114 + 3 * xN s) 5 = nI c) (v2 : G'.2.1 (114 + 3 * xN s) 6 = nI (xH s)) (v3 : G'.2.1 (114 + 3 * xN s) 2 = nI 0) (v4 : G'.2.1 (114 + 3 * xN s) 4 = nI 0) (v5 : ∀ a, a < 8 → ∀ v, V a = some v → G.2.1 (115 + 3 * xN s) a = v) :
    cX p h G' (xMost (s.1, s.2.1, s.2.2.1, s.2.2.2.1, (xN s + 1, F, (c, 0, 0, xH s, (fun _ => nI 0), V)), xO s)) t false := by
  obtain ⟨⟨a1, a2, a3, a4, a5, a6, a7⟩, ⟨b1, b2, b3, hh⟩, ⟨r1, r2⟩, c', d, e, f, g, i, j, l, n12⟩ := q
  have fr : ∀ k, k < xN s → cF G' k (F k) ∧ cP G' k (uP (F k)) := fun k hk => by
    have s1 : ∀ r, 114 ≤ r → r < 114 + 3 * xN s → G'.2.1 r = G.2.1 r := fun r q1 q2 => w1 r (by omega) (by omega) (by omega)
    rw [hF k hk]
    split
    · rename_i h2
      exact ⟨(e k h2).1.same (fun z _ => by rw [s1 _ (by omega) (by omega)]) (s1 _ (by omega) (by omega)) (s1 _ (by omega) (by omega)), (e k h2).2.same (fun z _ => by rw [s1 _ (by omega) (by omega)])⟩
    · rename_i h2
      have f1 := f (by omega)
      have g1 := g (by omega) rfl
      rw [show xN s - 1 = k by omega] at f1 g1
      exact ⟨f1.same (fun z _ => by rw [s1 _ (by omega) (by omega)]) (s1 _ (by omega) (by omega)) (s1 _ (by omega) (by omega)), g1.same (fun z _ => by rw [s1 _ (by omega) (by omega)])⟩
  refine ⟨⟨?_, ?_, ?_, w3, ?_, ?_, fun i h1 h2 => ?_⟩, ⟨w4, ?_, ?_, hh⟩, ⟨by rw [w0]; exact r1, by rw [w0]; exact r2⟩, fun o h1 h2 => ?_, fun k hk => ?_, fun k hk => fr k (by have hk : k + 1 < xN s + 1 := hk; omega), fun hk => ?_, fun _ hb => absurd hb (by decide), fun _ _ => ?_, fun hn => ?_, fun z hz => ?_, show xN s + 1 ≤ 12 by omega⟩
  · rw [w2 2 (by decide)]; exact a1
  · rw [w2 3 (by decide)]; exact a2
  · rw [w2 4 (by decide)]; exact a3
  · rw [w2 6 (by decide)]; exact a5
  · rw [w2 7 (by decide)]; exact a6
  · rw [w1 (h + 1) (by omega) (by omega) (by omega)]; exact a7 i h1 h2
  · rw [w5 7 (by decide)]; exact b2
  · rw [w5 8 (by decide)]; exact b3
  · rw [w1 111 (by omega) (by omega) (by omega), w1 112 (by omega) (by omega) (by omega)]; exact c' o h1 h2
  · rw [w1 113 (by omega) (by omega) (by omega)]; exact d k hk
  · show cF G' (xN s + 1 - 1) _
    rw [Nat.add_sub_cancel]
    exact ⟨⟨v1, v2, v3, Nat.zero_le _⟩, fun d hd => absurd hd (Nat.not_lt_zero d), fun a ha v hv => by rw [w1 (115 + 3 * xN s) (by omega) (by omega) (by omega)]; exact v5 a ha v hv⟩
  · show G'.2.1 (114 + 3 * (xN s + 1 - 1)) 4 = nI 0
    rw [Nat.add_sub_cancel]; exact v4
  · rw [w2 1 (by decide)]; exact j hn
  · rw [w2 1 (by decide)]; exact l z hz
/-- what is read -/
theorem cX.nn (q : cX p h G s t b) : G.2.1 109 6 = nI (xN s) := q.2.1.1
theorem cX.hd (q : cX p h G s t b) : G.2.1 109 7 = nI (xH s) := q.2.1.2.1
theorem cX.th (q : cX p h G s t b) : G.2.1 109 8 = nI t := q.2.1.2.2.1
theorem cX.hh (q : cX p h G s t b) : h = 159 ∨ h = 161 := q.2.1.2.2.2
theorem cX.pr (q : cX p h G s t b) : G.2.2 109 4 = some (2 + 50 * p) := q.2.2.1.1
theorem cX.lg (q : cX p h G s t b) : G.2.2 109 5 = some h := q.2.2.1.2
theorem cX.oy {o : Nat} (q : cX p h G s t b) (h1 : 1 ≤ o) (h2 : o ≤ lM s.1) : G.2.1 111 o = nI (xY s o) := (q.2.2.2.1 o h1 h2).1
theorem cX.oi {o : Nat} (q : cX p h G s t b) (h1 : 1 ≤ o) (h2 : o ≤ lM s.1) : G.2.1 112 o = xI s o := (q.2.2.2.1 o h1 h2).2
theorem cX.lk {k : Nat} (q : cX p h G s t b) (hk : k < xH s) : G.2.1 113 k = nI (xE s k) := q.2.2.2.2.1 k hk
theorem cX.cf (q : cX p h G s t b) (hN : 1 ≤ xN s) : cF G (xN s - 1) (xC s) := q.2.2.2.2.2.2.1 hN
theorem cX.cp (q : cX p h G s t true) (hN : 1 ≤ xN s) : cP G (xN s - 1) (uP (xC s)) := q.2.2.2.2.2.2.2.1 hN rfl
theorem cX.cn (q : cX p h G s t false) (hN : 1 ≤ xN s) : G.2.1 (114 + 3 * (xN s - 1)) 4 = nI (uP (xC s)) := q.2.2.2.2.2.2.2.2.1 hN rfl
theorem cX.n12 (q : cX p h G s t b) : xN s ≤ 12 := q.2.2.2.2.2.2.2.2.2.2.2
end Cx
