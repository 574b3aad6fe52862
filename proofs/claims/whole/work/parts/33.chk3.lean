theorem anyV.k {G : am_G} {c : Bool} {y : Option fS} {v : Int32} (h : anyV G c y v) : ((y.bind fAny).map fun q => q.2) ≠ none → v = nI (((y.bind fAny).map fun q => q.1).getD 0) ∧ ((y.bind fAny).map fun q => q.1).getD 0 < 200 := fun hne => by
  unfold anyV at h
  cases q : y.bind fAny with
  | none => rw [q] at hne; exact absurd rfl hne
  | some u => rw [q] at h; exact ⟨h.1, h.2.1⟩
section Fe
variable {g : Nat → Nat} {a b : Nat} {y : Option fS}
theorem fe_4 : y.bind (fEff g 4 a b) = (y.bind fAny).map fun q => q.2 := by cases y <;> rfl
theorem fe_5 : y.bind (fEff g 5 a b) = ((((y.bind fAny).map fun q => q.2).bind (fGive (((y.bind fAny).map fun q => q.1).getD 0))).bind (fGive (((y.bind fAny).map fun q => q.1).getD 0))) := by
  cases y with
  | none => rfl
  | some x =>
    show (fAny x).bind (fun q => (fGive q.1 q.2).bind (fGive q.1)) = ((((fAny x)).map fun q => q.2).bind (fGive (((fAny x).map fun q => q.1).getD 0))).bind (fGive (((fAny x).map fun q => q.1).getD 0))
    cases fAny x <;> rfl
theorem fe_6 : y.bind (fEff g 6 a b) = (((((y.bind fAny).map fun q => q.2).bind fAny).map fun q => q.2).bind (fGive (((y.bind fAny).map fun q => q.1).getD 0))).bind (fGive (((((y.bind fAny).map fun q => q.2).bind fAny).map fun q => q.1).getD 0)) := by
  cases y with
  | none => rfl
  | some x =>
    show (fAny x).bind (fun q => (fAny q.2).bind fun r => (fGive q.1 r.2).bind (fGive r.1)) = (((((fAny x).map fun q => q.2).bind fAny).map fun q => q.2).bind (fGive (((fAny x).map fun q => q.1).getD 0))).bind (fGive (((((fAny x).map fun q => q.2).bind fAny).map fun q => q.1).getD 0))
    cases fAny x with
    | none => rfl
    | some q =>
      show (fAny q.2).bind (fun r => (fGive q.1 r.2).bind (fGive r.1)) = (((fAny q.2).map fun q => q.2).bind (fGive q.1)).bind (fGive (((fAny q.2).map fun q => q.1).getD 0))
      cases fAny q.2 <;> rfl
theorem fe_b2 {f h : fS → Option fS} : y.bind (fun x => (f x).bind h) = (y.bind f).bind h := by cases y <;> rfl
theorem fe_b3 {f h k : fS → Option fS} : y.bind (fun x => (f x).bind fun z => (h z).bind k) = ((y.bind f).bind h).bind k := by
  cases y with
  | none => rfl
  | some x =>
    show (f x).bind (fun z => (h z).bind k) = ((f x).bind h).bind k
    cases f x <;> rfl
theorem fe_id : y.bind (fun x => some x) = y := by cases y <;> rfl
end Fe
set_option maxRecDepth 100000 in
theorem okC_useObject0 (w : am_W) {d : Nat} (hd : 2 ≤ d) (G : am_G) (c : Bool) (y : Option fS) (g : Nat → Nat) (a b : Nat) (hS : St0 G) (h : wOK G c y) : am_Ok w jC_useObject d (0, 0) [.inr (some 102), .inl (nI 0)] G (fun r G' => r = none ∧ wOK G' c (y.bind (fEff g 0 a b)) ∧ oC G G') := by
  refine am_ok_of rfl (Nat.le_of_ble_eq_true rfl) ?_
  show am_Go w jC_useObject d (0, 0) 0 [some (.inr (some 102)), some (.inl (nI 0))] [] G _
  refine go_iload_n dC_useObject_0 rfl rfl ?_
  refine go_tableOut dC_useObject_1 (by decide) (tgt := 98) (by decide) ?_
  refine go_return rfl dC_useObject_98 ?_
  exact ⟨rfl, by rw [show fEff g 0 a b = (fun x => some x) from rfl, fe_id]; exact h, oC.rf⟩
set_option maxRecDepth 100000 in
theorem okC_useObject11 (w : am_W) {d : Nat} (hd : 2 ≤ d) (G : am_G) (c : Bool) (y : Option fS) (g : Nat → Nat) (a b : Nat) (hS : St0 G) (h : wOK G c y) : am_Ok w jC_useObject d (0, 0) [.inr (some 102), .inl (nI 11)] G (fun r G' => r = none ∧ wOK G' c (y.bind (fEff g 11 a b)) ∧ oC G G') := by
  refine am_ok_of rfl (Nat.le_of_ble_eq_true rfl) ?_
  show am_Go w jC_useObject d (0, 0) 0 [some (.inr (some 102)), some (.inl (nI 11))] [] G _
  refine go_iload_n dC_useObject_0 rfl rfl ?_
  refine go_tableOut dC_useObject_1 (by decide) (tgt := 98) (by decide) ?_
  refine go_return rfl dC_useObject_98 ?_
  exact ⟨rfl, by rw [show fEff g 11 a b = (fun x => some x) from rfl, fe_id]; exact h, oC.rf⟩
set_option maxRecDepth 100000 in
theorem okC_useObject15 (w : am_W) {d : Nat} (hd : 2 ≤ d) (G : am_G) (c : Bool) (y : Option fS) (g : Nat → Nat) (a b : Nat) (hS : St0 G) (h : wOK G c y) : am_Ok w jC_useObject d (0, 0) [.inr (some 102), .inl (nI 15)] G (fun r G' => r = none ∧ wOK G' c (y.bind (fEff g 15 a b)) ∧ oC G G') := by
  refine am_ok_of rfl (Nat.le_of_ble_eq_true rfl) ?_
  show am_Go w jC_useObject d (0, 0) 0 [some (.inr (some 102)), some (.inl (nI 15))] [] G _
  refine go_iload_n dC_useObject_0 rfl rfl ?_
  refine go_tableIn dC_useObject_1 (by decide) (by decide) (off := 63) rfl (tgt := 64) (by decide) ?_
  refine go_aload_n dC_useObject_64 rfl rfl ?_
  refine go_iconst (nI 1) (by decide) dC_useObject_65 ?_
  refine go_cV (k' := (0, 0)) dC_useObject_66 [.inl (nI 1)] csC_108 (hS.s rfl) rfl imC_take seC_take rfl (okC_take (d := 1) w (by decide) G c y 1 (by decide) hS h) (by omega) (by decide) (Nat.le_of_ble_eq_true rfl) (fun r1 G1 hr1 hn1 => ?_)
  obtain ⟨rfl, h1, o1⟩ := hr1
  have S1 := o1.St hS
  refine go_aload_n dC_useObject_69 rfl rfl ?_
  refine go_iconst (nI 0) (by decide) dC_useObject_70 ?_
  refine go_cV (k' := (0, 0)) dC_useObject_71 [.inl (nI 0)] csC_111 (S1.s rfl) rfl imC_give seC_give rfl (okC_give (d := 0) w G1 c ((y).bind (fTake 1)) (0) (nI 0) S1 h1 (fun _ => ⟨rfl, by decide⟩)) (by omega) (by decide) (Nat.le_of_ble_eq_true rfl) (fun r2 G2 hr2 hn2 => ?_)
  obtain ⟨rfl, h2, o2⟩ := hr2
  have S2 := o2.St S1
  refine go_goto dC_useObject_74 (tgt := 98) (by decide) ?_
  refine go_return rfl dC_useObject_98 ?_
  exact ⟨rfl, by rw [show fEff g 15 a b = (fun x => (fTake 1 x).bind (fGive 0)) from rfl, fe_b2]; exact h2, (o1.tr o2)⟩
set_option maxRecDepth 100000 in
theorem okC_useObject16 (w : am_W) {d : Nat} (hd : 2 ≤ d) (G : am_G) (c : Bool) (y : Option fS) (g : Nat → Nat) (a b : Nat) (hS : St0 G) (h : wOK G c y) : am_Ok w jC_useObject d (0, 0) [.inr (some 102), .inl (nI 16)] G (fun r G' => r = none ∧ wOK G' c (y.bind (fEff g 16 a b)) ∧ oC G G') := by
  refine am_ok_of rfl (Nat.le_of_ble_eq_true rfl) ?_
  show am_Go w jC_useObject d (0, 0) 0 [some (.inr (some 102)), some (.inl (nI 16))] [] G _
  refine go_iload_n dC_useObject_0 rfl rfl ?_
  refine go_tableIn dC_useObject_1 (by decide) (by decide) (off := 76) rfl (tgt := 77) (by decide) ?_
  refine go_aload_n dC_useObject_77 rfl rfl ?_
  refine go_iconst (nI 0) (by decide) dC_useObject_78 ?_
  refine go_cV (k' := (0, 0)) dC_useObject_79 [.inl (nI 0)] csC_108 (hS.s rfl) rfl imC_take seC_take rfl (okC_take (d := 1) w (by decide) G c y 0 (by decide) hS h) (by omega) (by decide) (Nat.le_of_ble_eq_true rfl) (fun r1 G1 hr1 hn1 => ?_)
  obtain ⟨rfl, h1, o1⟩ := hr1
  have S1 := o1.St hS
  refine go_aload_n dC_useObject_82 rfl rfl ?_
  refine go_iconst (nI 1) (by decide) dC_useObject_83 ?_
  refine go_cV (k' := (0, 0)) dC_useObject_84 [.inl (nI 1)] csC_108 (S1.s rfl) rfl imC_take seC_take rfl (okC_take (d := 1) w (by decide) G1 c ((y).bind (fTake 0)) 1 (by decide) S1 h1) (by omega) (by decide) (Nat.le_of_ble_eq_true rfl) (fun r2 G2 hr2 hn2 => ?_)
  obtain ⟨rfl, h2, o2⟩ := hr2
  have S2 := o2.St S1
  refine go_goto dC_useObject_87 (tgt := 98) (by decide) ?_
  refine go_return rfl dC_useObject_98 ?_
  exact ⟨rfl, by rw [show fEff g 16 a b = (fun x => (fTake 0 x).bind (fTake 1)) from rfl, fe_b2]; exact h2, (o1.tr o2)⟩
set_option maxRecDepth 100000 in
theorem okC_useObject17 (w : am_W) {d : Nat} (hd : 2 ≤ d) (G : am_G) (c : Bool) (y : Option fS) (g : Nat → Nat) (a b : Nat) (hS : St0 G) (h : wOK G c y) : am_Ok w jC_useObject d (0, 0) [.inr (some 102), .inl (nI 17)] G (fun r G' => r = none ∧ wOK G' c (y.bind (fEff g 17 a b)) ∧ oC G G') := by
  refine am_ok_of rfl (Nat.le_of_ble_eq_true rfl) ?_
  show am_Go w jC_useObject d (0, 0) 0 [some (.inr (some 102)), some (.inl (nI 17))] [] G _
  refine go_iload_n dC_useObject_0 rfl rfl ?_
  refine go_tableIn dC_useObject_1 (by decide) (by decide) (off := 89) rfl (tgt := 90) (by decide) ?_
  refine go_aload_n dC_useObject_90 rfl rfl ?_
  refine go_iconst (nI 1) (by decide) dC_useObject_91 ?_
  refine go_cV (k' := (0, 0)) dC_useObject_92 [.inl (nI 1)] csC_108 (hS.s rfl) rfl imC_take seC_take rfl (okC_take (d := 1) w (by decide) G c y 1 (by decide) hS h) (by omega) (by decide) (Nat.le_of_ble_eq_true rfl) (fun r1 G1 hr1 hn1 => ?_)
  obtain ⟨rfl, h1, o1⟩ := hr1
  have S1 := o1.St hS
  refine go_goto dC_useObject_95 (tgt := 98) (by decide) ?_
  refine go_return rfl dC_useObject_98 ?_
  exact ⟨rfl, by rw [show fEff g 17 a b = fTake 1 from rfl]; exact h1, o1⟩
set_option maxRecDepth 100000 in
theorem okC_useObject18 (w : am_W) {d : Nat} (hd : 2 ≤ d) (G : am_G) (c : Bool) (y : Option fS) (g : Nat → Nat) (a b : Nat) (hS : St0 G) (h : wOK G c y) : am_Ok w jC_useObject d (0, 0) [.inr (some 102), .inl (nI 18)] G (fun r G' => r = none ∧ wOK G' c (y.bind (fEff g 18 a b)) ∧ oC G G') := by
  refine am_ok_of rfl (Nat.le_of_ble_eq_true rfl) ?_
  show am_Go w jC_useObject d (0, 0) 0 [some (.inr (some 102)), some (.inl (nI 18))] [] G _
  refine go_iload_n dC_useObject_0 rfl rfl ?_
  refine go_tableIn dC_useObject_1 (by decide) (by decide) (off := 89) rfl (tgt := 90) (by decide) ?_
  refine go_aload_n dC_useObject_90 rfl rfl ?_
  refine go_iconst (nI 1) (by decide) dC_useObject_91 ?_
  refine go_cV (k' := (0, 0)) dC_useObject_92 [.inl (nI 1)] csC_108 (hS.s rfl) rfl imC_take seC_take rfl (okC_take (d := 1) w (by decide) G c y 1 (by decide) hS h) (by omega) (by decide) (Nat.le_of_ble_eq_true rfl) (fun r1 G1 hr1 hn1 => ?_)
  obtain ⟨rfl, h1, o1⟩ := hr1
  have S1 := o1.St hS
  refine go_goto dC_useObject_95 (tgt := 98) (by decide) ?_
  refine go_return rfl dC_useObject_98 ?_
  exact ⟨rfl, by rw [show fEff g 18 a b = fTake 1 from rfl]; exact h1, o1⟩
set_option maxRecDepth 100000 in
theorem okC_useObject19 (w : am_W) {d : Nat} (hd : 2 ≤ d) (G : am_G) (c : Bool) (y : Option fS) (g : Nat → Nat) (a b : Nat) (hS : St0 G) (h : wOK G c y) : am_Ok w jC_useObject d (0, 0) [.inr (some 102), .inl (nI 19)] G (fun r G' => r = none ∧ wOK G' c (y.bind (fEff g 19 a b)) ∧ oC G G') := by
  refine am_ok_of rfl (Nat.le_of_ble_eq_true rfl) ?_
  show am_Go w jC_useObject d (0, 0) 0 [some (.inr (some 102)), some (.inl (nI 19))] [] G _
  refine go_iload_n dC_useObject_0 rfl rfl ?_
  refine go_tableIn dC_useObject_1 (by decide) (by decide) (off := 89) rfl (tgt := 90) (by decide) ?_
  refine go_aload_n dC_useObject_90 rfl rfl ?_
  refine go_iconst (nI 1) (by decide) dC_useObject_91 ?_
  refine go_cV (k' := (0, 0)) dC_useObject_92 [.inl (nI 1)] csC_108 (hS.s rfl) rfl imC_take seC_take rfl (okC_take (d := 1) w (by decide) G c y 1 (by decide) hS h) (by omega) (by decide) (Nat.le_of_ble_eq_true rfl) (fun r1 G1 hr1 hn1 => ?_)
  obtain ⟨rfl, h1, o1⟩ := hr1
  have S1 := o1.St hS
  refine go_goto dC_useObject_95 (tgt := 98) (by decide) ?_
  refine go_return rfl dC_useObject_98 ?_
  exact ⟨rfl, by rw [show fEff g 19 a b = fTake 1 from rfl]; exact h1, o1⟩
set_option maxRecDepth 100000 in
theorem okC_useObject20 (w : am_W) {d : Nat} (hd : 2 ≤ d) (G : am_G) (c : Bool) (y : Option fS) (g : Nat → Nat) (a b : Nat) (hS : St0 G) (h : wOK G c y) : am_Ok w jC_useObject d (0, 0) [.inr (some 102), .inl (nI 20)] G (fun r G' => r = none ∧ wOK G' c (y.bind (fEff g 20 a b)) ∧ oC G G') := by
  refine am_ok_of rfl (Nat.le_of_ble_eq_true rfl) ?_
  show am_Go w jC_useObject d (0, 0) 0 [some (.inr (some 102)), some (.inl (nI 20))] [] G _
  refine go_iload_n dC_useObject_0 rfl rfl ?_
  refine go_tableIn dC_useObject_1 (by decide) (by decide) (off := 89) rfl (tgt := 90) (by decide) ?_
  refine go_aload_n dC_useObject_90 rfl rfl ?_
  refine go_iconst (nI 1) (by decide) dC_useObject_91 ?_
  refine go_cV (k' := (0, 0)) dC_useObject_92 [.inl (nI 1)] csC_108 (hS.s rfl) rfl imC_take seC_take rfl (okC_take (d := 1) w (by decide) G c y 1 (by decide) hS h) (by omega) (by decide) (Nat.le_of_ble_eq_true rfl) (fun r1 G1 hr1 hn1 => ?_)
  obtain ⟨rfl, h1, o1⟩ := hr1
  have S1 := o1.St hS
  refine go_goto dC_useObject_95 (tgt := 98) (by decide) ?_
  refine go_return rfl dC_useObject_98 ?_
  exact ⟨rfl, by rw [show fEff g 20 a b = fTake 1 from rfl]; exact h1, o1⟩
set_option maxRecDepth 100000 in
theorem okC_useObject26 (w : am_W) {d : Nat} (hd : 2 ≤ d) (G : am_G) (c : Bool) (y : Option fS) (g : Nat → Nat) (a b : Nat) (hS : St0 G) (h : wOK G c y) : am_Ok w jC_useObject d (0, 0) [.inr (some 102), .inl (nI 26)] G (fun r G' => r = none ∧ wOK G' c (y.bind (fEff g 26 a b)) ∧ oC G G') := by
  refine am_ok_of rfl (Nat.le_of_ble_eq_true rfl) ?_
  show am_Go w jC_useObject d (0, 0) 0 [some (.inr (some 102)), some (.inl (nI 26))] [] G _
  refine go_iload_n dC_useObject_0 rfl rfl ?_
  refine go_tableIn dC_useObject_1 (by decide) (by decide) (off := 63) rfl (tgt := 64) (by decide) ?_
  refine go_aload_n dC_useObject_64 rfl rfl ?_
  refine go_iconst (nI 1) (by decide) dC_useObject_65 ?_
  refine go_cV (k' := (0, 0)) dC_useObject_66 [.inl (nI 1)] csC_108 (hS.s rfl) rfl imC_take seC_take rfl (okC_take (d := 1) w (by decide) G c y 1 (by decide) hS h) (by omega) (by decide) (Nat.le_of_ble_eq_true rfl) (fun r1 G1 hr1 hn1 => ?_)
  obtain ⟨rfl, h1, o1⟩ := hr1
  have S1 := o1.St hS
  refine go_aload_n dC_useObject_69 rfl rfl ?_
  refine go_iconst (nI 0) (by decide) dC_useObject_70 ?_
  refine go_cV (k' := (0, 0)) dC_useObject_71 [.inl (nI 0)] csC_111 (S1.s rfl) rfl imC_give seC_give rfl (okC_give (d := 0) w G1 c ((y).bind (fTake 1)) (0) (nI 0) S1 h1 (fun _ => ⟨rfl, by decide⟩)) (by omega) (by decide) (Nat.le_of_ble_eq_true rfl) (fun r2 G2 hr2 hn2 => ?_)
  obtain ⟨rfl, h2, o2⟩ := hr2
  have S2 := o2.St S1
  refine go_goto dC_useObject_74 (tgt := 98) (by decide) ?_
  refine go_return rfl dC_useObject_98 ?_
  exact ⟨rfl, by rw [show fEff g 26 a b = (fun x => (fTake 1 x).bind (fGive 0)) from rfl, fe_b2]; exact h2, (o1.tr o2)⟩
set_option maxRecDepth 100000 in
theorem okC_tg0 (w : am_W) {d : Nat} (hd : 3 ≤ d) (G : am_G) (c : Bool) (y : Option fS) (g : Nat → Nat) (m i a b : Nat) (hi : i < 60) (ha : a < 8) (hb : b < 120) (hS : St0 G) (h : wOK G c y) (hM : isM G m) (ho : G.2.1 (m + 1) i = nI 0) (hA : G.2.1 (m + 2) i = nI a ∨ True) (hB : G.2.1 (m + 3) i = nI b ∨ True) : am_Ok w jC_takeAndGive d (0, 0) [.inr (some 102), .inr (some m), .inl (nI i)] G (fun r G' => r = none ∧ wOK G' c (y.bind (fEff g 0 a b)) ∧ oC G G') := by
  refine am_ok_of rfl (Nat.le_of_ble_eq_true rfl) ?_
  show am_Go w jC_takeAndGive d (0, 0) 0 [some (.inr (some 102)), some (.inr (some m)), some (.inl (nI i)), none, none, none] [] G _
  obtain ⟨hs, ⟨r0, r1, r2, r3, r4, r5, r6⟩, s1, s2, s3, s4, s5, s6, s7⟩ := hM
  refine go_aload_n dC_takeAndGive_0 rfl rfl ?_
  refine go_getO dC_takeAndGive_1 flC_91 rfl (by assumption) (by assumption) ?_
  refine go_iload_n dC_takeAndGive_4 rfl rfl ?_
  refine go_ialV s1 hi (by decide) ho dC_takeAndGive_5 ?_
  refine go_tableOut dC_takeAndGive_6 (by decide) (tgt := 261) (by decide) ?_
  refine go_aload_n dC_takeAndGive_261 rfl rfl ?_
  refine go_aload_n dC_takeAndGive_262 rfl rfl ?_
  refine go_getO dC_takeAndGive_263 flC_91 rfl (by assumption) (by assumption) ?_
  refine go_iload_n dC_takeAndGive_266 rfl rfl ?_
  refine go_ialV s1 hi (by decide) ho dC_takeAndGive_267 ?_
  refine go_cV (k' := (0, 0)) dC_takeAndGive_268 [.inl (nI 0)] csC_125 (hS.s rfl) rfl imC_useObject seC_useObject rfl (okC_useObject0 (d := 2) w (by decide) G c y g a b hS h) (by omega) (by decide) (Nat.le_of_ble_eq_true rfl) (fun r1 G1 hr1 hn1 => ?_)
  obtain ⟨rfl, h1, o1⟩ := hr1
  refine go_return rfl dC_takeAndGive_271 ?_
  exact ⟨rfl, h1, o1⟩
set_option maxRecDepth 100000 in
theorem okC_tg1 (w : am_W) {d : Nat} (hd : 3 ≤ d) (G : am_G) (c : Bool) (y : Option fS) (g : Nat → Nat) (m i a b : Nat) (hi : i < 60) (ha : a < 8) (hb : b < 120) (hS : St0 G) (h : wOK G c y) (hM : isM G m) (ho : G.2.1 (m + 1) i = nI 1) (hA : G.2.1 (m + 2) i = nI a ∨ True) (hB : G.2.1 (m + 3) i = nI b ∨ True) : am_Ok w jC_takeAndGive d (0, 0) [.inr (some 102), .inr (some m), .inl (nI i)] G (fun r G' => r = none ∧ wOK G' c (y.bind (fEff g 1 a b)) ∧ oC G G') := by
  refine am_ok_of rfl (Nat.le_of_ble_eq_true rfl) ?_
  show am_Go w jC_takeAndGive d (0, 0) 0 [some (.inr (some 102)), some (.inr (some m)), some (.inl (nI i)), none, none, none] [] G _
  obtain ⟨hs, ⟨r0, r1, r2, r3, r4, r5, r6⟩, s1, s2, s3, s4, s5, s6, s7⟩ := hM
  refine go_aload_n dC_takeAndGive_0 rfl rfl ?_
  refine go_getO dC_takeAndGive_1 flC_91 rfl (by assumption) (by assumption) ?_
  refine go_iload_n dC_takeAndGive_4 rfl rfl ?_
  refine go_ialV s1 hi (by decide) ho dC_takeAndGive_5 ?_
  refine go_tableIn dC_takeAndGive_6 (by decide) (by decide) (off := 122) rfl (tgt := 128) (by decide) ?_
  refine go_aload_n dC_takeAndGive_128 rfl rfl ?_
  refine go_iconst (nI 0) (by decide) dC_takeAndGive_129 ?_
  refine go_cV (k' := (0, 0)) dC_takeAndGive_130 [.inl (nI 0)] csC_111 (hS.s rfl) rfl imC_give seC_give rfl (okC_give (d := 0) w G c y (0) (nI 0) hS h (fun _ => ⟨rfl, by decide⟩)) (by omega) (by decide) (Nat.le_of_ble_eq_true rfl) (fun r1 G1 hr1 hn1 => ?_)
  obtain ⟨rfl, h1, o1⟩ := hr1
  have S1 := o1.St hS
  refine go_goto dC_takeAndGive_133 (tgt := 271) (by decide) ?_
  refine go_return rfl dC_takeAndGive_271 ?_
  exact ⟨rfl, by rw [show fEff g 1 a b = fGive 0 from rfl]; exact h1, o1⟩
set_option maxRecDepth 100000 in
theorem okC_tg2 (w : am_W) {d : Nat} (hd : 3 ≤ d) (G : am_G) (c : Bool) (y : Option fS) (g : Nat → Nat) (m i a b : Nat) (hi : i < 60) (ha : a < 8) (hb : b < 120) (hS : St0 G) (h : wOK G c y) (hM : isM G m) (ho : G.2.1 (m + 1) i = nI 2) (hA : G.2.1 (m + 2) i = nI a ∨ False) (hB : G.2.1 (m + 3) i = nI b ∨ True) : am_Ok w jC_takeAndGive d (0, 0) [.inr (some 102), .inr (some m), .inl (nI i)] G (fun r G' => r = none ∧ wOK G' c (y.bind (fEff g 2 a b)) ∧ oC G G') := by
  refine am_ok_of rfl (Nat.le_of_ble_eq_true rfl) ?_
  show am_Go w jC_takeAndGive d (0, 0) 0 [some (.inr (some 102)), some (.inr (some m)), some (.inl (nI i)), none, none, none] [] G _
  obtain ⟨hs, ⟨r0, r1, r2, r3, r4, r5, r6⟩, s1, s2, s3, s4, s5, s6, s7⟩ := hM
  refine go_aload_n dC_takeAndGive_0 rfl rfl ?_
  refine go_getO dC_takeAndGive_1 flC_91 rfl (by assumption) (by assumption) ?_
  refine go_iload_n dC_takeAndGive_4 rfl rfl ?_
  refine go_ialV s1 hi (by decide) ho dC_takeAndGive_5 ?_
  refine go_tableIn dC_takeAndGive_6 (by decide) (by decide) (off := 233) rfl (tgt := 239) (by decide) ?_
  refine go_aload_n dC_takeAndGive_239 rfl rfl ?_
  refine go_aload_n dC_takeAndGive_240 rfl rfl ?_
  refine go_getO dC_takeAndGive_241 flC_91 rfl (by assumption) (by assumption) ?_
  refine go_iload_n dC_takeAndGive_244 rfl rfl ?_
  refine go_ialV s1 hi (by decide) ho dC_takeAndGive_245 ?_
  refine go_bipush (nI 8) (by decide) dC_takeAndGive_246 ?_
  refine go_aload_n dC_takeAndGive_248 rfl rfl ?_
  refine go_getO dC_takeAndGive_249 flC_94 rfl (by assumption) (by assumption) ?_
  refine go_iload_n dC_takeAndGive_252 rfl rfl ?_
  refine go_ialV s2 hi (by decide) (hA.resolve_right id) dC_takeAndGive_253 ?_
  refine go_iadd dC_takeAndGive_254 ?_
  rw [nI_add]
  refine go_cV (k' := (0, 0)) dC_takeAndGive_255 [.inl (nI 2), .inl (nI (8 + a))] csC_121 (hS.s rfl) rfl imC_useLocal seC_useLocal rfl (okC_useLocal2 (d := 2) w (by decide) G c y g a b ha hS h) (by omega) (by decide) (Nat.le_of_ble_eq_true rfl) (fun r1 G1 hr1 hn1 => ?_)
  obtain ⟨rfl, h1, o1⟩ := hr1
  refine go_goto dC_takeAndGive_258 (tgt := 271) (by decide) ?_
  refine go_return rfl dC_takeAndGive_271 ?_
  exact ⟨rfl, h1, o1⟩
set_option maxRecDepth 100000 in
theorem okC_tg3 (w : am_W) {d : Nat} (hd : 3 ≤ d) (G : am_G) (c : Bool) (y : Option fS) (g : Nat → Nat) (m i a b : Nat) (hi : i < 60) (ha : a < 8) (hb : b < 120) (hS : St0 G) (h : wOK G c y) (hM : isM G m) (ho : G.2.1 (m + 1) i = nI 3) (hA : G.2.1 (m + 2) i = nI a ∨ False) (hB : G.2.1 (m + 3) i = nI b ∨ True) : am_Ok w jC_takeAndGive d (0, 0) [.inr (some 102), .inr (some m), .inl (nI i)] G (fun r G' => r = none ∧ wOK G' c (y.bind (fEff g 3 a b)) ∧ oC G G') := by
  refine am_ok_of rfl (Nat.le_of_ble_eq_true rfl) ?_
  show am_Go w jC_takeAndGive d (0, 0) 0 [some (.inr (some 102)), some (.inr (some m)), some (.inl (nI i)), none, none, none] [] G _
  obtain ⟨hs, ⟨r0, r1, r2, r3, r4, r5, r6⟩, s1, s2, s3, s4, s5, s6, s7⟩ := hM
  refine go_aload_n dC_takeAndGive_0 rfl rfl ?_
  refine go_getO dC_takeAndGive_1 flC_91 rfl (by assumption) (by assumption) ?_
  refine go_iload_n dC_takeAndGive_4 rfl rfl ?_
  refine go_ialV s1 hi (by decide) ho dC_takeAndGive_5 ?_
  refine go_tableIn dC_takeAndGive_6 (by decide) (by decide) (off := 233) rfl (tgt := 239) (by decide) ?_
  refine go_aload_n dC_takeAndGive_239 rfl rfl ?_
  refine go_aload_n dC_takeAndGive_240 rfl rfl ?_
  refine go_getO dC_takeAndGive_241 flC_91 rfl (by assumption) (by assumption) ?_
  refine go_iload_n dC_takeAndGive_244 rfl rfl ?_
  refine go_ialV s1 hi (by decide) ho dC_takeAndGive_245 ?_
  refine go_bipush (nI 8) (by decide) dC_takeAndGive_246 ?_
  refine go_aload_n dC_takeAndGive_248 rfl rfl ?_
  refine go_getO dC_takeAndGive_249 flC_94 rfl (by assumption) (by assumption) ?_
  refine go_iload_n dC_takeAndGive_252 rfl rfl ?_
  refine go_ialV s2 hi (by decide) (hA.resolve_right id) dC_takeAndGive_253 ?_
  refine go_iadd dC_takeAndGive_254 ?_
  rw [nI_add]
  refine go_cV (k' := (0, 0)) dC_takeAndGive_255 [.inl (nI 3), .inl (nI (8 + a))] csC_121 (hS.s rfl) rfl imC_useLocal seC_useLocal rfl (okC_useLocal3 (d := 2) w (by decide) G c y g a b ha hS h) (by omega) (by decide) (Nat.le_of_ble_eq_true rfl) (fun r1 G1 hr1 hn1 => ?_)
  obtain ⟨rfl, h1, o1⟩ := hr1
  refine go_goto dC_takeAndGive_258 (tgt := 271) (by decide) ?_
  refine go_return rfl dC_takeAndGive_271 ?_
  exact ⟨rfl, h1, o1⟩
set_option maxRecDepth 100000 in
theorem okC_tg4 (w : am_W) {d : Nat} (hd : 3 ≤ d) (G : am_G) (c : Bool) (y : Option fS) (g : Nat → Nat) (m i a b : Nat) (hi : i < 60) (ha : a < 8) (hb : b < 120) (hS : St0 G) (h : wOK G c y) (hM : isM G m) (ho : G.2.1 (m + 1) i = nI 4) (hA : G.2.1 (m + 2) i = nI a ∨ True) (hB : G.2.1 (m + 3) i = nI b ∨ True) : am_Ok w jC_takeAndGive d (0, 0) [.inr (some 102), .inr (some m), .inl (nI i)] G (fun r G' => r = none ∧ wOK G' c (y.bind (fEff g 4 a b)) ∧ oC G G') := by
  refine am_ok_of rfl (Nat.le_of_ble_eq_true rfl) ?_
  show am_Go w jC_takeAndGive d (0, 0) 0 [some (.inr (some 102)), some (.inr (some m)), some (.inl (nI i)), none, none, none] [] G _
  obtain ⟨hs, ⟨r0, r1, r2, r3, r4, r5, r6⟩, s1, s2, s3, s4, s5, s6, s7⟩ := hM
  refine go_aload_n dC_takeAndGive_0 rfl rfl ?_
  refine go_getO dC_takeAndGive_1 flC_91 rfl (by assumption) (by assumption) ?_
  refine go_iload_n dC_takeAndGive_4 rfl rfl ?_
  refine go_ialV s1 hi (by decide) ho dC_takeAndGive_5 ?_
  refine go_tableIn dC_takeAndGive_6 (by decide) (by decide) (off := 138) rfl (tgt := 144) (by decide) ?_
  refine go_aload_n dC_takeAndGive_144 rfl rfl ?_
  refine go_cV (k' := (0, 0)) dC_takeAndGive_145 [] csC_114 (hS.s rfl) rfl imC_takeAny seC_takeAny rfl (okC_takeAny (d := 0) w G c y hS h) (by omega) (by decide) (Nat.le_of_ble_eq_true rfl) (fun r1 G1 hr1 hn1 => ?_)
  obtain ⟨v1, rfl, hv1, o1⟩ := hr1
  have h1 := hv1.ok
  have S1 := o1.St hS
  refine go_pop dC_takeAndGive_148 ?_
  refine go_goto dC_takeAndGive_149 (tgt := 271) (by decide) ?_
  refine go_return rfl dC_takeAndGive_271 ?_
  exact ⟨rfl, by rw [fe_4]; exact h1, o1⟩
set_option maxRecDepth 100000 in
theorem okC_tg5 (w : am_W) {d : Nat} (hd : 3 ≤ d) (G : am_G) (c : Bool) (y : Option fS) (g : Nat → Nat) (m i a b : Nat) (hi : i < 60) (ha : a < 8) (hb : b < 120) (hS : St0 G) (h : wOK G c y) (hM : isM G m) (ho : G.2.1 (m + 1) i = nI 5) (hA : G.2.1 (m + 2) i = nI a ∨ True) (hB : G.2.1 (m + 3) i = nI b ∨ True) : am_Ok w jC_takeAndGive d (0, 0) [.inr (some 102), .inr (some m), .inl (nI i)] G (fun r G' => r = none ∧ wOK G' c (y.bind (fEff g 5 a b)) ∧ oC G G') := by
  refine am_ok_of rfl (Nat.le_of_ble_eq_true rfl) ?_
  show am_Go w jC_takeAndGive d (0, 0) 0 [some (.inr (some 102)), some (.inr (some m)), some (.inl (nI i)), none, none, none] [] G _
  obtain ⟨hs, ⟨r0, r1, r2, r3, r4, r5, r6⟩, s1, s2, s3, s4, s5, s6, s7⟩ := hM
  refine go_aload_n dC_takeAndGive_0 rfl rfl ?_
  refine go_getO dC_takeAndGive_1 flC_91 rfl (by assumption) (by assumption) ?_
  refine go_iload_n dC_takeAndGive_4 rfl rfl ?_
  refine go_ialV s1 hi (by decide) ho dC_takeAndGive_5 ?_
  refine go_tableIn dC_takeAndGive_6 (by decide) (by decide) (off := 146) rfl (tgt := 152) (by decide) ?_
  refine go_aload_n dC_takeAndGive_152 rfl rfl ?_
  refine go_cV (k' := (0, 0)) dC_takeAndGive_153 [] csC_114 (hS.s rfl) rfl imC_takeAny seC_takeAny rfl (okC_takeAny (d := 0) w G c y hS h) (by omega) (by decide) (Nat.le_of_ble_eq_true rfl) (fun r1 G1 hr1 hn1 => ?_)
  obtain ⟨v1, rfl, hv1, o1⟩ := hr1
  have h1 := hv1.ok
  have S1 := o1.St hS
  refine go_istore_n dC_takeAndGive_156 rfl (Nat.le_of_ble_eq_true rfl) ?_
  refine go_aload_n dC_takeAndGive_157 rfl rfl ?_
  refine go_iload_n dC_takeAndGive_158 rfl rfl ?_
  refine go_cV (k' := (0, 0)) dC_takeAndGive_159 [.inl (v1)] csC_111 (S1.s rfl) rfl imC_give seC_give rfl (okC_give (d := 0) w G1 c (((y).bind fAny).map fun q => q.2) (((y.bind fAny).map fun q => q.1).getD 0) (v1) S1 h1 (hv1.k)) (by omega) (by decide) (Nat.le_of_ble_eq_true rfl) (fun r2 G2 hr2 hn2 => ?_)
  obtain ⟨rfl, h2, o2⟩ := hr2
  have S2 := o2.St S1
  refine go_aload_n dC_takeAndGive_162 rfl rfl ?_
  refine go_iload_n dC_takeAndGive_163 rfl rfl ?_
  refine go_cV (k' := (0, 0)) dC_takeAndGive_164 [.inl (v1)] csC_111 (S2.s rfl) rfl imC_give seC_give rfl (okC_give (d := 0) w G2 c (((((y).bind fAny).map fun q => q.2)).bind (fGive (((y.bind fAny).map fun q => q.1).getD 0))) (((y.bind fAny).map fun q => q.1).getD 0) (v1) S2 h2 (fun hne => hv1.k (fun e => hne (by rw [e]; rfl)))) (by omega) (by decide) (Nat.le_of_ble_eq_true rfl) (fun r3 G3 hr3 hn3 => ?_)
  obtain ⟨rfl, h3, o3⟩ := hr3
  have S3 := o3.St S2
  refine go_goto dC_takeAndGive_167 (tgt := 271) (by decide) ?_
  refine go_return rfl dC_takeAndGive_271 ?_
  exact ⟨rfl, by rw [fe_5]; exact h3, ((o1.tr o2).tr o3)⟩
set_option maxRecDepth 100000 in
theorem okC_tg6 (w : am_W) {d : Nat} (hd : 3 ≤ d) (G : am_G) (c : Bool) (y : Option fS) (g : Nat → Nat) (m i a b : Nat) (hi : i < 60) (ha : a < 8) (hb : b < 120) (hS : St0 G) (h : wOK G c y) (hM : isM G m) (ho : G.2.1 (m + 1) i = nI 6) (hA : G.2.1 (m + 2) i = nI a ∨ True) (hB : G.2.1 (m + 3) i = nI b ∨ True) : am_Ok w jC_takeAndGive d (0, 0) [.inr (some 102), .inr (some m), .inl (nI i)] G (fun r G' => r = none ∧ wOK G' c (y.bind (fEff g 6 a b)) ∧ oC G G') := by
  refine am_ok_of rfl (Nat.le_of_ble_eq_true rfl) ?_
  show am_Go w jC_takeAndGive d (0, 0) 0 [some (.inr (some 102)), some (.inr (some m)), some (.inl (nI i)), none, none, none] [] G _
  obtain ⟨hs, ⟨r0, r1, r2, r3, r4, r5, r6⟩, s1, s2, s3, s4, s5, s6, s7⟩ := hM
  refine go_aload_n dC_takeAndGive_0 rfl rfl ?_
  refine go_getO dC_takeAndGive_1 flC_91 rfl (by assumption) (by assumption) ?_
  refine go_iload_n dC_takeAndGive_4 rfl rfl ?_
  refine go_ialV s1 hi (by decide) ho dC_takeAndGive_5 ?_
  refine go_tableIn dC_takeAndGive_6 (by decide) (by decide) (off := 164) rfl (tgt := 170) (by decide) ?_
  refine go_aload_n dC_takeAndGive_170 rfl rfl ?_
  refine go_cV (k' := (0, 0)) dC_takeAndGive_171 [] csC_114 (hS.s rfl) rfl imC_takeAny seC_takeAny rfl (okC_takeAny (d := 0) w G c y hS h) (by omega) (by decide) (Nat.le_of_ble_eq_true rfl) (fun r1 G1 hr1 hn1 => ?_)
  obtain ⟨v1, rfl, hv1, o1⟩ := hr1
  have h1 := hv1.ok
  have S1 := o1.St hS
  refine go_istore dC_takeAndGive_174 (Nat.le_of_ble_eq_true rfl) ?_
  refine go_aload_n dC_takeAndGive_176 rfl rfl ?_
  refine go_cV (k' := (0, 0)) dC_takeAndGive_177 [] csC_114 (S1.s rfl) rfl imC_takeAny seC_takeAny rfl (okC_takeAny (d := 0) w G1 c (((y).bind fAny).map fun q => q.2) S1 h1) (by omega) (by decide) (Nat.le_of_ble_eq_true rfl) (fun r2 G2 hr2 hn2 => ?_)
  obtain ⟨v2, rfl, hv2, o2⟩ := hr2
  have h2 := hv2.ok
  have S2 := o2.St S1
  refine go_istore dC_takeAndGive_180 (Nat.le_of_ble_eq_true rfl) ?_
  refine go_aload_n dC_takeAndGive_182 rfl rfl ?_
  refine go_iload dC_takeAndGive_183 rfl ?_
  refine go_cV (k' := (0, 0)) dC_takeAndGive_185 [.inl (v1)] csC_111 (S2.s rfl) rfl imC_give seC_give rfl (okC_give (d := 0) w G2 c ((((((y).bind fAny).map fun q => q.2)).bind fAny).map fun q => q.2) (((y.bind fAny).map fun q => q.1).getD 0) (v1) S2 h2 (fun hne => hv1.k (fun e => hne (by rw [e]; rfl)))) (by omega) (by decide) (Nat.le_of_ble_eq_true rfl) (fun r3 G3 hr3 hn3 => ?_)
  obtain ⟨rfl, h3, o3⟩ := hr3
  have S3 := o3.St S2
  refine go_aload_n dC_takeAndGive_188 rfl rfl ?_
  refine go_iload dC_takeAndGive_189 rfl ?_
  refine go_cV (k' := (0, 0)) dC_takeAndGive_191 [.inl (v2)] csC_111 (S3.s rfl) rfl imC_give seC_give rfl (okC_give (d := 0) w G3 c ((((((((y).bind fAny).map fun q => q.2)).bind fAny).map fun q => q.2)).bind (fGive (((y.bind fAny).map fun q => q.1).getD 0))) (((((y.bind fAny).map fun q => q.2).bind fAny).map fun q => q.1).getD 0) (v2) S3 h3 (fun hne => hv2.k (fun e => hne (by rw [e]; rfl)))) (by omega) (by decide) (Nat.le_of_ble_eq_true rfl) (fun r4 G4 hr4 hn4 => ?_)
  obtain ⟨rfl, h4, o4⟩ := hr4
  have S4 := o4.St S3
  refine go_goto dC_takeAndGive_194 (tgt := 271) (by decide) ?_
  refine go_return rfl dC_takeAndGive_271 ?_
  exact ⟨rfl, by rw [fe_6]; exact h4, (((o1.tr o2).tr o3).tr o4)⟩
set_option maxRecDepth 100000 in
theorem okC_tg7 (w : am_W) {d : Nat} (hd : 3 ≤ d) (G : am_G) (c : Bool) (y : Option fS) (g : Nat → Nat) (m i a b : Nat) (hi : i < 60) (ha : a < 8) (hb : b < 120) (hS : St0 G) (h : wOK G c y) (hM : isM G m) (ho : G.2.1 (m + 1) i = nI 7) (hA : G.2.1 (m + 2) i = nI a ∨ True) (hB : G.2.1 (m + 3) i = nI b ∨ True) : am_Ok w jC_takeAndGive d (0, 0) [.inr (some 102), .inr (some m), .inl (nI i)] G (fun r G' => r = none ∧ wOK G' c (y.bind (fEff g 7 a b)) ∧ oC G G') := by
  refine am_ok_of rfl (Nat.le_of_ble_eq_true rfl) ?_
  show am_Go w jC_takeAndGive d (0, 0) 0 [some (.inr (some 102)), some (.inr (some m)), some (.inl (nI i)), none, none, none] [] G _
  obtain ⟨hs, ⟨r0, r1, r2, r3, r4, r5, r6⟩, s1, s2, s3, s4, s5, s6, s7⟩ := hM
  refine go_aload_n dC_takeAndGive_0 rfl rfl ?_
  refine go_getO dC_takeAndGive_1 flC_91 rfl (by assumption) (by assumption) ?_
  refine go_iload_n dC_takeAndGive_4 rfl rfl ?_
  refine go_ialV s1 hi (by decide) ho dC_takeAndGive_5 ?_
  refine go_tableIn dC_takeAndGive_6 (by decide) (by decide) (off := 191) rfl (tgt := 197) (by decide) ?_
  refine go_aload_n dC_takeAndGive_197 rfl rfl ?_
  refine go_iconst (nI 0) (by decide) dC_takeAndGive_198 ?_
  refine go_cV (k' := (0, 0)) dC_takeAndGive_199 [.inl (nI 0)] csC_108 (hS.s rfl) rfl imC_take seC_take rfl (okC_take (d := 1) w (by decide) G c y 0 (by decide) hS h) (by omega) (by decide) (Nat.le_of_ble_eq_true rfl) (fun r1 G1 hr1 hn1 => ?_)
  obtain ⟨rfl, h1, o1⟩ := hr1
  have S1 := o1.St hS
  refine go_aload_n dC_takeAndGive_202 rfl rfl ?_
  refine go_iconst (nI 0) (by decide) dC_takeAndGive_203 ?_
  refine go_cV (k' := (0, 0)) dC_takeAndGive_204 [.inl (nI 0)] csC_108 (S1.s rfl) rfl imC_take seC_take rfl (okC_take (d := 1) w (by decide) G1 c ((y).bind (fTake 0)) 0 (by decide) S1 h1) (by omega) (by decide) (Nat.le_of_ble_eq_true rfl) (fun r2 G2 hr2 hn2 => ?_)
  obtain ⟨rfl, h2, o2⟩ := hr2
  have S2 := o2.St S1
  refine go_aload_n dC_takeAndGive_207 rfl rfl ?_
  refine go_iconst (nI 0) (by decide) dC_takeAndGive_208 ?_
  refine go_cV (k' := (0, 0)) dC_takeAndGive_209 [.inl (nI 0)] csC_111 (S2.s rfl) rfl imC_give seC_give rfl (okC_give (d := 0) w G2 c ((((y).bind (fTake 0))).bind (fTake 0)) (0) (nI 0) S2 h2 (fun _ => ⟨rfl, by decide⟩)) (by omega) (by decide) (Nat.le_of_ble_eq_true rfl) (fun r3 G3 hr3 hn3 => ?_)
  obtain ⟨rfl, h3, o3⟩ := hr3
  have S3 := o3.St S2
  refine go_goto dC_takeAndGive_212 (tgt := 271) (by decide) ?_
  refine go_return rfl dC_takeAndGive_271 ?_
  exact ⟨rfl, by rw [show fEff g 7 a b = (fun x => (fTake 0 x).bind fun z => (fTake 0 z).bind (fGive 0)) from rfl, fe_b3]; exact h3, ((o1.tr o2).tr o3)⟩
set_option maxRecDepth 100000 in
theorem okC_tg8 (w : am_W) {d : Nat} (hd : 3 ≤ d) (G : am_G) (c : Bool) (y : Option fS) (g : Nat → Nat) (m i a b : Nat) (hi : i < 60) (ha : a < 8) (hb : b < 120) (hS : St0 G) (h : wOK G c y) (hM : isM G m) (ho : G.2.1 (m + 1) i = nI 8) (hA : G.2.1 (m + 2) i = nI a ∨ True) (hB : G.2.1 (m + 3) i = nI b ∨ True) : am_Ok w jC_takeAndGive d (0, 0) [.inr (some 102), .inr (some m), .inl (nI i)] G (fun r G' => r = none ∧ wOK G' c (y.bind (fEff g 8 a b)) ∧ oC G G') := by
  refine am_ok_of rfl (Nat.le_of_ble_eq_true rfl) ?_
  show am_Go w jC_takeAndGive d (0, 0) 0 [some (.inr (some 102)), some (.inr (some m)), some (.inl (nI i)), none, none, none] [] G _
  obtain ⟨hs, ⟨r0, r1, r2, r3, r4, r5, r6⟩, s1, s2, s3, s4, s5, s6, s7⟩ := hM
  refine go_aload_n dC_takeAndGive_0 rfl rfl ?_
  refine go_getO dC_takeAndGive_1 flC_91 rfl (by assumption) (by assumption) ?_
  refine go_iload_n dC_takeAndGive_4 rfl rfl ?_
  refine go_ialV s1 hi (by decide) ho dC_takeAndGive_5 ?_
  refine go_tableIn dC_takeAndGive_6 (by decide) (by decide) (off := 191) rfl (tgt := 197) (by decide) ?_
  refine go_aload_n dC_takeAndGive_197 rfl rfl ?_
  refine go_iconst (nI 0) (by decide) dC_takeAndGive_198 ?_
  refine go_cV (k' := (0, 0)) dC_takeAndGive_199 [.inl (nI 0)] csC_108 (hS.s rfl) rfl imC_take seC_take rfl (okC_take (d := 1) w (by decide) G c y 0 (by decide) hS h) (by omega) (by decide) (Nat.le_of_ble_eq_true rfl) (fun r1 G1 hr1 hn1 => ?_)
  obtain ⟨rfl, h1, o1⟩ := hr1
  have S1 := o1.St hS
  refine go_aload_n dC_takeAndGive_202 rfl rfl ?_
  refine go_iconst (nI 0) (by decide) dC_takeAndGive_203 ?_
  refine go_cV (k' := (0, 0)) dC_takeAndGive_204 [.inl (nI 0)] csC_108 (S1.s rfl) rfl imC_take seC_take rfl (okC_take (d := 1) w (by decide) G1 c ((y).bind (fTake 0)) 0 (by decide) S1 h1) (by omega) (by decide) (Nat.le_of_ble_eq_true rfl) (fun r2 G2 hr2 hn2 => ?_)
  obtain ⟨rfl, h2, o2⟩ := hr2
  have S2 := o2.St S1
  refine go_aload_n dC_takeAndGive_207 rfl rfl ?_
  refine go_iconst (nI 0) (by decide) dC_takeAndGive_208 ?_
  refine go_cV (k' := (0, 0)) dC_takeAndGive_209 [.inl (nI 0)] csC_111 (S2.s rfl) rfl imC_give seC_give rfl (okC_give (d := 0) w G2 c ((((y).bind (fTake 0))).bind (fTake 0)) (0) (nI 0) S2 h2 (fun _ => ⟨rfl, by decide⟩)) (by omega) (by decide) (Nat.le_of_ble_eq_true rfl) (fun r3 G3 hr3 hn3 => ?_)
  obtain ⟨rfl, h3, o3⟩ := hr3
  have S3 := o3.St S2
  refine go_goto dC_takeAndGive_212 (tgt := 271) (by decide) ?_
  refine go_return rfl dC_takeAndGive_271 ?_
  exact ⟨rfl, by rw [show fEff g 8 a b = (fun x => (fTake 0 x).bind fun z => (fTake 0 z).bind (fGive 0)) from rfl, fe_b3]; exact h3, ((o1.tr o2).tr o3)⟩
set_option maxRecDepth 100000 in
theorem okC_tg9 (w : am_W) {d : Nat} (hd : 3 ≤ d) (G : am_G) (c : Bool) (y : Option fS) (g : Nat → Nat) (m i a b : Nat) (hi : i < 60) (ha : a < 8) (hb : b < 120) (hS : St0 G) (h : wOK G c y) (hM : isM G m) (ho : G.2.1 (m + 1) i = nI 9) (hA : G.2.1 (m + 2) i = nI a ∨ True) (hB : G.2.1 (m + 3) i = nI b ∨ True) : am_Ok w jC_takeAndGive d (0, 0) [.inr (some 102), .inr (some m), .inl (nI i)] G (fun r G' => r = none ∧ wOK G' c (y.bind (fEff g 9 a b)) ∧ oC G G') := by
  refine am_ok_of rfl (Nat.le_of_ble_eq_true rfl) ?_
  show am_Go w jC_takeAndGive d (0, 0) 0 [some (.inr (some 102)), some (.inr (some m)), some (.inl (nI i)), none, none, none] [] G _
  obtain ⟨hs, ⟨r0, r1, r2, r3, r4, r5, r6⟩, s1, s2, s3, s4, s5, s6, s7⟩ := hM
  refine go_aload_n dC_takeAndGive_0 rfl rfl ?_
  refine go_getO dC_takeAndGive_1 flC_91 rfl (by assumption) (by assumption) ?_
  refine go_iload_n dC_takeAndGive_4 rfl rfl ?_
  refine go_ialV s1 hi (by decide) ho dC_takeAndGive_5 ?_
  refine go_tableIn dC_takeAndGive_6 (by decide) (by decide) (off := 191) rfl (tgt := 197) (by decide) ?_
  refine go_aload_n dC_takeAndGive_197 rfl rfl ?_
  refine go_iconst (nI 0) (by decide) dC_takeAndGive_198 ?_
  refine go_cV (k' := (0, 0)) dC_takeAndGive_199 [.inl (nI 0)] csC_108 (hS.s rfl) rfl imC_take seC_take rfl (okC_take (d := 1) w (by decide) G c y 0 (by decide) hS h) (by omega) (by decide) (Nat.le_of_ble_eq_true rfl) (fun r1 G1 hr1 hn1 => ?_)
  obtain ⟨rfl, h1, o1⟩ := hr1
  have S1 := o1.St hS
  refine go_aload_n dC_takeAndGive_202 rfl rfl ?_
  refine go_iconst (nI 0) (by decide) dC_takeAndGive_203 ?_
  refine go_cV (k' := (0, 0)) dC_takeAndGive_204 [.inl (nI 0)] csC_108 (S1.s rfl) rfl imC_take seC_take rfl (okC_take (d := 1) w (by decide) G1 c ((y).bind (fTake 0)) 0 (by decide) S1 h1) (by omega) (by decide) (Nat.le_of_ble_eq_true rfl) (fun r2 G2 hr2 hn2 => ?_)
  obtain ⟨rfl, h2, o2⟩ := hr2
  have S2 := o2.St S1
  refine go_aload_n dC_takeAndGive_207 rfl rfl ?_
  refine go_iconst (nI 0) (by decide) dC_takeAndGive_208 ?_
  refine go_cV (k' := (0, 0)) dC_takeAndGive_209 [.inl (nI 0)] csC_111 (S2.s rfl) rfl imC_give seC_give rfl (okC_give (d := 0) w G2 c ((((y).bind (fTake 0))).bind (fTake 0)) (0) (nI 0) S2 h2 (fun _ => ⟨rfl, by decide⟩)) (by omega) (by decide) (Nat.le_of_ble_eq_true rfl) (fun r3 G3 hr3 hn3 => ?_)
  obtain ⟨rfl, h3, o3⟩ := hr3
  have S3 := o3.St S2
  refine go_goto dC_takeAndGive_212 (tgt := 271) (by decide) ?_
  refine go_return rfl dC_takeAndGive_271 ?_
  exact ⟨rfl, by rw [show fEff g 9 a b = (fun x => (fTake 0 x).bind fun z => (fTake 0 z).bind (fGive 0)) from rfl, fe_b3]; exact h3, ((o1.tr o2).tr o3)⟩
set_option maxRecDepth 100000 in
theorem okC_tg10 (w : am_W) {d : Nat} (hd : 3 ≤ d) (G : am_G) (c : Bool) (y : Option fS) (g : Nat → Nat) (m i a b : Nat) (hi : i < 60) (ha : a < 8) (hb : b < 120) (hS : St0 G) (h : wOK G c y) (hM : isM G m) (ho : G.2.1 (m + 1) i = nI 10) (hA : G.2.1 (m + 2) i = nI a ∨ True) (hB : G.2.1 (m + 3) i = nI b ∨ True) : am_Ok w jC_takeAndGive d (0, 0) [.inr (some 102), .inr (some m), .inl (nI i)] G (fun r G' => r = none ∧ wOK G' c (y.bind (fEff g 10 a b)) ∧ oC G G') := by
  refine am_ok_of rfl (Nat.le_of_ble_eq_true rfl) ?_
  show am_Go w jC_takeAndGive d (0, 0) 0 [some (.inr (some 102)), some (.inr (some m)), some (.inl (nI i)), none, none, none] [] G _
  obtain ⟨hs, ⟨r0, r1, r2, r3, r4, r5, r6⟩, s1, s2, s3, s4, s5, s6, s7⟩ := hM
  refine go_aload_n dC_takeAndGive_0 rfl rfl ?_
  refine go_getO dC_takeAndGive_1 flC_91 rfl (by assumption) (by assumption) ?_
  refine go_iload_n dC_takeAndGive_4 rfl rfl ?_
  refine go_ialV s1 hi (by decide) ho dC_takeAndGive_5 ?_
  refine go_tableIn dC_takeAndGive_6 (by decide) (by decide) (off := 191) rfl (tgt := 197) (by decide) ?_
  refine go_aload_n dC_takeAndGive_197 rfl rfl ?_
  refine go_iconst (nI 0) (by decide) dC_takeAndGive_198 ?_
  refine go_cV (k' := (0, 0)) dC_takeAndGive_199 [.inl (nI 0)] csC_108 (hS.s rfl) rfl imC_take seC_take rfl (okC_take (d := 1) w (by decide) G c y 0 (by decide) hS h) (by omega) (by decide) (Nat.le_of_ble_eq_true rfl) (fun r1 G1 hr1 hn1 => ?_)
  obtain ⟨rfl, h1, o1⟩ := hr1
  have S1 := o1.St hS
  refine go_aload_n dC_takeAndGive_202 rfl rfl ?_
  refine go_iconst (nI 0) (by decide) dC_takeAndGive_203 ?_
  refine go_cV (k' := (0, 0)) dC_takeAndGive_204 [.inl (nI 0)] csC_108 (S1.s rfl) rfl imC_take seC_take rfl (okC_take (d := 1) w (by decide) G1 c ((y).bind (fTake 0)) 0 (by decide) S1 h1) (by omega) (by decide) (Nat.le_of_ble_eq_true rfl) (fun r2 G2 hr2 hn2 => ?_)
  obtain ⟨rfl, h2, o2⟩ := hr2
  have S2 := o2.St S1
  refine go_aload_n dC_takeAndGive_207 rfl rfl ?_
  refine go_iconst (nI 0) (by decide) dC_takeAndGive_208 ?_
  refine go_cV (k' := (0, 0)) dC_takeAndGive_209 [.inl (nI 0)] csC_111 (S2.s rfl) rfl imC_give seC_give rfl (okC_give (d := 0) w G2 c ((((y).bind (fTake 0))).bind (fTake 0)) (0) (nI 0) S2 h2 (fun _ => ⟨rfl, by decide⟩)) (by omega) (by decide) (Nat.le_of_ble_eq_true rfl) (fun r3 G3 hr3 hn3 => ?_)
  obtain ⟨rfl, h3, o3⟩ := hr3
  have S3 := o3.St S2
  refine go_goto dC_takeAndGive_212 (tgt := 271) (by decide) ?_
  refine go_return rfl dC_takeAndGive_271 ?_
  exact ⟨rfl, by rw [show fEff g 10 a b = (fun x => (fTake 0 x).bind fun z => (fTake 0 z).bind (fGive 0)) from rfl, fe_b3]; exact h3, ((o1.tr o2).tr o3)⟩
set_option maxRecDepth 100000 in
theorem okC_tg11 (w : am_W) {d : Nat} (hd : 3 ≤ d) (G : am_G) (c : Bool) (y : Option fS) (g : Nat → Nat) (m i a b : Nat) (hi : i < 60) (ha : a < 8) (hb : b < 120) (hS : St0 G) (h : wOK G c y) (hM : isM G m) (ho : G.2.1 (m + 1) i = nI 11) (hA : G.2.1 (m + 2) i = nI a ∨ True) (hB : G.2.1 (m + 3) i = nI b ∨ True) : am_Ok w jC_takeAndGive d (0, 0) [.inr (some 102), .inr (some m), .inl (nI i)] G (fun r G' => r = none ∧ wOK G' c (y.bind (fEff g 11 a b)) ∧ oC G G') := by
  refine am_ok_of rfl (Nat.le_of_ble_eq_true rfl) ?_
  show am_Go w jC_takeAndGive d (0, 0) 0 [some (.inr (some 102)), some (.inr (some m)), some (.inl (nI i)), none, none, none] [] G _
  obtain ⟨hs, ⟨r0, r1, r2, r3, r4, r5, r6⟩, s1, s2, s3, s4, s5, s6, s7⟩ := hM
  refine go_aload_n dC_takeAndGive_0 rfl rfl ?_
  refine go_getO dC_takeAndGive_1 flC_91 rfl (by assumption) (by assumption) ?_
  refine go_iload_n dC_takeAndGive_4 rfl rfl ?_
  refine go_ialV s1 hi (by decide) ho dC_takeAndGive_5 ?_
  refine go_tableIn dC_takeAndGive_6 (by decide) (by decide) (off := 255) rfl (tgt := 261) (by decide) ?_
  refine go_aload_n dC_takeAndGive_261 rfl rfl ?_
  refine go_aload_n dC_takeAndGive_262 rfl rfl ?_
  refine go_getO dC_takeAndGive_263 flC_91 rfl (by assumption) (by assumption) ?_
  refine go_iload_n dC_takeAndGive_266 rfl rfl ?_
  refine go_ialV s1 hi (by decide) ho dC_takeAndGive_267 ?_
  refine go_cV (k' := (0, 0)) dC_takeAndGive_268 [.inl (nI 11)] csC_125 (hS.s rfl) rfl imC_useObject seC_useObject rfl (okC_useObject11 (d := 2) w (by decide) G c y g a b hS h) (by omega) (by decide) (Nat.le_of_ble_eq_true rfl) (fun r1 G1 hr1 hn1 => ?_)
  obtain ⟨rfl, h1, o1⟩ := hr1
  refine go_return rfl dC_takeAndGive_271 ?_
  exact ⟨rfl, h1, o1⟩
set_option maxRecDepth 100000 in
theorem okC_tg12 (w : am_W) {d : Nat} (hd : 3 ≤ d) (G : am_G) (c : Bool) (y : Option fS) (g : Nat → Nat) (m i a b : Nat) (hi : i < 60) (ha : a < 8) (hb : b < 120) (hS : St0 G) (h : wOK G c y) (hM : isM G m) (ho : G.2.1 (m + 1) i = nI 12) (hA : G.2.1 (m + 2) i = nI a ∨ True) (hB : G.2.1 (m + 3) i = nI b ∨ True) : am_Ok w jC_takeAndGive d (0, 0) [.inr (some 102), .inr (some m), .inl (nI i)] G (fun r G' => r = none ∧ wOK G' c (y.bind (fEff g 12 a b)) ∧ oC G G') := by
  refine am_ok_of rfl (Nat.le_of_ble_eq_true rfl) ?_
  show am_Go w jC_takeAndGive d (0, 0) 0 [some (.inr (some 102)), some (.inr (some m)), some (.inl (nI i)), none, none, none] [] G _
  obtain ⟨hs, ⟨r0, r1, r2, r3, r4, r5, r6⟩, s1, s2, s3, s4, s5, s6, s7⟩ := hM
  refine go_aload_n dC_takeAndGive_0 rfl rfl ?_
  refine go_getO dC_takeAndGive_1 flC_91 rfl (by assumption) (by assumption) ?_
  refine go_iload_n dC_takeAndGive_4 rfl rfl ?_
  refine go_ialV s1 hi (by decide) ho dC_takeAndGive_5 ?_
  refine go_tableIn dC_takeAndGive_6 (by decide) (by decide) (off := 209) rfl (tgt := 215) (by decide) ?_
  refine go_aload_n dC_takeAndGive_215 rfl rfl ?_
  refine go_iconst (nI 0) (by decide) dC_takeAndGive_216 ?_
  refine go_cV (k' := (0, 0)) dC_takeAndGive_217 [.inl (nI 0)] csC_108 (hS.s rfl) rfl imC_take seC_take rfl (okC_take (d := 1) w (by decide) G c y 0 (by decide) hS h) (by omega) (by decide) (Nat.le_of_ble_eq_true rfl) (fun r1 G1 hr1 hn1 => ?_)
  obtain ⟨rfl, h1, o1⟩ := hr1
  have S1 := o1.St hS
  refine go_goto dC_takeAndGive_220 (tgt := 271) (by decide) ?_
  refine go_return rfl dC_takeAndGive_271 ?_
  exact ⟨rfl, by rw [show fEff g 12 a b = fTake 0 from rfl]; exact h1, o1⟩
set_option maxRecDepth 100000 in
theorem okC_tg13 (w : am_W) {d : Nat} (hd : 3 ≤ d) (G : am_G) (c : Bool) (y : Option fS) (g : Nat → Nat) (m i a b : Nat) (hi : i < 60) (ha : a < 8) (hb : b < 120) (hS : St0 G) (h : wOK G c y) (hM : isM G m) (ho : G.2.1 (m + 1) i = nI 13) (hA : G.2.1 (m + 2) i = nI a ∨ True) (hB : G.2.1 (m + 3) i = nI b ∨ True) : am_Ok w jC_takeAndGive d (0, 0) [.inr (some 102), .inr (some m), .inl (nI i)] G (fun r G' => r = none ∧ wOK G' c (y.bind (fEff g 13 a b)) ∧ oC G G') := by
  refine am_ok_of rfl (Nat.le_of_ble_eq_true rfl) ?_
  show am_Go w jC_takeAndGive d (0, 0) 0 [some (.inr (some 102)), some (.inr (some m)), some (.inl (nI i)), none, none, none] [] G _
  obtain ⟨hs, ⟨r0, r1, r2, r3, r4, r5, r6⟩, s1, s2, s3, s4, s5, s6, s7⟩ := hM
  refine go_aload_n dC_takeAndGive_0 rfl rfl ?_
  refine go_getO dC_takeAndGive_1 flC_91 rfl (by assumption) (by assumption) ?_
  refine go_iload_n dC_takeAndGive_4 rfl rfl ?_
  refine go_ialV s1 hi (by decide) ho dC_takeAndGive_5 ?_
  refine go_tableIn dC_takeAndGive_6 (by decide) (by decide) (off := 130) rfl (tgt := 136) (by decide) ?_
  refine go_aload_n dC_takeAndGive_136 rfl rfl ?_
  refine go_iconst (nI 1) (by decide) dC_takeAndGive_137 ?_
  refine go_cV (k' := (0, 0)) dC_takeAndGive_138 [.inl (nI 1)] csC_111 (hS.s rfl) rfl imC_give seC_give rfl (okC_give (d := 0) w G c y (1) (nI 1) hS h (fun _ => ⟨rfl, by decide⟩)) (by omega) (by decide) (Nat.le_of_ble_eq_true rfl) (fun r1 G1 hr1 hn1 => ?_)
  obtain ⟨rfl, h1, o1⟩ := hr1
  have S1 := o1.St hS
  refine go_goto dC_takeAndGive_141 (tgt := 271) (by decide) ?_
  refine go_return rfl dC_takeAndGive_271 ?_
  exact ⟨rfl, by rw [show fEff g 13 a b = fGive 1 from rfl]; exact h1, o1⟩
set_option maxRecDepth 100000 in
theorem okC_tg14 (w : am_W) {d : Nat} (hd : 3 ≤ d) (G : am_G) (c : Bool) (y : Option fS) (g : Nat → Nat) (m i a b : Nat) (hi : i < 60) (ha : a < 8) (hb : b < 120) (hS : St0 G) (h : wOK G c y) (hM : isM G m) (ho : G.2.1 (m + 1) i = nI 14) (hA : G.2.1 (m + 2) i = nI a ∨ True) (hB : G.2.1 (m + 3) i = nI b ∨ True) : am_Ok w jC_takeAndGive d (0, 0) [.inr (some 102), .inr (some m), .inl (nI i)] G (fun r G' => r = none ∧ wOK G' c (y.bind (fEff g 14 a b)) ∧ oC G G') := by
  refine am_ok_of rfl (Nat.le_of_ble_eq_true rfl) ?_
  show am_Go w jC_takeAndGive d (0, 0) 0 [some (.inr (some 102)), some (.inr (some m)), some (.inl (nI i)), none, none, none] [] G _
  obtain ⟨hs, ⟨r0, r1, r2, r3, r4, r5, r6⟩, s1, s2, s3, s4, s5, s6, s7⟩ := hM
  refine go_aload_n dC_takeAndGive_0 rfl rfl ?_
  refine go_getO dC_takeAndGive_1 flC_91 rfl (by assumption) (by assumption) ?_
  refine go_iload_n dC_takeAndGive_4 rfl rfl ?_
  refine go_ialV s1 hi (by decide) ho dC_takeAndGive_5 ?_
  refine go_tableIn dC_takeAndGive_6 (by decide) (by decide) (off := 130) rfl (tgt := 136) (by decide) ?_
  refine go_aload_n dC_takeAndGive_136 rfl rfl ?_
  refine go_iconst (nI 1) (by decide) dC_takeAndGive_137 ?_
  refine go_cV (k' := (0, 0)) dC_takeAndGive_138 [.inl (nI 1)] csC_111 (hS.s rfl) rfl imC_give seC_give rfl (okC_give (d := 0) w G c y (1) (nI 1) hS h (fun _ => ⟨rfl, by decide⟩)) (by omega) (by decide) (Nat.le_of_ble_eq_true rfl) (fun r1 G1 hr1 hn1 => ?_)
  obtain ⟨rfl, h1, o1⟩ := hr1
  have S1 := o1.St hS
  refine go_goto dC_takeAndGive_141 (tgt := 271) (by decide) ?_
  refine go_return rfl dC_takeAndGive_271 ?_
  exact ⟨rfl, by rw [show fEff g 14 a b = fGive 1 from rfl]; exact h1, o1⟩
set_option maxRecDepth 100000 in
theorem okC_tg15 (w : am_W) {d : Nat} (hd : 3 ≤ d) (G : am_G) (c : Bool) (y : Option fS) (g : Nat → Nat) (m i a b : Nat) (hi : i < 60) (ha : a < 8) (hb : b < 120) (hS : St0 G) (h : wOK G c y) (hM : isM G m) (ho : G.2.1 (m + 1) i = nI 15) (hA : G.2.1 (m + 2) i = nI a ∨ True) (hB : G.2.1 (m + 3) i = nI b ∨ True) : am_Ok w jC_takeAndGive d (0, 0) [.inr (some 102), .inr (some m), .inl (nI i)] G (fun r G' => r = none ∧ wOK G' c (y.bind (fEff g 15 a b)) ∧ oC G G') := by
  refine am_ok_of rfl (Nat.le_of_ble_eq_true rfl) ?_
  show am_Go w jC_takeAndGive d (0, 0) 0 [some (.inr (some 102)), some (.inr (some m)), some (.inl (nI i)), none, none, none] [] G _
  obtain ⟨hs, ⟨r0, r1, r2, r3, r4, r5, r6⟩, s1, s2, s3, s4, s5, s6, s7⟩ := hM
  refine go_aload_n dC_takeAndGive_0 rfl rfl ?_
  refine go_getO dC_takeAndGive_1 flC_91 rfl (by assumption) (by assumption) ?_
  refine go_iload_n dC_takeAndGive_4 rfl rfl ?_
  refine go_ialV s1 hi (by decide) ho dC_takeAndGive_5 ?_
  refine go_tableIn dC_takeAndGive_6 (by decide) (by decide) (off := 255) rfl (tgt := 261) (by decide) ?_
  refine go_aload_n dC_takeAndGive_261 rfl rfl ?_
  refine go_aload_n dC_takeAndGive_262 rfl rfl ?_
  refine go_getO dC_takeAndGive_263 flC_91 rfl (by assumption) (by assumption) ?_
  refine go_iload_n dC_takeAndGive_266 rfl rfl ?_
  refine go_ialV s1 hi (by decide) ho dC_takeAndGive_267 ?_
  refine go_cV (k' := (0, 0)) dC_takeAndGive_268 [.inl (nI 15)] csC_125 (hS.s rfl) rfl imC_useObject seC_useObject rfl (okC_useObject15 (d := 2) w (by decide) G c y g a b hS h) (by omega) (by decide) (Nat.le_of_ble_eq_true rfl) (fun r1 G1 hr1 hn1 => ?_)
  obtain ⟨rfl, h1, o1⟩ := hr1
  refine go_return rfl dC_takeAndGive_271 ?_
  exact ⟨rfl, h1, o1⟩
set_option maxRecDepth 100000 in
theorem okC_tg16 (w : am_W) {d : Nat} (hd : 3 ≤ d) (G : am_G) (c : Bool) (y : Option fS) (g : Nat → Nat) (m i a b : Nat) (hi : i < 60) (ha : a < 8) (hb : b < 120) (hS : St0 G) (h : wOK G c y) (hM : isM G m) (ho : G.2.1 (m + 1) i = nI 16) (hA : G.2.1 (m + 2) i = nI a ∨ True) (hB : G.2.1 (m + 3) i = nI b ∨ True) : am_Ok w jC_takeAndGive d (0, 0) [.inr (some 102), .inr (some m), .inl (nI i)] G (fun r G' => r = none ∧ wOK G' c (y.bind (fEff g 16 a b)) ∧ oC G G') := by
  refine am_ok_of rfl (Nat.le_of_ble_eq_true rfl) ?_
  show am_Go w jC_takeAndGive d (0, 0) 0 [some (.inr (some 102)), some (.inr (some m)), some (.inl (nI i)), none, none, none] [] G _
  obtain ⟨hs, ⟨r0, r1, r2, r3, r4, r5, r6⟩, s1, s2, s3, s4, s5, s6, s7⟩ := hM
  refine go_aload_n dC_takeAndGive_0 rfl rfl ?_
  refine go_getO dC_takeAndGive_1 flC_91 rfl (by assumption) (by assumption) ?_
  refine go_iload_n dC_takeAndGive_4 rfl rfl ?_
  refine go_ialV s1 hi (by decide) ho dC_takeAndGive_5 ?_
  refine go_tableIn dC_takeAndGive_6 (by decide) (by decide) (off := 255) rfl (tgt := 261) (by decide) ?_
  refine go_aload_n dC_takeAndGive_261 rfl rfl ?_
  refine go_aload_n dC_takeAndGive_262 rfl rfl ?_
  refine go_getO dC_takeAndGive_263 flC_91 rfl (by assumption) (by assumption) ?_
  refine go_iload_n dC_takeAndGive_266 rfl rfl ?_
  refine go_ialV s1 hi (by decide) ho dC_takeAndGive_267 ?_
  refine go_cV (k' := (0, 0)) dC_takeAndGive_268 [.inl (nI 16)] csC_125 (hS.s rfl) rfl imC_useObject seC_useObject rfl (okC_useObject16 (d := 2) w (by decide) G c y g a b hS h) (by omega) (by decide) (Nat.le_of_ble_eq_true rfl) (fun r1 G1 hr1 hn1 => ?_)
  obtain ⟨rfl, h1, o1⟩ := hr1
  refine go_return rfl dC_takeAndGive_271 ?_
  exact ⟨rfl, h1, o1⟩
set_option maxRecDepth 100000 in
theorem okC_tg17 (w : am_W) {d : Nat} (hd : 3 ≤ d) (G : am_G) (c : Bool) (y : Option fS) (g : Nat → Nat) (m i a b : Nat) (hi : i < 60) (ha : a < 8) (hb : b < 120) (hS : St0 G) (h : wOK G c y) (hM : isM G m) (ho : G.2.1 (m + 1) i = nI 17) (hA : G.2.1 (m + 2) i = nI a ∨ True) (hB : G.2.1 (m + 3) i = nI b ∨ True) : am_Ok w jC_takeAndGive d (0, 0) [.inr (some 102), .inr (some m), .inl (nI i)] G (fun r G' => r = none ∧ wOK G' c (y.bind (fEff g 17 a b)) ∧ oC G G') := by
  refine am_ok_of rfl (Nat.le_of_ble_eq_true rfl) ?_
  show am_Go w jC_takeAndGive d (0, 0) 0 [some (.inr (some 102)), some (.inr (some m)), some (.inl (nI i)), none, none, none] [] G _
  obtain ⟨hs, ⟨r0, r1, r2, r3, r4, r5, r6⟩, s1, s2, s3, s4, s5, s6, s7⟩ := hM
  refine go_aload_n dC_takeAndGive_0 rfl rfl ?_
  refine go_getO dC_takeAndGive_1 flC_91 rfl (by assumption) (by assumption) ?_
  refine go_iload_n dC_takeAndGive_4 rfl rfl ?_
  refine go_ialV s1 hi (by decide) ho dC_takeAndGive_5 ?_
  refine go_tableIn dC_takeAndGive_6 (by decide) (by decide) (off := 255) rfl (tgt := 261) (by decide) ?_
  refine go_aload_n dC_takeAndGive_261 rfl rfl ?_
  refine go_aload_n dC_takeAndGive_262 rfl rfl ?_
  refine go_getO dC_takeAndGive_263 flC_91 rfl (by assumption) (by assumption) ?_
  refine go_iload_n dC_takeAndGive_266 rfl rfl ?_
  refine go_ialV s1 hi (by decide) ho dC_takeAndGive_267 ?_
  refine go_cV (k' := (0, 0)) dC_takeAndGive_268 [.inl (nI 17)] csC_125 (hS.s rfl) rfl imC_useObject seC_useObject rfl (okC_useObject17 (d := 2) w (by decide) G c y g a b hS h) (by omega) (by decide) (Nat.le_of_ble_eq_true rfl) (fun r1 G1 hr1 hn1 => ?_)
  obtain ⟨rfl, h1, o1⟩ := hr1
  refine go_return rfl dC_takeAndGive_271 ?_
  exact ⟨rfl, h1, o1⟩
set_option maxRecDepth 100000 in
theorem okC_tg18 (w : am_W) {d : Nat} (hd : 3 ≤ d) (G : am_G) (c : Bool) (y : Option fS) (g : Nat → Nat) (m i a b : Nat) (hi : i < 60) (ha : a < 8) (hb : b < 120) (hS : St0 G) (h : wOK G c y) (hM : isM G m) (ho : G.2.1 (m + 1) i = nI 18) (hA : G.2.1 (m + 2) i = nI a ∨ True) (hB : G.2.1 (m + 3) i = nI b ∨ True) : am_Ok w jC_takeAndGive d (0, 0) [.inr (some 102), .inr (some m), .inl (nI i)] G (fun r G' => r = none ∧ wOK G' c (y.bind (fEff g 18 a b)) ∧ oC G G') := by
  refine am_ok_of rfl (Nat.le_of_ble_eq_true rfl) ?_
  show am_Go w jC_takeAndGive d (0, 0) 0 [some (.inr (some 102)), some (.inr (some m)), some (.inl (nI i)), none, none, none] [] G _
  obtain ⟨hs, ⟨r0, r1, r2, r3, r4, r5, r6⟩, s1, s2, s3, s4, s5, s6, s7⟩ := hM
  refine go_aload_n dC_takeAndGive_0 rfl rfl ?_
  refine go_getO dC_takeAndGive_1 flC_91 rfl (by assumption) (by assumption) ?_
  refine go_iload_n dC_takeAndGive_4 rfl rfl ?_
  refine go_ialV s1 hi (by decide) ho dC_takeAndGive_5 ?_
  refine go_tableIn dC_takeAndGive_6 (by decide) (by decide) (off := 255) rfl (tgt := 261) (by decide) ?_
  refine go_aload_n dC_takeAndGive_261 rfl rfl ?_
  refine go_aload_n dC_takeAndGive_262 rfl rfl ?_
  refine go_getO dC_takeAndGive_263 flC_91 rfl (by assumption) (by assumption) ?_
  refine go_iload_n dC_takeAndGive_266 rfl rfl ?_
  refine go_ialV s1 hi (by decide) ho dC_takeAndGive_267 ?_
  refine go_cV (k' := (0, 0)) dC_takeAndGive_268 [.inl (nI 18)] csC_125 (hS.s rfl) rfl imC_useObject seC_useObject rfl (okC_useObject18 (d := 2) w (by decide) G c y g a b hS h) (by omega) (by decide) (Nat.le_of_ble_eq_true rfl) (fun r1 G1 hr1 hn1 => ?_)
  obtain ⟨rfl, h1, o1⟩ := hr1
  refine go_return rfl dC_takeAndGive_271 ?_
  exact ⟨rfl, h1, o1⟩
set_option maxRecDepth 100000 in
theorem okC_tg19 (w : am_W) {d : Nat} (hd : 3 ≤ d) (G : am_G) (c : Bool) (y : Option fS) (g : Nat → Nat) (m i a b : Nat) (hi : i < 60) (ha : a < 8) (hb : b < 120) (hS : St0 G) (h : wOK G c y) (hM : isM G m) (ho : G.2.1 (m + 1) i = nI 19) (hA : G.2.1 (m + 2) i = nI a ∨ True) (hB : G.2.1 (m + 3) i = nI b ∨ True) : am_Ok w jC_takeAndGive d (0, 0) [.inr (some 102), .inr (some m), .inl (nI i)] G (fun r G' => r = none ∧ wOK G' c (y.bind (fEff g 19 a b)) ∧ oC G G') := by
  refine am_ok_of rfl (Nat.le_of_ble_eq_true rfl) ?_
  show am_Go w jC_takeAndGive d (0, 0) 0 [some (.inr (some 102)), some (.inr (some m)), some (.inl (nI i)), none, none, none] [] G _
  obtain ⟨hs, ⟨r0, r1, r2, r3, r4, r5, r6⟩, s1, s2, s3, s4, s5, s6, s7⟩ := hM
  refine go_aload_n dC_takeAndGive_0 rfl rfl ?_
  refine go_getO dC_takeAndGive_1 flC_91 rfl (by assumption) (by assumption) ?_
  refine go_iload_n dC_takeAndGive_4 rfl rfl ?_
  refine go_ialV s1 hi (by decide) ho dC_takeAndGive_5 ?_
  refine go_tableIn dC_takeAndGive_6 (by decide) (by decide) (off := 255) rfl (tgt := 261) (by decide) ?_
  refine go_aload_n dC_takeAndGive_261 rfl rfl ?_
  refine go_aload_n dC_takeAndGive_262 rfl rfl ?_
  refine go_getO dC_takeAndGive_263 flC_91 rfl (by assumption) (by assumption) ?_
  refine go_iload_n dC_takeAndGive_266 rfl rfl ?_
  refine go_ialV s1 hi (by decide) ho dC_takeAndGive_267 ?_
  refine go_cV (k' := (0, 0)) dC_takeAndGive_268 [.inl (nI 19)] csC_125 (hS.s rfl) rfl imC_useObject seC_useObject rfl (okC_useObject19 (d := 2) w (by decide) G c y g a b hS h) (by omega) (by decide) (Nat.le_of_ble_eq_true rfl) (fun r1 G1 hr1 hn1 => ?_)
  obtain ⟨rfl, h1, o1⟩ := hr1
  refine go_return rfl dC_takeAndGive_271 ?_
  exact ⟨rfl, h1, o1⟩
set_option maxRecDepth 100000 in
theorem okC_tg20 (w : am_W) {d : Nat} (hd : 3 ≤ d) (G : am_G) (c : Bool) (y : Option fS) (g : Nat → Nat) (m i a b : Nat) (hi : i < 60) (ha : a < 8) (hb : b < 120) (hS : St0 G) (h : wOK G c y) (hM : isM G m) (ho : G.2.1 (m + 1) i = nI 20) (hA : G.2.1 (m + 2) i = nI a ∨ True) (hB : G.2.1 (m + 3) i = nI b ∨ True) : am_Ok w jC_takeAndGive d (0, 0) [.inr (some 102), .inr (some m), .inl (nI i)] G (fun r G' => r = none ∧ wOK G' c (y.bind (fEff g 20 a b)) ∧ oC G G') := by
  refine am_ok_of rfl (Nat.le_of_ble_eq_true rfl) ?_
  show am_Go w jC_takeAndGive d (0, 0) 0 [some (.inr (some 102)), some (.inr (some m)), some (.inl (nI i)), none, none, none] [] G _
  obtain ⟨hs, ⟨r0, r1, r2, r3, r4, r5, r6⟩, s1, s2, s3, s4, s5, s6, s7⟩ := hM
  refine go_aload_n dC_takeAndGive_0 rfl rfl ?_
  refine go_getO dC_takeAndGive_1 flC_91 rfl (by assumption) (by assumption) ?_
  refine go_iload_n dC_takeAndGive_4 rfl rfl ?_
  refine go_ialV s1 hi (by decide) ho dC_takeAndGive_5 ?_
  refine go_tableIn dC_takeAndGive_6 (by decide) (by decide) (off := 255) rfl (tgt := 261) (by decide) ?_
  refine go_aload_n dC_takeAndGive_261 rfl rfl ?_
  refine go_aload_n dC_takeAndGive_262 rfl rfl ?_
  refine go_getO dC_takeAndGive_263 flC_91 rfl (by assumption) (by assumption) ?_
  refine go_iload_n dC_takeAndGive_266 rfl rfl ?_
  refine go_ialV s1 hi (by decide) ho dC_takeAndGive_267 ?_
  refine go_cV (k' := (0, 0)) dC_takeAndGive_268 [.inl (nI 20)] csC_125 (hS.s rfl) rfl imC_useObject seC_useObject rfl (okC_useObject20 (d := 2) w (by decide) G c y g a b hS h) (by omega) (by decide) (Nat.le_of_ble_eq_true rfl) (fun r1 G1 hr1 hn1 => ?_)
  obtain ⟨rfl, h1, o1⟩ := hr1
  refine go_return rfl dC_takeAndGive_271 ?_
  exact ⟨rfl, h1, o1⟩
set_option maxRecDepth 100000 in
theorem okC_tg22 (w : am_W) {d : Nat} (hd : 3 ≤ d) (G : am_G) (c : Bool) (y : Option fS) (g : Nat → Nat) (m i a b : Nat) (hi : i < 60) (ha : a < 8) (hb : b < 120) (hS : St0 G) (h : wOK G c y) (hM : isM G m) (ho : G.2.1 (m + 1) i = nI 22) (hA : G.2.1 (m + 2) i = nI a ∨ True) (hB : G.2.1 (m + 3) i = nI b ∨ True) : am_Ok w jC_takeAndGive d (0, 0) [.inr (some 102), .inr (some m), .inl (nI i)] G (fun r G' => r = none ∧ wOK G' c (y.bind (fEff g 22 a b)) ∧ oC G G') := by
  refine am_ok_of rfl (Nat.le_of_ble_eq_true rfl) ?_
  show am_Go w jC_takeAndGive d (0, 0) 0 [some (.inr (some 102)), some (.inr (some m)), some (.inl (nI i)), none, none, none] [] G _
  obtain ⟨hs, ⟨r0, r1, r2, r3, r4, r5, r6⟩, s1, s2, s3, s4, s5, s6, s7⟩ := hM
  refine go_aload_n dC_takeAndGive_0 rfl rfl ?_
  refine go_getO dC_takeAndGive_1 flC_91 rfl (by assumption) (by assumption) ?_
  refine go_iload_n dC_takeAndGive_4 rfl rfl ?_
  refine go_ialV s1 hi (by decide) ho dC_takeAndGive_5 ?_
  refine go_tableIn dC_takeAndGive_6 (by decide) (by decide) (off := 209) rfl (tgt := 215) (by decide) ?_
  refine go_aload_n dC_takeAndGive_215 rfl rfl ?_
  refine go_iconst (nI 0) (by decide) dC_takeAndGive_216 ?_
  refine go_cV (k' := (0, 0)) dC_takeAndGive_217 [.inl (nI 0)] csC_108 (hS.s rfl) rfl imC_take seC_take rfl (okC_take (d := 1) w (by decide) G c y 0 (by decide) hS h) (by omega) (by decide) (Nat.le_of_ble_eq_true rfl) (fun r1 G1 hr1 hn1 => ?_)
  obtain ⟨rfl, h1, o1⟩ := hr1
  have S1 := o1.St hS
  refine go_goto dC_takeAndGive_220 (tgt := 271) (by decide) ?_
  refine go_return rfl dC_takeAndGive_271 ?_
  exact ⟨rfl, by rw [show fEff g 22 a b = fTake 0 from rfl]; exact h1, o1⟩
set_option maxRecDepth 100000 in
theorem okC_tg23 (w : am_W) {d : Nat} (hd : 3 ≤ d) (G : am_G) (c : Bool) (y : Option fS) (g : Nat → Nat) (m i a b : Nat) (hi : i < 60) (ha : a < 8) (hb : b < 120) (hS : St0 G) (h : wOK G c y) (hM : isM G m) (ho : G.2.1 (m + 1) i = nI 23) (hA : G.2.1 (m + 2) i = nI a ∨ True) (hB : G.2.1 (m + 3) i = nI b ∨ False) : am_Ok w jC_takeAndGive d (0, 0) [.inr (some 102), .inr (some m), .inl (nI i)] G (fun r G' => r = none ∧ wOK G' c (y.bind (fEff g 23 a b)) ∧ oC G G') := by
  refine am_ok_of rfl (Nat.le_of_ble_eq_true rfl) ?_
  show am_Go w jC_takeAndGive d (0, 0) 0 [some (.inr (some 102)), some (.inr (some m)), some (.inl (nI i)), none, none, none] [] G _
  obtain ⟨hs, ⟨r0, r1, r2, r3, r4, r5, r6⟩, s1, s2, s3, s4, s5, s6, s7⟩ := hM
  refine go_aload_n dC_takeAndGive_0 rfl rfl ?_
  refine go_getO dC_takeAndGive_1 flC_91 rfl (by assumption) (by assumption) ?_
  refine go_iload_n dC_takeAndGive_4 rfl rfl ?_
  refine go_ialV s1 hi (by decide) ho dC_takeAndGive_5 ?_
  refine go_tableIn dC_takeAndGive_6 (by decide) (by decide) (off := 217) rfl (tgt := 223) (by decide) ?_
  refine go_aload_n dC_takeAndGive_223 rfl rfl ?_
  refine go_bipush (nI 10) (by decide) dC_takeAndGive_224 ?_
  refine go_aload_n dC_takeAndGive_226 rfl rfl ?_
  refine go_getO dC_takeAndGive_227 flC_118 rfl (by assumption) (by assumption) ?_
  refine go_iload_n dC_takeAndGive_230 rfl rfl ?_
  refine go_ialV s3 hi (by decide) (hB.resolve_right id) dC_takeAndGive_231 ?_
  refine go_iadd dC_takeAndGive_232 ?_
  rw [nI_add]
  refine go_cV (k' := (0, 0)) dC_takeAndGive_233 [.inl (nI (10 + b))] csC_111 (hS.s rfl) rfl imC_give seC_give rfl (okC_give (d := 0) w G c y (10 + b) (nI (10 + b)) hS h (fun _ => ⟨rfl, by omega⟩)) (by omega) (by decide) (Nat.le_of_ble_eq_true rfl) (fun r1 G1 hr1 hn1 => ?_)
  obtain ⟨rfl, h1, o1⟩ := hr1
  have S1 := o1.St hS
  refine go_goto dC_takeAndGive_236 (tgt := 271) (by decide) ?_
  refine go_return rfl dC_takeAndGive_271 ?_
  exact ⟨rfl, by rw [show fEff g 23 a b = fGive (10 + b) from rfl]; exact h1, o1⟩
set_option maxRecDepth 100000 in
theorem okC_tg24 (w : am_W) {d : Nat} (hd : 3 ≤ d) (G : am_G) (c : Bool) (y : Option fS) (g : Nat → Nat) (m i a b : Nat) (hi : i < 60) (ha : a < 8) (hb : b < 120) (hS : St0 G) (h : wOK G c y) (hM : isM G m) (ho : G.2.1 (m + 1) i = nI 24) (hA : G.2.1 (m + 2) i = nI a ∨ False) (hB : G.2.1 (m + 3) i = nI b ∨ True) : am_Ok w jC_takeAndGive d (0, 0) [.inr (some 102), .inr (some m), .inl (nI i)] G (fun r G' => r = none ∧ wOK G' c (y.bind (fEff g 24 a b)) ∧ oC G G') := by
  refine am_ok_of rfl (Nat.le_of_ble_eq_true rfl) ?_
  show am_Go w jC_takeAndGive d (0, 0) 0 [some (.inr (some 102)), some (.inr (some m)), some (.inl (nI i)), none, none, none] [] G _
  obtain ⟨hs, ⟨r0, r1, r2, r3, r4, r5, r6⟩, s1, s2, s3, s4, s5, s6, s7⟩ := hM
  refine go_aload_n dC_takeAndGive_0 rfl rfl ?_
  refine go_getO dC_takeAndGive_1 flC_91 rfl (by assumption) (by assumption) ?_
  refine go_iload_n dC_takeAndGive_4 rfl rfl ?_
  refine go_ialV s1 hi (by decide) ho dC_takeAndGive_5 ?_
  refine go_tableIn dC_takeAndGive_6 (by decide) (by decide) (off := 233) rfl (tgt := 239) (by decide) ?_
  refine go_aload_n dC_takeAndGive_239 rfl rfl ?_
  refine go_aload_n dC_takeAndGive_240 rfl rfl ?_
  refine go_getO dC_takeAndGive_241 flC_91 rfl (by assumption) (by assumption) ?_
  refine go_iload_n dC_takeAndGive_244 rfl rfl ?_
  refine go_ialV s1 hi (by decide) ho dC_takeAndGive_245 ?_
  refine go_bipush (nI 8) (by decide) dC_takeAndGive_246 ?_
  refine go_aload_n dC_takeAndGive_248 rfl rfl ?_
  refine go_getO dC_takeAndGive_249 flC_94 rfl (by assumption) (by assumption) ?_
  refine go_iload_n dC_takeAndGive_252 rfl rfl ?_
  refine go_ialV s2 hi (by decide) (hA.resolve_right id) dC_takeAndGive_253 ?_
  refine go_iadd dC_takeAndGive_254 ?_
  rw [nI_add]
  refine go_cV (k' := (0, 0)) dC_takeAndGive_255 [.inl (nI 24), .inl (nI (8 + a))] csC_121 (hS.s rfl) rfl imC_useLocal seC_useLocal rfl (okC_useLocal24 (d := 2) w (by decide) G c y g a b ha hS h) (by omega) (by decide) (Nat.le_of_ble_eq_true rfl) (fun r1 G1 hr1 hn1 => ?_)
  obtain ⟨rfl, h1, o1⟩ := hr1
  refine go_goto dC_takeAndGive_258 (tgt := 271) (by decide) ?_
  refine go_return rfl dC_takeAndGive_271 ?_
  exact ⟨rfl, h1, o1⟩
set_option maxRecDepth 100000 in
theorem okC_tg25 (w : am_W) {d : Nat} (hd : 3 ≤ d) (G : am_G) (c : Bool) (y : Option fS) (g : Nat → Nat) (m i a b : Nat) (hi : i < 60) (ha : a < 8) (hb : b < 120) (hS : St0 G) (h : wOK G c y) (hM : isM G m) (ho : G.2.1 (m + 1) i = nI 25) (hA : G.2.1 (m + 2) i = nI a ∨ True) (hB : G.2.1 (m + 3) i = nI b ∨ True) : am_Ok w jC_takeAndGive d (0, 0) [.inr (some 102), .inr (some m), .inl (nI i)] G (fun r G' => r = none ∧ wOK G' c (y.bind (fEff g 25 a b)) ∧ oC G G') := by
  refine am_ok_of rfl (Nat.le_of_ble_eq_true rfl) ?_
  show am_Go w jC_takeAndGive d (0, 0) 0 [some (.inr (some 102)), some (.inr (some m)), some (.inl (nI i)), none, none, none] [] G _
  obtain ⟨hs, ⟨r0, r1, r2, r3, r4, r5, r6⟩, s1, s2, s3, s4, s5, s6, s7⟩ := hM
  refine go_aload_n dC_takeAndGive_0 rfl rfl ?_
  refine go_getO dC_takeAndGive_1 flC_91 rfl (by assumption) (by assumption) ?_
  refine go_iload_n dC_takeAndGive_4 rfl rfl ?_
  refine go_ialV s1 hi (by decide) ho dC_takeAndGive_5 ?_
  refine go_tableIn dC_takeAndGive_6 (by decide) (by decide) (off := 209) rfl (tgt := 215) (by decide) ?_
  refine go_aload_n dC_takeAndGive_215 rfl rfl ?_
  refine go_iconst (nI 0) (by decide) dC_takeAndGive_216 ?_
  refine go_cV (k' := (0, 0)) dC_takeAndGive_217 [.inl (nI 0)] csC_108 (hS.s rfl) rfl imC_take seC_take rfl (okC_take (d := 1) w (by decide) G c y 0 (by decide) hS h) (by omega) (by decide) (Nat.le_of_ble_eq_true rfl) (fun r1 G1 hr1 hn1 => ?_)
  obtain ⟨rfl, h1, o1⟩ := hr1
  have S1 := o1.St hS
  refine go_goto dC_takeAndGive_220 (tgt := 271) (by decide) ?_
  refine go_return rfl dC_takeAndGive_271 ?_
  exact ⟨rfl, by rw [show fEff g 25 a b = fTake 0 from rfl]; exact h1, o1⟩
set_option maxRecDepth 100000 in
theorem okC_tg26 (w : am_W) {d : Nat} (hd : 3 ≤ d) (G : am_G) (c : Bool) (y : Option fS) (g : Nat → Nat) (m i a b : Nat) (hi : i < 60) (ha : a < 8) (hb : b < 120) (hS : St0 G) (h : wOK G c y) (hM : isM G m) (ho : G.2.1 (m + 1) i = nI 26) (hA : G.2.1 (m + 2) i = nI a ∨ True) (hB : G.2.1 (m + 3) i = nI b ∨ True) : am_Ok w jC_takeAndGive d (0, 0) [.inr (some 102), .inr (some m), .inl (nI i)] G (fun r G' => r = none ∧ wOK G' c (y.bind (fEff g 26 a b)) ∧ oC G G') := by
  refine am_ok_of rfl (Nat.le_of_ble_eq_true rfl) ?_
  show am_Go w jC_takeAndGive d (0, 0) 0 [some (.inr (some 102)), some (.inr (some m)), some (.inl (nI i)), none, none, none] [] G _
  obtain ⟨hs, ⟨r0, r1, r2, r3, r4, r5, r6⟩, s1, s2, s3, s4, s5, s6, s7⟩ := hM
  refine go_aload_n dC_takeAndGive_0 rfl rfl ?_
  refine go_getO dC_takeAndGive_1 flC_91 rfl (by assumption) (by assumption) ?_
  refine go_iload_n dC_takeAndGive_4 rfl rfl ?_
  refine go_ialV s1 hi (by decide) ho dC_takeAndGive_5 ?_
  refine go_tableIn dC_takeAndGive_6 (by decide) (by decide) (off := 255) rfl (tgt := 261) (by decide) ?_
  refine go_aload_n dC_takeAndGive_261 rfl rfl ?_
  refine go_aload_n dC_takeAndGive_262 rfl rfl ?_
  refine go_getO dC_takeAndGive_263 flC_91 rfl (by assumption) (by assumption) ?_
  refine go_iload_n dC_takeAndGive_266 rfl rfl ?_
  refine go_ialV s1 hi (by decide) ho dC_takeAndGive_267 ?_
  refine go_cV (k' := (0, 0)) dC_takeAndGive_268 [.inl (nI 26)] csC_125 (hS.s rfl) rfl imC_useObject seC_useObject rfl (okC_useObject26 (d := 2) w (by decide) G c y g a b hS h) (by omega) (by decide) (Nat.le_of_ble_eq_true rfl) (fun r1 G1 hr1 hn1 => ?_)
  obtain ⟨rfl, h1, o1⟩ := hr1
  refine go_return rfl dC_takeAndGive_271 ?_
  exact ⟨rfl, h1, o1⟩
set_option maxRecDepth 100000 in
theorem okC_tg27 (w : am_W) {d : Nat} (hd : 3 ≤ d) (G : am_G) (c : Bool) (y : Option fS) (g : Nat → Nat) (m i a b : Nat) (hi : i < 60) (ha : a < 8) (hb : b < 120) (hS : St0 G) (h : wOK G c y) (hM : isM G m) (ho : G.2.1 (m + 1) i = nI 27) (hA : G.2.1 (m + 2) i = nI a ∨ False) (hB : G.2.1 (m + 3) i = nI b ∨ True) : am_Ok w jC_takeAndGive d (0, 0) [.inr (some 102), .inr (some m), .inl (nI i)] G (fun r G' => r = none ∧ wOK G' c (y.bind (fEff g 27 a b)) ∧ oC G G') := by
  refine am_ok_of rfl (Nat.le_of_ble_eq_true rfl) ?_
  show am_Go w jC_takeAndGive d (0, 0) 0 [some (.inr (some 102)), some (.inr (some m)), some (.inl (nI i)), none, none, none] [] G _
  obtain ⟨hs, ⟨r0, r1, r2, r3, r4, r5, r6⟩, s1, s2, s3, s4, s5, s6, s7⟩ := hM
  refine go_aload_n dC_takeAndGive_0 rfl rfl ?_
  refine go_getO dC_takeAndGive_1 flC_91 rfl (by assumption) (by assumption) ?_
  refine go_iload_n dC_takeAndGive_4 rfl rfl ?_
  refine go_ialV s1 hi (by decide) ho dC_takeAndGive_5 ?_
  refine go_tableIn dC_takeAndGive_6 (by decide) (by decide) (off := 233) rfl (tgt := 239) (by decide) ?_
  refine go_aload_n dC_takeAndGive_239 rfl rfl ?_
  refine go_aload_n dC_takeAndGive_240 rfl rfl ?_
  refine go_getO dC_takeAndGive_241 flC_91 rfl (by assumption) (by assumption) ?_
  refine go_iload_n dC_takeAndGive_244 rfl rfl ?_
  refine go_ialV s1 hi (by decide) ho dC_takeAndGive_245 ?_
  refine go_bipush (nI 8) (by decide) dC_takeAndGive_246 ?_
  refine go_aload_n dC_takeAndGive_248 rfl rfl ?_
  refine go_getO dC_takeAndGive_249 flC_94 rfl (by assumption) (by assumption) ?_
  refine go_iload_n dC_takeAndGive_252 rfl rfl ?_
  refine go_ialV s2 hi (by decide) (hA.resolve_right id) dC_takeAndGive_253 ?_
  refine go_iadd dC_takeAndGive_254 ?_
  rw [nI_add]
  refine go_cV (k' := (0, 0)) dC_takeAndGive_255 [.inl (nI 27), .inl (nI (8 + a))] csC_121 (hS.s rfl) rfl imC_useLocal seC_useLocal rfl (okC_useLocal27 (d := 2) w (by decide) G c y g a b ha hS h) (by omega) (by decide) (Nat.le_of_ble_eq_true rfl) (fun r1 G1 hr1 hn1 => ?_)
  obtain ⟨rfl, h1, o1⟩ := hr1
  refine go_goto dC_takeAndGive_258 (tgt := 271) (by decide) ?_
  refine go_return rfl dC_takeAndGive_271 ?_
  exact ⟨rfl, h1, o1⟩
/-- all instructions but CALL -/
theorem okC_takeAndGive (w : am_W) {d : Nat} (hd : 3 ≤ d) (G : am_G) (c : Bool) (y : Option fS) (g : Nat → Nat) (m i p a b : Nat) (hp : p < 28) (h21 : p ≠ 21) (hi : i < 60) (ha : a < 8) (hb : b < 120) (hS : St0 G) (h : wOK G c y) (hM : isM G m) (ho : G.2.1 (m + 1) i = nI p) (hA : (p = 2 ∨ p = 3 ∨ p = 24 ∨ p = 27) → G.2.1 (m + 2) i = nI a) (hB : p = 23 → G.2.1 (m + 3) i = nI b) :
    am_Ok w jC_takeAndGive d (0, 0) [.inr (some 102), .inr (some m), .inl (nI i)] G (fun r G' => r = none ∧ wOK G' c (y.bind (fEff g p a b)) ∧ oC G G') := by
  match p, hp, h21 with
  | 0, _, _ => exact okC_tg0 w hd G c y g m i a b hi ha hb hS h hM ho (Or.inr trivial) (Or.inr trivial)
  | 1, _, _ => exact okC_tg1 w hd G c y g m i a b hi ha hb hS h hM ho (Or.inr trivial) (Or.inr trivial)
  | 2, _, _ => exact okC_tg2 w hd G c y g m i a b hi ha hb hS h hM ho (Or.inl (hA (by decide))) (Or.inr trivial)
  | 3, _, _ => exact okC_tg3 w hd G c y g m i a b hi ha hb hS h hM ho (Or.inl (hA (by decide))) (Or.inr trivial)
  | 4, _, _ => exact okC_tg4 w hd G c y g m i a b hi ha hb hS h hM ho (Or.inr trivial) (Or.inr trivial)
  | 5, _, _ => exact okC_tg5 w hd G c y g m i a b hi ha hb hS h hM ho (Or.inr trivial) (Or.inr trivial)
  | 6, _, _ => exact okC_tg6 w hd G c y g m i a b hi ha hb hS h hM ho (Or.inr trivial) (Or.inr trivial)
  | 7, _, _ => exact okC_tg7 w hd G c y g m i a b hi ha hb hS h hM ho (Or.inr trivial) (Or.inr trivial)
  | 8, _, _ => exact okC_tg8 w hd G c y g m i a b hi ha hb hS h hM ho (Or.inr trivial) (Or.inr trivial)
  | 9, _, _ => exact okC_tg9 w hd G c y g m i a b hi ha hb hS h hM ho (Or.inr trivial) (Or.inr trivial)
  | 10, _, _ => exact okC_tg10 w hd G c y g m i a b hi ha hb hS h hM ho (Or.inr trivial) (Or.inr trivial)
  | 11, _, _ => exact okC_tg11 w hd G c y g m i a b hi ha hb hS h hM ho (Or.inr trivial) (Or.inr trivial)
  | 12, _, _ => exact okC_tg12 w hd G c y g m i a b hi ha hb hS h hM ho (Or.inr trivial) (Or.inr trivial)
  | 13, _, _ => exact okC_tg13 w hd G c y g m i a b hi ha hb hS h hM ho (Or.inr trivial) (Or.inr trivial)
  | 14, _, _ => exact okC_tg14 w hd G c y g m i a b hi ha hb hS h hM ho (Or.inr trivial) (Or.inr trivial)
  | 15, _, _ => exact okC_tg15 w hd G c y g m i a b hi ha hb hS h hM ho (Or.inr trivial) (Or.inr trivial)
  | 16, _, _ => exact okC_tg16 w hd G c y g m i a b hi ha hb hS h hM ho (Or.inr trivial) (Or.inr trivial)
  | 17, _, _ => exact okC_tg17 w hd G c y g m i a b hi ha hb hS h hM ho (Or.inr trivial) (Or.inr trivial)
  | 18, _, _ => exact okC_tg18 w hd G c y g m i a b hi ha hb hS h hM ho (Or.inr trivial) (Or.inr trivial)
  | 19, _, _ => exact okC_tg19 w hd G c y g m i a b hi ha hb hS h hM ho (Or.inr trivial) (Or.inr trivial)
  | 20, _, _ => exact okC_tg20 w hd G c y g m i a b hi ha hb hS h hM ho (Or.inr trivial) (Or.inr trivial)
  | 21, _, h21 => exact absurd rfl h21
  | 22, _, _ => exact okC_tg22 w hd G c y g m i a b hi ha hb hS h hM ho (Or.inr trivial) (Or.inr trivial)
  | 23, _, _ => exact okC_tg23 w hd G c y g m i a b hi ha hb hS h hM ho (Or.inr trivial) (Or.inl (hB rfl))
  | 24, _, _ => exact okC_tg24 w hd G c y g m i a b hi ha hb hS h hM ho (Or.inl (hA (by decide))) (Or.inr trivial)
  | 25, _, _ => exact okC_tg25 w hd G c y g m i a b hi ha hb hS h hM ho (Or.inr trivial) (Or.inr trivial)
  | 26, _, _ => exact okC_tg26 w hd G c y g m i a b hi ha hb hS h hM ho (Or.inr trivial) (Or.inr trivial)
  | 27, _, _ => exact okC_tg27 w hd G c y g m i a b hi ha hb hS h hM ho (Or.inl (hA (by decide))) (Or.inr trivial)
  | n + 28, hp, _ => exact absurd hp (by omega)
