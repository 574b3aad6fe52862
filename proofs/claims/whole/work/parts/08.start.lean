/-! THE CLAIM OUT OF ONE WALK OF THE LAW'S BODY. Your part is whole_start (and what it stands on); all else here is the same for every law, but numbers. -/
def R_law : String := "FrameForgeLaw"
def lw_P (b : Addr) (xs : List Int32) (args : Array Value) (s : State) : Prop := args = #[.ref b] ∧ s.IntsAt b xs ∧ xs.length ≤ 3584 ∧ (Jvm.Cond.and given_1 narrow_1).before args s = true
def lw_Q (_ : Array Value) (s : State) (o : Outcome) (t : State) : Prop := o = .returned (some (.int 1)) ∧ Framed s o t [] 600000 7302250
def lw_Z (below : List Frame) (a : Array Value) (s : State) : State → Prop := fun t => ∃ o, t.status = .running ∧ Ended t below o ∧ lw_Q a s o t
/-- the law's own end, with 1 on the stack, nothing written that was there before, its room as the claim has it -/
theorem lw_ret {p : Program} {l : Launch} {e : Env} {s : State} {m : MethodId} {below : List Frame} {meth : Method} {c : Code} {b : Nat} (hx : p.tables.exec = Jvm.exec) (hb : c.code = code) (hr : meth.sig.returnType = ret) (hlocks : meth.locks = false) {pc : Nat} {H : Heap} {ls : Array Slot} (hdg : decode code pc = .ok (.ireturn, 1)) : W p l e room_1 s m #[Value.ref b] below meth c H [] 600000 7302250 (lw_Z below #[Value.ref b] s) (F0 m pc ls [.int 1]) := by
  intro T hT X
  obtain ⟨fs, hret, hrun, hended, hW, hframe⟩ := X.leave (v := some (.int 1)) (hlocks := hlocks) (fun h => by rw [hr] at h; cases h)
  have hmeth' : T.vm.method? m = some meth := X.method'
  refine ⟨T.setFrames fs, ?_, .returned (some (.int 1)), hrun, hended, rfl, ⟨_, rfl⟩, hW, hframe⟩
  jvm_step X.here [X.here.top, hx, hb, hdg, hmeth', hr, ret, narrow_b1]
  (try refine ⟨rfl, ?_⟩); (try refine ⟨rfl, ?_⟩)
  first | (intro acts; rw [hret _ acts rfl rfl rfl]) | rw [hret _ _ rfl rfl rfl]
  exact Steps.refl _
/-- what holds at the law's entry: the machine, the code, the tables' words (any of lw_tbl by 'hts w (by decide +kernel)'), the script of L ints xs at the cell b, what the Statement gives of the start (any of its parts by flat_of_before) -/
def lw_At (p : Program) (s : State) (m : MethodId) (meth : Method) (c : Code) (b L : Nat) (xs : Nat → Int32) : Prop :=
  p.tables.exec = Jvm.exec ∧ c.code = code ∧ meth.sig.returnType = ret ∧ c.maxLocals = 4 ∧ s.vm.findClass R_law = some m.cls ∧ (∀ w ∈ lw_tbl, w.before #[Value.ref b] s = true) ∧ va_X b L xs s s.heap ∧ b < s.heap.size ∧ meth.locks = false ∧ (Jvm.Cond.and given_1 narrow_1).before #[Value.ref b] s = true
theorem ov0 : Cond.arrayOver (.object (am_rc 0)) ∈ lw_tbl := List.mem_append_right _ (List.mem_of_getElem? (i := 21) (by decide +kernel))
theorem ov1 : Cond.arrayOver (.object (am_rc 1)) ∈ lw_tbl := List.mem_append_right _ (List.mem_of_getElem? (i := 28) (by decide +kernel))
theorem ov2 : Cond.arrayOver (.object (am_rc 2)) ∈ lw_tbl := List.mem_append_right _ (List.mem_of_getElem? (i := 155) (by decide +kernel))

theorem it0 : Cond.instantiable am_R0 7 ∈ am_T := wd_in 13 (by decide +kernel) rfl
theorem it1 : Cond.instantiable am_R1 11 ∈ am_T := wd_in 29 (by decide +kernel) rfl
theorem it2 : Cond.instantiable am_R2 1 ∈ am_T := wd_in 22 (by decide +kernel) rfl
theorem it3 : Cond.instantiable am_R3 10 ∈ am_T := wd_in 109 (by decide +kernel) rfl
theorem it4 : Cond.instantiable am_R4 8 ∈ am_T := wd_in 238 (by decide +kernel) rfl
theorem it5 : Cond.instantiable am_R5 7 ∈ am_T := wd_in 156 (by decide +kernel) rfl
theorem it6 : Cond.instantiable am_R6 9 ∈ am_T := wd_in 149 (by decide +kernel) rfl
theorem it7 : Cond.instantiable am_R7 4 ∈ am_T := wd_in 217 (by decide +kernel) rfl
theorem it8 : Cond.instantiable am_R8 52 ∈ am_T := wd_in 712 (by decide +kernel) rfl
def am_G0 : am_G := ([], fun _ _ => 0, fun _ _ => none)
theorem sr_cl {s : State} {args : Array Value} (hts : ∀ w ∈ am_T, w.before args s = true) : ∃ D : va_G, ∀ (k : Nat) (q : vw_C), am_cl[k]? = some q → u_Kn s q.1 q.2.1 q.2.2 (D.1 k) (D.2 k) := by
  have h : ∀ k : Nat, ∃ p : ClassId × (Nat → Nat), ∀ q : vw_C, am_cl[k]? = some q → u_Kn s q.1 q.2.1 q.2.2 p.1 p.2 := by
    intro k
    match k with
    | 0 => obtain ⟨c, i, h⟩ := u_known hts am_w0 (hts _ it0); exact ⟨(c, i), fun q hq => by cases hq; exact h⟩
    | 1 => obtain ⟨c, i, h⟩ := u_known hts am_w1 (hts _ it1); exact ⟨(c, i), fun q hq => by cases hq; exact h⟩
    | 2 => obtain ⟨c, i, h⟩ := u_known hts am_w2 (hts _ it2); exact ⟨(c, i), fun q hq => by cases hq; exact h⟩
    | 3 => obtain ⟨c, i, h⟩ := u_known hts am_w3 (hts _ it3); exact ⟨(c, i), fun q hq => by cases hq; exact h⟩
    | 4 => obtain ⟨c, i, h⟩ := u_known hts am_w4 (hts _ it4); exact ⟨(c, i), fun q hq => by cases hq; exact h⟩
    | 5 => obtain ⟨c, i, h⟩ := u_known hts am_w5 (hts _ it5); exact ⟨(c, i), fun q hq => by cases hq; exact h⟩
    | 6 => obtain ⟨c, i, h⟩ := u_known hts am_w6 (hts _ it6); exact ⟨(c, i), fun q hq => by cases hq; exact h⟩
    | 7 => obtain ⟨c, i, h⟩ := u_known hts am_w7 (hts _ it7); exact ⟨(c, i), fun q hq => by cases hq; exact h⟩
    | 8 => obtain ⟨c, i, h⟩ := u_known hts am_w8 (hts _ it8); exact ⟨(c, i), fun q hq => by cases hq; exact h⟩
    | k + 9 =>
      obtain ⟨c, i, h⟩ := u_known hts am_w0 (hts _ it0)
      exact ⟨(c, i), fun q hq => by simp [am_cl] at hq⟩
  obtain ⟨f, hf⟩ := Classical.axiomOfChoice h
  exact ⟨(fun k => (f k).1, fun k => (f k).2), hf⟩
theorem sr_ap {s : State} {args : Array Value} {ty : FieldType} (h : (Cond.arrayClass ty).before args s = true) (hr : ∀ c : ClassId, s.vm.findClass ("[" ++ ty.toString) = some c → va_RA s c ty) : ∃ c : ClassId, ArrOfT s c ty ∧ va_RA s c ty := by
  obtain ⟨c, k, comp, h1, h2, h3⟩ := Cond.arrayClass_spec h
  exact ⟨c, fun n z => ⟨fun k h => (by cases h), k, h2, comp, h3⟩, hr c h1⟩
theorem sr_ao {s : State} {args : Array Value} {n : String} (h : (Cond.arrayOver (.object n)).before args s = true) : ∃ c : ClassId, ArrOfT s c (.object n) ∧ va_RA s c (.object n) := by
  obtain ⟨comp, c, k, h1, -, h2, h3, h4⟩ := Cond.arrayOver_spec h
  exact ⟨c, fun n z => ⟨fun k h => (by cases h), k, h2, comp, h3⟩, k, comp, h2, h3, h1, h4⟩
theorem sr_ar {s : State} {args : Array Value} (hts : ∀ w ∈ lw_tbl, w.before args s = true) : ∃ tb : Nat → ClassId, ∀ (l : Launch) (D : va_G) (b n : Nat) (xs : Nat → Int32) (k : Nat) (q : ClassId × FieldType), (am_tys (l, D, tb, b, n, xs))[k]? = some q → ArrOfT s q.1 q.2 ∧ va_RA s q.1 q.2 := by
  obtain ⟨c0, h0⟩ := sr_ap (ty := .int) (hts _ (am_T_in _ ac_int)) (fun c h => h)
  obtain ⟨c1, h1⟩ := sr_ap (ty := .boolean) (hts _ (am_T_in _ ac_boolean)) (fun c h => h)
  obtain ⟨c2, h2⟩ := sr_ao (hts _ ov0)
  obtain ⟨c3, h3⟩ := sr_ao (hts _ ov1)
  obtain ⟨c4, h4⟩ := sr_ao (hts _ ov2)
  refine ⟨fun k => match k with | 0 => c0 | 1 => c1 | 2 => c2 | 3 => c3 | _ => c4, fun l D b n xs k q hq => ?_⟩
  match k, hq with
  | 0, hq => have hq : some (c0, FieldType.int) = some q := hq; cases hq; exact h0
  | 1, hq => have hq : some (c1, FieldType.boolean) = some q := hq; cases hq; exact h1
  | 2, hq => have hq : some (c2, FieldType.object (am_rc 0)) = some q := hq; cases hq; exact h2
  | 3, hq => have hq : some (c3, FieldType.object (am_rc 1)) = some q := hq; cases hq; exact h3
  | 4, hq => have hq : some (c4, FieldType.object (am_rc 2)) = some q := hq; cases hq; exact h4
  | k + 5, hq =>
    have hq : (none : Option (ClassId × FieldType)) = some q := hq
    cases hq
theorem sr_in0 : ∀ j, j < 28 → Cond.eq (.elem (.static "FrameForge" "MOST_A" "[I") (.int (Int32.ofNat j))) (.int (am_sf 0 j)) ∈ flatC (Jvm.Cond.and given_1 narrow_1) := by decide +kernel
theorem sr_ls0 : Cond.laysStatic "FrameForge" "MOST_A" "[I" ∈ lw_tbl := List.mem_append_right _ (List.mem_of_getElem? (i := 351) (by decide +kernel))
theorem sr_s0 {s : State} {args : Array Value} {A : Nat → Prop} (hts : ∀ w ∈ lw_tbl, w.before args s = true) (hgv : (Jvm.Cond.and given_1 narrow_1).before args s = true) (hA : ∀ a : Nat, a < s.heap.size → ¬ A a) : ∃ t : Nat, va_Z (am_sC 0) (am_sn 0) "[I" (.ref t) A s s.heap ∧ va_T .int t (am_sN 0) (fun j => .int (am_sf 0 j)) A s s.heap := by
  have hs := flat_of_before _ hgv
  obtain ⟨t, h1, h2⟩ := va_Tof (tm := .static "FrameForge" "MOST_A" "[I") (ty := .int) (N := 28) (f := fun j => .int (am_sf 0 j)) (A := A) (by decide) (hs _ (by decide +kernel)) (va_eqt (hs (Cond.eq (.length (.static "FrameForge" "MOST_A" "[I")) (.int 28)) (by decide +kernel))) (fun j hj => va_eqt (hs _ (sr_in0 j hj))) hA
  exact ⟨t, va_Zref (hts _ sr_ls0) (hts _ (am_T_in _ inF)) h1 hA, h2⟩
theorem sr_in1 : ∀ j, j < 28 → Cond.eq (.elem (.static "FrameForge" "MOST_B" "[I") (.int (Int32.ofNat j))) (.int (am_sf 1 j)) ∈ flatC (Jvm.Cond.and given_1 narrow_1) := by decide +kernel
theorem sr_ls1 : Cond.laysStatic "FrameForge" "MOST_B" "[I" ∈ lw_tbl := List.mem_append_right _ (List.mem_of_getElem? (i := 356) (by decide +kernel))
theorem sr_s1 {s : State} {args : Array Value} {A : Nat → Prop} (hts : ∀ w ∈ lw_tbl, w.before args s = true) (hgv : (Jvm.Cond.and given_1 narrow_1).before args s = true) (hA : ∀ a : Nat, a < s.heap.size → ¬ A a) : ∃ t : Nat, va_Z (am_sC 1) (am_sn 1) "[I" (.ref t) A s s.heap ∧ va_T .int t (am_sN 1) (fun j => .int (am_sf 1 j)) A s s.heap := by
  have hs := flat_of_before _ hgv
  obtain ⟨t, h1, h2⟩ := va_Tof (tm := .static "FrameForge" "MOST_B" "[I") (ty := .int) (N := 28) (f := fun j => .int (am_sf 1 j)) (A := A) (by decide) (hs _ (by decide +kernel)) (va_eqt (hs (Cond.eq (.length (.static "FrameForge" "MOST_B" "[I")) (.int 28)) (by decide +kernel))) (fun j hj => va_eqt (hs _ (sr_in1 j hj))) hA
  exact ⟨t, va_Zref (hts _ sr_ls1) (hts _ (am_T_in _ inF)) h1 hA, h2⟩
theorem sr_in2 : ∀ j, j < 8 → Cond.eq (.elem (.static "FrameForge" "SELF_AND_ABOVE" "[I") (.int (Int32.ofNat j))) (.int (am_sf 2 j)) ∈ flatC (Jvm.Cond.and given_1 narrow_1) := by decide +kernel
theorem sr_ls2 : Cond.laysStatic "FrameForge" "SELF_AND_ABOVE" "[I" ∈ lw_tbl := List.mem_append_right _ (List.mem_of_getElem? (i := 582) (by decide +kernel))
theorem sr_s2 {s : State} {args : Array Value} {A : Nat → Prop} (hts : ∀ w ∈ lw_tbl, w.before args s = true) (hgv : (Jvm.Cond.and given_1 narrow_1).before args s = true) (hA : ∀ a : Nat, a < s.heap.size → ¬ A a) : ∃ t : Nat, va_Z (am_sC 2) (am_sn 2) "[I" (.ref t) A s s.heap ∧ va_T .int t (am_sN 2) (fun j => .int (am_sf 2 j)) A s s.heap := by
  have hs := flat_of_before _ hgv
  obtain ⟨t, h1, h2⟩ := va_Tof (tm := .static "FrameForge" "SELF_AND_ABOVE" "[I") (ty := .int) (N := 8) (f := fun j => .int (am_sf 2 j)) (A := A) (by decide) (hs _ (by decide +kernel)) (va_eqt (hs (Cond.eq (.length (.static "FrameForge" "SELF_AND_ABOVE" "[I")) (.int 8)) (by decide +kernel))) (fun j hj => va_eqt (hs _ (sr_in2 j hj))) hA
  exact ⟨t, va_Zref (hts _ sr_ls2) (hts _ (am_T_in _ inF)) h1 hA, h2⟩
theorem sr_tf : ∀ q ∈ am_TF, Cond.fieldLinkNest q.1 q.2.1 q.2.2.1 q.2.2.2.1 q.2.2.2.2.1 q.2.2.2.2.2 ∈ lw_tbl := fun q hq => by
  have h : am_TF.map (fun q => Cond.fieldLinkNest q.1 q.2.1 q.2.2.1 q.2.2.2.1 q.2.2.2.2.1 q.2.2.2.2.2) = [361, 362, 581].filterMap (fun i => tables_1[i]?) := by decide +kernel
  have h1 := List.mem_map_of_mem (f := fun q : String × Nat × String × String × String × String => Cond.fieldLinkNest q.1 q.2.1 q.2.2.1 q.2.2.2.1 q.2.2.2.2.1 q.2.2.2.2.2) hq
  rw [h] at h1
  obtain ⟨i, -, hi⟩ := List.mem_filterMap.mp h1
  exact List.mem_append_right _ (List.mem_of_getElem? hi)
theorem sr_tm : ∀ q ∈ am_TM, Cond.methodLinkNest q.1 q.2.1 q.2.2.1 q.2.2.2 ∈ lw_tbl := fun q hq => by
  have h : am_TM.map (fun q => Cond.methodLinkNest q.1 q.2.1 q.2.2.1 q.2.2.2) = [30, 110, 157, 218, 223, 239, 391, 441, 472, 583, 625, 635, 645].filterMap (fun i => tables_1[i]?) := by decide +kernel
  have h1 := List.mem_map_of_mem (f := fun q : String × Nat × MethodName × String => Cond.methodLinkNest q.1 q.2.1 q.2.2.1 q.2.2.2) hq
  rw [h] at h1
  obtain ⟨i, -, hi⟩ := List.mem_filterMap.mp h1
  exact List.mem_append_right _ (List.mem_of_getElem? hi)
/-- THE WHOLE out of the law's walk over the abstract machine -/
def sr_law : Prop := ∀ (w : am_W), w.2.2.2.2.1 ≤ 3584 → am_Go w jY_law 12 (600000, 7302250) 0 [some (.inr (some 1000000)), none, none, none] [] am_G0 (fun r _ => r = some (.inl 1))
theorem sr_start (law : sr_law) {p : Program} {e : Env} {s : State} {m : MethodId} {below : List Frame} {meth : Method} {c : Code} (l : Launch) {b L : Nat} {xs : Nat → Int32} (hL : L ≤ 3584) (C0 : lw_At p s m meth c b L xs) : W p l e room_1 s m #[Value.ref b] below meth c s.heap [] 0 0 (lw_Z below #[Value.ref b] s) (entryFrame m ([Value.ref b] : List Value).toArray 4) := by
  obtain ⟨hx, hb, hr, hml, hown, hts, hX, hbl, hlocks, hgv⟩ := C0
  have htsT : ∀ w ∈ am_T, w.before #[Value.ref b] s = true := fun w h => hts w (am_T_in w h)
  obtain ⟨D, hD⟩ := sr_cl htsT
  obtain ⟨tb, htb⟩ := sr_ar hts
  have hA : ∀ a : Nat, a < s.heap.size → ¬ (s.heap.size ≤ a) := fun a h => Nat.not_le.mpr h
  obtain ⟨t0, z0, y0⟩ := sr_s0 (A := fun q => s.heap.size ≤ q) hts hgv hA
  obtain ⟨t1, z1, y1⟩ := sr_s1 (A := fun q => s.heap.size ≤ q) hts hgv hA
  obtain ⟨t2, z2, y2⟩ := sr_s2 (A := fun q => s.heap.size ≤ q) hts hgv hA
  obtain ⟨w, hw⟩ : ∃ w : am_W, w = (l, D, tb, s.heap.size, L, xs) := ⟨_, rfl⟩
  obtain ⟨ad, had⟩ : ∃ ad : Nat → Nat, ad = fun i => if i = 1000000 then b else if i = 1000001 then t0 else if i = 1000002 then t1 else t2 := ⟨_, rfl⟩
  have a0 : ad 1000000 = b := by rw [had]; rfl
  have a1 : ad 1000001 = t0 := by rw [had]; rfl
  have a2 : ad 1000002 = t1 := by rw [had]; rfl
  have a3 : ad 1000003 = t2 := by rw [had]; rfl
  have hSta : am_Sta w ad s := by
    refine ⟨fun k hk => ?_, by rw [a0, hw]; exact hX, by rw [a0]; exact hbl, by rw [a0, hw]; exact hA b hbl, by rw [hw]; exact Nat.le_refl _, fun t ht => ?_, fun q hq => va_Nw.of rfl (hts _ (sr_tf q hq)), fun q hq => va_Nw.of rfl (hts _ (sr_tm q hq))⟩
    · match k, hk with
      | 0, _ => rw [show 1000001 + 0 = 1000001 from rfl, a1, hw]; exact ⟨z0, y0⟩
      | 1, _ => rw [show 1000001 + 1 = 1000002 from rfl, a2, hw]; exact ⟨z1, y1⟩
      | 2, _ => rw [show 1000001 + 2 = 1000003 from rfl, a3, hw]; exact ⟨z2, y2⟩
      | k + 3, hk => exact absurd hk (by unfold am_ns; omega)
    · match t, ht with
      | 0, _ => exact va_AO.of (hts _ ov0)
      | 1, _ => exact va_AO.of (hts _ ov1)
      | 2, _ => exact va_AO.of (hts _ ov2)
      | t + 3, ht => exact absurd ht (by unfold am_nrc; omega)
  have hRel : am_Rel w ad am_G0 s s.heap := by
    refine ⟨fun k q h => ?_, ⟨fun i j p q h => ?_, fun k q h => ?_⟩, ?_, fun i k r h => ?_⟩
    · have h : ([] : va_W)[k]? = some q := h
      simp at h
    · have h : ([] : va_W)[i]? = some p := h
      simp at h
    · have h : ([] : va_W)[k]? = some q := h
      simp at h
    · rw [hw]; exact ⟨hD, htb l D s.heap.size L xs⟩
    · cases h
  have C : am_Cx w jY_law 12 ad p room_1 s m #[Value.ref b] meth c := ⟨hx, hb, hr, hml, hown, htsT, hlocks, fun h => absurd h (by decide), Nat.le_refl _, Nat.le_refl _, hSta⟩
  have hmap : ([.inr (some 1000000)] : List am_V).map (am_v ad) = [Value.ref b] := by
    show [va_rf (some (ad 1000000))] = _
    rw [a0]; rfl
  have hl := am_entry ad [.inr (some 1000000)] (n := 4) (by decide)
  rw [hmap] at hl
  rw [lg_entry_eq]
  have hwl : w.1 = l := by rw [hw]
  have hwb : ∀ q, am_A w q → s.heap.size ≤ q := fun q h => by rw [hw] at h; exact h
  have g := law w (by rw [hw]; exact hL) p e room_1 s m #[Value.ref b] below meth c ad ad s.heap [] 0 0 _ (lw_Z below #[Value.ref b] s) 0 C hRel va_S.rf hl rfl (fun i v hi => ?_) am_vS.nil (by decide) (by decide) (Nat.zero_le _) am_ext.rf ?_
  · rw [hwl] at g; exact g
  · match i, hi with
    | 0, hi => have hi : some (some (Sum.inr (some 1000000) : am_V)) = some (some v) := hi; cases hi; exact Or.inr (Nat.le_refl _)
    | 1, hi => have hi : some (none : Option am_V) = some (some v) := hi; cases hi
    | 2, hi => have hi : some (none : Option am_V) = some (some v) := hi; cases hi
    | 3, hi => have hi : some (none : Option am_V) = some (some v) := hi; cases hi
    | i + 4, hi => have hi : (none : Option (Option am_V)) = some (some v) := hi; cases hi
  · intro r G' ad' H' locs' pc' ls' hp hR' hS' hn' hx' hok hret
    subst hp
    refine va_forget (fun q hq => hwb _ (hS'.2.2 q hq)) ?_
    rcases hret with ⟨hd, x, ty, h1, h2, h3⟩ | ⟨hd, x, ty, h1, h2⟩ | ⟨hd, h1, h2⟩
    · exact lw_ret hx hb hr hlocks hd
    · cases h1
    · cases h1
