def am_A (w : am_W) : Nat → Prop := fun q => w.2.2.2.1 ≤ q
def am_N (ci : Nat) : Nat := ((am_cl[ci]?).map fun q => q.2.2).getD 0
def am_fv (ad : Nat → Nat) (G : am_G) (i ci k : Nat) : Value := if refKind (am_ft ci k) = true then va_rf ((G.2.2 i k).map ad) else .int (G.2.1 i k)
def am_e (w : am_W) (ad : Nat → Nat) (G : am_G) (i : Nat) : va_E := match G.1[i]? with
  | some (0, ci) => .inr (ci, (List.range (am_N ci)).map (am_fv ad G i ci))
  | some (1, x) => .inl (w.2.2.1 0, x, .inl (G.2.1 i))
  | some (2, x) => .inl (w.2.2.1 1, x, .inl (G.2.1 i))
  | some (t + 3, x) => .inl (w.2.2.1 (2 + t), x, .inr (.inr (.inr (.inr (fun j => (G.2.2 i j).map ad)))))
  | none => .inr (0, [])
def am_ws (w : am_W) (ad : Nat → Nat) (G : am_G) : va_W := (List.range G.1.length).map fun i => (ad i, am_e w ad G i)
def am_tys (w : am_W) : List (ClassId × FieldType) := (w.2.2.1 0, .int) :: (w.2.2.1 1, .boolean) :: (List.range am_nrc).map fun t => (w.2.2.1 (2 + t), .object (am_rc t))
/-- the static arrays, and the script -/
def am_Sta (w : am_W) (ad : Nat → Nat) (U : State) : Prop :=
  (∀ k, k < am_ns → va_Z (am_sC k) (am_sn k) "[I" (.ref (ad (1000001 + k))) (am_A w) U U.heap ∧ va_T .int (ad (1000001 + k)) (am_sN k) (fun j => .int (am_sf k j)) (am_A w) U U.heap) ∧
  va_X (ad 1000000) w.2.2.2.2.1 w.2.2.2.2.2 U U.heap ∧ ad 1000000 < U.heap.size ∧ ¬ am_A w (ad 1000000) ∧ w.2.2.2.1 ≤ U.heap.size ∧ (∀ t, t < am_nrc → va_AO (am_rc t) U) ∧
  (∀ q ∈ am_TF, va_Nw (.fieldLinkNest q.1 q.2.1 q.2.2.1 q.2.2.2.1 q.2.2.2.2.1 q.2.2.2.2.2) U) ∧ ∀ q ∈ am_TM, va_Nw (.methodLinkNest q.1 q.2.1 q.2.2.1 q.2.2.2) U
def am_Rel (w : am_W) (ad : Nat → Nat) (G : am_G) (s : State) (H : Heap) : Prop :=
  va_P w.2.1 am_cl (am_ws w ad G) H ∧ va_D (am_A w) (am_ws w ad G) ∧ va_K w.2.1 am_cl (am_tys w) s ∧ am_vG G
def am_Cx (w : am_W) (j d : Nat) (ad : Nat → Nat) (p : Program) (R : Room) (s : State) (m : MethodId) (args : Array Value) (meth : Method) (c : Code) : Prop :=
  p.tables.exec = Jvm.exec ∧ c.code = am_by j ∧ meth.sig.returnType = am_ret j ∧ c.maxLocals = am_mx j ∧ s.vm.findClass (am_own j) = some m.cls ∧ (∀ w ∈ am_T, w.before args s = true) ∧ meth.locks = false ∧ ((am_y j).name = "<init>" → meth.name = "<init>") ∧ d ≤ R.frames ∧ 42 * d ≤ R.locals ∧ am_Sta w ad s
def am_retAt (j pc : Nat) (r : Option am_V) : Prop := (decode (am_by j) pc = .ok (.ireturn, 1) ∧ ∃ (x : Int32) (ty : FieldType), r = some (.inl x) ∧ am_ret j = some ty ∧ narrow ty (.int x) = .int x) ∨ (decode (am_by j) pc = .ok (.areturn, 1) ∧ ∃ (x : Option Nat) (ty : FieldType), r = some (.inr x) ∧ am_ret j = some ty ∧ refKind ty = true) ∨ (decode (am_by j) pc = .ok (.return_, 1) ∧ r = none ∧ am_ret j = none)
def am_Go (w : am_W) (j d : Nat) (k : Nat × Nat) (pc : Nat) (L : List (Option am_V)) (st : List am_V) (G : am_G) (P : Option am_V → am_G → Prop) : Prop :=
  ∀ (p : Program) (e : Env) (R : Room) (s : State) (m : MethodId) (args : Array Value) (below : List Frame) (meth : Method) (c : Code) (ad0 ad : Nat → Nat) (H : Heap) (locs : List Loc) (cells slots : Nat) (ls : Array Slot) (Q : State → Prop) (n0 : Nat),
    am_Cx w j d ad0 p R s m args meth c → am_Rel w ad G s H → va_S (am_A w) s.heap H locs → am_Ls ad L ls → L.length = am_mx j → am_vL (am_n G) L → am_vS (am_n G) st → cells + k.1 ≤ R.cells → slots + k.2 ≤ R.slots → n0 ≤ am_n G → am_ext n0 ad0 ad →
    (∀ (r : Option am_V) (G' : am_G) (ad' : Nat → Nat) (H' : Heap) (locs' : List Loc) (pc' : Nat) (ls' : Array Slot), P r G' → am_Rel w ad' G' s H' → va_S (am_A w) s.heap H' locs' → n0 ≤ am_n G' → am_ext n0 ad0 ad' → (∀ v, r = some v → am_ok1 (am_n G') v) → am_retAt j pc' r →
      W p w.1 e R s m args below meth c H' locs' R.cells R.slots Q (F0 m pc' ls' (r.toList.map (am_v ad')))) →
    W p w.1 e R s m args below meth c H locs cells slots Q (F0 m pc ls (st.map (am_v ad)))
section AmCx
variable {w : am_W} {j d : Nat} {ad : Nat → Nat} {p : Program} {R : Room} {s : State} {m : MethodId} {args : Array Value} {meth : Method} {c : Code}
theorem am_Cx.exec (C : am_Cx w j d ad p R s m args meth c) : p.tables.exec = Jvm.exec := C.1
theorem am_Cx.byt (C : am_Cx w j d ad p R s m args meth c) : c.code = am_by j := C.2.1
theorem am_Cx.ret (C : am_Cx w j d ad p R s m args meth c) : meth.sig.returnType = am_ret j := C.2.2.1
theorem am_Cx.mx (C : am_Cx w j d ad p R s m args meth c) : c.maxLocals = am_mx j := C.2.2.2.1
theorem am_Cx.own (C : am_Cx w j d ad p R s m args meth c) : s.vm.findClass (am_own j) = some m.cls := C.2.2.2.2.1
theorem am_Cx.ts (C : am_Cx w j d ad p R s m args meth c) : ∀ w ∈ am_T, w.before args s = true := C.2.2.2.2.2.1
theorem am_Cx.lk (C : am_Cx w j d ad p R s m args meth c) : meth.locks = false := C.2.2.2.2.2.2.1
theorem am_Cx.ini (C : am_Cx w j d ad p R s m args meth c) : (am_y j).name = "<init>" → meth.name = "<init>" := C.2.2.2.2.2.2.2.1
theorem am_Cx.fr (C : am_Cx w j d ad p R s m args meth c) : d ≤ R.frames := C.2.2.2.2.2.2.2.2.1
theorem am_Cx.lo (C : am_Cx w j d ad p R s m args meth c) : 42 * d ≤ R.locals := C.2.2.2.2.2.2.2.2.2.1
theorem am_Cx.sta (C : am_Cx w j d ad p R s m args meth c) : am_Sta w ad s := C.2.2.2.2.2.2.2.2.2.2
theorem am_Cx.bs (C : am_Cx w j d ad p R s m args meth c) : w.2.2.2.1 ≤ s.heap.size := C.sta.2.2.2.2.1
theorem am_Cx.ao (C : am_Cx w j d ad p R s m args meth c) : ∀ t, t < am_nrc → va_AO (am_rc t) s := C.sta.2.2.2.2.2.1
end AmCx
/-- memory's changes -/
def am_wi (G : am_G) (i k : Nat) (x : Int32) : am_G := (G.1, va_up G.2.1 i (upd (G.2.1 i) k x), G.2.2)
def am_wr (G : am_G) (i k : Nat) (r : Option Nat) : am_G := (G.1, G.2.1, va_up G.2.2 i (va_up (G.2.2 i) k r))
def am_ro (G : am_G) (i : Nat) (f : Nat → Int32) : am_G := (G.1, va_up G.2.1 i f, G.2.2)
def am_nw (G : am_G) (sh : Nat × Nat) : am_G := (G.1 ++ [sh], va_up G.2.1 G.1.length (fun _ => 0), va_up G.2.2 G.1.length (fun _ => none))
theorem am_ws_at {w : am_W} {ad : Nat → Nat} {G : am_G} {i : Nat} (h : i < am_n G) : (am_ws w ad G)[i]? = some (ad i, am_e w ad G i) := by
  unfold am_ws
  have h' : i < G.1.length := h
  rw [List.getElem?_map, List.getElem?_range h']
  rfl
theorem am_ws_len {w : am_W} {ad : Nat → Nat} {G : am_G} : (am_ws w ad G).length = am_n G := by simp [am_ws, am_n]
theorem am_lt {G : am_G} {i : Nat} {sh : Nat × Nat} (h : G.1[i]? = some sh) : i < am_n G := (List.getElem?_eq_some_iff.mp h).1
theorem am_ws_set {w : am_W} {ad : Nat → Nat} {G G' : am_G} {i : Nat} (h1 : G'.1 = G.1) (hi : i < am_n G) (hj : ∀ q, q ≠ i → am_e w ad G' q = am_e w ad G q) : am_ws w ad G' = (am_ws w ad G).set i (ad i, am_e w ad G' i) := by
  apply List.ext_getElem?
  intro q
  rw [List.getElem?_set]
  by_cases hq : q < am_n G
  · have hq' : q < am_n G' := by unfold am_n; rw [h1]; exact hq
    rw [am_ws_at hq']
    by_cases e : i = q
    · subst e
      rw [if_pos rfl, if_pos (by rw [am_ws_len]; exact hi)]
    · rw [if_neg e, am_ws_at hq, hj q (fun h => e h.symm)]
  · have hq' : am_n G ≤ q := Nat.le_of_not_lt hq
    have hn : am_n G' = am_n G := by unfold am_n; rw [h1]
    rw [List.getElem?_eq_none (by rw [am_ws_len, hn]; exact hq')]
    have e : ¬ i = q := by omega
    rw [if_neg e, List.getElem?_eq_none (by rw [am_ws_len]; exact hq')]
theorem am_up_ne {α : Type} {f : Nat → α} {k j : Nat} {v : α} (h : j ≠ k) : va_up f k v j = f j := by unfold va_up; rw [if_neg h]
theorem am_up_eq {α : Type} {f : Nat → α} {k : Nat} {v : α} : va_up f k v k = v := by unfold va_up; rw [if_pos rfl]
theorem am_e_row {w : am_W} {ad : Nat → Nat} {G G' : am_G} {q : Nat} (h1 : G'.1[q]? = G.1[q]?) (h2 : G'.2.1 q = G.2.1 q) (h3 : G'.2.2 q = G.2.2 q) : am_e w ad G' q = am_e w ad G q := by
  unfold am_e am_fv
  rw [h1, h2, h3]
theorem am_e_obj {w : am_W} {ad : Nat → Nat} {G : am_G} {i ci : Nat} (h : G.1[i]? = some (0, ci)) : am_e w ad G i = .inr (ci, (List.range (am_N ci)).map (am_fv ad G i ci)) := by
  unfold am_e; rw [h]
theorem am_e_int {w : am_W} {ad : Nat → Nat} {G : am_G} {i x : Nat} (h : G.1[i]? = some (1, x)) : am_e w ad G i = .inl (w.2.2.1 0, x, .inl (G.2.1 i)) := by
  unfold am_e; rw [h]
theorem am_e_bool {w : am_W} {ad : Nat → Nat} {G : am_G} {i x : Nat} (h : G.1[i]? = some (2, x)) : am_e w ad G i = .inl (w.2.2.1 1, x, .inl (G.2.1 i)) := by
  unfold am_e; rw [h]
theorem am_e_ref {w : am_W} {ad : Nat → Nat} {G : am_G} {i t x : Nat} (h : G.1[i]? = some (t + 3, x)) : am_e w ad G i = .inl (w.2.2.1 (2 + t), x, .inr (.inr (.inr (.inr (fun j => (G.2.2 i j).map ad))))) := by
  unfold am_e; rw [h]
theorem am_tys_r {w : am_W} {t : Nat} (h : t < am_nrc) : (am_tys w)[2 + t]? = some (w.2.2.1 (2 + t), .object (am_rc t)) := by
  have g : (am_tys w)[t + 1 + 1]? = some (w.2.2.1 (2 + t), .object (am_rc t)) := by
    unfold am_tys
    rw [List.getElem?_cons_succ, List.getElem?_cons_succ, List.getElem?_map, List.getElem?_range h]
    rfl
  exact (congrArg (fun q => (am_tys w)[q]?) (show 2 + t = t + 1 + 1 by omega)).trans g
theorem am_fs {ad : Nat → Nat} {G : am_G} {i ci k N : Nat} (hk : k < N) : ((List.range N).map (am_fv ad G i ci))[k]? = some (am_fv ad G i ci k) := by
  rw [List.getElem?_map, List.getElem?_range hk]; rfl
theorem am_fs_set {ad : Nat → Nat} {G G' : am_G} {i ci k N : Nat} {v : Value} (hk : k < N) (h : am_fv ad G' i ci k = v) (ho : ∀ q, q ≠ k → am_fv ad G' i ci q = am_fv ad G i ci q) : ((List.range N).map (am_fv ad G i ci)).set k v = (List.range N).map (am_fv ad G' i ci) := by
  apply List.ext_getElem?
  intro q
  rw [List.getElem?_set]
  by_cases hq : q < N
  · rw [am_fs (G := G') hq]
    by_cases e : k = q
    · subst e
      rw [if_pos rfl, if_pos (by simpa using hk), h]
    · rw [if_neg e, am_fs hq, ho q (fun h => e h.symm)]
  · have e : ¬ k = q := by omega
    rw [if_neg e, List.getElem?_eq_none (by simp; omega), List.getElem?_eq_none (by simp; omega)]
/-- a field by its pool entry: class ci, field k -/
def am_Fl (own : String) (idx ci k : Nat) : Prop := ∃ (C : String) (T : u_T) (N : Nat), am_cl[ci]? = some (C, T, N) ∧ k < N ∧ (∀ w ∈ u_ws C T N, w ∈ am_T) ∧ Cond.fieldLink own idx (T k).1 (T k).2.1 (T k).2.2.1 ∈ am_T ∧
  (∀ q, q < N → parseFieldDescriptor (T q).2.2.1 = some (am_ft ci q)) ∧ (∀ a, a < N → ∀ b, b < N → a ≠ b → (T a).2.1 ≠ (T b).2.1)
section AmRows
variable {w : am_W} {j d : Nat} {k : Nat × Nat} {pc : Nat} {L : List (Option am_V)} {st : List am_V} {G : am_G} {P : Option am_V → am_G → Prop}
theorem go_pure {pc2 : Nat} {st2 : List am_V}
    (hW : ∀ (p : Program) (l : Launch) (e : Env) (R : Room) (s : State) (m : MethodId) (args : Array Value) (below : List Frame) (meth : Method) (c : Code) (H : Heap) (locs : List Loc) (cells slots : Nat) (Q : State → Prop) (ls : Array Slot) (ad : Nat → Nat),
      p.tables.exec = Jvm.exec → c.code = am_by j → W p l e R s m args below meth c H locs cells slots Q (F0 m pc2 ls (st2.map (am_v ad))) → W p l e R s m args below meth c H locs cells slots Q (F0 m pc ls (st.map (am_v ad))))
    (hv : ∀ n, am_vS n st → am_vS n st2) (kk : am_Go w j d k pc2 L st2 G P) : am_Go w j d k pc L st G P := by
  intro p e R s m args below meth c ad0 ad H locs cells slots ls Q n0 C hR hS hl hL vL vS hc hs hn hx hE
  exact hW _ _ _ _ _ _ _ _ _ _ _ _ _ _ _ _ ad C.exec C.byt (kk p e R s m args below meth c ad0 ad H locs cells slots ls Q n0 C hR hS hl hL vL (hv _ vS) hc hs hn hx hE)
theorem go_iconst {n : Int} (v : Int32) (hv : Int32.ofInt n = v) (h : decode (am_by j) pc = .ok (.iconst n, 1)) (kk : am_Go w j d k (pc + 1) L (.inl v :: st) G P) : am_Go w j d k pc L st G P :=
  go_pure (fun _ _ _ _ _ _ _ _ _ _ _ _ _ _ _ _ _ hx hb q => lv_iconst hx hb h hv q) (fun _ v => v.i) kk
theorem go_bipush {n : Int} (v : Int32) (hv : (Int8.ofInt n).toInt32 = v) (h : decode (am_by j) pc = .ok (.bipush n, 2)) (kk : am_Go w j d k (pc + 2) L (.inl v :: st) G P) : am_Go w j d k pc L st G P :=
  go_pure (fun _ _ _ _ _ _ _ _ _ _ _ _ _ _ _ _ _ hx hb q => lv_bipush hx hb h hv q) (fun _ v => v.i) kk
theorem go_sipush {n : Int} (v : Int32) (hv : (Int16.ofInt n).toInt32 = v) (h : decode (am_by j) pc = .ok (.sipush n, 3)) (kk : am_Go w j d k (pc + 3) L (.inl v :: st) G P) : am_Go w j d k pc L st G P :=
  go_pure (fun _ _ _ _ _ _ _ _ _ _ _ _ _ _ _ _ _ hx hb q => lv_sipush hx hb h hv q) (fun _ v => v.i) kk
theorem go_null (h : decode (am_by j) pc = .ok (.aconst_null, 1)) (kk : am_Go w j d k (pc + 1) L (.inr none :: st) G P) : am_Go w j d k pc L st G P :=
  go_pure (fun _ _ _ _ _ _ _ _ _ _ _ _ _ _ _ _ _ hx hb q => lv_null hx hb h q) (fun _ v => v.nl) kk
section Bin
variable {x y : Int32}
theorem go_iadd (h : decode (am_by j) pc = .ok (.iadd, 1)) (kk : am_Go w j d k (pc + 1) L (.inl (x + y) :: st) G P) : am_Go w j d k pc L (.inl y :: .inl x :: st) G P :=
  go_pure (fun _ _ _ _ _ _ _ _ _ _ _ _ _ _ _ _ _ hx hb q => lv_iadd hx hb h q) (fun _ v => v.tl.tl.i) kk
theorem go_isub (h : decode (am_by j) pc = .ok (.isub, 1)) (kk : am_Go w j d k (pc + 1) L (.inl (x - y) :: st) G P) : am_Go w j d k pc L (.inl y :: .inl x :: st) G P :=
  go_pure (fun _ _ _ _ _ _ _ _ _ _ _ _ _ _ _ _ _ hx hb q => lv_isub hx hb h q) (fun _ v => v.tl.tl.i) kk
theorem go_imul (h : decode (am_by j) pc = .ok (.imul, 1)) (kk : am_Go w j d k (pc + 1) L (.inl (x * y) :: st) G P) : am_Go w j d k pc L (.inl y :: .inl x :: st) G P :=
  go_pure (fun _ _ _ _ _ _ _ _ _ _ _ _ _ _ _ _ _ hx hb q => lv_imul hx hb h q) (fun _ v => v.tl.tl.i) kk
theorem go_iand (h : decode (am_by j) pc = .ok (.iand, 1)) (kk : am_Go w j d k (pc + 1) L (.inl (x &&& y) :: st) G P) : am_Go w j d k pc L (.inl y :: .inl x :: st) G P :=
  go_pure (fun _ _ _ _ _ _ _ _ _ _ _ _ _ _ _ _ _ hx hb q => lv_iand hx hb h q) (fun _ v => v.tl.tl.i) kk
theorem go_ior (h : decode (am_by j) pc = .ok (.ior, 1)) (kk : am_Go w j d k (pc + 1) L (.inl (x ||| y) :: st) G P) : am_Go w j d k pc L (.inl y :: .inl x :: st) G P :=
  go_pure (fun _ _ _ _ _ _ _ _ _ _ _ _ _ _ _ _ _ hx hb q => lv_ior hx hb h q) (fun _ v => v.tl.tl.i) kk
theorem go_ishl (h : decode (am_by j) pc = .ok (.ishl, 1)) (kk : am_Go w j d k (pc + 1) L (.inl (x <<< (y &&& 31)) :: st) G P) : am_Go w j d k pc L (.inl y :: .inl x :: st) G P :=
  go_pure (fun _ _ _ _ _ _ _ _ _ _ _ _ _ _ _ _ _ hx hb q => lv_ishl hx hb h q) (fun _ v => v.tl.tl.i) kk
theorem go_ishr (h : decode (am_by j) pc = .ok (.ishr, 1)) (kk : am_Go w j d k (pc + 1) L (.inl (x >>> (y &&& 31)) :: st) G P) : am_Go w j d k pc L (.inl y :: .inl x :: st) G P :=
  go_pure (fun _ _ _ _ _ _ _ _ _ _ _ _ _ _ _ _ _ hx hb q => lv_ishr hx hb h q) (fun _ v => v.tl.tl.i) kk
theorem go_idiv (hne : ¬ y = 0) (h : decode (am_by j) pc = .ok (.idiv, 1)) (kk : am_Go w j d k (pc + 1) L (.inl (x / y) :: st) G P) : am_Go w j d k pc L (.inl y :: .inl x :: st) G P :=
  go_pure (fun _ _ _ _ _ _ _ _ _ _ _ _ _ _ _ _ _ hx hb q => lv_idiv hx hb h hne q) (fun _ v => v.tl.tl.i) kk
theorem go_ineg (h : decode (am_by j) pc = .ok (.ineg, 1)) (kk : am_Go w j d k (pc + 1) L (.inl (-x) :: st) G P) : am_Go w j d k pc L (.inl x :: st) G P :=
  go_pure (fun _ _ _ _ _ _ _ _ _ _ _ _ _ _ _ _ _ hx hb q => lv_ineg hx hb h q) (fun _ v => v.tl.i) kk
end Bin
section Stk
variable {a b : am_V}
theorem go_dup (h : decode (am_by j) pc = .ok (.dup, 1)) (kk : am_Go w j d k (pc + 1) L (a :: a :: st) G P) : am_Go w j d k pc L (a :: st) G P :=
  go_pure (fun _ _ _ _ _ _ _ _ _ _ _ _ _ _ _ _ ad hx hb q => lv_dup hx hb h (am_cat ad a) q) (fun _ v => v.cons v.hd) kk
theorem go_pop (h : decode (am_by j) pc = .ok (.pop, 1)) (kk : am_Go w j d k (pc + 1) L st G P) : am_Go w j d k pc L (a :: st) G P :=
  go_pure (fun _ _ _ _ _ _ _ _ _ _ _ _ _ _ _ _ ad hx hb q => lv_pop hx hb h (am_cat ad a) q) (fun _ v => v.tl) kk
theorem go_dup_x1 (h : decode (am_by j) pc = .ok (.dup_x1, 1)) (kk : am_Go w j d k (pc + 1) L (a :: b :: a :: st) G P) : am_Go w j d k pc L (a :: b :: st) G P :=
  go_pure (fun _ _ _ _ _ _ _ _ _ _ _ _ _ _ _ _ ad hx hb q => lv_dup_x1 hx hb h (am_cat ad a) (am_cat ad b) q) (fun _ v => ((v.tl.tl.cons v.hd).cons v.tl.hd).cons v.hd) kk
theorem go_dup2 (h : decode (am_by j) pc = .ok (.dup2, 1)) (kk : am_Go w j d k (pc + 1) L (a :: b :: a :: b :: st) G P) : am_Go w j d k pc L (a :: b :: st) G P :=
  go_pure (fun _ _ _ _ _ _ _ _ _ _ _ _ _ _ _ _ ad hx hb q => lv_dup2_11 hx hb h (am_cat ad a) (am_cat ad b) q) (fun _ v => (v.cons v.tl.hd).cons v.hd) kk
end Stk
theorem go_goto {off : Int} {tgt : Nat} (h : decode (am_by j) pc = .ok (.goto off, 3)) (ht : (pc : Int) + off = (tgt : Int)) (kk : am_Go w j d k tgt L st G P) : am_Go w j d k pc L st G P :=
  go_pure (fun _ _ _ _ _ _ _ _ _ _ _ _ _ _ _ _ _ hx hb q => lv_goto hx hb h ht q) (fun _ v => v) kk
/-- branches -/
theorem go_br {st2 : List am_V} {cT cF : Prop} {tgt : Nat}
    (hW : ∀ (p : Program) (l : Launch) (e : Env) (R : Room) (s : State) (m : MethodId) (args : Array Value) (below : List Frame) (meth : Method) (c : Code) (H : Heap) (locs : List Loc) (cells slots : Nat) (Q : State → Prop) (ls : Array Slot) (ad : Nat → Nat),
      p.tables.exec = Jvm.exec → c.code = am_by j → (cT → W p l e R s m args below meth c H locs cells slots Q (F0 m tgt ls (st2.map (am_v ad)))) → (cF → W p l e R s m args below meth c H locs cells slots Q (F0 m (pc + 3) ls (st2.map (am_v ad)))) → W p l e R s m args below meth c H locs cells slots Q (F0 m pc ls (st.map (am_v ad))))
    (hv : ∀ n, am_vS n st → am_vS n st2) (kt : cT → am_Go w j d k tgt L st2 G P) (kf : cF → am_Go w j d k (pc + 3) L st2 G P) : am_Go w j d k pc L st G P := by
  intro p e R s m args below meth c ad0 ad H locs cells slots ls Q n0 C hR hS hl hL vL vS hc hs hn hx hE
  exact hW _ _ _ _ _ _ _ _ _ _ _ _ _ _ _ _ ad C.exec C.byt (fun q => kt q p e R s m args below meth c ad0 ad H locs cells slots ls Q n0 C hR hS hl hL vL (hv _ vS) hc hs hn hx hE) (fun q => kf q p e R s m args below meth c ad0 ad H locs cells slots ls Q n0 C hR hS hl hL vL (hv _ vS) hc hs hn hx hE)
section Brs
variable {x y : Int32} {off : Int} {tgt : Nat}
theorem go_if_eq (h : decode (am_by j) pc = .ok (.ifCond .eq off, 3)) (ht : (pc : Int) + off = (tgt : Int)) (kt : x = 0 → am_Go w j d k tgt L st G P) (kf : ¬ x = 0 → am_Go w j d k (pc + 3) L st G P) : am_Go w j d k pc L (.inl x :: st) G P :=
  go_br (fun _ _ _ _ _ _ _ _ _ _ _ _ _ _ _ _ _ hx hb q1 q2 => lv_if_eq hx hb h ht q1 q2) (fun _ v => v.tl) kt kf
theorem go_icmp_eq (h : decode (am_by j) pc = .ok (.if_icmp .eq off, 3)) (ht : (pc : Int) + off = (tgt : Int)) (kt : x = y → am_Go w j d k tgt L st G P) (kf : ¬ x = y → am_Go w j d k (pc + 3) L st G P) : am_Go w j d k pc L (.inl y :: .inl x :: st) G P :=
  go_br (fun _ _ _ _ _ _ _ _ _ _ _ _ _ _ _ _ _ hx hb q1 q2 => lv_icmp_eq hx hb h ht q1 q2) (fun _ v => v.tl.tl) kt kf
theorem go_if_ne (h : decode (am_by j) pc = .ok (.ifCond .ne off, 3)) (ht : (pc : Int) + off = (tgt : Int)) (kt : ¬ x = 0 → am_Go w j d k tgt L st G P) (kf : x = 0 → am_Go w j d k (pc + 3) L st G P) : am_Go w j d k pc L (.inl x :: st) G P :=
  go_br (fun _ _ _ _ _ _ _ _ _ _ _ _ _ _ _ _ _ hx hb q1 q2 => lv_if_ne hx hb h ht q1 q2) (fun _ v => v.tl) kt kf
theorem go_icmp_ne (h : decode (am_by j) pc = .ok (.if_icmp .ne off, 3)) (ht : (pc : Int) + off = (tgt : Int)) (kt : ¬ x = y → am_Go w j d k tgt L st G P) (kf : x = y → am_Go w j d k (pc + 3) L st G P) : am_Go w j d k pc L (.inl y :: .inl x :: st) G P :=
  go_br (fun _ _ _ _ _ _ _ _ _ _ _ _ _ _ _ _ _ hx hb q1 q2 => lv_icmp_ne hx hb h ht q1 q2) (fun _ v => v.tl.tl) kt kf
theorem go_if_lt (h : decode (am_by j) pc = .ok (.ifCond .lt off, 3)) (ht : (pc : Int) + off = (tgt : Int)) (kt : x < 0 → am_Go w j d k tgt L st G P) (kf : ¬ x < 0 → am_Go w j d k (pc + 3) L st G P) : am_Go w j d k pc L (.inl x :: st) G P :=
  go_br (fun _ _ _ _ _ _ _ _ _ _ _ _ _ _ _ _ _ hx hb q1 q2 => lv_if_lt hx hb h ht q1 q2) (fun _ v => v.tl) kt kf
theorem go_icmp_lt (h : decode (am_by j) pc = .ok (.if_icmp .lt off, 3)) (ht : (pc : Int) + off = (tgt : Int)) (kt : x < y → am_Go w j d k tgt L st G P) (kf : ¬ x < y → am_Go w j d k (pc + 3) L st G P) : am_Go w j d k pc L (.inl y :: .inl x :: st) G P :=
  go_br (fun _ _ _ _ _ _ _ _ _ _ _ _ _ _ _ _ _ hx hb q1 q2 => lv_icmp_lt hx hb h ht q1 q2) (fun _ v => v.tl.tl) kt kf
theorem go_if_ge (h : decode (am_by j) pc = .ok (.ifCond .ge off, 3)) (ht : (pc : Int) + off = (tgt : Int)) (kt : 0 ≤ x → am_Go w j d k tgt L st G P) (kf : ¬ 0 ≤ x → am_Go w j d k (pc + 3) L st G P) : am_Go w j d k pc L (.inl x :: st) G P :=
  go_br (fun _ _ _ _ _ _ _ _ _ _ _ _ _ _ _ _ _ hx hb q1 q2 => lv_if_ge hx hb h ht q1 q2) (fun _ v => v.tl) kt kf
theorem go_icmp_ge (h : decode (am_by j) pc = .ok (.if_icmp .ge off, 3)) (ht : (pc : Int) + off = (tgt : Int)) (kt : y ≤ x → am_Go w j d k tgt L st G P) (kf : ¬ y ≤ x → am_Go w j d k (pc + 3) L st G P) : am_Go w j d k pc L (.inl y :: .inl x :: st) G P :=
  go_br (fun _ _ _ _ _ _ _ _ _ _ _ _ _ _ _ _ _ hx hb q1 q2 => lv_icmp_ge hx hb h ht q1 q2) (fun _ v => v.tl.tl) kt kf
theorem go_if_gt (h : decode (am_by j) pc = .ok (.ifCond .gt off, 3)) (ht : (pc : Int) + off = (tgt : Int)) (kt : 0 < x → am_Go w j d k tgt L st G P) (kf : ¬ 0 < x → am_Go w j d k (pc + 3) L st G P) : am_Go w j d k pc L (.inl x :: st) G P :=
  go_br (fun _ _ _ _ _ _ _ _ _ _ _ _ _ _ _ _ _ hx hb q1 q2 => lv_if_gt hx hb h ht q1 q2) (fun _ v => v.tl) kt kf
theorem go_icmp_gt (h : decode (am_by j) pc = .ok (.if_icmp .gt off, 3)) (ht : (pc : Int) + off = (tgt : Int)) (kt : y < x → am_Go w j d k tgt L st G P) (kf : ¬ y < x → am_Go w j d k (pc + 3) L st G P) : am_Go w j d k pc L (.inl y :: .inl x :: st) G P :=
  go_br (fun _ _ _ _ _ _ _ _ _ _ _ _ _ _ _ _ _ hx hb q1 q2 => lv_icmp_gt hx hb h ht q1 q2) (fun _ v => v.tl.tl) kt kf
theorem go_if_le (h : decode (am_by j) pc = .ok (.ifCond .le off, 3)) (ht : (pc : Int) + off = (tgt : Int)) (kt : x ≤ 0 → am_Go w j d k tgt L st G P) (kf : ¬ x ≤ 0 → am_Go w j d k (pc + 3) L st G P) : am_Go w j d k pc L (.inl x :: st) G P :=
  go_br (fun _ _ _ _ _ _ _ _ _ _ _ _ _ _ _ _ _ hx hb q1 q2 => lv_if_le hx hb h ht q1 q2) (fun _ v => v.tl) kt kf
theorem go_icmp_le (h : decode (am_by j) pc = .ok (.if_icmp .le off, 3)) (ht : (pc : Int) + off = (tgt : Int)) (kt : x ≤ y → am_Go w j d k tgt L st G P) (kf : ¬ x ≤ y → am_Go w j d k (pc + 3) L st G P) : am_Go w j d k pc L (.inl y :: .inl x :: st) G P :=
  go_br (fun _ _ _ _ _ _ _ _ _ _ _ _ _ _ _ _ _ hx hb q1 q2 => lv_icmp_le hx hb h ht q1 q2) (fun _ v => v.tl.tl) kt kf
end Brs
/-- loads and stores of locals -/
theorem am_rfv {ad : Nat → Nat} {r : Option Nat} : am_v ad (.inr r) = .null ∨ ∃ a, am_v ad (.inr r) = .ref a := va_rf_or _
theorem go_ld {i len : Nat} {v : am_V} (hi : L[i]? = some (some v))
    (hW : ∀ (p : Program) (l : Launch) (e : Env) (R : Room) (s : State) (m : MethodId) (args : Array Value) (below : List Frame) (meth : Method) (c : Code) (H : Heap) (locs : List Loc) (cells slots : Nat) (Q : State → Prop) (ls : Array Slot) (ad : Nat → Nat),
      p.tables.exec = Jvm.exec → c.code = am_by j → ls[i]? = some (.val (am_v ad v)) → W p l e R s m args below meth c H locs cells slots Q (F0 m (pc + len) ls (am_v ad v :: st.map (am_v ad))) → W p l e R s m args below meth c H locs cells slots Q (F0 m pc ls (st.map (am_v ad))))
    (kk : am_Go w j d k (pc + len) L (v :: st) G P) : am_Go w j d k pc L st G P := by
  intro p e R s m args below meth c ad0 ad H locs cells slots ls Q n0 C hR hS hl hL vL vS hc hs hn hx hE
  exact hW _ _ _ _ _ _ _ _ _ _ _ _ _ _ _ _ ad C.exec C.byt (hl.at hi) (kk p e R s m args below meth c ad0 ad H locs cells slots ls Q n0 C hR hS hl hL vL (vS.cons (vL i v hi)) hc hs hn hx hE)
theorem go_iload_n {n : Fin 4} {i : Nat} {x : Int32} (h : decode (am_by j) pc = .ok (.iload_n n, 1)) (e : (n : Nat) = i) (hi : L[i]? = some (some (.inl x))) (kk : am_Go w j d k (pc + 1) L (.inl x :: st) G P) : am_Go w j d k pc L st G P :=
  go_ld hi (fun _ _ _ _ _ _ _ _ _ _ _ _ _ _ _ _ _ hx hb hl q => lv_iload_n hx hb h e hl q) kk
theorem go_iload {i : Nat} {x : Int32} (h : decode (am_by j) pc = .ok (.iload i, 2)) (hi : L[i]? = some (some (.inl x))) (kk : am_Go w j d k (pc + 2) L (.inl x :: st) G P) : am_Go w j d k pc L st G P :=
  go_ld hi (fun _ _ _ _ _ _ _ _ _ _ _ _ _ _ _ _ _ hx hb hl q => lv_iload hx hb h hl q) kk
theorem go_aload_n {n : Fin 4} {i : Nat} {r : Option Nat} (h : decode (am_by j) pc = .ok (.aload_n n, 1)) (e : (n : Nat) = i) (hi : L[i]? = some (some (.inr r))) (kk : am_Go w j d k (pc + 1) L (.inr r :: st) G P) : am_Go w j d k pc L st G P :=
  go_ld hi (fun _ _ _ _ _ _ _ _ _ _ _ _ _ _ _ _ ad hx hb hl q => by
    rcases am_rfv (ad := ad) (r := r) with g | ⟨a, g⟩
    · rw [g] at hl q; exact lv_aload_nN hx hb h e hl q
    · rw [g] at hl q; exact lv_aload_n hx hb h e hl q) kk
theorem go_aload {i : Nat} {r : Option Nat} (h : decode (am_by j) pc = .ok (.aload i, 2)) (hi : L[i]? = some (some (.inr r))) (kk : am_Go w j d k (pc + 2) L (.inr r :: st) G P) : am_Go w j d k pc L st G P :=
  go_ld hi (fun _ _ _ _ _ _ _ _ _ _ _ _ _ _ _ _ ad hx hb hl q => by
    rcases am_rfv (ad := ad) (r := r) with g | ⟨a, g⟩
    · rw [g] at hl q; exact lv_aloadN hx hb h hl q
    · rw [g] at hl q; exact lv_aload hx hb h hl q) kk
theorem go_sto {i len : Nat} {v : am_V}
    (hW : ∀ (p : Program) (l : Launch) (e : Env) (R : Room) (s : State) (m : MethodId) (args : Array Value) (below : List Frame) (meth : Method) (c : Code) (H : Heap) (locs : List Loc) (cells slots : Nat) (Q : State → Prop) (ls : Array Slot) (ad : Nat → Nat) (nL : Nat) (lv : List (Nat × Value)),
      p.tables.exec = Jvm.exec → c.code = am_by j → lv_has ls nL lv → i < nL → (∀ ls' : Array Slot, lv_has ls' nL ((i, am_v ad v) :: lv.filter (fun q => !(q.1 == i) && !(q.1 + 1 == i && q.2.category == 2))) → W p l e R s m args below meth c H locs cells slots Q (F0 m (pc + len) ls' (st.map (am_v ad)))) → W p l e R s m args below meth c H locs cells slots Q (F0 m pc ls (am_v ad v :: st.map (am_v ad))))
    (hi : i < L.length) (kk : am_Go w j d k (pc + len) (L.set i (some v)) st G P) : am_Go w j d k pc L (v :: st) G P := by
  intro p e R s m args below meth c ad0 ad H locs cells slots ls Q n0 C hR hS hl hL vL vS hc hs hn hx hE
  exact hW _ _ _ _ _ _ _ _ _ _ _ _ _ _ _ _ ad L.length (am_lv ad L) C.exec C.byt hl hi (fun ls' hl' => kk p e R s m args below meth c ad0 ad H locs cells slots ls' Q n0 C hR hS (am_Ls.st rfl hl') (by rw [List.length_set]; exact hL) (vL.set vS.hd) vS.tl hc hs hn hx hE)
theorem go_istore_n {n : Fin 4} {i : Nat} {x : Int32} (h : decode (am_by j) pc = .ok (.istore_n n, 1)) (e : (n : Nat) = i) (hi : i < L.length) (kk : am_Go w j d k (pc + 1) (L.set i (some (.inl x))) st G P) : am_Go w j d k pc L (.inl x :: st) G P :=
  go_sto (fun _ _ _ _ _ _ _ _ _ _ _ _ _ _ _ _ _ _ _ hx hb hl hi q => lv_istore_n hx hb h e hl hi rfl q) hi kk
theorem go_istore {i : Nat} {x : Int32} (h : decode (am_by j) pc = .ok (.istore i, 2)) (hi : i < L.length) (kk : am_Go w j d k (pc + 2) (L.set i (some (.inl x))) st G P) : am_Go w j d k pc L (.inl x :: st) G P :=
  go_sto (fun _ _ _ _ _ _ _ _ _ _ _ _ _ _ _ _ _ _ _ hx hb hl hi q => lv_istore hx hb h hl hi rfl q) hi kk
theorem go_astore_n {n : Fin 4} {i : Nat} {r : Option Nat} (h : decode (am_by j) pc = .ok (.astore_n n, 1)) (e : (n : Nat) = i) (hi : i < L.length) (kk : am_Go w j d k (pc + 1) (L.set i (some (.inr r))) st G P) : am_Go w j d k pc L (.inr r :: st) G P :=
  go_sto (fun _ _ _ _ _ _ _ _ _ _ _ _ _ _ _ _ ad _ _ hx hb hl hi q => by
    rcases am_rfv (ad := ad) (r := r) with g | ⟨a, g⟩
    · rw [g] at q ⊢; exact lv_astore_nN hx hb h e hl hi rfl q
    · rw [g] at q ⊢; exact lv_astore_n hx hb h e hl hi rfl q) hi kk
theorem go_astore {i : Nat} {r : Option Nat} (h : decode (am_by j) pc = .ok (.astore i, 2)) (hi : i < L.length) (kk : am_Go w j d k (pc + 2) (L.set i (some (.inr r))) st G P) : am_Go w j d k pc L (.inr r :: st) G P :=
  go_sto (fun _ _ _ _ _ _ _ _ _ _ _ _ _ _ _ _ ad _ _ hx hb hl hi q => by
    rcases am_rfv (ad := ad) (r := r) with g | ⟨a, g⟩
    · rw [g] at q ⊢; exact lv_astoreN hx hb h hl hi rfl q
    · rw [g] at q ⊢; exact lv_astore hx hb h hl hi rfl q) hi kk
theorem go_iinc {i : Nat} {n : Int} {x : Int32} (h : decode (am_by j) pc = .ok (.iinc i n, 3)) (hi : L[i]? = some (some (.inl x))) (kk : am_Go w j d k (pc + 3) (L.set i (some (.inl (x + Int32.ofInt n)))) st G P) : am_Go w j d k pc L st G P := by
  intro p e R s m args below meth c ad0 ad H locs cells slots ls Q n0 C hR hS hl hL vL vS hc hs hn hx hE
  obtain ⟨q, hq⟩ := List.getElem?_of_mem (am_lv_mem.mpr ⟨_, hi, rfl⟩ : (i, am_v ad (.inl x)) ∈ am_lv ad L)
  exact lv_iinc C.exec C.byt h hl (k := q) hq rfl (List.getElem?_eq_some_iff.mp hi).1 rfl (fun ls' hl' => kk p e R s m args below meth c ad0 ad H locs cells slots ls' Q n0 C hR hS (am_Ls.st (v := .inl (x + Int32.ofInt n)) rfl hl') (by rw [List.length_set]; exact hL) (vL.set trivial) vS hc hs hn hx hE)
/-- null tests -/
theorem go_ifnull {off : Int} {tgt : Nat} {r : Option Nat} (h : decode (am_by j) pc = .ok (.ifnull off, 3)) (ht : (pc : Int) + off = (tgt : Int)) (kt : r = none → am_Go w j d k tgt L st G P) (kf : ¬ r = none → am_Go w j d k (pc + 3) L st G P) : am_Go w j d k pc L (.inr r :: st) G P := by
  cases r with
  | none => exact go_pure (fun _ _ _ _ _ _ _ _ _ _ _ _ _ _ _ _ _ hx hb q => lv_ifnullN hx hb h ht q) (fun _ v => v.tl) (kt rfl)
  | some a => exact go_pure (fun _ _ _ _ _ _ _ _ _ _ _ _ _ _ _ _ _ hx hb q => lv_ifnull hx hb h q) (fun _ v => v.tl) (kf (fun h => by cases h))
theorem go_ifnonnull {off : Int} {tgt : Nat} {r : Option Nat} (h : decode (am_by j) pc = .ok (.ifnonnull off, 3)) (ht : (pc : Int) + off = (tgt : Int)) (kt : ¬ r = none → am_Go w j d k tgt L st G P) (kf : r = none → am_Go w j d k (pc + 3) L st G P) : am_Go w j d k pc L (.inr r :: st) G P := by
  cases r with
  | none => exact go_pure (fun _ _ _ _ _ _ _ _ _ _ _ _ _ _ _ _ _ hx hb q => lv_ifnonnullN hx hb h q) (fun _ v => v.tl) (kf rfl)
  | some a => exact go_pure (fun _ _ _ _ _ _ _ _ _ _ _ _ _ _ _ _ _ hx hb q => lv_ifnonnull hx hb h ht q) (fun _ v => v.tl) (kt (fun h => by cases h))
/-- switches -/
theorem go_lookup {dflt : Int} {ps : Array (Int × Int)} {len : Nat} {x : Int32} {off : Int} {tgt : Nat} (h : decode (am_by j) pc = .ok (.lookupswitch dflt ps, len)) (hp : (ps.toList.zip (ps.toList.drop 1)).all (fun (a, next) => a.1 < next.1) = true) (ho : Op.lookupswitch.offset ps.toList dflt x.toInt = off) (ht : (pc : Int) + off = (tgt : Int)) (kk : am_Go w j d k tgt L st G P) : am_Go w j d k pc L (.inl x :: st) G P :=
  go_pure (fun _ _ _ _ _ _ _ _ _ _ _ _ _ _ _ _ _ hx hb q => lv_lookup hx hb h hp ho ht q) (fun _ v => v.tl) kk
theorem go_tableOut {dflt lo hi : Int} {offs : Array Int} {len : Nat} {x : Int32} {tgt : Nat} (h : decode (am_by j) pc = .ok (.tableswitch dflt lo hi offs, len)) (ho : x.toInt < lo ∨ hi < x.toInt) (ht : (pc : Int) + dflt = (tgt : Int)) (kk : am_Go w j d k tgt L st G P) : am_Go w j d k pc L (.inl x :: st) G P :=
  go_pure (fun _ _ _ _ _ _ _ _ _ _ _ _ _ _ _ _ _ hx hb q => lv_tableOut hx hb h ho ht q) (fun _ v => v.tl) kk
theorem go_tableIn {dflt lo hi : Int} {offs : Array Int} {len : Nat} {x : Int32} {off : Int} {tgt : Nat} (h : decode (am_by j) pc = .ok (.tableswitch dflt lo hi offs, len)) (h1 : ¬ x.toInt < lo) (h2 : ¬ hi < x.toInt) (ho : offs[(x.toInt - lo).toNat]? = some off) (ht : (pc : Int) + off = (tgt : Int)) (kk : am_Go w j d k tgt L st G P) : am_Go w j d k pc L (.inl x :: st) G P :=
  go_pure (fun _ _ _ _ _ _ _ _ _ _ _ _ _ _ _ _ _ hx hb q => lv_tableIn hx hb h h1 h2 ho ht q) (fun _ v => v.tl) kk
/-- returns -/
theorem go_ret {r : Option am_V} (hr : am_retAt j pc r) (hp : P r G) : am_Go w j d k pc L r.toList G P := by
  intro p e R s m args below meth c ad0 ad H locs cells slots ls Q n0 C hR hS hl hL vL vS hc hs hn hx hE
  exact W.widen (by omega) (by omega) (hE r G ad H locs pc ls hp hR hS hn hx (fun v hv => vS v (by rw [hv]; exact List.mem_cons_self)) hr)
theorem go_ireturn {x : Int32} (hr : am_ret j = some .int) (h : decode (am_by j) pc = .ok (.ireturn, 1)) (hp : P (some (.inl x)) G) : am_Go w j d k pc L [.inl x] G P := go_ret (r := some (.inl x)) (Or.inl ⟨h, x, .int, rfl, hr, rfl⟩) hp
theorem go_zreturn {x : Int32} (hr : am_ret j = some .boolean) (hz : x = 0 ∨ x = 1) (h : decode (am_by j) pc = .ok (.ireturn, 1)) (hp : P (some (.inl x)) G) : am_Go w j d k pc L [.inl x] G P := go_ret (r := some (.inl x)) (Or.inl ⟨h, x, .boolean, rfl, hr, by rcases hz with rfl | rfl <;> decide⟩) hp
theorem go_areturn {x : Option Nat} {ty : FieldType} (hr : am_ret j = some ty) (ht : refKind ty = true) (h : decode (am_by j) pc = .ok (.areturn, 1)) (hp : P (some (.inr x)) G) : am_Go w j d k pc L [.inr x] G P := go_ret (r := some (.inr x)) (Or.inr (Or.inl ⟨h, x, ty, rfl, hr, ht⟩)) hp
theorem go_return (hr : am_ret j = none) (h : decode (am_by j) pc = .ok (.return_, 1)) (hp : P none G) : am_Go w j d k pc L [] G P := go_ret (r := none) (Or.inr (Or.inr ⟨h, rfl, hr⟩)) hp
/-- the consequence -/
theorem go_post {P' : Option am_V → am_G → Prop} (kk : am_Go w j d k pc L st G P') (h : ∀ r G', P' r G' → P r G') : am_Go w j d k pc L st G P := by
  intro p e R s m args below meth c ad0 ad H locs cells slots ls Q n0 C hR hS hl hL vL vS hc hs hn hx hE
  exact kk p e R s m args below meth c ad0 ad H locs cells slots ls Q n0 C hR hS hl hL vL vS hc hs hn hx (fun r G' ad' H' locs' pc' ls' hp => hE r G' ad' H' locs' pc' ls' (h r G' hp))
/-- less is known of the locals -/
theorem go_locals {L' : List (Option am_V)} (hlen : L'.length = L.length) (h : ∀ (i : Nat) (v : am_V), L'[i]? = some (some v) → L[i]? = some (some v)) (kk : am_Go w j d k pc L' st G P) : am_Go w j d k pc L st G P := by
  intro p e R s m args below meth c ad0 ad H locs cells slots ls Q n0 C hR hS hl hL vL vS hc hs hn hx hE
  exact kk p e R s m args below meth c ad0 ad H locs cells slots ls Q n0 C hR hS ⟨by rw [hlen]; exact hl.1, hl.2.1, fun q hq => by
    obtain ⟨v, h1, h2⟩ := am_lv_mem.mp hq
    exact hl.2.2 q (am_lv_mem.mpr ⟨v, h _ _ h1, h2⟩)⟩ (by rw [hlen]; exact hL) (fun i v hi => vL i v (h i v hi)) vS hc hs hn hx hE
theorem am_okR {i q : Nat} (h : am_vG G) : am_ok1 (am_n G) (.inr (G.2.2 i q)) := by
  cases e : G.2.2 i q with
  | none => trivial
  | some r => exact h i q r e
theorem go_getI {i ci q idx : Nat} (h : decode (am_by j) pc = .ok (.getfield idx, 3)) (hf : am_Fl (am_own j) idx ci q) (ht : refKind (am_ft ci q) = false) (hs : G.1[i]? = some (0, ci)) (kk : am_Go w j d k (pc + 3) L (.inl (G.2.1 i q) :: st) G P) : am_Go w j d k pc L (.inr (some i) :: st) G P := by
  intro p e R s m args below meth c ad0 ad H locs cells slots ls Q n0 C hR hS hl hL vL vS hc hs' hn hx hE
  obtain ⟨C0, T, N, hcl, hk, hin, hw, -, -⟩ := hf
  have hN : am_N ci = N := by unfold am_N; rw [hcl]; rfl
  have he := am_ws_at (w := w) (ad := ad) (am_lt hs)
  rw [am_e_obj hs, hN] at he
  have hv : ((List.range N).map (am_fv ad G i ci))[q]? = some (.int (G.2.1 i q)) := by
    rw [am_fs hk]; unfold am_fv; rw [ht]; rfl
  have kk' := kk p e R s m args below meth c ad0 ad H locs cells slots ls Q n0 C hR hS hl hL vL (vS.tl.i) hc hs' hn hx hE
  exact va_get (D := w.2.1) (tys := am_tys w) C.exec C.byt C.ts hin C.own hR.2.2.1 hR.1 i he hcl q hk (C.ts _ hw) (fun _ h9 => h9) hv h kk'
theorem go_getR {i ci q idx : Nat} (h : decode (am_by j) pc = .ok (.getfield idx, 3)) (hf : am_Fl (am_own j) idx ci q) (ht : refKind (am_ft ci q) = true) (hs : G.1[i]? = some (0, ci)) (kk : am_Go w j d k (pc + 3) L (.inr (G.2.2 i q) :: st) G P) : am_Go w j d k pc L (.inr (some i) :: st) G P := by
  intro p e R s m args below meth c ad0 ad H locs cells slots ls Q n0 C hR hS hl hL vL vS hc hs' hn hx hE
  obtain ⟨C0, T, N, hcl, hk, hin, hw, -, -⟩ := hf
  have hN : am_N ci = N := by unfold am_N; rw [hcl]; rfl
  have he := am_ws_at (w := w) (ad := ad) (am_lt hs)
  rw [am_e_obj hs, hN] at he
  have hv : ((List.range N).map (am_fv ad G i ci))[q]? = some (am_v ad (.inr (G.2.2 i q))) := by
    rw [am_fs hk]; unfold am_fv; rw [if_pos ht]; rfl
  have kk' := kk p e R s m args below meth c ad0 ad H locs cells slots ls Q n0 C hR hS hl hL vL (vS.tl.cons (am_okR hR.2.2.2)) hc hs' hn hx hE
  exact va_get (D := w.2.1) (tys := am_tys w) C.exec C.byt C.ts hin C.own hR.2.2.1 hR.1 i he hcl q hk (C.ts _ hw) (fun _ h9 => h9) hv h kk'
/-- a field that is written, by its pool entry; a final one (in its own constructor) -/
def am_Fp (own : String) (idx ci q : Nat) : Prop := am_Fl own idx ci q ∧ ∃ (C : String) (T : u_T) (N : Nat), am_cl[ci]? = some (C, T, N) ∧ (T q).2.2.2 = false
def am_Ff (own : String) (idx ci q : Nat) : Prop := am_Fl own idx ci q ∧ ∃ (C : String) (T : u_T) (N : Nat), am_cl[ci]? = some (C, T, N) ∧ (T q).2.2.2 = true ∧ (T q).1 = own
theorem go_put {i ci q idx : Nat} {v : am_V} {G' : am_G} (h : decode (am_by j) pc = .ok (.putfield idx, 3)) (hf : am_Fp (am_own j) idx ci q ∨ (am_Ff (am_own j) idx ci q ∧ (am_y j).name = "<init>")) (hs : G.1[i]? = some (0, ci)) (hfit : ∀ ad, narrow (am_ft ci q) (am_v ad v) = am_v ad v ∧ fits (am_ft ci q) (am_v ad v) = true)
    (h1 : G'.1 = G.1) (h2 : ∀ ad, am_fv ad G' i ci q = am_v ad v) (h3 : ∀ ad a, a ≠ q → am_fv ad G' i ci a = am_fv ad G i ci a) (h4 : ∀ a, a ≠ i → G'.2.1 a = G.2.1 a ∧ G'.2.2 a = G.2.2 a) (h5 : am_ok1 (am_n G) v → am_vG G → am_vG G')
    (kk : am_Go w j d k (pc + 3) L st G' P) : am_Go w j d k pc L (v :: .inr (some i) :: st) G P := by
  intro p e R s m args below meth c ad0 ad H locs cells slots ls Q n0 C hR hS hl hL vL vS hc hs' hn hx hE
  have hf0 : am_Fl (am_own j) idx ci q := hf.elim (fun h => h.1) (fun h => h.1.1)
  obtain ⟨C0, T, N, hcl, hk, hin, hw, hty, hnm⟩ := hf0
  have hN : am_N ci = N := by unfold am_N; rw [hcl]; rfl
  have he := am_ws_at (w := w) (ad := ad) (am_lt hs)
  rw [am_e_obj hs, hN] at he
  have hn' : am_n G' = am_n G := by unfold am_n; rw [h1]
  have hset : (am_ws w ad G).set i (ad i, .inr (ci, ((List.range N).map (am_fv ad G i ci)).set q (am_v ad v))) = am_ws w ad G' := by
    rw [am_fs_set hk (h2 ad) (h3 ad), am_ws_set h1 (am_lt hs) (fun a ha => am_e_row (by rw [h1]) (h4 a ha).1 (h4 a ha).2), am_e_obj (G := G') (by rw [h1]; exact hs), hN]
  have kk' : ∀ (H1 : Heap) (locs1 : List Loc), va_P w.2.1 am_cl ((am_ws w ad G).set i (ad i, .inr (ci, ((List.range N).map (am_fv ad G i ci)).set q (am_v ad v)))) H1 → va_D (am_A w) ((am_ws w ad G).set i (ad i, .inr (ci, ((List.range N).map (am_fv ad G i ci)).set q (am_v ad v)))) → va_S (am_A w) s.heap H1 locs1 →
      W p w.1 e R s m args below meth c H1 locs1 cells slots Q (F0 m (pc + 3) ls (st.map (am_v ad))) := by
    intro H1 locs1 hP1 hD1 hS1
    rw [hset] at hP1 hD1
    exact kk p e R s m args below meth c ad0 ad H1 locs1 cells slots ls Q n0 C ⟨hP1, hD1, hR.2.2.1, h5 vS.hd hR.2.2.2⟩ hS1 hl hL (by rw [hn']; exact vL) (by rw [hn']; exact vS.tl.tl) hc hs' (by rw [hn']; exact hn) hx hE
  rcases hf with ⟨-, C1, T1, N1, hcl1, hfin⟩ | ⟨⟨-, C1, T1, N1, hcl1, hfin, hd⟩, hy⟩
  · cases hcl.symm.trans hcl1
    exact va_put (D := w.2.1) (tys := am_tys w) C.exec C.byt C.ts hin (am_ft ci) hty hnm C.own hR.2.2.1 hR.1 hR.2.1 hS i he hcl q hk (C.ts _ hw) (fun _ h9 => h9) hfin (hty q hk) (hfit ad).1 (hfit ad).2 (by simp; exact hk) h kk'
  · cases hcl.symm.trans hcl1
    exact va_putF (D := w.2.1) (tys := am_tys w) C.exec C.byt C.ts hin (am_ft ci) hty hnm C.own hR.2.2.1 hR.1 hR.2.1 hS i he hcl q hk (C.ts _ hw) (fun _ h9 => h9) hfin (C.ini hy) hd (hty q hk) (hfit ad).1 (hfit ad).2 (by simp; exact hk) h kk'
theorem am_fv_wi {ad : Nat → Nat} {i ci q : Nat} {x : Int32} (ht : refKind (am_ft ci q) = false) : am_fv ad (am_wi G i q x) i ci q = .int x := by
  unfold am_fv am_wi; rw [if_neg (by rw [ht]; decide)]
  show Value.int (va_up G.2.1 i (upd (G.2.1 i) q x) i q) = _
  rw [am_up_eq, pk_us]
theorem am_fv_wi' {ad : Nat → Nat} {i ci q a : Nat} {x : Int32} (h : a ≠ q) : am_fv ad (am_wi G i q x) i ci a = am_fv ad G i ci a := by
  unfold am_fv am_wi
  show (if _ then _ else Value.int (va_up G.2.1 i (upd (G.2.1 i) q x) i a)) = _
  rw [am_up_eq, pk_un h]
theorem am_fv_wr {ad : Nat → Nat} {i ci q : Nat} {r : Option Nat} (ht : refKind (am_ft ci q) = true) : am_fv ad (am_wr G i q r) i ci q = am_v ad (.inr r) := by
  unfold am_fv am_wr; rw [if_pos ht]
  show va_rf ((va_up G.2.2 i (va_up (G.2.2 i) q r) i q).map ad) = _
  rw [am_up_eq, am_up_eq]; rfl
theorem am_fv_wr' {ad : Nat → Nat} {i ci q a : Nat} {r : Option Nat} (h : a ≠ q) : am_fv ad (am_wr G i q r) i ci a = am_fv ad G i ci a := by
  unfold am_fv am_wr
  show (if _ then va_rf ((va_up G.2.2 i (va_up (G.2.2 i) q r) i a).map ad) else _) = _
  rw [am_up_eq, am_up_ne h]
theorem am_vG_wr {i q : Nat} {r : Option Nat} (h : am_vG G) (hr : am_ok1 (am_n G) (.inr r)) : am_vG (am_wr G i q r) := by
  intro a b x hx
  have hx : va_up G.2.2 i (va_up (G.2.2 i) q r) a b = some x := hx
  by_cases h1 : a = i
  · subst h1
    rw [am_up_eq] at hx
    by_cases h2 : b = q
    · subst h2; rw [am_up_eq] at hx; subst hx; exact hr
    · rw [am_up_ne h2] at hx; exact h _ _ _ hx
  · rw [am_up_ne h1] at hx; exact h _ _ _ hx
theorem am_z0 : narrow .boolean (.int 0) = .int 0 := by decide
theorem am_z1 : narrow .boolean (.int 1) = .int 1 := by decide
theorem am_z2 : fits .boolean (.int 0) = true := by decide
theorem am_z3 : fits .boolean (.int 1) = true := by decide
theorem go_putI {i ci q idx : Nat} {x : Int32} (h : decode (am_by j) pc = .ok (.putfield idx, 3)) (hf : am_Fp (am_own j) idx ci q) (ht : am_ft ci q = .int) (hs : G.1[i]? = some (0, ci)) (kk : am_Go w j d k (pc + 3) L st (am_wi G i q x) P) : am_Go w j d k pc L (.inl x :: .inr (some i) :: st) G P :=
  go_put (G' := am_wi G i q x) h (Or.inl hf) hs (fun ad => by rw [ht]; exact ⟨rfl, rfl⟩) rfl (fun ad => am_fv_wi (by rw [ht]; rfl)) (fun ad a ha => am_fv_wi' ha) (fun a ha => ⟨am_up_ne ha, rfl⟩) (fun _ h => h) kk
theorem go_putZ {i ci q idx : Nat} {x : Int32} (hz : x = 0 ∨ x = 1) (h : decode (am_by j) pc = .ok (.putfield idx, 3)) (hf : am_Fp (am_own j) idx ci q) (ht : am_ft ci q = .boolean) (hs : G.1[i]? = some (0, ci)) (kk : am_Go w j d k (pc + 3) L st (am_wi G i q x) P) : am_Go w j d k pc L (.inl x :: .inr (some i) :: st) G P :=
  go_put (G' := am_wi G i q x) h (Or.inl hf) hs (fun ad => by rw [ht]; rcases hz with rfl | rfl; exact ⟨am_z0, am_z2⟩; exact ⟨am_z1, am_z3⟩) rfl (fun ad => am_fv_wi (by rw [ht]; rfl)) (fun ad a ha => am_fv_wi' ha) (fun a ha => ⟨am_up_ne ha, rfl⟩) (fun _ h => h) kk
theorem go_putR {i ci q idx : Nat} {r : Option Nat} (h : decode (am_by j) pc = .ok (.putfield idx, 3)) (hf : am_Fp (am_own j) idx ci q) (ht : refKind (am_ft ci q) = true) (hs : G.1[i]? = some (0, ci)) (kk : am_Go w j d k (pc + 3) L st (am_wr G i q r) P) : am_Go w j d k pc L (.inr r :: .inr (some i) :: st) G P :=
  go_put (G' := am_wr G i q r) h (Or.inl hf) hs (fun ad => by
    have g : ∀ ty : FieldType, refKind ty = true → narrow ty (am_v ad (.inr r)) = am_v ad (.inr r) ∧ fits ty (am_v ad (.inr r)) = true := by
      intro ty hty
      cases ty <;> first | (cases hty; done) | (cases r <;> exact ⟨rfl, rfl⟩)
    exact g _ ht) rfl (fun ad => am_fv_wr ht) (fun ad a ha => am_fv_wr' ha) (fun a ha => ⟨rfl, am_up_ne ha⟩) (fun hr h => am_vG_wr h hr) kk
theorem go_putF {i ci q idx : Nat} {r : Option Nat} (h : decode (am_by j) pc = .ok (.putfield idx, 3)) (hy : (am_y j).name = "<init>") (hf : am_Ff (am_own j) idx ci q) (ht : refKind (am_ft ci q) = true) (hs : G.1[i]? = some (0, ci)) (kk : am_Go w j d k (pc + 3) L st (am_wr G i q r) P) : am_Go w j d k pc L (.inr r :: .inr (some i) :: st) G P :=
  go_put (G' := am_wr G i q r) h (Or.inr ⟨hf, hy⟩) hs (fun ad => by
    have g : ∀ ty : FieldType, refKind ty = true → narrow ty (am_v ad (.inr r)) = am_v ad (.inr r) ∧ fits ty (am_v ad (.inr r)) = true := by
      intro ty hty
      cases ty <;> first | (cases hty; done) | (cases r <;> exact ⟨rfl, rfl⟩)
    exact g _ ht) rfl (fun ad => am_fv_wr ht) (fun ad a ha => am_fv_wr' ha) (fun a ha => ⟨rfl, am_up_ne ha⟩) (fun hr h => am_vG_wr h hr) kk
/-- arrays -/
theorem go_iaload {i n : Nat} {x : Int32} (hs : G.1[i]? = some (1, n)) (hin : vp_in x n) (h : decode (am_by j) pc = .ok (.iaload, 1)) (kk : am_Go w j d k (pc + 1) L (.inl (G.2.1 i x.toNatClampNeg) :: st) G P) : am_Go w j d k pc L (.inl x :: .inr (some i) :: st) G P := by
  intro p e R s m args below meth c ad0 ad H locs cells slots ls Q n0 C hR hS hl hL vL vS hc hs' hn hx hE
  have he := am_ws_at (w := w) (ad := ad) (am_lt hs)
  rw [am_e_int hs] at he
  exact va_iald (D := w.2.1) (tys := am_tys w) C.exec C.byt hR.2.2.1 hR.1 i 0 he rfl hin h (kk p e R s m args below meth c ad0 ad H locs cells slots ls Q n0 C hR hS hl hL vL (vS.tl.tl.i) hc hs' hn hx hE)
theorem go_baload {i n : Nat} {x : Int32} (hs : G.1[i]? = some (2, n)) (hin : vp_in x n) (h : decode (am_by j) pc = .ok (.baload, 1)) (kk : am_Go w j d k (pc + 1) L (.inl (G.2.1 i x.toNatClampNeg) :: st) G P) : am_Go w j d k pc L (.inl x :: .inr (some i) :: st) G P := by
  intro p e R s m args below meth c ad0 ad H locs cells slots ls Q n0 C hR hS hl hL vL vS hc hs' hn hx hE
  have he := am_ws_at (w := w) (ad := ad) (am_lt hs)
  rw [am_e_bool hs] at he
  exact va_zald (D := w.2.1) (tys := am_tys w) C.exec C.byt hR.2.2.1 hR.1 i 1 he rfl hin h (kk p e R s m args below meth c ad0 ad H locs cells slots ls Q n0 C hR hS hl hL vL (vS.tl.tl.i) hc hs' hn hx hE)
theorem go_aaload {i n t : Nat} {x : Int32} (htt : t < am_nrc) (hs : G.1[i]? = some (t + 3, n)) (hin : vp_in x n) (h : decode (am_by j) pc = .ok (.aaload, 1)) (kk : am_Go w j d k (pc + 1) L (.inr (G.2.2 i x.toNatClampNeg) :: st) G P) : am_Go w j d k pc L (.inl x :: .inr (some i) :: st) G P := by
  intro p e R s m args below meth c ad0 ad H locs cells slots ls Q n0 C hR hS hl hL vL vS hc hs' hn hx hE
  have he := am_ws_at (w := w) (ad := ad) (am_lt hs)
  rw [am_e_ref hs] at he
  exact va_aldq (D := w.2.1) (tys := am_tys w) C.exec C.byt hR.2.2.1 hR.1 i (2 + t) he (am_tys_r htt) hin h (kk p e R s m args below meth c ad0 ad H locs cells slots ls Q n0 C hR hS hl hL vL (vS.tl.tl.cons (am_okR hR.2.2.2)) hc hs' hn hx hE)
/-- a row of memory replaced: the world behind -/
theorem am_row_ws {ad : Nat → Nat} {i : Nat} {f : Nat → Int32} {n : Nat} {e : va_E} (hi : i < am_n G) (hb : am_e w ad (am_ro G i f) i = e) : (am_ws w ad G).set i (ad i, e) = am_ws w ad (am_ro G i f) := by
  rw [← hb, am_ws_set (G := G) (G' := am_ro G i f) rfl hi (fun a ha => am_e_row rfl (am_up_ne ha) rfl)]
theorem go_iastore {i n : Nat} {x v : Int32} (hs : G.1[i]? = some (1, n)) (hin : vp_in x n) (h : decode (am_by j) pc = .ok (.iastore, 1)) (kk : am_Go w j d k (pc + 1) L st (am_wi G i x.toNatClampNeg v) P) : am_Go w j d k pc L (.inl v :: .inl x :: .inr (some i) :: st) G P := by
  intro p e R s m args below meth c ad0 ad H locs cells slots ls Q n0 C hR hS hl hL vL vS hc hs' hn hx hE
  have he := am_ws_at (w := w) (ad := ad) (am_lt hs)
  rw [am_e_int hs] at he
  refine va_iast (D := w.2.1) (tys := am_tys w) C.exec C.byt hR.2.2.1 hR.1 hR.2.1 hS i 0 he rfl hin h (fun H1 locs1 hP1 hD1 hS1 => ?_)
  have hset : (am_ws w ad G).set i (ad i, .inl (w.2.2.1 0, n, .inl (upd (G.2.1 i) x.toNatClampNeg v))) = am_ws w ad (am_wi G i x.toNatClampNeg v) :=
    am_row_ws (f := upd (G.2.1 i) x.toNatClampNeg v) (n := n) (am_lt hs) (by rw [am_e_int (G := am_ro G i (upd (G.2.1 i) x.toNatClampNeg v)) (x := n) hs]; unfold am_ro; simp only [am_up_eq])
  rw [hset] at hP1 hD1
  exact kk p e R s m args below meth c ad0 ad H1 locs1 cells slots ls Q n0 C ⟨hP1, hD1, hR.2.2.1, hR.2.2.2⟩ hS1 hl hL vL vS.tl.tl.tl hc hs' hn hx hE
theorem go_bastore {i n : Nat} {x v : Int32} (hs : G.1[i]? = some (2, n)) (hin : vp_in x n) (h : decode (am_by j) pc = .ok (.bastore, 1)) (kk : am_Go w j d k (pc + 1) L st (am_wi G i x.toNatClampNeg (v &&& 1)) P) : am_Go w j d k pc L (.inl v :: .inl x :: .inr (some i) :: st) G P := by
  intro p e R s m args below meth c ad0 ad H locs cells slots ls Q n0 C hR hS hl hL vL vS hc hs' hn hx hE
  have he := am_ws_at (w := w) (ad := ad) (am_lt hs)
  rw [am_e_bool hs] at he
  refine va_zast (D := w.2.1) (tys := am_tys w) C.exec C.byt hR.2.2.1 hR.1 hR.2.1 hS i 1 he rfl hin h (fun H1 locs1 hP1 hD1 hS1 => ?_)
  have hset : (am_ws w ad G).set i (ad i, .inl (w.2.2.1 1, n, .inl (upd (G.2.1 i) x.toNatClampNeg (vp_nar .boolean v)))) = am_ws w ad (am_wi G i x.toNatClampNeg (v &&& 1)) :=
    am_row_ws (f := upd (G.2.1 i) x.toNatClampNeg (v &&& 1)) (n := n) (am_lt hs) (by rw [am_e_bool (G := am_ro G i (upd (G.2.1 i) x.toNatClampNeg (v &&& 1))) (x := n) hs]; unfold am_ro; simp only [am_up_eq]; rfl)
  rw [hset] at hP1 hD1
  exact kk p e R s m args below meth c ad0 ad H1 locs1 cells slots ls Q n0 C ⟨hP1, hD1, hR.2.2.1, hR.2.2.2⟩ hS1 hl hL vL vS.tl.tl.tl hc hs' hn hx hE
theorem go_alen {i n t : Nat} (hs : G.1[i]? = some (t + 1, n)) (htt : t < am_nrc + 2) (h : decode (am_by j) pc = .ok (.arraylength, 1)) (kk : am_Go w j d k (pc + 1) L (.inl (nI n) :: st) G P) : am_Go w j d k pc L (.inr (some i) :: st) G P := by
  intro p e R s m args below meth c ad0 ad H locs cells slots ls Q n0 C hR hS hl hL vL vS hc hs' hn hx hE
  have he := am_ws_at (w := w) (ad := ad) (am_lt hs)
  have kk' := kk p e R s m args below meth c ad0 ad H locs cells slots ls Q n0 C hR hS hl hL vL (vS.tl.i) hc hs' hn hx hE
  match t, hs, htt with
  | 0, hs, _ => rw [am_e_int hs] at he; exact va_alen (D := w.2.1) (tys := am_tys w) C.exec C.byt hR.2.2.1 hR.1 i 0 he rfl rfl h kk'
  | 1, hs, _ => rw [am_e_bool hs] at he; exact va_alen (D := w.2.1) (tys := am_tys w) C.exec C.byt hR.2.2.1 hR.1 i 1 he rfl rfl h kk'
  | t + 2, hs, htt => rw [am_e_ref hs] at he; exact va_alen (D := w.2.1) (tys := am_tys w) C.exec C.byt hR.2.2.1 hR.1 i (2 + t) he (am_tys_r (by omega)) rfl h kk'
theorem go_aastore {i n t ci q : Nat} {x : Int32} (htt : t < am_nrc) (hs : G.1[i]? = some (t + 3, n)) (hin : vp_in x n) (hq : G.1[q]? = some (0, ci)) (hc0 : (am_cl[ci]?).map (fun r => r.1) = some (am_rc t)) (h : decode (am_by j) pc = .ok (.aastore, 1)) (kk : am_Go w j d k (pc + 1) L st (am_wr G i x.toNatClampNeg (some q)) P) : am_Go w j d k pc L (.inr (some q) :: .inl x :: .inr (some i) :: st) G P := by
  intro p e R s m args below meth c ad0 ad H locs cells slots ls Q n0 C hR hS hl hL vL vS hc hs' hn hx hE
  have he := am_ws_at (w := w) (ad := ad) (am_lt hs)
  rw [am_e_ref hs] at he
  have hv := am_ws_at (w := w) (ad := ad) (am_lt hq)
  rw [am_e_obj hq] at hv
  obtain ⟨r, hr, hr2⟩ := Option.map_eq_some_iff.mp hc0
  refine va_astq (D := w.2.1) (tys := am_tys w) C.exec C.byt hR.2.2.1 hR.1 hR.2.1 hS i (2 + t) q ci he (by rw [hr2]; exact am_tys_r htt) hv hr hin h (fun H1 locs1 hP1 hD1 hS1 => ?_)
  have hset : (am_ws w ad G).set i (ad i, .inl (w.2.2.1 (2 + t), n, .inr (.inr (.inr (.inr (va_up (fun j => (G.2.2 i j).map ad) x.toNatClampNeg (some (ad q)))))))) = am_ws w ad (am_wr G i x.toNatClampNeg (some q)) := by
    rw [am_ws_set (G := G) (G' := am_wr G i x.toNatClampNeg (some q)) rfl (am_lt hs) (fun a ha => am_e_row rfl rfl (am_up_ne ha)), am_e_ref (G := am_wr G i x.toNatClampNeg (some q)) hs]
    have : (fun j => ((am_wr G i x.toNatClampNeg (some q)).2.2 i j).map ad) = va_up (fun j => (G.2.2 i j).map ad) x.toNatClampNeg (some (ad q)) := by
      funext a
      show (va_up G.2.2 i (va_up (G.2.2 i) x.toNatClampNeg (some q)) i a).map ad = _
      rw [am_up_eq]
      by_cases e1 : a = x.toNatClampNeg
      · rw [e1, am_up_eq, am_up_eq]; rfl
      · rw [am_up_ne e1, am_up_ne e1]
    rw [this]
  rw [hset] at hP1 hD1
  exact kk p e R s m args below meth c ad0 ad H1 locs1 cells slots ls Q n0 C ⟨hP1, hD1, hR.2.2.1, am_vG_wr hR.2.2.2 vS.hd⟩ hS1 hl hL vL vS.tl.tl.tl hc hs' hn hx hE
/-- a new cell: the world behind -/
theorem am_new_ws {ad : Nat → Nat} {sh : Nat × Nat} {q : Nat} {e : va_E} (h6 : am_n G < 1000000) (hv : am_vG G) (he : am_e w (va_up ad (am_n G) q) (am_nw G sh) (am_n G) = e) :
    am_ws w ad G ++ [(q, e)] = am_ws w (va_up ad (am_n G) q) (am_nw G sh) := by
  have hn : am_n (am_nw G sh) = am_n G + 1 := by simp [am_n, am_nw]
  have hmap : ∀ r : Option Nat, (∀ x, r = some x → x < am_n G ∨ 1000000 ≤ x) → r.map (va_up ad (am_n G) q) = r.map ad := by
    intro r hr
    cases r with
    | none => rfl
    | some x =>
      have h1 := hr x rfl
      show some (va_up ad (am_n G) q x) = some (ad x)
      rw [am_up_ne (by omega)]
  apply List.ext_getElem?
  intro i
  by_cases hi : i < am_n G
  · rw [List.getElem?_append_left (by rw [am_ws_len]; exact hi), am_ws_at hi, am_ws_at (by rw [hn]; omega)]
    have h1 : va_up ad (am_n G) q i = ad i := am_up_ne (by omega)
    have h2 : am_e w (va_up ad (am_n G) q) (am_nw G sh) i = am_e w ad G i := by
      have g1 : (am_nw G sh).1[i]? = G.1[i]? := List.getElem?_append_left hi
      have g2 : (am_nw G sh).2.1 i = G.2.1 i := am_up_ne (show i ≠ G.1.length from Nat.ne_of_lt hi)
      have g3 : (am_nw G sh).2.2 i = G.2.2 i := am_up_ne (show i ≠ G.1.length from Nat.ne_of_lt hi)
      have g4 : ∀ k : Nat, (G.2.2 i k).map (va_up ad (am_n G) q) = (G.2.2 i k).map ad := fun k => hmap _ (fun x hx => hv i k x hx)
      unfold am_e am_fv
      rw [g1, g2, g3]
      simp only [g4]
    rw [h1, h2]
  · by_cases hi2 : i = am_n G
    · subst hi2
      rw [List.getElem?_append_right (by rw [am_ws_len]; exact Nat.le_refl _), am_ws_len, Nat.sub_self, am_ws_at (by rw [hn]; omega), he, am_up_eq]
      rfl
    · rw [List.getElem?_eq_none (by rw [List.length_append, am_ws_len]; simp; omega), List.getElem?_eq_none (by rw [am_ws_len, hn]; omega)]
theorem am_new_ext {n0 : Nat} {ad0 ad : Nat → Nat} {n q : Nat} (h6 : n < 1000000) (hn : n0 ≤ n) (hx : am_ext n0 ad0 ad) : am_ext n0 ad0 (va_up ad n q) := fun i hi => by
  rw [am_up_ne (by omega)]; exact hx i hi
theorem am_new_vG {sh : Nat × Nat} (hv : am_vG G) : am_vG (am_nw G sh) := by
  intro i q r h
  have hn : am_n (am_nw G sh) = am_n G + 1 := by simp [am_n, am_nw]
  have h : va_up G.2.2 G.1.length (fun _ => none) i q = some r := h
  by_cases hi : i = G.1.length
  · subst hi; rw [am_up_eq] at h; cases h
  · rw [am_up_ne hi] at h
    have := hv i q r h
    omega
/-- behind a cell's making -/
theorem am_new_go {sh : Nat × Nat} {len N : Nat} (h6 : am_n G < 1000000) (kk : am_Go w j d (k.1 - 1, k.2 - N) (pc + len) L (.inr (some (am_n G)) :: st) (am_nw G sh) P)
    {p : Program} {e : Env} {R : Room} {s : State} {m : MethodId} {args : Array Value} {below : List Frame} {meth : Method} {c : Code} {ad0 ad : Nat → Nat} {H1 : Heap} {locs : List Loc} {cells slots : Nat} {ls : Array Slot} {Q : State → Prop} {n0 : Nat} {q : Nat} {ev : va_E}
    (C : am_Cx w j d ad0 p R s m args meth c) (hK : va_K w.2.1 am_cl (am_tys w) s) (hv : am_vG G) (he : am_e w (va_up ad (am_n G) q) (am_nw G sh) (am_n G) = ev)
    (hP1 : va_P w.2.1 am_cl (am_ws w ad G ++ [(q, ev)]) H1) (hD1 : va_D (am_A w) (am_ws w ad G ++ [(q, ev)])) (hS1 : va_S (am_A w) s.heap H1 locs) (hl : am_Ls ad L ls) (hL : L.length = am_mx j) (vL : am_vL (am_n G) L) (vS : am_vS (am_n G) st)
    (hk1 : 1 ≤ k.1) (hk2 : N ≤ k.2) (hc : cells + k.1 ≤ R.cells) (hs : slots + k.2 ≤ R.slots) (hn : n0 ≤ am_n G) (hx : am_ext n0 ad0 ad)
    (hE : ∀ (r : Option am_V) (G' : am_G) (ad' : Nat → Nat) (H' : Heap) (locs' : List Loc) (pc' : Nat) (ls' : Array Slot), P r G' → am_Rel w ad' G' s H' → va_S (am_A w) s.heap H' locs' → n0 ≤ am_n G' → am_ext n0 ad0 ad' → (∀ v, r = some v → am_ok1 (am_n G') v) → am_retAt j pc' r →
      W p w.1 e R s m args below meth c H' locs' R.cells R.slots Q (F0 m pc' ls' (r.toList.map (am_v ad')))) :
    W p w.1 e R s m args below meth c H1 locs (cells + 1) (slots + N) Q (F0 m (pc + len) ls (.ref q :: st.map (am_v ad))) := by
  have hn1 : am_n (am_nw G sh) = am_n G + 1 := by simp [am_n, am_nw]
  have hx1 : am_ext (am_n G) ad (va_up ad (am_n G) q) := am_new_ext h6 (Nat.le_refl _) am_ext.rf
  rw [am_new_ws h6 hv he] at hP1 hD1
  have g := kk p e R s m args below meth c ad0 (va_up ad (am_n G) q) H1 locs (cells + 1) (slots + N) ls Q n0 C ⟨hP1, hD1, hK, am_new_vG hv⟩ hS1 (hl.ext hx1 vL) hL (by rw [hn1]; exact vL.up (by omega)) (by rw [hn1]; exact (vS.up (by omega)).cons (show am_n G < am_n G + 1 ∨ _ by omega)) (by show cells + 1 + (k.1 - 1) ≤ R.cells; omega) (by show slots + N + (k.2 - N) ≤ R.slots; omega) (by rw [hn1]; omega) (am_new_ext h6 hn hx) hE
  have e1 : (Sum.inr (some (am_n G)) :: st).map (am_v (va_up ad (am_n G) q)) = .ref q :: st.map (am_v ad) := by
    rw [List.map_cons, hx1.st vS]
    show va_rf (some (va_up ad (am_n G) q (am_n G))) :: _ = _
    rw [am_up_eq]; rfl
  rw [e1] at g
  exact g
/-- a class that method j makes, by its pool entry -/
def am_Cn (own : String) (idx ci N : Nat) : Prop := ∃ (C : String) (T : u_T), am_cl[ci]? = some (C, T, N) ∧ (∀ w ∈ u_ws C T N, w ∈ am_T) ∧ (∀ q, q < N → parseFieldDescriptor (T q).2.2.1 = some (am_ft ci q)) ∧ (∀ q, q < N → defaultValue (am_ft ci q) = if refKind (am_ft ci q) = true then .null else .int 0) ∧ Cond.classLink own idx C ∈ am_T ∧ Cond.instantiable C N ∈ am_T ∧ Cond.initialized C ∈ am_T
theorem go_new {idx ci N : Nat} (h6 : am_n G < 1000000) (hk1 : 1 ≤ k.1) (hk2 : N ≤ k.2) (h : decode (am_by j) pc = .ok (.new idx, 3)) (hf : am_Cn (am_own j) idx ci N) (kk : am_Go w j d (k.1 - 1, k.2 - N) (pc + 3) L (.inr (some (am_n G)) :: st) (am_nw G (0, ci)) P) : am_Go w j d k pc L st G P := by
  intro p e R s m args below meth c ad0 ad H locs cells slots ls Q n0 C hR hS hl hL vL vS hc hs hn hx hE
  obtain ⟨Cn, T, hcl, hin, hty, hdef, w1, w2, w3⟩ := hf
  have hN : am_N ci = N := by unfold am_N; rw [hcl]; rfl
  have hts := C.ts
  have hB := C.bs
  refine va_new (D := w.2.1) (tys := am_tys w) (ci := ci) (fs := (List.range N).map fun q => if refKind (am_ft ci q) = true then .null else .int 0) (C := Cn) (T := T) (N := N) C.exec C.byt hts hin (am_ft ci) hty C.own (hts _ w1) (hts _ w2) (hts _ w3) hR.2.2.1 hR.1 hR.2.1 hS (fun q hq => Nat.le_trans hB hq) hcl (fun q hq => ?_) (by omega) (by omega) h (fun q H1 hP1 hD1 hS1 => ?_)
  · rw [hdef q hq]
    unfold vp_V
    rw [List.getD_eq_getElem?_getD, List.getElem?_map, List.getElem?_range hq]
    rfl
  · refine am_new_go h6 kk C hR.2.2.1 hR.2.2.2 ?_ hP1 hD1 hS1 hl hL vL vS hk1 hk2 hc hs hn hx hE
    have hsh : (am_nw G (0, ci)).1[am_n G]? = some (0, ci) := by simp [am_nw, am_n]
    rw [am_e_obj hsh, hN]
    have : am_fv (va_up ad (am_n G) q) (am_nw G (0, ci)) (am_n G) ci = fun q => if refKind (am_ft ci q) = true then .null else .int 0 := by
      funext a
      unfold am_fv am_nw am_n
      show (if _ then va_rf ((va_up G.2.2 G.1.length (fun _ => none) G.1.length a).map _) else Value.int (va_up G.2.1 G.1.length (fun _ => 0) G.1.length a)) = _
      rw [am_up_eq, am_up_eq]
      rfl
    rw [this]
theorem am_arr_eq {s : State} {cA : ClassId} {ty : FieldType} {q : Nat} (hK : va_K w.2.1 am_cl (am_tys w) s) (hK2 : va_K w.2.1 am_cl (am_tys w ++ [(cA, ty)]) s) {c1 : ClassId} (hq : (am_tys w)[q]? = some (c1, ty)) (hp : ty = .int ∨ ty = .boolean ∨ ∃ C, ty = .object C) : cA = c1 := by
  have h1 := (hK.2 q _ hq).2
  have h2 := (hK2.2 (am_tys w).length (cA, ty) (by rw [List.getElem?_append_right (Nat.le_refl _), Nat.sub_self]; rfl)).2
  rcases hp with rfl | rfl | ⟨C, rfl⟩
  · have g1 : s.vm.findClass ("[" ++ FieldType.int.toString) = some c1 := h1
    have g2 : s.vm.findClass ("[" ++ FieldType.int.toString) = some cA := h2
    exact Option.some.inj (g2.symm.trans g1)
  · have g1 : s.vm.findClass ("[" ++ FieldType.boolean.toString) = some c1 := h1
    have g2 : s.vm.findClass ("[" ++ FieldType.boolean.toString) = some cA := h2
    exact Option.some.inj (g2.symm.trans g1)
  · obtain ⟨_, _, _, _, _, g1⟩ := h1
    obtain ⟨_, _, _, _, _, g2⟩ := h2
    exact Option.some.inj (g2.symm.trans g1)
theorem go_newI {x : Int32} {n : Nat} (h6 : am_n G < 1000000) (hx0 : x = nI n) (hn0 : n < 100000) (hk1 : 1 ≤ k.1) (hk2 : n ≤ k.2) (hw : Cond.arrayClass .int ∈ am_T) (h : decode (am_by j) pc = .ok (.newarray .int, 2)) (kk : am_Go w j d (k.1 - 1, k.2 - n) (pc + 2) L (.inr (some (am_n G)) :: st) (am_nw G (1, n)) P) : am_Go w j d k pc L (.inl x :: st) G P := by
  intro p e R s m args below meth c ad0 ad H locs cells slots ls Q n0 C hR hS hl hL vL vS hc hs hn hx hE
  have hB := C.bs
  refine va_newa (D := w.2.1) (tys := am_tys w) (atype := .int) (ty := .int) (a0 := (n, .inl (fun _ => 0))) C.exec C.byt (C.ts _ hw) rfl hR.2.2.1 hR.1 hR.2.1 hS (fun q hq => Nat.le_trans hB hq) (N' := n) (fun cA => rfl) (by rw [hx0]; exact nI_pos (by omega)) (by rw [hx0]; exact nI_clamp (by omega)) (by show n * 4 ≤ _; omega) (by omega) (by omega) h (fun q cA H1 hK1 hP1 hD1 hS1 => ?_)
  have hcA := am_arr_eq (q := 0) hR.2.2.1 hK1 rfl (Or.inl rfl)
  subst hcA
  refine am_new_go h6 kk C hR.2.2.1 hR.2.2.2 ?_ hP1 hD1 hS1 hl hL vL vS.tl hk1 hk2 hc hs hn hx hE
  have hsh : (am_nw G (1, n)).1[am_n G]? = some (1, n) := by simp [am_nw, am_n]
  rw [am_e_int hsh]
  unfold am_nw am_n
  simp only [am_up_eq]
theorem go_newZ {x : Int32} {n : Nat} (h6 : am_n G < 1000000) (hx0 : x = nI n) (hn0 : n < 100000) (hk1 : 1 ≤ k.1) (hk2 : n ≤ k.2) (hw : Cond.arrayClass .boolean ∈ am_T) (h : decode (am_by j) pc = .ok (.newarray .boolean, 2)) (kk : am_Go w j d (k.1 - 1, k.2 - n) (pc + 2) L (.inr (some (am_n G)) :: st) (am_nw G (2, n)) P) : am_Go w j d k pc L (.inl x :: st) G P := by
  intro p e R s m args below meth c ad0 ad H locs cells slots ls Q n0 C hR hS hl hL vL vS hc hs hn hx hE
  have hB := C.bs
  refine va_newa (D := w.2.1) (tys := am_tys w) (atype := .boolean) (ty := .boolean) (a0 := (n, .inl (fun _ => 0))) C.exec C.byt (C.ts _ hw) rfl hR.2.2.1 hR.1 hR.2.1 hS (fun q hq => Nat.le_trans hB hq) (N' := n) (fun cA => rfl) (by rw [hx0]; exact nI_pos (by omega)) (by rw [hx0]; exact nI_clamp (by omega)) (by show n * 1 ≤ _; omega) (by omega) (by omega) h (fun q cA H1 hK1 hP1 hD1 hS1 => ?_)
  have hcA := am_arr_eq (q := 1) hR.2.2.1 hK1 rfl (Or.inr (Or.inl rfl))
  subst hcA
  refine am_new_go h6 kk C hR.2.2.1 hR.2.2.2 ?_ hP1 hD1 hS1 hl hL vL vS.tl hk1 hk2 hc hs hn hx hE
  have hsh : (am_nw G (2, n)).1[am_n G]? = some (2, n) := by simp [am_nw, am_n]
  rw [am_e_bool hsh]
  unfold am_nw am_n
  simp only [am_up_eq]
theorem go_newR {x : Int32} {n t idx : Nat} (htt : t < am_nrc) (h6 : am_n G < 1000000) (hx0 : x = nI n) (hn0 : n < 100000) (hk1 : 1 ≤ k.1) (hk2 : n ≤ k.2) (hw : Cond.classLink (am_own j) idx (am_rc t) ∈ am_T) (h : decode (am_by j) pc = .ok (.anewarray idx, 3)) (kk : am_Go w j d (k.1 - 1, k.2 - n) (pc + 3) L (.inr (some (am_n G)) :: st) (am_nw G (t + 3, n)) P) : am_Go w j d k pc L (.inl x :: st) G P := by
  intro p e R s m args below meth c ad0 ad H locs cells slots ls Q n0 C hR hS hl hL vL vS hc hs hn hx hE
  have hB := C.bs
  have hAO := C.ao t htt
  refine va_newq (D := w.2.1) (tys := am_tys w) C.exec C.byt C.own (C.ts _ hw) hAO hR.2.2.1 hR.1 hR.2.1 hS (fun q hq => Nat.le_trans hB hq) (N' := n) (by rw [hx0]; exact nI_pos (by omega)) (by rw [hx0]; exact nI_clamp (by omega)) (by omega) (by omega) (by omega) h (fun q cA H1 hK1 hP1 hD1 hS1 => ?_)
  have hcA := am_arr_eq (q := 2 + t) hR.2.2.1 hK1 (am_tys_r htt) (Or.inr (Or.inr ⟨_, rfl⟩))
  subst hcA
  refine am_new_go h6 kk C hR.2.2.1 hR.2.2.2 ?_ hP1 hD1 hS1 hl hL vL vS.tl hk1 hk2 hc hs hn hx hE
  have hsh : (am_nw G (t + 3, n)).1[am_n G]? = some (t + 3, n) := by simp [am_nw, am_n]
  rw [am_e_ref hsh]
  unfold am_nw am_n
  simp only [am_up_eq]
  rfl
/-- static arrays, and the script -/
theorem go_getstatic {idx q : Nat} (hq : q < am_ns) (h : decode (am_by j) pc = .ok (.getstatic idx, 3)) (hw : Cond.fieldLink (am_own j) idx (am_sC q) (am_sn q) "[I" ∈ am_T ∨ ∃ host, (am_own j, idx, am_sC q, am_sn q, "[I", host) ∈ am_TF) (kk : am_Go w j d k (pc + 3) L (.inr (some (1000001 + q)) :: st) G P) : am_Go w j d k pc L st G P := by
  intro p e R s m args below meth c ad0 ad H locs cells slots ls Q n0 C hR hS hl hL vL vS hc hs hn hx hE
  have hZ := (C.sta.1 q hq).1
  rw [← hx (1000001 + q) (Or.inr (by omega))] at hZ
  have kk' := kk p e R s m args below meth c ad0 ad H locs cells slots ls Q n0 C hR hS hl hL vL (vS.cons (show _ ∨ 1000000 ≤ 1000001 + q by omega)) hc hs hn hx hE
  rcases hw with hw | ⟨host, hw⟩
  · exact va_gets C.exec C.byt hZ hS C.own (C.ts _ hw) (fun _ h9 => h9) h kk'
  · exact va_getsN C.exec C.byt hZ hS C.own (va_Nw.use rfl (C.sta.2.2.2.2.2.2.1 _ hw)) (fun _ h9 => h9) h kk'
theorem go_ialoadS {q : Nat} {x : Int32} (hq : q < am_ns) (hin : vp_in x (am_sN q)) (h : decode (am_by j) pc = .ok (.iaload, 1)) (kk : am_Go w j d k (pc + 1) L (.inl (am_sf q x.toNatClampNeg) :: st) G P) : am_Go w j d k pc L (.inl x :: .inr (some (1000001 + q)) :: st) G P := by
  intro p e R s m args below meth c ad0 ad H locs cells slots ls Q n0 C hR hS hl hL vL vS hc hs hn hx hE
  have hT := (C.sta.1 q hq).2
  rw [← hx (1000001 + q) (Or.inr (by omega))] at hT
  exact va_ti C.exec C.byt hT hS hin rfl h (kk p e R s m args below meth c ad0 ad H locs cells slots ls Q n0 C hR hS hl hL vL (vS.tl.tl.i) hc hs hn hx hE)
theorem go_alenS {q : Nat} (hq : q < am_ns) (h : decode (am_by j) pc = .ok (.arraylength, 1)) (kk : am_Go w j d k (pc + 1) L (.inl (nI (am_sN q)) :: st) G P) : am_Go w j d k pc L (.inr (some (1000001 + q)) :: st) G P := by
  intro p e R s m args below meth c ad0 ad H locs cells slots ls Q n0 C hR hS hl hL vL vS hc hs hn hx hE
  have hT := (C.sta.1 q hq).2
  rw [← hx (1000001 + q) (Or.inr (by omega))] at hT
  exact va_tlen C.exec C.byt hT hS rfl h (kk p e R s m args below meth c ad0 ad H locs cells slots ls Q n0 C hR hS hl hL vL (vS.tl.i) hc hs hn hx hE)
theorem go_ialoadX {x : Int32} (hin : vp_in x w.2.2.2.2.1) (h : decode (am_by j) pc = .ok (.iaload, 1)) (kk : am_Go w j d k (pc + 1) L (.inl (w.2.2.2.2.2 x.toNatClampNeg) :: st) G P) : am_Go w j d k pc L (.inl x :: .inr (some 1000000) :: st) G P := by
  intro p e R s m args below meth c ad0 ad H locs cells slots ls Q n0 C hR hS hl hL vL vS hc hs hn hx hE
  obtain ⟨-, hX, hb, hA, -⟩ := C.sta
  rw [← hx 1000000 (Or.inr (Nat.le_refl _))] at hX hb hA
  exact va_sld C.exec C.byt hX hb hA hS hin h (kk p e R s m args below meth c ad0 ad H locs cells slots ls Q n0 C hR hS hl hL vL (vS.tl.tl.i) hc hs hn hx hE)
theorem go_alenX (h : decode (am_by j) pc = .ok (.arraylength, 1)) (kk : am_Go w j d k (pc + 1) L (.inl (nI w.2.2.2.2.1) :: st) G P) : am_Go w j d k pc L (.inr (some 1000000) :: st) G P := by
  intro p e R s m args below meth c ad0 ad H locs cells slots ls Q n0 C hR hS hl hL vL vS hc hs hn hx hE
  obtain ⟨-, hX, hb, hA, -⟩ := C.sta
  rw [← hx 1000000 (Or.inr (Nat.le_refl _))] at hX hb hA
  exact va_slen C.exec C.byt hX hb hA hS h (kk p e R s m args below meth c ad0 ad H locs cells slots ls Q n0 C hR hS hl hL vL (vS.tl.i) hc hs hn hx hE)
theorem go_ldc {idx : Nat} {v : Int32} (hw : Cond.constant (am_own j) idx v ∈ am_T) (h : decode (am_by j) pc = .ok (.ldc idx, 2)) (kk : am_Go w j d k (pc + 2) L (.inl v :: st) G P) : am_Go w j d k pc L st G P := by
  intro p e R s m args below meth c ad0 ad H locs cells slots ls Q n0 C hR hS hl hL vL vS hc hs hn hx hE
  exact lv_ldc C.exec C.byt C.own (C.ts _ hw) h (kk p e R s m args below meth c ad0 ad H locs cells slots ls Q n0 C hR hS hl hL vL (vS.i) hc hs hn hx hE)
theorem go_ldcw {idx : Nat} {v : Int32} (hw : Cond.constant (am_own j) idx v ∈ am_T) (h : decode (am_by j) pc = .ok (.ldc_w idx, 3)) (kk : am_Go w j d k (pc + 3) L (.inl v :: st) G P) : am_Go w j d k pc L st G P := by
  intro p e R s m args below meth c ad0 ad H locs cells slots ls Q n0 C hR hS hl hL vL vS hc hs hn hx hE
  exact lv_ldcw C.exec C.byt C.own (C.ts _ hw) h (kk p e R s m args below meth c ad0 ad H locs cells slots ls Q n0 C hR hS hl hL vL (vS.i) hc hs hn hx hE)
/-- the library's own methods -/
theorem go_objInit {idx i : Nat} (hd : 1 ≤ d) (hsl : st.length ≤ 8) (hw : Cond.methodLink (am_own j) idx objectInit ∈ am_T) (hw2 : Cond.instanceMethod objectInit ∈ am_T) (hw3 : Cond.code objectInit ⟨#[0xb1]⟩ 1 none ∈ am_T) (h : decode (am_by j) pc = .ok (.invokespecial idx, 3)) (kk : am_Go w j d k (pc + 3) L st G P) : am_Go w j d k pc L (.inr (some i) :: st) G P := by
  intro p e R s m args below meth c ad0 ad H locs cells slots ls Q n0 C hR hS hl hL vL vS hc hs hn hx hE
  have hf := C.fr
  have hlo := C.lo
  refine W.objInit C.exec C.byt C.own (C.ts _ hw) (C.ts _ hw2) (C.ts _ hw3) rfl (by rw [C.mx, ← hL]; exact hl.1) rfl h (by omega) ?_ ?_
  · have := am_sumcat ad st
    show 2 * 0 + ((st.map (am_v ad)).map fun v => v.category).sum + 12 ≤ R.locals
    omega
  · exact kk p e R s m args below meth c ad0 ad H locs cells slots ls Q n0 C hR hS hl hL vL vS.tl hc hs hn hx hE
theorem go_max {idx : Nat} {x y : Int32} (hd : 1 ≤ d) (hsl : st.length ≤ 8) (hw : Cond.methodLink (am_own j) idx Lib.Math.max.name ∈ am_T) (hw2 : Cond.static Lib.Math.max.name ∈ am_T) (hw3 : Cond.initialized "java/lang/Math" ∈ am_T) (hw4 : Cond.code Lib.Math.max.name Lib.Math.max.code 2 (some .int) ∈ am_T) (h : decode (am_by j) pc = .ok (.invokestatic idx, 3))
    (kk : am_Go w j d k (pc + 3) L (.inl (if x < y then y else x) :: st) G P) : am_Go w j d k pc L (.inl y :: .inl x :: st) G P := by
  intro p e R s m args below meth c ad0 ad H locs cells slots ls Q n0 C hR hS hl hL vL vS hc hs hn hx hE
  have hf := C.fr
  have hlo := C.lo
  have := am_sumcat ad st
  exact va_mmax C.exec C.byt (by rw [C.mx, ← hL]; exact hl.1.symm) C.own (C.ts _ hw) (C.ts _ hw2) (C.ts _ hw3) (C.ts _ hw4) (by omega) (by omega) (by omega) (by omega) h (kk p e R s m args below meth c ad0 ad H locs cells slots ls Q n0 C hR hS hl hL vL (vS.tl.tl.i) hc hs hn hx hE)
theorem go_min {idx : Nat} {x y : Int32} (hd : 1 ≤ d) (hsl : st.length ≤ 8) (hw : Cond.methodLink (am_own j) idx Lib.Math.min.name ∈ am_T) (hw2 : Cond.static Lib.Math.min.name ∈ am_T) (hw3 : Cond.initialized "java/lang/Math" ∈ am_T) (hw4 : Cond.code Lib.Math.min.name Lib.Math.min.code 2 (some .int) ∈ am_T) (h : decode (am_by j) pc = .ok (.invokestatic idx, 3))
    (kk : am_Go w j d k (pc + 3) L (.inl (if y < x then y else x) :: st) G P) : am_Go w j d k pc L (.inl y :: .inl x :: st) G P := by
  intro p e R s m args below meth c ad0 ad H locs cells slots ls Q n0 C hR hS hl hL vL vS hc hs hn hx hE
  have hf := C.fr
  have hlo := C.lo
  have := am_sumcat ad st
  exact va_mmin C.exec C.byt (by rw [C.mx, ← hL]; exact hl.1.symm) C.own (C.ts _ hw) (C.ts _ hw2) (C.ts _ hw3) (C.ts _ hw4) (by omega) (by omega) (by omega) (by omega) h (kk p e R s m args below meth c ad0 ad H locs cells slots ls Q n0 C hR hS hl hL vL (vS.tl.tl.i) hc hs hn hx hE)
theorem go_copyI {idx i0 i1 m0 m1 : Nat} {sp dp n : Int32} (hd : 1 ≤ d) (hsl : st.length ≤ 8) (hw : Cond.methodLink (am_own j) idx arraycopyName ∈ am_T) (hw2 : Cond.native arraycopyName ∈ am_T) (hw3 : Cond.static arraycopyName ∈ am_T) (hw4 : Cond.initialized "java/lang/System" ∈ am_T) (hs0 : G.1[i0]? = some (1, m0)) (hs1 : G.1[i1]? = some (1, m1))
    (h1 : ¬ sp < 0) (h2 : ¬ dp < 0) (h3 : ¬ n < 0) (h4 : sp.toNatClampNeg + n.toNatClampNeg ≤ m0) (h5 : dp.toNatClampNeg + n.toNatClampNeg ≤ m1) (h : decode (am_by j) pc = .ok (.invokestatic idx, 3))
    (kk : am_Go w j d k (pc + 3) L st (am_ro G i1 (va_cpy (G.2.1 i0) (G.2.1 i1) sp.toNatClampNeg dp.toNatClampNeg n.toNatClampNeg)) P) : am_Go w j d k pc L (.inl n :: .inl dp :: .inr (some i1) :: .inl sp :: .inr (some i0) :: st) G P := by
  intro p e R s m args below meth c ad0 ad H locs cells slots ls Q n0 C hR hS hl hL vL vS hc hs hn hx hE
  have hf := C.fr
  have hlo := C.lo
  have hsum := am_sumcat ad st
  have he0 := am_ws_at (w := w) (ad := ad) (am_lt hs0)
  rw [am_e_int hs0] at he0
  have he1 := am_ws_at (w := w) (ad := ad) (am_lt hs1)
  rw [am_e_int hs1] at he1
  refine va_copyi (D := w.2.1) (tys := am_tys w) C.exec C.byt (by rw [C.mx, ← hL]; exact hl.1.symm) C.own (C.ts _ hw) (C.ts _ hw2) (C.ts _ hw3) (C.ts _ hw4) hR.2.2.1 hR.1 hR.2.1 hS i0 i1 0 0 (ty := .int) he0 he1 rfl rfl rfl h1 h2 h3 h4 h5 (fun i hi => rfl) (by omega) (by show _ + (7 + 11) ≤ R.locals; omega) h (fun H1 locs1 hP1 hD1 hS1 => ?_)
  have hset : (am_ws w ad G).set i1 (ad i1, .inl (w.2.2.1 0, m1, .inl (va_cpy (G.2.1 i0) (G.2.1 i1) sp.toNatClampNeg dp.toNatClampNeg n.toNatClampNeg))) = am_ws w ad (am_ro G i1 (va_cpy (G.2.1 i0) (G.2.1 i1) sp.toNatClampNeg dp.toNatClampNeg n.toNatClampNeg)) :=
    am_row_ws (n := m1) (am_lt hs1) (by rw [am_e_int (G := am_ro G i1 (va_cpy (G.2.1 i0) (G.2.1 i1) sp.toNatClampNeg dp.toNatClampNeg n.toNatClampNeg)) (x := m1) hs1]; unfold am_ro; simp only [am_up_eq])
  rw [hset] at hP1 hD1
  exact kk p e R s m args below meth c ad0 ad H1 locs1 cells slots ls Q n0 C ⟨hP1, hD1, hR.2.2.1, hR.2.2.2⟩ hS1 hl hL vL vS.tl.tl.tl.tl.tl hc hs hn hx hE
end AmRows
/-- contracts -/
def am_ws1 (j : Nat) : List Cond := Cond.code (am_y j) (am_by j) (am_mx j) (am_ret j) :: am_T
def am_rm (d : Nat) (k : Nat × Nat) : Room := { frames := d, cells := k.1, slots := k.2, locals := 42 * d }
def am_St (w : am_W) (ad : Nat → Nat) (G : am_G) (U : State) : Prop := am_Rel w ad G U U.heap ∧ am_Sta w ad U
def am_Q (w : am_W) (ad : Nat → Nat) (n : Nat) (P : Option am_V → am_G → Prop) : Array Value → State → Outcome → State → Prop := fun _ st oc t =>
  (∃ (r : Option am_V) (G' : am_G) (ad' : Nat → Nat), oc = .returned (r.map (am_v ad')) ∧ P r G' ∧ n ≤ am_n G' ∧ am_ext n ad ad' ∧ (∀ v, r = some v → am_ok1 (am_n G') v) ∧ am_Rel w ad' G' t t.heap) ∧ va_F (am_A w) st t
def am_Ok (w : am_W) (j d : Nat) (k : Nat × Nat) (av : List am_V) (G : am_G) (P : Option am_V → am_G → Prop) : Prop :=
  ∀ ad : Nat → Nat, Met w.1 (am_y j) (am_ws1 j) (am_rm d k) (va_Pc (av.map (am_v ad)) (fun U => am_St w ad G U ∧ am_vS (am_n G) av)) (am_Q w ad (am_n G) P) k.1 k.2 (am_A w)
theorem am_Sta.moved {w : am_W} {ad : Nat → Nat} {u U : State} (hvm : u.vm.Alike U.vm) (hN : u.vm = U.vm ∨ u.WarmedH U.vm) (hz : u.heap.size ≤ U.heap.size) (hq : ∀ a : Nat, a < u.heap.size → ¬ am_A w a → U.heap[a]? = u.heap[a]?) (h : am_Sta w ad u) : am_Sta w ad U :=
  ⟨fun k hk => ⟨((h.1 k hk).1.moved hvm).kept hq, ((h.1 k hk).2.moved hvm).kept hq⟩, (h.2.1.moved hvm).kept (hq _ h.2.2.1 h.2.2.2.1), Nat.lt_of_lt_of_le h.2.2.1 hz, h.2.2.2.1, Nat.le_trans h.2.2.2.2.1 hz, fun t ht => (h.2.2.2.2.2.1 t ht).moved hvm,
    fun q hq => hN.elim (fun e => va_Nw.same rfl e (h.2.2.2.2.2.2.1 q hq)) (fun e => va_Nw.warmF e (h.2.2.2.2.2.2.1 q hq)), fun q hq => hN.elim (fun e => va_Nw.same rfl e (h.2.2.2.2.2.2.2 q hq)) (fun e => va_Nw.warmM e (h.2.2.2.2.2.2.2 q hq))⟩
theorem am_Sta.ext {w : am_W} {n : Nat} {ad ad' : Nat → Nat} {u : State} (hx : am_ext n ad ad') (h : am_Sta w ad u) : am_Sta w ad' u := by
  have e0 := hx 1000000 (Or.inr (Nat.le_refl _))
  refine ⟨fun k hk => ?_, by rw [e0]; exact h.2.1, by rw [e0]; exact h.2.2.1, by rw [e0]; exact h.2.2.2.1, h.2.2.2.2⟩
  rw [hx (1000001 + k) (Or.inr (by omega))]
  exact h.1 k hk
theorem am_ok_of {w : am_W} {j d : Nat} {k : Nat × Nat} {av : List am_V} {G : am_G} {P : Option am_V → am_G → Prop} (hj : plainName (am_y j).cls = true) (hlen : av.length ≤ am_mx j) (kk : am_Go w j d k 0 (am_in av (am_mx j)) [] G P) : am_Ok w j d k av G P := by
  intro ad
  refine Met.ofW (cc := am_by j) (maxL := am_mx j) (ret := am_ret j) hj rfl ?_
  intro p e s m args below meth c s₁ B hml hv
  obtain ⟨rfl, ⟨hR, hSt⟩, hvS⟩ := hv
  have hts := atoms_spec (ws := am_ws1 j) B.pre
  have hlocks := B.notSynchronized
  have hown : s.vm.findClass (am_own j) = some m.cls := findClass_of_methodNamed B.named
  have C : am_Cx w j d ad p (headSpec (am_ws1 j) (am_rm d k)).room s m (av.map (am_v ad)).toArray meth c := ⟨B.exec, B.bytes, B.returns, hml, hown, fun w hw => hts w (List.mem_cons_of_mem _ hw), hlocks, fun h => (name_of_methodNamed B.named B.method).1.trans h, Nat.le_refl _, Nat.le_refl _, hSt⟩
  rw [lg_entry_eq]
  refine kk p e _ s m _ below meth c ad ad s.heap [] 0 0 _ _ (am_n G) C hR va_S.rf (am_entry ad av hlen) (am_in_len hlen) (fun i v hi => hvS v (List.mem_of_getElem? (am_in_at hi))) am_vS.nil (by rw [Nat.zero_add]; exact Nat.le_refl _) (by rw [Nat.zero_add]; exact Nat.le_refl _) (Nat.le_refl _) am_ext.rf ?_
  intro r G' ad' H' locs' pc' ls' hp hR' hS' hn' hx' hok hret
  have hq : ∀ (o : Option Value), o = r.map (am_v ad') → ∀ t : State, t.heap = H' → s.WarmedH t.vm → am_Q w ad (am_n G) P (av.map (am_v ad)).toArray s (.returned o) t := by
    intro o ho t ht hW
    subst ho
    exact ⟨⟨r, G', ad', rfl, hp, hn', hx', hok, by rw [ht]; exact hR'.1, hR'.2.1, va_K.moved hW.alike hR'.2.2.1, hR'.2.2.2⟩, hS'.F ht⟩
  rcases hret with ⟨hd, x, ty, rfl, hty, hnar⟩ | ⟨hd, x, ty, rfl, hty, hrk⟩ | ⟨hd, rfl, hty⟩
  · exact W.zret C.exec C.byt (C.ret.trans hty) hnar (hq _ rfl) hS'.2.2 hd
  · refine W.aret C.exec C.byt (C.ret.trans hty) ?_ (am_rfv (ad := ad') (r := x)) (hq _ rfl) hS'.2.2 hd
    cases ty <;> first | (cases hrk; done) | exact Or.inl ⟨_, rfl⟩ | exact Or.inr ⟨_, rfl⟩
  · exact W.vret C.exec C.byt (C.ret.trans hty) (hq _ rfl) hS'.2.2 hd
theorem am_Ok.post {w : am_W} {j d : Nat} {k : Nat × Nat} {av : List am_V} {G : am_G} {P P' : Option am_V → am_G → Prop} (h : am_Ok w j d k av G P') (hp : ∀ r G', P' r G' → P r G') : am_Ok w j d k av G P := by
  intro ad p e ha hc hk s m args below hf happ hpre htr
  obtain ⟨k2, o, h1, h2, h3, ⟨⟨r, G', ad', g1, g2, g3⟩, hF⟩, hL⟩ := h ad p e ha hc hk s m args below hf happ hpre htr
  exact ⟨k2, o, h1, h2, h3, ⟨⟨r, G', ad', g1, hp r G' g2, g3⟩, hF⟩, hL⟩
section AmCalls
variable {w : am_W} {j d : Nat} {k : Nat × Nat} {pc : Nat} {L : List (Option am_V)} {st : List am_V} {G : am_G} {P P' : Option am_V → am_G → Prop}
theorem am_after {k' : Nat × Nat} {n : Nat} {a : Array Value} {st0 rest : List Value} {ad : Nat → Nat}
    {p : Program} {l : Launch} {e : Env} {R : Room} {s : State} {m : MethodId} {args : Array Value} {below : List Frame} {meth : Method} {c : Code} {H : Heap} {locs : List Loc} {cells slots : Nat} {ls : Array Slot} {Q : State → Prop}
    (hr : va_Run p l e R s m args below meth c H locs cells slots k'.1 k'.2 (F0 m pc ls st0) rest (am_Q w ad n P' a) (am_A w)) (hS : va_S (am_A w) s.heap H locs)
    (kk : ∀ (r : Option am_V) (G' : am_G) (ad' : Nat → Nat) (H1 : Heap) (locs1 : List Loc), P' r G' → n ≤ am_n G' → am_ext n ad ad' → (∀ v, r = some v → am_ok1 (am_n G') v) → am_Rel w ad' G' s H1 → va_S (am_A w) s.heap H1 locs1 →
      W p l e R s m args below meth c H1 locs1 (cells + k'.1) (slots + k'.2) Q (F0 m (pc + 3) ls ((r.map (am_v ad')).toList ++ rest))) : W p l e R s m args below meth c H locs cells slots Q (F0 m pc ls st0) := by
  intro T hT X
  obtain ⟨v, st₀, t, T', L', h0, X', hL, e1, e2, ⟨⟨r, G', ad', hv, hp, hn, hx, hok, hR⟩, hz, hk⟩, stp⟩ := hr T hT X
  cases hv
  rw [h0] at hz hk
  obtain ⟨t2, a1, b1⟩ := kk r G' ad' T'.heap (locs ++ L') hp hn hx hok ⟨by rw [e1]; exact hR.1, hR.2.1, va_K.moved (by rw [← e2]; exact X'.warmed.alike.symm) hR.2.2.1, hR.2.2.2⟩
    ⟨Nat.le_trans hS.1 (by rw [e1]; exact hz), fun q h1 h2 => by rw [e1, hk q (Nat.lt_of_lt_of_le h1 hS.1) h2]; exact hS.2.1 q h1 h2, fun q hq => by
      rcases List.mem_append.mp hq with h | h
      · exact hS.2.2 q h
      · exact hL q h⟩ T' rfl X'
  exact ⟨t2, stp t2 a1, b1⟩
/-- a call's words: by pool entry idx, method j calls method j' of n arguments -/
def am_Cs (own : String) (idx j' n : Nat) : Prop := Cond.code (am_y j') (am_by j') (am_mx j') (am_ret j') ∈ am_T ∧ Cond.initialized (am_y j').cls ∈ am_T ∧ ((am_y j').cls ≠ "java/lang/invoke/MethodHandle" ∧ (am_y j').cls ≠ "java/lang/invoke/VarHandle" ∧ (parseMethodDescriptor (am_y j').desc).map (fun d => d.parameters.length) = some n) ∧ am_mx j' ≤ 23 ∧
  (Cond.methodLink own idx (am_y j') ∈ am_T ∨ ∃ host, (own, idx, am_y j', host) ∈ am_TM)
theorem am_good {j' : Nat} (h : Cond.code (am_y j') (am_by j') (am_mx j') (am_ret j') ∈ am_T) : GoodIn am_T (am_ws1 j') := by
  intro x hx
  have hx2 : x ∈ am_T := by
    rcases List.mem_cons.mp hx with rfl | hx
    · exact h
    · exact hx
  exact ⟨hx2, good_of_word (am_T_good x hx2)⟩
theorem am_pre {ad0 ad : Nat → Nat} {n0 : Nat} {av : List am_V} {p : Program} {R : Room} {s : State} {m : MethodId} {args : Array Value} {meth : Method} {c : Code} {H : Heap} {locs : List Loc}
    (C : am_Cx w j d ad0 p R s m args meth c) (hR : am_Rel w ad G s H) (hS : va_S (am_A w) s.heap H locs) (hx : am_ext n0 ad0 ad) (hv : am_vS (am_n G) av) :
    PreS s H (va_Pc (av.map (am_v ad)) (fun U => am_St w ad G U ∧ am_vS (am_n G) av)) (av.map (am_v ad)) := by
  refine ⟨fun a U g mk hp => ?_, fun U hU hW => ?_⟩
  · obtain ⟨h1, ⟨h2, h3⟩, h4⟩ := hp
    exact ⟨h1, ⟨⟨h2.1, h2.2.1, va_K.moved (u := U) (U := U.calling g mk a) (Vm.Alike.refl U.vm) h2.2.2.1, h2.2.2.2⟩, am_Sta.moved (u := U) (U := U.calling g mk a) (Vm.Alike.refl U.vm) (Or.inl rfl) (Nat.le_refl _) (fun _ _ _ => rfl) h3⟩, h4⟩
  · refine ⟨rfl, ⟨⟨by rw [hU]; exact hR.1, hR.2.1, va_K.moved hW.alike hR.2.2.1, hR.2.2.2⟩, ?_⟩, hv⟩
    exact am_Sta.moved hW.alike (Or.inr hW) (by rw [hU]; exact hS.1) (fun a h1 h2 => by rw [hU]; exact hS.2.1 a h1 h2) (C.sta.ext hx)
/-- behind the call -/
theorem am_back {k' : Nat × Nat} (hk : k'.1 ≤ k.1 ∧ k'.2 ≤ k.2) (kk : ∀ (r : Option am_V) (G' : am_G), P' r G' → am_n G ≤ am_n G' → am_Go w j d (k.1 - k'.1, k.2 - k'.2) (pc + 3) L (r.toList ++ st) G' P)
    {p : Program} {e : Env} {R : Room} {s : State} {m : MethodId} {args : Array Value} {below : List Frame} {meth : Method} {c : Code} {ad0 ad : Nat → Nat} {locs : List Loc} {cells slots : Nat} {ls : Array Slot} {Q : State → Prop} {n0 : Nat} {H : Heap} {st0 : List Value} {a : Array Value}
    (hr : va_Run p w.1 e R s m args below meth c H locs cells slots k'.1 k'.2 (F0 m pc ls st0) (st.map (am_v ad)) (am_Q w ad (am_n G) P' a) (am_A w))
    (C : am_Cx w j d ad0 p R s m args meth c) (hS : va_S (am_A w) s.heap H locs) (hl : am_Ls ad L ls) (hL : L.length = am_mx j) (vL : am_vL (am_n G) L) (vS : am_vS (am_n G) st)
    (hc : cells + k.1 ≤ R.cells) (hs : slots + k.2 ≤ R.slots) (hn : n0 ≤ am_n G) (hx : am_ext n0 ad0 ad)
    (hE : ∀ (r : Option am_V) (G' : am_G) (ad' : Nat → Nat) (H' : Heap) (locs' : List Loc) (pc' : Nat) (ls' : Array Slot), P r G' → am_Rel w ad' G' s H' → va_S (am_A w) s.heap H' locs' → n0 ≤ am_n G' → am_ext n0 ad0 ad' → (∀ v, r = some v → am_ok1 (am_n G') v) → am_retAt j pc' r →
      W p w.1 e R s m args below meth c H' locs' R.cells R.slots Q (F0 m pc' ls' (r.toList.map (am_v ad')))) :
    W p w.1 e R s m args below meth c H locs cells slots Q (F0 m pc ls st0) := by
  refine am_after hr hS (fun r G' ad' H1 locs1 hp hn1 hx1 hok hR1 hS1 => ?_)
  have g := kk r G' hp hn1 p e R s m args below meth c ad0 ad' H1 locs1 (cells + k'.1) (slots + k'.2) ls Q n0 C hR1 hS1 (hl.ext hx1 vL) hL (vL.up hn1) (am_vS.app (fun v hv => hok v (by cases r with | none => cases hv | some u => rw [List.mem_singleton.mp hv])) (vS.up hn1)) (by show cells + k'.1 + (k.1 - k'.1) ≤ R.cells; omega) (by show slots + k'.2 + (k.2 - k'.2) ≤ R.slots; omega) (Nat.le_trans hn hn1) (hx.tr hn hx1) hE
  rw [List.map_append, hx1.st vS] at g
  cases r with
  | none => exact g
  | some u => exact g
theorem am_cb {idx j' n d' : Nat} {k' : Nat × Nat} {ad0 : Nat → Nat} {p : Program} {R : Room} {s : State} {m : MethodId} {args : Array Value} {meth : Method} {c : Code} (C : am_Cx w j d ad0 p R s m args meth c) (hc : am_Cs (am_own j) idx j' n) (hd : d' + 1 ≤ d) :
    CallB R s args (am_own j) idx (am_y j') (am_by j') (am_mx j') (am_ret j') (am_ws1 j') (am_rm d' k') k'.1 k'.2 n ∨ ∃ host, va_CN R s args (am_own j) idx (am_y j') host (am_by j') (am_mx j') (am_ret j') (am_ws1 j') (am_rm d' k') k'.1 k'.2 n := by
  obtain ⟨c1, c2, c3, c4, c5⟩ := hc
  have hf := C.fr
  have hlo := C.lo
  have hR : (am_rm d' k').frames + 1 ≤ R.frames ∧ 8 + (am_mx j' + 11) + (am_rm d' k').locals ≤ R.locals := ⟨show d' + 1 ≤ R.frames by omega, show 8 + (am_mx j' + 11) + 42 * d' ≤ R.locals by omega⟩
  rcases c5 with c5 | ⟨host, c5⟩
  · exact Or.inl (callB_of n C.ts (am_good c1) rfl rfl rfl (C.ts _ c2) (C.ts _ c5) c3 hR)
  · exact Or.inr ⟨host, va_cnB n C.ts (am_good c1) rfl rfl rfl (C.sta.2.2.2.2.2.2.2 _ c5) (C.ts _ c2) c3 hR⟩
theorem go_callS {idx j' n d' : Nat} {k' : Nat × Nat} (av : List am_V) (hc0 : am_Cs (am_own j) idx j' n) (hw : Cond.static (am_y j') ∈ am_T) (hn0 : av.length = n) (hd : d' + 1 ≤ d) (hk : k'.1 ≤ k.1 ∧ k'.2 ≤ k.2) (hsl : st.length ≤ 8) (h : decode (am_by j) pc = .ok (.invokestatic idx, 3)) (hM : am_Ok w j' d' k' av G P')
    (kk : ∀ (r : Option am_V) (G' : am_G), P' r G' → am_n G ≤ am_n G' → am_Go w j d (k.1 - k'.1, k.2 - k'.2) (pc + 3) L (r.toList ++ st) G' P) : am_Go w j d k pc L (av.reverse ++ st) G P := by
  intro p e R s m args below meth c ad0 ad H locs cells slots ls Q n0 C hR hS hl hL vL vS hc hs hn hx hE
  have hsum := am_sumcat ad st
  have hpre := am_pre C hR hS hx (av := av) (fun v hv => vS.l v (List.mem_reverse.mpr hv))
  have hstk : (F0 m pc ls ((av.reverse ++ st).map (am_v ad))).stack = (av.map (am_v ad)).reverse ++ st.map (am_v ad) := by
    show (av.reverse ++ st).map (am_v ad) = _
    rw [List.map_append, List.map_reverse]
  have hroom : 2 * (F0 m pc ls ((av.reverse ++ st).map (am_v ad))).monitorRoom + ((st.map (am_v ad)).map fun v => v.category).sum ≤ 8 := by
    show 2 * 0 + ((st.map (am_v ad)).map fun v => v.category).sum ≤ 8
    omega
  have hfx : CallFix p m c (am_by j) (am_mx j) s args am_T (am_own j) := ⟨C.exec, C.byt, C.mx, C.own, C.ts⟩
  have hfit : cells + k'.1 ≤ R.cells ∧ slots + k'.2 ≤ R.slots := ⟨by omega, by omega⟩
  have hsz : (F0 m pc ls ((av.reverse ++ st).map (am_v ad))).locals.size = am_mx j := by rw [← hL]; exact hl.1
  rcases am_cb (k' := k') C hc0 hd with hb | ⟨host, hb⟩
  · exact am_back hk kk (va_runS (Ts := am_T) hfx (hM ad) ⟨hb, C.ts _ hw⟩ hpre rfl (by rw [List.length_map]; exact hn0) hsz hstk hroom h hfit) C hS hl hL vL vS.r hc hs hn hx hE
  · exact am_back hk kk (va_runSN (Ts := am_T) hfx (hM ad) ⟨hb, C.ts _ hw, trivial⟩ hpre rfl (by rw [List.length_map]; exact hn0) hsz hstk hroom h hfit) C hS hl hL vL vS.r hc hs hn hx hE
theorem go_callV {idx j' n d' i ci : Nat} {k' : Nat × Nat} (av : List am_V) (hc0 : am_Cs (am_own j) idx j' n) (hsh : G.1[i]? = some (0, ci)) (hcl : (am_cl[ci]?).map (fun r => r.1) = some (am_y j').cls) (hw : Cond.instanceMethod (am_y j') ∈ am_T) (hw2 : Cond.selects (am_y j').cls (am_y j') (am_y j') ∈ am_T) (hn0 : av.length = n) (hd : d' + 1 ≤ d) (hk : k'.1 ≤ k.1 ∧ k'.2 ≤ k.2) (hsl : st.length ≤ 8) (h : decode (am_by j) pc = .ok (.invokevirtual idx, 3)) (hM : am_Ok w j' d' k' (.inr (some i) :: av) G P')
    (kk : ∀ (r : Option am_V) (G' : am_G), P' r G' → am_n G ≤ am_n G' → am_Go w j d (k.1 - k'.1, k.2 - k'.2) (pc + 3) L (r.toList ++ st) G' P) : am_Go w j d k pc L (av.reverse ++ .inr (some i) :: st) G P := by
  intro p e R s m args below meth c ad0 ad H locs cells slots ls Q n0 C hR hS hl hL vL vS hc hs hn hx hE
  have hsum := am_sumcat ad st
  have hpre := am_pre C hR hS hx (av := .inr (some i) :: av) (fun v hv => by
    rcases List.mem_cons.mp hv with rfl | hv
    · exact vS.r.hd
    · exact vS.l v (List.mem_reverse.mpr hv))
  obtain ⟨r, hr1, hr2⟩ := Option.map_eq_some_iff.mp hcl
  have he := am_ws_at (w := w) (ad := ad) (am_lt hsh)
  rw [am_e_obj hsh] at he
  have hrec := va_recv (q0 := i) hR.2.2.1 hR.1 hr1 he
  rw [hr2] at hrec
  have hstk : (F0 m pc ls ((av.reverse ++ .inr (some i) :: st).map (am_v ad))).stack = (av.map (am_v ad)).reverse ++ .ref (ad i) :: st.map (am_v ad) := by
    show (av.reverse ++ .inr (some i) :: st).map (am_v ad) = _
    rw [List.map_append, List.map_reverse]
    rfl
  have hroom : 2 * (F0 m pc ls ((av.reverse ++ .inr (some i) :: st).map (am_v ad))).monitorRoom + ((st.map (am_v ad)).map fun v => v.category).sum ≤ 8 := by
    show 2 * 0 + ((st.map (am_v ad)).map fun v => v.category).sum ≤ 8
    omega
  have hfx : CallFix p m c (am_by j) (am_mx j) s args am_T (am_own j) := ⟨C.exec, C.byt, C.mx, C.own, C.ts⟩
  have hfit : cells + k'.1 ≤ R.cells ∧ slots + k'.2 ≤ R.slots := ⟨by omega, by omega⟩
  have hsz : (F0 m pc ls ((av.reverse ++ .inr (some i) :: st).map (am_v ad))).locals.size = am_mx j := by rw [← hL]; exact hl.1
  rcases am_cb (k' := k') C hc0 hd with hb | ⟨host, hb⟩
  · exact am_back hk kk (va_runV (Ts := am_T) (C := (am_y j').cls) (b := ad i) (As := av.map (am_v ad)) hfx (hM ad) ⟨hb, C.ts _ hw, C.ts _ hw2⟩ ⟨hpre.1, hrec, hpre.2⟩ rfl (by rw [List.length_map]; exact hn0) hsz hstk hroom h hfit) C hS hl hL vL vS.r.tl hc hs hn hx hE
  · exact am_back hk kk (va_runVN (Ts := am_T) (C := (am_y j').cls) (b := ad i) (As := av.map (am_v ad)) hfx (hM ad) ⟨hb, C.ts _ hw, C.ts _ hw2⟩ ⟨hpre.1, hrec, hpre.2⟩ rfl (by rw [List.length_map]; exact hn0) hsz hstk hroom h hfit) C hS hl hL vL vS.r.tl hc hs hn hx hE
theorem go_callI {idx j' n d' i : Nat} {k' : Nat × Nat} (av : List am_V) (hc0 : am_Cs (am_own j) idx j' n) (hnm : (am_y j').name = "<init>") (hrt : am_ret j' = none) (hw : Cond.instanceMethod (am_y j') ∈ am_T) (hn0 : av.length = n) (hd : d' + 1 ≤ d) (hk : k'.1 ≤ k.1 ∧ k'.2 ≤ k.2) (hsl : st.length ≤ 8) (h : decode (am_by j) pc = .ok (.invokespecial idx, 3)) (hM : am_Ok w j' d' k' (.inr (some i) :: av) G P')
    (kk : ∀ (r : Option am_V) (G' : am_G), P' r G' → am_n G ≤ am_n G' → am_Go w j d (k.1 - k'.1, k.2 - k'.2) (pc + 3) L (r.toList ++ st) G' P) : am_Go w j d k pc L (av.reverse ++ .inr (some i) :: st) G P := by
  intro p e R s m args below meth c ad0 ad H locs cells slots ls Q n0 C hR hS hl hL vL vS hc hs hn hx hE
  have hsum := am_sumcat ad st
  have hpre := am_pre C hR hS hx (av := .inr (some i) :: av) (fun v hv => by
    rcases List.mem_cons.mp hv with rfl | hv
    · exact vS.r.hd
    · exact vS.l v (List.mem_reverse.mpr hv))
  have hstk : (F0 m pc ls ((av.reverse ++ .inr (some i) :: st).map (am_v ad))).stack = (av.map (am_v ad)).reverse ++ .ref (ad i) :: st.map (am_v ad) := by
    show (av.reverse ++ .inr (some i) :: st).map (am_v ad) = _
    rw [List.map_append, List.map_reverse]
    rfl
  have hroom : 2 * (F0 m pc ls ((av.reverse ++ .inr (some i) :: st).map (am_v ad))).monitorRoom + ((st.map (am_v ad)).map fun v => v.category).sum ≤ 8 := by
    show 2 * 0 + ((st.map (am_v ad)).map fun v => v.category).sum ≤ 8
    omega
  have hfx : CallFix p m c (am_by j) (am_mx j) s args am_T (am_own j) := ⟨C.exec, C.byt, C.mx, C.own, C.ts⟩
  have hfit : cells + k'.1 ≤ R.cells ∧ slots + k'.2 ≤ R.slots := ⟨by omega, by omega⟩
  have hsz : (F0 m pc ls ((av.reverse ++ .inr (some i) :: st).map (am_v ad))).locals.size = am_mx j := by rw [← hL]; exact hl.1
  rcases am_cb (k' := k') C hc0 hd with hb | ⟨host, hb⟩
  · rw [hrt] at hb
    exact am_back hk kk (va_runI (Ts := am_T) (b := ad i) (As := av.map (am_v ad)) hfx (hM ad) ⟨hb, hnm, C.ts _ hw⟩ hpre rfl (by rw [List.length_map]; exact hn0) hsz hstk hroom h hfit) C hS hl hL vL vS.r.tl hc hs hn hx hE
  · rw [hrt] at hb
    exact am_back hk kk (va_runIN (Ts := am_T) (b := ad i) (As := av.map (am_v ad)) hfx (hM ad) ⟨hb, hnm, C.ts _ hw⟩ hpre rfl (by rw [List.length_map]; exact hn0) hsz hstk hroom h hfit) C hS hl hL vL vS.r.tl hc hs hn hx hE
end AmCalls
