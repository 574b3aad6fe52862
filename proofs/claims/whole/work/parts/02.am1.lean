/-! THE ABSTRACT MACHINE. Objects have NUMBERS (0, 1, .. in the order of their making; from 1000000 on: the script, the static arrays); memory is two functions (ints, references by number).
am_Go says of a place in a method, over such a memory: the real machine comes to the method's return with P. Each instruction has one row (go_..); everything behind these rows speaks of am_Go alone. -/
abbrev am_V : Type := Int32 ⊕ Option Nat
abbrev am_G : Type := List (Nat × Nat) × (Nat → Nat → Int32) × (Nat → Nat → Option Nat)
/-- launch, class numbers and slots, array classes (0 int, 1 boolean, 2 + t of am_rc t), first new address, the script -/
abbrev am_W : Type := Launch × va_G × (Nat → ClassId) × Nat × Nat × (Nat → Int32)
def am_n (G : am_G) : Nat := G.1.length
def am_v (ad : Nat → Nat) (v : am_V) : Value := match v with
  | .inl x => .int x
  | .inr r => va_rf (r.map ad)
theorem am_cat (ad : Nat → Nat) (v : am_V) : (am_v ad v).category = 1 := by
  rcases v with x | r
  · rfl
  · cases r <;> rfl
def am_ok1 (n : Nat) (v : am_V) : Prop := match v with
  | .inl _ => True
  | .inr none => True
  | .inr (some i) => i < n ∨ 1000000 ≤ i
def am_vL (n : Nat) (L : List (Option am_V)) : Prop := ∀ (i : Nat) (v : am_V), L[i]? = some (some v) → am_ok1 n v
def am_vS (n : Nat) (st : List am_V) : Prop := ∀ v ∈ st, am_ok1 n v
def am_vG (G : am_G) : Prop := ∀ i k r : Nat, G.2.2 i k = some r → r < am_n G ∨ 1000000 ≤ r
def am_ext (n : Nat) (ad ad' : Nat → Nat) : Prop := ∀ i : Nat, (i < n ∨ 1000000 ≤ i) → ad' i = ad i
theorem am_ext.rf {n : Nat} {ad : Nat → Nat} : am_ext n ad ad := fun _ _ => rfl
theorem am_ext.tr {n n' : Nat} {a b c : Nat → Nat} (h : n ≤ n') (h1 : am_ext n a b) (h2 : am_ext n' b c) : am_ext n a c := fun i hi => by
  rw [h2 i (by omega), h1 i hi]
theorem am_ext.v {n : Nat} {ad ad' : Nat → Nat} (h : am_ext n ad ad') {v : am_V} (hv : am_ok1 n v) : am_v ad' v = am_v ad v := by
  rcases v with x | r
  · rfl
  · cases r with
    | none => rfl
    | some i =>
      show va_rf (some (ad' i)) = va_rf (some (ad i))
      rw [h i hv]
theorem am_ext.st {n : Nat} {ad ad' : Nat → Nat} (h : am_ext n ad ad') {st : List am_V} (hv : am_vS n st) : st.map (am_v ad') = st.map (am_v ad) :=
  List.map_congr_left fun v hm => h.v (hv v hm)
theorem am_ok1.up {n n' : Nat} (h : n ≤ n') {v : am_V} (hv : am_ok1 n v) : am_ok1 n' v := by
  rcases v with x | r
  · trivial
  · cases r with
    | none => trivial
    | some i =>
      have h1 : i < n ∨ 1000000 ≤ i := hv
      show i < n' ∨ 1000000 ≤ i
      omega
theorem am_vS.up {n n' : Nat} (h : n ≤ n') {st : List am_V} (hv : am_vS n st) : am_vS n' st := fun v hm => (hv v hm).up h
theorem am_vL.up {n n' : Nat} (h : n ≤ n') {L : List (Option am_V)} (hv : am_vL n L) : am_vL n' L := fun i v hm => (hv i v hm).up h
theorem am_vS.nil {n : Nat} : am_vS n [] := fun v h => by cases h
theorem am_vS.cons {n : Nat} {v : am_V} {st : List am_V} (h : am_ok1 n v) (hs : am_vS n st) : am_vS n (v :: st) := fun u hu => by
  rcases List.mem_cons.mp hu with rfl | hu
  · exact h
  · exact hs u hu
theorem am_vS.i {n : Nat} {x : Int32} {st : List am_V} (hs : am_vS n st) : am_vS n (.inl x :: st) := am_vS.cons (v := .inl x) trivial hs
theorem am_vS.nl {n : Nat} {st : List am_V} (hs : am_vS n st) : am_vS n (.inr none :: st) := am_vS.cons (v := .inr none) trivial hs
theorem am_vS.hd {n : Nat} {v : am_V} {st : List am_V} (h : am_vS n (v :: st)) : am_ok1 n v := h v List.mem_cons_self
theorem am_vS.tl {n : Nat} {v : am_V} {st : List am_V} (h : am_vS n (v :: st)) : am_vS n st := fun u hu => h u (List.mem_cons_of_mem _ hu)
theorem am_vS.app {n : Nat} {a b : List am_V} (h1 : am_vS n a) (h2 : am_vS n b) : am_vS n (a ++ b) := fun u hu => by
  rcases List.mem_append.mp hu with hu | hu
  · exact h1 u hu
  · exact h2 u hu
theorem am_vS.l {n : Nat} {a b : List am_V} (h : am_vS n (a ++ b)) : am_vS n a := fun u hu => h u (List.mem_append_left _ hu)
theorem am_vS.r {n : Nat} {a b : List am_V} (h : am_vS n (a ++ b)) : am_vS n b := fun u hu => h u (List.mem_append_right _ hu)
theorem am_vS.rev {n : Nat} {a : List am_V} (h : am_vS n a) : am_vS n a.reverse := fun u hu => h u (List.mem_reverse.mp hu)
theorem am_vL.set {n : Nat} {L : List (Option am_V)} {i : Nat} {v : am_V} (h : am_vL n L) (hv : am_ok1 n v) : am_vL n (L.set i (some v)) := fun q u hq => by
  rw [List.getElem?_set] at hq
  split at hq
  · split at hq
    · cases hq; exact hv
    · cases hq
  · exact h q u hq
/-- locals -/
def am_lv (ad : Nat → Nat) (L : List (Option am_V)) : List (Nat × Value) := (List.range L.length).filterMap fun i => match L[i]? with
  | some (some v) => some (i, am_v ad v)
  | _ => none
theorem am_lv_mem {ad : Nat → Nat} {L : List (Option am_V)} {q : Nat × Value} : q ∈ am_lv ad L ↔ ∃ v, L[q.1]? = some (some v) ∧ q.2 = am_v ad v := by
  unfold am_lv
  rw [List.mem_filterMap]
  constructor
  · rintro ⟨i, hi, h⟩
    split at h
    · rename_i v hv
      cases h
      exact ⟨v, hv, rfl⟩
    · cases h
  · rintro ⟨v, hv, he⟩
    refine ⟨q.1, ?_, ?_⟩
    · rw [List.mem_range]
      exact (List.getElem?_eq_some_iff.mp hv).1
    · rw [hv]
      show some (q.1, am_v ad v) = some q
      rw [← he]
abbrev am_Ls (ad : Nat → Nat) (L : List (Option am_V)) (ls : Array Slot) : Prop := lv_has ls L.length (am_lv ad L)
theorem am_Ls.at {ad : Nat → Nat} {L : List (Option am_V)} {ls : Array Slot} (h : am_Ls ad L ls) {i : Nat} {v : am_V} (hi : L[i]? = some (some v)) : ls[i]? = some (.val (am_v ad v)) :=
  h.2.2 (i, am_v ad v) (am_lv_mem.mpr ⟨v, hi, rfl⟩)
theorem am_Ls.st {ad : Nat → Nat} {L : List (Option am_V)} {i : Nat} {v : am_V} {ls' : Array Slot} {n : Nat} (hn : n = L.length)
    (h : lv_has ls' n ((i, am_v ad v) :: (am_lv ad L).filter (fun q => !(q.1 == i) && !(q.1 + 1 == i && q.2.category == 2)))) : am_Ls ad (L.set i (some v)) ls' := by
  subst hn
  refine ⟨by rw [List.length_set]; exact h.1, h.2.1, fun q hq => h.2.2 q ?_⟩
  obtain ⟨u, hu, he⟩ := am_lv_mem.mp hq
  rw [List.getElem?_set] at hu
  split at hu
  · rename_i e1
    split at hu
    · cases hu
      have : q = (i, am_v ad v) := Prod.ext e1.symm he
      rw [this]
      exact List.mem_cons_self
    · cases hu
  · rename_i e1
    refine List.mem_cons_of_mem _ (List.mem_filter.mpr ⟨am_lv_mem.mpr ⟨u, hu, he⟩, ?_⟩)
    have h1 : (q.1 == i) = false := by rw [beq_eq_false_iff_ne]; exact fun h => e1 h.symm
    have h2 : (q.2.category == 2) = false := by rw [he, am_cat]; rfl
    rw [h1, h2]
    simp
theorem am_Ls.ext {n : Nat} {ad ad' : Nat → Nat} {L : List (Option am_V)} {ls : Array Slot} (h : am_Ls ad L ls) (hx : am_ext n ad ad') (hv : am_vL n L) : am_Ls ad' L ls :=
  ⟨h.1, h.2.1, fun q hq => by
    obtain ⟨v, h1, h2⟩ := am_lv_mem.mp hq
    exact h.2.2 q (am_lv_mem.mpr ⟨v, h1, by rw [h2, hx.v (hv _ _ h1)]⟩)⟩
theorem am_args_mem : ∀ (vs : List Value), (∀ v ∈ vs, v.category = 1) → ∀ (k i : Nat) (v : Value), vs[i]? = some v → (k + i, v) ∈ lv_args k vs
  | [], _, _, _, _, h => by simp at h
  | u :: vs, hc, k, i, v, h => by
    have hu : u.category = 1 := hc u List.mem_cons_self
    have hr : lv_args k (u :: vs) = (k, u) :: lv_args (k + 1) vs := by simp [lv_args, hu]
    rw [hr]
    cases i with
    | zero => simp at h; rw [h]; exact List.mem_cons_self
    | succ i =>
      have := am_args_mem vs (fun v hv => hc v (List.mem_cons_of_mem _ hv)) (k + 1) i v (by simpa using h)
      rw [show k + (i + 1) = k + 1 + i by omega]
      exact List.mem_cons_of_mem _ this
theorem am_sl_len : ∀ (vs : List Value), (∀ v ∈ vs, v.category = 1) → (lg_sl vs).length = vs.length
  | [], _ => rfl
  | u :: vs, hc => by
    have hu : u.category = 1 := hc u List.mem_cons_self
    have ih := am_sl_len vs (fun v hv => hc v (List.mem_cons_of_mem _ hv))
    have : lg_sl (u :: vs) = .val u :: lg_sl vs := by simp [lg_sl, hu]
    rw [this, List.length_cons, ih, List.length_cons]
/-- the locals at a method's entry -/
def am_in (av : List am_V) (n : Nat) : List (Option am_V) := av.map some ++ List.replicate (n - av.length) none
theorem am_in_len {av : List am_V} {n : Nat} (h : av.length ≤ n) : (am_in av n).length = n := by
  simp [am_in]; omega
theorem am_in_at {av : List am_V} {n i : Nat} {v : am_V} (h : (am_in av n)[i]? = some (some v)) : av[i]? = some v := by
  unfold am_in at h
  rw [List.getElem?_append] at h
  split at h
  · simpa using h
  · rw [List.getElem?_replicate] at h
    split at h <;> cases h
theorem am_entry (ad : Nat → Nat) (av : List am_V) {n : Nat} (h : av.length ≤ n) : am_Ls ad (am_in av n) ((lg_sl (av.map (am_v ad)) ++ List.replicate (n - (lg_sl (av.map (am_v ad))).length) Slot.unset).toArray) := by
  have hc : ∀ v ∈ av.map (am_v ad), v.category = 1 := fun v hv => by
    obtain ⟨u, -, rfl⟩ := List.mem_map.mp hv
    exact am_cat ad u
  have h1 := lv_entry (av.map (am_v ad)) (n := n) (by rw [am_sl_len _ hc, List.length_map]; exact h)
  refine ⟨by rw [am_in_len h]; exact h1.1, h1.2.1, fun q hq => h1.2.2 q ?_⟩
  obtain ⟨v, g1, g2⟩ := am_lv_mem.mp hq
  have g3 := am_in_at g1
  have := am_args_mem (av.map (am_v ad)) hc 0 q.1 q.2 (by rw [List.getElem?_map, g3, g2]; rfl)
  rw [Nat.zero_add] at this
  exact this
theorem am_sumcat (ad : Nat → Nat) : ∀ st : List am_V, ((st.map (am_v ad)).map fun v => v.category).sum = st.length
  | [] => rfl
  | v :: st => by
    have ih := am_sumcat ad st
    rw [List.map_cons, List.map_cons, List.sum_cons, ih, am_cat, List.length_cons]
    omega
