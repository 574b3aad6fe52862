section Hp
variable {w : am_W} {j d : Nat} {k : Nat × Nat} {pc : Nat} {L : List (Option am_V)} {st : List am_V} {G : am_G} {P : Option am_V → am_G → Prop}
theorem go_getO {i ci q idx a : Nat} (h : decode (am_by j) pc = .ok (.getfield idx, 3)) (hf : am_Fl (am_own j) idx ci q) (ht : refKind (am_ft ci q) = true) (hs : G.1[i]? = some (0, ci)) (hr : G.2.2 i q = some a) (kk : am_Go w j d k (pc + 3) L (.inr (some a) :: st) G P) : am_Go w j d k pc L (.inr (some i) :: st) G P :=
  go_getR h hf ht hs (by rw [hr]; exact kk)
end Hp
theorem nw_n (G : am_G) (s : Nat × Nat) : am_n (am_nw G s) = am_n G + 1 := by simp [am_n, am_nw]
theorem wr_n (G : am_G) (i k : Nat) (r : Option Nat) : am_n (am_wr G i k r) = am_n G := rfl
theorem nw_at (G : am_G) (s : Nat × Nat) : (am_nw G s).1[am_n G]? = some s := by simp [am_nw, am_n]
theorem nw_sh {G : am_G} {s x : Nat × Nat} {i : Nat} (h : G.1[i]? = some x) : (am_nw G s).1[i]? = some x := by
  unfold am_nw
  rw [List.getElem?_append_left (am_lt h)]
  exact h
theorem wr_sh {G : am_G} {i a k : Nat} {r : Option Nat} {x : Nat × Nat} (h : G.1[i]? = some x) : (am_wr G a k r).1[i]? = some x := h
/-- a new array of tag t and length n, into field k of object h -/
def mkA (G : am_G) (h k t n : Nat) : am_G := am_wr (am_nw G (t, n)) h k (some (am_n G))
theorem mkA_n (G : am_G) (h k t n : Nat) : am_n (mkA G h k t n) = am_n G + 1 := nw_n G _
theorem mkA_sh {G : am_G} {h k t n i : Nat} {x : Nat × Nat} (hx : G.1[i]? = some x) : (mkA G h k t n).1[i]? = some x := nw_sh hx
/-- all ints are 0 -/
def zI (G : am_G) : Prop := ∀ i k, G.2.1 i k = 0
theorem zI_nw {G : am_G} {s : Nat × Nat} (h : zI G) : zI (am_nw G s) := fun i k => by
  show va_up G.2.1 G.1.length (fun _ => 0) i k = 0
  unfold va_up
  split
  · rfl
  · exact h i k
theorem zI_wr {G : am_G} {i k : Nat} {r : Option Nat} (h : zI G) : zI (am_wr G i k r) := h
theorem zI_mkA {G : am_G} {h k t n : Nat} (hz : zI G) : zI (mkA G h k t n) := zI_nw (s := (t, n)) hz
theorem mkA_R {G : am_G} {h k t n i q : Nat} (hi : i < am_n G) (hne : i ≠ h) : (mkA G h k t n).2.2 i q = G.2.2 i q := by
  show va_up (va_up G.2.2 G.1.length (fun _ => none)) h (va_up (va_up G.2.2 G.1.length (fun _ => none) h) k (some (am_n G))) i q = _
  rw [am_up_ne hne, am_up_ne (show i ≠ G.1.length from Nat.ne_of_lt hi)]
theorem nw_R {G : am_G} {s : Nat × Nat} {i q : Nat} (hi : i < am_n G) : (am_nw G s).2.2 i q = G.2.2 i q := by
  show va_up G.2.2 G.1.length (fun _ => none) i q = _
  rw [am_up_ne (show i ≠ G.1.length from Nat.ne_of_lt hi)]
theorem wr_R {G : am_G} {a k i q : Nat} {r : Option Nat} (hne : i ≠ a) : (am_wr G a k r).2.2 i q = G.2.2 i q := by
  show va_up G.2.2 a (va_up (G.2.2 a) k r) i q = _
  rw [am_up_ne hne]
theorem wr_R' {G : am_G} {a k q : Nat} {r : Option Nat} (hne : q ≠ k) : (am_wr G a k r).2.2 a q = G.2.2 a q := by
  show va_up G.2.2 a (va_up (G.2.2 a) k r) a q = _
  rw [am_up_eq, am_up_ne hne]
theorem wr_Rs {G : am_G} {a k : Nat} {r : Option Nat} : (am_wr G a k r).2.2 a k = r := by
  show va_up G.2.2 a (va_up (G.2.2 a) k r) a k = _
  rw [am_up_eq, am_up_eq]
section Hp2
variable {w : am_W} {j d : Nat} {k : Nat × Nat} {pc : Nat} {L : List (Option am_V)} {st : List am_V} {G : am_G} {P : Option am_V → am_G → Prop}
theorem am_inc (a : Nat) : nI a + Int32.ofInt 1 = nI (a + 1) := nI_1 a
theorem go_inc {i a : Nat} (h : decode (am_by j) pc = .ok (.iinc i 1, 3)) (hi : L[i]? = some (some (.inl (nI a)))) (kk : am_Go w j d k (pc + 3) (L.set i (some (.inl (nI (a + 1))))) st G P) : am_Go w j d k pc L st G P :=
  go_iinc h hi (by rw [am_inc]; exact kk)
theorem go_gen (kk : ∀ G1, G1 = G → am_Go w j d k pc L st G1 P) : am_Go w j d k pc L st G P := kk G rfl
end Hp2
theorem zI_wi {G : am_G} {i k : Nat} (h : zI G) : zI (am_wi G i k 0) := fun a b => by
  show va_up G.2.1 i (upd (G.2.1 i) k 0) a b = 0
  unfold va_up upd
  split
  · rename_i e; subst e
    show (if b = k then (0 : Int32) else G.2.1 a b) = 0
    split
    · rfl
    · exact h a b
  · exact h a b

def E_new (G : am_G) (h : Nat) : am_G := (mkA (mkA (mkA (mkA (mkA (mkA (mkA G h 0 1 60) h 1 1 60) h 2 1 60) h 3 1 8) h 4 1 8) h 5 1 8) h 6 1 8)
theorem E_new_n (G : am_G) (h : Nat) : am_n (E_new G h) = am_n G + 7 := by simp only [E_new, mkA_n]
theorem E_new_sh {G : am_G} {h i : Nat} {x : Nat × Nat} (hx : G.1[i]? = some x) : (E_new G h).1[i]? = some x := mkA_sh (mkA_sh (mkA_sh (mkA_sh (mkA_sh (mkA_sh (mkA_sh (hx)))))))
theorem E_new_z {G : am_G} {h : Nat} (hz : zI G) : zI (E_new G h) := zI_mkA (zI_mkA (zI_mkA (zI_mkA (zI_mkA (zI_mkA (zI_mkA (hz)))))))
theorem E_new_R {G : am_G} {h i q : Nat} (hi : i < am_n G) (hne : i ≠ h) : (E_new G h).2.2 i q = G.2.2 i q := by
  unfold E_new
  rw [mkA_R (by first | omega | (simp only [mkA_n, nw_n, wr_n]; omega)) hne, mkA_R (by first | omega | (simp only [mkA_n, nw_n, wr_n]; omega)) hne, mkA_R (by first | omega | (simp only [mkA_n, nw_n, wr_n]; omega)) hne, mkA_R (by first | omega | (simp only [mkA_n, nw_n, wr_n]; omega)) hne, mkA_R (by first | omega | (simp only [mkA_n, nw_n, wr_n]; omega)) hne, mkA_R (by first | omega | (simp only [mkA_n, nw_n, wr_n]; omega)) hne, mkA_R (by first | omega | (simp only [mkA_n, nw_n, wr_n]; omega)) hne]
set_option maxRecDepth 100000 in
theorem okE_init (w : am_W) {d : Nat} (hd : 1 ≤ d) (G : am_G) (h : Nat) (hn : am_n G < 900000) (hs0 : G.1[h]? = some (0, 1)) : am_Ok w jE_init d (7, 212) [.inr (some h)] G (fun r G' => r = none ∧ G' = E_new G h) := by
  refine am_ok_of rfl (Nat.le_of_ble_eq_true rfl) ?_
  show am_Go w jE_init d (7, 212) 0 [some (.inr (some h))] [] G _
  refine go_aload_n dE_init_0 rfl rfl ?_
  refine go_objInit hd (Nat.le_of_ble_eq_true rfl) lkE_3 ob_in ob_co dE_init_1 ?_
  refine go_aload_n dE_init_4 rfl rfl ?_
  refine go_bipush (nI 60) (by decide) dE_init_5 ?_
  refine go_newI (n := 60) (by omega) rfl (by decide) (by decide) (by decide) ac_int dE_init_7 ?_
  refine go_putF dE_init_9 rfl ffE_9 rfl (nw_sh hs0) ?_
  refine go_gen (G := mkA G h 0 1 60) (fun G1 e1 => ?_)
  have hs1 : G1.1[h]? = some (0, 1) := by rw [e1]; exact mkA_sh hs0
  have n1 : am_n G1 = am_n G + 1 := by rw [e1]; exact mkA_n _ _ _ _ _
  refine go_aload_n dE_init_12 rfl rfl ?_
  refine go_bipush (nI 60) (by decide) dE_init_13 ?_
  refine go_newI (n := 60) (by omega) rfl (by decide) (by decide) (by decide) ac_int dE_init_15 ?_
  refine go_putF dE_init_17 rfl ffE_15 rfl (nw_sh hs1) ?_
  refine go_gen (G := mkA G1 h 1 1 60) (fun G2 e2 => ?_)
  have hs2 : G2.1[h]? = some (0, 1) := by rw [e2]; exact mkA_sh hs1
  have n2 : am_n G2 = am_n G1 + 1 := by rw [e2]; exact mkA_n _ _ _ _ _
  refine go_aload_n dE_init_20 rfl rfl ?_
  refine go_bipush (nI 60) (by decide) dE_init_21 ?_
  refine go_newI (n := 60) (by omega) rfl (by decide) (by decide) (by decide) ac_int dE_init_23 ?_
  refine go_putF dE_init_25 rfl ffE_18 rfl (nw_sh hs2) ?_
  refine go_gen (G := mkA G2 h 2 1 60) (fun G3 e3 => ?_)
  have hs3 : G3.1[h]? = some (0, 1) := by rw [e3]; exact mkA_sh hs2
  have n3 : am_n G3 = am_n G2 + 1 := by rw [e3]; exact mkA_n _ _ _ _ _
  refine go_aload_n dE_init_28 rfl rfl ?_
  refine go_bipush (nI 8) (by decide) dE_init_29 ?_
  refine go_newI (n := 8) (by omega) rfl (by decide) (by decide) (by decide) ac_int dE_init_31 ?_
  refine go_putF dE_init_33 rfl ffE_21 rfl (nw_sh hs3) ?_
  refine go_gen (G := mkA G3 h 3 1 8) (fun G4 e4 => ?_)
  have hs4 : G4.1[h]? = some (0, 1) := by rw [e4]; exact mkA_sh hs3
  have n4 : am_n G4 = am_n G3 + 1 := by rw [e4]; exact mkA_n _ _ _ _ _
  refine go_aload_n dE_init_36 rfl rfl ?_
  refine go_bipush (nI 8) (by decide) dE_init_37 ?_
  refine go_newI (n := 8) (by omega) rfl (by decide) (by decide) (by decide) ac_int dE_init_39 ?_
  refine go_putF dE_init_41 rfl ffE_24 rfl (nw_sh hs4) ?_
  refine go_gen (G := mkA G4 h 4 1 8) (fun G5 e5 => ?_)
  have hs5 : G5.1[h]? = some (0, 1) := by rw [e5]; exact mkA_sh hs4
  have n5 : am_n G5 = am_n G4 + 1 := by rw [e5]; exact mkA_n _ _ _ _ _
  refine go_aload_n dE_init_44 rfl rfl ?_
  refine go_bipush (nI 8) (by decide) dE_init_45 ?_
  refine go_newI (n := 8) (by omega) rfl (by decide) (by decide) (by decide) ac_int dE_init_47 ?_
  refine go_putF dE_init_49 rfl ffE_27 rfl (nw_sh hs5) ?_
  refine go_gen (G := mkA G5 h 5 1 8) (fun G6 e6 => ?_)
  have hs6 : G6.1[h]? = some (0, 1) := by rw [e6]; exact mkA_sh hs5
  have n6 : am_n G6 = am_n G5 + 1 := by rw [e6]; exact mkA_n _ _ _ _ _
  refine go_aload_n dE_init_52 rfl rfl ?_
  refine go_bipush (nI 8) (by decide) dE_init_53 ?_
  refine go_newI (n := 8) (by omega) rfl (by decide) (by decide) (by decide) ac_int dE_init_55 ?_
  refine go_putF dE_init_57 rfl ffE_30 rfl (nw_sh hs6) ?_
  refine go_gen (G := mkA G6 h 6 1 8) (fun G7 e7 => ?_)
  have hs7 : G7.1[h]? = some (0, 1) := by rw [e7]; exact mkA_sh hs6
  have n7 : am_n G7 = am_n G6 + 1 := by rw [e7]; exact mkA_n _ _ _ _ _
  exact go_return rfl dE_init_60 ⟨rfl, by unfold E_new; rw [e7, e6, e5, e4, e3, e2, e1]⟩
def C_new (G : am_G) (h : Nat) : am_G := (mkA (mkA (mkA (mkA (mkA (mkA G h 0 1 60) h 2 1 960) h 3 2 60) h 4 2 60) h 5 1 16) h 6 1 16)
theorem C_new_n (G : am_G) (h : Nat) : am_n (C_new G h) = am_n G + 6 := by simp only [C_new, mkA_n]
theorem C_new_sh {G : am_G} {h i : Nat} {x : Nat × Nat} (hx : G.1[i]? = some x) : (C_new G h).1[i]? = some x := mkA_sh (mkA_sh (mkA_sh (mkA_sh (mkA_sh (mkA_sh (hx))))))
theorem C_new_z {G : am_G} {h : Nat} (hz : zI G) : zI (C_new G h) := zI_mkA (zI_mkA (zI_mkA (zI_mkA (zI_mkA (zI_mkA (hz))))))
theorem C_new_R {G : am_G} {h i q : Nat} (hi : i < am_n G) (hne : i ≠ h) : (C_new G h).2.2 i q = G.2.2 i q := by
  unfold C_new
  rw [mkA_R (by first | omega | (simp only [mkA_n, nw_n, wr_n]; omega)) hne, mkA_R (by first | omega | (simp only [mkA_n, nw_n, wr_n]; omega)) hne, mkA_R (by first | omega | (simp only [mkA_n, nw_n, wr_n]; omega)) hne, mkA_R (by first | omega | (simp only [mkA_n, nw_n, wr_n]; omega)) hne, mkA_R (by first | omega | (simp only [mkA_n, nw_n, wr_n]; omega)) hne, mkA_R (by first | omega | (simp only [mkA_n, nw_n, wr_n]; omega)) hne]
set_option maxRecDepth 100000 in
theorem okC_init (w : am_W) {d : Nat} (hd : 1 ≤ d) (G : am_G) (h : Nat) (hn : am_n G < 900000) (hs0 : G.1[h]? = some (0, 3)) : am_Ok w jC_init d (6, 1172) [.inr (some h)] G (fun r G' => r = none ∧ G' = C_new G h) := by
  refine am_ok_of rfl (Nat.le_of_ble_eq_true rfl) ?_
  show am_Go w jC_init d (6, 1172) 0 [some (.inr (some h))] [] G _
  refine go_aload_n dC_init_0 rfl rfl ?_
  refine go_objInit hd (Nat.le_of_ble_eq_true rfl) lkC_3 ob_in ob_co dC_init_1 ?_
  refine go_aload_n dC_init_4 rfl rfl ?_
  refine go_bipush (nI 60) (by decide) dC_init_5 ?_
  refine go_newI (n := 60) (by omega) rfl (by decide) (by decide) (by decide) ac_int dC_init_7 ?_
  refine go_putF dC_init_9 rfl ffC_9 rfl (nw_sh hs0) ?_
  refine go_gen (G := mkA G h 0 1 60) (fun G1 e1 => ?_)
  have hs1 : G1.1[h]? = some (0, 3) := by rw [e1]; exact mkA_sh hs0
  have n1 : am_n G1 = am_n G + 1 := by rw [e1]; exact mkA_n _ _ _ _ _
  refine go_aload_n dC_init_12 rfl rfl ?_
  refine go_sipush (nI 960) (by decide) dC_init_13 ?_
  refine go_newI (n := 960) (by omega) rfl (by decide) (by decide) (by decide) ac_int dC_init_16 ?_
  refine go_putF dC_init_18 rfl ffC_15 rfl (nw_sh hs1) ?_
  refine go_gen (G := mkA G1 h 2 1 960) (fun G2 e2 => ?_)
  have hs2 : G2.1[h]? = some (0, 3) := by rw [e2]; exact mkA_sh hs1
  have n2 : am_n G2 = am_n G1 + 1 := by rw [e2]; exact mkA_n _ _ _ _ _
  refine go_aload_n dC_init_21 rfl rfl ?_
  refine go_bipush (nI 60) (by decide) dC_init_22 ?_
  refine go_newZ (n := 60) (by omega) rfl (by decide) (by decide) (by decide) ac_boolean dC_init_24 ?_
  refine go_putF dC_init_26 rfl ffC_18 rfl (nw_sh hs2) ?_
  refine go_gen (G := mkA G2 h 3 2 60) (fun G3 e3 => ?_)
  have hs3 : G3.1[h]? = some (0, 3) := by rw [e3]; exact mkA_sh hs2
  have n3 : am_n G3 = am_n G2 + 1 := by rw [e3]; exact mkA_n _ _ _ _ _
  refine go_aload_n dC_init_29 rfl rfl ?_
  refine go_bipush (nI 60) (by decide) dC_init_30 ?_
  refine go_newZ (n := 60) (by omega) rfl (by decide) (by decide) (by decide) ac_boolean dC_init_32 ?_
  refine go_putF dC_init_34 rfl ffC_22 rfl (nw_sh hs3) ?_
  refine go_gen (G := mkA G3 h 4 2 60) (fun G4 e4 => ?_)
  have hs4 : G4.1[h]? = some (0, 3) := by rw [e4]; exact mkA_sh hs3
  have n4 : am_n G4 = am_n G3 + 1 := by rw [e4]; exact mkA_n _ _ _ _ _
  refine go_aload_n dC_init_37 rfl rfl ?_
  refine go_bipush (nI 16) (by decide) dC_init_38 ?_
  refine go_newI (n := 16) (by omega) rfl (by decide) (by decide) (by decide) ac_int dC_init_40 ?_
  refine go_putF dC_init_42 rfl ffC_25 rfl (nw_sh hs4) ?_
  refine go_gen (G := mkA G4 h 5 1 16) (fun G5 e5 => ?_)
  have hs5 : G5.1[h]? = some (0, 3) := by rw [e5]; exact mkA_sh hs4
  have n5 : am_n G5 = am_n G4 + 1 := by rw [e5]; exact mkA_n _ _ _ _ _
  refine go_aload_n dC_init_45 rfl rfl ?_
  refine go_bipush (nI 16) (by decide) dC_init_46 ?_
  refine go_newI (n := 16) (by omega) rfl (by decide) (by decide) (by decide) ac_int dC_init_48 ?_
  refine go_putF dC_init_50 rfl ffC_28 rfl (nw_sh hs5) ?_
  refine go_gen (G := mkA G5 h 6 1 16) (fun G6 e6 => ?_)
  have hs6 : G6.1[h]? = some (0, 3) := by rw [e6]; exact mkA_sh hs5
  have n6 : am_n G6 = am_n G5 + 1 := by rw [e6]; exact mkA_n _ _ _ _ _
  exact go_return rfl dC_init_53 ⟨rfl, by unfold C_new; rw [e6, e5, e4, e3, e2, e1]⟩
def L_new (G : am_G) (h : Nat) : am_G := (mkA G h 0 1 120)
theorem L_new_n (G : am_G) (h : Nat) : am_n (L_new G h) = am_n G + 1 := by simp only [L_new, mkA_n]
theorem L_new_sh {G : am_G} {h i : Nat} {x : Nat × Nat} (hx : G.1[i]? = some x) : (L_new G h).1[i]? = some x := mkA_sh (hx)
theorem L_new_z {G : am_G} {h : Nat} (hz : zI G) : zI (L_new G h) := zI_mkA (hz)
theorem L_new_R {G : am_G} {h i q : Nat} (hi : i < am_n G) (hne : i ≠ h) : (L_new G h).2.2 i q = G.2.2 i q := by
  unfold L_new
  rw [mkA_R (by first | omega | (simp only [mkA_n, nw_n, wr_n]; omega)) hne]
set_option maxRecDepth 100000 in
theorem okL_init (w : am_W) {d : Nat} (hd : 1 ≤ d) (G : am_G) (h : Nat) (hn : am_n G < 900000) (hs0 : G.1[h]? = some (0, 4)) : am_Ok w jL_init d (1, 120) [.inr (some h)] G (fun r G' => r = none ∧ G' = L_new G h) := by
  refine am_ok_of rfl (Nat.le_of_ble_eq_true rfl) ?_
  show am_Go w jL_init d (1, 120) 0 [some (.inr (some h))] [] G _
  refine go_aload_n dL_init_0 rfl rfl ?_
  refine go_objInit hd (Nat.le_of_ble_eq_true rfl) lkL_3 ob_in ob_co dL_init_1 ?_
  refine go_aload_n dL_init_4 rfl rfl ?_
  refine go_bipush (nI 120) (by decide) dL_init_5 ?_
  refine go_newI (n := 120) (by omega) rfl (by decide) (by decide) (by decide) ac_int dL_init_7 ?_
  refine go_putF dL_init_9 rfl ffL_9 rfl (nw_sh hs0) ?_
  refine go_gen (G := mkA G h 0 1 120) (fun G1 e1 => ?_)
  have hs1 : G1.1[h]? = some (0, 4) := by rw [e1]; exact mkA_sh hs0
  have n1 : am_n G1 = am_n G + 1 := by rw [e1]; exact mkA_n _ _ _ _ _
  exact go_return rfl dL_init_12 ⟨rfl, by unfold L_new; rw [e1]⟩
def A_new (G : am_G) (h : Nat) : am_G := (mkA (mkA G h 0 1 8) h 1 1 8)
theorem A_new_n (G : am_G) (h : Nat) : am_n (A_new G h) = am_n G + 2 := by simp only [A_new, mkA_n]
theorem A_new_sh {G : am_G} {h i : Nat} {x : Nat × Nat} (hx : G.1[i]? = some x) : (A_new G h).1[i]? = some x := mkA_sh (mkA_sh (hx))
theorem A_new_z {G : am_G} {h : Nat} (hz : zI G) : zI (A_new G h) := zI_mkA (zI_mkA (hz))
theorem A_new_R {G : am_G} {h i q : Nat} (hi : i < am_n G) (hne : i ≠ h) : (A_new G h).2.2 i q = G.2.2 i q := by
  unfold A_new
  rw [mkA_R (by first | omega | (simp only [mkA_n, nw_n, wr_n]; omega)) hne, mkA_R (by first | omega | (simp only [mkA_n, nw_n, wr_n]; omega)) hne]
set_option maxRecDepth 100000 in
theorem okA_init (w : am_W) {d : Nat} (hd : 1 ≤ d) (G : am_G) (h : Nat) (hn : am_n G < 900000) (hs0 : G.1[h]? = some (0, 5)) : am_Ok w jA_init d (2, 16) [.inr (some h)] G (fun r G' => r = none ∧ G' = A_new G h) := by
  refine am_ok_of rfl (Nat.le_of_ble_eq_true rfl) ?_
  show am_Go w jA_init d (2, 16) 0 [some (.inr (some h))] [] G _
  refine go_aload_n dA_init_0 rfl rfl ?_
  refine go_objInit hd (Nat.le_of_ble_eq_true rfl) lkA_3 ob_in ob_co dA_init_1 ?_
  refine go_aload_n dA_init_4 rfl rfl ?_
  refine go_bipush (nI 8) (by decide) dA_init_5 ?_
  refine go_newI (n := 8) (by omega) rfl (by decide) (by decide) (by decide) ac_int dA_init_7 ?_
  refine go_putF dA_init_9 rfl ffA_9 rfl (nw_sh hs0) ?_
  refine go_gen (G := mkA G h 0 1 8) (fun G1 e1 => ?_)
  have hs1 : G1.1[h]? = some (0, 5) := by rw [e1]; exact mkA_sh hs0
  have n1 : am_n G1 = am_n G + 1 := by rw [e1]; exact mkA_n _ _ _ _ _
  refine go_aload_n dA_init_12 rfl rfl ?_
  refine go_bipush (nI 8) (by decide) dA_init_13 ?_
  refine go_newI (n := 8) (by omega) rfl (by decide) (by decide) (by decide) ac_int dA_init_15 ?_
  refine go_putF dA_init_17 rfl ffA_15 rfl (nw_sh hs1) ?_
  refine go_gen (G := mkA G1 h 1 1 8) (fun G2 e2 => ?_)
  have hs2 : G2.1[h]? = some (0, 5) := by rw [e2]; exact mkA_sh hs1
  have n2 : am_n G2 = am_n G1 + 1 := by rw [e2]; exact mkA_n _ _ _ _ _
  exact go_return rfl dA_init_20 ⟨rfl, by unfold A_new; rw [e2, e1]⟩
def R_new (G : am_G) (h : Nat) : am_G := (mkA (mkA (mkA (mkA (mkA (mkA (mkA (mkA (mkA (mkA (mkA (mkA (mkA (mkA (mkA (mkA (mkA (mkA (mkA (mkA (mkA (mkA (mkA (mkA (mkA (mkA (mkA (mkA (mkA (mkA (mkA (mkA (mkA (mkA (mkA (mkA G h 0 1 720) h 1 1 720) h 2 1 720) h 3 1 12) h 4 1 12) h 5 1 12) h 6 1 96) h 7 1 96) h 8 1 96) h 9 1 96) h 10 2 12) h 12 2 60) h 13 1 60) h 14 1 480) h 15 1 480) h 16 1 8) h 17 1 8) h 22 2 6) h 23 1 2200) h 24 1 2200) h 25 1 1100) h 26 1 12) h 27 1 12) h 28 1 12) h 29 1 12) h 30 1 96) h 31 1 96) h 32 1 120) h 33 1 120) h 44 1 130) h 45 1 130) h 46 1 130) h 47 1 40) h 48 1 40) h 49 1 40) h 50 1 40)
theorem R_new_n (G : am_G) (h : Nat) : am_n (R_new G h) = am_n G + 36 := by simp only [R_new, mkA_n]
theorem R_new_sh {G : am_G} {h i : Nat} {x : Nat × Nat} (hx : G.1[i]? = some x) : (R_new G h).1[i]? = some x := mkA_sh (mkA_sh (mkA_sh (mkA_sh (mkA_sh (mkA_sh (mkA_sh (mkA_sh (mkA_sh (mkA_sh (mkA_sh (mkA_sh (mkA_sh (mkA_sh (mkA_sh (mkA_sh (mkA_sh (mkA_sh (mkA_sh (mkA_sh (mkA_sh (mkA_sh (mkA_sh (mkA_sh (mkA_sh (mkA_sh (mkA_sh (mkA_sh (mkA_sh (mkA_sh (mkA_sh (mkA_sh (mkA_sh (mkA_sh (mkA_sh (mkA_sh (hx))))))))))))))))))))))))))))))))))))
theorem R_new_z {G : am_G} {h : Nat} (hz : zI G) : zI (R_new G h) := zI_mkA (zI_mkA (zI_mkA (zI_mkA (zI_mkA (zI_mkA (zI_mkA (zI_mkA (zI_mkA (zI_mkA (zI_mkA (zI_mkA (zI_mkA (zI_mkA (zI_mkA (zI_mkA (zI_mkA (zI_mkA (zI_mkA (zI_mkA (zI_mkA (zI_mkA (zI_mkA (zI_mkA (zI_mkA (zI_mkA (zI_mkA (zI_mkA (zI_mkA (zI_mkA (zI_mkA (zI_mkA (zI_mkA (zI_mkA (zI_mkA (zI_mkA (hz))))))))))))))))))))))))))))))))))))
theorem R_new_R {G : am_G} {h i q : Nat} (hi : i < am_n G) (hne : i ≠ h) : (R_new G h).2.2 i q = G.2.2 i q := by
  unfold R_new
  rw [mkA_R (by first | omega | (simp only [mkA_n, nw_n, wr_n]; omega)) hne, mkA_R (by first | omega | (simp only [mkA_n, nw_n, wr_n]; omega)) hne, mkA_R (by first | omega | (simp only [mkA_n, nw_n, wr_n]; omega)) hne, mkA_R (by first | omega | (simp only [mkA_n, nw_n, wr_n]; omega)) hne, mkA_R (by first | omega | (simp only [mkA_n, nw_n, wr_n]; omega)) hne, mkA_R (by first | omega | (simp only [mkA_n, nw_n, wr_n]; omega)) hne, mkA_R (by first | omega | (simp only [mkA_n, nw_n, wr_n]; omega)) hne, mkA_R (by first | omega | (simp only [mkA_n, nw_n, wr_n]; omega)) hne, mkA_R (by first | omega | (simp only [mkA_n, nw_n, wr_n]; omega)) hne, mkA_R (by first | omega | (simp only [mkA_n, nw_n, wr_n]; omega)) hne, mkA_R (by first | omega | (simp only [mkA_n, nw_n, wr_n]; omega)) hne, mkA_R (by first | omega | (simp only [mkA_n, nw_n, wr_n]; omega)) hne, mkA_R (by first | omega | (simp only [mkA_n, nw_n, wr_n]; omega)) hne, mkA_R (by first | omega | (simp only [mkA_n, nw_n, wr_n]; omega)) hne, mkA_R (by first | omega | (simp only [mkA_n, nw_n, wr_n]; omega)) hne, mkA_R (by first | omega | (simp only [mkA_n, nw_n, wr_n]; omega)) hne, mkA_R (by first | omega | (simp only [mkA_n, nw_n, wr_n]; omega)) hne, mkA_R (by first | omega | (simp only [mkA_n, nw_n, wr_n]; omega)) hne, mkA_R (by first | omega | (simp only [mkA_n, nw_n, wr_n]; omega)) hne, mkA_R (by first | omega | (simp only [mkA_n, nw_n, wr_n]; omega)) hne, mkA_R (by first | omega | (simp only [mkA_n, nw_n, wr_n]; omega)) hne, mkA_R (by first | omega | (simp only [mkA_n, nw_n, wr_n]; omega)) hne, mkA_R (by first | omega | (simp only [mkA_n, nw_n, wr_n]; omega)) hne, mkA_R (by first | omega | (simp only [mkA_n, nw_n, wr_n]; omega)) hne, mkA_R (by first | omega | (simp only [mkA_n, nw_n, wr_n]; omega)) hne, mkA_R (by first | omega | (simp only [mkA_n, nw_n, wr_n]; omega)) hne, mkA_R (by first | omega | (simp only [mkA_n, nw_n, wr_n]; omega)) hne, mkA_R (by first | omega | (simp only [mkA_n, nw_n, wr_n]; omega)) hne, mkA_R (by first | omega | (simp only [mkA_n, nw_n, wr_n]; omega)) hne, mkA_R (by first | omega | (simp only [mkA_n, nw_n, wr_n]; omega)) hne, mkA_R (by first | omega | (simp only [mkA_n, nw_n, wr_n]; omega)) hne, mkA_R (by first | omega | (simp only [mkA_n, nw_n, wr_n]; omega)) hne, mkA_R (by first | omega | (simp only [mkA_n, nw_n, wr_n]; omega)) hne, mkA_R (by first | omega | (simp only [mkA_n, nw_n, wr_n]; omega)) hne, mkA_R (by first | omega | (simp only [mkA_n, nw_n, wr_n]; omega)) hne, mkA_R (by first | omega | (simp only [mkA_n, nw_n, wr_n]; omega)) hne]
set_option maxRecDepth 100000 in
theorem okR_init (w : am_W) {d : Nat} (hd : 1 ≤ d) (G : am_G) (h : Nat) (hn : am_n G < 900000) (hs0 : G.1[h]? = some (0, 8)) : am_Ok w jR_init d (36, 10224) [.inr (some h)] G (fun r G' => r = none ∧ G' = R_new G h) := by
  refine am_ok_of rfl (Nat.le_of_ble_eq_true rfl) ?_
  show am_Go w jR_init d (36, 10224) 0 [some (.inr (some h))] [] G _
  refine go_aload_n dR_init_0 rfl rfl ?_
  refine go_objInit hd (Nat.le_of_ble_eq_true rfl) lkR_1 ob_in ob_co dR_init_1 ?_
  refine go_aload_n dR_init_4 rfl rfl ?_
  refine go_sipush (nI 720) (by decide) dR_init_5 ?_
  refine go_newI (n := 720) (by omega) rfl (by decide) (by decide) (by decide) ac_int dR_init_8 ?_
  refine go_putF dR_init_10 rfl ffR_7 rfl (nw_sh hs0) ?_
  refine go_gen (G := mkA G h 0 1 720) (fun G1 e1 => ?_)
  have hs1 : G1.1[h]? = some (0, 8) := by rw [e1]; exact mkA_sh hs0
  have n1 : am_n G1 = am_n G + 1 := by rw [e1]; exact mkA_n _ _ _ _ _
  refine go_aload_n dR_init_13 rfl rfl ?_
  refine go_sipush (nI 720) (by decide) dR_init_14 ?_
  refine go_newI (n := 720) (by omega) rfl (by decide) (by decide) (by decide) ac_int dR_init_17 ?_
  refine go_putF dR_init_19 rfl ffR_13 rfl (nw_sh hs1) ?_
  refine go_gen (G := mkA G1 h 1 1 720) (fun G2 e2 => ?_)
  have hs2 : G2.1[h]? = some (0, 8) := by rw [e2]; exact mkA_sh hs1
  have n2 : am_n G2 = am_n G1 + 1 := by rw [e2]; exact mkA_n _ _ _ _ _
  refine go_aload_n dR_init_22 rfl rfl ?_
  refine go_sipush (nI 720) (by decide) dR_init_23 ?_
  refine go_newI (n := 720) (by omega) rfl (by decide) (by decide) (by decide) ac_int dR_init_26 ?_
  refine go_putF dR_init_28 rfl ffR_16 rfl (nw_sh hs2) ?_
  refine go_gen (G := mkA G2 h 2 1 720) (fun G3 e3 => ?_)
  have hs3 : G3.1[h]? = some (0, 8) := by rw [e3]; exact mkA_sh hs2
  have n3 : am_n G3 = am_n G2 + 1 := by rw [e3]; exact mkA_n _ _ _ _ _
  refine go_aload_n dR_init_31 rfl rfl ?_
  refine go_bipush (nI 12) (by decide) dR_init_32 ?_
  refine go_newI (n := 12) (by omega) rfl (by decide) (by decide) (by decide) ac_int dR_init_34 ?_
  refine go_putF dR_init_36 rfl ffR_19 rfl (nw_sh hs3) ?_
  refine go_gen (G := mkA G3 h 3 1 12) (fun G4 e4 => ?_)
  have hs4 : G4.1[h]? = some (0, 8) := by rw [e4]; exact mkA_sh hs3
  have n4 : am_n G4 = am_n G3 + 1 := by rw [e4]; exact mkA_n _ _ _ _ _
  refine go_aload_n dR_init_39 rfl rfl ?_
  refine go_bipush (nI 12) (by decide) dR_init_40 ?_
  refine go_newI (n := 12) (by omega) rfl (by decide) (by decide) (by decide) ac_int dR_init_42 ?_
  refine go_putF dR_init_44 rfl ffR_22 rfl (nw_sh hs4) ?_
  refine go_gen (G := mkA G4 h 4 1 12) (fun G5 e5 => ?_)
  have hs5 : G5.1[h]? = some (0, 8) := by rw [e5]; exact mkA_sh hs4
  have n5 : am_n G5 = am_n G4 + 1 := by rw [e5]; exact mkA_n _ _ _ _ _
  refine go_aload_n dR_init_47 rfl rfl ?_
  refine go_bipush (nI 12) (by decide) dR_init_48 ?_
  refine go_newI (n := 12) (by omega) rfl (by decide) (by decide) (by decide) ac_int dR_init_50 ?_
  refine go_putF dR_init_52 rfl ffR_25 rfl (nw_sh hs5) ?_
  refine go_gen (G := mkA G5 h 5 1 12) (fun G6 e6 => ?_)
  have hs6 : G6.1[h]? = some (0, 8) := by rw [e6]; exact mkA_sh hs5
  have n6 : am_n G6 = am_n G5 + 1 := by rw [e6]; exact mkA_n _ _ _ _ _
  refine go_aload_n dR_init_55 rfl rfl ?_
  refine go_bipush (nI 96) (by decide) dR_init_56 ?_
  refine go_newI (n := 96) (by omega) rfl (by decide) (by decide) (by decide) ac_int dR_init_58 ?_
  refine go_putF dR_init_60 rfl ffR_28 rfl (nw_sh hs6) ?_
  refine go_gen (G := mkA G6 h 6 1 96) (fun G7 e7 => ?_)
  have hs7 : G7.1[h]? = some (0, 8) := by rw [e7]; exact mkA_sh hs6
  have n7 : am_n G7 = am_n G6 + 1 := by rw [e7]; exact mkA_n _ _ _ _ _
  refine go_aload_n dR_init_63 rfl rfl ?_
  refine go_bipush (nI 96) (by decide) dR_init_64 ?_
  refine go_newI (n := 96) (by omega) rfl (by decide) (by decide) (by decide) ac_int dR_init_66 ?_
  refine go_putF dR_init_68 rfl ffR_31 rfl (nw_sh hs7) ?_
  refine go_gen (G := mkA G7 h 7 1 96) (fun G8 e8 => ?_)
  have hs8 : G8.1[h]? = some (0, 8) := by rw [e8]; exact mkA_sh hs7
  have n8 : am_n G8 = am_n G7 + 1 := by rw [e8]; exact mkA_n _ _ _ _ _
  refine go_aload_n dR_init_71 rfl rfl ?_
  refine go_bipush (nI 96) (by decide) dR_init_72 ?_
  refine go_newI (n := 96) (by omega) rfl (by decide) (by decide) (by decide) ac_int dR_init_74 ?_
  refine go_putF dR_init_76 rfl ffR_34 rfl (nw_sh hs8) ?_
  refine go_gen (G := mkA G8 h 8 1 96) (fun G9 e9 => ?_)
  have hs9 : G9.1[h]? = some (0, 8) := by rw [e9]; exact mkA_sh hs8
  have n9 : am_n G9 = am_n G8 + 1 := by rw [e9]; exact mkA_n _ _ _ _ _
  refine go_aload_n dR_init_79 rfl rfl ?_
  refine go_bipush (nI 96) (by decide) dR_init_80 ?_
  refine go_newI (n := 96) (by omega) rfl (by decide) (by decide) (by decide) ac_int dR_init_82 ?_
  refine go_putF dR_init_84 rfl ffR_37 rfl (nw_sh hs9) ?_
  refine go_gen (G := mkA G9 h 9 1 96) (fun G10 e10 => ?_)
  have hs10 : G10.1[h]? = some (0, 8) := by rw [e10]; exact mkA_sh hs9
  have n10 : am_n G10 = am_n G9 + 1 := by rw [e10]; exact mkA_n _ _ _ _ _
  refine go_aload_n dR_init_87 rfl rfl ?_
  refine go_bipush (nI 12) (by decide) dR_init_88 ?_
  refine go_newZ (n := 12) (by omega) rfl (by decide) (by decide) (by decide) ac_boolean dR_init_90 ?_
  refine go_putF dR_init_92 rfl ffR_40 rfl (nw_sh hs10) ?_
  refine go_gen (G := mkA G10 h 10 2 12) (fun G11 e11 => ?_)
  have hs11 : G11.1[h]? = some (0, 8) := by rw [e11]; exact mkA_sh hs10
  have n11 : am_n G11 = am_n G10 + 1 := by rw [e11]; exact mkA_n _ _ _ _ _
  refine go_aload_n dR_init_95 rfl rfl ?_
  refine go_bipush (nI 60) (by decide) dR_init_96 ?_
  refine go_newZ (n := 60) (by omega) rfl (by decide) (by decide) (by decide) ac_boolean dR_init_98 ?_
  refine go_putF dR_init_100 rfl ffR_44 rfl (nw_sh hs11) ?_
  refine go_gen (G := mkA G11 h 12 2 60) (fun G12 e12 => ?_)
  have hs12 : G12.1[h]? = some (0, 8) := by rw [e12]; exact mkA_sh hs11
  have n12 : am_n G12 = am_n G11 + 1 := by rw [e12]; exact mkA_n _ _ _ _ _
  refine go_aload_n dR_init_103 rfl rfl ?_
  refine go_bipush (nI 60) (by decide) dR_init_104 ?_
  refine go_newI (n := 60) (by omega) rfl (by decide) (by decide) (by decide) ac_int dR_init_106 ?_
  refine go_putF dR_init_108 rfl ffR_47 rfl (nw_sh hs12) ?_
  refine go_gen (G := mkA G12 h 13 1 60) (fun G13 e13 => ?_)
  have hs13 : G13.1[h]? = some (0, 8) := by rw [e13]; exact mkA_sh hs12
  have n13 : am_n G13 = am_n G12 + 1 := by rw [e13]; exact mkA_n _ _ _ _ _
  refine go_aload_n dR_init_111 rfl rfl ?_
  refine go_sipush (nI 480) (by decide) dR_init_112 ?_
  refine go_newI (n := 480) (by omega) rfl (by decide) (by decide) (by decide) ac_int dR_init_115 ?_
  refine go_putF dR_init_117 rfl ffR_50 rfl (nw_sh hs13) ?_
  refine go_gen (G := mkA G13 h 14 1 480) (fun G14 e14 => ?_)
  have hs14 : G14.1[h]? = some (0, 8) := by rw [e14]; exact mkA_sh hs13
  have n14 : am_n G14 = am_n G13 + 1 := by rw [e14]; exact mkA_n _ _ _ _ _
  refine go_aload_n dR_init_120 rfl rfl ?_
  refine go_sipush (nI 480) (by decide) dR_init_121 ?_
  refine go_newI (n := 480) (by omega) rfl (by decide) (by decide) (by decide) ac_int dR_init_124 ?_
  refine go_putF dR_init_126 rfl ffR_53 rfl (nw_sh hs14) ?_
  refine go_gen (G := mkA G14 h 15 1 480) (fun G15 e15 => ?_)
  have hs15 : G15.1[h]? = some (0, 8) := by rw [e15]; exact mkA_sh hs14
  have n15 : am_n G15 = am_n G14 + 1 := by rw [e15]; exact mkA_n _ _ _ _ _
  refine go_aload_n dR_init_129 rfl rfl ?_
  refine go_bipush (nI 8) (by decide) dR_init_130 ?_
  refine go_newI (n := 8) (by omega) rfl (by decide) (by decide) (by decide) ac_int dR_init_132 ?_
  refine go_putF dR_init_134 rfl ffR_56 rfl (nw_sh hs15) ?_
  refine go_gen (G := mkA G15 h 16 1 8) (fun G16 e16 => ?_)
  have hs16 : G16.1[h]? = some (0, 8) := by rw [e16]; exact mkA_sh hs15
  have n16 : am_n G16 = am_n G15 + 1 := by rw [e16]; exact mkA_n _ _ _ _ _
  refine go_aload_n dR_init_137 rfl rfl ?_
  refine go_bipush (nI 8) (by decide) dR_init_138 ?_
  refine go_newI (n := 8) (by omega) rfl (by decide) (by decide) (by decide) ac_int dR_init_140 ?_
  refine go_putF dR_init_142 rfl ffR_59 rfl (nw_sh hs16) ?_
  refine go_gen (G := mkA G16 h 17 1 8) (fun G17 e17 => ?_)
  have hs17 : G17.1[h]? = some (0, 8) := by rw [e17]; exact mkA_sh hs16
  have n17 : am_n G17 = am_n G16 + 1 := by rw [e17]; exact mkA_n _ _ _ _ _
  refine go_aload_n dR_init_145 rfl rfl ?_
  refine go_bipush (nI 6) (by decide) dR_init_146 ?_
  refine go_newZ (n := 6) (by omega) rfl (by decide) (by decide) (by decide) ac_boolean dR_init_148 ?_
  refine go_putF dR_init_150 rfl ffR_62 rfl (nw_sh hs17) ?_
  refine go_gen (G := mkA G17 h 22 2 6) (fun G18 e18 => ?_)
  have hs18 : G18.1[h]? = some (0, 8) := by rw [e18]; exact mkA_sh hs17
  have n18 : am_n G18 = am_n G17 + 1 := by rw [e18]; exact mkA_n _ _ _ _ _
  refine go_aload_n dR_init_153 rfl rfl ?_
  refine go_sipush (nI 2200) (by decide) dR_init_154 ?_
  refine go_newI (n := 2200) (by omega) rfl (by decide) (by decide) (by decide) ac_int dR_init_157 ?_
  refine go_putF dR_init_159 rfl ffR_65 rfl (nw_sh hs18) ?_
  refine go_gen (G := mkA G18 h 23 1 2200) (fun G19 e19 => ?_)
  have hs19 : G19.1[h]? = some (0, 8) := by rw [e19]; exact mkA_sh hs18
  have n19 : am_n G19 = am_n G18 + 1 := by rw [e19]; exact mkA_n _ _ _ _ _
  refine go_aload_n dR_init_162 rfl rfl ?_
  refine go_sipush (nI 2200) (by decide) dR_init_163 ?_
  refine go_newI (n := 2200) (by omega) rfl (by decide) (by decide) (by decide) ac_int dR_init_166 ?_
  refine go_putF dR_init_168 rfl ffR_68 rfl (nw_sh hs19) ?_
  refine go_gen (G := mkA G19 h 24 1 2200) (fun G20 e20 => ?_)
  have hs20 : G20.1[h]? = some (0, 8) := by rw [e20]; exact mkA_sh hs19
  have n20 : am_n G20 = am_n G19 + 1 := by rw [e20]; exact mkA_n _ _ _ _ _
  refine go_aload_n dR_init_171 rfl rfl ?_
  refine go_sipush (nI 1100) (by decide) dR_init_172 ?_
  refine go_newI (n := 1100) (by omega) rfl (by decide) (by decide) (by decide) ac_int dR_init_175 ?_
  refine go_putF dR_init_177 rfl ffR_71 rfl (nw_sh hs20) ?_
  refine go_gen (G := mkA G20 h 25 1 1100) (fun G21 e21 => ?_)
  have hs21 : G21.1[h]? = some (0, 8) := by rw [e21]; exact mkA_sh hs20
  have n21 : am_n G21 = am_n G20 + 1 := by rw [e21]; exact mkA_n _ _ _ _ _
  refine go_aload_n dR_init_180 rfl rfl ?_
  refine go_bipush (nI 12) (by decide) dR_init_181 ?_
  refine go_newI (n := 12) (by omega) rfl (by decide) (by decide) (by decide) ac_int dR_init_183 ?_
  refine go_putF dR_init_185 rfl ffR_74 rfl (nw_sh hs21) ?_
  refine go_gen (G := mkA G21 h 26 1 12) (fun G22 e22 => ?_)
  have hs22 : G22.1[h]? = some (0, 8) := by rw [e22]; exact mkA_sh hs21
  have n22 : am_n G22 = am_n G21 + 1 := by rw [e22]; exact mkA_n _ _ _ _ _
  refine go_aload_n dR_init_188 rfl rfl ?_
  refine go_bipush (nI 12) (by decide) dR_init_189 ?_
  refine go_newI (n := 12) (by omega) rfl (by decide) (by decide) (by decide) ac_int dR_init_191 ?_
  refine go_putF dR_init_193 rfl ffR_77 rfl (nw_sh hs22) ?_
  refine go_gen (G := mkA G22 h 27 1 12) (fun G23 e23 => ?_)
  have hs23 : G23.1[h]? = some (0, 8) := by rw [e23]; exact mkA_sh hs22
  have n23 : am_n G23 = am_n G22 + 1 := by rw [e23]; exact mkA_n _ _ _ _ _
  refine go_aload_n dR_init_196 rfl rfl ?_
  refine go_bipush (nI 12) (by decide) dR_init_197 ?_
  refine go_newI (n := 12) (by omega) rfl (by decide) (by decide) (by decide) ac_int dR_init_199 ?_
  refine go_putF dR_init_201 rfl ffR_80 rfl (nw_sh hs23) ?_
  refine go_gen (G := mkA G23 h 28 1 12) (fun G24 e24 => ?_)
  have hs24 : G24.1[h]? = some (0, 8) := by rw [e24]; exact mkA_sh hs23
  have n24 : am_n G24 = am_n G23 + 1 := by rw [e24]; exact mkA_n _ _ _ _ _
  refine go_aload_n dR_init_204 rfl rfl ?_
  refine go_bipush (nI 12) (by decide) dR_init_205 ?_
  refine go_newI (n := 12) (by omega) rfl (by decide) (by decide) (by decide) ac_int dR_init_207 ?_
  refine go_putF dR_init_209 rfl ffR_83 rfl (nw_sh hs24) ?_
  refine go_gen (G := mkA G24 h 29 1 12) (fun G25 e25 => ?_)
  have hs25 : G25.1[h]? = some (0, 8) := by rw [e25]; exact mkA_sh hs24
  have n25 : am_n G25 = am_n G24 + 1 := by rw [e25]; exact mkA_n _ _ _ _ _
  refine go_aload_n dR_init_212 rfl rfl ?_
  refine go_bipush (nI 96) (by decide) dR_init_213 ?_
  refine go_newI (n := 96) (by omega) rfl (by decide) (by decide) (by decide) ac_int dR_init_215 ?_
  refine go_putF dR_init_217 rfl ffR_86 rfl (nw_sh hs25) ?_
  refine go_gen (G := mkA G25 h 30 1 96) (fun G26 e26 => ?_)
  have hs26 : G26.1[h]? = some (0, 8) := by rw [e26]; exact mkA_sh hs25
  have n26 : am_n G26 = am_n G25 + 1 := by rw [e26]; exact mkA_n _ _ _ _ _
  refine go_aload_n dR_init_220 rfl rfl ?_
  refine go_bipush (nI 96) (by decide) dR_init_221 ?_
  refine go_newI (n := 96) (by omega) rfl (by decide) (by decide) (by decide) ac_int dR_init_223 ?_
  refine go_putF dR_init_225 rfl ffR_89 rfl (nw_sh hs26) ?_
  refine go_gen (G := mkA G26 h 31 1 96) (fun G27 e27 => ?_)
  have hs27 : G27.1[h]? = some (0, 8) := by rw [e27]; exact mkA_sh hs26
  have n27 : am_n G27 = am_n G26 + 1 := by rw [e27]; exact mkA_n _ _ _ _ _
  refine go_aload_n dR_init_228 rfl rfl ?_
  refine go_bipush (nI 120) (by decide) dR_init_229 ?_
  refine go_newI (n := 120) (by omega) rfl (by decide) (by decide) (by decide) ac_int dR_init_231 ?_
  refine go_putF dR_init_233 rfl ffR_92 rfl (nw_sh hs27) ?_
  refine go_gen (G := mkA G27 h 32 1 120) (fun G28 e28 => ?_)
  have hs28 : G28.1[h]? = some (0, 8) := by rw [e28]; exact mkA_sh hs27
  have n28 : am_n G28 = am_n G27 + 1 := by rw [e28]; exact mkA_n _ _ _ _ _
  refine go_aload_n dR_init_236 rfl rfl ?_
  refine go_bipush (nI 120) (by decide) dR_init_237 ?_
  refine go_newI (n := 120) (by omega) rfl (by decide) (by decide) (by decide) ac_int dR_init_239 ?_
  refine go_putF dR_init_241 rfl ffR_95 rfl (nw_sh hs28) ?_
  refine go_gen (G := mkA G28 h 33 1 120) (fun G29 e29 => ?_)
  have hs29 : G29.1[h]? = some (0, 8) := by rw [e29]; exact mkA_sh hs28
  have n29 : am_n G29 = am_n G28 + 1 := by rw [e29]; exact mkA_n _ _ _ _ _
  refine go_aload_n dR_init_244 rfl rfl ?_
  refine go_sipush (nI 130) (by decide) dR_init_245 ?_
  refine go_newI (n := 130) (by omega) rfl (by decide) (by decide) (by decide) ac_int dR_init_248 ?_
  refine go_putF dR_init_250 rfl ffR_98 rfl (nw_sh hs29) ?_
  refine go_gen (G := mkA G29 h 44 1 130) (fun G30 e30 => ?_)
  have hs30 : G30.1[h]? = some (0, 8) := by rw [e30]; exact mkA_sh hs29
  have n30 : am_n G30 = am_n G29 + 1 := by rw [e30]; exact mkA_n _ _ _ _ _
  refine go_aload_n dR_init_253 rfl rfl ?_
  refine go_sipush (nI 130) (by decide) dR_init_254 ?_
  refine go_newI (n := 130) (by omega) rfl (by decide) (by decide) (by decide) ac_int dR_init_257 ?_
  refine go_putF dR_init_259 rfl ffR_101 rfl (nw_sh hs30) ?_
  refine go_gen (G := mkA G30 h 45 1 130) (fun G31 e31 => ?_)
  have hs31 : G31.1[h]? = some (0, 8) := by rw [e31]; exact mkA_sh hs30
  have n31 : am_n G31 = am_n G30 + 1 := by rw [e31]; exact mkA_n _ _ _ _ _
  refine go_aload_n dR_init_262 rfl rfl ?_
  refine go_sipush (nI 130) (by decide) dR_init_263 ?_
  refine go_newI (n := 130) (by omega) rfl (by decide) (by decide) (by decide) ac_int dR_init_266 ?_
  refine go_putF dR_init_268 rfl ffR_104 rfl (nw_sh hs31) ?_
  refine go_gen (G := mkA G31 h 46 1 130) (fun G32 e32 => ?_)
  have hs32 : G32.1[h]? = some (0, 8) := by rw [e32]; exact mkA_sh hs31
  have n32 : am_n G32 = am_n G31 + 1 := by rw [e32]; exact mkA_n _ _ _ _ _
  refine go_aload_n dR_init_271 rfl rfl ?_
  refine go_bipush (nI 40) (by decide) dR_init_272 ?_
  refine go_newI (n := 40) (by omega) rfl (by decide) (by decide) (by decide) ac_int dR_init_274 ?_
  refine go_putF dR_init_276 rfl ffR_107 rfl (nw_sh hs32) ?_
  refine go_gen (G := mkA G32 h 47 1 40) (fun G33 e33 => ?_)
  have hs33 : G33.1[h]? = some (0, 8) := by rw [e33]; exact mkA_sh hs32
  have n33 : am_n G33 = am_n G32 + 1 := by rw [e33]; exact mkA_n _ _ _ _ _
  refine go_aload_n dR_init_279 rfl rfl ?_
  refine go_bipush (nI 40) (by decide) dR_init_280 ?_
  refine go_newI (n := 40) (by omega) rfl (by decide) (by decide) (by decide) ac_int dR_init_282 ?_
  refine go_putF dR_init_284 rfl ffR_110 rfl (nw_sh hs33) ?_
  refine go_gen (G := mkA G33 h 48 1 40) (fun G34 e34 => ?_)
  have hs34 : G34.1[h]? = some (0, 8) := by rw [e34]; exact mkA_sh hs33
  have n34 : am_n G34 = am_n G33 + 1 := by rw [e34]; exact mkA_n _ _ _ _ _
  refine go_aload_n dR_init_287 rfl rfl ?_
  refine go_bipush (nI 40) (by decide) dR_init_288 ?_
  refine go_newI (n := 40) (by omega) rfl (by decide) (by decide) (by decide) ac_int dR_init_290 ?_
  refine go_putF dR_init_292 rfl ffR_113 rfl (nw_sh hs34) ?_
  refine go_gen (G := mkA G34 h 49 1 40) (fun G35 e35 => ?_)
  have hs35 : G35.1[h]? = some (0, 8) := by rw [e35]; exact mkA_sh hs34
  have n35 : am_n G35 = am_n G34 + 1 := by rw [e35]; exact mkA_n _ _ _ _ _
  refine go_aload_n dR_init_295 rfl rfl ?_
  refine go_bipush (nI 40) (by decide) dR_init_296 ?_
  refine go_newI (n := 40) (by omega) rfl (by decide) (by decide) (by decide) ac_int dR_init_298 ?_
  refine go_putF dR_init_300 rfl ffR_116 rfl (nw_sh hs35) ?_
  refine go_gen (G := mkA G35 h 50 1 40) (fun G36 e36 => ?_)
  have hs36 : G36.1[h]? = some (0, 8) := by rw [e36]; exact mkA_sh hs35
  have n36 : am_n G36 = am_n G35 + 1 := by rw [e36]; exact mkA_n _ _ _ _ _
  exact go_return rfl dR_init_303 ⟨rfl, by unfold R_new; rw [e36, e35, e34, e33, e32, e31, e30, e29, e28, e27, e26, e25, e24, e23, e22, e21, e20, e19, e18, e17, e16, e15, e14, e13, e12, e11, e10, e9, e8, e7, e6, e5, e4, e3, e2, e1]⟩
def P_st (arr : Nat) (G : am_G) (m : Nat) : am_G := am_wr (E_new (am_nw G (0, 1)) (am_n G)) arr m (some (am_n G))
def P_run (arr : Nat) : am_G → Nat → Nat → am_G
  | G, _, 0 => G
  | G, m, r + 1 => P_run arr (P_st arr G m) (m + 1) r
theorem P_st_n (arr : Nat) (G : am_G) (m : Nat) : am_n (P_st arr G m) = am_n G + 8 := by
  show am_n (E_new (am_nw G (0, 1)) (am_n G)) = _
  rw [E_new_n, nw_n]
theorem P_st_sh {arr : Nat} {G : am_G} {m i : Nat} {x : Nat × Nat} (hx : G.1[i]? = some x) : (P_st arr G m).1[i]? = some x := E_new_sh (nw_sh hx)
theorem P_st_z {arr : Nat} {G : am_G} {m : Nat} (hz : zI G) : zI (P_st arr G m) := E_new_z (zI_nw hz)
theorem P_st_R {arr : Nat} {G : am_G} {m i q : Nat} (hi : i < am_n G) (hne : i ≠ arr) : (P_st arr G m).2.2 i q = G.2.2 i q := by
  unfold P_st
  rw [wr_R hne, E_new_R (by rw [nw_n]; omega) (Nat.ne_of_lt hi), nw_R hi]
theorem P_run_n (arr : Nat) : ∀ (r : Nat) (G : am_G) (m : Nat), am_n (P_run arr G m r) = am_n G + 8 * r
  | 0, _, _ => rfl
  | r + 1, G, m => by
    show am_n (P_run arr (P_st arr G m) (m + 1) r) = _
    rw [P_run_n arr r, P_st_n]
    omega
theorem P_run_sh {arr i : Nat} {x : Nat × Nat} : ∀ (r : Nat) (G : am_G) (m : Nat), G.1[i]? = some x → (P_run arr G m r).1[i]? = some x
  | 0, _, _, h => h
  | r + 1, G, m, h => P_run_sh r (P_st arr G m) (m + 1) (P_st_sh h)
theorem P_run_z {arr : Nat} : ∀ (r : Nat) (G : am_G) (m : Nat), zI G → zI (P_run arr G m r)
  | 0, _, _, h => h
  | r + 1, G, m, h => P_run_z r (P_st arr G m) (m + 1) (P_st_z h)
theorem P_run_R {arr i q : Nat} (hne : i ≠ arr) : ∀ (r : Nat) (G : am_G) (m : Nat), i < am_n G → (P_run arr G m r).2.2 i q = G.2.2 i q
  | 0, _, _, _ => rfl
  | r + 1, G, m, h => by
    show (P_run arr (P_st arr G m) (m + 1) r).2.2 i q = _
    rw [P_run_R hne r _ _ (by rw [P_st_n]; omega), P_st_R h hne]
set_option maxRecDepth 100000 in
theorem P_loop (w : am_W) {d : Nat} (hd : 2 ≤ d) (h arr : Nat) : ∀ (r m : Nat) (G : am_G), m + r = 6 → am_n G + 8 * r < 900000 → h < am_n G → h ≠ arr → G.1[h]? = some (0, 2) → G.2.2 h 0 = some arr → G.1[arr]? = some (4, 6) →
    am_Go w jP_init d (8 * r, 223 * r) 15 [some (.inr (some h)), some (.inl (nI m))] [] G (fun rr G' => rr = none ∧ G' = P_run arr G m r) := by
  intro r
  induction r with
  | zero =>
    intro m G hm hn hh hne hs hr ha
    refine go_iload_n dP_init_15 rfl rfl ?_
    refine go_bipush (nI 6) (by decide) dP_init_16 ?_
    refine go_icmp_geN (by omega) (by decide) dP_init_18 (tgt := 40) (by decide) (fun c => ?_) (fun c => absurd c (by omega))
    exact go_return rfl dP_init_40 ⟨rfl, rfl⟩
  | succ r ih =>
    intro m G hm hn hh hne hs hr ha
    refine go_iload_n dP_init_15 rfl rfl ?_
    refine go_bipush (nI 6) (by decide) dP_init_16 ?_
    refine go_icmp_geN (by omega) (by decide) dP_init_18 (tgt := 40) (by decide) (fun c => absurd c (by omega)) (fun c => ?_)
    refine go_aload_n dP_init_21 rfl rfl ?_
    refine go_getO dP_init_22 flP_11 rfl hs hr ?_
    refine go_iload_n dP_init_25 rfl rfl ?_
    refine go_new (ci := 1) (N := 11) (by omega) (show 1 ≤ 8 * (r + 1) by omega) (show 11 ≤ 223 * (r + 1) by omega) dP_init_26 nwP_9 ?_
    refine go_dup dP_init_29 ?_
    refine go_callI (k' := (7, 212)) [] csP_17 rfl rfl imE_init rfl (show 1 + 1 ≤ d by omega) ⟨show 7 ≤ 8 * (r + 1) - 1 by omega, show 212 ≤ 223 * (r + 1) - 11 by omega⟩ (Nat.le_of_ble_eq_true rfl) dP_init_30 (okE_init w (Nat.le_refl 1) _ _ (by rw [nw_n]; omega) (nw_at _ _)) (fun rr G1 hr1 hn1 => ?_)
    obtain ⟨rfl, rfl⟩ := hr1
    refine go_aastoreN (t := 1) (by decide) (E_new_sh (nw_sh ha)) (by omega) (by decide) (E_new_sh (nw_at G (0, 1))) rfl dP_init_33 ?_
    refine go_inc dP_init_34 rfl ?_
    refine go_goto dP_init_37 (tgt := 15) (by decide) ?_
    have hb : (8 * (r + 1) - 1 - 7, 223 * (r + 1) - 11 - 212) = (8 * r, 223 * r) := by
      rw [Prod.mk.injEq]; omega
    show am_Go w jP_init d (8 * (r + 1) - 1 - 7, 223 * (r + 1) - 11 - 212) 15 [some (.inr (some h)), some (.inl (nI (m + 1)))] [] (P_st arr G m) _
    rw [hb]
    refine go_post (ih (m + 1) (P_st arr G m) (by omega) (by rw [P_st_n]; omega) (by rw [P_st_n]; omega) hne (P_st_sh hs) ?_ (P_st_sh ha)) (fun r G' q => q)
    rw [P_st_R hh hne]; exact hr
def M_st (arr : Nat) (G : am_G) (m : Nat) : am_G := am_wr (A_new (am_nw G (0, 5)) (am_n G)) arr m (some (am_n G))
def M_run (arr : Nat) : am_G → Nat → Nat → am_G
  | G, _, 0 => G
  | G, m, r + 1 => M_run arr (M_st arr G m) (m + 1) r
theorem M_st_n (arr : Nat) (G : am_G) (m : Nat) : am_n (M_st arr G m) = am_n G + 3 := by
  show am_n (A_new (am_nw G (0, 5)) (am_n G)) = _
  rw [A_new_n, nw_n]
theorem M_st_sh {arr : Nat} {G : am_G} {m i : Nat} {x : Nat × Nat} (hx : G.1[i]? = some x) : (M_st arr G m).1[i]? = some x := A_new_sh (nw_sh hx)
theorem M_st_z {arr : Nat} {G : am_G} {m : Nat} (hz : zI G) : zI (M_st arr G m) := A_new_z (zI_nw hz)
theorem M_st_R {arr : Nat} {G : am_G} {m i q : Nat} (hi : i < am_n G) (hne : i ≠ arr) : (M_st arr G m).2.2 i q = G.2.2 i q := by
  unfold M_st
  rw [wr_R hne, A_new_R (by rw [nw_n]; omega) (Nat.ne_of_lt hi), nw_R hi]
theorem M_run_n (arr : Nat) : ∀ (r : Nat) (G : am_G) (m : Nat), am_n (M_run arr G m r) = am_n G + 3 * r
  | 0, _, _ => rfl
  | r + 1, G, m => by
    show am_n (M_run arr (M_st arr G m) (m + 1) r) = _
    rw [M_run_n arr r, M_st_n]
    omega
theorem M_run_sh {arr i : Nat} {x : Nat × Nat} : ∀ (r : Nat) (G : am_G) (m : Nat), G.1[i]? = some x → (M_run arr G m r).1[i]? = some x
  | 0, _, _, h => h
  | r + 1, G, m, h => M_run_sh r (M_st arr G m) (m + 1) (M_st_sh h)
theorem M_run_z {arr : Nat} : ∀ (r : Nat) (G : am_G) (m : Nat), zI G → zI (M_run arr G m r)
  | 0, _, _, h => h
  | r + 1, G, m, h => M_run_z r (M_st arr G m) (m + 1) (M_st_z h)
theorem M_run_R {arr i q : Nat} (hne : i ≠ arr) : ∀ (r : Nat) (G : am_G) (m : Nat), i < am_n G → (M_run arr G m r).2.2 i q = G.2.2 i q
  | 0, _, _, _ => rfl
  | r + 1, G, m, h => by
    show (M_run arr (M_st arr G m) (m + 1) r).2.2 i q = _
    rw [M_run_R hne r _ _ (by rw [M_st_n]; omega), M_st_R h hne]
set_option maxRecDepth 100000 in
theorem M_loop (w : am_W) {d : Nat} (hd : 2 ≤ d) (h arr : Nat) : ∀ (r m : Nat) (G : am_G), m + r = 12 → am_n G + 3 * r < 900000 → h < am_n G → h ≠ arr → G.1[h]? = some (0, 6) → G.2.2 h 0 = some arr → G.1[arr]? = some (5, 12) →
    am_Go w jM_init d (3 * r, 23 * r) 42 [some (.inr (some h)), some (.inl (nI m))] [] G (fun rr G' => rr = none ∧ G' = M_run arr G m r) := by
  intro r
  induction r with
  | zero =>
    intro m G hm hn hh hne hs hr ha
    refine go_iload_n dM_init_42 rfl rfl ?_
    refine go_bipush (nI 12) (by decide) dM_init_43 ?_
    refine go_icmp_geN (by omega) (by decide) dM_init_45 (tgt := 67) (by decide) (fun c => ?_) (fun c => absurd c (by omega))
    exact go_return rfl dM_init_67 ⟨rfl, rfl⟩
  | succ r ih =>
    intro m G hm hn hh hne hs hr ha
    refine go_iload_n dM_init_42 rfl rfl ?_
    refine go_bipush (nI 12) (by decide) dM_init_43 ?_
    refine go_icmp_geN (by omega) (by decide) dM_init_45 (tgt := 67) (by decide) (fun c => absurd c (by omega)) (fun c => ?_)
    refine go_aload_n dM_init_48 rfl rfl ?_
    refine go_getO dM_init_49 flM_11 rfl hs hr ?_
    refine go_iload_n dM_init_52 rfl rfl ?_
    refine go_new (ci := 5) (N := 7) (by omega) (show 1 ≤ 3 * (r + 1) by omega) (show 7 ≤ 23 * (r + 1) by omega) dM_init_53 nwM_9 ?_
    refine go_dup dM_init_56 ?_
    refine go_callI (k' := (2, 16)) [] csM_27 rfl rfl imA_init rfl (show 1 + 1 ≤ d by omega) ⟨show 2 ≤ 3 * (r + 1) - 1 by omega, show 16 ≤ 23 * (r + 1) - 7 by omega⟩ (Nat.le_of_ble_eq_true rfl) dM_init_57 (okA_init w (Nat.le_refl 1) _ _ (by rw [nw_n]; omega) (nw_at _ _)) (fun rr G1 hr1 hn1 => ?_)
    obtain ⟨rfl, rfl⟩ := hr1
    refine go_aastoreN (t := 2) (by decide) (A_new_sh (nw_sh ha)) (by omega) (by decide) (A_new_sh (nw_at G (0, 5))) rfl dM_init_60 ?_
    refine go_inc dM_init_61 rfl ?_
    refine go_goto dM_init_64 (tgt := 42) (by decide) ?_
    have hb : (3 * (r + 1) - 1 - 2, 23 * (r + 1) - 7 - 16) = (3 * r, 23 * r) := by
      rw [Prod.mk.injEq]; omega
    show am_Go w jM_init d (3 * (r + 1) - 1 - 2, 23 * (r + 1) - 7 - 16) 42 [some (.inr (some h)), some (.inl (nI (m + 1)))] [] (M_st arr G m) _
    rw [hb]
    refine go_post (ih (m + 1) (M_st arr G m) (by omega) (by rw [M_st_n]; omega) (by rw [M_st_n]; omega) hne (M_st_sh hs) ?_ (M_st_sh ha)) (fun r G' q => q)
    rw [M_st_R hh hne]; exact hr
def P_new (G : am_G) (h : Nat) : am_G := P_run (am_n G) (mkA G h 0 4 6) 0 6
theorem P_new_n (G : am_G) (h : Nat) : am_n (P_new G h) = am_n G + 49 := by unfold P_new; rw [P_run_n, mkA_n]
theorem P_new_sh {G : am_G} {h i : Nat} {x : Nat × Nat} (hx : G.1[i]? = some x) : (P_new G h).1[i]? = some x := P_run_sh _ _ _ (mkA_sh hx)
theorem P_new_z {G : am_G} {h : Nat} (hz : zI G) : zI (P_new G h) := P_run_z _ _ _ (zI_mkA hz)
theorem P_new_R {G : am_G} {h i q : Nat} (hi : i < am_n G) (hne : i ≠ h) : (P_new G h).2.2 i q = G.2.2 i q := by
  unfold P_new
  rw [P_run_R (Nat.ne_of_lt hi) _ _ _ (by rw [mkA_n]; omega), mkA_R hi hne]
theorem mkA_at (G : am_G) (h k t n : Nat) : (mkA G h k t n).1[am_n G]? = some (t, n) := nw_at G _
theorem mkA_Rs (G : am_G) (h k t n : Nat) : (mkA G h k t n).2.2 h k = some (am_n G) := wr_Rs
theorem mkA_R' {G : am_G} {h k t n q : Nat} (hq : q ≠ k) (hh : h < am_n G) : (mkA G h k t n).2.2 h q = G.2.2 h q := by
  unfold mkA
  rw [wr_R' hq, nw_R hh]
set_option maxRecDepth 100000 in
theorem okP_init (w : am_W) {d : Nat} (hd : 2 ≤ d) (G : am_G) (h : Nat) (hn : am_n G < 800000) (hh : h < am_n G) (hs : G.1[h]? = some (0, 2)) : am_Ok w jP_init d (49, 1344) [.inr (some h)] G (fun r G' => r = none ∧ G' = P_new G h) := by
  refine am_ok_of rfl (Nat.le_of_ble_eq_true rfl) ?_
  show am_Go w jP_init d (49, 1344) 0 [some (.inr (some h)), none] [] G _
  refine go_aload_n dP_init_0 rfl rfl ?_
  refine go_objInit (by omega) (Nat.le_of_ble_eq_true rfl) lkP_3 ob_in ob_co dP_init_1 ?_
  refine go_aload_n dP_init_4 rfl rfl ?_
  refine go_bipush (nI 6) (by decide) dP_init_5 ?_
  refine go_newR (t := 1) (n := 6) (by decide) (by omega) rfl (by decide) (by decide) (by decide) nrP_9 dP_init_7 ?_
  refine go_putF dP_init_10 rfl ffP_11 rfl (nw_sh hs) ?_
  refine go_iconst (nI 0) (by decide) dP_init_13 ?_
  refine go_istore_n dP_init_14 rfl (Nat.le_of_ble_eq_true rfl) ?_
  exact P_loop w hd h (am_n G) 6 0 (mkA G h 0 4 6) rfl (by rw [mkA_n]; omega) (by rw [mkA_n]; omega) (Nat.ne_of_lt hh) (mkA_sh hs) (mkA_Rs G h 0 4 6) (mkA_at G h 0 4 6)
def M_0 (G : am_G) (h : Nat) : am_G := mkA (mkA (mkA (mkA G h 0 5 12) h 1 1 1001) h 2 1 1001) h 3 1 1000
def M_new (G : am_G) (h : Nat) : am_G := M_run (am_n G) (M_0 G h) 0 12
theorem M_0_n (G : am_G) (h : Nat) : am_n (M_0 G h) = am_n G + 4 := by simp only [M_0, mkA_n]
theorem M_new_n (G : am_G) (h : Nat) : am_n (M_new G h) = am_n G + 40 := by unfold M_new; rw [M_run_n, M_0_n]
theorem M_0_sh {G : am_G} {h i : Nat} {x : Nat × Nat} (hx : G.1[i]? = some x) : (M_0 G h).1[i]? = some x := mkA_sh (mkA_sh (mkA_sh (mkA_sh hx)))
theorem M_new_sh {G : am_G} {h i : Nat} {x : Nat × Nat} (hx : G.1[i]? = some x) : (M_new G h).1[i]? = some x := M_run_sh _ _ _ (M_0_sh hx)
theorem M_new_z {G : am_G} {h : Nat} (hz : zI G) : zI (M_new G h) := M_run_z _ _ _ (zI_mkA (zI_mkA (zI_mkA (zI_mkA hz))))
theorem M_0_R {G : am_G} {h i q : Nat} (hi : i < am_n G) (hne : i ≠ h) : (M_0 G h).2.2 i q = G.2.2 i q := by
  unfold M_0
  rw [mkA_R (by first | omega | (simp only [mkA_n, nw_n, wr_n]; omega)) hne, mkA_R (by first | omega | (simp only [mkA_n, nw_n, wr_n]; omega)) hne, mkA_R (by first | omega | (simp only [mkA_n, nw_n, wr_n]; omega)) hne, mkA_R hi hne]
theorem M_new_R {G : am_G} {h i q : Nat} (hi : i < am_n G) (hne : i ≠ h) : (M_new G h).2.2 i q = G.2.2 i q := by
  unfold M_new
  rw [M_run_R (Nat.ne_of_lt hi) _ _ _ (by rw [M_0_n]; omega), M_0_R hi hne]
set_option maxRecDepth 100000 in
theorem okM_init (w : am_W) {d : Nat} (hd : 2 ≤ d) (G : am_G) (h : Nat) (hn : am_n G < 800000) (hh : h < am_n G) (hs : G.1[h]? = some (0, 6)) : am_Ok w jM_init d (40, 3290) [.inr (some h)] G (fun r G' => r = none ∧ G' = M_new G h) := by
  refine am_ok_of rfl (Nat.le_of_ble_eq_true rfl) ?_
  show am_Go w jM_init d (40, 3290) 0 [some (.inr (some h)), none] [] G _
  refine go_aload_n dM_init_0 rfl rfl ?_
  refine go_objInit (by omega) (Nat.le_of_ble_eq_true rfl) lkM_3 ob_in ob_co dM_init_1 ?_
  refine go_aload_n dM_init_4 rfl rfl ?_
  refine go_bipush (nI 12) (by decide) dM_init_5 ?_
  refine go_newR (t := 2) (n := 12) (by decide) (by omega) rfl (by decide) (by decide) (by decide) nrM_9 dM_init_7 ?_
  refine go_putF dM_init_10 rfl ffM_11 rfl (nw_sh hs) ?_
  refine go_aload_n dM_init_13 rfl rfl ?_
  refine go_sipush (nI 1001) (by decide) dM_init_14 ?_
  refine go_newI (G := mkA G h 0 5 12) (n := 1001) (by first | omega | (simp only [mkA_n, nw_n, wr_n]; omega)) rfl (by decide) (by decide) (by decide) ac_int dM_init_17 ?_
  refine go_putF dM_init_19 rfl ffM_17 rfl (nw_sh (mkA_sh hs)) ?_
  refine go_aload_n dM_init_22 rfl rfl ?_
  refine go_sipush (nI 1001) (by decide) dM_init_23 ?_
  refine go_newI (G := mkA (mkA G h 0 5 12) h 1 1 1001) (n := 1001) (by first | omega | (simp only [mkA_n, nw_n, wr_n]; omega)) rfl (by decide) (by decide) (by decide) ac_int dM_init_26 ?_
  refine go_putF dM_init_28 rfl ffM_21 rfl (nw_sh (mkA_sh (mkA_sh hs))) ?_
  refine go_aload_n dM_init_31 rfl rfl ?_
  refine go_sipush (nI 1000) (by decide) dM_init_32 ?_
  refine go_newI (G := mkA (mkA (mkA G h 0 5 12) h 1 1 1001) h 2 1 1001) (n := 1000) (by first | omega | (simp only [mkA_n, nw_n, wr_n]; omega)) rfl (by decide) (by decide) (by decide) ac_int dM_init_35 ?_
  refine go_putF dM_init_37 rfl ffM_24 rfl (nw_sh (mkA_sh (mkA_sh (mkA_sh hs)))) ?_
  refine go_iconst (nI 0) (by decide) dM_init_40 ?_
  refine go_istore_n dM_init_41 rfl (Nat.le_of_ble_eq_true rfl) ?_
  refine M_loop w hd h (am_n G) 12 0 (M_0 G h) rfl (by rw [M_0_n]; omega) (by rw [M_0_n]; omega) (Nat.ne_of_lt hh) (M_0_sh hs) ?_ (mkA_sh (mkA_sh (mkA_sh (mkA_at G h 0 5 12))))
  unfold M_0
  rw [mkA_R' (by decide) (by first | omega | (simp only [mkA_n, nw_n, wr_n]; omega)), mkA_R' (by decide) (by first | omega | (simp only [mkA_n, nw_n, wr_n]; omega)), mkA_R' (by decide) (by first | omega | (simp only [mkA_n, nw_n, wr_n]; omega)), mkA_Rs]
/-- a new object of class ci, made by nf, into field k of h -/
def mkO (nf : am_G → Nat → am_G) (ci : Nat) (G : am_G) (h k : Nat) : am_G := am_wr (nf (am_nw G (0, ci)) (am_n G)) h k (some (am_n G))
def W_new (G : am_G) (h : Nat) : am_G := mkO E_new 1 G h 0
theorem W_new_n (G : am_G) (h : Nat) : am_n (W_new G h) = am_n G + 8 := by
  unfold W_new mkO
  rw [wr_n, E_new_n, nw_n]
theorem W_new_sh {G : am_G} {h i : Nat} {x : Nat × Nat} (hx : G.1[i]? = some x) : (W_new G h).1[i]? = some x := E_new_sh (nw_sh hx)
theorem W_new_z {G : am_G} {h : Nat} (hz : zI G) : zI (W_new G h) := E_new_z (zI_nw hz)
theorem W_new_R {G : am_G} {h i q : Nat} (hi : i < am_n G) (hne : i ≠ h) : (W_new G h).2.2 i q = G.2.2 i q := by
  unfold W_new mkO
  rw [wr_R hne, E_new_R (by rw [nw_n]; omega) (Nat.ne_of_lt hi), nw_R hi]
set_option maxRecDepth 100000 in
theorem okW_init (w : am_W) {d : Nat} (hd : 2 ≤ d) (G : am_G) (h : Nat) (hn : am_n G < 800000) (hs : G.1[h]? = some (0, 7)) : am_Ok w jW_init d (8, 223) [.inr (some h)] G (fun r G' => r = none ∧ G' = W_new G h) := by
  refine am_ok_of rfl (Nat.le_of_ble_eq_true rfl) ?_
  show am_Go w jW_init d (8, 223) 0 [some (.inr (some h))] [] G _
  refine go_aload_n dW_init_0 rfl rfl ?_
  refine go_objInit (by omega) (Nat.le_of_ble_eq_true rfl) lkW_3 ob_in ob_co dW_init_1 ?_
  refine go_aload_n dW_init_4 rfl rfl ?_
  refine go_new (ci := 1) (N := 11) (by omega) (by decide) (by decide) dW_init_5 nwW_9 ?_
  refine go_dup dW_init_8 ?_
  refine go_callI (k' := (7, 212)) [] csW_11 rfl rfl imE_init rfl (show 1 + 1 ≤ d by omega) (by decide) (Nat.le_of_ble_eq_true rfl) dW_init_9 (okE_init w (Nat.le_refl 1) _ _ (by rw [nw_n]; omega) (nw_at _ _)) (fun rr G1 hr1 hn1 => ?_)
  obtain ⟨rfl, rfl⟩ := hr1
  refine go_putF dW_init_12 rfl ffW_12 rfl (E_new_sh (nw_sh hs)) ?_
  exact go_return rfl dW_init_15 ⟨rfl, rfl⟩
def F_1 (G : am_G) (h : Nat) : am_G := mkA G h 0 3 2
def F_2 (G : am_G) (h : Nat) : am_G := am_wr (P_new (am_nw (F_1 G h) (0, 2)) (am_n (F_1 G h))) (am_n G) 0 (some (am_n (F_1 G h)))
def F_3 (G : am_G) (h : Nat) : am_G := am_wr (P_new (am_nw (F_2 G h) (0, 2)) (am_n (F_2 G h))) (am_n G) 1 (some (am_n (F_2 G h)))
def F_4 (G : am_G) (h : Nat) : am_G := mkO C_new 3 (F_3 G h) h 1
def F_5 (G : am_G) (h : Nat) : am_G := mkO M_new 6 (F_4 G h) h 2
def F_6 (G : am_G) (h : Nat) : am_G := mkO W_new 7 (F_5 G h) h 3
def F_7 (G : am_G) (h : Nat) : am_G := mkO L_new 4 (F_6 G h) h 4
def F_8 (G : am_G) (h : Nat) : am_G := mkO L_new 4 (F_7 G h) h 5
def F_new (G : am_G) (h : Nat) : am_G := am_wi (F_8 G h) h 6 (nI 0)
theorem F_1_n (G : am_G) (h : Nat) : am_n (F_1 G h) = am_n G + 1 := mkA_n G h 0 3 2
theorem F_2_n (G : am_G) (h : Nat) : am_n (F_2 G h) = am_n G + 51 := by
  unfold F_2
  rw [wr_n, P_new_n, nw_n, F_1_n]
theorem F_3_n (G : am_G) (h : Nat) : am_n (F_3 G h) = am_n G + 101 := by
  unfold F_3
  rw [wr_n, P_new_n, nw_n, F_2_n]
theorem F_4_n (G : am_G) (h : Nat) : am_n (F_4 G h) = am_n G + 108 := by
  unfold F_4 mkO
  rw [wr_n, C_new_n, nw_n, F_3_n]
theorem F_5_n (G : am_G) (h : Nat) : am_n (F_5 G h) = am_n G + 149 := by
  unfold F_5 mkO
  rw [wr_n, M_new_n, nw_n, F_4_n]
theorem F_6_n (G : am_G) (h : Nat) : am_n (F_6 G h) = am_n G + 158 := by
  unfold F_6 mkO
  rw [wr_n, W_new_n, nw_n, F_5_n]
theorem F_7_n (G : am_G) (h : Nat) : am_n (F_7 G h) = am_n G + 160 := by
  unfold F_7 mkO
  rw [wr_n, L_new_n, nw_n, F_6_n]
theorem F_8_n (G : am_G) (h : Nat) : am_n (F_8 G h) = am_n G + 162 := by
  unfold F_8 mkO
  rw [wr_n, L_new_n, nw_n, F_7_n]
set_option maxRecDepth 100000 in
theorem okF_init (w : am_W) {d : Nat} (hd : 3 ≤ d) (G : am_G) (h : Nat) (hn : am_n G < 700000) (hh : h < am_n G) (hs : G.1[h]? = some (0, 0)) : am_Ok w jF_init d (162, 8000) [.inr (some h)] G (fun r G' => r = none ∧ G' = F_new G h) := by
  refine am_ok_of rfl (Nat.le_of_ble_eq_true rfl) ?_
  show am_Go w jF_init d (162, 8000) 0 [some (.inr (some h)), none] [] G _
  refine go_aload_n dF_init_0 rfl rfl ?_
  refine go_objInit (by omega) (Nat.le_of_ble_eq_true rfl) lkF_1 ob_in ob_co dF_init_1 ?_
  refine go_aload_n dF_init_4 rfl rfl ?_
  refine go_iconst (nI 2) (by decide) dF_init_5 ?_
  refine go_newR (t := 0) (n := 2) (by decide) (by omega) rfl (by decide) (by decide) (by decide) nrF_9 dF_init_6 ?_
  refine go_putF dF_init_9 rfl ffF_11 rfl (nw_sh hs) ?_
  refine go_gen (G := F_1 G h) (fun G1 e1 => ?_)
  have hs1 : G1.1[h]? = some (0, 0) := by rw [e1]; exact mkA_sh hs
  have ha1 : G1.1[am_n G]? = some (3, 2) := by rw [e1]; exact mkA_at G h 0 3 2
  have hr1 : G1.2.2 h 0 = some (am_n G) := by rw [e1]; exact mkA_Rs G h 0 3 2
  have n1 : am_n G1 = am_n G + 1 := by rw [e1]; exact F_1_n G h
  refine go_iconst (nI 0) (by decide) dF_init_12 ?_
  refine go_istore_n dF_init_13 rfl (Nat.le_of_ble_eq_true rfl) ?_
  refine go_iload_n dF_init_14 rfl rfl ?_
  refine go_iconst (nI 2) (by decide) dF_init_15 ?_
  refine go_icmp_geN (by decide) (by decide) dF_init_16 (tgt := 38) (by decide) (fun c => absurd c (by decide)) (fun c => ?_)
  refine go_aload_n dF_init_19 rfl rfl ?_
  refine go_getO dF_init_20 flF_11 rfl hs1 hr1 ?_
  refine go_iload_n dF_init_23 rfl rfl ?_
  refine go_new (ci := 2) (N := 1) (by omega) (by decide) (by decide) dF_init_24 nwF_9 ?_
  refine go_dup dF_init_27 ?_
  refine go_callI (k' := (49, 1344)) [] csF_15 rfl rfl imP_init rfl (show 2 + 1 ≤ d by omega) (by decide) (Nat.le_of_ble_eq_true rfl) dF_init_28 (okP_init w (Nat.le_refl 2) _ _ (by rw [nw_n]; omega) (by rw [nw_n]; omega) (nw_at _ _)) (fun rr Gx hrx hnx => ?_)
  obtain ⟨rfl, rfl⟩ := hrx
  refine go_aastoreN (t := 0) (by decide) (P_new_sh (nw_sh ha1)) (by decide) (by decide) (P_new_sh (nw_at _ (0, 2))) rfl dF_init_31 ?_
  refine go_inc dF_init_32 rfl ?_
  refine go_goto dF_init_35 (tgt := 14) (by decide) ?_
  refine go_gen (fun G2 e2 => ?_)
  have hs2 : G2.1[h]? = some (0, 0) := by rw [e2]; exact wr_sh (P_new_sh (nw_sh hs1))
  have ha2 : G2.1[am_n G]? = some (3, 2) := by rw [e2]; exact wr_sh (P_new_sh (nw_sh ha1))
  have n2 : am_n G2 = am_n G + 51 := by rw [e2, wr_n, P_new_n, nw_n, n1]
  have hr2 : G2.2.2 h 0 = some (am_n G) := by
    rw [e2, wr_R (Nat.ne_of_lt hh), P_new_R (by rw [nw_n]; omega) (by omega), nw_R (by omega)]; exact hr1
  refine go_iload_n dF_init_14 rfl rfl ?_
  refine go_iconst (nI 2) (by decide) dF_init_15 ?_
  refine go_icmp_geN (by decide) (by decide) dF_init_16 (tgt := 38) (by decide) (fun c => absurd c (by decide)) (fun c => ?_)
  refine go_aload_n dF_init_19 rfl rfl ?_
  refine go_getO dF_init_20 flF_11 rfl hs2 hr2 ?_
  refine go_iload_n dF_init_23 rfl rfl ?_
  refine go_new (ci := 2) (N := 1) (by omega) (by decide) (by decide) dF_init_24 nwF_9 ?_
  refine go_dup dF_init_27 ?_
  refine go_callI (k' := (49, 1344)) [] csF_15 rfl rfl imP_init rfl (show 2 + 1 ≤ d by omega) (by decide) (Nat.le_of_ble_eq_true rfl) dF_init_28 (okP_init w (Nat.le_refl 2) _ _ (by rw [nw_n]; omega) (by rw [nw_n]; omega) (nw_at _ _)) (fun rr Gx hrx hnx => ?_)
  obtain ⟨rfl, rfl⟩ := hrx
  refine go_aastoreN (t := 0) (by decide) (P_new_sh (nw_sh ha2)) (by decide) (by decide) (P_new_sh (nw_at _ (0, 2))) rfl dF_init_31 ?_
  refine go_inc dF_init_32 rfl ?_
  refine go_goto dF_init_35 (tgt := 14) (by decide) ?_
  refine go_gen (fun G3 e3 => ?_)
  have hs3 : G3.1[h]? = some (0, 0) := by rw [e3]; exact wr_sh (P_new_sh (nw_sh hs2))
  have n3 : am_n G3 = am_n G + 101 := by rw [e3, wr_n, P_new_n, nw_n, n2]
  refine go_iload_n dF_init_14 rfl rfl ?_
  refine go_iconst (nI 2) (by decide) dF_init_15 ?_
  refine go_icmp_geN (by decide) (by decide) dF_init_16 (tgt := 38) (by decide) (fun c => ?_) (fun c => absurd c (by decide))
  refine go_aload_n dF_init_38 rfl rfl ?_
  refine go_new (ci := 3) (N := 10) (by omega) (by decide) (by decide) dF_init_39 nwF_16 ?_
  refine go_dup dF_init_42 ?_
  refine go_callI (k' := (6, 1172)) [] csF_18 rfl rfl imC_init rfl (show 2 + 1 ≤ d by omega) (by decide) (Nat.le_of_ble_eq_true rfl) dF_init_43 (okC_init w (show 1 ≤ 2 by decide) _ _ (by rw [nw_n]; omega) (nw_at _ _)) (fun rr Gx hrx hnx => ?_)
  obtain ⟨rfl, rfl⟩ := hrx
  refine go_putF dF_init_46 rfl ffF_19 rfl (C_new_sh (nw_sh hs3)) ?_
  refine go_gen (fun G4 e4 => ?_)
  have hs4 : G4.1[h]? = some (0, 0) := by rw [e4]; exact wr_sh (C_new_sh (nw_sh hs3))
  have n4 : am_n G4 = am_n G + 108 := by rw [e4, wr_n, C_new_n, nw_n, n3]
  refine go_aload_n dF_init_49 rfl rfl ?_
  refine go_new (ci := 6) (N := 9) (by omega) (by decide) (by decide) dF_init_50 nwF_23 ?_
  refine go_dup dF_init_53 ?_
  refine go_callI (k' := (40, 3290)) [] csF_25 rfl rfl imM_init rfl (show 2 + 1 ≤ d by omega) (by decide) (Nat.le_of_ble_eq_true rfl) dF_init_54 (okM_init w (Nat.le_refl 2) _ _ (by rw [nw_n]; omega) (by rw [nw_n]; omega) (nw_at _ _)) (fun rr Gx hrx hnx => ?_)
  obtain ⟨rfl, rfl⟩ := hrx
  refine go_putF dF_init_57 rfl ffF_26 rfl (M_new_sh (nw_sh hs4)) ?_
  refine go_gen (fun G5 e5 => ?_)
  have hs5 : G5.1[h]? = some (0, 0) := by rw [e5]; exact wr_sh (M_new_sh (nw_sh hs4))
  have n5 : am_n G5 = am_n G + 149 := by rw [e5, wr_n, M_new_n, nw_n, n4]
  refine go_aload_n dF_init_60 rfl rfl ?_
  refine go_new (ci := 7) (N := 4) (by omega) (by decide) (by decide) dF_init_61 nwF_30 ?_
  refine go_dup dF_init_64 ?_
  refine go_callI (k' := (8, 223)) [] csF_32 rfl rfl imW_init rfl (show 2 + 1 ≤ d by omega) (by decide) (Nat.le_of_ble_eq_true rfl) dF_init_65 (okW_init w (Nat.le_refl 2) _ _ (by rw [nw_n]; omega) (nw_at _ _)) (fun rr Gx hrx hnx => ?_)
  obtain ⟨rfl, rfl⟩ := hrx
  refine go_putF dF_init_68 rfl ffF_33 rfl (W_new_sh (nw_sh hs5)) ?_
  refine go_gen (fun G6 e6 => ?_)
  have hs6 : G6.1[h]? = some (0, 0) := by rw [e6]; exact wr_sh (W_new_sh (nw_sh hs5))
  have n6 : am_n G6 = am_n G + 158 := by rw [e6, wr_n, W_new_n, nw_n, n5]
  refine go_aload_n dF_init_71 rfl rfl ?_
  refine go_new (ci := 4) (N := 8) (by omega) (by decide) (by decide) dF_init_72 nwF_37 ?_
  refine go_dup dF_init_75 ?_
  refine go_callI (k' := (1, 120)) [] csF_39 rfl rfl imL_init rfl (show 2 + 1 ≤ d by omega) (by decide) (Nat.le_of_ble_eq_true rfl) dF_init_76 (okL_init w (show 1 ≤ 2 by decide) _ _ (by rw [nw_n]; omega) (nw_at _ _)) (fun rr Gx hrx hnx => ?_)
  obtain ⟨rfl, rfl⟩ := hrx
  refine go_putF dF_init_79 rfl ffF_40 rfl (L_new_sh (nw_sh hs6)) ?_
  refine go_gen (fun G7 e7 => ?_)
  have hs7 : G7.1[h]? = some (0, 0) := by rw [e7]; exact wr_sh (L_new_sh (nw_sh hs6))
  have n7 : am_n G7 = am_n G + 160 := by rw [e7, wr_n, L_new_n, nw_n, n6]
  refine go_aload_n dF_init_82 rfl rfl ?_
  refine go_new (ci := 4) (N := 8) (by omega) (by decide) (by decide) dF_init_83 nwF_37 ?_
  refine go_dup dF_init_86 ?_
  refine go_callI (k' := (1, 120)) [] csF_39 rfl rfl imL_init rfl (show 2 + 1 ≤ d by omega) (by decide) (Nat.le_of_ble_eq_true rfl) dF_init_87 (okL_init w (show 1 ≤ 2 by decide) _ _ (by rw [nw_n]; omega) (nw_at _ _)) (fun rr Gx hrx hnx => ?_)
  obtain ⟨rfl, rfl⟩ := hrx
  refine go_putF dF_init_90 rfl ffF_44 rfl (L_new_sh (nw_sh hs7)) ?_
  refine go_gen (fun G8 e8 => ?_)
  have hs8 : G8.1[h]? = some (0, 0) := by rw [e8]; exact wr_sh (L_new_sh (nw_sh hs7))
  have n8 : am_n G8 = am_n G + 162 := by rw [e8, wr_n, L_new_n, nw_n, n7]
  refine go_aload_n dF_init_93 rfl rfl ?_
  refine go_iconst (nI 0) (by decide) dF_init_94 ?_
  refine go_putI dF_init_95 fpF_47 rfl hs8 ?_
  refine go_return rfl dF_init_98 ⟨rfl, ?_⟩
  have q2 : G2 = F_2 G h := by rw [e2, e1]; rfl
  have q3 : G3 = F_3 G h := by rw [e3, q2]; rfl
  have q4 : G4 = F_4 G h := by rw [e4, q3]; rfl
  have q5 : G5 = F_5 G h := by rw [e5, q4]; rfl
  have q6 : G6 = F_6 G h := by rw [e6, q5]; rfl
  have q7 : G7 = F_7 G h := by rw [e7, q6]; rfl
  have q8 : G8 = F_8 G h := by rw [e8, q7]; rfl
  rw [q8]; rfl
