section AmNat
variable {w : am_W} {j d : Nat} {k : Nat × Nat} {pc : Nat} {L : List (Option am_V)} {st : List am_V} {G : am_G} {P : Option am_V → am_G → Prop}
theorem go_ialoadN {i n a : Nat} (hs : G.1[i]? = some (1, n)) (ha : a < n) (hn : n < 2 ^ 31) (h : decode (am_by j) pc = .ok (.iaload, 1)) (kk : am_Go w j d k (pc + 1) L (.inl (G.2.1 i a) :: st) G P) : am_Go w j d k pc L (.inl (nI a) :: .inr (some i) :: st) G P :=
  go_iaload hs (vp_in_nI ha hn) h (by rw [nI_clamp (by omega)]; exact kk)
theorem go_baloadN {i n a : Nat} (hs : G.1[i]? = some (2, n)) (ha : a < n) (hn : n < 2 ^ 31) (h : decode (am_by j) pc = .ok (.baload, 1)) (kk : am_Go w j d k (pc + 1) L (.inl (G.2.1 i a) :: st) G P) : am_Go w j d k pc L (.inl (nI a) :: .inr (some i) :: st) G P :=
  go_baload hs (vp_in_nI ha hn) h (by rw [nI_clamp (by omega)]; exact kk)
theorem go_aaloadN {i n a t : Nat} (htt : t < am_nrc) (hs : G.1[i]? = some (t + 3, n)) (ha : a < n) (hn : n < 2 ^ 31) (h : decode (am_by j) pc = .ok (.aaload, 1)) (kk : am_Go w j d k (pc + 1) L (.inr (G.2.2 i a) :: st) G P) : am_Go w j d k pc L (.inl (nI a) :: .inr (some i) :: st) G P :=
  go_aaload htt hs (vp_in_nI ha hn) h (by rw [nI_clamp (by omega)]; exact kk)
theorem go_iastoreN {i n a : Nat} {v : Int32} (hs : G.1[i]? = some (1, n)) (ha : a < n) (hn : n < 2 ^ 31) (h : decode (am_by j) pc = .ok (.iastore, 1)) (kk : am_Go w j d k (pc + 1) L st (am_wi G i a v) P) : am_Go w j d k pc L (.inl v :: .inl (nI a) :: .inr (some i) :: st) G P :=
  go_iastore hs (vp_in_nI ha hn) h (by rw [nI_clamp (by omega)]; exact kk)
theorem go_bastoreN {i n a : Nat} {v : Int32} (hv : v &&& 1 = v) (hs : G.1[i]? = some (2, n)) (ha : a < n) (hn : n < 2 ^ 31) (h : decode (am_by j) pc = .ok (.bastore, 1)) (kk : am_Go w j d k (pc + 1) L st (am_wi G i a v) P) : am_Go w j d k pc L (.inl v :: .inl (nI a) :: .inr (some i) :: st) G P :=
  go_bastore hs (vp_in_nI ha hn) h (by rw [nI_clamp (by omega), hv]; exact kk)
theorem go_aastoreN {i n a t ci q : Nat} (htt : t < am_nrc) (hs : G.1[i]? = some (t + 3, n)) (ha : a < n) (hn : n < 2 ^ 31) (hq : G.1[q]? = some (0, ci)) (hc0 : (am_cl[ci]?).map (fun r => r.1) = some (am_rc t)) (h : decode (am_by j) pc = .ok (.aastore, 1)) (kk : am_Go w j d k (pc + 1) L st (am_wr G i a (some q)) P) : am_Go w j d k pc L (.inr (some q) :: .inl (nI a) :: .inr (some i) :: st) G P :=
  go_aastore htt hs (vp_in_nI ha hn) hq hc0 h (by rw [nI_clamp (by omega)]; exact kk)
theorem go_copyN {idx i0 i1 m0 m1 : Nat} {sp dp n : Nat} (hd : 1 ≤ d) (hsl : st.length ≤ 8) (hw : Cond.methodLink (am_own j) idx arraycopyName ∈ am_T) (hw2 : Cond.native arraycopyName ∈ am_T) (hw3 : Cond.static arraycopyName ∈ am_T) (hw4 : Cond.initialized "java/lang/System" ∈ am_T) (hs0 : G.1[i0]? = some (1, m0)) (hs1 : G.1[i1]? = some (1, m1))
    (h4 : sp + n ≤ m0) (h5 : dp + n ≤ m1) (hm0 : m0 < 2 ^ 31) (hm1 : m1 < 2 ^ 31) (h : decode (am_by j) pc = .ok (.invokestatic idx, 3))
    (kk : am_Go w j d k (pc + 3) L st (am_ro G i1 (va_cpy (G.2.1 i0) (G.2.1 i1) sp dp n)) P) : am_Go w j d k pc L (.inl (nI n) :: .inl (nI dp) :: .inr (some i1) :: .inl (nI sp) :: .inr (some i0) :: st) G P := by
  have c1 : (nI sp).toNatClampNeg = sp := nI_clamp (by omega)
  have c2 : (nI dp).toNatClampNeg = dp := nI_clamp (by omega)
  have c3 : (nI n).toNatClampNeg = n := nI_clamp (by omega)
  exact go_copyI hd hsl hw hw2 hw3 hw4 hs0 hs1 (nI_pos (by omega)) (nI_pos (by omega)) (nI_pos (by omega)) (by rw [c1, c3]; exact h4) (by rw [c2, c3]; exact h5) h (by rw [c1, c2, c3]; exact kk)
variable {a b : Nat} {off : Int} {tgt : Nat}
theorem go_icmp_eqN (ha : a < 2 ^ 31) (hb : b < 2 ^ 31) (h : decode (am_by j) pc = .ok (.if_icmp .eq off, 3)) (ht : (pc : Int) + off = (tgt : Int)) (kt : a = b → am_Go w j d k tgt L st G P) (kf : ¬ a = b → am_Go w j d k (pc + 3) L st G P) : am_Go w j d k pc L (.inl (nI b) :: .inl (nI a) :: st) G P :=
  go_icmp_eq h ht (fun q => kt ((nI_eq ha hb).mp q)) (fun q => kf ((fun e => q ((nI_eq ha hb).mpr e))))
theorem go_icmp_neN (ha : a < 2 ^ 31) (hb : b < 2 ^ 31) (h : decode (am_by j) pc = .ok (.if_icmp .ne off, 3)) (ht : (pc : Int) + off = (tgt : Int)) (kt : ¬ a = b → am_Go w j d k tgt L st G P) (kf : a = b → am_Go w j d k (pc + 3) L st G P) : am_Go w j d k pc L (.inl (nI b) :: .inl (nI a) :: st) G P :=
  go_icmp_ne h ht (fun q => kt ((fun e => q ((nI_eq ha hb).mpr e)))) (fun q => kf ((nI_eq ha hb).mp q))
theorem go_icmp_ltN (ha : a < 2 ^ 31) (hb : b < 2 ^ 31) (h : decode (am_by j) pc = .ok (.if_icmp .lt off, 3)) (ht : (pc : Int) + off = (tgt : Int)) (kt : a < b → am_Go w j d k tgt L st G P) (kf : b ≤ a → am_Go w j d k (pc + 3) L st G P) : am_Go w j d k pc L (.inl (nI b) :: .inl (nI a) :: st) G P :=
  go_icmp_lt h ht (fun q => kt ((nI_ltI ha hb).mp q)) (fun q => kf (Nat.le_of_not_lt (fun e => q ((nI_ltI ha hb).mpr e))))
theorem go_icmp_geN (ha : a < 2 ^ 31) (hb : b < 2 ^ 31) (h : decode (am_by j) pc = .ok (.if_icmp .ge off, 3)) (ht : (pc : Int) + off = (tgt : Int)) (kt : b ≤ a → am_Go w j d k tgt L st G P) (kf : a < b → am_Go w j d k (pc + 3) L st G P) : am_Go w j d k pc L (.inl (nI b) :: .inl (nI a) :: st) G P :=
  go_icmp_ge h ht (fun q => kt ((nI_leI hb ha).mp q)) (fun q => kf (Nat.lt_of_not_le (fun e => q ((nI_leI hb ha).mpr e))))
theorem go_icmp_gtN (ha : a < 2 ^ 31) (hb : b < 2 ^ 31) (h : decode (am_by j) pc = .ok (.if_icmp .gt off, 3)) (ht : (pc : Int) + off = (tgt : Int)) (kt : b < a → am_Go w j d k tgt L st G P) (kf : a ≤ b → am_Go w j d k (pc + 3) L st G P) : am_Go w j d k pc L (.inl (nI b) :: .inl (nI a) :: st) G P :=
  go_icmp_gt h ht (fun q => kt ((nI_ltI hb ha).mp q)) (fun q => kf (Nat.le_of_not_lt (fun e => q ((nI_ltI hb ha).mpr e))))
theorem go_icmp_leN (ha : a < 2 ^ 31) (hb : b < 2 ^ 31) (h : decode (am_by j) pc = .ok (.if_icmp .le off, 3)) (ht : (pc : Int) + off = (tgt : Int)) (kt : a ≤ b → am_Go w j d k tgt L st G P) (kf : b < a → am_Go w j d k (pc + 3) L st G P) : am_Go w j d k pc L (.inl (nI b) :: .inl (nI a) :: st) G P :=
  go_icmp_le h ht (fun q => kt ((nI_leI ha hb).mp q)) (fun q => kf (Nat.lt_of_not_le (fun e => q ((nI_leI ha hb).mpr e))))
def am_b (c : Bool) : Int32 := if c = true then 1 else 0
theorem am_b_t : am_b true = 1 := rfl
theorem am_b_f : am_b false = 0 := rfl
theorem am_b_01 (c : Bool) : am_b c = 0 ∨ am_b c = 1 := by cases c <;> simp [am_b]
theorem am_b_and1 (c : Bool) : am_b c &&& 1 = am_b c := by cases c <;> decide
theorem am_b_eq0 {c : Bool} : am_b c = 0 ↔ c = false := by cases c <;> simp [am_b]
theorem am_b_or (c e : Bool) : am_b c ||| am_b e = am_b (c || e) := by cases c <;> cases e <;> decide
theorem go_if_eqN (ha : a < 2 ^ 31) (h : decode (am_by j) pc = .ok (.ifCond .eq off, 3)) (ht : (pc : Int) + off = (tgt : Int)) (kt : a = 0 → am_Go w j d k tgt L st G P) (kf : ¬ a = 0 → am_Go w j d k (pc + 3) L st G P) : am_Go w j d k pc L (.inl (nI a) :: st) G P :=
  go_if_eq h ht (fun q => kt ((nI_eq ha (by decide : 0 < 2 ^ 31)).mp (q.trans nI_0.symm))) (fun q => kf (fun e => q (by rw [e]; exact nI_0)))
theorem go_if_neN (ha : a < 2 ^ 31) (h : decode (am_by j) pc = .ok (.ifCond .ne off, 3)) (ht : (pc : Int) + off = (tgt : Int)) (kt : ¬ a = 0 → am_Go w j d k tgt L st G P) (kf : a = 0 → am_Go w j d k (pc + 3) L st G P) : am_Go w j d k pc L (.inl (nI a) :: st) G P :=
  go_if_ne h ht (fun q => kt (fun e => q (by rw [e]; exact nI_0))) (fun q => kf ((nI_eq ha (by decide : 0 < 2 ^ 31)).mp (q.trans nI_0.symm)))
theorem go_if_leN (ha : a < 2 ^ 31) (h : decode (am_by j) pc = .ok (.ifCond .le off, 3)) (ht : (pc : Int) + off = (tgt : Int)) (kt : a = 0 → am_Go w j d k tgt L st G P) (kf : 0 < a → am_Go w j d k (pc + 3) L st G P) : am_Go w j d k pc L (.inl (nI a) :: st) G P :=
  go_if_le h ht (fun q => kt (by
    rcases Nat.eq_zero_or_pos a with e | e
    · exact e
    · exact absurd q (nI_nle e ha))) (fun q => kf (by
    rcases Nat.eq_zero_or_pos a with e | e
    · exact absurd (by rw [e, nI_0]; decide) q
    · exact e))
variable {c : Bool}
theorem go_if_eqB (h : decode (am_by j) pc = .ok (.ifCond .eq off, 3)) (ht : (pc : Int) + off = (tgt : Int)) (kt : c = false → am_Go w j d k tgt L st G P) (kf : c = true → am_Go w j d k (pc + 3) L st G P) : am_Go w j d k pc L (.inl (am_b c) :: st) G P :=
  go_if_eq h ht (fun q => kt (am_b_eq0.mp q)) (fun q => kf (by cases c; exact absurd rfl q; rfl))
theorem go_if_neB (h : decode (am_by j) pc = .ok (.ifCond .ne off, 3)) (ht : (pc : Int) + off = (tgt : Int)) (kt : c = true → am_Go w j d k tgt L st G P) (kf : c = false → am_Go w j d k (pc + 3) L st G P) : am_Go w j d k pc L (.inl (am_b c) :: st) G P :=
  go_if_ne h ht (fun q => kt (by cases c; exact absurd rfl q; rfl)) (fun q => kf (am_b_eq0.mp q))
theorem go_zreturnB (hr : am_ret j = some .boolean) (h : decode (am_by j) pc = .ok (.ireturn, 1)) (hp : P (some (.inl (am_b c))) G) : am_Go w j d k pc L [.inl (am_b c)] G P := go_zreturn hr (am_b_01 c) h hp
end AmNat
