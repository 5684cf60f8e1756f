/-! what stays true of the numbers -/
theorem zadd {a b : Int32} (h1 : -2147483648 ≤ a.toInt + b.toInt) (h2 : a.toInt + b.toInt ≤ 2147483647) : (a + b).toInt = a.toInt + b.toInt := by
  rw [Int32.toInt_add]
  simp only [Int.bmod]
  split <;> omega
theorem zsub {a b : Int32} (h1 : -2147483648 ≤ a.toInt - b.toInt) (h2 : a.toInt - b.toInt ≤ 2147483647) : (a - b).toInt = a.toInt - b.toInt := by
  rw [Int32.toInt_sub]
  simp only [Int.bmod]
  split <;> omega
theorem zmul {a b : Int32} (h1 : -2147483648 ≤ a.toInt * b.toInt) (h2 : a.toInt * b.toInt ≤ 2147483647) : (a * b).toInt = a.toInt * b.toInt := by
  rw [Int32.toInt_mul]
  generalize a.toInt * b.toInt = z at h1 h2
  simp only [Int.bmod]
  split <;> omega
theorem zle {a b : Int32} : a ≤ b ↔ a.toInt ≤ b.toInt := Int32.le_iff_toInt_le
theorem zlt {a b : Int32} : a < b ↔ a.toInt < b.toInt := Int32.lt_iff_toInt_lt
/-- truths and falsehoods -/
def zBo (f : Nat → Int32) : Prop := ∀ k, vp_nar .boolean (f k) = f k
theorem zBo_0 : zBo (fun _ => 0) := fun _ => (by decide : vp_nar .boolean (0 : Int32) = 0)
theorem zBo_upd {f : Nat → Int32} (h : zBo f) {v : Int32} (hv : vp_nar .boolean v = v) (j : Nat) : zBo (upd f j v) := fun k => by
  unfold upd
  split
  · exact hv
  · exact h k
theorem zBo_dig {x1 x3 x4 x5 : Nat → Int32} (h : zBo x3) : zBo (g_X1_dig_x_3 x1 x3 x4 x5) := by
  have key : ∀ i, zBo (lp_X1_dig_2 x5 (x1, x3, x4) i).2.1 := by
    intro i
    induction i with
    | zero => rw [lp_X1_dig_2_0]; exact h
    | succ i ih =>
      rw [lp_X1_dig_2_s]
      simp only [st_X1_dig_2]
      split
      · exact ih
      · split
        · exact zBo_upd ih rfl _
        · exact ih
  exact key 3
theorem zBo_run {x1 x3 x4 x5 : Nat → Int32} (h : zBo x3) : zBo (g_X1_runModel_x_3 x1 x3 x4 x5) := zBo_dig h
/-- trusts -/
def zTR (f : Nat → Int32) : Prop := ∀ k, 0 ≤ (f k).toInt ∧ (f k).toInt ≤ 100
theorem zTR_0 : zTR (fun _ => 0) := fun _ => (by decide : 0 ≤ (0 : Int32).toInt ∧ (0 : Int32).toInt ≤ 100)
theorem zTR_upd {f : Nat → Int32} (h : zTR f) {v : Int32} (hv : 0 ≤ v.toInt ∧ v.toInt ≤ 100) (j : Nat) : zTR (upd f j v) := fun k => by
  unfold upd
  split
  · exact hv
  · exact h k
theorem zTR_believe {f l g : Nat → Int32} (h : zTR f) (a : Int32) : zTR (g_X4_believe_se_0 f l g a) := by
  have hv : 0 ≤ ((if ((f a.toNatClampNeg) + (10 : Int32)) ≤ (100 : Int32) then ((f a.toNatClampNeg) + (10 : Int32)) else (100 : Int32)) : Int32).toInt ∧ ((if ((f a.toNatClampNeg) + (10 : Int32)) ≤ (100 : Int32) then ((f a.toNatClampNeg) + (10 : Int32)) else (100 : Int32)) : Int32).toInt ≤ 100 := by
    obtain ⟨h1, h2⟩ := h a.toNatClampNeg
    have e : (f a.toNatClampNeg + (10 : Int32)).toInt = (f a.toNatClampNeg).toInt + 10 := zadd (b := 10) (by show _ ≤ _ + (10 : Int); omega) (by show _ + (10 : Int) ≤ _; omega)
    split
    · rename_i z
      have z2 : (f a.toNatClampNeg + (10 : Int32)).toInt ≤ 100 := zle.mp z
      exact ⟨by omega, z2⟩
    · decide
  unfold g_X4_believe_se_0
  split
  · exact zTR_upd h hv _
  · split
    · exact zTR_upd h hv _
    · exact zTR_upd (zTR_upd h hv _) (by decide) _
theorem zTR_doubt {f : Nat → Int32} (h : zTR f) (a : Int32) : zTR (g_X4_doubt_se_0 f a) := by
  unfold g_X4_doubt_se_0
  refine zTR_upd h ?_ _
  obtain ⟨h1, h2⟩ := h a.toNatClampNeg
  have e : (f a.toNatClampNeg - (20 : Int32)).toInt = (f a.toNatClampNeg).toInt - 20 := zsub (b := 20) (by show _ ≤ _ - (20 : Int); omega) (by show _ - (20 : Int) ≤ _; omega)
  split
  · rename_i z
    have z2 : (0 : Int) ≤ (f a.toNatClampNeg - (20 : Int32)).toInt := zle.mp z
    exact ⟨z2, by omega⟩
  · decide
theorem zTR_judge {s0 s1 s2 s3 s4 s5 s6 s7 : Nat → Int32} {n : Nat} (h : zTR s0) : zTR (g_X4_judgeAll_se_0 s0 s1 s2 s3 s4 s5 s6 s7 n) := by
  have key : ∀ v i, zTR (lp_X4_judgeAll_29 v (s0, s4, s5, s6) i).1 := by
    intro v i
    induction i with
    | zero => rw [lp_X4_judgeAll_29_0]; exact h
    | succ i ih =>
      rw [lp_X4_judgeAll_29_s]
      simp only [st_X4_judgeAll_29]
      split
      · exact zTR_believe ih _
      · split
        · exact zTR_doubt ih _
        · exact ih
  exact key _ n
/-- the divisor of a mending -/
theorem zmend {s0 s1 s2 s3 s4 : Nat → Int32} (h : zTR s0) (p : Nat) : ∀ i : Nat, i ≤ 10 → 0 ≤ (lp_X4_mendAll_16 s0 s1 s2 s3 s4 p ((0 : Int32), (0 : Int32)) i).1.toInt ∧ (lp_X4_mendAll_16 s0 s1 s2 s3 s4 p ((0 : Int32), (0 : Int32)) i).1.toInt ≤ 100 * i := by
  intro i
  induction i with
  | zero => intro _; rw [lp_X4_mendAll_16_0]; decide
  | succ i ih =>
    intro hi
    obtain ⟨h1, h2⟩ := ih (by omega)
    obtain ⟨g1, g2⟩ := h i
    rw [lp_X4_mendAll_16_s]
    simp only [st_X4_mendAll_16]
    have e := zadd (a := (lp_X4_mendAll_16 s0 s1 s2 s3 s4 p ((0 : Int32), (0 : Int32)) i).1) (b := s0 i) (by omega) (by omega)
    (repeat' split) <;> first | (rw [e]; exact ⟨by omega, by omega⟩) | exact ⟨by omega, by omega⟩
theorem zmend_ne {s0 s1 s2 s3 s4 : Nat → Int32} (h : zTR s0) (p n : Nat) (hn : n ≤ 10) : ¬ (lp_X4_mendAll_16 s0 s1 s2 s3 s4 p ((0 : Int32), (0 : Int32)) n).1 + (100 : Int32) = 0 := by
  obtain ⟨h1, h2⟩ := zmend (s1 := s1) (s2 := s2) (s3 := s3) (s4 := s4) h p n hn
  have e := zadd (a := (lp_X4_mendAll_16 s0 s1 s2 s3 s4 p ((0 : Int32), (0 : Int32)) n).1) (b := 100) (by show _ ≤ _ + (100 : Int); omega) (by show _ + (100 : Int) ≤ _; omega)
  intro z
  rw [z] at e
  have e2 : (0 : Int) = (lp_X4_mendAll_16 s0 s1 s2 s3 s4 p ((0 : Int32), (0 : Int32)) n).1.toInt + 100 := e
  omega
