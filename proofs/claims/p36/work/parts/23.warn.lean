theorem zsend2 {q k : Nat} (h : q ≤ k) (h1 : 1 ≤ k) (h2 : k ≤ 60000000) : g_X5_send_su_10 q k = k ∨ g_X5_send_su_10 q k = q * 2 := by
  unfold g_X5_send_su_10
  split
  · exact Or.inl rfl
  · exact Or.inr rfl
/-- the warnings' rows over an hour -/
def zCap (q a t b : Nat) : Prop := t = a ∧ b = a ∧ q ≤ a ∧ 1 ≤ a
theorem zwarn {u1 u2 u3 u4 sm : Nat → Int32} {hr hd : Int32} {w0 w6 w7 w8 : Nat → Int32} {q a t b : Nat} (h : zCap q a t b) (hq : q ≤ 1000000) (ha : a ≤ 3000000) : ∀ i : Nat, i ≤ 12 →
    zCap (lp_X5_warnAll_3 u1 u2 u3 u4 sm hr hd (w0, w6, w7, w8, q, a, t, b) i).2.2.2.2.1 (lp_X5_warnAll_3 u1 u2 u3 u4 sm hr hd (w0, w6, w7, w8, q, a, t, b) i).2.2.2.2.2.1 (lp_X5_warnAll_3 u1 u2 u3 u4 sm hr hd (w0, w6, w7, w8, q, a, t, b) i).2.2.2.2.2.2.1 (lp_X5_warnAll_3 u1 u2 u3 u4 sm hr hd (w0, w6, w7, w8, q, a, t, b) i).2.2.2.2.2.2.2 ∧
    (lp_X5_warnAll_3 u1 u2 u3 u4 sm hr hd (w0, w6, w7, w8, q, a, t, b) i).2.2.2.2.1 ≤ q + i ∧ q ≤ (lp_X5_warnAll_3 u1 u2 u3 u4 sm hr hd (w0, w6, w7, w8, q, a, t, b) i).2.2.2.2.1 ∧
    a ≤ (lp_X5_warnAll_3 u1 u2 u3 u4 sm hr hd (w0, w6, w7, w8, q, a, t, b) i).2.2.2.2.2.1 ∧
    ((lp_X5_warnAll_3 u1 u2 u3 u4 sm hr hd (w0, w6, w7, w8, q, a, t, b) i).2.2.2.2.2.1 ≤ a ∨ (lp_X5_warnAll_3 u1 u2 u3 u4 sm hr hd (w0, w6, w7, w8, q, a, t, b) i).2.2.2.2.2.1 ≤ 2 * (lp_X5_warnAll_3 u1 u2 u3 u4 sm hr hd (w0, w6, w7, w8, q, a, t, b) i).2.2.2.2.1) ∧
    (∀ j : Nat, j < i → (lp_X5_warnAll_3 u1 u2 u3 u4 sm hr hd (w0, w6, w7, w8, q, a, t, b) j).2.2.2.2.2.1 ≤ (lp_X5_warnAll_3 u1 u2 u3 u4 sm hr hd (w0, w6, w7, w8, q, a, t, b) i).2.2.2.2.2.1) := by
  intro i
  induction i with
  | zero =>
    intro _
    rw [lp_X5_warnAll_3_0]
    exact ⟨h, Nat.le_refl _, Nat.le_refl _, Nat.le_refl _, Or.inl (Nat.le_refl _), fun j hj => absurd hj (Nat.not_lt_zero j)⟩
  | succ i ih =>
    intro hi
    obtain ⟨⟨c1, c2, c3, c4⟩, d1, d2, d3, d4, d5⟩ := ih (by omega)
    generalize hy : lp_X5_warnAll_3 u1 u2 u3 u4 sm hr hd (w0, w6, w7, w8, q, a, t, b) i = y at c1 c2 c3 c4 d1 d2 d3 d4 d5
    have hk : y.2.2.2.2.2.1 ≤ 60000000 := by omega
    have hs := zsend c3 c4 hk
    have hs2 := zsend2 c3 c4 hk
    have e11 : g_X5_send_su_11 y.2.2.2.2.1 y.2.2.2.2.2.1 y.2.2.2.2.2.2.1 = g_X5_send_su_10 y.2.2.2.2.1 y.2.2.2.2.2.1 := by unfold g_X5_send_su_11 g_X5_send_su_10; rw [c1]
    have e12 : g_X5_send_su_12 y.2.2.2.2.1 y.2.2.2.2.2.1 y.2.2.2.2.2.2.2 = g_X5_send_su_10 y.2.2.2.2.1 y.2.2.2.2.2.1 := by unfold g_X5_send_su_12 g_X5_send_su_10; rw [c2]
    have key : ∀ z : (Nat → Int32) × (Nat → Int32) × (Nat → Int32) × (Nat → Int32) × Nat × Nat × Nat × Nat, z = st_X5_warnAll_3 u1 u2 u3 u4 sm hr hd i y →
        (z.2.2.2.2.1 = y.2.2.2.2.1 ∧ z.2.2.2.2.2.1 = y.2.2.2.2.2.1 ∧ z.2.2.2.2.2.2.1 = y.2.2.2.2.2.2.1 ∧ z.2.2.2.2.2.2.2 = y.2.2.2.2.2.2.2) ∨
        (z.2.2.2.2.1 = y.2.2.2.2.1 + 1 ∧ z.2.2.2.2.2.1 = g_X5_send_su_10 y.2.2.2.2.1 y.2.2.2.2.2.1 ∧ z.2.2.2.2.2.2.1 = g_X5_send_su_10 y.2.2.2.2.1 y.2.2.2.2.2.1 ∧ z.2.2.2.2.2.2.2 = g_X5_send_su_10 y.2.2.2.2.1 y.2.2.2.2.2.1) := by
      rintro z rfl
      simp only [st_X5_warnAll_3, g_X5_send_su_9, e11, e12]
      (repeat' split) <;> first | exact Or.inl ⟨rfl, rfl, rfl, rfl⟩ | exact Or.inr ⟨rfl, rfl, rfl, rfl⟩
    have hz := key _ rfl
    rw [← hy, ← lp_X5_warnAll_3_s] at hz
    rw [hy] at hz
    generalize lp_X5_warnAll_3 u1 u2 u3 u4 sm hr hd (w0, w6, w7, w8, q, a, t, b) (i + 1) = z at hz ⊢
    have mono : y.2.2.2.2.2.1 ≤ z.2.2.2.2.2.1 := by rcases hz with ⟨-, z2, -, -⟩ | ⟨-, z2, -, -⟩ <;> omega
    refine ⟨?_, ?_, ?_, ?_, ?_, fun j hj => ?_⟩
    · rcases hz with ⟨z1, z2, z3, z4⟩ | ⟨z1, z2, z3, z4⟩
      · exact ⟨by omega, by omega, by omega, by omega⟩
      · exact ⟨by omega, by omega, by omega, by omega⟩
    · rcases hz with ⟨z1, -, -, -⟩ | ⟨z1, -, -, -⟩ <;> omega
    · rcases hz with ⟨z1, -, -, -⟩ | ⟨z1, -, -, -⟩ <;> omega
    · omega
    · rcases hz with ⟨z1, z2, -, -⟩ | ⟨z1, z2, -, -⟩ <;> omega
    · rcases Nat.lt_or_ge j i with g | g
      · exact Nat.le_trans (d5 j g) mono
      · have : j = i := by omega
        subst this
        rw [hy]
        exact mono
