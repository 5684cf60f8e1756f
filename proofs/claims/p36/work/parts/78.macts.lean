/-! the reference's acts: what stays safe -/
def zL3 (n N : Nat) : Prop := n ≤ N ∧ (N = 0 ∨ N = 10 ∨ N = 15)
theorem zL3_k {n N : Nat} (h : zL3 n N) : zLk n N := ⟨h.1, by have := h.2; omega, by have := h.2; omega⟩
theorem zL3_c {n N : Nat} (h : zL3 n N) (hn : n ≤ 12) : zNc n N ≤ 15 := by
  obtain ⟨h1, h2⟩ := h
  unfold zNc
  rcases h2 with rfl | rfl | rfl
  · rw [if_neg (by omega), if_pos rfl]; decide
  · by_cases c : n < 10
    · rw [if_pos c]; decide
    · rw [if_neg c, if_neg (by decide)]; decide
  · rw [if_pos (by omega)]; exact Nat.le_refl _
theorem zL3_s {n N : Nat} (h : zL3 n N) (hn : n < 12) : zL3 (n + 1) (zNc n N) := by
  obtain ⟨h1, h2⟩ := h
  unfold zNc zL3
  rcases h2 with rfl | rfl | rfl
  · rw [if_neg (by omega), if_pos rfl]; exact ⟨by omega, Or.inr (Or.inl rfl)⟩
  · by_cases c : n < 10
    · rw [if_pos c]; exact ⟨by omega, Or.inr (Or.inl rfl)⟩
    · rw [if_neg c, if_neg (by decide)]; exact ⟨by omega, Or.inr (Or.inr rfl)⟩
  · rw [if_pos (by omega)]; exact ⟨by omega, Or.inr (Or.inr rfl)⟩
def zL4 (n N : Nat) : Prop := zLk n N ∧ N ≤ 10 + 2 * n
theorem zL4_s {n N : Nat} (h : zL4 n N) (hn : n < 200000) : zL4 (n + 1) (zNc n N) := by
  refine ⟨zLk_s h.1 hn, ?_⟩
  obtain ⟨⟨h1, -, -⟩, h2⟩ := h
  unfold zNc
  by_cases c : n < N
  · rw [if_pos c]; omega
  · rw [if_neg c]
    by_cases d : N = 0
    · rw [if_pos d]; omega
    · rw [if_neg d]; omega
section ZPL4
variable {a1 : Int32} {a2 a3 a4 a5 a6 : Nat → Int32} {y0 y : Int32 × Nat × (Nat → Int32) × Nat × (Nat → Int32) × (Nat → Int32) × (Nat → Int32)} {i : Nat}
theorem zwk4 (h : zL4 y.2.2.2.1 y.2.1) (hn : y.2.2.2.1 < 200000) : zL4 (st_X12_warn_2 a1 a2 a3 a4 a5 a6 i y).2.2.2.1 (st_X12_warn_2 a1 a2 a3 a4 a5 a6 i y).2.1 ∧ (st_X12_warn_2 a1 a2 a3 a4 a5 a6 i y).2.2.2.1 ≤ y.2.2.2.1 + 1 := by
  unfold st_X12_warn_2
  dsimp only
  refine ⟨?_, ?_⟩
  · (repeat' split) <;> first | exact h | exact zL4_s h hn
  · (repeat' split) <;> omega
theorem zwl4 (h : zL4 y0.2.2.2.1 y0.2.1) : ∀ k, y0.2.2.2.1 + k < 200000 → zL4 (lp_X12_warn_2 a1 a2 a3 a4 a5 a6 y0 k).2.2.2.1 (lp_X12_warn_2 a1 a2 a3 a4 a5 a6 y0 k).2.1 ∧ (lp_X12_warn_2 a1 a2 a3 a4 a5 a6 y0 k).2.2.2.1 ≤ y0.2.2.2.1 + k := by
  intro k
  induction k with
  | zero => intro _; rw [lp_X12_warn_2_0]; exact ⟨h, Nat.le_refl _⟩
  | succ k ih =>
    intro hk
    obtain ⟨h1, h2⟩ := ih (by omega)
    rw [lp_X12_warn_2_s]
    have h3 := zwk4 (a1 := a1) (a2 := a2) (a3 := a3) (a4 := a4) (a5 := a5) (a6 := a6) (i := k) h1 (by omega)
    exact ⟨h3.1, by omega⟩
end ZPL4
theorem zwL4 {l4 a1 : Int32} {a2 a3 a4 a5 a6 f5 w1 w2 w3 : Nat → Int32} {N n0 sb0 : Nat} (h : zL4 n0 N) (hn : n0 + sb0 < 200000) : zL4 (g_X12_warn_wa_0 l4 a1 a2 N sb0 a3 a4 a5 a6 f5 n0 w1 w2 w3) (g_X12_warn_r4_0 l4 a1 a2 N sb0 a3 a4 a5 a6 f5 n0 w1 w2 w3) ∧ g_X12_warn_wa_0 l4 a1 a2 N sb0 a3 a4 a5 a6 f5 n0 w1 w2 w3 ≤ n0 + sb0 := zwl4 (y0 := (l4, N, f5, n0, w1, w2, w3)) h sb0 hn
def snv (ml : zMl) : Nat := (ml.2.2.2.2.2.2.2.2.1).toNatClampNeg
def zSm (hr : Nat) (md : zMd) (ml : zMl) (te : zMs) (sb : zMb) (so : zMo) (wa : zMw) (r1 r2 r3 r4 : Nat) : Prop := ml.2.2.2.2.2.2.2.2.1 = nI (snv ml) ∧ snv ml ≤ 4 ∧ (∀ j, j < 3 → vp_in (ml.2.2.1 j) 48) ∧ zBo ml.2.2.2.2.2.1 ∧ te.1 ≤ 10 ∧ sb.1 ≤ 12 ∧ so.1 ≤ 6 ∧ (∀ j, j < sb.1 → vp_in (sb.2.1 j) 48) ∧ (∀ j, j < so.1 → vp_in (so.2.1 j) 48) ∧ (∀ j, j < te.1 → (0 : Int32) ≤ te.2.2.2.1 j ∧ te.2.2.2.1 j ≤ 100) ∧ md.2.1 = nI hr ∧ hr ≤ 999 ∧ wa.1 ≤ 12 * hr ∧ zL3 te.1 r1 ∧ zL3 sb.1 r2 ∧ zL3 so.1 r3 ∧ zL4 wa.1 r4
/-! what class and reference ask alike -/
theorem zrB {a b d : Int32} : x_X7_checkRange a b d = (0 : Int32) ↔ ¬ r_X12_isBetween a b d = (0 : Int32) := by
  unfold x_X7_checkRange r_X12_isBetween
  by_cases h1 : a < b
  · rw [if_pos h1, if_pos h1]; decide
  · rw [if_neg h1, if_neg h1]
    by_cases h2 : a ≤ d
    · rw [if_pos h2, if_neg (Int32.not_lt.mpr h2)]; decide
    · rw [if_neg h2, if_pos (Int32.not_le.mp h2)]; decide
theorem zcB7 {a : Int32} : r_X12_isBetween a (0 : Int32) (7 : Int32) = (0 : Int32) ↔ (a < (0 : Int32) ∨ (8 : Int32) ≤ a) := by
  unfold r_X12_isBetween
  have e : ((7 : Int32) < a) ↔ ((8 : Int32) ≤ a) := by rw [zlt, zle, show (7 : Int32).toInt = 7 by decide, show (8 : Int32).toInt = 8 by decide]; omega
  by_cases h1 : a < (0 : Int32)
  · rw [if_pos h1]; exact ⟨fun _ => Or.inl h1, fun _ => rfl⟩
  · rw [if_neg h1]
    by_cases h2 : (8 : Int32) ≤ a
    · rw [if_pos (e.mpr h2)]; exact ⟨fun _ => Or.inr h2, fun _ => rfl⟩
    · rw [if_neg (fun z => h2 (e.mp z))]; exact ⟨fun z => absurd z (by decide), fun z => absurd z (fun z => z.elim h1 h2)⟩
theorem zcB5 {a : Int32} : r_X12_isBetween a (0 : Int32) (5 : Int32) = (0 : Int32) ↔ (a < (0 : Int32) ∨ (6 : Int32) ≤ a) := by
  unfold r_X12_isBetween
  have e : ((5 : Int32) < a) ↔ ((6 : Int32) ≤ a) := by rw [zlt, zle, show (5 : Int32).toInt = 5 by decide, show (6 : Int32).toInt = 6 by decide]; omega
  by_cases h1 : a < (0 : Int32)
  · rw [if_pos h1]; exact ⟨fun _ => Or.inl h1, fun _ => rfl⟩
  · rw [if_neg h1]
    by_cases h2 : (6 : Int32) ≤ a
    · rw [if_pos (e.mpr h2)]; exact ⟨fun _ => Or.inr h2, fun _ => rfl⟩
    · rw [if_neg (fun z => h2 (e.mp z))]; exact ⟨fun z => absurd z (by decide), fun z => absurd z (fun z => z.elim h1 h2)⟩
theorem zcB {a b : Int32} : x_X7_placeOf a b = (0 : Int32) ↔ ¬ r_X12_isCell a b = (0 : Int32) := by
  unfold x_X7_placeOf r_X7_isCell r_X12_isCell
  by_cases h1 : a < (0 : Int32)
  · rw [if_pos h1, if_pos (zcB7.mpr (Or.inl h1))]; decide
  · rw [if_neg h1]
    by_cases h2 : (8 : Int32) ≤ a
    · rw [if_pos h2, if_pos (zcB7.mpr (Or.inr h2))]; decide
    · rw [if_neg h2, if_neg (fun z => (zcB7.mp z).elim h1 h2)]
      by_cases h3 : b < (0 : Int32)
      · rw [if_pos h3, if_pos (zcB5.mpr (Or.inl h3))]; decide
      · rw [if_neg h3]
        by_cases h4 : (6 : Int32) ≤ b
        · rw [if_pos h4, if_pos (zcB5.mpr (Or.inr h4))]; decide
        · rw [if_neg h4, if_neg (fun z => (zcB5.mp z).elim h3 h4)]; decide
theorem zplace_at {a b : Int32} (h : ¬ r_X12_isCell a b = (0 : Int32)) : r_X7_placeOf a b = r_X12_at a b := by
  have h1 := zcB.mpr h
  unfold x_X7_placeOf at h1
  unfold r_X7_placeOf r_X12_at
  by_cases c : r_X7_isCell a b = (0 : Int32)
  · rw [if_pos c] at h1; exact absurd h1 (by decide)
  · rw [if_neg c]
theorem zpq {wo a : Int32} : x_X7_pass wo a = (0 : Int32) ↔ r_X12_isWrong (if r_X12_isBetween a (1 : Int32) (24 : Int32) = (0 : Int32) then (1 : Int32) else (if (wo + a) ≤ (999 : Int32) then (0 : Int32) else (2 : Int32))) = (0 : Int32) := by
  unfold x_X7_pass
  by_cases c1 : r_X12_isBetween a (1 : Int32) (24 : Int32) = (0 : Int32)
  · rw [if_pos c1, if_neg (fun z => zrB.mp z c1)]; decide
  · rw [if_neg c1, if_pos (zrB.mpr c1)]
    by_cases c2 : (wo + a) ≤ (999 : Int32)
    · rw [if_pos c2, if_pos c2]; decide
    · rw [if_neg c2, if_neg c2]; decide
set_option maxHeartbeats 4000000 in
set_option maxRecDepth 100000 in
theorem m_setFuel {hr : Nat} {md : zMd} {ml : zMl} {te : zMs} {sb : zMb} {so : zMo} {wa : zMw} {r1 r2 r3 r4 : Nat} {xs : Nat → Int32} {kc : Nat} (M : zSm hr md ml te sb so wa r1 r2 r3 r4) : zSm hr ((g_X12_setFuel_md_0 (xs ((6 * kc) + 1)) (xs ((6 * kc) + 2)) (xs ((6 * kc) + 3))), md.2.1, md.2.2.1, md.2.2.2) ((g_X12_setFuel_ml_0 ml.1 (xs ((6 * kc) + 1)) (xs ((6 * kc) + 2)) (xs ((6 * kc) + 3))), ml.2.1, ml.2.2.1, ml.2.2.2.1, ml.2.2.2.2.1, ml.2.2.2.2.2.1, ml.2.2.2.2.2.2.1, ml.2.2.2.2.2.2.2.1, ml.2.2.2.2.2.2.2.2.1, ml.2.2.2.2.2.2.2.2.2.1, ml.2.2.2.2.2.2.2.2.2.2.1, ml.2.2.2.2.2.2.2.2.2.2.2.1, ml.2.2.2.2.2.2.2.2.2.2.2.2) te sb so wa r1 r2 r3 r4 := by
  by_cases c : (r_X12_isWrong (if (r_X12_isCell (xs ((6 * kc) + 1)) (xs ((6 * kc) + 2))) = (0 : Int32) then (1 : Int32) else (if (r_X12_isBetween (xs ((6 * kc) + 3)) (0 : Int32) (99 : Int32)) = (0 : Int32) then (2 : Int32) else (0 : Int32)))) = (0 : Int32)
  · simp only [g_X12_setFuel_ml_0, if_pos c]
    exact M
  · simp only [g_X12_setFuel_ml_0, if_neg c]
    exact M
set_option maxHeartbeats 4000000 in
set_option maxRecDepth 100000 in
theorem m_light {hr : Nat} {md : zMd} {ml : zMl} {te : zMs} {sb : zMb} {so : zMo} {wa : zMw} {r1 r2 r3 r4 : Nat} {xs : Nat → Int32} {kc : Nat} (M : zSm hr md ml te sb so wa r1 r2 r3 r4) : zSm hr ((g_X12_light_md_0 ml.1 ml.2.2.2.2.2.1 (xs ((6 * kc) + 1)) (xs ((6 * kc) + 2)) (xs ((6 * kc) + 3))), md.2.1, md.2.2.1, md.2.2.2) (ml.1, ml.2.1, ml.2.2.1, (g_X12_light_ml_3 ml.1 ml.2.2.2.1 ml.2.2.2.2.2.1 (xs ((6 * kc) + 1)) (xs ((6 * kc) + 2)) (xs ((6 * kc) + 3))), ml.2.2.2.2.1, ml.2.2.2.2.2.1, ml.2.2.2.2.2.2.1, ml.2.2.2.2.2.2.2.1, ml.2.2.2.2.2.2.2.2.1, ml.2.2.2.2.2.2.2.2.2.1, ml.2.2.2.2.2.2.2.2.2.2.1, ml.2.2.2.2.2.2.2.2.2.2.2.1, ml.2.2.2.2.2.2.2.2.2.2.2.2) te sb so wa r1 r2 r3 r4 := by
  by_cases c : (r_X12_isWrong (if (r_X12_isCell (xs ((6 * kc) + 1)) (xs ((6 * kc) + 2))) = (0 : Int32) then (1 : Int32) else (if (r_X12_isBetween (xs ((6 * kc) + 3)) (1 : Int32) (9 : Int32)) = (0 : Int32) then (2 : Int32) else (if (ml.1 (r_X12_at (xs ((6 * kc) + 1)) (xs ((6 * kc) + 2))).toNatClampNeg) = (0 : Int32) then (3 : Int32) else (if (ml.2.2.2.2.2.1 (r_X12_at (xs ((6 * kc) + 1)) (xs ((6 * kc) + 2))).toNatClampNeg) = (0 : Int32) then (0 : Int32) else (3 : Int32)))))) = (0 : Int32)
  · simp only [g_X12_light_ml_3, if_pos c]
    exact M
  · simp only [g_X12_light_ml_3, if_neg c]
    exact M
set_option maxHeartbeats 4000000 in
set_option maxRecDepth 100000 in
theorem m_setWind {hr : Nat} {md : zMd} {ml : zMl} {te : zMs} {sb : zMb} {so : zMo} {wa : zMw} {r1 r2 r3 r4 : Nat} {xs : Nat → Int32} {kc : Nat} (M : zSm hr md ml te sb so wa r1 r2 r3 r4) : zSm hr ((g_X12_setWind_md_0 (xs ((6 * kc) + 1)) (xs ((6 * kc) + 2)) (xs ((6 * kc) + 3))), md.2.1, md.2.2.1, md.2.2.2) (ml.1, ml.2.1, ml.2.2.1, ml.2.2.2.1, ml.2.2.2.2.1, ml.2.2.2.2.2.1, (g_X12_setWind_ml_6 ml.2.2.2.2.2.2.1 (xs ((6 * kc) + 1)) (xs ((6 * kc) + 2)) (xs ((6 * kc) + 3))), (g_X12_setWind_ml_7 ml.2.2.2.2.2.2.2.1 (xs ((6 * kc) + 1)) (xs ((6 * kc) + 2)) (xs ((6 * kc) + 3))), (g_X12_setWind_ml_8 ml.2.2.2.2.2.2.2.2.1 (xs ((6 * kc) + 1)) (xs ((6 * kc) + 2)) (xs ((6 * kc) + 3))), ml.2.2.2.2.2.2.2.2.2.1, ml.2.2.2.2.2.2.2.2.2.2.1, ml.2.2.2.2.2.2.2.2.2.2.2.1, ml.2.2.2.2.2.2.2.2.2.2.2.2) te sb so wa r1 r2 r3 r4 := by
  by_cases c : (r_X12_isWrong (if (if (r_X12_isBetween (xs ((6 * kc) + 1)) (-1 : Int32) (1 : Int32)) = (0 : Int32) then (0 : Int32) else (if (r_X12_isBetween (xs ((6 * kc) + 2)) (-1 : Int32) (1 : Int32)) = (0 : Int32) then (0 : Int32) else (if (r_X12_isBetween (xs ((6 * kc) + 3)) (0 : Int32) (if (xs ((6 * kc) + 1)) = (0 : Int32) then (if (xs ((6 * kc) + 2)) = (0 : Int32) then (0 : Int32) else (4 : Int32)) else (4 : Int32))) = (0 : Int32) then (0 : Int32) else (1 : Int32)))) = (0 : Int32) then (1 : Int32) else (0 : Int32))) = (0 : Int32)
  · simp only [g_X12_setWind_ml_6, g_X12_setWind_ml_7, g_X12_setWind_ml_8, if_pos c]
    obtain ⟨s1, s2, hq, hbo, n10, n12, n6, hat, hat3, htr, hh, h9, hw, q1, q2, q3, q4⟩ := M
    have c1 := (zmw2 (k := 1) c (by decide)).1
    have c2 : (xs ((6 * kc) + 3)) = nI (xs ((6 * kc) + 3)).toNatClampNeg ∧ (xs ((6 * kc) + 3)).toNatClampNeg ≤ 4 := by
      by_cases d1 : r_X12_isBetween (xs ((6 * kc) + 1)) (-1 : Int32) (1 : Int32) = (0 : Int32)
      · rw [if_pos d1] at c1; exact absurd rfl c1
      rw [if_neg d1] at c1
      by_cases d2 : r_X12_isBetween (xs ((6 * kc) + 2)) (-1 : Int32) (1 : Int32) = (0 : Int32)
      · rw [if_pos d2] at c1; exact absurd rfl c1
      rw [if_neg d2] at c1
      by_cases d3 : r_X12_isBetween (xs ((6 * kc) + 3)) (0 : Int32) (if (xs ((6 * kc) + 1)) = (0 : Int32) then (if (xs ((6 * kc) + 2)) = (0 : Int32) then (0 : Int32) else (4 : Int32)) else (4 : Int32)) = (0 : Int32)
      · rw [if_pos d3] at c1; exact absurd rfl c1
      exact zwind (zrB.mpr d3)
    exact ⟨c2.1, c2.2, hq, hbo, n10, n12, n6, hat, hat3, htr, hh, h9, hw, q1, q2, q3, q4⟩
  · simp only [g_X12_setWind_ml_6, g_X12_setWind_ml_7, g_X12_setWind_ml_8, if_neg c]
    exact M
set_option maxHeartbeats 4000000 in
set_option maxRecDepth 100000 in
theorem m_setRain {hr : Nat} {md : zMd} {ml : zMl} {te : zMs} {sb : zMb} {so : zMo} {wa : zMw} {r1 r2 r3 r4 : Nat} {xs : Nat → Int32} {kc : Nat} (M : zSm hr md ml te sb so wa r1 r2 r3 r4) : zSm hr ((g_X12_setRain_md_0 (xs ((6 * kc) + 1))), md.2.1, md.2.2.1, md.2.2.2) (ml.1, ml.2.1, ml.2.2.1, ml.2.2.2.1, ml.2.2.2.2.1, ml.2.2.2.2.2.1, ml.2.2.2.2.2.2.1, ml.2.2.2.2.2.2.2.1, ml.2.2.2.2.2.2.2.2.1, (g_X12_setRain_ml_9 ml.2.2.2.2.2.2.2.2.2.1 (xs ((6 * kc) + 1))), ml.2.2.2.2.2.2.2.2.2.2.1, ml.2.2.2.2.2.2.2.2.2.2.2.1, ml.2.2.2.2.2.2.2.2.2.2.2.2) te sb so wa r1 r2 r3 r4 := by
  by_cases c : (r_X12_isWrong (if (r_X12_isBetween (xs ((6 * kc) + 1)) (0 : Int32) (9 : Int32)) = (0 : Int32) then (1 : Int32) else (0 : Int32))) = (0 : Int32)
  · simp only [g_X12_setRain_ml_9, if_pos c]
    exact M
  · simp only [g_X12_setRain_ml_9, if_neg c]
    exact M
set_option maxHeartbeats 4000000 in
set_option maxRecDepth 100000 in
theorem m_digLine {hr : Nat} {md : zMd} {ml : zMl} {te : zMs} {sb : zMb} {so : zMo} {wa : zMw} {r1 r2 r3 r4 : Nat} {xs : Nat → Int32} {kc : Nat} (M : zSm hr md ml te sb so wa r1 r2 r3 r4) : zSm hr ((g_X12_digLine_md_0 ml.2.2.2.1 ml.2.2.2.2.2.1 (xs ((6 * kc) + 1)) (xs ((6 * kc) + 2)) (xs ((6 * kc) + 3))), md.2.1, md.2.2.1, md.2.2.2) (ml.1, (g_X12_digLine_ml_1 ml.1 ml.2.1 ml.2.2.2.1 ml.2.2.2.2.2.1 (xs ((6 * kc) + 1)) (xs ((6 * kc) + 2)) (xs ((6 * kc) + 3))), (g_X12_digLine_ml_2 ml.2.2.1 ml.2.2.2.1 ml.2.2.2.2.2.1 (xs ((6 * kc) + 1)) (xs ((6 * kc) + 2)) (xs ((6 * kc) + 3))), ml.2.2.2.1, ml.2.2.2.2.1, ml.2.2.2.2.2.1, ml.2.2.2.2.2.2.1, ml.2.2.2.2.2.2.2.1, ml.2.2.2.2.2.2.2.2.1, ml.2.2.2.2.2.2.2.2.2.1, ml.2.2.2.2.2.2.2.2.2.2.1, ml.2.2.2.2.2.2.2.2.2.2.2.1, ml.2.2.2.2.2.2.2.2.2.2.2.2) te sb so wa r1 r2 r3 r4 := by
  by_cases c : (r_X12_isWrong (if (r_X12_isCell (xs ((6 * kc) + 1)) (xs ((6 * kc) + 2))) = (0 : Int32) then (1 : Int32) else (if (r_X12_isCrew (xs ((6 * kc) + 3))) = (0 : Int32) then (2 : Int32) else (if (ml.2.2.2.2.2.1 (r_X12_at (xs ((6 * kc) + 1)) (xs ((6 * kc) + 2))).toNatClampNeg) = (0 : Int32) then (if (ml.2.2.2.1 (r_X12_at (xs ((6 * kc) + 1)) (xs ((6 * kc) + 2))).toNatClampNeg) ≤ (4 : Int32) then (0 : Int32) else (3 : Int32)) else (3 : Int32))))) = (0 : Int32)
  · simp only [g_X12_digLine_ml_1, g_X12_digLine_ml_2, if_pos c]
    obtain ⟨s1, s2, hq, hbo, n10, n12, n6, hat, hat3, htr, hh, h9, hw, q1, q2, q3, q4⟩ := M
    have c1 := zmw2 (k := 1) c (by decide)
    have c2 := zmw2 (k := 2) c1.2 (by decide)
    have q : ∀ j, j < 3 → vp_in (upd ml.2.2.1 (xs ((6 * kc) + 3)).toNatClampNeg (r_X12_at (xs ((6 * kc) + 1)) (xs ((6 * kc) + 2))) j) 48 := by
      intro j hj
      by_cases e : j = (xs ((6 * kc) + 3)).toNatClampNeg
      · rw [e, upd_i]; exact zmcell_ix c1.1
      · rw [upd_o e]; exact hq j hj
    exact ⟨s1, s2, q, hbo, n10, n12, n6, hat, hat3, htr, hh, h9, hw, q1, q2, q3, q4⟩
  · simp only [g_X12_digLine_ml_1, g_X12_digLine_ml_2, if_neg c]
    exact M
set_option maxHeartbeats 4000000 in
set_option maxRecDepth 100000 in
theorem m_addSensor {hr : Nat} {md : zMd} {ml : zMl} {te : zMs} {sb : zMb} {so : zMo} {wa : zMw} {r1 r2 r3 r4 : Nat} {xs : Nat → Int32} {kc : Nat} (M : zSm hr md ml te sb so wa r1 r2 r3 r4) : zSm hr ((g_X12_addSensor_md_0 te.1 (xs ((6 * kc) + 1)) (xs ((6 * kc) + 2))), md.2.1, md.2.2.1, md.2.2.2) ml ((g_X12_addSensor_se_0 te.1 (xs ((6 * kc) + 1)) (xs ((6 * kc) + 2))), (g_X12_addSensor_se_1 te.1 te.2.1 (xs ((6 * kc) + 1)) (xs ((6 * kc) + 2))), (g_X12_addSensor_se_2 te.1 te.2.2.1 (xs ((6 * kc) + 1)) (xs ((6 * kc) + 2))), (g_X12_addSensor_se_3 te.1 te.2.2.2.1 (xs ((6 * kc) + 1)) (xs ((6 * kc) + 2))), (g_X12_addSensor_se_4 te.1 te.2.2.2.2.1 (xs ((6 * kc) + 1)) (xs ((6 * kc) + 2))), (g_X12_addSensor_se_5 te.1 te.2.2.2.2.2.1 (xs ((6 * kc) + 1)) (xs ((6 * kc) + 2))), (g_X12_addSensor_se_6 te.1 te.2.2.2.2.2.2.1 (xs ((6 * kc) + 1)) (xs ((6 * kc) + 2))), (g_X12_addSensor_se_7 te.1 te.2.2.2.2.2.2.2 (xs ((6 * kc) + 1)) (xs ((6 * kc) + 2)))) sb so wa (g_X12_addSensor_r1_0 r1 te.1 (xs ((6 * kc) + 1)) (xs ((6 * kc) + 2))) r2 r3 r4 := by
  by_cases c : (r_X12_isWrong (if (r_X12_isCell (xs ((6 * kc) + 1)) (xs ((6 * kc) + 2))) = (0 : Int32) then (1 : Int32) else (if (r_Jx4a65c_size_8abf5 (nI te.1)) = (10 : Int32) then (2 : Int32) else (0 : Int32)))) = (0 : Int32)
  · simp only [g_X12_addSensor_se_0, g_X12_addSensor_se_1, g_X12_addSensor_se_2, g_X12_addSensor_se_3, g_X12_addSensor_se_4, g_X12_addSensor_se_5, g_X12_addSensor_se_6, g_X12_addSensor_se_7, g_X12_addSensor_r1_0, if_pos c]
    obtain ⟨s1, s2, hq, hbo, n10, n12, n6, hat, hat3, htr, hh, h9, hw, q1, q2, q3, q4⟩ := M
    have c1 := zmw2 (k := 1) c (by decide)
    have c2 := zmw2 (k := 2) c1.2 (by decide)
    have hn : te.1 < 10 := by
      rcases Nat.lt_or_eq_of_le n10 with z | z
      · exact z
      · exact absurd (by rw [z]; rfl) c2.1
    have q : ∀ j, j < te.1 + 1 → (0 : Int32) ≤ upd te.2.2.2.1 te.1 (50 : Int32) j ∧ upd te.2.2.2.1 te.1 (50 : Int32) j ≤ 100 := by
      intro j hj
      by_cases e : j = te.1
      · rw [e, upd_i]; decide
      · rw [upd_o e]; exact htr j (by omega)
    exact ⟨s1, s2, hq, hbo, hn, n12, n6, hat, hat3, q, hh, h9, hw, zL3_s q1 (by omega), q2, q3, q4⟩
  · simp only [g_X12_addSensor_se_0, g_X12_addSensor_se_1, g_X12_addSensor_se_2, g_X12_addSensor_se_3, g_X12_addSensor_se_4, g_X12_addSensor_se_5, g_X12_addSensor_se_6, g_X12_addSensor_se_7, g_X12_addSensor_r1_0, if_neg c]
    exact M
set_option maxHeartbeats 4000000 in
set_option maxRecDepth 100000 in
theorem m_read {hr : Nat} {md : zMd} {ml : zMl} {te : zMs} {sb : zMb} {so : zMo} {wa : zMw} {r1 r2 r3 r4 : Nat} {xs : Nat → Int32} {kc : Nat} (M : zSm hr md ml te sb so wa r1 r2 r3 r4) : zSm hr ((g_X12_read_md_0 te.1 (xs ((6 * kc) + 1)) (xs ((6 * kc) + 2))), md.2.1, md.2.2.1, md.2.2.2) ml (te.1, te.2.1, te.2.2.1, te.2.2.2.1, (g_X12_read_se_4 te.1 te.2.2.2.2.1 (xs ((6 * kc) + 1)) (xs ((6 * kc) + 2))), te.2.2.2.2.2.1, te.2.2.2.2.2.2.1, te.2.2.2.2.2.2.2) sb so wa r1 r2 r3 r4 := by
  by_cases c : (r_X12_isWrong (if (r_X12_isSensor te.1 (xs ((6 * kc) + 1))) = (0 : Int32) then (1 : Int32) else (if (r_X12_isBetween (xs ((6 * kc) + 2)) (0 : Int32) (9999 : Int32)) = (0 : Int32) then (2 : Int32) else (0 : Int32)))) = (0 : Int32)
  · simp only [g_X12_read_se_4, if_pos c]
    exact M
  · simp only [g_X12_read_se_4, if_neg c]
    exact M
set_option maxHeartbeats 4000000 in
set_option maxRecDepth 100000 in
theorem m_subscribe {hr : Nat} {md : zMd} {ml : zMl} {te : zMs} {sb : zMb} {so : zMo} {wa : zMw} {r1 r2 r3 r4 : Nat} {xs : Nat → Int32} {kc : Nat} (M : zSm hr md ml te sb so wa r1 r2 r3 r4) : zSm hr ((g_X12_subscribe_md_0 sb.1 (xs ((6 * kc) + 1)) (xs ((6 * kc) + 2)) (xs ((6 * kc) + 3)) (xs ((6 * kc) + 4)) (xs ((6 * kc) + 5))), md.2.1, md.2.2.1, md.2.2.2) ml te ((g_X12_subscribe_sb_0 sb.1 (xs ((6 * kc) + 1)) (xs ((6 * kc) + 2)) (xs ((6 * kc) + 3)) (xs ((6 * kc) + 4)) (xs ((6 * kc) + 5))), (g_X12_subscribe_sb_1 sb.1 sb.2.1 (xs ((6 * kc) + 1)) (xs ((6 * kc) + 2)) (xs ((6 * kc) + 3)) (xs ((6 * kc) + 4)) (xs ((6 * kc) + 5))), (g_X12_subscribe_sb_2 sb.1 sb.2.2.1 (xs ((6 * kc) + 1)) (xs ((6 * kc) + 2)) (xs ((6 * kc) + 3)) (xs ((6 * kc) + 4)) (xs ((6 * kc) + 5))), (g_X12_subscribe_sb_3 sb.1 sb.2.2.2.1 (xs ((6 * kc) + 1)) (xs ((6 * kc) + 2)) (xs ((6 * kc) + 3)) (xs ((6 * kc) + 4)) (xs ((6 * kc) + 5))), (g_X12_subscribe_sb_4 sb.1 sb.2.2.2.2.1 (xs ((6 * kc) + 1)) (xs ((6 * kc) + 2)) (xs ((6 * kc) + 3)) (xs ((6 * kc) + 4)) (xs ((6 * kc) + 5))), (g_X12_subscribe_sb_5 sb.1 sb.2.2.2.2.2 (xs ((6 * kc) + 1)) (xs ((6 * kc) + 2)) (xs ((6 * kc) + 3)) (xs ((6 * kc) + 4)) (xs ((6 * kc) + 5)))) so wa r1 (g_X12_subscribe_r2_0 r2 sb.1 (xs ((6 * kc) + 1)) (xs ((6 * kc) + 2)) (xs ((6 * kc) + 3)) (xs ((6 * kc) + 4)) (xs ((6 * kc) + 5))) r3 r4 := by
  by_cases c : (r_X12_isWrong (if (r_X12_isCell (xs ((6 * kc) + 1)) (xs ((6 * kc) + 2))) = (0 : Int32) then (1 : Int32) else (if (if (r_X12_isBetween (xs ((6 * kc) + 3)) (20 : Int32) (9999 : Int32)) = (0 : Int32) then (0 : Int32) else (if (r_X12_isBetween (xs ((6 * kc) + 4)) (0 : Int32) (23 : Int32)) = (0 : Int32) then (0 : Int32) else (if (r_X12_isBetween (xs ((6 * kc) + 5)) (0 : Int32) (23 : Int32)) = (0 : Int32) then (0 : Int32) else (1 : Int32)))) = (0 : Int32) then (2 : Int32) else (if (r_Jx4a65c_size_8abf5 (nI sb.1)) = (12 : Int32) then (3 : Int32) else (0 : Int32))))) = (0 : Int32)
  · simp only [g_X12_subscribe_sb_0, g_X12_subscribe_sb_1, g_X12_subscribe_sb_2, g_X12_subscribe_sb_3, g_X12_subscribe_sb_4, g_X12_subscribe_sb_5, g_X12_subscribe_r2_0, if_pos c]
    obtain ⟨s1, s2, hq, hbo, n10, n12, n6, hat, hat3, htr, hh, h9, hw, q1, q2, q3, q4⟩ := M
    have c1 := zmw2 (k := 1) c (by decide)
    have c2 := zmw2 (k := 2) c1.2 (by decide)
    have c3 := zmw2 (k := 3) c2.2 (by decide)
    have hn : sb.1 < 12 := by
      rcases Nat.lt_or_eq_of_le n12 with z | z
      · exact z
      · exact absurd (by rw [z]; rfl) c3.1
    have q : ∀ j, j < sb.1 + 1 → vp_in (upd sb.2.1 sb.1 (r_X12_at (xs ((6 * kc) + 1)) (xs ((6 * kc) + 2))) j) 48 := by
      intro j hj
      by_cases e : j = sb.1
      · rw [e, upd_i]; exact zmcell_ix c1.1
      · rw [upd_o e]; exact hat j (by omega)
    exact ⟨s1, s2, hq, hbo, n10, hn, n6, q, hat3, htr, hh, h9, hw, q1, zL3_s q2 hn, q3, q4⟩
  · simp only [g_X12_subscribe_sb_0, g_X12_subscribe_sb_1, g_X12_subscribe_sb_2, g_X12_subscribe_sb_3, g_X12_subscribe_sb_4, g_X12_subscribe_sb_5, g_X12_subscribe_r2_0, if_neg c]
    exact M
set_option maxHeartbeats 4000000 in
set_option maxRecDepth 100000 in
theorem m_addSchool {hr : Nat} {md : zMd} {ml : zMl} {te : zMs} {sb : zMb} {so : zMo} {wa : zMw} {r1 r2 r3 r4 : Nat} {xs : Nat → Int32} {kc : Nat} (M : zSm hr md ml te sb so wa r1 r2 r3 r4) : zSm hr ((g_X12_addSchool_md_0 so.1 (xs ((6 * kc) + 1)) (xs ((6 * kc) + 2)) (xs ((6 * kc) + 3))), md.2.1, md.2.2.1, md.2.2.2) ml te sb ((g_X12_addSchool_so_0 so.1 (xs ((6 * kc) + 1)) (xs ((6 * kc) + 2)) (xs ((6 * kc) + 3))), (g_X12_addSchool_so_1 so.1 so.2.1 (xs ((6 * kc) + 1)) (xs ((6 * kc) + 2)) (xs ((6 * kc) + 3))), (g_X12_addSchool_so_2 so.1 so.2.2.1 (xs ((6 * kc) + 1)) (xs ((6 * kc) + 2)) (xs ((6 * kc) + 3))), (g_X12_addSchool_so_3 so.1 so.2.2.2 (xs ((6 * kc) + 1)) (xs ((6 * kc) + 2)) (xs ((6 * kc) + 3)))) wa r1 r2 (g_X12_addSchool_r3_0 r3 so.1 (xs ((6 * kc) + 1)) (xs ((6 * kc) + 2)) (xs ((6 * kc) + 3))) r4 := by
  by_cases c : (r_X12_isWrong (if (r_X12_isCell (xs ((6 * kc) + 1)) (xs ((6 * kc) + 2))) = (0 : Int32) then (1 : Int32) else (if (r_X12_isBetween (xs ((6 * kc) + 3)) (20 : Int32) (9999 : Int32)) = (0 : Int32) then (2 : Int32) else (if (r_Jx4a65c_size_8abf5 (nI so.1)) = (6 : Int32) then (3 : Int32) else (0 : Int32))))) = (0 : Int32)
  · simp only [g_X12_addSchool_so_0, g_X12_addSchool_so_1, g_X12_addSchool_so_2, g_X12_addSchool_so_3, g_X12_addSchool_r3_0, if_pos c]
    obtain ⟨s1, s2, hq, hbo, n10, n12, n6, hat, hat3, htr, hh, h9, hw, q1, q2, q3, q4⟩ := M
    have c1 := zmw2 (k := 1) c (by decide)
    have c2 := zmw2 (k := 2) c1.2 (by decide)
    have c3 := zmw2 (k := 3) c2.2 (by decide)
    have hn : so.1 < 6 := by
      rcases Nat.lt_or_eq_of_le n6 with z | z
      · exact z
      · exact absurd (by rw [z]; rfl) c3.1
    have q : ∀ j, j < so.1 + 1 → vp_in (upd so.2.1 so.1 (r_X12_at (xs ((6 * kc) + 1)) (xs ((6 * kc) + 2))) j) 48 := by
      intro j hj
      by_cases e : j = so.1
      · rw [e, upd_i]; exact zmcell_ix c1.1
      · rw [upd_o e]; exact hat3 j (by omega)
    exact ⟨s1, s2, hq, hbo, n10, n12, hn, hat, q, htr, hh, h9, hw, q1, q2, zL3_s q3 (by omega), q4⟩
  · simp only [g_X12_addSchool_so_0, g_X12_addSchool_so_1, g_X12_addSchool_so_2, g_X12_addSchool_so_3, g_X12_addSchool_r3_0, if_neg c]
    exact M
set_option maxHeartbeats 4000000 in
set_option maxRecDepth 100000 in
theorem zmpk {hr sn : Nat} {md : zMd} {ml : zMl} {l4 : zAL} {te : zMs} {sb : zMb} {so : zMo} {wa : zMw} {r4 : Nat} (hbo : zBo ml.2.2.2.2.2.1) (htr : ∀ j, j < te.1 → (0 : Int32) ≤ te.2.2.2.1 j ∧ te.2.2.2.1 j ≤ 100) (h4 : zL4 wa.1 r4) (hh : md.2.1 = nI hr) (h12 : sb.1 ≤ 12) (hw : wa.1 ≤ 100000) : ∀ i : Nat, i ≤ 24 → zBo ((lp_X12_pass_42 ml.2.2.1 ml.2.2.2.2.2.2.1 ml.2.2.2.2.2.2.2.1 ml.2.2.2.2.2.2.2.2.1 ml.2.2.2.2.2.2.2.2.2.1 sb.1 sb.2.1 sb.2.2.1 sb.2.2.2.1 sb.2.2.2.2.1 te.1 te.2.1 te.2.2.1 so.1 so.2.1 so.2.2.1 sn (l4.1, md.2.1, md.2.2.1, md.2.2.2, ml.1, ml.2.1, ml.2.2.2.1, ml.2.2.2.2.1, ml.2.2.2.2.2.1, ml.2.2.2.2.2.2.2.2.2.2.1, ml.2.2.2.2.2.2.2.2.2.2.2.1, ml.2.2.2.2.2.2.2.2.2.2.2.2, r4, sb.2.2.2.2.2, te.2.2.2.1, te.2.2.2.2.1, te.2.2.2.2.2.1, te.2.2.2.2.2.2.1, te.2.2.2.2.2.2.2, so.2.2.2, wa.1, wa.2.1, wa.2.2.1, wa.2.2.2) i).2.2.2.2.2.2.2.2.1) ∧ (∀ j, j < te.1 → (0 : Int32) ≤ ((lp_X12_pass_42 ml.2.2.1 ml.2.2.2.2.2.2.1 ml.2.2.2.2.2.2.2.1 ml.2.2.2.2.2.2.2.2.1 ml.2.2.2.2.2.2.2.2.2.1 sb.1 sb.2.1 sb.2.2.1 sb.2.2.2.1 sb.2.2.2.2.1 te.1 te.2.1 te.2.2.1 so.1 so.2.1 so.2.2.1 sn (l4.1, md.2.1, md.2.2.1, md.2.2.2, ml.1, ml.2.1, ml.2.2.2.1, ml.2.2.2.2.1, ml.2.2.2.2.2.1, ml.2.2.2.2.2.2.2.2.2.2.1, ml.2.2.2.2.2.2.2.2.2.2.2.1, ml.2.2.2.2.2.2.2.2.2.2.2.2, r4, sb.2.2.2.2.2, te.2.2.2.1, te.2.2.2.2.1, te.2.2.2.2.2.1, te.2.2.2.2.2.2.1, te.2.2.2.2.2.2.2, so.2.2.2, wa.1, wa.2.1, wa.2.2.1, wa.2.2.2) i).2.2.2.2.2.2.2.2.2.2.2.2.2.2.1) j ∧ ((lp_X12_pass_42 ml.2.2.1 ml.2.2.2.2.2.2.1 ml.2.2.2.2.2.2.2.1 ml.2.2.2.2.2.2.2.2.1 ml.2.2.2.2.2.2.2.2.2.1 sb.1 sb.2.1 sb.2.2.1 sb.2.2.2.1 sb.2.2.2.2.1 te.1 te.2.1 te.2.2.1 so.1 so.2.1 so.2.2.1 sn (l4.1, md.2.1, md.2.2.1, md.2.2.2, ml.1, ml.2.1, ml.2.2.2.1, ml.2.2.2.2.1, ml.2.2.2.2.2.1, ml.2.2.2.2.2.2.2.2.2.2.1, ml.2.2.2.2.2.2.2.2.2.2.2.1, ml.2.2.2.2.2.2.2.2.2.2.2.2, r4, sb.2.2.2.2.2, te.2.2.2.1, te.2.2.2.2.1, te.2.2.2.2.2.1, te.2.2.2.2.2.2.1, te.2.2.2.2.2.2.2, so.2.2.2, wa.1, wa.2.1, wa.2.2.1, wa.2.2.2) i).2.2.2.2.2.2.2.2.2.2.2.2.2.2.1) j ≤ 100) ∧ zL4 ((lp_X12_pass_42 ml.2.2.1 ml.2.2.2.2.2.2.1 ml.2.2.2.2.2.2.2.1 ml.2.2.2.2.2.2.2.2.1 ml.2.2.2.2.2.2.2.2.2.1 sb.1 sb.2.1 sb.2.2.1 sb.2.2.2.1 sb.2.2.2.2.1 te.1 te.2.1 te.2.2.1 so.1 so.2.1 so.2.2.1 sn (l4.1, md.2.1, md.2.2.1, md.2.2.2, ml.1, ml.2.1, ml.2.2.2.1, ml.2.2.2.2.1, ml.2.2.2.2.2.1, ml.2.2.2.2.2.2.2.2.2.2.1, ml.2.2.2.2.2.2.2.2.2.2.2.1, ml.2.2.2.2.2.2.2.2.2.2.2.2, r4, sb.2.2.2.2.2, te.2.2.2.1, te.2.2.2.2.1, te.2.2.2.2.2.1, te.2.2.2.2.2.2.1, te.2.2.2.2.2.2.2, so.2.2.2, wa.1, wa.2.1, wa.2.2.1, wa.2.2.2) i).2.2.2.2.2.2.2.2.2.2.2.2.2.2.2.2.2.2.2.2.1) ((lp_X12_pass_42 ml.2.2.1 ml.2.2.2.2.2.2.1 ml.2.2.2.2.2.2.2.1 ml.2.2.2.2.2.2.2.2.1 ml.2.2.2.2.2.2.2.2.2.1 sb.1 sb.2.1 sb.2.2.1 sb.2.2.2.1 sb.2.2.2.2.1 te.1 te.2.1 te.2.2.1 so.1 so.2.1 so.2.2.1 sn (l4.1, md.2.1, md.2.2.1, md.2.2.2, ml.1, ml.2.1, ml.2.2.2.1, ml.2.2.2.2.1, ml.2.2.2.2.2.1, ml.2.2.2.2.2.2.2.2.2.2.1, ml.2.2.2.2.2.2.2.2.2.2.2.1, ml.2.2.2.2.2.2.2.2.2.2.2.2, r4, sb.2.2.2.2.2, te.2.2.2.1, te.2.2.2.2.1, te.2.2.2.2.2.1, te.2.2.2.2.2.2.1, te.2.2.2.2.2.2.2, so.2.2.2, wa.1, wa.2.1, wa.2.2.1, wa.2.2.2) i).2.2.2.2.2.2.2.2.2.2.2.2.1) ∧ ((lp_X12_pass_42 ml.2.2.1 ml.2.2.2.2.2.2.1 ml.2.2.2.2.2.2.2.1 ml.2.2.2.2.2.2.2.2.1 ml.2.2.2.2.2.2.2.2.2.1 sb.1 sb.2.1 sb.2.2.1 sb.2.2.2.1 sb.2.2.2.2.1 te.1 te.2.1 te.2.2.1 so.1 so.2.1 so.2.2.1 sn (l4.1, md.2.1, md.2.2.1, md.2.2.2, ml.1, ml.2.1, ml.2.2.2.1, ml.2.2.2.2.1, ml.2.2.2.2.2.1, ml.2.2.2.2.2.2.2.2.2.2.1, ml.2.2.2.2.2.2.2.2.2.2.2.1, ml.2.2.2.2.2.2.2.2.2.2.2.2, r4, sb.2.2.2.2.2, te.2.2.2.1, te.2.2.2.2.1, te.2.2.2.2.2.1, te.2.2.2.2.2.2.1, te.2.2.2.2.2.2.2, so.2.2.2, wa.1, wa.2.1, wa.2.2.1, wa.2.2.2) i).2.2.2.2.2.2.2.2.2.2.2.2.2.2.2.2.2.2.2.2.1) ≤ wa.1 + 12 * i ∧ ((lp_X12_pass_42 ml.2.2.1 ml.2.2.2.2.2.2.1 ml.2.2.2.2.2.2.2.1 ml.2.2.2.2.2.2.2.2.1 ml.2.2.2.2.2.2.2.2.2.1 sb.1 sb.2.1 sb.2.2.1 sb.2.2.2.1 sb.2.2.2.2.1 te.1 te.2.1 te.2.2.1 so.1 so.2.1 so.2.2.1 sn (l4.1, md.2.1, md.2.2.1, md.2.2.2, ml.1, ml.2.1, ml.2.2.2.1, ml.2.2.2.2.1, ml.2.2.2.2.2.1, ml.2.2.2.2.2.2.2.2.2.2.1, ml.2.2.2.2.2.2.2.2.2.2.2.1, ml.2.2.2.2.2.2.2.2.2.2.2.2, r4, sb.2.2.2.2.2, te.2.2.2.1, te.2.2.2.2.1, te.2.2.2.2.2.1, te.2.2.2.2.2.2.1, te.2.2.2.2.2.2.2, so.2.2.2, wa.1, wa.2.1, wa.2.2.1, wa.2.2.2) i).2.1) = nI (hr + i) ∧ r4 ≤ ((lp_X12_pass_42 ml.2.2.1 ml.2.2.2.2.2.2.1 ml.2.2.2.2.2.2.2.1 ml.2.2.2.2.2.2.2.2.1 ml.2.2.2.2.2.2.2.2.2.1 sb.1 sb.2.1 sb.2.2.1 sb.2.2.2.1 sb.2.2.2.2.1 te.1 te.2.1 te.2.2.1 so.1 so.2.1 so.2.2.1 sn (l4.1, md.2.1, md.2.2.1, md.2.2.2, ml.1, ml.2.1, ml.2.2.2.1, ml.2.2.2.2.1, ml.2.2.2.2.2.1, ml.2.2.2.2.2.2.2.2.2.2.1, ml.2.2.2.2.2.2.2.2.2.2.2.1, ml.2.2.2.2.2.2.2.2.2.2.2.2, r4, sb.2.2.2.2.2, te.2.2.2.1, te.2.2.2.2.1, te.2.2.2.2.2.1, te.2.2.2.2.2.2.1, te.2.2.2.2.2.2.2, so.2.2.2, wa.1, wa.2.1, wa.2.2.1, wa.2.2.2) i).2.2.2.2.2.2.2.2.2.2.2.2.1) := by
  intro i
  induction i with
  | zero => intro _; rw [lp_X12_pass_42_0]; exact ⟨hbo, htr, h4, Nat.le_refl _, hh, Nat.le_refl _⟩
  | succ i ih =>
    intro hi
    obtain ⟨j1, j2, j3, j4, j5, j6⟩ := ih (by omega)
    rw [lp_X12_pass_42_s]
    exact ⟨zhbo j1, zjtr j2, (zwL4 j3 (by omega)).1, Nat.le_trans (zwL4 j3 (by omega)).2 (by omega), by rw [← Nat.add_assoc]; exact zpi5 j5, Nat.le_trans j6 zwR⟩
set_option maxHeartbeats 4000000 in
set_option maxRecDepth 100000 in
theorem m_pass {hr sn : Nat} {wo : Int32} {md : zMd} {ml : zMl} {l4 : zAL} {te : zMs} {sb : zMb} {so : zMo} {wa : zMw} {r1 r2 r3 r4 : Nat} {xs : Nat → Int32} {kc : Nat} (hwo : wo = nI hr) (M : zSm hr md ml te sb so wa r1 r2 r3 r4) (hsn : sn = snv ml) : zSm (hr + (if x_X7_pass wo (xs ((6 * kc) + 1)) = (0 : Int32) then (xs ((6 * kc) + 1)).toNatClampNeg else 0)) ((g_X12_pass_md_0 md.2.1 (xs ((6 * kc) + 1))), (g_X12_pass_md_1 l4.1 md.2.1 md.2.2.1 md.2.2.2 ml.1 ml.2.1 ml.2.2.1 ml.2.2.2.1 ml.2.2.2.2.1 ml.2.2.2.2.2.1 ml.2.2.2.2.2.2.1 ml.2.2.2.2.2.2.2.1 ml.2.2.2.2.2.2.2.2.1 ml.2.2.2.2.2.2.2.2.2.1 ml.2.2.2.2.2.2.2.2.2.2.1 ml.2.2.2.2.2.2.2.2.2.2.2.1 ml.2.2.2.2.2.2.2.2.2.2.2.2 r4 sb.1 sb.2.1 sb.2.2.1 sb.2.2.2.1 sb.2.2.2.2.1 sb.2.2.2.2.2 te.1 te.2.1 te.2.2.1 te.2.2.2.1 te.2.2.2.2.1 te.2.2.2.2.2.1 te.2.2.2.2.2.2.1 te.2.2.2.2.2.2.2 so.1 so.2.1 so.2.2.1 so.2.2.2 wa.1 wa.2.1 wa.2.2.1 wa.2.2.2 (xs ((6 * kc) + 1)) sn), (g_X12_pass_md_2 l4.1 md.2.1 md.2.2.1 md.2.2.2 ml.1 ml.2.1 ml.2.2.1 ml.2.2.2.1 ml.2.2.2.2.1 ml.2.2.2.2.2.1 ml.2.2.2.2.2.2.1 ml.2.2.2.2.2.2.2.1 ml.2.2.2.2.2.2.2.2.1 ml.2.2.2.2.2.2.2.2.2.1 ml.2.2.2.2.2.2.2.2.2.2.1 ml.2.2.2.2.2.2.2.2.2.2.2.1 ml.2.2.2.2.2.2.2.2.2.2.2.2 r4 sb.1 sb.2.1 sb.2.2.1 sb.2.2.2.1 sb.2.2.2.2.1 sb.2.2.2.2.2 te.1 te.2.1 te.2.2.1 te.2.2.2.1 te.2.2.2.2.1 te.2.2.2.2.2.1 te.2.2.2.2.2.2.1 te.2.2.2.2.2.2.2 so.1 so.2.1 so.2.2.1 so.2.2.2 wa.1 wa.2.1 wa.2.2.1 wa.2.2.2 (xs ((6 * kc) + 1)) sn), (g_X12_pass_md_3 l4.1 md.2.1 md.2.2.1 md.2.2.2 ml.1 ml.2.1 ml.2.2.1 ml.2.2.2.1 ml.2.2.2.2.1 ml.2.2.2.2.2.1 ml.2.2.2.2.2.2.1 ml.2.2.2.2.2.2.2.1 ml.2.2.2.2.2.2.2.2.1 ml.2.2.2.2.2.2.2.2.2.1 ml.2.2.2.2.2.2.2.2.2.2.1 ml.2.2.2.2.2.2.2.2.2.2.2.1 ml.2.2.2.2.2.2.2.2.2.2.2.2 r4 sb.1 sb.2.1 sb.2.2.1 sb.2.2.2.1 sb.2.2.2.2.1 sb.2.2.2.2.2 te.1 te.2.1 te.2.2.1 te.2.2.2.1 te.2.2.2.2.1 te.2.2.2.2.2.1 te.2.2.2.2.2.2.1 te.2.2.2.2.2.2.2 so.1 so.2.1 so.2.2.1 so.2.2.2 wa.1 wa.2.1 wa.2.2.1 wa.2.2.2 (xs ((6 * kc) + 1)) sn)) ((g_X12_pass_ml_0 l4.1 md.2.1 md.2.2.1 md.2.2.2 ml.1 ml.2.1 ml.2.2.1 ml.2.2.2.1 ml.2.2.2.2.1 ml.2.2.2.2.2.1 ml.2.2.2.2.2.2.1 ml.2.2.2.2.2.2.2.1 ml.2.2.2.2.2.2.2.2.1 ml.2.2.2.2.2.2.2.2.2.1 ml.2.2.2.2.2.2.2.2.2.2.1 ml.2.2.2.2.2.2.2.2.2.2.2.1 ml.2.2.2.2.2.2.2.2.2.2.2.2 r4 sb.1 sb.2.1 sb.2.2.1 sb.2.2.2.1 sb.2.2.2.2.1 sb.2.2.2.2.2 te.1 te.2.1 te.2.2.1 te.2.2.2.1 te.2.2.2.2.1 te.2.2.2.2.2.1 te.2.2.2.2.2.2.1 te.2.2.2.2.2.2.2 so.1 so.2.1 so.2.2.1 so.2.2.2 wa.1 wa.2.1 wa.2.2.1 wa.2.2.2 (xs ((6 * kc) + 1)) sn), (g_X12_pass_ml_1 l4.1 md.2.1 md.2.2.1 md.2.2.2 ml.1 ml.2.1 ml.2.2.1 ml.2.2.2.1 ml.2.2.2.2.1 ml.2.2.2.2.2.1 ml.2.2.2.2.2.2.1 ml.2.2.2.2.2.2.2.1 ml.2.2.2.2.2.2.2.2.1 ml.2.2.2.2.2.2.2.2.2.1 ml.2.2.2.2.2.2.2.2.2.2.1 ml.2.2.2.2.2.2.2.2.2.2.2.1 ml.2.2.2.2.2.2.2.2.2.2.2.2 r4 sb.1 sb.2.1 sb.2.2.1 sb.2.2.2.1 sb.2.2.2.2.1 sb.2.2.2.2.2 te.1 te.2.1 te.2.2.1 te.2.2.2.1 te.2.2.2.2.1 te.2.2.2.2.2.1 te.2.2.2.2.2.2.1 te.2.2.2.2.2.2.2 so.1 so.2.1 so.2.2.1 so.2.2.2 wa.1 wa.2.1 wa.2.2.1 wa.2.2.2 (xs ((6 * kc) + 1)) sn), ml.2.2.1, (g_X12_pass_ml_3 l4.1 md.2.1 md.2.2.1 md.2.2.2 ml.1 ml.2.1 ml.2.2.1 ml.2.2.2.1 ml.2.2.2.2.1 ml.2.2.2.2.2.1 ml.2.2.2.2.2.2.1 ml.2.2.2.2.2.2.2.1 ml.2.2.2.2.2.2.2.2.1 ml.2.2.2.2.2.2.2.2.2.1 ml.2.2.2.2.2.2.2.2.2.2.1 ml.2.2.2.2.2.2.2.2.2.2.2.1 ml.2.2.2.2.2.2.2.2.2.2.2.2 r4 sb.1 sb.2.1 sb.2.2.1 sb.2.2.2.1 sb.2.2.2.2.1 sb.2.2.2.2.2 te.1 te.2.1 te.2.2.1 te.2.2.2.1 te.2.2.2.2.1 te.2.2.2.2.2.1 te.2.2.2.2.2.2.1 te.2.2.2.2.2.2.2 so.1 so.2.1 so.2.2.1 so.2.2.2 wa.1 wa.2.1 wa.2.2.1 wa.2.2.2 (xs ((6 * kc) + 1)) sn), (g_X12_pass_ml_4 l4.1 md.2.1 md.2.2.1 md.2.2.2 ml.1 ml.2.1 ml.2.2.1 ml.2.2.2.1 ml.2.2.2.2.1 ml.2.2.2.2.2.1 ml.2.2.2.2.2.2.1 ml.2.2.2.2.2.2.2.1 ml.2.2.2.2.2.2.2.2.1 ml.2.2.2.2.2.2.2.2.2.1 ml.2.2.2.2.2.2.2.2.2.2.1 ml.2.2.2.2.2.2.2.2.2.2.2.1 ml.2.2.2.2.2.2.2.2.2.2.2.2 r4 sb.1 sb.2.1 sb.2.2.1 sb.2.2.2.1 sb.2.2.2.2.1 sb.2.2.2.2.2 te.1 te.2.1 te.2.2.1 te.2.2.2.1 te.2.2.2.2.1 te.2.2.2.2.2.1 te.2.2.2.2.2.2.1 te.2.2.2.2.2.2.2 so.1 so.2.1 so.2.2.1 so.2.2.2 wa.1 wa.2.1 wa.2.2.1 wa.2.2.2 (xs ((6 * kc) + 1)) sn), (g_X12_pass_ml_5 l4.1 md.2.1 md.2.2.1 md.2.2.2 ml.1 ml.2.1 ml.2.2.1 ml.2.2.2.1 ml.2.2.2.2.1 ml.2.2.2.2.2.1 ml.2.2.2.2.2.2.1 ml.2.2.2.2.2.2.2.1 ml.2.2.2.2.2.2.2.2.1 ml.2.2.2.2.2.2.2.2.2.1 ml.2.2.2.2.2.2.2.2.2.2.1 ml.2.2.2.2.2.2.2.2.2.2.2.1 ml.2.2.2.2.2.2.2.2.2.2.2.2 r4 sb.1 sb.2.1 sb.2.2.1 sb.2.2.2.1 sb.2.2.2.2.1 sb.2.2.2.2.2 te.1 te.2.1 te.2.2.1 te.2.2.2.1 te.2.2.2.2.1 te.2.2.2.2.2.1 te.2.2.2.2.2.2.1 te.2.2.2.2.2.2.2 so.1 so.2.1 so.2.2.1 so.2.2.2 wa.1 wa.2.1 wa.2.2.1 wa.2.2.2 (xs ((6 * kc) + 1)) sn), ml.2.2.2.2.2.2.1, ml.2.2.2.2.2.2.2.1, ml.2.2.2.2.2.2.2.2.1, ml.2.2.2.2.2.2.2.2.2.1, (g_X12_pass_ml_10 l4.1 md.2.1 md.2.2.1 md.2.2.2 ml.1 ml.2.1 ml.2.2.1 ml.2.2.2.1 ml.2.2.2.2.1 ml.2.2.2.2.2.1 ml.2.2.2.2.2.2.1 ml.2.2.2.2.2.2.2.1 ml.2.2.2.2.2.2.2.2.1 ml.2.2.2.2.2.2.2.2.2.1 ml.2.2.2.2.2.2.2.2.2.2.1 ml.2.2.2.2.2.2.2.2.2.2.2.1 ml.2.2.2.2.2.2.2.2.2.2.2.2 r4 sb.1 sb.2.1 sb.2.2.1 sb.2.2.2.1 sb.2.2.2.2.1 sb.2.2.2.2.2 te.1 te.2.1 te.2.2.1 te.2.2.2.1 te.2.2.2.2.1 te.2.2.2.2.2.1 te.2.2.2.2.2.2.1 te.2.2.2.2.2.2.2 so.1 so.2.1 so.2.2.1 so.2.2.2 wa.1 wa.2.1 wa.2.2.1 wa.2.2.2 (xs ((6 * kc) + 1)) sn), (g_X12_pass_ml_11 l4.1 md.2.1 md.2.2.1 md.2.2.2 ml.1 ml.2.1 ml.2.2.1 ml.2.2.2.1 ml.2.2.2.2.1 ml.2.2.2.2.2.1 ml.2.2.2.2.2.2.1 ml.2.2.2.2.2.2.2.1 ml.2.2.2.2.2.2.2.2.1 ml.2.2.2.2.2.2.2.2.2.1 ml.2.2.2.2.2.2.2.2.2.2.1 ml.2.2.2.2.2.2.2.2.2.2.2.1 ml.2.2.2.2.2.2.2.2.2.2.2.2 r4 sb.1 sb.2.1 sb.2.2.1 sb.2.2.2.1 sb.2.2.2.2.1 sb.2.2.2.2.2 te.1 te.2.1 te.2.2.1 te.2.2.2.1 te.2.2.2.2.1 te.2.2.2.2.2.1 te.2.2.2.2.2.2.1 te.2.2.2.2.2.2.2 so.1 so.2.1 so.2.2.1 so.2.2.2 wa.1 wa.2.1 wa.2.2.1 wa.2.2.2 (xs ((6 * kc) + 1)) sn), (g_X12_pass_ml_12 l4.1 md.2.1 md.2.2.1 md.2.2.2 ml.1 ml.2.1 ml.2.2.1 ml.2.2.2.1 ml.2.2.2.2.1 ml.2.2.2.2.2.1 ml.2.2.2.2.2.2.1 ml.2.2.2.2.2.2.2.1 ml.2.2.2.2.2.2.2.2.1 ml.2.2.2.2.2.2.2.2.2.1 ml.2.2.2.2.2.2.2.2.2.2.1 ml.2.2.2.2.2.2.2.2.2.2.2.1 ml.2.2.2.2.2.2.2.2.2.2.2.2 r4 sb.1 sb.2.1 sb.2.2.1 sb.2.2.2.1 sb.2.2.2.2.1 sb.2.2.2.2.2 te.1 te.2.1 te.2.2.1 te.2.2.2.1 te.2.2.2.2.1 te.2.2.2.2.2.1 te.2.2.2.2.2.2.1 te.2.2.2.2.2.2.2 so.1 so.2.1 so.2.2.1 so.2.2.2 wa.1 wa.2.1 wa.2.2.1 wa.2.2.2 (xs ((6 * kc) + 1)) sn)) (te.1, te.2.1, te.2.2.1, (g_X12_pass_se_3 l4.1 md.2.1 md.2.2.1 md.2.2.2 ml.1 ml.2.1 ml.2.2.1 ml.2.2.2.1 ml.2.2.2.2.1 ml.2.2.2.2.2.1 ml.2.2.2.2.2.2.1 ml.2.2.2.2.2.2.2.1 ml.2.2.2.2.2.2.2.2.1 ml.2.2.2.2.2.2.2.2.2.1 ml.2.2.2.2.2.2.2.2.2.2.1 ml.2.2.2.2.2.2.2.2.2.2.2.1 ml.2.2.2.2.2.2.2.2.2.2.2.2 r4 sb.1 sb.2.1 sb.2.2.1 sb.2.2.2.1 sb.2.2.2.2.1 sb.2.2.2.2.2 te.1 te.2.1 te.2.2.1 te.2.2.2.1 te.2.2.2.2.1 te.2.2.2.2.2.1 te.2.2.2.2.2.2.1 te.2.2.2.2.2.2.2 so.1 so.2.1 so.2.2.1 so.2.2.2 wa.1 wa.2.1 wa.2.2.1 wa.2.2.2 (xs ((6 * kc) + 1)) sn), (g_X12_pass_se_4 l4.1 md.2.1 md.2.2.1 md.2.2.2 ml.1 ml.2.1 ml.2.2.1 ml.2.2.2.1 ml.2.2.2.2.1 ml.2.2.2.2.2.1 ml.2.2.2.2.2.2.1 ml.2.2.2.2.2.2.2.1 ml.2.2.2.2.2.2.2.2.1 ml.2.2.2.2.2.2.2.2.2.1 ml.2.2.2.2.2.2.2.2.2.2.1 ml.2.2.2.2.2.2.2.2.2.2.2.1 ml.2.2.2.2.2.2.2.2.2.2.2.2 r4 sb.1 sb.2.1 sb.2.2.1 sb.2.2.2.1 sb.2.2.2.2.1 sb.2.2.2.2.2 te.1 te.2.1 te.2.2.1 te.2.2.2.1 te.2.2.2.2.1 te.2.2.2.2.2.1 te.2.2.2.2.2.2.1 te.2.2.2.2.2.2.2 so.1 so.2.1 so.2.2.1 so.2.2.2 wa.1 wa.2.1 wa.2.2.1 wa.2.2.2 (xs ((6 * kc) + 1)) sn), (g_X12_pass_se_5 l4.1 md.2.1 md.2.2.1 md.2.2.2 ml.1 ml.2.1 ml.2.2.1 ml.2.2.2.1 ml.2.2.2.2.1 ml.2.2.2.2.2.1 ml.2.2.2.2.2.2.1 ml.2.2.2.2.2.2.2.1 ml.2.2.2.2.2.2.2.2.1 ml.2.2.2.2.2.2.2.2.2.1 ml.2.2.2.2.2.2.2.2.2.2.1 ml.2.2.2.2.2.2.2.2.2.2.2.1 ml.2.2.2.2.2.2.2.2.2.2.2.2 r4 sb.1 sb.2.1 sb.2.2.1 sb.2.2.2.1 sb.2.2.2.2.1 sb.2.2.2.2.2 te.1 te.2.1 te.2.2.1 te.2.2.2.1 te.2.2.2.2.1 te.2.2.2.2.2.1 te.2.2.2.2.2.2.1 te.2.2.2.2.2.2.2 so.1 so.2.1 so.2.2.1 so.2.2.2 wa.1 wa.2.1 wa.2.2.1 wa.2.2.2 (xs ((6 * kc) + 1)) sn), (g_X12_pass_se_6 l4.1 md.2.1 md.2.2.1 md.2.2.2 ml.1 ml.2.1 ml.2.2.1 ml.2.2.2.1 ml.2.2.2.2.1 ml.2.2.2.2.2.1 ml.2.2.2.2.2.2.1 ml.2.2.2.2.2.2.2.1 ml.2.2.2.2.2.2.2.2.1 ml.2.2.2.2.2.2.2.2.2.1 ml.2.2.2.2.2.2.2.2.2.2.1 ml.2.2.2.2.2.2.2.2.2.2.2.1 ml.2.2.2.2.2.2.2.2.2.2.2.2 r4 sb.1 sb.2.1 sb.2.2.1 sb.2.2.2.1 sb.2.2.2.2.1 sb.2.2.2.2.2 te.1 te.2.1 te.2.2.1 te.2.2.2.1 te.2.2.2.2.1 te.2.2.2.2.2.1 te.2.2.2.2.2.2.1 te.2.2.2.2.2.2.2 so.1 so.2.1 so.2.2.1 so.2.2.2 wa.1 wa.2.1 wa.2.2.1 wa.2.2.2 (xs ((6 * kc) + 1)) sn), (g_X12_pass_se_7 l4.1 md.2.1 md.2.2.1 md.2.2.2 ml.1 ml.2.1 ml.2.2.1 ml.2.2.2.1 ml.2.2.2.2.1 ml.2.2.2.2.2.1 ml.2.2.2.2.2.2.1 ml.2.2.2.2.2.2.2.1 ml.2.2.2.2.2.2.2.2.1 ml.2.2.2.2.2.2.2.2.2.1 ml.2.2.2.2.2.2.2.2.2.2.1 ml.2.2.2.2.2.2.2.2.2.2.2.1 ml.2.2.2.2.2.2.2.2.2.2.2.2 r4 sb.1 sb.2.1 sb.2.2.1 sb.2.2.2.1 sb.2.2.2.2.1 sb.2.2.2.2.2 te.1 te.2.1 te.2.2.1 te.2.2.2.1 te.2.2.2.2.1 te.2.2.2.2.2.1 te.2.2.2.2.2.2.1 te.2.2.2.2.2.2.2 so.1 so.2.1 so.2.2.1 so.2.2.2 wa.1 wa.2.1 wa.2.2.1 wa.2.2.2 (xs ((6 * kc) + 1)) sn)) (sb.1, sb.2.1, sb.2.2.1, sb.2.2.2.1, sb.2.2.2.2.1, (g_X12_pass_sb_5 l4.1 md.2.1 md.2.2.1 md.2.2.2 ml.1 ml.2.1 ml.2.2.1 ml.2.2.2.1 ml.2.2.2.2.1 ml.2.2.2.2.2.1 ml.2.2.2.2.2.2.1 ml.2.2.2.2.2.2.2.1 ml.2.2.2.2.2.2.2.2.1 ml.2.2.2.2.2.2.2.2.2.1 ml.2.2.2.2.2.2.2.2.2.2.1 ml.2.2.2.2.2.2.2.2.2.2.2.1 ml.2.2.2.2.2.2.2.2.2.2.2.2 r4 sb.1 sb.2.1 sb.2.2.1 sb.2.2.2.1 sb.2.2.2.2.1 sb.2.2.2.2.2 te.1 te.2.1 te.2.2.1 te.2.2.2.1 te.2.2.2.2.1 te.2.2.2.2.2.1 te.2.2.2.2.2.2.1 te.2.2.2.2.2.2.2 so.1 so.2.1 so.2.2.1 so.2.2.2 wa.1 wa.2.1 wa.2.2.1 wa.2.2.2 (xs ((6 * kc) + 1)) sn)) (so.1, so.2.1, so.2.2.1, (g_X12_pass_so_3 l4.1 md.2.1 md.2.2.1 md.2.2.2 ml.1 ml.2.1 ml.2.2.1 ml.2.2.2.1 ml.2.2.2.2.1 ml.2.2.2.2.2.1 ml.2.2.2.2.2.2.1 ml.2.2.2.2.2.2.2.1 ml.2.2.2.2.2.2.2.2.1 ml.2.2.2.2.2.2.2.2.2.1 ml.2.2.2.2.2.2.2.2.2.2.1 ml.2.2.2.2.2.2.2.2.2.2.2.1 ml.2.2.2.2.2.2.2.2.2.2.2.2 r4 sb.1 sb.2.1 sb.2.2.1 sb.2.2.2.1 sb.2.2.2.2.1 sb.2.2.2.2.2 te.1 te.2.1 te.2.2.1 te.2.2.2.1 te.2.2.2.2.1 te.2.2.2.2.2.1 te.2.2.2.2.2.2.1 te.2.2.2.2.2.2.2 so.1 so.2.1 so.2.2.1 so.2.2.2 wa.1 wa.2.1 wa.2.2.1 wa.2.2.2 (xs ((6 * kc) + 1)) sn)) ((g_X12_pass_wa_0 l4.1 md.2.1 md.2.2.1 md.2.2.2 ml.1 ml.2.1 ml.2.2.1 ml.2.2.2.1 ml.2.2.2.2.1 ml.2.2.2.2.2.1 ml.2.2.2.2.2.2.1 ml.2.2.2.2.2.2.2.1 ml.2.2.2.2.2.2.2.2.1 ml.2.2.2.2.2.2.2.2.2.1 ml.2.2.2.2.2.2.2.2.2.2.1 ml.2.2.2.2.2.2.2.2.2.2.2.1 ml.2.2.2.2.2.2.2.2.2.2.2.2 r4 sb.1 sb.2.1 sb.2.2.1 sb.2.2.2.1 sb.2.2.2.2.1 sb.2.2.2.2.2 te.1 te.2.1 te.2.2.1 te.2.2.2.1 te.2.2.2.2.1 te.2.2.2.2.2.1 te.2.2.2.2.2.2.1 te.2.2.2.2.2.2.2 so.1 so.2.1 so.2.2.1 so.2.2.2 wa.1 wa.2.1 wa.2.2.1 wa.2.2.2 (xs ((6 * kc) + 1)) sn), (g_X12_pass_wa_1 l4.1 md.2.1 md.2.2.1 md.2.2.2 ml.1 ml.2.1 ml.2.2.1 ml.2.2.2.1 ml.2.2.2.2.1 ml.2.2.2.2.2.1 ml.2.2.2.2.2.2.1 ml.2.2.2.2.2.2.2.1 ml.2.2.2.2.2.2.2.2.1 ml.2.2.2.2.2.2.2.2.2.1 ml.2.2.2.2.2.2.2.2.2.2.1 ml.2.2.2.2.2.2.2.2.2.2.2.1 ml.2.2.2.2.2.2.2.2.2.2.2.2 r4 sb.1 sb.2.1 sb.2.2.1 sb.2.2.2.1 sb.2.2.2.2.1 sb.2.2.2.2.2 te.1 te.2.1 te.2.2.1 te.2.2.2.1 te.2.2.2.2.1 te.2.2.2.2.2.1 te.2.2.2.2.2.2.1 te.2.2.2.2.2.2.2 so.1 so.2.1 so.2.2.1 so.2.2.2 wa.1 wa.2.1 wa.2.2.1 wa.2.2.2 (xs ((6 * kc) + 1)) sn), (g_X12_pass_wa_2 l4.1 md.2.1 md.2.2.1 md.2.2.2 ml.1 ml.2.1 ml.2.2.1 ml.2.2.2.1 ml.2.2.2.2.1 ml.2.2.2.2.2.1 ml.2.2.2.2.2.2.1 ml.2.2.2.2.2.2.2.1 ml.2.2.2.2.2.2.2.2.1 ml.2.2.2.2.2.2.2.2.2.1 ml.2.2.2.2.2.2.2.2.2.2.1 ml.2.2.2.2.2.2.2.2.2.2.2.1 ml.2.2.2.2.2.2.2.2.2.2.2.2 r4 sb.1 sb.2.1 sb.2.2.1 sb.2.2.2.1 sb.2.2.2.2.1 sb.2.2.2.2.2 te.1 te.2.1 te.2.2.1 te.2.2.2.1 te.2.2.2.2.1 te.2.2.2.2.2.1 te.2.2.2.2.2.2.1 te.2.2.2.2.2.2.2 so.1 so.2.1 so.2.2.1 so.2.2.2 wa.1 wa.2.1 wa.2.2.1 wa.2.2.2 (xs ((6 * kc) + 1)) sn), (g_X12_pass_wa_3 l4.1 md.2.1 md.2.2.1 md.2.2.2 ml.1 ml.2.1 ml.2.2.1 ml.2.2.2.1 ml.2.2.2.2.1 ml.2.2.2.2.2.1 ml.2.2.2.2.2.2.1 ml.2.2.2.2.2.2.2.1 ml.2.2.2.2.2.2.2.2.1 ml.2.2.2.2.2.2.2.2.2.1 ml.2.2.2.2.2.2.2.2.2.2.1 ml.2.2.2.2.2.2.2.2.2.2.2.1 ml.2.2.2.2.2.2.2.2.2.2.2.2 r4 sb.1 sb.2.1 sb.2.2.1 sb.2.2.2.1 sb.2.2.2.2.1 sb.2.2.2.2.2 te.1 te.2.1 te.2.2.1 te.2.2.2.1 te.2.2.2.2.1 te.2.2.2.2.2.1 te.2.2.2.2.2.2.1 te.2.2.2.2.2.2.2 so.1 so.2.1 so.2.2.1 so.2.2.2 wa.1 wa.2.1 wa.2.2.1 wa.2.2.2 (xs ((6 * kc) + 1)) sn)) r1 r2 r3 (g_X12_pass_r4_0 l4.1 md.2.1 md.2.2.1 md.2.2.2 ml.1 ml.2.1 ml.2.2.1 ml.2.2.2.1 ml.2.2.2.2.1 ml.2.2.2.2.2.1 ml.2.2.2.2.2.2.1 ml.2.2.2.2.2.2.2.1 ml.2.2.2.2.2.2.2.2.1 ml.2.2.2.2.2.2.2.2.2.1 ml.2.2.2.2.2.2.2.2.2.2.1 ml.2.2.2.2.2.2.2.2.2.2.2.1 ml.2.2.2.2.2.2.2.2.2.2.2.2 r4 sb.1 sb.2.1 sb.2.2.1 sb.2.2.2.1 sb.2.2.2.2.1 sb.2.2.2.2.2 te.1 te.2.1 te.2.2.1 te.2.2.2.1 te.2.2.2.2.1 te.2.2.2.2.2.1 te.2.2.2.2.2.2.1 te.2.2.2.2.2.2.2 so.1 so.2.1 so.2.2.1 so.2.2.2 wa.1 wa.2.1 wa.2.2.1 wa.2.2.2 (xs ((6 * kc) + 1)) sn) ∧ ((r_X12_isWrong (if (r_X12_isBetween (xs ((6 * kc) + 1)) (1 : Int32) (24 : Int32)) = (0 : Int32) then (1 : Int32) else (if (md.2.1 + (xs ((6 * kc) + 1))) ≤ (999 : Int32) then (0 : Int32) else (2 : Int32)))) = (0 : Int32) → x_X7_pass wo (xs ((6 * kc) + 1)) = (0 : Int32) ∧ (lp_X12_pass_42 ml.2.2.1 ml.2.2.2.2.2.2.1 ml.2.2.2.2.2.2.2.1 ml.2.2.2.2.2.2.2.2.1 ml.2.2.2.2.2.2.2.2.2.1 sb.1 sb.2.1 sb.2.2.1 sb.2.2.2.1 sb.2.2.2.2.1 te.1 te.2.1 te.2.2.1 so.1 so.2.1 so.2.2.1 sn (l4.1, md.2.1, md.2.2.1, md.2.2.2, ml.1, ml.2.1, ml.2.2.2.1, ml.2.2.2.2.1, ml.2.2.2.2.2.1, ml.2.2.2.2.2.2.2.2.2.2.1, ml.2.2.2.2.2.2.2.2.2.2.2.1, ml.2.2.2.2.2.2.2.2.2.2.2.2, r4, sb.2.2.2.2.2, te.2.2.2.1, te.2.2.2.2.1, te.2.2.2.2.2.1, te.2.2.2.2.2.2.1, te.2.2.2.2.2.2.2, so.2.2.2, wa.1, wa.2.1, wa.2.2.1, wa.2.2.2) (xs ((6 * kc) + 1)).toNatClampNeg).2.2.2.2.2.2.2.2.2.2.2.2.1 = (g_X12_pass_r4_0 l4.1 md.2.1 md.2.2.1 md.2.2.2 ml.1 ml.2.1 ml.2.2.1 ml.2.2.2.1 ml.2.2.2.2.1 ml.2.2.2.2.2.1 ml.2.2.2.2.2.2.1 ml.2.2.2.2.2.2.2.1 ml.2.2.2.2.2.2.2.2.1 ml.2.2.2.2.2.2.2.2.2.1 ml.2.2.2.2.2.2.2.2.2.2.1 ml.2.2.2.2.2.2.2.2.2.2.2.1 ml.2.2.2.2.2.2.2.2.2.2.2.2 r4 sb.1 sb.2.1 sb.2.2.1 sb.2.2.2.1 sb.2.2.2.2.1 sb.2.2.2.2.2 te.1 te.2.1 te.2.2.1 te.2.2.2.1 te.2.2.2.2.1 te.2.2.2.2.2.1 te.2.2.2.2.2.2.1 te.2.2.2.2.2.2.2 so.1 so.2.1 so.2.2.1 so.2.2.2 wa.1 wa.2.1 wa.2.2.1 wa.2.2.2 (xs ((6 * kc) + 1)) sn)) ∧ r4 ≤ (g_X12_pass_r4_0 l4.1 md.2.1 md.2.2.1 md.2.2.2 ml.1 ml.2.1 ml.2.2.1 ml.2.2.2.1 ml.2.2.2.2.1 ml.2.2.2.2.2.1 ml.2.2.2.2.2.2.1 ml.2.2.2.2.2.2.2.1 ml.2.2.2.2.2.2.2.2.1 ml.2.2.2.2.2.2.2.2.2.1 ml.2.2.2.2.2.2.2.2.2.2.1 ml.2.2.2.2.2.2.2.2.2.2.2.1 ml.2.2.2.2.2.2.2.2.2.2.2.2 r4 sb.1 sb.2.1 sb.2.2.1 sb.2.2.2.1 sb.2.2.2.2.1 sb.2.2.2.2.2 te.1 te.2.1 te.2.2.1 te.2.2.2.1 te.2.2.2.2.1 te.2.2.2.2.2.1 te.2.2.2.2.2.2.1 te.2.2.2.2.2.2.2 so.1 so.2.1 so.2.2.1 so.2.2.2 wa.1 wa.2.1 wa.2.2.1 wa.2.2.2 (xs ((6 * kc) + 1)) sn) := by
  subst hsn
  obtain ⟨s1, s2, hq, hbo, n10, n12, n6, hat, hat3, htr, hh, h9, hw, q1, q2, q3, q4⟩ := M
  by_cases c : (r_X12_isWrong (if (r_X12_isBetween (xs ((6 * kc) + 1)) (1 : Int32) (24 : Int32)) = (0 : Int32) then (1 : Int32) else (if (md.2.1 + (xs ((6 * kc) + 1))) ≤ (999 : Int32) then (0 : Int32) else (2 : Int32)))) = (0 : Int32)
  · have cx : x_X7_pass wo (xs ((6 * kc) + 1)) = (0 : Int32) := zpq.mpr (by rw [hwo, ← hh]; exact c)
    simp only [g_X12_pass_md_1, g_X12_pass_md_2, g_X12_pass_md_3, g_X12_pass_ml_0, g_X12_pass_ml_1, g_X12_pass_ml_3, g_X12_pass_ml_4, g_X12_pass_ml_5, g_X12_pass_ml_10, g_X12_pass_ml_11, g_X12_pass_ml_12, g_X12_pass_se_3, g_X12_pass_se_4, g_X12_pass_se_5, g_X12_pass_se_6, g_X12_pass_se_7, g_X12_pass_sb_5, g_X12_pass_so_3, g_X12_pass_wa_0, g_X12_pass_wa_1, g_X12_pass_wa_2, g_X12_pass_wa_3, g_X12_pass_r4_0, if_pos c, if_pos cx]
    obtain ⟨a1, a2⟩ := zmhrs24 c
    have hl := zlasth hwo ⟨a1, a2⟩ h9 (by
      have cx' := cx
      unfold x_X7_pass at cx'
      by_cases z1 : x_X7_checkRange (xs ((6 * kc) + 1)) (1 : Int32) (24 : Int32) = (0 : Int32)
      · rw [if_pos z1] at cx'
        by_cases z2 : wo + (xs ((6 * kc) + 1)) ≤ (999 : Int32)
        · exact z2
        · rw [if_neg z2] at cx'; exact absurd cx' (by decide)
      · rw [if_neg z1] at cx'; exact absurd cx' (by decide))
    obtain ⟨j1, j2, j3, j4, j5, j6⟩ := zmpk (sn := snv ml) (ml := ml) (l4 := l4) (te := te) (sb := sb) (so := so) (wa := wa) (r4 := r4) (md := md) hbo htr q4 hh n12 (by omega) (xs ((6 * kc) + 1)).toNatClampNeg a2
    exact ⟨⟨s1, s2, hq, j1, n10, n12, n6, hat, hat3, j2, j5, hl, by have h4 := j4; omega, q1, q2, q3, j3⟩, fun _ => ⟨cx, by first | rfl | trivial⟩, j6⟩
  · have cx : ¬ x_X7_pass wo (xs ((6 * kc) + 1)) = (0 : Int32) := fun z => c (by have := zpq.mp z; rw [hwo, ← hh] at this; exact this)
    simp only [g_X12_pass_md_1, g_X12_pass_md_2, g_X12_pass_md_3, g_X12_pass_ml_0, g_X12_pass_ml_1, g_X12_pass_ml_3, g_X12_pass_ml_4, g_X12_pass_ml_5, g_X12_pass_ml_10, g_X12_pass_ml_11, g_X12_pass_ml_12, g_X12_pass_se_3, g_X12_pass_se_4, g_X12_pass_se_5, g_X12_pass_se_6, g_X12_pass_se_7, g_X12_pass_sb_5, g_X12_pass_so_3, g_X12_pass_wa_0, g_X12_pass_wa_1, g_X12_pass_wa_2, g_X12_pass_wa_3, g_X12_pass_r4_0, if_neg c, if_neg cx]
    exact ⟨⟨s1, s2, hq, hbo, n10, n12, n6, hat, hat3, htr, hh, h9, hw, q1, q2, q3, q4⟩, fun z => absurd z c, Nat.le_refl _⟩
