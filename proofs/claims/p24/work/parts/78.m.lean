/-! joined: 78.macts, 78.p1phys, 78.p2phys, 78.p3phys, 78.p4sens, 78.p5rest, 78.p6hour, 78.p7acts, 78.p8pass -/
section
/-! the reference's acts: what stays safe -/
def zL3 (n N : Nat) : Prop := n ≤ N ∧ (N = 0 ∨ N = 10 ∨ N = 15)
theorem zL3_k {n N : Nat} (h : zL3 n N) : zLk n N := ⟨h.1, by have := h.2; omega, by have := h.2; omega⟩
theorem zL3_c {n N : Nat} (h : zL3 n N) (hn : n ≤ 12) : zNc n N ≤ 15 := by
  obtain ⟨h1, h2⟩ := h
  unfold zNc
  rcases h2 with rfl | rfl | rfl
  · rw [if_neg (by omega), if_pos rfl]; decide
  · by_cases c : n < 10
    · rw [if_pos c]; decide
    · rw [if_neg c, if_neg (by decide)]; decide
  · rw [if_pos (by omega)]; exact Nat.le_refl _
theorem zL3_s {n N : Nat} (h : zL3 n N) (hn : n < 12) : zL3 (n + 1) (zNc n N) := by
  obtain ⟨h1, h2⟩ := h
  unfold zNc zL3
  rcases h2 with rfl | rfl | rfl
  · rw [if_neg (by omega), if_pos rfl]; exact ⟨by omega, Or.inr (Or.inl rfl)⟩
  · by_cases c : n < 10
    · rw [if_pos c]; exact ⟨by omega, Or.inr (Or.inl rfl)⟩
    · rw [if_neg c, if_neg (by decide)]; exact ⟨by omega, Or.inr (Or.inr rfl)⟩
  · rw [if_pos (by omega)]; exact ⟨by omega, Or.inr (Or.inr rfl)⟩
def zL4 (n N : Nat) : Prop := zLk n N ∧ N ≤ 10 + 2 * n
theorem zL4_s {n N : Nat} (h : zL4 n N) (hn : n < 200000) : zL4 (n + 1) (zNc n N) := by
  refine ⟨zLk_s h.1 hn, ?_⟩
  obtain ⟨⟨h1, -, -⟩, h2⟩ := h
  unfold zNc
  by_cases c : n < N
  · rw [if_pos c]; omega
  · rw [if_neg c]
    by_cases d : N = 0
    · rw [if_pos d]; omega
    · rw [if_neg d]; omega
section ZPL4
variable {a1 : Int32} {a2 a3 a4 a5 a6 : Nat → Int32} {y0 y : Int32 × Nat × (Nat → Int32) × Nat × (Nat → Int32) × (Nat → Int32) × (Nat → Int32)} {i : Nat}
theorem zwk4 (h : zL4 y.2.2.2.1 y.2.1) (hn : y.2.2.2.1 < 200000) : zL4 (st_X12_warn_2 a1 a2 a3 a4 a5 a6 i y).2.2.2.1 (st_X12_warn_2 a1 a2 a3 a4 a5 a6 i y).2.1 ∧ (st_X12_warn_2 a1 a2 a3 a4 a5 a6 i y).2.2.2.1 ≤ y.2.2.2.1 + 1 := by
  unfold st_X12_warn_2
  dsimp only
  refine ⟨?_, ?_⟩
  · (repeat' split) <;> first | exact h | exact zL4_s h hn
  · (repeat' split) <;> omega
theorem zwl4 (h : zL4 y0.2.2.2.1 y0.2.1) : ∀ k, y0.2.2.2.1 + k < 200000 → zL4 (lp_X12_warn_2 a1 a2 a3 a4 a5 a6 y0 k).2.2.2.1 (lp_X12_warn_2 a1 a2 a3 a4 a5 a6 y0 k).2.1 ∧ (lp_X12_warn_2 a1 a2 a3 a4 a5 a6 y0 k).2.2.2.1 ≤ y0.2.2.2.1 + k := by
  intro k
  induction k with
  | zero => intro _; rw [lp_X12_warn_2_0]; exact ⟨h, Nat.le_refl _⟩
  | succ k ih =>
    intro hk
    obtain ⟨h1, h2⟩ := ih (by omega)
    rw [lp_X12_warn_2_s]
    have h3 := zwk4 (a1 := a1) (a2 := a2) (a3 := a3) (a4 := a4) (a5 := a5) (a6 := a6) (i := k) h1 (by omega)
    exact ⟨h3.1, by omega⟩
end ZPL4
theorem zwL4 {l4 a1 : Int32} {a2 a3 a4 a5 a6 f5 w1 w2 w3 : Nat → Int32} {N n0 sb0 : Nat} (h : zL4 n0 N) (hn : n0 + sb0 < 200000) : zL4 (g_X12_warn_wa_0 l4 a1 a2 N sb0 a3 a4 a5 a6 f5 n0 w1 w2 w3) (g_X12_warn_r4_0 l4 a1 a2 N sb0 a3 a4 a5 a6 f5 n0 w1 w2 w3) ∧ g_X12_warn_wa_0 l4 a1 a2 N sb0 a3 a4 a5 a6 f5 n0 w1 w2 w3 ≤ n0 + sb0 := zwl4 (y0 := (l4, N, f5, n0, w1, w2, w3)) h sb0 hn
def snv (ml : zMl) : Nat := (ml.2.2.2.2.2.2.2.2.1).toNatClampNeg
def zSm (hr : Nat) (md : zMd) (ml : zMl) (te : zMs) (sb : zMb) (so : zMo) (wa : zMw) (r1 r2 r3 r4 : Nat) : Prop := ml.2.2.2.2.2.2.2.2.1 = nI (snv ml) ∧ snv ml ≤ 4 ∧ (∀ j, j < 3 → vp_in (ml.2.2.1 j) 48) ∧ zBo ml.2.2.2.2.2.1 ∧ te.1 ≤ 10 ∧ sb.1 ≤ 12 ∧ so.1 ≤ 6 ∧ (∀ j, j < sb.1 → vp_in (sb.2.1 j) 48) ∧ (∀ j, j < so.1 → vp_in (so.2.1 j) 48) ∧ (∀ j, j < te.1 → (0 : Int32) ≤ te.2.2.2.1 j ∧ te.2.2.2.1 j ≤ 100) ∧ md.2.1 = nI hr ∧ hr ≤ 999 ∧ wa.1 ≤ 12 * hr ∧ zL3 te.1 r1 ∧ zL3 sb.1 r2 ∧ zL3 so.1 r3 ∧ zL4 wa.1 r4
/-! what class and reference ask alike -/
theorem zrB {a b d : Int32} : x_X7_checkRange a b d = (0 : Int32) ↔ ¬ r_X12_isBetween a b d = (0 : Int32) := by
  unfold x_X7_checkRange r_X12_isBetween
  by_cases h1 : a < b
  · rw [if_pos h1, if_pos h1]; decide
  · rw [if_neg h1, if_neg h1]
    by_cases h2 : a ≤ d
    · rw [if_pos h2, if_neg (Int32.not_lt.mpr h2)]; decide
    · rw [if_neg h2, if_pos (Int32.not_le.mp h2)]; decide
theorem zcB7 {a : Int32} : r_X12_isBetween a (0 : Int32) (7 : Int32) = (0 : Int32) ↔ (a < (0 : Int32) ∨ (8 : Int32) ≤ a) := by
  unfold r_X12_isBetween
  have e : ((7 : Int32) < a) ↔ ((8 : Int32) ≤ a) := by rw [zlt, zle, show (7 : Int32).toInt = 7 by decide, show (8 : Int32).toInt = 8 by decide]; omega
  by_cases h1 : a < (0 : Int32)
  · rw [if_pos h1]; exact ⟨fun _ => Or.inl h1, fun _ => rfl⟩
  · rw [if_neg h1]
    by_cases h2 : (8 : Int32) ≤ a
    · rw [if_pos (e.mpr h2)]; exact ⟨fun _ => Or.inr h2, fun _ => rfl⟩
    · rw [if_neg (fun z => h2 (e.mp z))]; exact ⟨fun z => absurd z (by decide), fun z => absurd z (fun z => z.elim h1 h2)⟩
theorem zcB5 {a : Int32} : r_X12_isBetween a (0 : Int32) (5 : Int32) = (0 : Int32) ↔ (a < (0 : Int32) ∨ (6 : Int32) ≤ a) := by
  unfold r_X12_isBetween
  have e : ((5 : Int32) < a) ↔ ((6 : Int32) ≤ a) := by rw [zlt, zle, show (5 : Int32).toInt = 5 by decide, show (6 : Int32).toInt = 6 by decide]; omega
  by_cases h1 : a < (0 : Int32)
  · rw [if_pos h1]; exact ⟨fun _ => Or.inl h1, fun _ => rfl⟩
  · rw [if_neg h1]
    by_cases h2 : (6 : Int32) ≤ a
    · rw [if_pos (e.mpr h2)]; exact ⟨fun _ => Or.inr h2, fun _ => rfl⟩
    · rw [if_neg (fun z => h2 (e.mp z))]; exact ⟨fun z => absurd z (by decide), fun z => absurd z (fun z => z.elim h1 h2)⟩
theorem zcB {a b : Int32} : x_X7_placeOf a b = (0 : Int32) ↔ ¬ r_X12_isCell a b = (0 : Int32) := by
  unfold x_X7_placeOf r_X7_isCell r_X12_isCell
  by_cases h1 : a < (0 : Int32)
  · rw [if_pos h1, if_pos (zcB7.mpr (Or.inl h1))]; decide
  · rw [if_neg h1]
    by_cases h2 : (8 : Int32) ≤ a
    · rw [if_pos h2, if_pos (zcB7.mpr (Or.inr h2))]; decide
    · rw [if_neg h2, if_neg (fun z => (zcB7.mp z).elim h1 h2)]
      by_cases h3 : b < (0 : Int32)
      · rw [if_pos h3, if_pos (zcB5.mpr (Or.inl h3))]; decide
      · rw [if_neg h3]
        by_cases h4 : (6 : Int32) ≤ b
        · rw [if_pos h4, if_pos (zcB5.mpr (Or.inr h4))]; decide
        · rw [if_neg h4, if_neg (fun z => (zcB5.mp z).elim h3 h4)]; decide
theorem zplace_at {a b : Int32} (h : ¬ r_X12_isCell a b = (0 : Int32)) : r_X7_placeOf a b = r_X12_at a b := by
  have h1 := zcB.mpr h
  unfold x_X7_placeOf at h1
  unfold r_X7_placeOf r_X12_at
  by_cases c : r_X7_isCell a b = (0 : Int32)
  · rw [if_pos c] at h1; exact absurd h1 (by decide)
  · rw [if_neg c]
theorem zpq {wo a : Int32} : x_X7_pass wo a = (0 : Int32) ↔ r_X12_isWrong (if r_X12_isBetween a (1 : Int32) (24 : Int32) = (0 : Int32) then (1 : Int32) else (if (wo + a) ≤ (999 : Int32) then (0 : Int32) else (2 : Int32))) = (0 : Int32) := by
  unfold x_X7_pass
  by_cases c1 : r_X12_isBetween a (1 : Int32) (24 : Int32) = (0 : Int32)
  · rw [if_pos c1, if_neg (fun z => zrB.mp z c1)]; decide
  · rw [if_neg c1, if_pos (zrB.mpr c1)]
    by_cases c2 : (wo + a) ≤ (999 : Int32)
    · rw [if_pos c2, if_pos c2]; decide
    · rw [if_neg c2, if_neg c2]; decide
set_option maxHeartbeats 4000000 in
set_option maxRecDepth 100000 in
theorem m_setFuel {hr : Nat} {md : zMd} {ml : zMl} {te : zMs} {sb : zMb} {so : zMo} {wa : zMw} {r1 r2 r3 r4 : Nat} {xs : Nat → Int32} {kc : Nat} (M : zSm hr md ml te sb so wa r1 r2 r3 r4) : zSm hr ((g_X12_setFuel_md_0 (xs ((6 * kc) + 1)) (xs ((6 * kc) + 2)) (xs ((6 * kc) + 3))), md.2.1, md.2.2.1, md.2.2.2) ((g_X12_setFuel_ml_0 ml.1 (xs ((6 * kc) + 1)) (xs ((6 * kc) + 2)) (xs ((6 * kc) + 3))), ml.2.1, ml.2.2.1, ml.2.2.2.1, ml.2.2.2.2.1, ml.2.2.2.2.2.1, ml.2.2.2.2.2.2.1, ml.2.2.2.2.2.2.2.1, ml.2.2.2.2.2.2.2.2.1, ml.2.2.2.2.2.2.2.2.2.1, ml.2.2.2.2.2.2.2.2.2.2.1, ml.2.2.2.2.2.2.2.2.2.2.2.1, ml.2.2.2.2.2.2.2.2.2.2.2.2) te sb so wa r1 r2 r3 r4 := by
  by_cases c : (r_X12_isWrong (if (r_X12_isCell (xs ((6 * kc) + 1)) (xs ((6 * kc) + 2))) = (0 : Int32) then (1 : Int32) else (if (r_X12_isBetween (xs ((6 * kc) + 3)) (0 : Int32) (99 : Int32)) = (0 : Int32) then (2 : Int32) else (0 : Int32)))) = (0 : Int32)
  · simp only [g_X12_setFuel_ml_0, if_pos c]
    exact M
  · simp only [g_X12_setFuel_ml_0, if_neg c]
    exact M
set_option maxHeartbeats 4000000 in
set_option maxRecDepth 100000 in
theorem m_light {hr : Nat} {md : zMd} {ml : zMl} {te : zMs} {sb : zMb} {so : zMo} {wa : zMw} {r1 r2 r3 r4 : Nat} {xs : Nat → Int32} {kc : Nat} (M : zSm hr md ml te sb so wa r1 r2 r3 r4) : zSm hr ((g_X12_light_md_0 ml.1 ml.2.2.2.2.2.1 (xs ((6 * kc) + 1)) (xs ((6 * kc) + 2)) (xs ((6 * kc) + 3))), md.2.1, md.2.2.1, md.2.2.2) (ml.1, ml.2.1, ml.2.2.1, (g_X12_light_ml_3 ml.1 ml.2.2.2.1 ml.2.2.2.2.2.1 (xs ((6 * kc) + 1)) (xs ((6 * kc) + 2)) (xs ((6 * kc) + 3))), ml.2.2.2.2.1, ml.2.2.2.2.2.1, ml.2.2.2.2.2.2.1, ml.2.2.2.2.2.2.2.1, ml.2.2.2.2.2.2.2.2.1, ml.2.2.2.2.2.2.2.2.2.1, ml.2.2.2.2.2.2.2.2.2.2.1, ml.2.2.2.2.2.2.2.2.2.2.2.1, ml.2.2.2.2.2.2.2.2.2.2.2.2) te sb so wa r1 r2 r3 r4 := by
  by_cases c : (r_X12_isWrong (if (r_X12_isCell (xs ((6 * kc) + 1)) (xs ((6 * kc) + 2))) = (0 : Int32) then (1 : Int32) else (if (r_X12_isBetween (xs ((6 * kc) + 3)) (1 : Int32) (9 : Int32)) = (0 : Int32) then (2 : Int32) else (if (ml.1 (r_X12_at (xs ((6 * kc) + 1)) (xs ((6 * kc) + 2))).toNatClampNeg) = (0 : Int32) then (3 : Int32) else (if (ml.2.2.2.2.2.1 (r_X12_at (xs ((6 * kc) + 1)) (xs ((6 * kc) + 2))).toNatClampNeg) = (0 : Int32) then (0 : Int32) else (3 : Int32)))))) = (0 : Int32)
  · simp only [g_X12_light_ml_3, if_pos c]
    exact M
  · simp only [g_X12_light_ml_3, if_neg c]
    exact M
set_option maxHeartbeats 4000000 in
set_option maxRecDepth 100000 in
theorem m_setWind {hr : Nat} {md : zMd} {ml : zMl} {te : zMs} {sb : zMb} {so : zMo} {wa : zMw} {r1 r2 r3 r4 : Nat} {xs : Nat → Int32} {kc : Nat} (M : zSm hr md ml te sb so wa r1 r2 r3 r4) : zSm hr ((g_X12_setWind_md_0 (xs ((6 * kc) + 1)) (xs ((6 * kc) + 2)) (xs ((6 * kc) + 3))), md.2.1, md.2.2.1, md.2.2.2) (ml.1, ml.2.1, ml.2.2.1, ml.2.2.2.1, ml.2.2.2.2.1, ml.2.2.2.2.2.1, (g_X12_setWind_ml_6 ml.2.2.2.2.2.2.1 (xs ((6 * kc) + 1)) (xs ((6 * kc) + 2)) (xs ((6 * kc) + 3))), (g_X12_setWind_ml_7 ml.2.2.2.2.2.2.2.1 (xs ((6 * kc) + 1)) (xs ((6 * kc) + 2)) (xs ((6 * kc) + 3))), (g_X12_setWind_ml_8 ml.2.2.2.2.2.2.2.2.1 (xs ((6 * kc) + 1)) (xs ((6 * kc) + 2)) (xs ((6 * kc) + 3))), ml.2.2.2.2.2.2.2.2.2.1, ml.2.2.2.2.2.2.2.2.2.2.1, ml.2.2.2.2.2.2.2.2.2.2.2.1, ml.2.2.2.2.2.2.2.2.2.2.2.2) te sb so wa r1 r2 r3 r4 := by
  by_cases c : (r_X12_isWrong (if (if (r_X12_isBetween (xs ((6 * kc) + 1)) (-1 : Int32) (1 : Int32)) = (0 : Int32) then (0 : Int32) else (if (r_X12_isBetween (xs ((6 * kc) + 2)) (-1 : Int32) (1 : Int32)) = (0 : Int32) then (0 : Int32) else (if (r_X12_isBetween (xs ((6 * kc) + 3)) (0 : Int32) (if (xs ((6 * kc) + 1)) = (0 : Int32) then (if (xs ((6 * kc) + 2)) = (0 : Int32) then (0 : Int32) else (4 : Int32)) else (4 : Int32))) = (0 : Int32) then (0 : Int32) else (1 : Int32)))) = (0 : Int32) then (1 : Int32) else (0 : Int32))) = (0 : Int32)
  · simp only [g_X12_setWind_ml_6, g_X12_setWind_ml_7, g_X12_setWind_ml_8, if_pos c]
    obtain ⟨s1, s2, hq, hbo, n10, n12, n6, hat, hat3, htr, hh, h9, hw, q1, q2, q3, q4⟩ := M
    have c1 := (zmw2 (k := 1) c (by decide)).1
    have c2 : (xs ((6 * kc) + 3)) = nI (xs ((6 * kc) + 3)).toNatClampNeg ∧ (xs ((6 * kc) + 3)).toNatClampNeg ≤ 4 := by
      by_cases d1 : r_X12_isBetween (xs ((6 * kc) + 1)) (-1 : Int32) (1 : Int32) = (0 : Int32)
      · rw [if_pos d1] at c1; exact absurd rfl c1
      rw [if_neg d1] at c1
      by_cases d2 : r_X12_isBetween (xs ((6 * kc) + 2)) (-1 : Int32) (1 : Int32) = (0 : Int32)
      · rw [if_pos d2] at c1; exact absurd rfl c1
      rw [if_neg d2] at c1
      by_cases d3 : r_X12_isBetween (xs ((6 * kc) + 3)) (0 : Int32) (if (xs ((6 * kc) + 1)) = (0 : Int32) then (if (xs ((6 * kc) + 2)) = (0 : Int32) then (0 : Int32) else (4 : Int32)) else (4 : Int32)) = (0 : Int32)
      · rw [if_pos d3] at c1; exact absurd rfl c1
      exact zwind (zrB.mpr d3)
    exact ⟨c2.1, c2.2, hq, hbo, n10, n12, n6, hat, hat3, htr, hh, h9, hw, q1, q2, q3, q4⟩
  · simp only [g_X12_setWind_ml_6, g_X12_setWind_ml_7, g_X12_setWind_ml_8, if_neg c]
    exact M
set_option maxHeartbeats 4000000 in
set_option maxRecDepth 100000 in
theorem m_setRain {hr : Nat} {md : zMd} {ml : zMl} {te : zMs} {sb : zMb} {so : zMo} {wa : zMw} {r1 r2 r3 r4 : Nat} {xs : Nat → Int32} {kc : Nat} (M : zSm hr md ml te sb so wa r1 r2 r3 r4) : zSm hr ((g_X12_setRain_md_0 (xs ((6 * kc) + 1))), md.2.1, md.2.2.1, md.2.2.2) (ml.1, ml.2.1, ml.2.2.1, ml.2.2.2.1, ml.2.2.2.2.1, ml.2.2.2.2.2.1, ml.2.2.2.2.2.2.1, ml.2.2.2.2.2.2.2.1, ml.2.2.2.2.2.2.2.2.1, (g_X12_setRain_ml_9 ml.2.2.2.2.2.2.2.2.2.1 (xs ((6 * kc) + 1))), ml.2.2.2.2.2.2.2.2.2.2.1, ml.2.2.2.2.2.2.2.2.2.2.2.1, ml.2.2.2.2.2.2.2.2.2.2.2.2) te sb so wa r1 r2 r3 r4 := by
  by_cases c : (r_X12_isWrong (if (r_X12_isBetween (xs ((6 * kc) + 1)) (0 : Int32) (9 : Int32)) = (0 : Int32) then (1 : Int32) else (0 : Int32))) = (0 : Int32)
  · simp only [g_X12_setRain_ml_9, if_pos c]
    exact M
  · simp only [g_X12_setRain_ml_9, if_neg c]
    exact M
set_option maxHeartbeats 4000000 in
set_option maxRecDepth 100000 in
theorem m_digLine {hr : Nat} {md : zMd} {ml : zMl} {te : zMs} {sb : zMb} {so : zMo} {wa : zMw} {r1 r2 r3 r4 : Nat} {xs : Nat → Int32} {kc : Nat} (M : zSm hr md ml te sb so wa r1 r2 r3 r4) : zSm hr ((g_X12_digLine_md_0 ml.2.2.2.1 ml.2.2.2.2.2.1 (xs ((6 * kc) + 1)) (xs ((6 * kc) + 2)) (xs ((6 * kc) + 3))), md.2.1, md.2.2.1, md.2.2.2) (ml.1, (g_X12_digLine_ml_1 ml.1 ml.2.1 ml.2.2.2.1 ml.2.2.2.2.2.1 (xs ((6 * kc) + 1)) (xs ((6 * kc) + 2)) (xs ((6 * kc) + 3))), (g_X12_digLine_ml_2 ml.2.2.1 ml.2.2.2.1 ml.2.2.2.2.2.1 (xs ((6 * kc) + 1)) (xs ((6 * kc) + 2)) (xs ((6 * kc) + 3))), ml.2.2.2.1, ml.2.2.2.2.1, ml.2.2.2.2.2.1, ml.2.2.2.2.2.2.1, ml.2.2.2.2.2.2.2.1, ml.2.2.2.2.2.2.2.2.1, ml.2.2.2.2.2.2.2.2.2.1, ml.2.2.2.2.2.2.2.2.2.2.1, ml.2.2.2.2.2.2.2.2.2.2.2.1, ml.2.2.2.2.2.2.2.2.2.2.2.2) te sb so wa r1 r2 r3 r4 := by
  by_cases c : (r_X12_isWrong (if (r_X12_isCell (xs ((6 * kc) + 1)) (xs ((6 * kc) + 2))) = (0 : Int32) then (1 : Int32) else (if (r_X12_isCrew (xs ((6 * kc) + 3))) = (0 : Int32) then (2 : Int32) else (if (ml.2.2.2.2.2.1 (r_X12_at (xs ((6 * kc) + 1)) (xs ((6 * kc) + 2))).toNatClampNeg) = (0 : Int32) then (if (ml.2.2.2.1 (r_X12_at (xs ((6 * kc) + 1)) (xs ((6 * kc) + 2))).toNatClampNeg) ≤ (4 : Int32) then (0 : Int32) else (3 : Int32)) else (3 : Int32))))) = (0 : Int32)
  · simp only [g_X12_digLine_ml_1, g_X12_digLine_ml_2, if_pos c]
    obtain ⟨s1, s2, hq, hbo, n10, n12, n6, hat, hat3, htr, hh, h9, hw, q1, q2, q3, q4⟩ := M
    have c1 := zmw2 (k := 1) c (by decide)
    have c2 := zmw2 (k := 2) c1.2 (by decide)
    have q : ∀ j, j < 3 → vp_in (upd ml.2.2.1 (xs ((6 * kc) + 3)).toNatClampNeg (r_X12_at (xs ((6 * kc) + 1)) (xs ((6 * kc) + 2))) j) 48 := by
      intro j hj
      by_cases e : j = (xs ((6 * kc) + 3)).toNatClampNeg
      · rw [e, upd_i]; exact zmcell_ix c1.1
      · rw [upd_o e]; exact hq j hj
    exact ⟨s1, s2, q, hbo, n10, n12, n6, hat, hat3, htr, hh, h9, hw, q1, q2, q3, q4⟩
  · simp only [g_X12_digLine_ml_1, g_X12_digLine_ml_2, if_neg c]
    exact M
set_option maxHeartbeats 4000000 in
set_option maxRecDepth 100000 in
theorem m_addSensor {hr : Nat} {md : zMd} {ml : zMl} {te : zMs} {sb : zMb} {so : zMo} {wa : zMw} {r1 r2 r3 r4 : Nat} {xs : Nat → Int32} {kc : Nat} (M : zSm hr md ml te sb so wa r1 r2 r3 r4) : zSm hr ((g_X12_addSensor_md_0 te.1 (xs ((6 * kc) + 1)) (xs ((6 * kc) + 2))), md.2.1, md.2.2.1, md.2.2.2) ml ((g_X12_addSensor_se_0 te.1 (xs ((6 * kc) + 1)) (xs ((6 * kc) + 2))), (g_X12_addSensor_se_1 te.1 te.2.1 (xs ((6 * kc) + 1)) (xs ((6 * kc) + 2))), (g_X12_addSensor_se_2 te.1 te.2.2.1 (xs ((6 * kc) + 1)) (xs ((6 * kc) + 2))), (g_X12_addSensor_se_3 te.1 te.2.2.2.1 (xs ((6 * kc) + 1)) (xs ((6 * kc) + 2))), (g_X12_addSensor_se_4 te.1 te.2.2.2.2.1 (xs ((6 * kc) + 1)) (xs ((6 * kc) + 2))), (g_X12_addSensor_se_5 te.1 te.2.2.2.2.2.1 (xs ((6 * kc) + 1)) (xs ((6 * kc) + 2))), (g_X12_addSensor_se_6 te.1 te.2.2.2.2.2.2.1 (xs ((6 * kc) + 1)) (xs ((6 * kc) + 2))), (g_X12_addSensor_se_7 te.1 te.2.2.2.2.2.2.2 (xs ((6 * kc) + 1)) (xs ((6 * kc) + 2)))) sb so wa (g_X12_addSensor_r1_0 r1 te.1 (xs ((6 * kc) + 1)) (xs ((6 * kc) + 2))) r2 r3 r4 := by
  by_cases c : (r_X12_isWrong (if (r_X12_isCell (xs ((6 * kc) + 1)) (xs ((6 * kc) + 2))) = (0 : Int32) then (1 : Int32) else (if (r_Jx4a65c_size_8abf5 (nI te.1)) = (10 : Int32) then (2 : Int32) else (0 : Int32)))) = (0 : Int32)
  · simp only [g_X12_addSensor_se_0, g_X12_addSensor_se_1, g_X12_addSensor_se_2, g_X12_addSensor_se_3, g_X12_addSensor_se_4, g_X12_addSensor_se_5, g_X12_addSensor_se_6, g_X12_addSensor_se_7, g_X12_addSensor_r1_0, if_pos c]
    obtain ⟨s1, s2, hq, hbo, n10, n12, n6, hat, hat3, htr, hh, h9, hw, q1, q2, q3, q4⟩ := M
    have c1 := zmw2 (k := 1) c (by decide)
    have c2 := zmw2 (k := 2) c1.2 (by decide)
    have hn : te.1 < 10 := by
      rcases Nat.lt_or_eq_of_le n10 with z | z
      · exact z
      · exact absurd (by rw [z]; rfl) c2.1
    have q : ∀ j, j < te.1 + 1 → (0 : Int32) ≤ upd te.2.2.2.1 te.1 (50 : Int32) j ∧ upd te.2.2.2.1 te.1 (50 : Int32) j ≤ 100 := by
      intro j hj
      by_cases e : j = te.1
      · rw [e, upd_i]; decide
      · rw [upd_o e]; exact htr j (by omega)
    exact ⟨s1, s2, hq, hbo, hn, n12, n6, hat, hat3, q, hh, h9, hw, zL3_s q1 (by omega), q2, q3, q4⟩
  · simp only [g_X12_addSensor_se_0, g_X12_addSensor_se_1, g_X12_addSensor_se_2, g_X12_addSensor_se_3, g_X12_addSensor_se_4, g_X12_addSensor_se_5, g_X12_addSensor_se_6, g_X12_addSensor_se_7, g_X12_addSensor_r1_0, if_neg c]
    exact M
set_option maxHeartbeats 4000000 in
set_option maxRecDepth 100000 in
theorem m_read {hr : Nat} {md : zMd} {ml : zMl} {te : zMs} {sb : zMb} {so : zMo} {wa : zMw} {r1 r2 r3 r4 : Nat} {xs : Nat → Int32} {kc : Nat} (M : zSm hr md ml te sb so wa r1 r2 r3 r4) : zSm hr ((g_X12_read_md_0 te.1 (xs ((6 * kc) + 1)) (xs ((6 * kc) + 2))), md.2.1, md.2.2.1, md.2.2.2) ml (te.1, te.2.1, te.2.2.1, te.2.2.2.1, (g_X12_read_se_4 te.1 te.2.2.2.2.1 (xs ((6 * kc) + 1)) (xs ((6 * kc) + 2))), te.2.2.2.2.2.1, te.2.2.2.2.2.2.1, te.2.2.2.2.2.2.2) sb so wa r1 r2 r3 r4 := by
  by_cases c : (r_X12_isWrong (if (r_X12_isSensor te.1 (xs ((6 * kc) + 1))) = (0 : Int32) then (1 : Int32) else (if (r_X12_isBetween (xs ((6 * kc) + 2)) (0 : Int32) (9999 : Int32)) = (0 : Int32) then (2 : Int32) else (0 : Int32)))) = (0 : Int32)
  · simp only [g_X12_read_se_4, if_pos c]
    exact M
  · simp only [g_X12_read_se_4, if_neg c]
    exact M
set_option maxHeartbeats 4000000 in
set_option maxRecDepth 100000 in
theorem m_subscribe {hr : Nat} {md : zMd} {ml : zMl} {te : zMs} {sb : zMb} {so : zMo} {wa : zMw} {r1 r2 r3 r4 : Nat} {xs : Nat → Int32} {kc : Nat} (M : zSm hr md ml te sb so wa r1 r2 r3 r4) : zSm hr ((g_X12_subscribe_md_0 sb.1 (xs ((6 * kc) + 1)) (xs ((6 * kc) + 2)) (xs ((6 * kc) + 3)) (xs ((6 * kc) + 4)) (xs ((6 * kc) + 5))), md.2.1, md.2.2.1, md.2.2.2) ml te ((g_X12_subscribe_sb_0 sb.1 (xs ((6 * kc) + 1)) (xs ((6 * kc) + 2)) (xs ((6 * kc) + 3)) (xs ((6 * kc) + 4)) (xs ((6 * kc) + 5))), (g_X12_subscribe_sb_1 sb.1 sb.2.1 (xs ((6 * kc) + 1)) (xs ((6 * kc) + 2)) (xs ((6 * kc) + 3)) (xs ((6 * kc) + 4)) (xs ((6 * kc) + 5))), (g_X12_subscribe_sb_2 sb.1 sb.2.2.1 (xs ((6 * kc) + 1)) (xs ((6 * kc) + 2)) (xs ((6 * kc) + 3)) (xs ((6 * kc) + 4)) (xs ((6 * kc) + 5))), (g_X12_subscribe_sb_3 sb.1 sb.2.2.2.1 (xs ((6 * kc) + 1)) (xs ((6 * kc) + 2)) (xs ((6 * kc) + 3)) (xs ((6 * kc) + 4)) (xs ((6 * kc) + 5))), (g_X12_subscribe_sb_4 sb.1 sb.2.2.2.2.1 (xs ((6 * kc) + 1)) (xs ((6 * kc) + 2)) (xs ((6 * kc) + 3)) (xs ((6 * kc) + 4)) (xs ((6 * kc) + 5))), (g_X12_subscribe_sb_5 sb.1 sb.2.2.2.2.2 (xs ((6 * kc) + 1)) (xs ((6 * kc) + 2)) (xs ((6 * kc) + 3)) (xs ((6 * kc) + 4)) (xs ((6 * kc) + 5)))) so wa r1 (g_X12_subscribe_r2_0 r2 sb.1 (xs ((6 * kc) + 1)) (xs ((6 * kc) + 2)) (xs ((6 * kc) + 3)) (xs ((6 * kc) + 4)) (xs ((6 * kc) + 5))) r3 r4 := by
  by_cases c : (r_X12_isWrong (if (r_X12_isCell (xs ((6 * kc) + 1)) (xs ((6 * kc) + 2))) = (0 : Int32) then (1 : Int32) else (if (if (r_X12_isBetween (xs ((6 * kc) + 3)) (20 : Int32) (9999 : Int32)) = (0 : Int32) then (0 : Int32) else (if (r_X12_isBetween (xs ((6 * kc) + 4)) (0 : Int32) (23 : Int32)) = (0 : Int32) then (0 : Int32) else (if (r_X12_isBetween (xs ((6 * kc) + 5)) (0 : Int32) (23 : Int32)) = (0 : Int32) then (0 : Int32) else (1 : Int32)))) = (0 : Int32) then (2 : Int32) else (if (r_Jx4a65c_size_8abf5 (nI sb.1)) = (12 : Int32) then (3 : Int32) else (0 : Int32))))) = (0 : Int32)
  · simp only [g_X12_subscribe_sb_0, g_X12_subscribe_sb_1, g_X12_subscribe_sb_2, g_X12_subscribe_sb_3, g_X12_subscribe_sb_4, g_X12_subscribe_sb_5, g_X12_subscribe_r2_0, if_pos c]
    obtain ⟨s1, s2, hq, hbo, n10, n12, n6, hat, hat3, htr, hh, h9, hw, q1, q2, q3, q4⟩ := M
    have c1 := zmw2 (k := 1) c (by decide)
    have c2 := zmw2 (k := 2) c1.2 (by decide)
    have c3 := zmw2 (k := 3) c2.2 (by decide)
    have hn : sb.1 < 12 := by
      rcases Nat.lt_or_eq_of_le n12 with z | z
      · exact z
      · exact absurd (by rw [z]; rfl) c3.1
    have q : ∀ j, j < sb.1 + 1 → vp_in (upd sb.2.1 sb.1 (r_X12_at (xs ((6 * kc) + 1)) (xs ((6 * kc) + 2))) j) 48 := by
      intro j hj
      by_cases e : j = sb.1
      · rw [e, upd_i]; exact zmcell_ix c1.1
      · rw [upd_o e]; exact hat j (by omega)
    exact ⟨s1, s2, hq, hbo, n10, hn, n6, q, hat3, htr, hh, h9, hw, q1, zL3_s q2 hn, q3, q4⟩
  · simp only [g_X12_subscribe_sb_0, g_X12_subscribe_sb_1, g_X12_subscribe_sb_2, g_X12_subscribe_sb_3, g_X12_subscribe_sb_4, g_X12_subscribe_sb_5, g_X12_subscribe_r2_0, if_neg c]
    exact M
set_option maxHeartbeats 4000000 in
set_option maxRecDepth 100000 in
theorem m_addSchool {hr : Nat} {md : zMd} {ml : zMl} {te : zMs} {sb : zMb} {so : zMo} {wa : zMw} {r1 r2 r3 r4 : Nat} {xs : Nat → Int32} {kc : Nat} (M : zSm hr md ml te sb so wa r1 r2 r3 r4) : zSm hr ((g_X12_addSchool_md_0 so.1 (xs ((6 * kc) + 1)) (xs ((6 * kc) + 2)) (xs ((6 * kc) + 3))), md.2.1, md.2.2.1, md.2.2.2) ml te sb ((g_X12_addSchool_so_0 so.1 (xs ((6 * kc) + 1)) (xs ((6 * kc) + 2)) (xs ((6 * kc) + 3))), (g_X12_addSchool_so_1 so.1 so.2.1 (xs ((6 * kc) + 1)) (xs ((6 * kc) + 2)) (xs ((6 * kc) + 3))), (g_X12_addSchool_so_2 so.1 so.2.2.1 (xs ((6 * kc) + 1)) (xs ((6 * kc) + 2)) (xs ((6 * kc) + 3))), (g_X12_addSchool_so_3 so.1 so.2.2.2 (xs ((6 * kc) + 1)) (xs ((6 * kc) + 2)) (xs ((6 * kc) + 3)))) wa r1 r2 (g_X12_addSchool_r3_0 r3 so.1 (xs ((6 * kc) + 1)) (xs ((6 * kc) + 2)) (xs ((6 * kc) + 3))) r4 := by
  by_cases c : (r_X12_isWrong (if (r_X12_isCell (xs ((6 * kc) + 1)) (xs ((6 * kc) + 2))) = (0 : Int32) then (1 : Int32) else (if (r_X12_isBetween (xs ((6 * kc) + 3)) (20 : Int32) (9999 : Int32)) = (0 : Int32) then (2 : Int32) else (if (r_Jx4a65c_size_8abf5 (nI so.1)) = (6 : Int32) then (3 : Int32) else (0 : Int32))))) = (0 : Int32)
  · simp only [g_X12_addSchool_so_0, g_X12_addSchool_so_1, g_X12_addSchool_so_2, g_X12_addSchool_so_3, g_X12_addSchool_r3_0, if_pos c]
    obtain ⟨s1, s2, hq, hbo, n10, n12, n6, hat, hat3, htr, hh, h9, hw, q1, q2, q3, q4⟩ := M
    have c1 := zmw2 (k := 1) c (by decide)
    have c2 := zmw2 (k := 2) c1.2 (by decide)
    have c3 := zmw2 (k := 3) c2.2 (by decide)
    have hn : so.1 < 6 := by
      rcases Nat.lt_or_eq_of_le n6 with z | z
      · exact z
      · exact absurd (by rw [z]; rfl) c3.1
    have q : ∀ j, j < so.1 + 1 → vp_in (upd so.2.1 so.1 (r_X12_at (xs ((6 * kc) + 1)) (xs ((6 * kc) + 2))) j) 48 := by
      intro j hj
      by_cases e : j = so.1
      · rw [e, upd_i]; exact zmcell_ix c1.1
      · rw [upd_o e]; exact hat3 j (by omega)
    exact ⟨s1, s2, hq, hbo, n10, n12, hn, hat, q, htr, hh, h9, hw, q1, q2, zL3_s q3 (by omega), q4⟩
  · simp only [g_X12_addSchool_so_0, g_X12_addSchool_so_1, g_X12_addSchool_so_2, g_X12_addSchool_so_3, g_X12_addSchool_r3_0, if_neg c]
    exact M
set_option maxHeartbeats 4000000 in
set_option maxRecDepth 100000 in
theorem zmpk {hr sn : Nat} {md : zMd} {ml : zMl} {l4 : zAL} {te : zMs} {sb : zMb} {so : zMo} {wa : zMw} {r4 : Nat} (hbo : zBo ml.2.2.2.2.2.1) (htr : ∀ j, j < te.1 → (0 : Int32) ≤ te.2.2.2.1 j ∧ te.2.2.2.1 j ≤ 100) (h4 : zL4 wa.1 r4) (hh : md.2.1 = nI hr) (h12 : sb.1 ≤ 12) (hw : wa.1 ≤ 100000) : ∀ i : Nat, i ≤ 24 → zBo ((lp_X12_pass_42 ml.2.2.1 ml.2.2.2.2.2.2.1 ml.2.2.2.2.2.2.2.1 ml.2.2.2.2.2.2.2.2.1 ml.2.2.2.2.2.2.2.2.2.1 sb.1 sb.2.1 sb.2.2.1 sb.2.2.2.1 sb.2.2.2.2.1 te.1 te.2.1 te.2.2.1 so.1 so.2.1 so.2.2.1 sn (l4.1, md.2.1, md.2.2.1, md.2.2.2, ml.1, ml.2.1, ml.2.2.2.1, ml.2.2.2.2.1, ml.2.2.2.2.2.1, ml.2.2.2.2.2.2.2.2.2.2.1, ml.2.2.2.2.2.2.2.2.2.2.2.1, ml.2.2.2.2.2.2.2.2.2.2.2.2, r4, sb.2.2.2.2.2, te.2.2.2.1, te.2.2.2.2.1, te.2.2.2.2.2.1, te.2.2.2.2.2.2.1, te.2.2.2.2.2.2.2, so.2.2.2, wa.1, wa.2.1, wa.2.2.1, wa.2.2.2) i).2.2.2.2.2.2.2.2.1) ∧ (∀ j, j < te.1 → (0 : Int32) ≤ ((lp_X12_pass_42 ml.2.2.1 ml.2.2.2.2.2.2.1 ml.2.2.2.2.2.2.2.1 ml.2.2.2.2.2.2.2.2.1 ml.2.2.2.2.2.2.2.2.2.1 sb.1 sb.2.1 sb.2.2.1 sb.2.2.2.1 sb.2.2.2.2.1 te.1 te.2.1 te.2.2.1 so.1 so.2.1 so.2.2.1 sn (l4.1, md.2.1, md.2.2.1, md.2.2.2, ml.1, ml.2.1, ml.2.2.2.1, ml.2.2.2.2.1, ml.2.2.2.2.2.1, ml.2.2.2.2.2.2.2.2.2.2.1, ml.2.2.2.2.2.2.2.2.2.2.2.1, ml.2.2.2.2.2.2.2.2.2.2.2.2, r4, sb.2.2.2.2.2, te.2.2.2.1, te.2.2.2.2.1, te.2.2.2.2.2.1, te.2.2.2.2.2.2.1, te.2.2.2.2.2.2.2, so.2.2.2, wa.1, wa.2.1, wa.2.2.1, wa.2.2.2) i).2.2.2.2.2.2.2.2.2.2.2.2.2.2.1) j ∧ ((lp_X12_pass_42 ml.2.2.1 ml.2.2.2.2.2.2.1 ml.2.2.2.2.2.2.2.1 ml.2.2.2.2.2.2.2.2.1 ml.2.2.2.2.2.2.2.2.2.1 sb.1 sb.2.1 sb.2.2.1 sb.2.2.2.1 sb.2.2.2.2.1 te.1 te.2.1 te.2.2.1 so.1 so.2.1 so.2.2.1 sn (l4.1, md.2.1, md.2.2.1, md.2.2.2, ml.1, ml.2.1, ml.2.2.2.1, ml.2.2.2.2.1, ml.2.2.2.2.2.1, ml.2.2.2.2.2.2.2.2.2.2.1, ml.2.2.2.2.2.2.2.2.2.2.2.1, ml.2.2.2.2.2.2.2.2.2.2.2.2, r4, sb.2.2.2.2.2, te.2.2.2.1, te.2.2.2.2.1, te.2.2.2.2.2.1, te.2.2.2.2.2.2.1, te.2.2.2.2.2.2.2, so.2.2.2, wa.1, wa.2.1, wa.2.2.1, wa.2.2.2) i).2.2.2.2.2.2.2.2.2.2.2.2.2.2.1) j ≤ 100) ∧ zL4 ((lp_X12_pass_42 ml.2.2.1 ml.2.2.2.2.2.2.1 ml.2.2.2.2.2.2.2.1 ml.2.2.2.2.2.2.2.2.1 ml.2.2.2.2.2.2.2.2.2.1 sb.1 sb.2.1 sb.2.2.1 sb.2.2.2.1 sb.2.2.2.2.1 te.1 te.2.1 te.2.2.1 so.1 so.2.1 so.2.2.1 sn (l4.1, md.2.1, md.2.2.1, md.2.2.2, ml.1, ml.2.1, ml.2.2.2.1, ml.2.2.2.2.1, ml.2.2.2.2.2.1, ml.2.2.2.2.2.2.2.2.2.2.1, ml.2.2.2.2.2.2.2.2.2.2.2.1, ml.2.2.2.2.2.2.2.2.2.2.2.2, r4, sb.2.2.2.2.2, te.2.2.2.1, te.2.2.2.2.1, te.2.2.2.2.2.1, te.2.2.2.2.2.2.1, te.2.2.2.2.2.2.2, so.2.2.2, wa.1, wa.2.1, wa.2.2.1, wa.2.2.2) i).2.2.2.2.2.2.2.2.2.2.2.2.2.2.2.2.2.2.2.2.1) ((lp_X12_pass_42 ml.2.2.1 ml.2.2.2.2.2.2.1 ml.2.2.2.2.2.2.2.1 ml.2.2.2.2.2.2.2.2.1 ml.2.2.2.2.2.2.2.2.2.1 sb.1 sb.2.1 sb.2.2.1 sb.2.2.2.1 sb.2.2.2.2.1 te.1 te.2.1 te.2.2.1 so.1 so.2.1 so.2.2.1 sn (l4.1, md.2.1, md.2.2.1, md.2.2.2, ml.1, ml.2.1, ml.2.2.2.1, ml.2.2.2.2.1, ml.2.2.2.2.2.1, ml.2.2.2.2.2.2.2.2.2.2.1, ml.2.2.2.2.2.2.2.2.2.2.2.1, ml.2.2.2.2.2.2.2.2.2.2.2.2, r4, sb.2.2.2.2.2, te.2.2.2.1, te.2.2.2.2.1, te.2.2.2.2.2.1, te.2.2.2.2.2.2.1, te.2.2.2.2.2.2.2, so.2.2.2, wa.1, wa.2.1, wa.2.2.1, wa.2.2.2) i).2.2.2.2.2.2.2.2.2.2.2.2.1) ∧ ((lp_X12_pass_42 ml.2.2.1 ml.2.2.2.2.2.2.1 ml.2.2.2.2.2.2.2.1 ml.2.2.2.2.2.2.2.2.1 ml.2.2.2.2.2.2.2.2.2.1 sb.1 sb.2.1 sb.2.2.1 sb.2.2.2.1 sb.2.2.2.2.1 te.1 te.2.1 te.2.2.1 so.1 so.2.1 so.2.2.1 sn (l4.1, md.2.1, md.2.2.1, md.2.2.2, ml.1, ml.2.1, ml.2.2.2.1, ml.2.2.2.2.1, ml.2.2.2.2.2.1, ml.2.2.2.2.2.2.2.2.2.2.1, ml.2.2.2.2.2.2.2.2.2.2.2.1, ml.2.2.2.2.2.2.2.2.2.2.2.2, r4, sb.2.2.2.2.2, te.2.2.2.1, te.2.2.2.2.1, te.2.2.2.2.2.1, te.2.2.2.2.2.2.1, te.2.2.2.2.2.2.2, so.2.2.2, wa.1, wa.2.1, wa.2.2.1, wa.2.2.2) i).2.2.2.2.2.2.2.2.2.2.2.2.2.2.2.2.2.2.2.2.1) ≤ wa.1 + 12 * i ∧ ((lp_X12_pass_42 ml.2.2.1 ml.2.2.2.2.2.2.1 ml.2.2.2.2.2.2.2.1 ml.2.2.2.2.2.2.2.2.1 ml.2.2.2.2.2.2.2.2.2.1 sb.1 sb.2.1 sb.2.2.1 sb.2.2.2.1 sb.2.2.2.2.1 te.1 te.2.1 te.2.2.1 so.1 so.2.1 so.2.2.1 sn (l4.1, md.2.1, md.2.2.1, md.2.2.2, ml.1, ml.2.1, ml.2.2.2.1, ml.2.2.2.2.1, ml.2.2.2.2.2.1, ml.2.2.2.2.2.2.2.2.2.2.1, ml.2.2.2.2.2.2.2.2.2.2.2.1, ml.2.2.2.2.2.2.2.2.2.2.2.2, r4, sb.2.2.2.2.2, te.2.2.2.1, te.2.2.2.2.1, te.2.2.2.2.2.1, te.2.2.2.2.2.2.1, te.2.2.2.2.2.2.2, so.2.2.2, wa.1, wa.2.1, wa.2.2.1, wa.2.2.2) i).2.1) = nI (hr + i) ∧ r4 ≤ ((lp_X12_pass_42 ml.2.2.1 ml.2.2.2.2.2.2.1 ml.2.2.2.2.2.2.2.1 ml.2.2.2.2.2.2.2.2.1 ml.2.2.2.2.2.2.2.2.2.1 sb.1 sb.2.1 sb.2.2.1 sb.2.2.2.1 sb.2.2.2.2.1 te.1 te.2.1 te.2.2.1 so.1 so.2.1 so.2.2.1 sn (l4.1, md.2.1, md.2.2.1, md.2.2.2, ml.1, ml.2.1, ml.2.2.2.1, ml.2.2.2.2.1, ml.2.2.2.2.2.1, ml.2.2.2.2.2.2.2.2.2.2.1, ml.2.2.2.2.2.2.2.2.2.2.2.1, ml.2.2.2.2.2.2.2.2.2.2.2.2, r4, sb.2.2.2.2.2, te.2.2.2.1, te.2.2.2.2.1, te.2.2.2.2.2.1, te.2.2.2.2.2.2.1, te.2.2.2.2.2.2.2, so.2.2.2, wa.1, wa.2.1, wa.2.2.1, wa.2.2.2) i).2.2.2.2.2.2.2.2.2.2.2.2.1) := by
  intro i
  induction i with
  | zero => intro _; rw [lp_X12_pass_42_0]; exact ⟨hbo, htr, h4, Nat.le_refl _, hh, Nat.le_refl _⟩
  | succ i ih =>
    intro hi
    obtain ⟨j1, j2, j3, j4, j5, j6⟩ := ih (by omega)
    rw [lp_X12_pass_42_s]
    exact ⟨zhbo j1, zjtr j2, (zwL4 j3 (by omega)).1, Nat.le_trans (zwL4 j3 (by omega)).2 (by omega), by rw [← Nat.add_assoc]; exact zpi5 j5, Nat.le_trans j6 zwR⟩
set_option maxHeartbeats 4000000 in
set_option maxRecDepth 100000 in
theorem m_pass {hr sn : Nat} {wo : Int32} {md : zMd} {ml : zMl} {l4 : zAL} {te : zMs} {sb : zMb} {so : zMo} {wa : zMw} {r1 r2 r3 r4 : Nat} {xs : Nat → Int32} {kc : Nat} (hwo : wo = nI hr) (M : zSm hr md ml te sb so wa r1 r2 r3 r4) (hsn : sn = snv ml) : zSm (hr + (if x_X7_pass wo (xs ((6 * kc) + 1)) = (0 : Int32) then (xs ((6 * kc) + 1)).toNatClampNeg else 0)) ((g_X12_pass_md_0 md.2.1 (xs ((6 * kc) + 1))), (g_X12_pass_md_1 l4.1 md.2.1 md.2.2.1 md.2.2.2 ml.1 ml.2.1 ml.2.2.1 ml.2.2.2.1 ml.2.2.2.2.1 ml.2.2.2.2.2.1 ml.2.2.2.2.2.2.1 ml.2.2.2.2.2.2.2.1 ml.2.2.2.2.2.2.2.2.1 ml.2.2.2.2.2.2.2.2.2.1 ml.2.2.2.2.2.2.2.2.2.2.1 ml.2.2.2.2.2.2.2.2.2.2.2.1 ml.2.2.2.2.2.2.2.2.2.2.2.2 r4 sb.1 sb.2.1 sb.2.2.1 sb.2.2.2.1 sb.2.2.2.2.1 sb.2.2.2.2.2 te.1 te.2.1 te.2.2.1 te.2.2.2.1 te.2.2.2.2.1 te.2.2.2.2.2.1 te.2.2.2.2.2.2.1 te.2.2.2.2.2.2.2 so.1 so.2.1 so.2.2.1 so.2.2.2 wa.1 wa.2.1 wa.2.2.1 wa.2.2.2 (xs ((6 * kc) + 1)) sn), (g_X12_pass_md_2 l4.1 md.2.1 md.2.2.1 md.2.2.2 ml.1 ml.2.1 ml.2.2.1 ml.2.2.2.1 ml.2.2.2.2.1 ml.2.2.2.2.2.1 ml.2.2.2.2.2.2.1 ml.2.2.2.2.2.2.2.1 ml.2.2.2.2.2.2.2.2.1 ml.2.2.2.2.2.2.2.2.2.1 ml.2.2.2.2.2.2.2.2.2.2.1 ml.2.2.2.2.2.2.2.2.2.2.2.1 ml.2.2.2.2.2.2.2.2.2.2.2.2 r4 sb.1 sb.2.1 sb.2.2.1 sb.2.2.2.1 sb.2.2.2.2.1 sb.2.2.2.2.2 te.1 te.2.1 te.2.2.1 te.2.2.2.1 te.2.2.2.2.1 te.2.2.2.2.2.1 te.2.2.2.2.2.2.1 te.2.2.2.2.2.2.2 so.1 so.2.1 so.2.2.1 so.2.2.2 wa.1 wa.2.1 wa.2.2.1 wa.2.2.2 (xs ((6 * kc) + 1)) sn), (g_X12_pass_md_3 l4.1 md.2.1 md.2.2.1 md.2.2.2 ml.1 ml.2.1 ml.2.2.1 ml.2.2.2.1 ml.2.2.2.2.1 ml.2.2.2.2.2.1 ml.2.2.2.2.2.2.1 ml.2.2.2.2.2.2.2.1 ml.2.2.2.2.2.2.2.2.1 ml.2.2.2.2.2.2.2.2.2.1 ml.2.2.2.2.2.2.2.2.2.2.1 ml.2.2.2.2.2.2.2.2.2.2.2.1 ml.2.2.2.2.2.2.2.2.2.2.2.2 r4 sb.1 sb.2.1 sb.2.2.1 sb.2.2.2.1 sb.2.2.2.2.1 sb.2.2.2.2.2 te.1 te.2.1 te.2.2.1 te.2.2.2.1 te.2.2.2.2.1 te.2.2.2.2.2.1 te.2.2.2.2.2.2.1 te.2.2.2.2.2.2.2 so.1 so.2.1 so.2.2.1 so.2.2.2 wa.1 wa.2.1 wa.2.2.1 wa.2.2.2 (xs ((6 * kc) + 1)) sn)) ((g_X12_pass_ml_0 l4.1 md.2.1 md.2.2.1 md.2.2.2 ml.1 ml.2.1 ml.2.2.1 ml.2.2.2.1 ml.2.2.2.2.1 ml.2.2.2.2.2.1 ml.2.2.2.2.2.2.1 ml.2.2.2.2.2.2.2.1 ml.2.2.2.2.2.2.2.2.1 ml.2.2.2.2.2.2.2.2.2.1 ml.2.2.2.2.2.2.2.2.2.2.1 ml.2.2.2.2.2.2.2.2.2.2.2.1 ml.2.2.2.2.2.2.2.2.2.2.2.2 r4 sb.1 sb.2.1 sb.2.2.1 sb.2.2.2.1 sb.2.2.2.2.1 sb.2.2.2.2.2 te.1 te.2.1 te.2.2.1 te.2.2.2.1 te.2.2.2.2.1 te.2.2.2.2.2.1 te.2.2.2.2.2.2.1 te.2.2.2.2.2.2.2 so.1 so.2.1 so.2.2.1 so.2.2.2 wa.1 wa.2.1 wa.2.2.1 wa.2.2.2 (xs ((6 * kc) + 1)) sn), (g_X12_pass_ml_1 l4.1 md.2.1 md.2.2.1 md.2.2.2 ml.1 ml.2.1 ml.2.2.1 ml.2.2.2.1 ml.2.2.2.2.1 ml.2.2.2.2.2.1 ml.2.2.2.2.2.2.1 ml.2.2.2.2.2.2.2.1 ml.2.2.2.2.2.2.2.2.1 ml.2.2.2.2.2.2.2.2.2.1 ml.2.2.2.2.2.2.2.2.2.2.1 ml.2.2.2.2.2.2.2.2.2.2.2.1 ml.2.2.2.2.2.2.2.2.2.2.2.2 r4 sb.1 sb.2.1 sb.2.2.1 sb.2.2.2.1 sb.2.2.2.2.1 sb.2.2.2.2.2 te.1 te.2.1 te.2.2.1 te.2.2.2.1 te.2.2.2.2.1 te.2.2.2.2.2.1 te.2.2.2.2.2.2.1 te.2.2.2.2.2.2.2 so.1 so.2.1 so.2.2.1 so.2.2.2 wa.1 wa.2.1 wa.2.2.1 wa.2.2.2 (xs ((6 * kc) + 1)) sn), ml.2.2.1, (g_X12_pass_ml_3 l4.1 md.2.1 md.2.2.1 md.2.2.2 ml.1 ml.2.1 ml.2.2.1 ml.2.2.2.1 ml.2.2.2.2.1 ml.2.2.2.2.2.1 ml.2.2.2.2.2.2.1 ml.2.2.2.2.2.2.2.1 ml.2.2.2.2.2.2.2.2.1 ml.2.2.2.2.2.2.2.2.2.1 ml.2.2.2.2.2.2.2.2.2.2.1 ml.2.2.2.2.2.2.2.2.2.2.2.1 ml.2.2.2.2.2.2.2.2.2.2.2.2 r4 sb.1 sb.2.1 sb.2.2.1 sb.2.2.2.1 sb.2.2.2.2.1 sb.2.2.2.2.2 te.1 te.2.1 te.2.2.1 te.2.2.2.1 te.2.2.2.2.1 te.2.2.2.2.2.1 te.2.2.2.2.2.2.1 te.2.2.2.2.2.2.2 so.1 so.2.1 so.2.2.1 so.2.2.2 wa.1 wa.2.1 wa.2.2.1 wa.2.2.2 (xs ((6 * kc) + 1)) sn), (g_X12_pass_ml_4 l4.1 md.2.1 md.2.2.1 md.2.2.2 ml.1 ml.2.1 ml.2.2.1 ml.2.2.2.1 ml.2.2.2.2.1 ml.2.2.2.2.2.1 ml.2.2.2.2.2.2.1 ml.2.2.2.2.2.2.2.1 ml.2.2.2.2.2.2.2.2.1 ml.2.2.2.2.2.2.2.2.2.1 ml.2.2.2.2.2.2.2.2.2.2.1 ml.2.2.2.2.2.2.2.2.2.2.2.1 ml.2.2.2.2.2.2.2.2.2.2.2.2 r4 sb.1 sb.2.1 sb.2.2.1 sb.2.2.2.1 sb.2.2.2.2.1 sb.2.2.2.2.2 te.1 te.2.1 te.2.2.1 te.2.2.2.1 te.2.2.2.2.1 te.2.2.2.2.2.1 te.2.2.2.2.2.2.1 te.2.2.2.2.2.2.2 so.1 so.2.1 so.2.2.1 so.2.2.2 wa.1 wa.2.1 wa.2.2.1 wa.2.2.2 (xs ((6 * kc) + 1)) sn), (g_X12_pass_ml_5 l4.1 md.2.1 md.2.2.1 md.2.2.2 ml.1 ml.2.1 ml.2.2.1 ml.2.2.2.1 ml.2.2.2.2.1 ml.2.2.2.2.2.1 ml.2.2.2.2.2.2.1 ml.2.2.2.2.2.2.2.1 ml.2.2.2.2.2.2.2.2.1 ml.2.2.2.2.2.2.2.2.2.1 ml.2.2.2.2.2.2.2.2.2.2.1 ml.2.2.2.2.2.2.2.2.2.2.2.1 ml.2.2.2.2.2.2.2.2.2.2.2.2 r4 sb.1 sb.2.1 sb.2.2.1 sb.2.2.2.1 sb.2.2.2.2.1 sb.2.2.2.2.2 te.1 te.2.1 te.2.2.1 te.2.2.2.1 te.2.2.2.2.1 te.2.2.2.2.2.1 te.2.2.2.2.2.2.1 te.2.2.2.2.2.2.2 so.1 so.2.1 so.2.2.1 so.2.2.2 wa.1 wa.2.1 wa.2.2.1 wa.2.2.2 (xs ((6 * kc) + 1)) sn), ml.2.2.2.2.2.2.1, ml.2.2.2.2.2.2.2.1, ml.2.2.2.2.2.2.2.2.1, ml.2.2.2.2.2.2.2.2.2.1, (g_X12_pass_ml_10 l4.1 md.2.1 md.2.2.1 md.2.2.2 ml.1 ml.2.1 ml.2.2.1 ml.2.2.2.1 ml.2.2.2.2.1 ml.2.2.2.2.2.1 ml.2.2.2.2.2.2.1 ml.2.2.2.2.2.2.2.1 ml.2.2.2.2.2.2.2.2.1 ml.2.2.2.2.2.2.2.2.2.1 ml.2.2.2.2.2.2.2.2.2.2.1 ml.2.2.2.2.2.2.2.2.2.2.2.1 ml.2.2.2.2.2.2.2.2.2.2.2.2 r4 sb.1 sb.2.1 sb.2.2.1 sb.2.2.2.1 sb.2.2.2.2.1 sb.2.2.2.2.2 te.1 te.2.1 te.2.2.1 te.2.2.2.1 te.2.2.2.2.1 te.2.2.2.2.2.1 te.2.2.2.2.2.2.1 te.2.2.2.2.2.2.2 so.1 so.2.1 so.2.2.1 so.2.2.2 wa.1 wa.2.1 wa.2.2.1 wa.2.2.2 (xs ((6 * kc) + 1)) sn), (g_X12_pass_ml_11 l4.1 md.2.1 md.2.2.1 md.2.2.2 ml.1 ml.2.1 ml.2.2.1 ml.2.2.2.1 ml.2.2.2.2.1 ml.2.2.2.2.2.1 ml.2.2.2.2.2.2.1 ml.2.2.2.2.2.2.2.1 ml.2.2.2.2.2.2.2.2.1 ml.2.2.2.2.2.2.2.2.2.1 ml.2.2.2.2.2.2.2.2.2.2.1 ml.2.2.2.2.2.2.2.2.2.2.2.1 ml.2.2.2.2.2.2.2.2.2.2.2.2 r4 sb.1 sb.2.1 sb.2.2.1 sb.2.2.2.1 sb.2.2.2.2.1 sb.2.2.2.2.2 te.1 te.2.1 te.2.2.1 te.2.2.2.1 te.2.2.2.2.1 te.2.2.2.2.2.1 te.2.2.2.2.2.2.1 te.2.2.2.2.2.2.2 so.1 so.2.1 so.2.2.1 so.2.2.2 wa.1 wa.2.1 wa.2.2.1 wa.2.2.2 (xs ((6 * kc) + 1)) sn), (g_X12_pass_ml_12 l4.1 md.2.1 md.2.2.1 md.2.2.2 ml.1 ml.2.1 ml.2.2.1 ml.2.2.2.1 ml.2.2.2.2.1 ml.2.2.2.2.2.1 ml.2.2.2.2.2.2.1 ml.2.2.2.2.2.2.2.1 ml.2.2.2.2.2.2.2.2.1 ml.2.2.2.2.2.2.2.2.2.1 ml.2.2.2.2.2.2.2.2.2.2.1 ml.2.2.2.2.2.2.2.2.2.2.2.1 ml.2.2.2.2.2.2.2.2.2.2.2.2 r4 sb.1 sb.2.1 sb.2.2.1 sb.2.2.2.1 sb.2.2.2.2.1 sb.2.2.2.2.2 te.1 te.2.1 te.2.2.1 te.2.2.2.1 te.2.2.2.2.1 te.2.2.2.2.2.1 te.2.2.2.2.2.2.1 te.2.2.2.2.2.2.2 so.1 so.2.1 so.2.2.1 so.2.2.2 wa.1 wa.2.1 wa.2.2.1 wa.2.2.2 (xs ((6 * kc) + 1)) sn)) (te.1, te.2.1, te.2.2.1, (g_X12_pass_se_3 l4.1 md.2.1 md.2.2.1 md.2.2.2 ml.1 ml.2.1 ml.2.2.1 ml.2.2.2.1 ml.2.2.2.2.1 ml.2.2.2.2.2.1 ml.2.2.2.2.2.2.1 ml.2.2.2.2.2.2.2.1 ml.2.2.2.2.2.2.2.2.1 ml.2.2.2.2.2.2.2.2.2.1 ml.2.2.2.2.2.2.2.2.2.2.1 ml.2.2.2.2.2.2.2.2.2.2.2.1 ml.2.2.2.2.2.2.2.2.2.2.2.2 r4 sb.1 sb.2.1 sb.2.2.1 sb.2.2.2.1 sb.2.2.2.2.1 sb.2.2.2.2.2 te.1 te.2.1 te.2.2.1 te.2.2.2.1 te.2.2.2.2.1 te.2.2.2.2.2.1 te.2.2.2.2.2.2.1 te.2.2.2.2.2.2.2 so.1 so.2.1 so.2.2.1 so.2.2.2 wa.1 wa.2.1 wa.2.2.1 wa.2.2.2 (xs ((6 * kc) + 1)) sn), (g_X12_pass_se_4 l4.1 md.2.1 md.2.2.1 md.2.2.2 ml.1 ml.2.1 ml.2.2.1 ml.2.2.2.1 ml.2.2.2.2.1 ml.2.2.2.2.2.1 ml.2.2.2.2.2.2.1 ml.2.2.2.2.2.2.2.1 ml.2.2.2.2.2.2.2.2.1 ml.2.2.2.2.2.2.2.2.2.1 ml.2.2.2.2.2.2.2.2.2.2.1 ml.2.2.2.2.2.2.2.2.2.2.2.1 ml.2.2.2.2.2.2.2.2.2.2.2.2 r4 sb.1 sb.2.1 sb.2.2.1 sb.2.2.2.1 sb.2.2.2.2.1 sb.2.2.2.2.2 te.1 te.2.1 te.2.2.1 te.2.2.2.1 te.2.2.2.2.1 te.2.2.2.2.2.1 te.2.2.2.2.2.2.1 te.2.2.2.2.2.2.2 so.1 so.2.1 so.2.2.1 so.2.2.2 wa.1 wa.2.1 wa.2.2.1 wa.2.2.2 (xs ((6 * kc) + 1)) sn), (g_X12_pass_se_5 l4.1 md.2.1 md.2.2.1 md.2.2.2 ml.1 ml.2.1 ml.2.2.1 ml.2.2.2.1 ml.2.2.2.2.1 ml.2.2.2.2.2.1 ml.2.2.2.2.2.2.1 ml.2.2.2.2.2.2.2.1 ml.2.2.2.2.2.2.2.2.1 ml.2.2.2.2.2.2.2.2.2.1 ml.2.2.2.2.2.2.2.2.2.2.1 ml.2.2.2.2.2.2.2.2.2.2.2.1 ml.2.2.2.2.2.2.2.2.2.2.2.2 r4 sb.1 sb.2.1 sb.2.2.1 sb.2.2.2.1 sb.2.2.2.2.1 sb.2.2.2.2.2 te.1 te.2.1 te.2.2.1 te.2.2.2.1 te.2.2.2.2.1 te.2.2.2.2.2.1 te.2.2.2.2.2.2.1 te.2.2.2.2.2.2.2 so.1 so.2.1 so.2.2.1 so.2.2.2 wa.1 wa.2.1 wa.2.2.1 wa.2.2.2 (xs ((6 * kc) + 1)) sn), (g_X12_pass_se_6 l4.1 md.2.1 md.2.2.1 md.2.2.2 ml.1 ml.2.1 ml.2.2.1 ml.2.2.2.1 ml.2.2.2.2.1 ml.2.2.2.2.2.1 ml.2.2.2.2.2.2.1 ml.2.2.2.2.2.2.2.1 ml.2.2.2.2.2.2.2.2.1 ml.2.2.2.2.2.2.2.2.2.1 ml.2.2.2.2.2.2.2.2.2.2.1 ml.2.2.2.2.2.2.2.2.2.2.2.1 ml.2.2.2.2.2.2.2.2.2.2.2.2 r4 sb.1 sb.2.1 sb.2.2.1 sb.2.2.2.1 sb.2.2.2.2.1 sb.2.2.2.2.2 te.1 te.2.1 te.2.2.1 te.2.2.2.1 te.2.2.2.2.1 te.2.2.2.2.2.1 te.2.2.2.2.2.2.1 te.2.2.2.2.2.2.2 so.1 so.2.1 so.2.2.1 so.2.2.2 wa.1 wa.2.1 wa.2.2.1 wa.2.2.2 (xs ((6 * kc) + 1)) sn), (g_X12_pass_se_7 l4.1 md.2.1 md.2.2.1 md.2.2.2 ml.1 ml.2.1 ml.2.2.1 ml.2.2.2.1 ml.2.2.2.2.1 ml.2.2.2.2.2.1 ml.2.2.2.2.2.2.1 ml.2.2.2.2.2.2.2.1 ml.2.2.2.2.2.2.2.2.1 ml.2.2.2.2.2.2.2.2.2.1 ml.2.2.2.2.2.2.2.2.2.2.1 ml.2.2.2.2.2.2.2.2.2.2.2.1 ml.2.2.2.2.2.2.2.2.2.2.2.2 r4 sb.1 sb.2.1 sb.2.2.1 sb.2.2.2.1 sb.2.2.2.2.1 sb.2.2.2.2.2 te.1 te.2.1 te.2.2.1 te.2.2.2.1 te.2.2.2.2.1 te.2.2.2.2.2.1 te.2.2.2.2.2.2.1 te.2.2.2.2.2.2.2 so.1 so.2.1 so.2.2.1 so.2.2.2 wa.1 wa.2.1 wa.2.2.1 wa.2.2.2 (xs ((6 * kc) + 1)) sn)) (sb.1, sb.2.1, sb.2.2.1, sb.2.2.2.1, sb.2.2.2.2.1, (g_X12_pass_sb_5 l4.1 md.2.1 md.2.2.1 md.2.2.2 ml.1 ml.2.1 ml.2.2.1 ml.2.2.2.1 ml.2.2.2.2.1 ml.2.2.2.2.2.1 ml.2.2.2.2.2.2.1 ml.2.2.2.2.2.2.2.1 ml.2.2.2.2.2.2.2.2.1 ml.2.2.2.2.2.2.2.2.2.1 ml.2.2.2.2.2.2.2.2.2.2.1 ml.2.2.2.2.2.2.2.2.2.2.2.1 ml.2.2.2.2.2.2.2.2.2.2.2.2 r4 sb.1 sb.2.1 sb.2.2.1 sb.2.2.2.1 sb.2.2.2.2.1 sb.2.2.2.2.2 te.1 te.2.1 te.2.2.1 te.2.2.2.1 te.2.2.2.2.1 te.2.2.2.2.2.1 te.2.2.2.2.2.2.1 te.2.2.2.2.2.2.2 so.1 so.2.1 so.2.2.1 so.2.2.2 wa.1 wa.2.1 wa.2.2.1 wa.2.2.2 (xs ((6 * kc) + 1)) sn)) (so.1, so.2.1, so.2.2.1, (g_X12_pass_so_3 l4.1 md.2.1 md.2.2.1 md.2.2.2 ml.1 ml.2.1 ml.2.2.1 ml.2.2.2.1 ml.2.2.2.2.1 ml.2.2.2.2.2.1 ml.2.2.2.2.2.2.1 ml.2.2.2.2.2.2.2.1 ml.2.2.2.2.2.2.2.2.1 ml.2.2.2.2.2.2.2.2.2.1 ml.2.2.2.2.2.2.2.2.2.2.1 ml.2.2.2.2.2.2.2.2.2.2.2.1 ml.2.2.2.2.2.2.2.2.2.2.2.2 r4 sb.1 sb.2.1 sb.2.2.1 sb.2.2.2.1 sb.2.2.2.2.1 sb.2.2.2.2.2 te.1 te.2.1 te.2.2.1 te.2.2.2.1 te.2.2.2.2.1 te.2.2.2.2.2.1 te.2.2.2.2.2.2.1 te.2.2.2.2.2.2.2 so.1 so.2.1 so.2.2.1 so.2.2.2 wa.1 wa.2.1 wa.2.2.1 wa.2.2.2 (xs ((6 * kc) + 1)) sn)) ((g_X12_pass_wa_0 l4.1 md.2.1 md.2.2.1 md.2.2.2 ml.1 ml.2.1 ml.2.2.1 ml.2.2.2.1 ml.2.2.2.2.1 ml.2.2.2.2.2.1 ml.2.2.2.2.2.2.1 ml.2.2.2.2.2.2.2.1 ml.2.2.2.2.2.2.2.2.1 ml.2.2.2.2.2.2.2.2.2.1 ml.2.2.2.2.2.2.2.2.2.2.1 ml.2.2.2.2.2.2.2.2.2.2.2.1 ml.2.2.2.2.2.2.2.2.2.2.2.2 r4 sb.1 sb.2.1 sb.2.2.1 sb.2.2.2.1 sb.2.2.2.2.1 sb.2.2.2.2.2 te.1 te.2.1 te.2.2.1 te.2.2.2.1 te.2.2.2.2.1 te.2.2.2.2.2.1 te.2.2.2.2.2.2.1 te.2.2.2.2.2.2.2 so.1 so.2.1 so.2.2.1 so.2.2.2 wa.1 wa.2.1 wa.2.2.1 wa.2.2.2 (xs ((6 * kc) + 1)) sn), (g_X12_pass_wa_1 l4.1 md.2.1 md.2.2.1 md.2.2.2 ml.1 ml.2.1 ml.2.2.1 ml.2.2.2.1 ml.2.2.2.2.1 ml.2.2.2.2.2.1 ml.2.2.2.2.2.2.1 ml.2.2.2.2.2.2.2.1 ml.2.2.2.2.2.2.2.2.1 ml.2.2.2.2.2.2.2.2.2.1 ml.2.2.2.2.2.2.2.2.2.2.1 ml.2.2.2.2.2.2.2.2.2.2.2.1 ml.2.2.2.2.2.2.2.2.2.2.2.2 r4 sb.1 sb.2.1 sb.2.2.1 sb.2.2.2.1 sb.2.2.2.2.1 sb.2.2.2.2.2 te.1 te.2.1 te.2.2.1 te.2.2.2.1 te.2.2.2.2.1 te.2.2.2.2.2.1 te.2.2.2.2.2.2.1 te.2.2.2.2.2.2.2 so.1 so.2.1 so.2.2.1 so.2.2.2 wa.1 wa.2.1 wa.2.2.1 wa.2.2.2 (xs ((6 * kc) + 1)) sn), (g_X12_pass_wa_2 l4.1 md.2.1 md.2.2.1 md.2.2.2 ml.1 ml.2.1 ml.2.2.1 ml.2.2.2.1 ml.2.2.2.2.1 ml.2.2.2.2.2.1 ml.2.2.2.2.2.2.1 ml.2.2.2.2.2.2.2.1 ml.2.2.2.2.2.2.2.2.1 ml.2.2.2.2.2.2.2.2.2.1 ml.2.2.2.2.2.2.2.2.2.2.1 ml.2.2.2.2.2.2.2.2.2.2.2.1 ml.2.2.2.2.2.2.2.2.2.2.2.2 r4 sb.1 sb.2.1 sb.2.2.1 sb.2.2.2.1 sb.2.2.2.2.1 sb.2.2.2.2.2 te.1 te.2.1 te.2.2.1 te.2.2.2.1 te.2.2.2.2.1 te.2.2.2.2.2.1 te.2.2.2.2.2.2.1 te.2.2.2.2.2.2.2 so.1 so.2.1 so.2.2.1 so.2.2.2 wa.1 wa.2.1 wa.2.2.1 wa.2.2.2 (xs ((6 * kc) + 1)) sn), (g_X12_pass_wa_3 l4.1 md.2.1 md.2.2.1 md.2.2.2 ml.1 ml.2.1 ml.2.2.1 ml.2.2.2.1 ml.2.2.2.2.1 ml.2.2.2.2.2.1 ml.2.2.2.2.2.2.1 ml.2.2.2.2.2.2.2.1 ml.2.2.2.2.2.2.2.2.1 ml.2.2.2.2.2.2.2.2.2.1 ml.2.2.2.2.2.2.2.2.2.2.1 ml.2.2.2.2.2.2.2.2.2.2.2.1 ml.2.2.2.2.2.2.2.2.2.2.2.2 r4 sb.1 sb.2.1 sb.2.2.1 sb.2.2.2.1 sb.2.2.2.2.1 sb.2.2.2.2.2 te.1 te.2.1 te.2.2.1 te.2.2.2.1 te.2.2.2.2.1 te.2.2.2.2.2.1 te.2.2.2.2.2.2.1 te.2.2.2.2.2.2.2 so.1 so.2.1 so.2.2.1 so.2.2.2 wa.1 wa.2.1 wa.2.2.1 wa.2.2.2 (xs ((6 * kc) + 1)) sn)) r1 r2 r3 (g_X12_pass_r4_0 l4.1 md.2.1 md.2.2.1 md.2.2.2 ml.1 ml.2.1 ml.2.2.1 ml.2.2.2.1 ml.2.2.2.2.1 ml.2.2.2.2.2.1 ml.2.2.2.2.2.2.1 ml.2.2.2.2.2.2.2.1 ml.2.2.2.2.2.2.2.2.1 ml.2.2.2.2.2.2.2.2.2.1 ml.2.2.2.2.2.2.2.2.2.2.1 ml.2.2.2.2.2.2.2.2.2.2.2.1 ml.2.2.2.2.2.2.2.2.2.2.2.2 r4 sb.1 sb.2.1 sb.2.2.1 sb.2.2.2.1 sb.2.2.2.2.1 sb.2.2.2.2.2 te.1 te.2.1 te.2.2.1 te.2.2.2.1 te.2.2.2.2.1 te.2.2.2.2.2.1 te.2.2.2.2.2.2.1 te.2.2.2.2.2.2.2 so.1 so.2.1 so.2.2.1 so.2.2.2 wa.1 wa.2.1 wa.2.2.1 wa.2.2.2 (xs ((6 * kc) + 1)) sn) ∧ ((r_X12_isWrong (if (r_X12_isBetween (xs ((6 * kc) + 1)) (1 : Int32) (24 : Int32)) = (0 : Int32) then (1 : Int32) else (if (md.2.1 + (xs ((6 * kc) + 1))) ≤ (999 : Int32) then (0 : Int32) else (2 : Int32)))) = (0 : Int32) → x_X7_pass wo (xs ((6 * kc) + 1)) = (0 : Int32) ∧ (lp_X12_pass_42 ml.2.2.1 ml.2.2.2.2.2.2.1 ml.2.2.2.2.2.2.2.1 ml.2.2.2.2.2.2.2.2.1 ml.2.2.2.2.2.2.2.2.2.1 sb.1 sb.2.1 sb.2.2.1 sb.2.2.2.1 sb.2.2.2.2.1 te.1 te.2.1 te.2.2.1 so.1 so.2.1 so.2.2.1 sn (l4.1, md.2.1, md.2.2.1, md.2.2.2, ml.1, ml.2.1, ml.2.2.2.1, ml.2.2.2.2.1, ml.2.2.2.2.2.1, ml.2.2.2.2.2.2.2.2.2.2.1, ml.2.2.2.2.2.2.2.2.2.2.2.1, ml.2.2.2.2.2.2.2.2.2.2.2.2, r4, sb.2.2.2.2.2, te.2.2.2.1, te.2.2.2.2.1, te.2.2.2.2.2.1, te.2.2.2.2.2.2.1, te.2.2.2.2.2.2.2, so.2.2.2, wa.1, wa.2.1, wa.2.2.1, wa.2.2.2) (xs ((6 * kc) + 1)).toNatClampNeg).2.2.2.2.2.2.2.2.2.2.2.2.1 = (g_X12_pass_r4_0 l4.1 md.2.1 md.2.2.1 md.2.2.2 ml.1 ml.2.1 ml.2.2.1 ml.2.2.2.1 ml.2.2.2.2.1 ml.2.2.2.2.2.1 ml.2.2.2.2.2.2.1 ml.2.2.2.2.2.2.2.1 ml.2.2.2.2.2.2.2.2.1 ml.2.2.2.2.2.2.2.2.2.1 ml.2.2.2.2.2.2.2.2.2.2.1 ml.2.2.2.2.2.2.2.2.2.2.2.1 ml.2.2.2.2.2.2.2.2.2.2.2.2 r4 sb.1 sb.2.1 sb.2.2.1 sb.2.2.2.1 sb.2.2.2.2.1 sb.2.2.2.2.2 te.1 te.2.1 te.2.2.1 te.2.2.2.1 te.2.2.2.2.1 te.2.2.2.2.2.1 te.2.2.2.2.2.2.1 te.2.2.2.2.2.2.2 so.1 so.2.1 so.2.2.1 so.2.2.2 wa.1 wa.2.1 wa.2.2.1 wa.2.2.2 (xs ((6 * kc) + 1)) sn)) ∧ r4 ≤ (g_X12_pass_r4_0 l4.1 md.2.1 md.2.2.1 md.2.2.2 ml.1 ml.2.1 ml.2.2.1 ml.2.2.2.1 ml.2.2.2.2.1 ml.2.2.2.2.2.1 ml.2.2.2.2.2.2.1 ml.2.2.2.2.2.2.2.1 ml.2.2.2.2.2.2.2.2.1 ml.2.2.2.2.2.2.2.2.2.1 ml.2.2.2.2.2.2.2.2.2.2.1 ml.2.2.2.2.2.2.2.2.2.2.2.1 ml.2.2.2.2.2.2.2.2.2.2.2.2 r4 sb.1 sb.2.1 sb.2.2.1 sb.2.2.2.1 sb.2.2.2.2.1 sb.2.2.2.2.2 te.1 te.2.1 te.2.2.1 te.2.2.2.1 te.2.2.2.2.1 te.2.2.2.2.2.1 te.2.2.2.2.2.2.1 te.2.2.2.2.2.2.2 so.1 so.2.1 so.2.2.1 so.2.2.2 wa.1 wa.2.1 wa.2.2.1 wa.2.2.2 (xs ((6 * kc) + 1)) sn) := by
  subst hsn
  obtain ⟨s1, s2, hq, hbo, n10, n12, n6, hat, hat3, htr, hh, h9, hw, q1, q2, q3, q4⟩ := M
  by_cases c : (r_X12_isWrong (if (r_X12_isBetween (xs ((6 * kc) + 1)) (1 : Int32) (24 : Int32)) = (0 : Int32) then (1 : Int32) else (if (md.2.1 + (xs ((6 * kc) + 1))) ≤ (999 : Int32) then (0 : Int32) else (2 : Int32)))) = (0 : Int32)
  · have cx : x_X7_pass wo (xs ((6 * kc) + 1)) = (0 : Int32) := zpq.mpr (by rw [hwo, ← hh]; exact c)
    simp only [g_X12_pass_md_1, g_X12_pass_md_2, g_X12_pass_md_3, g_X12_pass_ml_0, g_X12_pass_ml_1, g_X12_pass_ml_3, g_X12_pass_ml_4, g_X12_pass_ml_5, g_X12_pass_ml_10, g_X12_pass_ml_11, g_X12_pass_ml_12, g_X12_pass_se_3, g_X12_pass_se_4, g_X12_pass_se_5, g_X12_pass_se_6, g_X12_pass_se_7, g_X12_pass_sb_5, g_X12_pass_so_3, g_X12_pass_wa_0, g_X12_pass_wa_1, g_X12_pass_wa_2, g_X12_pass_wa_3, g_X12_pass_r4_0, if_pos c, if_pos cx]
    obtain ⟨a1, a2⟩ := zmhrs24 c
    have hl := zlasth hwo ⟨a1, a2⟩ h9 (by
      have cx' := cx
      unfold x_X7_pass at cx'
      by_cases z1 : x_X7_checkRange (xs ((6 * kc) + 1)) (1 : Int32) (24 : Int32) = (0 : Int32)
      · rw [if_pos z1] at cx'
        by_cases z2 : wo + (xs ((6 * kc) + 1)) ≤ (999 : Int32)
        · exact z2
        · rw [if_neg z2] at cx'; exact absurd cx' (by decide)
      · rw [if_neg z1] at cx'; exact absurd cx' (by decide))
    obtain ⟨j1, j2, j3, j4, j5, j6⟩ := zmpk (sn := snv ml) (ml := ml) (l4 := l4) (te := te) (sb := sb) (so := so) (wa := wa) (r4 := r4) (md := md) hbo htr q4 hh n12 (by omega) (xs ((6 * kc) + 1)).toNatClampNeg a2
    exact ⟨⟨s1, s2, hq, j1, n10, n12, n6, hat, hat3, j2, j5, hl, by have h4 := j4; omega, q1, q2, q3, j3⟩, fun _ => ⟨cx, by first | rfl | trivial⟩, j6⟩
  · have cx : ¬ x_X7_pass wo (xs ((6 * kc) + 1)) = (0 : Int32) := fun z => c (by have := zpq.mp z; rw [hwo, ← hh] at this; exact this)
    simp only [g_X12_pass_md_1, g_X12_pass_md_2, g_X12_pass_md_3, g_X12_pass_ml_0, g_X12_pass_ml_1, g_X12_pass_ml_3, g_X12_pass_ml_4, g_X12_pass_ml_5, g_X12_pass_ml_10, g_X12_pass_ml_11, g_X12_pass_ml_12, g_X12_pass_se_3, g_X12_pass_se_4, g_X12_pass_se_5, g_X12_pass_se_6, g_X12_pass_se_7, g_X12_pass_sb_5, g_X12_pass_so_3, g_X12_pass_wa_0, g_X12_pass_wa_1, g_X12_pass_wa_2, g_X12_pass_wa_3, g_X12_pass_r4_0, if_neg c, if_neg cx]
    exact ⟨⟨s1, s2, hq, hbo, n10, n12, n6, hat, hat3, htr, hh, h9, hw, q1, q2, q3, q4⟩, fun z => absurd z c, Nat.le_refl _⟩
end
section
/-! the model's steps, class and reference, on the 48 cells: dig, burn -/
/-- alike on the first n places -/
def zEq (n : Nat) (f g : Nat → Int32) : Prop := ∀ k, k < n → f k = g k
/-- a number between 0 and N in each of the first n places -/
def zBd (n N : Nat) (f : Nat → Int32) : Prop := ∀ k, k < n → ∃ m, m ≤ N ∧ f k = nI m
theorem zEq_r {n : Nat} {f : Nat → Int32} : zEq n f f := fun _ _ => rfl
theorem zEq_u {n i : Nat} {f g : Nat → Int32} {v w : Int32} (h : zEq n f g) (hv : v = w) : zEq n (upd f i v) (upd g i w) := by
  intro k hk
  by_cases e : k = i
  · rw [e, upd_i, upd_i, hv]
  · rw [upd_o e, upd_o e]; exact h k hk
theorem zBd_u {n N i m : Nat} {f : Nat → Int32} {v : Int32} (h : zBd n N f) (hm : m ≤ N) (hv : v = nI m) : zBd n N (upd f i v) := by
  intro k hk
  by_cases e : k = i
  · rw [e, upd_i]; exact ⟨m, hm, hv⟩
  · rw [upd_o e]; exact h k hk
theorem zBd_e {n N : Nat} {f g : Nat → Int32} (h : zBd n N f) (e : zEq n f g) : zBd n N g := fun k hk => by
  obtain ⟨m, h1, h2⟩ := h k hk
  exact ⟨m, h1, (e k hk).symm.trans h2⟩
theorem zdg {m : Nat} (hm : m ≤ 6) : (nI m ≤ (0 : Int32) ↔ m = 0) ∧ (nI m = (0 : Int32) ↔ m = 0) ∧ (m ≠ 0 → (nI m - (1 : Int32) = nI (m - 1) ∧ (nI m - (1 : Int32) = (0 : Int32) ↔ nI m - (1 : Int32) ≤ (0 : Int32)))) := by
  rcases (by omega : m = 0 ∨ m = 1 ∨ m = 2 ∨ m = 3 ∨ m = 4 ∨ m = 5 ∨ m = 6) with rfl | rfl | rfl | rfl | rfl | rfl | rfl <;> decide
section ZDG
variable {f f' ln ln' c c' p p' : Nat → Int32}
theorem zdig (hf : zEq 48 f f') (hl : zEq 48 ln ln') (hc : zEq 3 c c') (hp : zEq 3 p p') (hb : zBd 3 6 c) : ∀ i, i ≤ 3 → zEq 48 (lp_X1_dig_2 p (f, ln, c) i).1 (lp_X8_dig_2 p' (c', f', ln') i).2.1 ∧ zEq 48 (lp_X1_dig_2 p (f, ln, c) i).2.1 (lp_X8_dig_2 p' (c', f', ln') i).2.2 ∧ zEq 3 (lp_X1_dig_2 p (f, ln, c) i).2.2 (lp_X8_dig_2 p' (c', f', ln') i).1 ∧ zBd 3 6 (lp_X1_dig_2 p (f, ln, c) i).2.2 := by
  intro i
  induction i with
  | zero => intro _; rw [lp_X1_dig_2_0, lp_X8_dig_2_0]; exact ⟨hf, hl, hc, hb⟩
  | succ i ih =>
    intro hi
    obtain ⟨j1, j2, j3, j4⟩ := ih (by omega)
    rw [lp_X1_dig_2_s, lp_X8_dig_2_s]
    unfold st_X1_dig_2 st_X8_dig_2
    obtain ⟨m, hm, e⟩ := j4 i (by omega)
    have e' := (j3 i (by omega)).symm.trans e
    obtain ⟨d1, d2, d3⟩ := zdg hm
    simp only [upd_i]
    rw [e, e', ← hp i (by omega)]
    by_cases z : m = 0
    · rw [if_pos (d1.mpr z), if_pos (d1.mpr z), if_pos (d1.mpr z), if_pos (d2.mpr z), if_pos (d2.mpr z), if_pos (d2.mpr z)]
      exact ⟨j1, j2, j3, j4⟩
    · obtain ⟨g1, g2⟩ := d3 z
      rw [if_neg (fun y => z (d1.mp y)), if_neg (fun y => z (d1.mp y)), if_neg (fun y => z (d1.mp y)), if_neg (fun y => z (d2.mp y)), if_neg (fun y => z (d2.mp y)), if_neg (fun y => z (d2.mp y))]
      refine ⟨?_, ?_, zEq_u j3 rfl, zBd_u j4 (by omega : m - 1 ≤ 6) g1⟩
      · by_cases y : nI m - (1 : Int32) = (0 : Int32)
        · rw [if_pos y, if_pos (g2.mp y)]; exact zEq_u j1 rfl
        · rw [if_neg y, if_neg (fun x => y (g2.mpr x))]; exact j1
      · by_cases y : nI m - (1 : Int32) = (0 : Int32)
        · rw [if_pos y, if_pos (g2.mp y)]; exact zEq_u j2 rfl
        · rw [if_neg y, if_neg (fun x => y (g2.mpr x))]; exact j2
/-- fires stay between 0 and 9 -/
theorem zdigb (hb : zBd 48 9 f) : ∀ i, zBd 48 9 (lp_X1_dig_2 p (f, ln, c) i).1 := by
  intro i
  induction i with
  | zero => rw [lp_X1_dig_2_0]; exact hb
  | succ i ih =>
    rw [lp_X1_dig_2_s]
    unfold st_X1_dig_2
    dsimp only
    (repeat' split) <;> first | exact ih | exact zBd_u ih (Nat.zero_le 9) rfl
end ZDG
/-! burn -/
theorem zburnt {a b : Nat} (ha : a ≤ 99) (hb : b ≤ 9) : (if nI a ≤ nI b then nI a else nI b) = nI (min a b) ∧ (if nI a < nI b then nI a else nI b) = nI (min a b) := by
  constructor
  · by_cases c : a ≤ b
    · rw [if_pos ((nI_leI (by omega) (by omega)).mpr c), Nat.min_eq_left c]
    · rw [if_neg (fun z => c ((nI_leI (by omega) (by omega)).mp z)), Nat.min_eq_right (by omega)]
  · by_cases c : a < b
    · rw [if_pos ((nI_ltI (by omega) (by omega)).mpr c), Nat.min_eq_left (by omega)]
    · rw [if_neg (fun z => c ((nI_ltI (by omega) (by omega)).mp z)), Nat.min_eq_right (by omega)]
theorem zsubN {a b : Nat} (h : b ≤ a) : nI a - nI b = nI (a - b) := by
  obtain ⟨k, rfl⟩ : ∃ k, a = b + k := ⟨a - b, by omega⟩
  rw [Nat.add_sub_cancel_left, ← nI_add, Int32.add_comm]
  exact Int32.add_sub_cancel _ _
theorem zten : ∀ m, m ≤ 9 → (nI m * (10 : Int32)).toInt64 = (10 : Int64) * (nI m).toInt64 := by
  intro m hm
  rcases (by omega : m = 0 ∨ m = 1 ∨ m = 2 ∨ m = 3 ∨ m = 4 ∨ m = 5 ∨ m = 6 ∨ m = 7 ∨ m = 8 ∨ m = 9) with rfl | rfl | rfl | rfl | rfl | rfl | rfl | rfl | rfl | rfl <;> decide
theorem zweak {b w : Nat} (hb : b ≤ 9) (hw : w ≤ 3) : (if nI w ≤ nI b then nI b - nI w else (0 : Int32)) = nI (b - w) ∧ (if (0 : Int32) < nI b - nI w then nI b - nI w else (0 : Int32)) = nI (b - w) := by
  rcases (by omega : w = 0 ∨ w = 1 ∨ w = 2 ∨ w = 3) with rfl | rfl | rfl | rfl <;> rcases (by omega : b = 0 ∨ b = 1 ∨ b = 2 ∨ b = 3 ∨ b = 4 ∨ b = 5 ∨ b = 6 ∨ b = 7 ∨ b = 8 ∨ b = 9) with rfl | rfl | rfl | rfl | rfl | rfl | rfl | rfl | rfl | rfl <;> decide
section ZBU
variable {fu fu' fi fi' sm sm' : Nat → Int32} {mk mk' : Int64} {ra : Nat}
theorem zburn (hu : zEq 48 fu fu') (hi : zEq 48 fi fi') (hs : zEq 48 sm sm') (bu : zBd 48 99 fu) (bi : zBd 48 9 fi) (hr : ra ≤ 9) : ∀ i, i ≤ 48 → zEq 48 (lp_X1_burn_9 (nI ra / (3 : Int32)) (fu, fi, sm, mk) i).1 (lp_X8_burn_2 (nI ra) (fu', fi', sm', mk') i).1 ∧ zEq 48 (lp_X1_burn_9 (nI ra / (3 : Int32)) (fu, fi, sm, mk) i).2.1 (lp_X8_burn_2 (nI ra) (fu', fi', sm', mk') i).2.1 ∧ zEq 48 (lp_X1_burn_9 (nI ra / (3 : Int32)) (fu, fi, sm, mk) i).2.2.1 (lp_X8_burn_2 (nI ra) (fu', fi', sm', mk') i).2.2.1 ∧ (mk = mk' → (lp_X1_burn_9 (nI ra / (3 : Int32)) (fu, fi, sm, mk) i).2.2.2 = (lp_X8_burn_2 (nI ra) (fu', fi', sm', mk') i).2.2.2) ∧ zBd 48 99 (lp_X1_burn_9 (nI ra / (3 : Int32)) (fu, fi, sm, mk) i).1 ∧ zBd 48 9 (lp_X1_burn_9 (nI ra / (3 : Int32)) (fu, fi, sm, mk) i).2.1 := by
  intro i
  induction i with
  | zero => intro _; rw [lp_X1_burn_9_0, lp_X8_burn_2_0]; exact ⟨hu, hi, hs, fun h => h, bu, bi⟩
  | succ i ih =>
    intro hk
    obtain ⟨j1, j2, j3, j4, j5, j6⟩ := ih (by omega)
    rw [lp_X1_burn_9_s, lp_X8_burn_2_s]
    generalize lp_X1_burn_9 (nI ra / (3 : Int32)) (fu, fi, sm, mk) i = y at j1 j2 j3 j4 j5 j6 ⊢
    generalize lp_X8_burn_2 (nI ra) (fu', fi', sm', mk') i = z at j1 j2 j3 j4 ⊢
    unfold st_X1_burn_9 st_X8_burn_2
    obtain ⟨a, ha, ea⟩ := j5 i (by omega)
    obtain ⟨b, hb, eb⟩ := j6 i (by omega)
    have ea' := (j1 i (by omega)).symm.trans ea
    have eb' := (j2 i (by omega)).symm.trans eb
    have e3 := j3 i (by omega)
    simp only [upd_i]
    rw [ea, eb, ea', eb', (zburnt ha hb).1, (zburnt ha hb).2, zsubN (Nat.min_le_left a b), show nI ra / (3 : Int32) = nI (ra / 3) from pk_div (by omega) (by decide) (by decide), (zweak hb (by omega : ra / 3 ≤ 3)).1, (zweak hb (by omega : ra / 3 ≤ 3)).2, ← e3, zten (min a b) (Nat.le_trans (Nat.min_le_right a b) hb), Int32.mul_comm (10 : Int32) (nI (min a b))]
    have q : ∃ m, m ≤ 9 ∧ (if nI (a - min a b) = (0 : Int32) then (0 : Int32) else nI (b - ra / 3)) = nI m := by
      by_cases z : nI (a - min a b) = (0 : Int32)
      · rw [if_pos z]; exact ⟨0, by decide, rfl⟩
      · rw [if_neg z]; exact ⟨b - ra / 3, by omega, rfl⟩
    obtain ⟨m, hm, em⟩ := q
    exact ⟨zEq_u j1 rfl, zEq_u j2 rfl, zEq_u j3 rfl, fun h => by rw [j4 h], zBd_u j5 (by omega : a - min a b ≤ 99) rfl, zBd_u j6 hm em⟩
end ZBU
end
section
/-! the model's steps: carry, settle, spread -/
theorem zcellE (a b : Int32) : r_X7_isCell a b = r_X12_isCell a b := by
  have h := @zcB a b
  unfold x_X7_placeOf at h
  by_cases c : r_X7_isCell a b = (0 : Int32)
  · rw [if_pos c] at h
    by_cases d : r_X12_isCell a b = (0 : Int32)
    · rw [c, d]
    · exact absurd (h.mpr d) (by decide)
  · rw [if_neg c] at h
    have d := h.mp rfl
    have e1 : r_X7_isCell a b = (1 : Int32) := by
      unfold r_X7_isCell at c ⊢
      (repeat' split) <;> first | rfl | (rename_i z1; exact absurd (by simp [*]) c)
    have e2 : r_X12_isCell a b = (1 : Int32) := by
      unfold r_X12_isCell at d ⊢
      (repeat' split) <;> first | rfl | (rename_i z1; exact absurd (by simp [*]) d)
    rw [e1, e2]
section ZCA
variable {s s' : Nat → Int32} {wx wy : Int32} {bl bl' : Int64}
theorem zcar (hs : zEq 48 s s') : ∀ i, i ≤ 48 → (∀ k, k < 48 → (lp_X1_carry_10 wx wy (s, (fun _ => (0 : Int32)), bl) i).1 k = (if k < i then s k - s k / (4 : Int32) else s k)) ∧ (∀ k, k < 48 → (lp_X1_carry_10 wx wy (s, (fun _ => (0 : Int32)), bl) i).2.1 k + (if k < i then s k - s k / (4 : Int32) else (0 : Int32)) = (lp_X8_carry_7 s' wx wy (bl', (fun _ => (0 : Int32))) i).2 k) ∧ (bl = bl' → (lp_X1_carry_10 wx wy (s, (fun _ => (0 : Int32)), bl) i).2.2 = (lp_X8_carry_7 s' wx wy (bl', (fun _ => (0 : Int32))) i).1) := by
  intro i
  induction i with
  | zero =>
    intro _
    rw [lp_X1_carry_10_0, lp_X8_carry_7_0]
    exact ⟨fun k _ => by rw [if_neg (Nat.not_lt_zero k)], fun k _ => by rw [if_neg (Nat.not_lt_zero k)]; exact Int32.add_zero _, fun h => h⟩
  | succ i ih =>
    intro hi
    obtain ⟨j1, j2, j3⟩ := ih (by omega)
    rw [lp_X1_carry_10_s, lp_X8_carry_7_s]
    generalize lp_X1_carry_10 wx wy (s, (fun _ => (0 : Int32)), bl) i = y at j1 j2 j3 ⊢
    generalize lp_X8_carry_7 s' wx wy (bl', (fun _ => (0 : Int32))) i = z at j2 j3 ⊢
    unfold st_X1_carry_10 st_X8_carry_7
    have e1 : y.1 i = s i := by rw [j1 i (by omega), if_neg (Nat.lt_irrefl i)]
    have e2 : s' i = s i := (hs i (by omega)).symm
    have e3 : y.2.1 i = z.2 i := by have := j2 i (by omega); rw [if_neg (Nat.lt_irrefl i), Int32.add_zero] at this; exact this
    have key : ∀ k, k < 48 → y.2.1 k + (if k < i + 1 then s k - s k / (4 : Int32) else (0 : Int32)) = upd z.2 i (z.2 i + (s i - s i / (4 : Int32))) k := by
      intro k hk
      by_cases e : k = i
      · rw [e, upd_i, if_pos (Nat.lt_succ_self i), e3]
      · rw [upd_o e, ← j2 k hk]
        by_cases q : k < i
        · rw [if_pos q, if_pos (by omega)]
        · rw [if_neg q, if_neg (by omega)]
    dsimp only
    rw [e1, e2, ← zcellE]
    refine ⟨fun k hk => ?_, ?_, ?_⟩
    · by_cases e : k = i
      · rw [e, upd_i, if_pos (Nat.lt_succ_self i)]
      · rw [upd_o e, j1 k hk]
        by_cases q : k < i
        · rw [if_pos q, if_pos (by omega)]
        · rw [if_neg q, if_neg (by omega)]
    · by_cases c : r_X7_isCell (((nI i) - (nI i) / (8 : Int32) * (8 : Int32)) + wx) (((nI i) / (8 : Int32)) + wy) = (0 : Int32)
      · rw [if_pos c, if_pos c]; exact key
      · rw [if_neg c, if_neg c]
        generalize (((((nI i) / (8 : Int32)) + wy) * (8 : Int32)) + (((nI i) - (nI i) / (8 : Int32) * (8 : Int32)) + wx)).toNatClampNeg = t
        intro k hk
        by_cases e : k = t
        · rw [e, upd_i, upd_i]
          have h := key k hk
          rw [e] at h
          rw [← h, Int32.add_assoc, Int32.add_assoc, Int32.add_comm (s i / (4 : Int32))]
        · rw [upd_o e, upd_o e]; exact key k hk
    · intro h
      by_cases c : r_X7_isCell (((nI i) - (nI i) / (8 : Int32) * (8 : Int32)) + wx) (((nI i) / (8 : Int32)) + wy) = (0 : Int32)
      · rw [if_pos c, if_pos c, j3 h]
      · rw [if_neg c, if_neg c, j3 h]
theorem zcar2 {br y : Nat → Int32} : ∀ i, i ≤ 48 → ∀ k, k < 48 → lp_X1_carry_103 br y i k = (if k < i then y k + br k else y k) := by
  intro i
  induction i with
  | zero => intro _ k _; rw [lp_X1_carry_103_0, if_neg (Nat.not_lt_zero k)]
  | succ i ih =>
    intro hi k hk
    rw [lp_X1_carry_103_s]
    unfold st_X1_carry_103
    by_cases e : k = i
    · rw [e, upd_i, if_pos (Nat.lt_succ_self i), ih (by omega) i (by omega), if_neg (Nat.lt_irrefl i)]
    · rw [upd_o e, ih (by omega) k hk]
      by_cases q : k < i
      · rw [if_pos q, if_pos (by omega)]
      · rw [if_neg q, if_neg (by omega)]
theorem zcarry (hs : zEq 48 s s') : zEq 48 (g_X1_carry_x_2 s wx wy bl) (g_X8_carry_ml_4 s' wx wy bl') ∧ (bl = bl' → g_X1_carry_x_12 s wx wy bl = g_X8_carry_ml_11 s' wx wy bl') := by
  obtain ⟨h1, h2, h3⟩ := zcar (wx := wx) (wy := wy) (bl := bl) (bl' := bl') hs 48 (Nat.le_refl _)
  refine ⟨fun k hk => ?_, h3⟩
  have a := h1 k hk
  have b := h2 k hk
  rw [if_pos hk] at a b
  show lp_X1_carry_103 _ _ 48 k = (lp_X8_carry_7 s' wx wy (bl', (fun _ => 0)) 48).2 k
  rw [zcar2 48 (Nat.le_refl _) k hk, if_pos hk, a, Int32.add_comm]
  exact b
theorem zcarN {br : Nat → Int32} (hs : zEq 48 s s') : ∀ n, zEq 48 (lp_X1_runModel_14 wx wy (s, br, bl) n).1 (lp_X8_hour_14 wx wy (s', bl') n).1 ∧ (bl = bl' → (lp_X1_runModel_14 wx wy (s, br, bl) n).2.2 = (lp_X8_hour_14 wx wy (s', bl') n).2) := by
  intro n
  induction n with
  | zero => rw [lp_X1_runModel_14_0, lp_X8_hour_14_0]; exact ⟨hs, fun h => h⟩
  | succ n ih =>
    rw [lp_X1_runModel_14_s, lp_X8_hour_14_s]
    unfold st_X1_runModel_14 st_X8_hour_14
    dsimp only
    exact ⟨(zcarry ih.1).1, fun h => (zcarry ih.1).2 (ih.2 h)⟩
end ZCA
theorem zsettle {s s' : Nat → Int32} {ra : Int32} {se se' : Int64} (hs : zEq 48 s s') : ∀ i, i ≤ 48 → zEq 48 (lp_X1_settle_2 ra (s, se) i).1 (lp_X8_settle_2 ra (s', se') i).1 ∧ (se = se' → (lp_X1_settle_2 ra (s, se) i).2 = (lp_X8_settle_2 ra (s', se') i).2) := by
  intro i
  induction i with
  | zero => intro _; rw [lp_X1_settle_2_0, lp_X8_settle_2_0]; exact ⟨hs, fun h => h⟩
  | succ i ih =>
    intro hi
    obtain ⟨j1, j2⟩ := ih (by omega)
    rw [lp_X1_settle_2_s, lp_X8_settle_2_s]
    unfold st_X1_settle_2 st_X8_settle_2
    have e := j1 i (by omega)
    dsimp only
    rw [e, Int32.add_comm ra (1 : Int32)]
    exact ⟨zEq_u j1 rfl, fun h => by rw [j2 h]⟩
/-! spread: what a cell tells, and what is told to a cell -/
def zgX (i : Nat) : Int32 := (nI i) - (nI i) / (8 : Int32) * (8 : Int32)
def zgY (i : Nat) : Int32 := (nI i) / (8 : Int32)
def ze (d : Nat) : Int32 := if d % 3 = 0 then (-1 : Int32) else if d % 3 = 1 then (0 : Int32) else (1 : Int32)
def zf (d : Nat) : Int32 := if d / 3 = 0 then (-1 : Int32) else if d / 3 = 1 then (0 : Int32) else (1 : Int32)
/-- the cell beside cell i in direction d; 99: none -/
def zt (i d : Nat) : Nat := if 1 ≤ i % 8 + d % 3 ∧ i % 8 + d % 3 ≤ 8 ∧ 1 ≤ i / 8 + d / 3 ∧ i / 8 + d / 3 ≤ 6 then (i / 8 + d / 3 - 1) * 8 + (i % 8 + d % 3 - 1) else 99
theorem zt_geo : ∀ d, d < 9 → ∀ i, i < 48 → (if r_X7_isCell (zgX i + ze d) (zgY i + zf d) = (0 : Int32) then 99 else (((zgY i + zf d) * (8 : Int32)) + (zgX i + ze d)).toNatClampNeg) = zt i d := by decide +kernel
theorem zt_lt {i d : Nat} (hi : i < 48) (hd : d < 9) : zt i d < 48 ∨ zt i d = 99 := by
  unfold zt
  split
  · left; omega
  · right; rfl
theorem zt_dual {i k d : Nat} (hi : i < 48) (hk : k < 48) (hd : d < 9) (h : zt i d = k) : zt k (8 - d) = i := by
  unfold zt at h ⊢
  split at h
  · rename_i q
    rcases (by omega : d = 0 ∨ d = 1 ∨ d = 2 ∨ d = 3 ∨ d = 4 ∨ d = 5 ∨ d = 6 ∨ d = 7 ∨ d = 8) with rfl | rfl | rfl | rfl | rfl | rfl | rfl | rfl | rfl <;> (rw [if_pos (by omega)]; omega)
  · omega
theorem zt_dual2 {i k d : Nat} (hi : i < 48) (hk : k < 48) (hd : d < 9) : zt k d = i ↔ zt i (8 - d) = k :=
  ⟨fun h => zt_dual hk hi hd h, fun h => by have := zt_dual hi hk (by omega : 8 - d < 9) h; rwa [show 8 - (8 - d) = d by omega] at this⟩
theorem ztell {b : Nat → Int32} {i d m σ k : Nat} {x y s : Int32} (hi : i < 48) (hd : d < 9) (hx : x = zgX i + ze d) (hy : y = zgY i + zf d) (hs : s = nI σ) (hσ : σ ≤ 5) (hk : k < 48) (hb : b k = nI m) (hm : m ≤ 5) : g_X1_tell_x_6 b x y s k = nI (max m (if zt i d = k then σ else 0)) := by
  have g := zt_geo d hd i hi
  subst hx hy hs
  unfold g_X1_tell_x_6
  by_cases c : r_X7_isCell (zgX i + ze d) (zgY i + zf d) = (0 : Int32)
  · rw [if_pos c] at g ⊢
    rw [if_neg (by omega), Nat.max_eq_left (Nat.zero_le m)]
    exact hb
  · rw [if_neg c] at g ⊢
    rw [g]
    by_cases e : zt i d = k
    · rw [if_pos e, e, hb]
      by_cases q : nI σ ≤ nI m
      · rw [if_pos q, hb, Nat.max_eq_left ((nI_leI (by omega) (by omega)).mp q)]
      · rw [if_neg q, upd_i, Nat.max_eq_right (Nat.le_of_lt (Nat.lt_of_not_le (fun z => q ((nI_leI (by omega) (by omega)).mpr z))))]
    · rw [if_neg e, Nat.max_eq_left (Nat.zero_le m)]
      by_cases q : nI σ ≤ b (zt i d)
      · rw [if_pos q]; exact hb
      · rw [if_neg q, upd_o (fun z => e z.symm)]; exact hb
/-- what is told to k by its neighbour in direction d, when the cells ahead of n have told -/
def znb (F : Nat → Int32) (k n d : Nat) (c : Int32) (v : Nat) : Nat := if zt k d < n ∧ c ≤ F (zt k d) then v else 0
theorem znb_s {F : Nat → Int32} {k n d v : Nat} {c : Int32} (hk : k < 48) (hn : n < 48) (hd : d < 9) : znb F k (n + 1) d c v = max (znb F k n d c v) (if c ≤ F n then (if zt n (8 - d) = k then v else 0) else 0) := by
  unfold znb
  have q := zt_dual2 hn hk hd
  by_cases e : zt n (8 - d) = k
  · have e2 := q.mpr e
    rw [e2, if_pos e]
    by_cases y : c ≤ F n
    · rw [if_pos (⟨Nat.lt_succ_self n, y⟩ : n < n + 1 ∧ c ≤ F n), if_neg ((fun z => Nat.lt_irrefl n z.1) : ¬ (n < n ∧ c ≤ F n)), if_pos y, Nat.zero_max]
    · rw [if_neg ((fun z => y z.2) : ¬ (n < n + 1 ∧ c ≤ F n)), if_neg ((fun z => y z.2) : ¬ (n < n ∧ c ≤ F n)), if_neg y]; rfl
  · have e2 : zt k d ≠ n := fun z => e (q.mp z)
    rw [if_neg e]
    have e3 : (if c ≤ F n then 0 else 0) = 0 := by split <;> rfl
    rw [e3]
    by_cases y : zt k d < n ∧ c ≤ F (zt k d)
    · rw [if_pos y, if_pos ⟨by omega, y.2⟩]; omega
    · rw [if_neg y, if_neg (fun z => y ⟨by omega, z.2⟩)]; rfl
def zmN (F : Nat → Int32) (k n : Nat) : Nat := max (max (znb F k n 5 (5 : Int32) 1) (znb F k n 3 (5 : Int32) 1)) (max (znb F k n 7 (5 : Int32) 1) (znb F k n 1 (5 : Int32) 1))
def zmW (F : Nat → Int32) (k n dw w : Nat) : Nat := if 0 < w then znb F k n (8 - dw) (3 : Int32) (w + 1) else 0
theorem znb_v {F : Nat → Int32} {k n d v : Nat} {c : Int32} : znb F k n d c v ≤ v := by unfold znb; split <;> omega
theorem zsb1 {x : Int32} : x - (1 : Int32) = x + (-1 : Int32) := by rw [Int32.sub_eq_add_neg]
theorem z4tells {b F : Nat → Int32} {n k m : Nat} (hn : n < 48) (hk : k < 48) (hb : b k = nI m) (hm : m ≤ 5) : (g_X1_tell_x_6 (g_X1_tell_x_6 (g_X1_tell_x_6 (g_X1_tell_x_6 b (((nI n) - (nI n) / (8 : Int32) * (8 : Int32)) - (1 : Int32)) ((nI n) / (8 : Int32)) (1 : Int32)) (((nI n) - (nI n) / (8 : Int32) * (8 : Int32)) + (1 : Int32)) ((nI n) / (8 : Int32)) (1 : Int32)) ((nI n) - (nI n) / (8 : Int32) * (8 : Int32)) (((nI n) / (8 : Int32)) - (1 : Int32)) (1 : Int32)) ((nI n) - (nI n) / (8 : Int32) * (8 : Int32)) (((nI n) / (8 : Int32)) + (1 : Int32)) (1 : Int32)) k = nI (max (max (max (max m (if zt n 3 = k then 1 else 0)) (if zt n 5 = k then 1 else 0)) (if zt n 1 = k then 1 else 0)) (if zt n 7 = k then 1 else 0)) := by
  have b1 : (if zt n 3 = k then 1 else 0) ≤ 1 := by split <;> omega
  have b2 : (if zt n 5 = k then 1 else 0) ≤ 1 := by split <;> omega
  have b3 : (if zt n 1 = k then 1 else 0) ≤ 1 := by split <;> omega
  have h1 := ztell (d := 3) (σ := 1) (x := ((nI n) - (nI n) / (8 : Int32) * (8 : Int32)) - (1 : Int32)) (y := (nI n) / (8 : Int32)) hn (by decide) zsb1 (Int32.add_zero _).symm rfl (by decide) hk hb hm
  have h2 := ztell (d := 5) (σ := 1) (x := ((nI n) - (nI n) / (8 : Int32) * (8 : Int32)) + (1 : Int32)) (y := (nI n) / (8 : Int32)) hn (by decide) rfl (Int32.add_zero _).symm rfl (by decide) hk h1 (Nat.max_le.mpr ⟨hm, by omega⟩)
  have h3 := ztell (d := 1) (σ := 1) (x := (nI n) - (nI n) / (8 : Int32) * (8 : Int32)) (y := ((nI n) / (8 : Int32)) - (1 : Int32)) hn (by decide) (Int32.add_zero _).symm zsb1 rfl (by decide) hk h2 (Nat.max_le.mpr ⟨Nat.max_le.mpr ⟨hm, by omega⟩, by omega⟩)
  exact ztell (d := 7) (σ := 1) (x := (nI n) - (nI n) / (8 : Int32) * (8 : Int32)) (y := ((nI n) / (8 : Int32)) + (1 : Int32)) hn (by decide) (Int32.add_zero _).symm rfl rfl (by decide) hk h3 (Nat.max_le.mpr ⟨Nat.max_le.mpr ⟨Nat.max_le.mpr ⟨hm, by omega⟩, by omega⟩, by omega⟩)
theorem zgpush {F : Nat → Int32} {dw w : Nat} (hd : dw < 9) (hw : w ≤ 4) : ∀ n, n ≤ 48 → ∀ k, k < 48 → lp_X1_spread_10 F (ze dw) (zf dw) (nI w) (fun _ => (0 : Int32)) n k = nI (max (zmW F k n dw w) (zmN F k n)) ∧ zmW F k n dw w ≤ 5 ∧ zmN F k n ≤ 1 := by
  intro n
  induction n with
  | zero =>
    intro _ k _
    rw [lp_X1_spread_10_0]
    have q : ∀ d c v, znb F k 0 d c v = 0 := fun d c v => by unfold znb; rw [if_neg (fun z => Nat.not_lt_zero _ z.1)]
    unfold zmW zmN
    simp only [q]
    refine ⟨?_, by split <;> omega, by decide⟩
    split <;> rfl
  | succ n ih =>
    intro hn k hk
    obtain ⟨j1, j2, j3⟩ := ih (by omega) k hk
    have hn : n < 48 := hn
    rw [lp_X1_spread_10_s]
    unfold st_X1_spread_10
    generalize lp_X1_spread_10 F (ze dw) (zf dw) (nI w) (fun _ => (0 : Int32)) n = y at j1 ⊢
    have sN : zmN F k (n + 1) = max (zmN F k n) (if (5 : Int32) ≤ F n then max (max (if zt n 3 = k then 1 else 0) (if zt n 5 = k then 1 else 0)) (max (if zt n 1 = k then 1 else 0) (if zt n 7 = k then 1 else 0)) else 0) := by
      unfold zmN
      rw [znb_s hk hn (by decide : 5 < 9), znb_s hk hn (by decide : 3 < 9), znb_s hk hn (by decide : 7 < 9), znb_s hk hn (by decide : 1 < 9)]
      show max (max (max _ (if (5 : Int32) ≤ F n then (if zt n 3 = k then 1 else 0) else 0)) (max _ (if (5 : Int32) ≤ F n then (if zt n 5 = k then 1 else 0) else 0))) (max (max _ (if (5 : Int32) ≤ F n then (if zt n 1 = k then 1 else 0) else 0)) (max _ (if (5 : Int32) ≤ F n then (if zt n 7 = k then 1 else 0) else 0))) = _
      by_cases c : (5 : Int32) ≤ F n
      · rw [if_pos c, if_pos c, if_pos c, if_pos c, if_pos c]
        ac_rfl
      · rw [if_neg c, if_neg c, if_neg c, if_neg c, if_neg c]
        simp only [Nat.max_zero]
    have sW : zmW F k (n + 1) dw w = max (zmW F k n dw w) (if 0 < w then (if (3 : Int32) ≤ F n then (if zt n dw = k then w + 1 else 0) else 0) else 0) := by
      unfold zmW
      by_cases c : 0 < w
      · rw [if_pos c, if_pos c, if_pos c, znb_s hk hn (by omega : 8 - dw < 9), show 8 - (8 - dw) = dw by omega]
      · rw [if_neg c, if_neg c, if_neg c]; rfl
    have bN : zmN F k (n + 1) ≤ 1 := by
      rw [sN]
      have : (if (5 : Int32) ≤ F n then max (max (if zt n 3 = k then 1 else 0) (if zt n 5 = k then 1 else 0)) (max (if zt n 1 = k then 1 else 0) (if zt n 7 = k then 1 else 0)) else 0) ≤ 1 := by
        (repeat' split) <;> decide
      exact Nat.max_le.mpr ⟨j3, this⟩
    have bW : zmW F k (n + 1) dw w ≤ 5 := by
      rw [sW]
      have : (if 0 < w then (if (3 : Int32) ≤ F n then (if zt n dw = k then w + 1 else 0) else 0) else 0) ≤ 5 := by
        (repeat' split) <;> omega
      exact Nat.max_le.mpr ⟨j2, this⟩
    refine ⟨?_, bW, bN⟩
    have hm : max (zmW F k n dw w) (zmN F k n) ≤ 5 := Nat.max_le.mpr ⟨j2, by omega⟩
    -- the four neighbours
    have t4 : (if (F n) < (5 : Int32) then y else (g_X1_tell_x_6 (g_X1_tell_x_6 (g_X1_tell_x_6 (g_X1_tell_x_6 y (((nI n) - (nI n) / (8 : Int32) * (8 : Int32)) - (1 : Int32)) ((nI n) / (8 : Int32)) (1 : Int32)) (((nI n) - (nI n) / (8 : Int32) * (8 : Int32)) + (1 : Int32)) ((nI n) / (8 : Int32)) (1 : Int32)) ((nI n) - (nI n) / (8 : Int32) * (8 : Int32)) (((nI n) / (8 : Int32)) - (1 : Int32)) (1 : Int32)) ((nI n) - (nI n) / (8 : Int32) * (8 : Int32)) (((nI n) / (8 : Int32)) + (1 : Int32)) (1 : Int32))) k = nI (max (zmW F k n dw w) (zmN F k (n + 1))) := by
      rw [sN]
      by_cases c : (F n) < (5 : Int32)
      · rw [if_pos c, if_neg (Int32.not_le.mpr c), Nat.max_zero]; exact j1
      · rw [if_neg c, if_pos (Int32.not_lt.mp c), z4tells (F := F) hn hk j1 hm]
        exact congrArg nI (by ac_rfl)
    rw [sW]
    by_cases c3 : (F n) < (3 : Int32)
    · rw [if_pos c3, if_neg (Int32.not_le.mpr c3)]
      have e : (if 0 < w then 0 else 0) = 0 := by split <;> rfl
      rw [e, Nat.max_zero]
      exact t4
    · rw [if_neg c3, if_pos (Int32.not_lt.mp c3)]
      by_cases cw : nI w ≤ (0 : Int32)
      · have z : w = 0 := by
          rcases Nat.eq_zero_or_pos w with z | z
          · exact z
          · exact absurd cw (nI_nle z (by omega))
        rw [if_pos cw, if_neg (by omega : ¬ 0 < w), Nat.max_zero]
        exact t4
      · have z : 0 < w := by
          rcases Nat.eq_zero_or_pos w with z | z
          · rw [z] at cw; exact absurd Int32.le_rfl cw
          · exact z
        rw [if_neg cw, if_pos z]
        have h := ztell (d := dw) (σ := w + 1) (s := nI w + (1 : Int32)) (x := ((nI n) - (nI n) / (8 : Int32) * (8 : Int32)) + ze dw) (y := (nI n) / (8 : Int32) + zf dw) hn hd rfl rfl (nI_1 w) (by omega) hk t4 (Nat.max_le.mpr ⟨j2, by omega⟩)
        rw [h]
        exact congrArg nI (by ac_rfl)
end
section
/-! the reference's spread -/
def zNt (F : Nat → Int32) (i : Nat) : Int32 := (if (5 : Int32) ≤ (r_X8_fireAt F (((nI i) - (nI i) / (8 : Int32) * (8 : Int32)) - (1 : Int32)) ((nI i) / (8 : Int32))) then (1 : Int32) else (if (5 : Int32) ≤ (r_X8_fireAt F (((nI i) - (nI i) / (8 : Int32) * (8 : Int32)) + (1 : Int32)) ((nI i) / (8 : Int32))) then (1 : Int32) else (if (5 : Int32) ≤ (r_X8_fireAt F ((nI i) - (nI i) / (8 : Int32) * (8 : Int32)) (((nI i) / (8 : Int32)) - (1 : Int32))) then (1 : Int32) else (if (r_X8_fireAt F ((nI i) - (nI i) / (8 : Int32) * (8 : Int32)) (((nI i) / (8 : Int32)) + (1 : Int32))) < (5 : Int32) then (0 : Int32) else (1 : Int32)))))
def zTold (F : Nat → Int32) (wx wy ws : Int32) (i : Nat) : Int32 := (if wx = (0 : Int32) then (if wy = (0 : Int32) then (if (5 : Int32) ≤ (r_X8_fireAt F (((nI i) - (nI i) / (8 : Int32) * (8 : Int32)) - (1 : Int32)) ((nI i) / (8 : Int32))) then (1 : Int32) else (if (5 : Int32) ≤ (r_X8_fireAt F (((nI i) - (nI i) / (8 : Int32) * (8 : Int32)) + (1 : Int32)) ((nI i) / (8 : Int32))) then (1 : Int32) else (if (5 : Int32) ≤ (r_X8_fireAt F ((nI i) - (nI i) / (8 : Int32) * (8 : Int32)) (((nI i) / (8 : Int32)) - (1 : Int32))) then (1 : Int32) else (if (r_X8_fireAt F ((nI i) - (nI i) / (8 : Int32) * (8 : Int32)) (((nI i) / (8 : Int32)) + (1 : Int32))) < (5 : Int32) then (0 : Int32) else (1 : Int32))))) else (if ws ≤ (0 : Int32) then (if (5 : Int32) ≤ (r_X8_fireAt F (((nI i) - (nI i) / (8 : Int32) * (8 : Int32)) - (1 : Int32)) ((nI i) / (8 : Int32))) then (1 : Int32) else (if (5 : Int32) ≤ (r_X8_fireAt F (((nI i) - (nI i) / (8 : Int32) * (8 : Int32)) + (1 : Int32)) ((nI i) / (8 : Int32))) then (1 : Int32) else (if (5 : Int32) ≤ (r_X8_fireAt F ((nI i) - (nI i) / (8 : Int32) * (8 : Int32)) (((nI i) / (8 : Int32)) - (1 : Int32))) then (1 : Int32) else (if (r_X8_fireAt F ((nI i) - (nI i) / (8 : Int32) * (8 : Int32)) (((nI i) / (8 : Int32)) + (1 : Int32))) < (5 : Int32) then (0 : Int32) else (1 : Int32))))) else (if (r_X8_fireAt F (((nI i) - (nI i) / (8 : Int32) * (8 : Int32)) - wx) (((nI i) / (8 : Int32)) - wy)) < (3 : Int32) then (if (5 : Int32) ≤ (r_X8_fireAt F (((nI i) - (nI i) / (8 : Int32) * (8 : Int32)) - (1 : Int32)) ((nI i) / (8 : Int32))) then (1 : Int32) else (if (5 : Int32) ≤ (r_X8_fireAt F (((nI i) - (nI i) / (8 : Int32) * (8 : Int32)) + (1 : Int32)) ((nI i) / (8 : Int32))) then (1 : Int32) else (if (5 : Int32) ≤ (r_X8_fireAt F ((nI i) - (nI i) / (8 : Int32) * (8 : Int32)) (((nI i) / (8 : Int32)) - (1 : Int32))) then (1 : Int32) else (if (r_X8_fireAt F ((nI i) - (nI i) / (8 : Int32) * (8 : Int32)) (((nI i) / (8 : Int32)) + (1 : Int32))) < (5 : Int32) then (0 : Int32) else (1 : Int32))))) else ((1 : Int32) + ws)))) else (if ws ≤ (0 : Int32) then (if (5 : Int32) ≤ (r_X8_fireAt F (((nI i) - (nI i) / (8 : Int32) * (8 : Int32)) - (1 : Int32)) ((nI i) / (8 : Int32))) then (1 : Int32) else (if (5 : Int32) ≤ (r_X8_fireAt F (((nI i) - (nI i) / (8 : Int32) * (8 : Int32)) + (1 : Int32)) ((nI i) / (8 : Int32))) then (1 : Int32) else (if (5 : Int32) ≤ (r_X8_fireAt F ((nI i) - (nI i) / (8 : Int32) * (8 : Int32)) (((nI i) / (8 : Int32)) - (1 : Int32))) then (1 : Int32) else (if (r_X8_fireAt F ((nI i) - (nI i) / (8 : Int32) * (8 : Int32)) (((nI i) / (8 : Int32)) + (1 : Int32))) < (5 : Int32) then (0 : Int32) else (1 : Int32))))) else (if (r_X8_fireAt F (((nI i) - (nI i) / (8 : Int32) * (8 : Int32)) - wx) (((nI i) / (8 : Int32)) - wy)) < (3 : Int32) then (if (5 : Int32) ≤ (r_X8_fireAt F (((nI i) - (nI i) / (8 : Int32) * (8 : Int32)) - (1 : Int32)) ((nI i) / (8 : Int32))) then (1 : Int32) else (if (5 : Int32) ≤ (r_X8_fireAt F (((nI i) - (nI i) / (8 : Int32) * (8 : Int32)) + (1 : Int32)) ((nI i) / (8 : Int32))) then (1 : Int32) else (if (5 : Int32) ≤ (r_X8_fireAt F ((nI i) - (nI i) / (8 : Int32) * (8 : Int32)) (((nI i) / (8 : Int32)) - (1 : Int32))) then (1 : Int32) else (if (r_X8_fireAt F ((nI i) - (nI i) / (8 : Int32) * (8 : Int32)) (((nI i) / (8 : Int32)) + (1 : Int32))) < (5 : Int32) then (0 : Int32) else (1 : Int32))))) else ((1 : Int32) + ws))))
theorem zTold_d (F : Nat → Int32) (wx wy ws : Int32) (i : Nat) : zTold F wx wy ws i = (if wx = (0 : Int32) then (if wy = (0 : Int32) then zNt F i else (if ws ≤ (0 : Int32) then zNt F i else (if (r_X8_fireAt F (((nI i) - (nI i) / (8 : Int32) * (8 : Int32)) - wx) (((nI i) / (8 : Int32)) - wy)) < (3 : Int32) then zNt F i else ((1 : Int32) + ws)))) else (if ws ≤ (0 : Int32) then zNt F i else (if (r_X8_fireAt F (((nI i) - (nI i) / (8 : Int32) * (8 : Int32)) - wx) (((nI i) / (8 : Int32)) - wy)) < (3 : Int32) then zNt F i else ((1 : Int32) + ws)))) := rfl
theorem zst8 (f0 F ln : Nat → Int32) (wx wy ws : Int32) (i : Nat) (y : Nat → Int32) : st_X8_spread_13 f0 F ln wx wy ws i y = (if (f0 i) ≤ (0 : Int32) then y else (if (ln i) = (0 : Int32) then (upd y i (if (y i) < zTold F wx wy ws i then zTold F wx wy ws i else (y i))) else y)) := rfl
theorem zfa {F : Nat → Int32} {k d : Nat} {x y c : Int32} (hk : k < 48) (hd : d < 9) (hx : x = zgX k + ze d) (hy : y = zgY k + zf d) (hc : ¬ c ≤ (0 : Int32)) : c ≤ r_X8_fireAt F x y ↔ (zt k d < 48 ∧ c ≤ F (zt k d)) := by
  have g := zt_geo d hd k hk
  subst hx hy
  unfold r_X8_fireAt
  rw [← zcellE]
  by_cases q : r_X7_isCell (zgX k + ze d) (zgY k + zf d) = (0 : Int32)
  · rw [if_pos q] at g ⊢
    exact ⟨fun z => absurd z hc, fun z => absurd z.1 (by omega)⟩
  · rw [if_neg q] at g ⊢
    rw [g]
    have h99 : zt k d < 48 := by
      rcases zt_lt hk hd with z | z
      · exact z
      · rw [z] at g
        have hin := zmcell_ix (a := zgX k + ze d) (b := zgY k + zf d) (by rw [← zcellE]; exact q)
        obtain ⟨j, hj, e⟩ := vp_in_of hin (by decide)
        rw [e, nI_clamp (by omega)] at g
        omega
    exact ⟨fun z => ⟨h99, z⟩, fun z => z.2⟩
theorem ze_neg : ∀ d, d < 9 → -(ze d) = ze (8 - d) ∧ -(zf d) = zf (8 - d) := by decide
theorem ze_0 : ∀ d, d < 9 → ze d = (0 : Int32) → zf d = (0 : Int32) → d = 4 := by decide
theorem zNt_eq {F F' : Nat → Int32} {k : Nat} (hk : k < 48) (hF : zEq 48 F F') : zNt F' k = nI (zmN F k 48) := by
  have p1 := zfa (F := F') (x := ((nI k) - (nI k) / (8 : Int32) * (8 : Int32)) - (1 : Int32)) (y := (nI k) / (8 : Int32)) (c := (5 : Int32)) hk (by decide : 3 < 9) zsb1 (Int32.add_zero _).symm (by decide)
  have p2 := zfa (F := F') (x := ((nI k) - (nI k) / (8 : Int32) * (8 : Int32)) + (1 : Int32)) (y := (nI k) / (8 : Int32)) (c := (5 : Int32)) hk (by decide : 5 < 9) rfl (Int32.add_zero _).symm (by decide)
  have p3 := zfa (F := F') (x := (nI k) - (nI k) / (8 : Int32) * (8 : Int32)) (y := ((nI k) / (8 : Int32)) - (1 : Int32)) (c := (5 : Int32)) hk (by decide : 1 < 9) (Int32.add_zero _).symm zsb1 (by decide)
  have p4 := zfa (F := F') (x := (nI k) - (nI k) / (8 : Int32) * (8 : Int32)) (y := ((nI k) / (8 : Int32)) + (1 : Int32)) (c := (5 : Int32)) hk (by decide : 7 < 9) (Int32.add_zero _).symm rfl (by decide)
  have ex : ∀ d, (zt k d < 48 ∧ (5 : Int32) ≤ F' (zt k d)) ↔ (zt k d < 48 ∧ (5 : Int32) ≤ F (zt k d)) := fun d => ⟨fun z => ⟨z.1, by rw [hF _ z.1]; exact z.2⟩, fun z => ⟨z.1, by rw [← hF _ z.1]; exact z.2⟩⟩
  rw [ex] at p1 p2 p3 p4
  unfold zNt zmN znb
  by_cases c1 : zt k 3 < 48 ∧ (5 : Int32) ≤ F (zt k 3)
  · rw [if_pos (p1.mpr c1), if_pos c1]
    (repeat' split) <;> rfl
  · rw [if_neg (fun z => c1 (p1.mp z)), if_neg c1]
    by_cases c2 : zt k 5 < 48 ∧ (5 : Int32) ≤ F (zt k 5)
    · rw [if_pos (p2.mpr c2), if_pos c2]
      (repeat' split) <;> rfl
    · rw [if_neg (fun z => c2 (p2.mp z)), if_neg c2]
      by_cases c3 : zt k 1 < 48 ∧ (5 : Int32) ≤ F (zt k 1)
      · rw [if_pos (p3.mpr c3), if_pos c3]
        (repeat' split) <;> rfl
      · rw [if_neg (fun z => c3 (p3.mp z)), if_neg c3]
        by_cases c4 : zt k 7 < 48 ∧ (5 : Int32) ≤ F (zt k 7)
        · rw [if_neg (Int32.not_lt.mpr (p4.mpr c4)), if_pos c4]; rfl
        · rw [if_pos (Int32.not_le.mp (fun z => c4 (p4.mp z))), if_neg c4]; rfl
theorem zTold_eq {F F' : Nat → Int32} {k dw w : Nat} (hk : k < 48) (hF : zEq 48 F F') (hd : dw < 9) (hw : w ≤ 4) (h4 : 0 < w → dw ≠ 4) : zTold F' (ze dw) (zf dw) (nI w) k = nI (max (zmW F k 48 dw w) (zmN F k 48)) := by
  have bN : zmN F k 48 ≤ 1 := by unfold zmN znb; (repeat' split) <;> decide
  have ng := ze_neg dw hd
  have pw := zfa (F := F') (x := ((nI k) - (nI k) / (8 : Int32) * (8 : Int32)) - ze dw) (y := ((nI k) / (8 : Int32)) - zf dw) (c := (3 : Int32)) hk (by omega : 8 - dw < 9) (by rw [Int32.sub_eq_add_neg, ng.1]; rfl) (by rw [Int32.sub_eq_add_neg, ng.2]; rfl) (by decide)
  have ex : (zt k (8 - dw) < 48 ∧ (3 : Int32) ≤ F' (zt k (8 - dw))) ↔ (zt k (8 - dw) < 48 ∧ (3 : Int32) ≤ F (zt k (8 - dw))) := ⟨fun z => ⟨z.1, by rw [hF _ z.1]; exact z.2⟩, fun z => ⟨z.1, by rw [← hF _ z.1]; exact z.2⟩⟩
  rw [ex] at pw
  rw [zTold_d, zNt_eq hk hF]
  have core : (if nI w ≤ (0 : Int32) then nI (zmN F k 48) else (if (r_X8_fireAt F' (((nI k) - (nI k) / (8 : Int32) * (8 : Int32)) - ze dw) (((nI k) / (8 : Int32)) - zf dw)) < (3 : Int32) then nI (zmN F k 48) else ((1 : Int32) + nI w))) = nI (max (zmW F k 48 dw w) (zmN F k 48)) := by
    unfold zmW
    rcases Nat.eq_zero_or_pos w with z | z
    · rw [z, if_pos (by decide), if_neg (Nat.lt_irrefl 0), Nat.zero_max]
    · rw [if_neg (nI_nle z (by omega)), if_pos z]
      unfold znb
      by_cases q : zt k (8 - dw) < 48 ∧ (3 : Int32) ≤ F (zt k (8 - dw))
      · rw [if_neg (Int32.not_lt.mpr (pw.mpr q)), if_pos q, Nat.max_eq_left (by omega), Int32.add_comm, nI_1]
      · rw [if_pos (Int32.not_le.mp (fun y => q (pw.mp y))), if_neg q, Nat.zero_max]
  by_cases c1 : ze dw = (0 : Int32)
  · rw [if_pos c1]
    by_cases c2 : zf dw = (0 : Int32)
    · rw [if_pos c2]
      have z : ¬ 0 < w := fun z => h4 z (ze_0 dw hd c1 c2)
      unfold zmW
      rw [if_neg z, Nat.zero_max]
    · rw [if_neg c2]; exact core
  · rw [if_neg c1]; exact core
section ZSP
variable {fu fu' fi fi' ln ln' : Nat → Int32} {dw w : Nat}
theorem zspread (hu : zEq 48 fu fu') (hi : zEq 48 fi fi') (hl : zEq 48 ln ln') (bi : zBd 48 9 fi) (hd : dw < 9) (hw : w ≤ 4) (h4 : 0 < w → dw ≠ 4) : zEq 48 (g_X1_spread_x_1 fu fi ln (ze dw) (zf dw) (nI w)) (g_X8_spread_ml_3 fu' fi' ln' (ze dw) (zf dw) (nI w)) ∧ zBd 48 9 (g_X1_spread_x_1 fu fi ln (ze dw) (zf dw) (nI w)) := by
  unfold g_X1_spread_x_1 g_X8_spread_ml_3
  have hp := fun k hk => zgpush (F := fi) (dw := dw) (w := w) hd hw 48 (Nat.le_refl _) k hk
  generalize lp_X1_spread_10 fi (ze dw) (zf dw) (nI w) (fun _ => (0 : Int32)) 48 = br at hp ⊢
  have L : ∀ i, i ≤ 48 → zEq 48 (lp_X1_spread_119 fu ln br fi i) (lp_X8_spread_13 fu' fi' ln' (ze dw) (zf dw) (nI w) fi' i) ∧ zBd 48 9 (lp_X1_spread_119 fu ln br fi i) := by
    intro i
    induction i with
    | zero => intro _; rw [lp_X1_spread_119_0, lp_X8_spread_13_0]; exact ⟨hi, bi⟩
    | succ i ih =>
      intro hk
      have hk : i < 48 := hk
      obtain ⟨j1, j2⟩ := ih (by omega)
      rw [lp_X1_spread_119_s, lp_X8_spread_13_s, zst8]
      unfold st_X1_spread_119
      obtain ⟨p1, p2, p3⟩ := hp i hk
      rw [zTold_eq hk hi hd hw h4, p1, ← hu i hk, ← hl i hk]
      have e := j1 i hk
      have hm : max (zmW fi i 48 dw w) (zmN fi i 48) ≤ 9 := Nat.max_le.mpr ⟨by omega, by omega⟩
      generalize max (zmW fi i 48 dw w) (zmN fi i 48) = T at hm ⊢
      by_cases c1 : (fu i) ≤ (0 : Int32)
      · rw [if_pos c1, if_pos c1]; exact ⟨j1, j2⟩
      · rw [if_neg c1, if_neg c1]
        by_cases c2 : ln i = (0 : Int32)
        · rw [if_pos c2, if_pos c2, ← e]
          by_cases c3 : nI T ≤ lp_X1_spread_119 fu ln br fi i i
          · rw [if_pos c3, if_neg (Int32.not_lt.mpr c3)]
            refine ⟨fun k hk => ?_, j2⟩
            by_cases y : k = i
            · rw [y, upd_i]
            · rw [upd_o y]; exact j1 k hk
          · rw [if_neg c3, if_pos (Int32.not_le.mp c3)]
            exact ⟨zEq_u j1 rfl, zBd_u j2 hm rfl⟩
        · rw [if_neg c2, if_neg c2]; exact ⟨j1, j2⟩
  exact L 48 (Nat.le_refl _)
end ZSP
/-! one hour of the model -/
/-- the cells and the crews, alike, and within their bounds -/
def zLnd (fu fi sm ln cl cp fu' fi' sm' ln' cl' cp' : Nat → Int32) : Prop := zEq 48 fu fu' ∧ zEq 48 fi fi' ∧ zEq 48 sm sm' ∧ zEq 48 ln ln' ∧ zEq 3 cl cl' ∧ zEq 3 cp cp' ∧ zBd 48 99 fu ∧ zBd 48 9 fi ∧ zBd 3 6 cl
theorem zhour {fu fi sm ln cl cp fu' fi' sm' ln' cl' cp' : Nat → Int32} {dw w ra : Nat} {mk mk' bl bl' st st' : Int64} (h : zLnd fu fi sm ln cl cp fu' fi' sm' ln' cl' cp') (hd : dw < 9) (hw : w ≤ 4) (h4 : 0 < w → dw ≠ 4) (hr : ra ≤ 9) :
    zLnd (g_X1_runModel_x_0 fu fi sm ln cl cp (nI ra) mk) (g_X1_runModel_x_1 fu fi sm ln cl cp (ze dw) (zf dw) (nI w) (nI ra) mk) (g_X1_runModel_x_2 fu fi sm ln cl cp (ze dw) (zf dw) (nI w) (nI ra) mk bl st w) (g_X1_runModel_x_3 fi ln cl cp) (g_X1_runModel_x_4 fi ln cl cp) cp
      (g_X8_hour_ml_0 fu' cl' cp' fi' sm' ln' (nI ra) mk') (g_X8_hour_ml_3 fu' cl' cp' fi' sm' ln' (ze dw) (zf dw) (nI w) (nI ra) mk') (g_X8_hour_ml_4 fu' cl' cp' fi' sm' ln' (ze dw) (zf dw) (nI ra) mk' bl' st' w) (g_X8_hour_ml_5 cl' cp' fi' ln') (g_X8_hour_ml_1 cl' cp' fi' ln') cp' ∧
    (mk = mk' → g_X1_runModel_x_11 fu fi sm ln cl cp (nI ra) mk = g_X8_hour_ml_10 fu' cl' cp' fi' sm' ln' (nI ra) mk') ∧
    (bl = bl' → g_X1_runModel_x_12 fu fi sm ln cl cp (ze dw) (zf dw) (nI w) (nI ra) mk bl w = g_X8_hour_ml_11 fu' cl' cp' fi' sm' ln' (ze dw) (zf dw) (nI ra) mk' bl' w) ∧
    (st = st' → g_X1_runModel_x_13 fu fi sm ln cl cp (ze dw) (zf dw) (nI w) (nI ra) mk bl st w = g_X8_hour_ml_12 fu' cl' cp' fi' sm' ln' (ze dw) (zf dw) (nI ra) mk' bl' st' w) := by
  obtain ⟨h1, h2, h3, h5, h6, h7, b1, b2, b3⟩ := h
  obtain ⟨d1, d2, d3, d4⟩ := zdig h2 h5 h6 h7 b3 3 (Nat.le_refl _)
  have d5 := zdigb (p := cp) (c := cl) (ln := ln) b2 3
  obtain ⟨u1, u2, u3, u4, u5, u6⟩ := zburn (mk := mk) (mk' := mk') h1 d1 h3 b1 d5 hr 48 (Nat.le_refl _)
  obtain ⟨s1, s2⟩ := zspread u1 u2 d2 u6 hd hw h4
  have c1 := zcarN (wx := ze dw) (wy := zf dw) (bl := bl) (bl' := bl') (br := g_X1_spread_x_6 (g_X1_burn_x_1 fu (g_X1_dig_x_1 fi ln cl cp) sm (nI ra) mk) (ze dw) (zf dw) (nI w)) u3 w
  have e1 := zsettle (ra := nI ra) (se := st) (se' := st') c1.1 48 (Nat.le_refl _)
  exact ⟨⟨u1, s1, e1.1, d2, d3, h7, u5, s2, d4⟩, u4, c1.2, e1.2⟩
end
section
/-! the sensors, class and reference alike -/
theorem zuu {f : Nat → Int32} {i : Nat} {x y : Int32} : upd (upd f i x) i y = upd f i y := by
  funext k
  by_cases e : k = i
  · rw [e, upd_i, upd_i]
  · rw [upd_o e, upd_o e, upd_o e]
/-- does a reading q agree with a mean a (the reference's words) -/
def zAg (q a : Int32) : Int32 := (if (if (20 : Int32) < (a / (2 : Int32)) then (a / (2 : Int32)) else (20 : Int32)) < (if 0 ≤ (q - a) then (q - a) else 0 - (q - a)) then (0 : Int32) else (1 : Int32))
def zR1 (A out row : Int32) : Int32 := if A = out then row + (1 : Int32) else (0 : Int32)
def zLim (out : Int32) : Int32 := if out = (0 : Int32) then (2 : Int32) else (3 : Int32)
def zTq (A t : Int32) : Int32 := if A = (0 : Int32) then (if (0 : Int32) < (t - (20 : Int32)) then (t - (20 : Int32)) else (0 : Int32)) else (if (t + (10 : Int32)) < (100 : Int32) then (t + (10 : Int32)) else (100 : Int32))
theorem je5 {va row out : Nat → Int32} {i : Nat} {a : Int32} : g_X12_judge__se_5 va row out i a = upd row i (if zLim (out i) ≤ zR1 (zAg (va i) a) (out i) (row i) then (0 : Int32) else zR1 (zAg (va i) a) (out i) (row i)) := by
  show (if zLim (out i) ≤ (upd row i (zR1 (zAg (va i) a) (out i) (row i))) i then upd (upd row i (zR1 (zAg (va i) a) (out i) (row i))) i (0 : Int32) else upd row i (zR1 (zAg (va i) a) (out i) (row i))) = _
  rw [upd_i, zuu]
  by_cases c : zLim (out i) ≤ zR1 (zAg (va i) a) (out i) (row i)
  · rw [if_pos c, if_pos c]
  · rw [if_neg c, if_neg c]
theorem je6 {va row out : Nat → Int32} {i : Nat} {a : Int32} : g_X12_judge__se_6 va row out i a = upd out i (if zLim (out i) ≤ zR1 (zAg (va i) a) (out i) (row i) then (if out i = (0 : Int32) then (1 : Int32) else (0 : Int32)) else out i) := by
  show (if zLim (out i) ≤ (upd row i (zR1 (zAg (va i) a) (out i) (row i))) i then upd out i (if out i = (0 : Int32) then (1 : Int32) else (0 : Int32)) else out) = _
  rw [upd_i]
  by_cases c : zLim (out i) ≤ zR1 (zAg (va i) a) (out i) (row i)
  · rw [if_pos c, if_pos c]
  · rw [if_neg c, if_neg c]
    funext k
    by_cases e : k = i
    · rw [e, upd_i]
    · rw [upd_o e]
theorem je3 {tr va row out : Nat → Int32} {i : Nat} {a : Int32} : g_X12_judge__se_3 tr va row out i a = upd tr i (if zLim (out i) ≤ zR1 (zAg (va i) a) (out i) (row i) then (if (if out i = (0 : Int32) then (1 : Int32) else (0 : Int32)) = (0 : Int32) then (30 : Int32) else zTq (zAg (va i) a) (tr i)) else zTq (zAg (va i) a) (tr i)) := by
  show (if zLim (out i) ≤ (upd row i (zR1 (zAg (va i) a) (out i) (row i))) i then upd (upd tr i (zTq (zAg (va i) a) (tr i))) i (if (upd out i (if out i = (0 : Int32) then (1 : Int32) else (0 : Int32))) i = (0 : Int32) then (30 : Int32) else (upd tr i (zTq (zAg (va i) a) (tr i))) i) else upd tr i (zTq (zAg (va i) a) (tr i))) = _
  rw [upd_i, zuu, upd_i, upd_i]
  by_cases c : zLim (out i) ≤ zR1 (zAg (va i) a) (out i) (row i)
  · rw [if_pos c, if_pos c]
  · rw [if_neg c, if_neg c]
theorem je7 {va wd : Nat → Int32} {i : Nat} {a : Int32} : g_X12_judge__se_7 va wd i a = upd wd i (if zAg (va i) a = (0 : Int32) then (1 : Int32) else (0 : Int32)) := rfl
def zInc (t : Int32) : Int32 := if (t + (10 : Int32)) ≤ (100 : Int32) then (t + (10 : Int32)) else (100 : Int32)
def zDec (t : Int32) : Int32 := if (0 : Int32) ≤ (t - (20 : Int32)) then (t - (20 : Int32)) else (0 : Int32)
section ZBE
variable {tr lo db ag : Nat → Int32} {i : Nat}
theorem be0 (hi : i < 10) : g_X4_believe_se_0 tr lo ag (nI i) = upd tr i (if lo i = (0 : Int32) then zInc (tr i) else (if ag i + (1 : Int32) < (3 : Int32) then zInc (tr i) else (30 : Int32))) := by
  unfold g_X4_believe_se_0
  rw [nI_clamp (by omega), upd_i, zuu]
  show (if lo i = (0 : Int32) then upd tr i (zInc (tr i)) else (if ag i + (1 : Int32) < (3 : Int32) then upd tr i (zInc (tr i)) else upd tr i (30 : Int32))) = _
  (repeat' split) <;> rfl
theorem be4 (hi : i < 10) : g_X4_believe_se_4 lo ag (nI i) = upd lo i (if lo i = (0 : Int32) then lo i else (if ag i + (1 : Int32) < (3 : Int32) then lo i else (0 : Int32))) := by
  unfold g_X4_believe_se_4
  rw [nI_clamp (by omega), upd_i]
  have q : upd lo i (lo i) = lo := by
    funext k
    by_cases e : k = i
    · rw [e, upd_i]
    · rw [upd_o e]
  by_cases c : lo i = (0 : Int32)
  · rw [if_pos c, if_pos c, q]
  · rw [if_neg c, if_neg c]
    by_cases d : ag i + (1 : Int32) < (3 : Int32)
    · rw [if_pos d, if_pos d, q]
    · rw [if_neg d, if_neg d]
theorem be5 (hi : i < 10) : g_X4_believe_se_5 db (nI i) = upd db i (0 : Int32) := by unfold g_X4_believe_se_5; rw [nI_clamp (by omega)]
theorem be6 (hi : i < 10) : g_X4_believe_se_6 ag (nI i) = upd ag i (ag i + (1 : Int32)) := by unfold g_X4_believe_se_6; rw [nI_clamp (by omega)]
theorem do0 (hi : i < 10) : g_X4_doubt_se_0 tr (nI i) = upd tr i (zDec (tr i)) := by unfold g_X4_doubt_se_0; rw [nI_clamp (by omega)]; rfl
theorem do4 (hi : i < 10) : g_X4_doubt_se_4 lo db (nI i) = upd lo i (if db i + (1 : Int32) < (2 : Int32) then lo i else (1 : Int32)) := by
  unfold g_X4_doubt_se_4
  rw [nI_clamp (by omega), upd_i]
  by_cases d : db i + (1 : Int32) < (2 : Int32)
  · rw [if_pos d, if_pos d]
    funext k
    by_cases e : k = i
    · rw [e, upd_i]
    · rw [upd_o e]
  · rw [if_neg d, if_neg d]
theorem do5 (hi : i < 10) : g_X4_doubt_se_5 db (nI i) = upd db i (db i + (1 : Int32)) := by unfold g_X4_doubt_se_5; rw [nI_clamp (by omega)]
theorem do6 (hi : i < 10) : g_X4_doubt_se_6 ag (nI i) = upd ag i (0 : Int32) := by unfold g_X4_doubt_se_6; rw [nI_clamp (by omega)]
end ZBE
/-- trust and state of one sensor: in the class, in the reference -/
def zStv (t lo db ag t' row out wd : Int32) : Prop := (∃ m, m ≤ 100 ∧ t = nI m ∧ t' = nI m) ∧ ((lo = (0 : Int32) ∧ out = (0 : Int32) ∧ ∃ d, d ≤ 1 ∧ db = nI d ∧ row = nI d ∧ wd = nI d) ∨ (lo = (1 : Int32) ∧ out = (1 : Int32) ∧ ∃ a, a ≤ 2 ∧ ag = nI a ∧ row = nI a))
theorem zinc : ∀ m, m < 101 → zInc (nI m) = nI (min (m + 10) 100) ∧ zTq (1 : Int32) (nI m) = nI (min (m + 10) 100) := by decide +kernel
theorem zdec : ∀ m, m < 101 → zDec (nI m) = nI (m - 20) ∧ zTq (0 : Int32) (nI m) = nI (m - 20) := by decide +kernel
theorem zagree {t lo db ag t' row out wd : Int32} (h : zStv t lo db ag t' row out wd) : zStv (if lo = (0 : Int32) then zInc t else (if ag + (1 : Int32) < (3 : Int32) then zInc t else (30 : Int32))) (if lo = (0 : Int32) then lo else (if ag + (1 : Int32) < (3 : Int32) then lo else (0 : Int32))) (0 : Int32) (ag + (1 : Int32)) (if zLim out ≤ zR1 (1 : Int32) out row then (if (if out = (0 : Int32) then (1 : Int32) else (0 : Int32)) = (0 : Int32) then (30 : Int32) else zTq (1 : Int32) t') else zTq (1 : Int32) t') (if zLim out ≤ zR1 (1 : Int32) out row then (0 : Int32) else zR1 (1 : Int32) out row) (if zLim out ≤ zR1 (1 : Int32) out row then (if out = (0 : Int32) then (1 : Int32) else (0 : Int32)) else out) (if (1 : Int32) = (0 : Int32) then (1 : Int32) else (0 : Int32)) := by
  obtain ⟨⟨m, hm, rfl, rfl⟩, ⟨rfl, rfl, d, hd, rfl, rfl, rfl⟩ | ⟨rfl, rfl, a, ha, rfl, rfl⟩⟩ := h
  · have q : ∀ x y : Int32, (if zLim (0 : Int32) ≤ zR1 (1 : Int32) (0 : Int32) (nI d) then x else y) = y := fun x y => by
      unfold zR1
      rw [if_neg (by decide : ¬ (1 : Int32) = (0 : Int32)), if_neg (by decide)]
    rw [q, q, q]
    exact ⟨⟨_, by omega, (zinc m (by omega)).1, (zinc m (by omega)).2⟩, Or.inl ⟨rfl, rfl, 0, by decide, rfl, rfl, rfl⟩⟩
  · rcases (by omega : a = 0 ∨ a = 1 ∨ a = 2) with rfl | rfl | rfl
    · exact ⟨⟨_, by omega, (zinc m (by omega)).1, (zinc m (by omega)).2⟩, Or.inr ⟨rfl, rfl, 1, by decide, rfl, rfl⟩⟩
    · exact ⟨⟨_, by omega, (zinc m (by omega)).1, (zinc m (by omega)).2⟩, Or.inr ⟨rfl, rfl, 2, by decide, rfl, rfl⟩⟩
    · exact ⟨⟨30, by decide, rfl, rfl⟩, Or.inl ⟨rfl, rfl, 0, by decide, rfl, rfl, rfl⟩⟩
theorem zdoubt {t lo db ag t' row out wd : Int32} (h : zStv t lo db ag t' row out wd) : zStv (zDec t) (if db + (1 : Int32) < (2 : Int32) then lo else (1 : Int32)) (db + (1 : Int32)) (0 : Int32) (if zLim out ≤ zR1 (0 : Int32) out row then (if (if out = (0 : Int32) then (1 : Int32) else (0 : Int32)) = (0 : Int32) then (30 : Int32) else zTq (0 : Int32) t') else zTq (0 : Int32) t') (if zLim out ≤ zR1 (0 : Int32) out row then (0 : Int32) else zR1 (0 : Int32) out row) (if zLim out ≤ zR1 (0 : Int32) out row then (if out = (0 : Int32) then (1 : Int32) else (0 : Int32)) else out) (if (0 : Int32) = (0 : Int32) then (1 : Int32) else (0 : Int32)) := by
  obtain ⟨⟨m, hm, rfl, rfl⟩, ⟨rfl, rfl, d, hd, rfl, rfl, rfl⟩ | ⟨rfl, rfl, a, ha, rfl, rfl⟩⟩ := h
  · rcases (by omega : d = 0 ∨ d = 1) with rfl | rfl
    · exact ⟨⟨_, by omega, (zdec m (by omega)).1, (zdec m (by omega)).2⟩, Or.inl ⟨rfl, rfl, 1, by decide, rfl, rfl, rfl⟩⟩
    · exact ⟨⟨m - 20, by omega, (zdec m (by omega)).1, (zdec m (by omega)).2⟩, Or.inr ⟨rfl, rfl, 0, by decide, rfl, rfl⟩⟩
  · have q : ∀ x y : Int32, (if zLim (1 : Int32) ≤ zR1 (0 : Int32) (1 : Int32) (nI a) then x else y) = y := fun x y => by
      unfold zR1
      rw [if_neg (by decide : ¬ (0 : Int32) = (1 : Int32)), if_neg (by decide)]
    have q2 : (if db + (1 : Int32) < (2 : Int32) then (1 : Int32) else (1 : Int32)) = (1 : Int32) := by split <;> rfl
    rw [q, q, q, q2]
    exact ⟨⟨_, by omega, (zdec m (by omega)).1, (zdec m (by omega)).2⟩, Or.inr ⟨rfl, rfl, 0, by decide, rfl, rfl⟩⟩
/-! what the neighbours tell -/
def zSv (p x y : Int32) : Prop := ∃ P, P < 48 ∧ p = nI P ∧ x = nI (P % 8) ∧ y = nI (P / 8)
def zSr (hd va va' : Int32) : Prop := (hd = (0 : Int32) ∧ va' = (-1 : Int32)) ∨ (∃ q, q ≤ 9999 ∧ hd = (1 : Int32) ∧ va = nI q ∧ va' = nI q)
theorem zNear : ∀ P, P < 48 → ∀ Q, Q < 48 → r_X4_isNear (nI P) (nI Q) = (if (2 : Int32) < (if 0 ≤ (nI (P % 8) - nI (Q % 8)) then (nI (P % 8) - nI (Q % 8)) else 0 - (nI (P % 8) - nI (Q % 8))) then (0 : Int32) else (if (if 0 ≤ (nI (P / 8) - nI (Q / 8)) then (nI (P / 8) - nI (Q / 8)) else 0 - (nI (P / 8) - nI (Q / 8))) ≤ (2 : Int32) then (1 : Int32) else (0 : Int32))) := by decide +kernel
section ZME
variable {pl hd va lo x y va' out : Nat → Int32} {n i : Nat}
theorem zhasr {k : Nat} (h : zSr (hd k) (va k) (va' k)) : (r_X10_hasRead va' k = (0 : Int32) ↔ hd k = (0 : Int32)) ∧ (¬ hd k = (0 : Int32) → ∃ q, q ≤ 9999 ∧ va k = nI q ∧ va' k = nI q) := by
  unfold r_X10_hasRead
  rcases h with ⟨h1, h2⟩ | ⟨q, hq, h1, h2, h3⟩
  · rw [h1, h2]
    exact ⟨by decide, fun z => absurd rfl z⟩
  · rw [h1, h3, if_neg (nI_pos (by omega))]
    exact ⟨by decide, fun _ => ⟨q, hq, h2, rfl⟩⟩
theorem zmeanl (hp : ∀ k, k < n → zSv (pl k) (x k) (y k)) (hr : ∀ k, k < n → zSr (hd k) (va k) (va' k)) (ho : ∀ k, k < n → lo k = out k) (hn : n ≤ 10) (hi : i < n) : ∀ j, j ≤ n → ∃ c s, c ≤ j ∧ s ≤ 9999 * j ∧ (lp_X4_meanAround_18 pl hd va lo (nI i) ((0 : Int32), (0 : Int32)) j) = (nI c, nI s) ∧ (lp_X12_meanOf_15 x y va' out i ((0 : Int32), (0 : Int32)) j) = (nI s, nI c) := by
  intro j
  induction j with
  | zero => intro _; rw [lp_X4_meanAround_18_0, lp_X12_meanOf_15_0]; exact ⟨0, 0, Nat.le_refl _, Nat.zero_le _, rfl, rfl⟩
  | succ j ih =>
    intro hj
    obtain ⟨c, s, hc, hs, e1, e2⟩ := ih (by omega)
    rw [lp_X4_meanAround_18_s, lp_X12_meanOf_15_s, e1, e2]
    unfold st_X4_meanAround_18 st_X12_meanOf_15
    dsimp only
    rw [nI_clamp (by omega)]
    by_cases c1 : j = i
    · rw [if_pos (by rw [c1]), if_pos (by rw [c1]), if_pos c1, if_pos c1]
      exact ⟨c, s, by omega, by omega, rfl, rfl⟩
    · have c1' : ¬ nI j = nI i := fun z => c1 ((nI_eq (by omega) (by omega)).mp z)
      rw [if_neg c1', if_neg c1', if_neg c1, if_neg c1]
      obtain ⟨g1, g2⟩ := zhasr (hr j (by omega))
      by_cases c2 : hd j = (0 : Int32)
      · rw [if_pos c2, if_pos c2, if_pos (g1.mpr c2), if_pos (g1.mpr c2)]
        exact ⟨c, s, by omega, by omega, rfl, rfl⟩
      · rw [if_neg c2, if_neg c2, if_neg (fun z => c2 (g1.mp z)), if_neg (fun z => c2 (g1.mp z))]
        rw [← ho j (by omega)]
        by_cases c3 : lo j = (0 : Int32)
        · rw [if_pos c3, if_pos c3, if_pos c3, if_pos c3]
          obtain ⟨P, hP, p1, p2, p3⟩ := hp j (by omega)
          obtain ⟨P', hP', q1, q2, q3⟩ := hp i hi
          obtain ⟨q, hq, v1, v2⟩ := g2 c2
          rw [p1, p2, p3, q1, q2, q3, zNear P hP P' hP', v1, v2]
          generalize (if 0 ≤ (nI (P % 8) - nI (P' % 8)) then (nI (P % 8) - nI (P' % 8)) else 0 - (nI (P % 8) - nI (P' % 8))) = X
          generalize (if 0 ≤ (nI (P / 8) - nI (P' / 8)) then (nI (P / 8) - nI (P' / 8)) else 0 - (nI (P / 8) - nI (P' / 8))) = Y
          by_cases d1 : (2 : Int32) < X
          · rw [if_pos d1, if_pos rfl, if_pos rfl, if_pos d1, if_pos d1]
            exact ⟨c, s, by omega, by omega, rfl, rfl⟩
          · rw [if_neg d1, if_neg d1, if_neg d1]
            by_cases d2 : Y ≤ (2 : Int32)
            · rw [if_pos d2, if_neg (by decide), if_neg (by decide), if_pos d2, if_pos d2]
              exact ⟨c + 1, s + q, by omega, by omega, by rw [nI_1, nI_add], by rw [nI_1, nI_add]⟩
            · rw [if_neg d2, if_pos rfl, if_pos rfl, if_neg d2, if_neg d2]
              exact ⟨c, s, by omega, by omega, rfl, rfl⟩
        · rw [if_neg c3, if_neg c3, if_neg c3, if_neg c3]
          exact ⟨c, s, by omega, by omega, rfl, rfl⟩
/-- the means are alike: none, or a number -/
theorem zmean (hp : ∀ k, k < n → zSv (pl k) (x k) (y k)) (hr : ∀ k, k < n → zSr (hd k) (va k) (va' k)) (ho : ∀ k, k < n → lo k = out k) (hn : n ≤ 10) (hi : i < n) : (r_X4_meanAround pl hd va lo (nI i) n = (-1 : Int32) ∧ r_X12_meanOf n x y va' out i = (-1 : Int32)) ∨ (∃ m q, m ≤ 99990 ∧ q ≤ 9999 ∧ va i = nI q ∧ va' i = nI q ∧ r_X4_meanAround pl hd va lo (nI i) n = nI m ∧ r_X12_meanOf n x y va' out i = nI m) := by
  obtain ⟨c, s, hc, hs, e1, e2⟩ := zmeanl hp hr ho hn hi n (Nat.le_refl _)
  obtain ⟨g1, g2⟩ := zhasr (hr i hi)
  unfold r_X4_meanAround r_X12_meanOf
  rw [e1, e2, nI_clamp (by omega)]
  dsimp only
  by_cases c1 : hd i = (0 : Int32)
  · rw [if_pos c1, if_pos (g1.mpr c1)]; exact Or.inl ⟨rfl, rfl⟩
  · rw [if_neg c1, if_neg (fun z => c1 (g1.mp z))]
    by_cases c2 : 2 ≤ c
    · rw [if_pos (show (2 : Int32) ≤ nI c from (nI_leI (a := 2) (by decide) (by omega)).mpr c2), if_neg (show ¬ nI c < (2 : Int32) from fun z => absurd ((nI_ltI (b := 2) (by omega) (by decide)).mp z) (by omega))]
      obtain ⟨q, hq, v1, v2⟩ := g2 c1
      refine Or.inr ⟨s / c, q, ?_, hq, v1, v2, pk_div (by omega) (by omega) (by omega), pk_div (by omega) (by omega) (by omega)⟩
      exact Nat.le_trans (Nat.div_le_self s c) (by omega)
    · rw [if_neg (show ¬ (2 : Int32) ≤ nI c from fun z => c2 ((nI_leI (a := 2) (by decide) (by omega)).mp z)), if_pos (show nI c < (2 : Int32) from (nI_ltI (b := 2) (by omega) (by decide)).mpr (by omega))]
      exact Or.inl ⟨rfl, rfl⟩
end ZME
theorem zdist {q m : Nat} (hq : q ≤ 99999) (hm : m ≤ 99999) : (if nI m ≤ nI q then nI q - nI m else nI m - nI q) = nI (max q m - min q m) ∧ (if 0 ≤ (nI q - nI m) then (nI q - nI m) else 0 - (nI q - nI m)) = nI (max q m - min q m) := by
  have t : ∀ a b : Nat, a ≤ 99999 → b ≤ 99999 → (nI a - nI b).toInt = (a : Int) - b := by
    intro a b ha hb
    have h1 := nI_toInt (show a < 2 ^ 31 by omega)
    have h2 := nI_toInt (show b < 2 ^ 31 by omega)
    rw [zsub (by omega) (by omega), h1, h2]
  have ge : ∀ a b : Nat, a ≤ 99999 → b ≤ 99999 → (0 ≤ nI a - nI b ↔ b ≤ a) := by
    intro a b ha hb
    rw [zle, t a b ha hb, show (0 : Int32).toInt = 0 by decide]
    omega
  by_cases c : m ≤ q
  · rw [if_pos ((nI_leI (by omega) (by omega)).mpr c), if_pos ((ge q m hq hm).mpr c), zsubN c, Nat.max_eq_left c, Nat.min_eq_right c]
    exact ⟨rfl, rfl⟩
  · have e : (0 : Int32) - (nI q - nI m) = nI m - nI q := by rw [Int32.zero_sub, Int32.neg_sub]
    rw [if_neg (fun z => c ((nI_leI (by omega) (by omega)).mp z)), if_neg (fun z => c ((ge q m hq hm).mp z)), e, zsubN (by omega : q ≤ m), Nat.max_eq_right (by omega), Nat.min_eq_left (by omega)]
    exact ⟨rfl, rfl⟩
/-- the class's verdict on a sensor, and what the reference says -/
theorem zverd {q m : Nat} (hq : q ≤ 9999) (hm : m ≤ 99990) : (if (if nI m ≤ nI q then nI q - nI m else nI m - nI q) ≤ (nI m / (2 : Int32)) then (1 : Int32) else (if (20 : Int32) < (if nI m ≤ nI q then nI q - nI m else nI m - nI q) then (2 : Int32) else (1 : Int32))) = (if zAg (nI q) (nI m) = (0 : Int32) then (2 : Int32) else (1 : Int32)) := by
  unfold zAg
  rw [(zdist (q := q) (m := m) (by omega) (by omega)).1, (zdist (q := q) (m := m) (by omega) (by omega)).2, show nI m / (2 : Int32) = nI (m / 2) from pk_div (by omega) (by decide) (by decide)]
  generalize hD : max q m - min q m = D
  have hD2 : D ≤ 99999 := by omega
  by_cases c1 : D ≤ m / 2
  · rw [if_pos ((nI_leI (by omega) (by omega)).mpr c1)]
    have z : ¬ (if (20 : Int32) < nI (m / 2) then nI (m / 2) else (20 : Int32)) < nI D := by
      by_cases y : (20 : Int32) < nI (m / 2)
      · rw [if_pos y]; exact fun w => absurd ((nI_ltI (by omega) (by omega)).mp w) (by omega)
      · rw [if_neg y]
        intro w
        have w1 := (nI_ltI (a := 20) (by decide) (by omega)).mp w
        exact y ((nI_ltI (a := 20) (by decide) (by omega)).mpr (by omega))
    rw [if_neg z, if_neg (by decide)]
  · rw [if_neg (fun z => c1 ((nI_leI (by omega) (by omega)).mp z))]
    by_cases c2 : 20 < D
    · rw [if_pos (show (20 : Int32) < nI D from (nI_ltI (a := 20) (by decide) (by omega)).mpr c2)]
      have z : (if (20 : Int32) < nI (m / 2) then nI (m / 2) else (20 : Int32)) < nI D := by
        by_cases y : (20 : Int32) < nI (m / 2)
        · rw [if_pos y]; exact (nI_ltI (by omega) (by omega)).mpr (by omega)
        · rw [if_neg y]; exact (nI_ltI (a := 20) (by decide) (by omega)).mpr c2
      rw [if_pos z, if_pos rfl]
    · rw [if_neg (show ¬ (20 : Int32) < nI D from fun z => c2 ((nI_ltI (a := 20) (by decide) (by omega)).mp z))]
      have z : ¬ (if (20 : Int32) < nI (m / 2) then nI (m / 2) else (20 : Int32)) < nI D := by
        by_cases y : (20 : Int32) < nI (m / 2)
        · have := (nI_ltI (a := 20) (by decide) (by omega)).mp y
          omega
        · rw [if_neg y]; exact fun w => c2 ((nI_ltI (a := 20) (by decide) (by omega)).mp w)
      rw [if_neg z, if_neg (by decide)]
/-! judging all -/
section ZJA
variable {tr pl hd va lo db ag vd x y tr' va' row out wd : Nat → Int32} {n : Nat}
theorem zvds : ∀ i, i ≤ n → ∀ k, k < n → lp_X4_judgeAll_2 pl hd va lo n vd i k = (if k < i then r_X4_verdictOn pl hd va lo (nI k) n else vd k) := by
  intro i
  induction i with
  | zero => intro _ k _; rw [lp_X4_judgeAll_2_0, if_neg (Nat.not_lt_zero k)]
  | succ i ih =>
    intro hi k hk
    rw [lp_X4_judgeAll_2_s]
    unfold st_X4_judgeAll_2
    by_cases e : k = i
    · rw [e, upd_i, if_pos (Nat.lt_succ_self i)]
    · rw [upd_o e, ih (by omega) k hk]
      by_cases q : k < i
      · rw [if_pos q, if_pos (by omega)]
      · rw [if_neg q, if_neg (by omega)]
theorem zmns {f : Nat → Int32} : ∀ i, i ≤ n → ∀ k, k < n → lp_X12_judge_14 n x y va' out f i k = (if k < i then r_X12_meanOf n x y va' out k else f k) := by
  intro i
  induction i with
  | zero => intro _ k _; rw [lp_X12_judge_14_0, if_neg (Nat.not_lt_zero k)]
  | succ i ih =>
    intro hi k hk
    rw [lp_X12_judge_14_s]
    unfold st_X12_judge_14
    by_cases e : k = i
    · rw [e, upd_i, if_pos (Nat.lt_succ_self i)]
    · rw [upd_o e, ih (by omega) k hk]
      by_cases q : k < i
      · rw [if_pos q, if_pos (by omega)]
      · rw [if_neg q, if_neg (by omega)]
theorem zAg01 (q a : Int32) : zAg q a = (0 : Int32) ∨ zAg q a = (1 : Int32) := by
  unfold zAg
  by_cases c : (if (20 : Int32) < (a / (2 : Int32)) then (a / (2 : Int32)) else (20 : Int32)) < (if 0 ≤ (q - a) then (q - a) else 0 - (q - a))
  · rw [if_pos c]; exact Or.inl rfl
  · rw [if_neg c]; exact Or.inr rfl
theorem zjudge (hp : ∀ k, k < n → zSv (pl k) (x k) (y k)) (hr : ∀ k, k < n → zSr (hd k) (va k) (va' k)) (hs : ∀ k, k < n → zStv (tr k) (lo k) (db k) (ag k) (tr' k) (row k) (out k) (wd k)) (hn : n ≤ 10) (V M : Nat → Int32) (hV : ∀ k, k < n → V k = r_X4_verdictOn pl hd va lo (nI k) n) (hM : ∀ k, k < n → M k = r_X12_meanOf n x y va' out k) :
    ∀ i, i ≤ n → ∀ k, k < n → zStv ((lp_X4_judgeAll_29 V (tr, lo, db, ag) i).1 k) ((lp_X4_judgeAll_29 V (tr, lo, db, ag) i).2.1 k) ((lp_X4_judgeAll_29 V (tr, lo, db, ag) i).2.2.1 k) ((lp_X4_judgeAll_29 V (tr, lo, db, ag) i).2.2.2 k) ((lp_X12_judge_48 va' M (tr', row, out, wd) i).1 k) ((lp_X12_judge_48 va' M (tr', row, out, wd) i).2.1 k) ((lp_X12_judge_48 va' M (tr', row, out, wd) i).2.2.1 k) ((lp_X12_judge_48 va' M (tr', row, out, wd) i).2.2.2 k) := by
  intro i
  induction i with
  | zero => intro _ k hk; rw [lp_X4_judgeAll_29_0, lp_X12_judge_48_0]; exact hs k hk
  | succ i ih =>
    intro hi
    have j := ih (by omega)
    have hi : i < n := hi
    rw [lp_X4_judgeAll_29_s, lp_X12_judge_48_s]
    generalize lp_X4_judgeAll_29 V (tr, lo, db, ag) i = u at j ⊢
    generalize lp_X12_judge_48 va' M (tr', row, out, wd) i = w at j ⊢
    unfold st_X4_judgeAll_29 st_X12_judge_48
    dsimp only
    have ho : ∀ k, k < n → lo k = out k := fun k hk => by
      obtain ⟨-, h⟩ := hs k hk
      rcases h with ⟨a, b, -⟩ | ⟨a, b, -⟩ <;> rw [a, b]
    have ji := j i hi
    rcases zmean hp hr ho hn hi with ⟨e1, e2⟩ | ⟨m, q, hm, hq, v1, v2, e1, e2⟩
    · have ev : V i = (0 : Int32) := by rw [hV i hi]; unfold r_X4_verdictOn; rw [if_pos e1]
      have h1 : ¬ V i = (1 : Int32) := by rw [ev]; decide
      have h2 : ¬ V i = (2 : Int32) := by rw [ev]; decide
      have h3 : M i < (0 : Int32) := by rw [hM i hi, e2]; decide
      simp only [if_neg h1, if_neg h2, if_pos h3]
      exact j
    · have nm1 : ¬ nI m = (-1 : Int32) := fun z => by
        have h := nI_pos' (show m < 2 ^ 31 by omega)
        rw [z] at h
        exact absurd h (by decide)
      have ev : V i = (if zAg (nI q) (nI m) = (0 : Int32) then (2 : Int32) else (1 : Int32)) := by
        rw [hV i hi]
        unfold r_X4_verdictOn
        rw [e1, if_neg nm1, nI_clamp (by omega), v1]
        exact zverd hq hm
      have em : M i = nI m := (hM i hi).trans e2
      have nm : ¬ M i < (0 : Int32) := by rw [em]; exact nI_pos (by omega)
      simp only [if_neg nm]
      rw [je3, je5, je6, je7, em, v2]
      rcases zAg01 (nI q) (nI m) with c | c
      · rw [c] at ev ⊢
        have h1 : ¬ V i = (1 : Int32) := by rw [ev]; decide
        have h2 : V i = (2 : Int32) := by rw [ev]; decide
        rw [if_neg h1, if_neg h1, if_neg h1, if_neg h1, if_pos h2, if_pos h2, if_pos h2, if_pos h2, do0 (by omega), do4 (by omega), do5 (by omega), do6 (by omega)]
        intro k hk
        by_cases e : k = i
        · rw [e, upd_i, upd_i, upd_i, upd_i, upd_i, upd_i, upd_i, upd_i]
          exact zdoubt ji
        · rw [upd_o e, upd_o e, upd_o e, upd_o e, upd_o e, upd_o e, upd_o e, upd_o e]
          exact j k hk
      · rw [c] at ev ⊢
        have h1 : V i = (1 : Int32) := by rw [ev]; decide
        rw [if_pos h1, if_pos h1, if_pos h1, if_pos h1, be0 (by omega), be4 (by omega), be5 (by omega), be6 (by omega)]
        intro k hk
        by_cases e : k = i
        · rw [e, upd_i, upd_i, upd_i, upd_i, upd_i, upd_i, upd_i, upd_i]
          exact zagree ji
        · rw [upd_o e, upd_o e, upd_o e, upd_o e, upd_o e, upd_o e, upd_o e, upd_o e]
          exact j k hk
end ZJA
/-! mending -/
section ZMD
variable {tr pl hd va lo x y tr' va' out sm sm' : Nat → Int32} {n : Nat} {me : Int64}
theorem zatP {P : Nat} : r_X12_at (nI (P % 8)) (nI (P / 8)) = nI P := by
  unfold r_X12_at
  rw [show (8 : Int32) = nI 8 from rfl, pk_mul, nI_add]
  exact congrArg nI (by omega)
theorem zmendl (hp : ∀ k, k < n → zSv (pl k) (x k) (y k)) (hr : ∀ k, k < n → zSr (hd k) (va k) (va' k)) (ht : ∀ k, k < n → ∃ m, m ≤ 100 ∧ tr k = nI m ∧ tr' k = nI m) (ho : ∀ k, k < n → lo k = out k) (v : Nat) : ∀ j, j ≤ n → ∃ T W, T ≤ 100 * j ∧ lp_X4_mendAll_16 tr pl hd va lo v ((0 : Int32), (0 : Int32)) j = (nI T, W) ∧ lp_X12_mend_23 x y tr' va' out v ((0 : Int32), (0 : Int32)) j = (nI T, W) := by
  intro j
  induction j with
  | zero => intro _; rw [lp_X4_mendAll_16_0, lp_X12_mend_23_0]; exact ⟨0, 0, Nat.le_refl _, rfl, rfl⟩
  | succ j ih =>
    intro hj
    obtain ⟨T, W, hT, e1, e2⟩ := ih (by omega)
    rw [lp_X4_mendAll_16_s, lp_X12_mend_23_s, e1, e2]
    unfold st_X4_mendAll_16 st_X12_mend_23
    dsimp only
    obtain ⟨P, hP, p1, p2, p3⟩ := hp j (by omega)
    obtain ⟨m, hm, t1, t2⟩ := ht j (by omega)
    obtain ⟨g1, g2⟩ := zhasr (hr j (by omega))
    rw [p1, p2, p3, zatP, ← ho j (by omega), t1, t2]
    by_cases c1 : nI P = nI v
    · by_cases c2 : hd j = (0 : Int32)
      · simp only [if_pos c1, if_pos c2, if_pos (g1.mpr c2)]
        exact ⟨T, W, by omega, rfl, rfl⟩
      · have g3 : ¬ r_X10_hasRead va' j = (0 : Int32) := fun z => c2 (g1.mp z)
        by_cases c3 : lo j = (0 : Int32)
        · obtain ⟨q, hq, v1, v2⟩ := g2 c2
          simp only [if_pos c1, if_neg c2, if_neg g3, if_pos c3]
          rw [v1, v2]
          exact ⟨T + m, W + nI m * nI q, by omega, by rw [nI_add], by rw [nI_add]⟩
        · simp only [if_pos c1, if_neg c2, if_neg g3, if_neg c3]
          exact ⟨T, W, by omega, rfl, rfl⟩
    · simp only [if_neg c1]
      exact ⟨T, W, by omega, rfl, rfl⟩
theorem zmend2 (hp : ∀ k, k < n → zSv (pl k) (x k) (y k)) (hr : ∀ k, k < n → zSr (hd k) (va k) (va' k)) (ht : ∀ k, k < n → ∃ m, m ≤ 100 ∧ tr k = nI m ∧ tr' k = nI m) (ho : ∀ k, k < n → lo k = out k) (hn : n ≤ 10) (hs : zEq 48 sm sm') : ∀ i, i ≤ 48 → (lp_X4_mendAll_2 tr pl hd va lo n (me, sm) i).1 = (lp_X12_mend_2 n x y tr' va' out (me, sm') i).1 ∧ zEq 48 (lp_X4_mendAll_2 tr pl hd va lo n (me, sm) i).2 (lp_X12_mend_2 n x y tr' va' out (me, sm') i).2 := by
  intro i
  induction i with
  | zero => intro _; rw [lp_X4_mendAll_2_0, lp_X12_mend_2_0]; exact ⟨rfl, hs⟩
  | succ i ih =>
    intro hi
    obtain ⟨j1, j2⟩ := ih (by omega)
    rw [lp_X4_mendAll_2_s, lp_X12_mend_2_s]
    generalize lp_X4_mendAll_2 tr pl hd va lo n (me, sm) i = u at j1 j2 ⊢
    generalize lp_X12_mend_2 n x y tr' va' out (me, sm') i = w at j1 j2 ⊢
    unfold st_X4_mendAll_2 st_X12_mend_2
    obtain ⟨T, W, hT, e1, e2⟩ := zmendl hp hr ht ho i n (Nat.le_refl _)
    have e := j2 i (by omega)
    rw [e1, e2]
    dsimp only
    rw [e, j1, Int32.add_comm (nI T) (100 : Int32)]
    by_cases z : T = 0
    · subst z
      simp only [if_pos (by decide : nI 0 ≤ (0 : Int32)), if_pos (by decide : nI 0 = (0 : Int32))]
      exact ⟨trivial, j2⟩
    · have z1 : ¬ nI T ≤ (0 : Int32) := nI_nle (by omega) (by omega)
      have z2 : ¬ nI T = (0 : Int32) := nI_ne0 (by omega) (by omega)
      simp only [if_neg z1, if_neg z2]
      exact ⟨trivial, zEq_u j2 rfl⟩
end ZMD
end
section
/-! the outlook; schools; warnings -/
section ZLO
variable {cp cp' : Nat → Int32} {dw w ra : Nat}
/-- peaks after an hour -/
theorem zpeak {sm : Nat → Int32} {pk : Nat → Int32} : ∀ i, i ≤ 48 → ∀ k, k < 48 → lp_X2_look_33 sm pk i k = (if k < i then (if sm k ≤ pk k then pk k else sm k) else pk k) := by
  intro i
  induction i with
  | zero => intro _ k _; rw [lp_X2_look_33_0, if_neg (Nat.not_lt_zero k)]
  | succ i ih =>
    intro hi k hk
    rw [lp_X2_look_33_s]
    unfold st_X2_look_33
    have ei := ih (by omega) i (by omega)
    rw [if_neg (Nat.lt_irrefl i)] at ei
    rw [ei]
    by_cases c : sm i ≤ pk i
    · rw [if_pos c, ih (by omega) k hk]
      by_cases e : k = i
      · rw [e, if_neg (Nat.lt_irrefl i), if_pos (Nat.lt_succ_self i), if_pos c]
      · by_cases q : k < i
        · rw [if_pos q, if_pos (show k < i + 1 by omega)]
        · rw [if_neg q, if_neg (show ¬ k < i + 1 by omega)]
    · rw [if_neg c]
      by_cases e : k = i
      · rw [e, upd_i, if_pos (Nat.lt_succ_self i), if_neg c]
      · rw [upd_o e, ih (by omega) k hk]
        by_cases q : k < i
        · rw [if_pos q, if_pos (show k < i + 1 by omega)]
        · rw [if_neg q, if_neg (show ¬ k < i + 1 by omega)]
theorem zlook {pk fu fi sm ln cl br fu' fi' sm' ln' cl' : Nat → Int32} {mk mk' bl bl' st st' : Int64} {a w0 : Int32} (h : zLnd fu fi sm ln cl cp fu' fi' sm' ln' cl' cp') (hd : dw < 9) (hw : w ≤ 4) (h4 : 0 < w → dw ≠ 4) (hr : ra ≤ 9) (ha : a.toNatClampNeg < 48) (hp : pk a.toNatClampNeg = w0) : ∀ n,
    zLnd (lp_X2_look_18 cp (ze dw) (zf dw) (nI w) (nI ra) w (pk, fu, fi, sm, ln, cl, br, mk, bl, st) n).2.1 (lp_X2_look_18 cp (ze dw) (zf dw) (nI w) (nI ra) w (pk, fu, fi, sm, ln, cl, br, mk, bl, st) n).2.2.1 (lp_X2_look_18 cp (ze dw) (zf dw) (nI w) (nI ra) w (pk, fu, fi, sm, ln, cl, br, mk, bl, st) n).2.2.2.1 (lp_X2_look_18 cp (ze dw) (zf dw) (nI w) (nI ra) w (pk, fu, fi, sm, ln, cl, br, mk, bl, st) n).2.2.2.2.1 (lp_X2_look_18 cp (ze dw) (zf dw) (nI w) (nI ra) w (pk, fu, fi, sm, ln, cl, br, mk, bl, st) n).2.2.2.2.2.1 cp
      (lp_X12_worstOf_18 cp' (ze dw) (zf dw) (nI w) (nI ra) w a (fu', cl', fi', sm', ln', mk', bl', st', w0) n).1 (lp_X12_worstOf_18 cp' (ze dw) (zf dw) (nI w) (nI ra) w a (fu', cl', fi', sm', ln', mk', bl', st', w0) n).2.2.1 (lp_X12_worstOf_18 cp' (ze dw) (zf dw) (nI w) (nI ra) w a (fu', cl', fi', sm', ln', mk', bl', st', w0) n).2.2.2.1 (lp_X12_worstOf_18 cp' (ze dw) (zf dw) (nI w) (nI ra) w a (fu', cl', fi', sm', ln', mk', bl', st', w0) n).2.2.2.2.1 (lp_X12_worstOf_18 cp' (ze dw) (zf dw) (nI w) (nI ra) w a (fu', cl', fi', sm', ln', mk', bl', st', w0) n).2.1 cp' ∧
    (lp_X2_look_18 cp (ze dw) (zf dw) (nI w) (nI ra) w (pk, fu, fi, sm, ln, cl, br, mk, bl, st) n).1 a.toNatClampNeg = (lp_X12_worstOf_18 cp' (ze dw) (zf dw) (nI w) (nI ra) w a (fu', cl', fi', sm', ln', mk', bl', st', w0) n).2.2.2.2.2.2.2.2 := by
  intro n
  induction n with
  | zero => rw [lp_X2_look_18_0, lp_X12_worstOf_18_0]; exact ⟨h, hp⟩
  | succ n ih =>
    obtain ⟨j1, j2⟩ := ih
    rw [lp_X2_look_18_s, lp_X12_worstOf_18_s]
    generalize lp_X2_look_18 cp (ze dw) (zf dw) (nI w) (nI ra) w (pk, fu, fi, sm, ln, cl, br, mk, bl, st) n = y at j1 j2 ⊢
    generalize lp_X12_worstOf_18 cp' (ze dw) (zf dw) (nI w) (nI ra) w a (fu', cl', fi', sm', ln', mk', bl', st', w0) n = z at j1 j2 ⊢
    unfold st_X2_look_18 st_X12_worstOf_18
    have q := (zhour (mk := y.2.2.2.2.2.2.2.1) (mk' := z.2.2.2.2.2.1) (bl := y.2.2.2.2.2.2.2.2.1) (bl' := z.2.2.2.2.2.2.1) (st := y.2.2.2.2.2.2.2.2.2) (st' := z.2.2.2.2.2.2.2.1) j1 hd hw h4 hr).1
    refine ⟨q, ?_⟩
    show lp_X2_look_33 (g_X1_runModel_x_2 y.2.1 y.2.2.1 y.2.2.2.1 y.2.2.2.2.1 y.2.2.2.2.2.1 cp (ze dw) (zf dw) (nI w) (nI ra) y.2.2.2.2.2.2.2.1 y.2.2.2.2.2.2.2.2.1 y.2.2.2.2.2.2.2.2.2 w) y.1 48 a.toNatClampNeg = (if z.2.2.2.2.2.2.2.2 < (g_X8_hour_ml_4 z.1 z.2.1 cp' z.2.2.1 z.2.2.2.1 z.2.2.2.2.1 (ze dw) (zf dw) (nI ra) z.2.2.2.2.2.1 z.2.2.2.2.2.2.1 z.2.2.2.2.2.2.2.1 w) a.toNatClampNeg then (g_X8_hour_ml_4 z.1 z.2.1 cp' z.2.2.1 z.2.2.2.1 z.2.2.2.2.1 (ze dw) (zf dw) (nI ra) z.2.2.2.2.2.1 z.2.2.2.2.2.2.1 z.2.2.2.2.2.2.2.1 w) a.toNatClampNeg else z.2.2.2.2.2.2.2.2)
    rw [zpeak 48 (Nat.le_refl _) _ ha, if_pos ha, j2, q.2.2.1 _ ha]
    generalize (g_X8_hour_ml_4 z.1 z.2.1 cp' z.2.2.1 z.2.2.2.1 z.2.2.2.2.1 (ze dw) (zf dw) (nI ra) z.2.2.2.2.2.1 z.2.2.2.2.2.2.1 z.2.2.2.2.2.2.2.1 w) a.toNatClampNeg = S
    by_cases c : S ≤ z.2.2.2.2.2.2.2.2
    · rw [if_pos c, if_neg (Int32.not_lt.mpr c)]
    · rw [if_neg c, if_pos (Int32.not_le.mp c)]
theorem zfore {pk fu fi sm ln cl br fu' fi' sm' ln' cl' : Nat → Int32} {mk mk' bl bl' st st' : Int64} (h : zLnd fu fi sm ln cl cp fu' fi' sm' ln' cl' cp') (hd : dw < 9) (hw : w ≤ 4) (h4 : 0 < w → dw ≠ 4) (hr : ra ≤ 9) : ∀ n,
    zLnd (lp_X2_look_18 cp (ze dw) (zf dw) (nI w) (nI ra) w (pk, fu, fi, sm, ln, cl, br, mk, bl, st) n).2.1 (lp_X2_look_18 cp (ze dw) (zf dw) (nI w) (nI ra) w (pk, fu, fi, sm, ln, cl, br, mk, bl, st) n).2.2.1 (lp_X2_look_18 cp (ze dw) (zf dw) (nI w) (nI ra) w (pk, fu, fi, sm, ln, cl, br, mk, bl, st) n).2.2.2.1 (lp_X2_look_18 cp (ze dw) (zf dw) (nI w) (nI ra) w (pk, fu, fi, sm, ln, cl, br, mk, bl, st) n).2.2.2.2.1 (lp_X2_look_18 cp (ze dw) (zf dw) (nI w) (nI ra) w (pk, fu, fi, sm, ln, cl, br, mk, bl, st) n).2.2.2.2.2.1 cp
      (lp_X12_forecast_49 cp' (ze dw) (zf dw) (nI w) (nI ra) w (fu', cl', fi', sm', ln', mk', bl', st') n).1 (lp_X12_forecast_49 cp' (ze dw) (zf dw) (nI w) (nI ra) w (fu', cl', fi', sm', ln', mk', bl', st') n).2.2.1 (lp_X12_forecast_49 cp' (ze dw) (zf dw) (nI w) (nI ra) w (fu', cl', fi', sm', ln', mk', bl', st') n).2.2.2.1 (lp_X12_forecast_49 cp' (ze dw) (zf dw) (nI w) (nI ra) w (fu', cl', fi', sm', ln', mk', bl', st') n).2.2.2.2.1 (lp_X12_forecast_49 cp' (ze dw) (zf dw) (nI w) (nI ra) w (fu', cl', fi', sm', ln', mk', bl', st') n).2.1 cp' := by
  intro n
  induction n with
  | zero => rw [lp_X2_look_18_0, lp_X12_forecast_49_0]; exact h
  | succ n ih =>
    rw [lp_X2_look_18_s, lp_X12_forecast_49_s]
    exact (zhour ih hd hw h4 hr).1
end ZLO
theorem zcp {n : Nat} {f g : Nat → Int32} : zEq n (va_cpy f g 0 0 n) f := fun k hk => by rw [pk_cpy_in (Nat.zero_le k) (by omega), Nat.sub_zero, Nat.zero_add]
theorem zEq_s {n : Nat} {f g : Nat → Int32} (h : zEq n f g) : zEq n g f := fun k hk => (h k hk).symm
theorem zEq_t {n : Nat} {f g e : Nat → Int32} (h : zEq n f g) (h2 : zEq n g e) : zEq n f e := fun k hk => (h k hk).trans (h2 k hk)
theorem zcpl {f g : Nat → Int32} : ∀ i, i ≤ 48 → ∀ k, k < 48 → lp_X1_copyFrom_47 f g i k = (if k < i then f k else g k) := by
  intro i
  induction i with
  | zero => intro _ k _; rw [lp_X1_copyFrom_47_0, if_neg (Nat.not_lt_zero k)]
  | succ i ih =>
    intro hi k hk
    rw [lp_X1_copyFrom_47_s]
    unfold st_X1_copyFrom_47
    by_cases e : k = i
    · rw [e, upd_i, if_pos (Nat.lt_succ_self i)]
    · rw [upd_o e, ih (by omega) k hk]
      by_cases q : k < i
      · rw [if_pos q, if_pos (by omega)]
      · rw [if_neg q, if_neg (by omega)]
/-- copies of a land are alike too -/
theorem zcopyl {fu fi sm ln cl cp fu' fi' sm' ln' cl' cp' a0 a1 a2 a3 a4 a5 b0 b3 b4 b5 : Nat → Int32} (h : zLnd fu fi sm ln cl cp fu' fi' sm' ln' cl' cp') : zLnd (va_cpy fu a0 0 0 48) (va_cpy fi a1 0 0 48) (va_cpy sm a2 0 0 48) (lp_X1_copyFrom_47 ln a3 48) (va_cpy cl a4 0 0 3) (va_cpy cp a5 0 0 3) (va_cpy fu' b0 0 0 48) fi' sm' (va_cpy ln' b3 0 0 48) (va_cpy cl' b4 0 0 3) (va_cpy cp' b5 0 0 3) := by
  obtain ⟨h1, h2, h3, h5, h6, h7, e1, e2, e3⟩ := h
  have hl : zEq 48 (lp_X1_copyFrom_47 ln a3 48) ln := fun k hk => by rw [zcpl 48 (Nat.le_refl _) k hk, if_pos hk]
  exact ⟨zEq_t zcp (zEq_t h1 (zEq_s zcp)), zEq_t zcp h2, zEq_t zcp h3, zEq_t hl (zEq_t h5 (zEq_s zcp)), zEq_t zcp (zEq_t h6 (zEq_s zcp)), zEq_t zcp (zEq_t h7 (zEq_s zcp)), zBd_e e1 (zEq_s zcp), zBd_e e2 (zEq_s zcp), zBd_e e3 (zEq_s zcp)⟩
/-! schools -/
def zOp (op ic : Int32) : Prop := (op = (1 : Int32) ∧ ic = (0 : Int32)) ∨ (op = (0 : Int32) ∧ ic = (1 : Int32))
theorem zdecide {pk pl bd op at' bd' ic f0 f1 f2 f3 f4 f5 : Nat → Int32} {x6 x7 x8 x9 : Int32} {cl cl' : Int32} {n sn : Nat} (ha : ∀ k, k < n → pl k = at' k) (hb : ∀ k, k < n → bd k = bd' k) (ho : ∀ k, k < n → zOp (op k) (ic k)) (hc : cl = cl') (hw : ∀ k, k < n → pk (pl k).toNatClampNeg = r_X12_worstOf f0 f1 f2 f3 f4 f5 x6 x7 x8 x9 (at' k) 12 sn) :
    ∀ i, i ≤ n → (∀ k, k < n → zOp ((lp_X3_decide_2 pk pl bd (op, cl) i).1 k) ((lp_X12_close_10 f0 f1 f2 f3 f4 f5 x6 x7 x8 x9 at' bd' sn (cl', ic) i).2 k)) ∧ (lp_X3_decide_2 pk pl bd (op, cl) i).2 = (lp_X12_close_10 f0 f1 f2 f3 f4 f5 x6 x7 x8 x9 at' bd' sn (cl', ic) i).1 := by
  intro i
  induction i with
  | zero => intro _; rw [lp_X3_decide_2_0, lp_X12_close_10_0]; exact ⟨ho, hc⟩
  | succ i ih =>
    intro hi
    obtain ⟨j1, j2⟩ := ih (by omega)
    rw [lp_X3_decide_2_s, lp_X12_close_10_s]
    generalize lp_X3_decide_2 pk pl bd (op, cl) i = y at j1 j2 ⊢
    generalize lp_X12_close_10 f0 f1 f2 f3 f4 f5 x6 x7 x8 x9 at' bd' sn (cl', ic) i = z at j1 j2 ⊢
    unfold st_X3_decide_2 st_X12_close_10
    have e := j1 i (by omega)
    dsimp only
    rw [hw i (by omega), hb i (by omega), j2]
    generalize r_X12_worstOf f0 f1 f2 f3 f4 f5 x6 x7 x8 x9 (at' i) 12 sn = S
    by_cases c : bd' i ≤ S
    · rw [if_pos c, if_neg (Int32.not_lt.mpr c)]
      refine ⟨fun k hk => ?_, ?_⟩
      · by_cases q : k = i
        · rw [q, upd_i, upd_i]; exact Or.inr ⟨rfl, rfl⟩
        · rw [upd_o q, upd_o q]; exact j1 k hk
      · rcases e with ⟨e1, e2⟩ | ⟨e1, e2⟩
        · rw [e1, e2, if_neg (by decide), if_pos rfl, if_neg (by decide), if_pos rfl]
        · rw [e1, e2, if_pos rfl, if_neg (by decide), if_neg (by decide)]; exact (Int32.add_zero _).symm
    · rw [if_neg c, if_pos (Int32.not_le.mp c)]
      refine ⟨fun k hk => ?_, ?_⟩
      · by_cases q : k = i
        · rw [q, upd_i, upd_i]; exact Or.inl ⟨rfl, rfl⟩
        · rw [upd_o q, upd_o q]; exact j1 k hk
      · rw [if_neg (by decide : ¬ (1 : Int32) = (0 : Int32)), if_pos (rfl : (0 : Int32) = (0 : Int32))]
        have q : (if y.1 i = (0 : Int32) then z.1 else z.1) = z.1 := by split <;> rfl
        rw [q]; exact (Int32.add_zero _).symm
/-! warnings -/
theorem zhas {f t : Nat → Int32} {f' t' : Nat → Int32} {i : Nat} {h : Int32} (hi : i < 100) (hf : f i = f' i) (ht : t i = t' i) : r_X5_hasHour f t (nI i) h = r_X11_has f' t' i h := by
  unfold r_X5_hasHour r_X11_has r_X12_isBetween
  rw [nI_clamp (by omega), hf, ht]
  by_cases c1 : f' i ≤ t' i
  · rw [if_pos c1, if_pos rfl, if_neg (Int32.not_lt.mpr c1)]
    by_cases c2 : h < f' i
    · rw [if_pos c2, if_pos rfl, if_pos c2]
    · rw [if_neg c2, if_neg (by decide)]
      by_cases c3 : t' i < h
      · rw [if_pos c3, if_pos rfl, if_neg c2]
      · rw [if_neg c3, if_neg (by decide), if_neg c2]
  · rw [if_neg c1, if_neg (by decide), if_pos (Int32.not_le.mp c1)]
    by_cases c2 : h < f' i
    · rw [if_pos c2, if_pos rfl, if_neg (Int32.not_le.mpr c2)]
      by_cases c3 : t' i < h
      · rw [if_pos c3, if_pos rfl]
      · rw [if_neg c3, if_neg (by decide)]
    · rw [if_neg c2, if_neg (by decide), if_pos (Int32.not_lt.mp c2)]
theorem zover {b s : Nat} (hb : b ≤ 9999) (hs : s ≤ 1000000000) : (nI b - (10 : Int32)) ≤ nI s ↔ (nI b - nI s) ≤ (10 : Int32) := by
  have h1 := nI_toInt (show b < 2 ^ 31 by omega)
  have h2 := nI_toInt (show s < 2 ^ 31 by omega)
  have h3 : (10 : Int32).toInt = 10 := by decide
  rw [zle, zle, zsub (by omega) (by omega), zsub (by omega) (by omega), h1, h2, h3]
  omega
/-- what is sent so far: in the class, in the reference -/
def zSn (s : Nat) (A T B A' T' B' : Nat → Int32) : Prop := ∀ k, k < s → A k = A' k ∧ T k = T' k ∧ B k = B' k
theorem zSn_s {s c a b : Nat} {A T B A' T' B' : Nat → Int32} {x y z : Int32} (hC : zCap s c a b) (h : zSn s A T B A' T' B') : zSn (s + 1) (g_X5_send_su_6 A s c x) (g_X5_send_su_7 T s c a y) (g_X5_send_su_8 B s c b z) (upd A' s x) (upd T' s y) (upd B' s z) := by
  obtain ⟨c1, c2, c3, c4⟩ := hC
  intro k hk
  unfold g_X5_send_su_6 g_X5_send_su_7 g_X5_send_su_8
  by_cases e : k = s
  · rw [e, upd_i, upd_i, upd_i, upd_i, upd_i, upd_i]; exact ⟨rfl, rfl, rfl⟩
  · rw [upd_o e, upd_o e, upd_o e, upd_o e, upd_o e, upd_o e]
    have hk2 : k < s := by omega
    have q := h k hk2
    have p : ∀ {F : Nat → Int32} {n : Nat}, s ≤ n → (if (nI s) < (nI c) then F else (va_cpy F (fun _ => 0) 0 0 n)) k = F k := by
      intro F n hn
      by_cases d : (nI s) < (nI c)
      · rw [if_pos d]
      · rw [if_neg d, pk_cpy_in (Nat.zero_le k) (by omega), Nat.sub_zero, Nat.zero_add]
    rw [p c3, p (by omega), p (by omega)]
    exact q
section ZWR
variable {pl bd fr to sm at' bd' fr' to' sm' wn A T B w' A' T' B' : Nat → Int32} {hr l4 : Int32} {s c a b N n : Nat}
theorem zwarnR (hp : ∀ k, k < n → pl k = at' k ∧ vp_in (pl k) 48) (hb : ∀ k, k < n → bd k = bd' k ∧ ∃ m, m ≤ 9999 ∧ bd' k = nI m) (hf : ∀ k, k < n → fr k = fr' k) (ht : ∀ k, k < n → to k = to' k) (hs : zEq 48 sm sm') (hS : zBd 48 1000000000 sm) (hn : n ≤ 12) (hw : ∀ k, k < n → wn k = w' k) (h0 : zSn s A T B A' T' B') (hcap : ∀ i, i ≤ n → zCap (lp_X5_warnAll_3 pl bd fr to sm hr (hr - hr / (24 : Int32) * (24 : Int32)) (wn, A, T, B, s, c, a, b) i).2.2.2.2.1 (lp_X5_warnAll_3 pl bd fr to sm hr (hr - hr / (24 : Int32) * (24 : Int32)) (wn, A, T, B, s, c, a, b) i).2.2.2.2.2.1 (lp_X5_warnAll_3 pl bd fr to sm hr (hr - hr / (24 : Int32) * (24 : Int32)) (wn, A, T, B, s, c, a, b) i).2.2.2.2.2.2.1 (lp_X5_warnAll_3 pl bd fr to sm hr (hr - hr / (24 : Int32) * (24 : Int32)) (wn, A, T, B, s, c, a, b) i).2.2.2.2.2.2.2) :
    ∀ i, i ≤ n → (∀ k, k < n → (lp_X5_warnAll_3 pl bd fr to sm hr (hr - hr / (24 : Int32) * (24 : Int32)) (wn, A, T, B, s, c, a, b) i).1 k = (lp_X12_warn_2 hr sm' at' bd' fr' to' (l4, N, w', s, A', T', B') i).2.2.1 k) ∧ (lp_X5_warnAll_3 pl bd fr to sm hr (hr - hr / (24 : Int32) * (24 : Int32)) (wn, A, T, B, s, c, a, b) i).2.2.2.2.1 = (lp_X12_warn_2 hr sm' at' bd' fr' to' (l4, N, w', s, A', T', B') i).2.2.2.1 ∧ zSn (lp_X5_warnAll_3 pl bd fr to sm hr (hr - hr / (24 : Int32) * (24 : Int32)) (wn, A, T, B, s, c, a, b) i).2.2.2.2.1 (lp_X5_warnAll_3 pl bd fr to sm hr (hr - hr / (24 : Int32) * (24 : Int32)) (wn, A, T, B, s, c, a, b) i).2.1 (lp_X5_warnAll_3 pl bd fr to sm hr (hr - hr / (24 : Int32) * (24 : Int32)) (wn, A, T, B, s, c, a, b) i).2.2.1 (lp_X5_warnAll_3 pl bd fr to sm hr (hr - hr / (24 : Int32) * (24 : Int32)) (wn, A, T, B, s, c, a, b) i).2.2.2.1 (lp_X12_warn_2 hr sm' at' bd' fr' to' (l4, N, w', s, A', T', B') i).2.2.2.2.1 (lp_X12_warn_2 hr sm' at' bd' fr' to' (l4, N, w', s, A', T', B') i).2.2.2.2.2.1 (lp_X12_warn_2 hr sm' at' bd' fr' to' (l4, N, w', s, A', T', B') i).2.2.2.2.2.2 := by
  intro i
  induction i with
  | zero => intro _; rw [lp_X5_warnAll_3_0, lp_X12_warn_2_0]; exact ⟨hw, rfl, h0⟩
  | succ i ih =>
    intro hi
    obtain ⟨j1, j2, j3⟩ := ih (by omega)
    have hC := hcap i (by omega)
    rw [lp_X5_warnAll_3_s, lp_X12_warn_2_s]
    generalize lp_X5_warnAll_3 pl bd fr to sm hr (hr - hr / (24 : Int32) * (24 : Int32)) (wn, A, T, B, s, c, a, b) i = y at j1 j2 j3 hC ⊢
    generalize lp_X12_warn_2 hr sm' at' bd' fr' to' (l4, N, w', s, A', T', B') i = z at j1 j2 j3 ⊢
    unfold st_X5_warnAll_3 st_X12_warn_2
    have e := j1 i (by omega)
    obtain ⟨hpi, hin⟩ := hp i (by omega)
    obtain ⟨hbi, m, hm, ebm⟩ := hb i (by omega)
    obtain ⟨P, hP, eP⟩ := vp_in_of hin (by decide)
    have eQ : at' i = nI P := hpi.symm.trans eP
    have es : sm P = sm' P := hs P hP
    obtain ⟨q, hq, eq⟩ := hS P hP
    have eq' : sm' P = nI q := es.symm.trans eq
    have hov := zover (b := m) (s := q) hm hq
    dsimp only
    rw [zhas (f' := fr') (t' := to') (by omega : i < 100) (hf i (by omega)) (ht i (by omega)), eP, eQ, nI_clamp (by omega), eq, eq', hbi, ebm, e]
    generalize r_X11_has fr' to' i (hr - hr / (24 : Int32) * (24 : Int32)) = hh
    by_cases c1 : z.2.2.1 i = (0 : Int32)
    · simp only [if_pos c1]
      by_cases c2 : nI q < nI m
      · simp only [if_pos c2]; exact ⟨j1, j2, j3⟩
      · simp only [if_neg c2]
        by_cases c3 : hh = (0 : Int32)
        · simp only [if_pos c3]; exact ⟨j1, j2, j3⟩
        · simp only [if_neg c3]
          refine ⟨fun k hk => ?_, ?_, ?_⟩
          · by_cases y0 : k = i
            · rw [y0, upd_i, upd_i]
            · rw [upd_o y0, upd_o y0]; exact j1 k hk
          · rw [← j2]; rfl
          · rw [← j2]; exact zSn_s hC j3
    · simp only [if_neg c1]
      by_cases c2 : (nI m - (10 : Int32)) ≤ nI q
      · simp only [if_pos c2, if_pos (hov.mp c2)]; exact ⟨j1, j2, j3⟩
      · simp only [if_neg c2, if_neg (fun z => c2 (hov.mpr z))]
        refine ⟨fun k hk => ?_, j2, j3⟩
        by_cases y0 : k = i
        · rw [y0, upd_i, upd_i]
        · rw [upd_o y0, upd_o y0]; exact j1 k hk
end ZWR
/-! the smoke's bounds -/
section ZSB
theorem zSmB_burn {fu fi sm : Nat → Int32} {mk : Int64} {ra M : Nat} (bu : zBd 48 99 fu) (bi : zBd 48 9 fi) (bs : zBd 48 M sm) (hr : ra ≤ 9) (hM : M ≤ 1000000) : ∀ i, i ≤ 48 → (∀ k, k < 48 → ∃ m, (m ≤ M ∨ (k < i ∧ m ≤ M + 90)) ∧ (lp_X1_burn_9 (nI ra / (3 : Int32)) (fu, fi, sm, mk) i).2.2.1 k = nI m) ∧ (∀ k, k < 48 → i ≤ k → (lp_X1_burn_9 (nI ra / (3 : Int32)) (fu, fi, sm, mk) i).2.2.1 k = sm k) := by
  intro i
  induction i with
  | zero =>
    intro _
    rw [lp_X1_burn_9_0]
    exact ⟨fun k hk => by obtain ⟨m, h1, h2⟩ := bs k hk; exact ⟨m, Or.inl h1, h2⟩, fun _ _ _ => rfl⟩
  | succ i ih =>
    intro hi
    obtain ⟨j1, j2⟩ := ih (by omega)
    obtain ⟨-, -, -, -, b1, b2⟩ := zburn (mk := mk) (mk' := mk) zEq_r zEq_r (zEq_r (f := sm)) bu bi hr i (by omega)
    rw [lp_X1_burn_9_s]
    generalize lp_X1_burn_9 (nI ra / (3 : Int32)) (fu, fi, sm, mk) i = y at j1 j2 b1 b2 ⊢
    unfold st_X1_burn_9
    obtain ⟨a, ha, ea⟩ := b1 i (by omega)
    obtain ⟨b, hb, eb⟩ := b2 i (by omega)
    obtain ⟨s, hs, es⟩ := bs i (by omega)
    dsimp only
    rw [j2 i (by omega) (Nat.le_refl i), ea, eb, (zburnt ha hb).1, es, show (10 : Int32) = nI 10 from rfl, pk_mul, nI_add]
    refine ⟨fun k hk => ?_, fun k hk hk2 => ?_⟩
    · by_cases e : k = i
      · rw [e, upd_i]
        exact ⟨s + min a b * 10, Or.inr ⟨Nat.lt_succ_self i, by omega⟩, rfl⟩
      · rw [upd_o e]
        obtain ⟨m, h1, h2⟩ := j1 k hk
        exact ⟨m, by omega, h2⟩
    · rw [upd_o (by omega)]; exact j2 k hk (by omega)
theorem zSmB_settle {sm : Nat → Int32} {se : Int64} {ra M : Nat} (bs : zBd 48 M sm) (hr : ra ≤ 9) (hM : M ≤ 2000000) : ∀ i, i ≤ 48 → zBd 48 M (lp_X1_settle_2 (nI ra) (sm, se) i).1 := by
  intro i
  induction i with
  | zero => intro _; rw [lp_X1_settle_2_0]; exact bs
  | succ i ih =>
    intro hi
    have j := ih (by omega)
    rw [lp_X1_settle_2_s]
    unfold st_X1_settle_2
    obtain ⟨m, hm, em⟩ := j i (by omega)
    have hl : m * (ra + 1) ≤ 2000000 * 10 := Nat.mul_le_mul (by omega) (by omega)
    have hq : m * (ra + 1) / 20 ≤ m := by
      have h1 : m * (ra + 1) ≤ m * 20 := Nat.mul_le_mul_left m (by omega)
      exact Nat.div_le_of_le_mul (by omega)
    have e : (nI m - nI m * (nI ra + (1 : Int32)) / (20 : Int32)) = nI (m - m * (ra + 1) / 20) := by
      rw [nI_1, pk_mul, show nI (m * (ra + 1)) / (20 : Int32) = nI (m * (ra + 1) / 20) from pk_div (by omega) (by decide) (by decide), zsubN hq]
    dsimp only
    rw [em, e]
    exact zBd_u j (by omega : m - m * (ra + 1) / 20 ≤ M) rfl
end ZSB
section ZSC
variable {s : Nat → Int32} {dw M : Nat} {bl : Int64}
theorem zbrc (hd : dw < 9) : ∀ i, i ≤ 48 → ∀ k, k < 48 → (lp_X1_carry_10 (ze dw) (zf dw) (s, (fun _ => (0 : Int32)), bl) i).2.1 k = (if zt k (8 - dw) < i then s (zt k (8 - dw)) / (4 : Int32) else (0 : Int32)) := by
  intro i
  induction i with
  | zero => intro _ k _; rw [lp_X1_carry_10_0, if_neg (Nat.not_lt_zero _)]
  | succ i ih =>
    intro hi k hk
    have hi : i < 48 := hi
    have j := ih (by omega)
    have j1 := (zcar (wx := ze dw) (wy := zf dw) (bl := bl) (bl' := bl) (zEq_r (f := s)) i (by omega)).1 i hi
    rw [if_neg (Nat.lt_irrefl i)] at j1
    rw [lp_X1_carry_10_s]
    generalize lp_X1_carry_10 (ze dw) (zf dw) (s, (fun _ => (0 : Int32)), bl) i = y at j j1 ⊢
    unfold st_X1_carry_10
    dsimp only
    rw [j1]
    have g := zt_geo dw hd i hi
    have du := zt_dual2 (d := 8 - dw) hi hk (by omega)
    rw [show 8 - (8 - dw) = dw by omega] at du
    show (if r_X7_isCell (zgX i + ze dw) (zgY i + zf dw) = (0 : Int32) then y.2.1 else upd y.2.1 ((((zgY i + zf dw) * (8 : Int32)) + (zgX i + ze dw))).toNatClampNeg (y.2.1 ((((zgY i + zf dw) * (8 : Int32)) + (zgX i + ze dw))).toNatClampNeg + s i / (4 : Int32))) k = _
    by_cases c : r_X7_isCell (zgX i + ze dw) (zgY i + zf dw) = (0 : Int32)
    · rw [if_pos c] at g ⊢
      have ne : zt k (8 - dw) ≠ i := fun z => absurd (du.mp z) (by omega)
      rw [j k hk]
      by_cases q : zt k (8 - dw) < i
      · rw [if_pos q, if_pos (by omega)]
      · rw [if_neg q, if_neg (by omega)]
    · rw [if_neg c] at g ⊢
      rw [g]
      by_cases e : zt i dw = k
      · have e2 := du.mpr e
        rw [e, upd_i, j k hk, e2, if_neg (Nat.lt_irrefl i), if_pos (Nat.lt_succ_self i)]
        exact Int32.zero_add _
      · have ne : zt k (8 - dw) ≠ i := fun z => e (du.mp z)
        rw [upd_o (fun z => e z.symm), j k hk]
        by_cases q : zt k (8 - dw) < i
        · rw [if_pos q, if_pos (by omega)]
        · rw [if_neg q, if_neg (by omega)]
theorem zSmB_carry (hd : dw < 9) (bs : zBd 48 M s) (hM : M ≤ 2000000) : zBd 48 M (g_X1_carry_x_2 s (ze dw) (zf dw) bl) := by
  intro k hk
  show ∃ m, m ≤ M ∧ lp_X1_carry_103 _ _ 48 k = nI m
  rw [zcar2 48 (Nat.le_refl _) k hk, if_pos hk, (zcar (wx := ze dw) (wy := zf dw) (bl := bl) (bl' := bl) (zEq_r (f := s)) 48 (Nat.le_refl _)).1 k hk, if_pos hk, zbrc hd 48 (Nat.le_refl _) k hk]
  obtain ⟨m, hm, em⟩ := bs k hk
  have d4 : ∀ x, x ≤ M → nI x / (4 : Int32) = nI (x / 4) := fun x hx => pk_div (by omega) (by decide) (by decide)
  rw [em, d4 m hm, zsubN (Nat.div_le_self m 4)]
  by_cases c : zt k (8 - dw) < 48
  · rw [if_pos c]
    obtain ⟨m', hm', em'⟩ := bs _ c
    rw [em', d4 m' hm', nI_add]
    exact ⟨_, by omega, rfl⟩
  · rw [if_neg c]
    exact ⟨m - m / 4, by omega, Int32.add_zero _⟩
theorem zSmB_carN {br : Nat → Int32} (hd : dw < 9) (bs : zBd 48 M s) (hM : M ≤ 2000000) : ∀ n, zBd 48 M (lp_X1_runModel_14 (ze dw) (zf dw) (s, br, bl) n).1 := by
  intro n
  induction n with
  | zero => rw [lp_X1_runModel_14_0]; exact bs
  | succ n ih =>
    rw [lp_X1_runModel_14_s]
    exact zSmB_carry hd ih hM
theorem zSmB_hour {fu fi ln cl cp : Nat → Int32} {w ra : Nat} {mk st : Int64} (hd : dw < 9) (bu : zBd 48 99 fu) (bi : zBd 48 9 fi) (bs : zBd 48 M s) (hr : ra ≤ 9) (hM : M ≤ 1000000) : zBd 48 (M + 90) (g_X1_runModel_x_2 fu fi s ln cl cp (ze dw) (zf dw) (nI w) (nI ra) mk bl st w) := by
  have d5 := zdigb (p := cp) (c := cl) (ln := ln) bi 3
  obtain ⟨h, -⟩ := zSmB_burn (mk := mk) bu d5 bs hr hM 48 (Nat.le_refl _)
  have b1 : zBd 48 (M + 90) (lp_X1_burn_9 (nI ra / (3 : Int32)) (fu, (lp_X1_dig_2 cp (fi, ln, cl) 3).1, s, mk) 48).2.2.1 := fun k hk => by
    obtain ⟨m, h1, h2⟩ := h k hk
    exact ⟨m, by omega, h2⟩
  exact zSmB_settle (zSmB_carN hd b1 (by omega) w) hr (by omega) 48 (Nat.le_refl _)
end ZSC
/-! mended smoke stays within its bounds -/
theorem zIof {x : Int32} {n : Nat} (h : x.toInt = (n : Int)) : x = nI n := by
  apply Int32.toInt_inj.mp
  have hb : n < 2 ^ 31 := by have := x.toInt_lt; omega
  rw [h, nI_toInt hb]
theorem zmendv {a s T M : Nat} (ha : a ≤ 9999) (hs : s ≤ M) (hM : 9999 ≤ M ∧ M ≤ 1000000) (hT : 1 ≤ T ∧ T ≤ 1000) : ∃ m, m ≤ M ∧ (nI s + ((nI a - nI s) * nI T) / (nI T + (100 : Int32))) = nI m := by
  have t1 := nI_toInt (show a < 2 ^ 31 by omega)
  have t2 := nI_toInt (show s < 2 ^ 31 by omega)
  have t3 := nI_toInt (show T < 2 ^ 31 by omega)
  have hden : nI T + (100 : Int32) = nI (T + 100) := by rw [show (100 : Int32) = nI 100 from rfl, nI_add]
  have t4 := nI_toInt (show T + 100 < 2 ^ 31 by omega)
  have d1 : (nI a - nI s).toInt = (a : Int) - s := by rw [zsub (by omega) (by omega), t1, t2]
  by_cases c : s ≤ a
  · refine ⟨s + (a - s) * T / (T + 100), ?_, ?_⟩
    · have h1 : (a - s) * T / (T + 100) ≤ a - s := by
        apply Nat.div_le_of_le_mul
        rw [Nat.mul_comm (T + 100)]
        exact Nat.mul_le_mul_left _ (by omega)
      omega
    · have hl : (a - s) * T ≤ 9999 * 1000 := Nat.mul_le_mul (by omega) hT.2
      rw [zsubN c, pk_mul, hden, pk_div (by omega) (by omega) (by omega), nI_add]
  · have hc : a < s := by omega
    have hl : (s - a) * T ≤ 1000000 * 1000 := Nat.mul_le_mul (by omega) hT.2
    have h1 : (s - a) * T / (T + 100) ≤ s - a := by
      apply Nat.div_le_of_le_mul
      rw [Nat.mul_comm (T + 100)]
      exact Nat.mul_le_mul_left _ (by omega)
    have e1 : nI a - nI s = -(nI (s - a)) := by
      rw [← zsubN (Nat.le_of_lt hc), Int32.neg_sub]
    have e2 : (nI a - nI s) * nI T = -(nI ((s - a) * T)) := by rw [e1, Int32.neg_mul, pk_mul]
    have t5 := nI_toInt (show (s - a) * T < 2 ^ 31 by omega)
    have e3 : (-(nI ((s - a) * T))).toInt = -(((s - a) * T : Nat) : Int) := by
      have h := zsub (a := (0 : Int32)) (b := nI ((s - a) * T)) (by rw [t5, show (0 : Int32).toInt = 0 by decide]; omega) (by rw [t5, show (0 : Int32).toInt = 0 by decide]; omega)
      rw [Int32.zero_sub, t5, show (0 : Int32).toInt = 0 by decide] at h
      rw [h]; omega
    have e4 : (-(nI ((s - a) * T)) / nI (T + 100)).toInt = -(((s - a) * T / (T + 100) : Nat) : Int) := by
      rw [Int32.toInt_div, e3, t4, Int.neg_tdiv, ← Int.ofNat_tdiv]
      simp only [Int.bmod]
      generalize (s - a) * T / (T + 100) = z at h1 ⊢
      split <;> omega
    rw [e2, hden]
    generalize (s - a) * T / (T + 100) = z at h1 e4 ⊢
    refine ⟨s - z, by omega, ?_⟩
    have e5 : -(nI ((s - a) * T)) / nI (T + 100) = -(nI (z)) := by
      apply Int32.toInt_inj.mp
      rw [e4]
      have t6 := nI_toInt (show z < 2 ^ 31 by omega)
      have h := zsub (a := (0 : Int32)) (b := nI (z)) (by rw [t6, show (0 : Int32).toInt = 0 by decide]; omega) (by rw [t6, show (0 : Int32).toInt = 0 by decide]; omega)
      rw [Int32.zero_sub, t6, show (0 : Int32).toInt = 0 by decide] at h
      rw [h]; omega
    rw [e5, ← Int32.sub_eq_add_neg, zsubN (by omega)]
section ZSM
variable {tr pl hd va lo x y tr' va' out sm : Nat → Int32} {n M : Nat} {me : Int64}
theorem zmendW (hp : ∀ k, k < n → zSv (pl k) (x k) (y k)) (hr : ∀ k, k < n → zSr (hd k) (va k) (va' k)) (ht : ∀ k, k < n → ∃ m, m ≤ 100 ∧ tr k = nI m ∧ tr' k = nI m) (v : Nat) : ∀ j, j ≤ n → ∃ T W, T ≤ 100 * j ∧ W ≤ 9999 * T ∧ lp_X4_mendAll_16 tr pl hd va lo v ((0 : Int32), (0 : Int32)) j = (nI T, nI W) := by
  intro j
  induction j with
  | zero => intro _; rw [lp_X4_mendAll_16_0]; exact ⟨0, 0, Nat.le_refl _, Nat.le_refl _, rfl⟩
  | succ j ih =>
    intro hj
    obtain ⟨T, W, hT, hW, e1⟩ := ih (by omega)
    rw [lp_X4_mendAll_16_s, e1]
    unfold st_X4_mendAll_16
    dsimp only
    obtain ⟨m, hm, t1, t2⟩ := ht j (by omega)
    obtain ⟨g1, g2⟩ := zhasr (hr j (by omega))
    rw [t1]
    by_cases c1 : pl j = nI v
    · rw [if_pos c1, if_pos c1]
      by_cases c2 : hd j = (0 : Int32)
      · rw [if_pos c2, if_pos c2]
        exact ⟨T, W, by omega, hW, rfl⟩
      · rw [if_neg c2, if_neg c2]
        by_cases c3 : lo j = (0 : Int32)
        · rw [if_pos c3, if_pos c3]
          obtain ⟨q, hq, v1, v2⟩ := g2 c2
          rw [v1, pk_mul, nI_add, nI_add]
          have hmq : m * q ≤ m * 9999 := Nat.mul_le_mul_left m hq
          exact ⟨T + m, W + m * q, by omega, by omega, rfl⟩
        · rw [if_neg c3, if_neg c3]
          exact ⟨T, W, by omega, hW, rfl⟩
    · rw [if_neg c1, if_neg c1]
      exact ⟨T, W, by omega, hW, rfl⟩
theorem zSmB_mend (hp : ∀ k, k < n → zSv (pl k) (x k) (y k)) (hr : ∀ k, k < n → zSr (hd k) (va k) (va' k)) (ht : ∀ k, k < n → ∃ m, m ≤ 100 ∧ tr k = nI m ∧ tr' k = nI m) (hn : n ≤ 10) (hM : 9999 ≤ M ∧ M ≤ 1000000) (bs : zBd 48 M sm) : ∀ i, i ≤ 48 → zBd 48 M (lp_X4_mendAll_2 tr pl hd va lo n (me, sm) i).2 := by
  intro i
  induction i with
  | zero => intro _; rw [lp_X4_mendAll_2_0]; exact bs
  | succ i ih =>
    intro hi
    have j := ih (by omega)
    rw [lp_X4_mendAll_2_s]
    generalize lp_X4_mendAll_2 tr pl hd va lo n (me, sm) i = u at j ⊢
    unfold st_X4_mendAll_2
    obtain ⟨T, W, hT, hW, e1⟩ := zmendW (lo := lo) hp hr ht i n (Nat.le_refl _)
    rw [e1]
    dsimp only
    by_cases z : nI T ≤ (0 : Int32)
    · rw [if_pos z]; exact j
    · rw [if_neg z]
      have hT0 : 1 ≤ T := by
        rcases Nat.eq_zero_or_pos T with q | q
        · rw [q] at z; exact absurd Int32.le_rfl z
        · exact q
      obtain ⟨s, hs, es⟩ := j i (by omega)
      rw [es, show nI W / nI T = nI (W / T) from pk_div (by omega) (by omega) (by omega)]
      have ha : W / T ≤ 9999 := Nat.div_le_of_le_mul (by rw [Nat.mul_comm]; exact hW)
      obtain ⟨m, hm, em⟩ := zmendv ha hs hM ⟨hT0, by omega⟩
      exact zBd_u j hm em
end ZSM
end
section
/-! what class and reference have alike, and that an hour keeps it -/
def zRwi (w7 w8 w9 w10 m6 m7 m8 m9 : Int32) : Prop := ∃ dw w ra, dw < 9 ∧ w ≤ 4 ∧ (0 < w → dw ≠ 4) ∧ ra ≤ 9 ∧ w7 = ze dw ∧ w8 = zf dw ∧ w9 = nI w ∧ w10 = nI ra ∧ m6 = w7 ∧ m7 = w8 ∧ m8 = w9 ∧ m9 = w10
def zRll (h : Nat) (la : zLand) (ml : zMl) : Prop := zLnd la.1 la.2.1 la.2.2.1 la.2.2.2.1 la.2.2.2.2.1 la.2.2.2.2.2.1 ml.1 ml.2.2.2.1 ml.2.2.2.2.1 ml.2.2.2.2.2.1 ml.2.1 ml.2.2.1 ∧ zRwi la.2.2.2.2.2.2.2.1 la.2.2.2.2.2.2.2.2.1 la.2.2.2.2.2.2.2.2.2.1 la.2.2.2.2.2.2.2.2.2.2.1 ml.2.2.2.2.2.2.1 ml.2.2.2.2.2.2.2.1 ml.2.2.2.2.2.2.2.2.1 ml.2.2.2.2.2.2.2.2.2.1 ∧ la.2.2.2.2.2.2.2.2.2.2.2.1 = ml.2.2.2.2.2.2.2.2.2.2.1 ∧ la.2.2.2.2.2.2.2.2.2.2.2.2.1 = ml.2.2.2.2.2.2.2.2.2.2.2.1 ∧ la.2.2.2.2.2.2.2.2.2.2.2.2.2 = ml.2.2.2.2.2.2.2.2.2.2.2.2 ∧ zBd 48 (9999 + 90 * h) la.2.2.1
def zRls (n : Nat) (se : zSens) (te : zMs) : Prop := n = te.1 ∧ (∀ k, k < n → zSv (se.2.1 k) (te.2.1 k) (te.2.2.1 k) ∧ zSr (se.2.2.1 k) (se.2.2.2.1 k) (te.2.2.2.2.1 k) ∧ zStv (se.1 k) (se.2.2.2.2.1 k) (se.2.2.2.2.2.1 k) (se.2.2.2.2.2.2.1 k) (te.2.2.2.1 k) (te.2.2.2.2.2.1 k) (te.2.2.2.2.2.2.1 k) (te.2.2.2.2.2.2.2 k)) ∧ (∀ k, n ≤ k → se.2.2.1 k = (0 : Int32) ∧ se.2.2.2.2.1 k = (0 : Int32) ∧ se.2.2.2.2.2.1 k = (0 : Int32))
def zRlu (n : Nat) (su : zSubs) (sb : zMb) : Prop := n = sb.1 ∧ (∀ k, k < n → su.2.1 k = sb.2.1 k ∧ (su.2.2.1 k = sb.2.2.1 k ∧ ∃ m, m ≤ 9999 ∧ sb.2.2.1 k = nI m) ∧ su.2.2.2.1 k = sb.2.2.2.1 k ∧ su.2.2.2.2.1 k = sb.2.2.2.2.1 k ∧ su.1 k = sb.2.2.2.2.2 k) ∧ (∀ k, n ≤ k → su.1 k = (0 : Int32))
def zRlw (su : zSubs) (wa : zMw) : Prop := su.2.2.2.2.2.2.2.2.2.1 = wa.1 ∧ zSn su.2.2.2.2.2.2.2.2.2.1 su.2.2.2.2.2.2.1 su.2.2.2.2.2.2.2.1 su.2.2.2.2.2.2.2.2.1 wa.2.1 wa.2.2.1 wa.2.2.2
def zRlc (n : Nat) (sc : zScho) (so : zMo) : Prop := n = so.1 ∧ ∀ k, k < n → sc.2.1 k = so.2.1 k ∧ sc.2.2.1 k = so.2.2.1 k ∧ zOp (sc.1 k) (so.2.2.2 k)
def zRl (v : zWv) (md : zMd) (ml : zMl) (te : zMs) (sb : zMb) (so : zMo) (wa : zMw) : Prop := zRll v.1.toNatClampNeg v.2.1 ml ∧ v.2.2.2.2.1.2.2.2.2.2.2.2.2.2 = md.2.2.1 ∧ v.2.2.2.2.2.2.2.2.2.2 = md.2.2.2 ∧ zRls (nsv v) v.2.2.2.2.1 te ∧ zRlu (nuv v) v.2.2.2.2.2.1 sb ∧ zRlw v.2.2.2.2.2.1 wa ∧ zRlc (ncv v) v.2.2.2.2.2.2 so
theorem zfgt {f : Nat → Int32} {n : Nat} : ∀ i, i ≤ n → ∀ k, k < n → lp_X4_forgetReadings_2 f i k = (if k < i then (0 : Int32) else f k) := by
  intro i
  induction i with
  | zero => intro _ k _; rw [lp_X4_forgetReadings_2_0, if_neg (Nat.not_lt_zero k)]
  | succ i ih =>
    intro hi k hk
    rw [lp_X4_forgetReadings_2_s]
    unfold st_X4_forgetReadings_2
    by_cases e : k = i
    · rw [e, upd_i, if_pos (Nat.lt_succ_self i)]
    · rw [upd_o e, ih (by omega) k hk]
      by_cases q : k < i
      · rw [if_pos q, if_pos (by omega)]
      · rw [if_neg q, if_neg (by omega)]
theorem zfgto {f : Nat → Int32} {n : Nat} : ∀ i, i ≤ n → ∀ k, n ≤ k → lp_X4_forgetReadings_2 f i k = f k := by
  intro i
  induction i with
  | zero => intro _ k _; rw [lp_X4_forgetReadings_2_0]
  | succ i ih =>
    intro hi k hk
    rw [lp_X4_forgetReadings_2_s]
    unfold st_X4_forgetReadings_2
    rw [upd_o (by omega)]
    exact ih (by omega) k hk
theorem zjo {V tr lo db ag : Nat → Int32} {n : Nat} (hn : n ≤ 10) : ∀ i, i ≤ n → ∀ k, n ≤ k → (lp_X4_judgeAll_29 V (tr, lo, db, ag) i).2.1 k = lo k ∧ (lp_X4_judgeAll_29 V (tr, lo, db, ag) i).2.2.1 k = db k := by
  intro i
  induction i with
  | zero => intro _ k _; rw [lp_X4_judgeAll_29_0]; exact ⟨rfl, rfl⟩
  | succ i ih =>
    intro hi k hk
    obtain ⟨j1, j2⟩ := ih (by omega) k hk
    rw [lp_X4_judgeAll_29_s]
    generalize lp_X4_judgeAll_29 V (tr, lo, db, ag) i = u at j1 j2 ⊢
    unfold st_X4_judgeAll_29
    dsimp only
    rw [be4 (by omega), be5 (by omega), do4 (by omega), do5 (by omega)]
    by_cases c1 : V i = (1 : Int32)
    · rw [if_pos c1, if_pos c1, upd_o (by omega), upd_o (by omega)]; exact ⟨j1, j2⟩
    · rw [if_neg c1, if_neg c1]
      by_cases c2 : V i = (2 : Int32)
      · rw [if_pos c2, if_pos c2, upd_o (by omega), upd_o (by omega)]; exact ⟨j1, j2⟩
      · rw [if_neg c2, if_neg c2]; exact ⟨j1, j2⟩
theorem zwo {a1 a2 a3 a4 sm w0 w6 w7 w8 : Nat → Int32} {hr hd : Int32} {q a t b n : Nat} : ∀ i, i ≤ n → ∀ k, n ≤ k → (lp_X5_warnAll_3 a1 a2 a3 a4 sm hr hd (w0, w6, w7, w8, q, a, t, b) i).1 k = w0 k := by
  intro i
  induction i with
  | zero => intro _ k _; rw [lp_X5_warnAll_3_0]
  | succ i ih =>
    intro hi k hk
    have j := ih (by omega) k hk
    rw [lp_X5_warnAll_3_s]
    unfold st_X5_warnAll_3
    dsimp only
    (repeat' split) <;> first | exact j | (rw [upd_o (by omega)]; exact j)
theorem zfgt2 {f : Nat → Int32} {n : Nat} : ∀ i, i ≤ n → ∀ k, k < n → lp_X12_pass_102 f i k = (if k < i then (-1 : Int32) else f k) := by
  intro i
  induction i with
  | zero => intro _ k _; rw [lp_X12_pass_102_0, if_neg (Nat.not_lt_zero k)]
  | succ i ih =>
    intro hi k hk
    rw [lp_X12_pass_102_s]
    unfold st_X12_pass_102
    by_cases e : k = i
    · rw [e, upd_i, if_pos (Nat.lt_succ_self i)]
    · rw [upd_o e, ih (by omega) k hk]
      by_cases q : k < i
      · rw [if_pos q, if_pos (by omega)]
      · rw [if_neg q, if_neg (by omega)]
theorem zifE {α : Type} {c e : Prop} [Decidable c] [Decidable e] {x X y Y : α} (hx : x = y) (h0 : c → e → x = Y) (h1 : c → ¬ e → X = Y) : (if c then (if e then x else X) else x) = (if c then Y else y) := by
  by_cases a : c
  · rw [if_pos a, if_pos a]
    by_cases b : e
    · rw [if_pos b]; exact h0 a b
    · rw [if_neg b]; exact h1 a b
  · rw [if_neg a, if_neg a]; exact hx
theorem zifO {c e : Prop} [Decidable c] [Decidable e] {x X y Y : Nat → Int32} {k : Nat} (hx : zOp (x k) (y k)) (h0 : c → e → zOp (x k) (Y k)) (h1 : c → ¬ e → zOp (X k) (Y k)) : zOp ((if c then (if e then x else X) else x) k) ((if c then Y else y) k) := by
  by_cases a : c
  · rw [if_pos a, if_pos a]
    by_cases b : e
    · rw [if_pos b]; exact h0 a b
    · rw [if_neg b]; exact h1 a b
  · rw [if_neg a, if_neg a]; exact hx
set_option maxHeartbeats 4000000 in
set_option maxRecDepth 100000 in
theorem zHR {wo : zWor} {la : zLand} {ou : zOutl} {al : zLand} {se : zSens} {su : zSubs} {sc : zScho} {md : zMd} {ml : zMl} {te : zMs} {sb : zMb} {so : zMo} {wa : zMw} {l4 : Int32} {r4 K i h k sn : Nat} (R : zRl (wo, la, ou, al, se, su, sc) md ml te sb so wa) (w : zW10 (wo, la, ou, al, se, su, sc)) (hwo : wo = nI h) (hh : h ≤ 998) (hmd : md.2.1 = wo) (hk : k = kv (wo, la, ou, al, se, su, sc)) (hsn : sn = snv ml) : zRl (f_X6_runHour_wo wo la ou al se su sc (nsv (wo, la, ou, al, se, su, sc)) (nuv (wo, la, ou, al, se, su, sc)) (ncv (wo, la, ou, al, se, su, sc)) k K, f_X6_runHour_la wo la ou al se su sc (nsv (wo, la, ou, al, se, su, sc)) (nuv (wo, la, ou, al, se, su, sc)) (ncv (wo, la, ou, al, se, su, sc)) k K, f_X6_runHour_ou wo la ou al se su sc (nsv (wo, la, ou, al, se, su, sc)) (nuv (wo, la, ou, al, se, su, sc)) (ncv (wo, la, ou, al, se, su, sc)) k K, f_X6_runHour_al wo la ou al se su sc (nsv (wo, la, ou, al, se, su, sc)) (nuv (wo, la, ou, al, se, su, sc)) (ncv (wo, la, ou, al, se, su, sc)) k K, f_X6_runHour_se wo la ou al se su sc (nsv (wo, la, ou, al, se, su, sc)) (nuv (wo, la, ou, al, se, su, sc)) (ncv (wo, la, ou, al, se, su, sc)) k K, f_X6_runHour_su wo la ou al se su sc (nsv (wo, la, ou, al, se, su, sc)) (nuv (wo, la, ou, al, se, su, sc)) (ncv (wo, la, ou, al, se, su, sc)) k K, f_X6_runHour_sc wo la ou al se su sc (nsv (wo, la, ou, al, se, su, sc)) (nuv (wo, la, ou, al, se, su, sc)) (ncv (wo, la, ou, al, se, su, sc)) k K) (md.1, (st_X12_pass_42 ml.2.2.1 ml.2.2.2.2.2.2.1 ml.2.2.2.2.2.2.2.1 ml.2.2.2.2.2.2.2.2.1 ml.2.2.2.2.2.2.2.2.2.1 sb.1 sb.2.1 sb.2.2.1 sb.2.2.2.1 sb.2.2.2.2.1 te.1 te.2.1 te.2.2.1 so.1 so.2.1 so.2.2.1 sn i (l4, md.2.1, md.2.2.1, md.2.2.2, ml.1, ml.2.1, ml.2.2.2.1, ml.2.2.2.2.1, ml.2.2.2.2.2.1, ml.2.2.2.2.2.2.2.2.2.2.1, ml.2.2.2.2.2.2.2.2.2.2.2.1, ml.2.2.2.2.2.2.2.2.2.2.2.2, r4, sb.2.2.2.2.2, te.2.2.2.1, te.2.2.2.2.1, te.2.2.2.2.2.1, te.2.2.2.2.2.2.1, te.2.2.2.2.2.2.2, so.2.2.2, wa.1, wa.2.1, wa.2.2.1, wa.2.2.2)).2.1, (st_X12_pass_42 ml.2.2.1 ml.2.2.2.2.2.2.1 ml.2.2.2.2.2.2.2.1 ml.2.2.2.2.2.2.2.2.1 ml.2.2.2.2.2.2.2.2.2.1 sb.1 sb.2.1 sb.2.2.1 sb.2.2.2.1 sb.2.2.2.2.1 te.1 te.2.1 te.2.2.1 so.1 so.2.1 so.2.2.1 sn i (l4, md.2.1, md.2.2.1, md.2.2.2, ml.1, ml.2.1, ml.2.2.2.1, ml.2.2.2.2.1, ml.2.2.2.2.2.1, ml.2.2.2.2.2.2.2.2.2.2.1, ml.2.2.2.2.2.2.2.2.2.2.2.1, ml.2.2.2.2.2.2.2.2.2.2.2.2, r4, sb.2.2.2.2.2, te.2.2.2.1, te.2.2.2.2.1, te.2.2.2.2.2.1, te.2.2.2.2.2.2.1, te.2.2.2.2.2.2.2, so.2.2.2, wa.1, wa.2.1, wa.2.2.1, wa.2.2.2)).2.2.1, (st_X12_pass_42 ml.2.2.1 ml.2.2.2.2.2.2.1 ml.2.2.2.2.2.2.2.1 ml.2.2.2.2.2.2.2.2.1 ml.2.2.2.2.2.2.2.2.2.1 sb.1 sb.2.1 sb.2.2.1 sb.2.2.2.1 sb.2.2.2.2.1 te.1 te.2.1 te.2.2.1 so.1 so.2.1 so.2.2.1 sn i (l4, md.2.1, md.2.2.1, md.2.2.2, ml.1, ml.2.1, ml.2.2.2.1, ml.2.2.2.2.1, ml.2.2.2.2.2.1, ml.2.2.2.2.2.2.2.2.2.2.1, ml.2.2.2.2.2.2.2.2.2.2.2.1, ml.2.2.2.2.2.2.2.2.2.2.2.2, r4, sb.2.2.2.2.2, te.2.2.2.1, te.2.2.2.2.1, te.2.2.2.2.2.1, te.2.2.2.2.2.2.1, te.2.2.2.2.2.2.2, so.2.2.2, wa.1, wa.2.1, wa.2.2.1, wa.2.2.2)).2.2.2.1) ((st_X12_pass_42 ml.2.2.1 ml.2.2.2.2.2.2.1 ml.2.2.2.2.2.2.2.1 ml.2.2.2.2.2.2.2.2.1 ml.2.2.2.2.2.2.2.2.2.1 sb.1 sb.2.1 sb.2.2.1 sb.2.2.2.1 sb.2.2.2.2.1 te.1 te.2.1 te.2.2.1 so.1 so.2.1 so.2.2.1 sn i (l4, md.2.1, md.2.2.1, md.2.2.2, ml.1, ml.2.1, ml.2.2.2.1, ml.2.2.2.2.1, ml.2.2.2.2.2.1, ml.2.2.2.2.2.2.2.2.2.2.1, ml.2.2.2.2.2.2.2.2.2.2.2.1, ml.2.2.2.2.2.2.2.2.2.2.2.2, r4, sb.2.2.2.2.2, te.2.2.2.1, te.2.2.2.2.1, te.2.2.2.2.2.1, te.2.2.2.2.2.2.1, te.2.2.2.2.2.2.2, so.2.2.2, wa.1, wa.2.1, wa.2.2.1, wa.2.2.2)).2.2.2.2.1, (st_X12_pass_42 ml.2.2.1 ml.2.2.2.2.2.2.1 ml.2.2.2.2.2.2.2.1 ml.2.2.2.2.2.2.2.2.1 ml.2.2.2.2.2.2.2.2.2.1 sb.1 sb.2.1 sb.2.2.1 sb.2.2.2.1 sb.2.2.2.2.1 te.1 te.2.1 te.2.2.1 so.1 so.2.1 so.2.2.1 sn i (l4, md.2.1, md.2.2.1, md.2.2.2, ml.1, ml.2.1, ml.2.2.2.1, ml.2.2.2.2.1, ml.2.2.2.2.2.1, ml.2.2.2.2.2.2.2.2.2.2.1, ml.2.2.2.2.2.2.2.2.2.2.2.1, ml.2.2.2.2.2.2.2.2.2.2.2.2, r4, sb.2.2.2.2.2, te.2.2.2.1, te.2.2.2.2.1, te.2.2.2.2.2.1, te.2.2.2.2.2.2.1, te.2.2.2.2.2.2.2, so.2.2.2, wa.1, wa.2.1, wa.2.2.1, wa.2.2.2)).2.2.2.2.2.1, ml.2.2.1, (st_X12_pass_42 ml.2.2.1 ml.2.2.2.2.2.2.1 ml.2.2.2.2.2.2.2.1 ml.2.2.2.2.2.2.2.2.1 ml.2.2.2.2.2.2.2.2.2.1 sb.1 sb.2.1 sb.2.2.1 sb.2.2.2.1 sb.2.2.2.2.1 te.1 te.2.1 te.2.2.1 so.1 so.2.1 so.2.2.1 sn i (l4, md.2.1, md.2.2.1, md.2.2.2, ml.1, ml.2.1, ml.2.2.2.1, ml.2.2.2.2.1, ml.2.2.2.2.2.1, ml.2.2.2.2.2.2.2.2.2.2.1, ml.2.2.2.2.2.2.2.2.2.2.2.1, ml.2.2.2.2.2.2.2.2.2.2.2.2, r4, sb.2.2.2.2.2, te.2.2.2.1, te.2.2.2.2.1, te.2.2.2.2.2.1, te.2.2.2.2.2.2.1, te.2.2.2.2.2.2.2, so.2.2.2, wa.1, wa.2.1, wa.2.2.1, wa.2.2.2)).2.2.2.2.2.2.1, (st_X12_pass_42 ml.2.2.1 ml.2.2.2.2.2.2.1 ml.2.2.2.2.2.2.2.1 ml.2.2.2.2.2.2.2.2.1 ml.2.2.2.2.2.2.2.2.2.1 sb.1 sb.2.1 sb.2.2.1 sb.2.2.2.1 sb.2.2.2.2.1 te.1 te.2.1 te.2.2.1 so.1 so.2.1 so.2.2.1 sn i (l4, md.2.1, md.2.2.1, md.2.2.2, ml.1, ml.2.1, ml.2.2.2.1, ml.2.2.2.2.1, ml.2.2.2.2.2.1, ml.2.2.2.2.2.2.2.2.2.2.1, ml.2.2.2.2.2.2.2.2.2.2.2.1, ml.2.2.2.2.2.2.2.2.2.2.2.2, r4, sb.2.2.2.2.2, te.2.2.2.1, te.2.2.2.2.1, te.2.2.2.2.2.1, te.2.2.2.2.2.2.1, te.2.2.2.2.2.2.2, so.2.2.2, wa.1, wa.2.1, wa.2.2.1, wa.2.2.2)).2.2.2.2.2.2.2.1, (st_X12_pass_42 ml.2.2.1 ml.2.2.2.2.2.2.1 ml.2.2.2.2.2.2.2.1 ml.2.2.2.2.2.2.2.2.1 ml.2.2.2.2.2.2.2.2.2.1 sb.1 sb.2.1 sb.2.2.1 sb.2.2.2.1 sb.2.2.2.2.1 te.1 te.2.1 te.2.2.1 so.1 so.2.1 so.2.2.1 sn i (l4, md.2.1, md.2.2.1, md.2.2.2, ml.1, ml.2.1, ml.2.2.2.1, ml.2.2.2.2.1, ml.2.2.2.2.2.1, ml.2.2.2.2.2.2.2.2.2.2.1, ml.2.2.2.2.2.2.2.2.2.2.2.1, ml.2.2.2.2.2.2.2.2.2.2.2.2, r4, sb.2.2.2.2.2, te.2.2.2.1, te.2.2.2.2.1, te.2.2.2.2.2.1, te.2.2.2.2.2.2.1, te.2.2.2.2.2.2.2, so.2.2.2, wa.1, wa.2.1, wa.2.2.1, wa.2.2.2)).2.2.2.2.2.2.2.2.1, ml.2.2.2.2.2.2.1, ml.2.2.2.2.2.2.2.1, ml.2.2.2.2.2.2.2.2.1, ml.2.2.2.2.2.2.2.2.2.1, (st_X12_pass_42 ml.2.2.1 ml.2.2.2.2.2.2.1 ml.2.2.2.2.2.2.2.1 ml.2.2.2.2.2.2.2.2.1 ml.2.2.2.2.2.2.2.2.2.1 sb.1 sb.2.1 sb.2.2.1 sb.2.2.2.1 sb.2.2.2.2.1 te.1 te.2.1 te.2.2.1 so.1 so.2.1 so.2.2.1 sn i (l4, md.2.1, md.2.2.1, md.2.2.2, ml.1, ml.2.1, ml.2.2.2.1, ml.2.2.2.2.1, ml.2.2.2.2.2.1, ml.2.2.2.2.2.2.2.2.2.2.1, ml.2.2.2.2.2.2.2.2.2.2.2.1, ml.2.2.2.2.2.2.2.2.2.2.2.2, r4, sb.2.2.2.2.2, te.2.2.2.1, te.2.2.2.2.1, te.2.2.2.2.2.1, te.2.2.2.2.2.2.1, te.2.2.2.2.2.2.2, so.2.2.2, wa.1, wa.2.1, wa.2.2.1, wa.2.2.2)).2.2.2.2.2.2.2.2.2.1, (st_X12_pass_42 ml.2.2.1 ml.2.2.2.2.2.2.1 ml.2.2.2.2.2.2.2.1 ml.2.2.2.2.2.2.2.2.1 ml.2.2.2.2.2.2.2.2.2.1 sb.1 sb.2.1 sb.2.2.1 sb.2.2.2.1 sb.2.2.2.2.1 te.1 te.2.1 te.2.2.1 so.1 so.2.1 so.2.2.1 sn i (l4, md.2.1, md.2.2.1, md.2.2.2, ml.1, ml.2.1, ml.2.2.2.1, ml.2.2.2.2.1, ml.2.2.2.2.2.1, ml.2.2.2.2.2.2.2.2.2.2.1, ml.2.2.2.2.2.2.2.2.2.2.2.1, ml.2.2.2.2.2.2.2.2.2.2.2.2, r4, sb.2.2.2.2.2, te.2.2.2.1, te.2.2.2.2.1, te.2.2.2.2.2.1, te.2.2.2.2.2.2.1, te.2.2.2.2.2.2.2, so.2.2.2, wa.1, wa.2.1, wa.2.2.1, wa.2.2.2)).2.2.2.2.2.2.2.2.2.2.1, (st_X12_pass_42 ml.2.2.1 ml.2.2.2.2.2.2.1 ml.2.2.2.2.2.2.2.1 ml.2.2.2.2.2.2.2.2.1 ml.2.2.2.2.2.2.2.2.2.1 sb.1 sb.2.1 sb.2.2.1 sb.2.2.2.1 sb.2.2.2.2.1 te.1 te.2.1 te.2.2.1 so.1 so.2.1 so.2.2.1 sn i (l4, md.2.1, md.2.2.1, md.2.2.2, ml.1, ml.2.1, ml.2.2.2.1, ml.2.2.2.2.1, ml.2.2.2.2.2.1, ml.2.2.2.2.2.2.2.2.2.2.1, ml.2.2.2.2.2.2.2.2.2.2.2.1, ml.2.2.2.2.2.2.2.2.2.2.2.2, r4, sb.2.2.2.2.2, te.2.2.2.1, te.2.2.2.2.1, te.2.2.2.2.2.1, te.2.2.2.2.2.2.1, te.2.2.2.2.2.2.2, so.2.2.2, wa.1, wa.2.1, wa.2.2.1, wa.2.2.2)).2.2.2.2.2.2.2.2.2.2.2.1) (te.1, te.2.1, te.2.2.1, (st_X12_pass_42 ml.2.2.1 ml.2.2.2.2.2.2.1 ml.2.2.2.2.2.2.2.1 ml.2.2.2.2.2.2.2.2.1 ml.2.2.2.2.2.2.2.2.2.1 sb.1 sb.2.1 sb.2.2.1 sb.2.2.2.1 sb.2.2.2.2.1 te.1 te.2.1 te.2.2.1 so.1 so.2.1 so.2.2.1 sn i (l4, md.2.1, md.2.2.1, md.2.2.2, ml.1, ml.2.1, ml.2.2.2.1, ml.2.2.2.2.1, ml.2.2.2.2.2.1, ml.2.2.2.2.2.2.2.2.2.2.1, ml.2.2.2.2.2.2.2.2.2.2.2.1, ml.2.2.2.2.2.2.2.2.2.2.2.2, r4, sb.2.2.2.2.2, te.2.2.2.1, te.2.2.2.2.1, te.2.2.2.2.2.1, te.2.2.2.2.2.2.1, te.2.2.2.2.2.2.2, so.2.2.2, wa.1, wa.2.1, wa.2.2.1, wa.2.2.2)).2.2.2.2.2.2.2.2.2.2.2.2.2.2.1, (st_X12_pass_42 ml.2.2.1 ml.2.2.2.2.2.2.1 ml.2.2.2.2.2.2.2.1 ml.2.2.2.2.2.2.2.2.1 ml.2.2.2.2.2.2.2.2.2.1 sb.1 sb.2.1 sb.2.2.1 sb.2.2.2.1 sb.2.2.2.2.1 te.1 te.2.1 te.2.2.1 so.1 so.2.1 so.2.2.1 sn i (l4, md.2.1, md.2.2.1, md.2.2.2, ml.1, ml.2.1, ml.2.2.2.1, ml.2.2.2.2.1, ml.2.2.2.2.2.1, ml.2.2.2.2.2.2.2.2.2.2.1, ml.2.2.2.2.2.2.2.2.2.2.2.1, ml.2.2.2.2.2.2.2.2.2.2.2.2, r4, sb.2.2.2.2.2, te.2.2.2.1, te.2.2.2.2.1, te.2.2.2.2.2.1, te.2.2.2.2.2.2.1, te.2.2.2.2.2.2.2, so.2.2.2, wa.1, wa.2.1, wa.2.2.1, wa.2.2.2)).2.2.2.2.2.2.2.2.2.2.2.2.2.2.2.1, (st_X12_pass_42 ml.2.2.1 ml.2.2.2.2.2.2.1 ml.2.2.2.2.2.2.2.1 ml.2.2.2.2.2.2.2.2.1 ml.2.2.2.2.2.2.2.2.2.1 sb.1 sb.2.1 sb.2.2.1 sb.2.2.2.1 sb.2.2.2.2.1 te.1 te.2.1 te.2.2.1 so.1 so.2.1 so.2.2.1 sn i (l4, md.2.1, md.2.2.1, md.2.2.2, ml.1, ml.2.1, ml.2.2.2.1, ml.2.2.2.2.1, ml.2.2.2.2.2.1, ml.2.2.2.2.2.2.2.2.2.2.1, ml.2.2.2.2.2.2.2.2.2.2.2.1, ml.2.2.2.2.2.2.2.2.2.2.2.2, r4, sb.2.2.2.2.2, te.2.2.2.1, te.2.2.2.2.1, te.2.2.2.2.2.1, te.2.2.2.2.2.2.1, te.2.2.2.2.2.2.2, so.2.2.2, wa.1, wa.2.1, wa.2.2.1, wa.2.2.2)).2.2.2.2.2.2.2.2.2.2.2.2.2.2.2.2.1, (st_X12_pass_42 ml.2.2.1 ml.2.2.2.2.2.2.1 ml.2.2.2.2.2.2.2.1 ml.2.2.2.2.2.2.2.2.1 ml.2.2.2.2.2.2.2.2.2.1 sb.1 sb.2.1 sb.2.2.1 sb.2.2.2.1 sb.2.2.2.2.1 te.1 te.2.1 te.2.2.1 so.1 so.2.1 so.2.2.1 sn i (l4, md.2.1, md.2.2.1, md.2.2.2, ml.1, ml.2.1, ml.2.2.2.1, ml.2.2.2.2.1, ml.2.2.2.2.2.1, ml.2.2.2.2.2.2.2.2.2.2.1, ml.2.2.2.2.2.2.2.2.2.2.2.1, ml.2.2.2.2.2.2.2.2.2.2.2.2, r4, sb.2.2.2.2.2, te.2.2.2.1, te.2.2.2.2.1, te.2.2.2.2.2.1, te.2.2.2.2.2.2.1, te.2.2.2.2.2.2.2, so.2.2.2, wa.1, wa.2.1, wa.2.2.1, wa.2.2.2)).2.2.2.2.2.2.2.2.2.2.2.2.2.2.2.2.2.1, (st_X12_pass_42 ml.2.2.1 ml.2.2.2.2.2.2.1 ml.2.2.2.2.2.2.2.1 ml.2.2.2.2.2.2.2.2.1 ml.2.2.2.2.2.2.2.2.2.1 sb.1 sb.2.1 sb.2.2.1 sb.2.2.2.1 sb.2.2.2.2.1 te.1 te.2.1 te.2.2.1 so.1 so.2.1 so.2.2.1 sn i (l4, md.2.1, md.2.2.1, md.2.2.2, ml.1, ml.2.1, ml.2.2.2.1, ml.2.2.2.2.1, ml.2.2.2.2.2.1, ml.2.2.2.2.2.2.2.2.2.2.1, ml.2.2.2.2.2.2.2.2.2.2.2.1, ml.2.2.2.2.2.2.2.2.2.2.2.2, r4, sb.2.2.2.2.2, te.2.2.2.1, te.2.2.2.2.1, te.2.2.2.2.2.1, te.2.2.2.2.2.2.1, te.2.2.2.2.2.2.2, so.2.2.2, wa.1, wa.2.1, wa.2.2.1, wa.2.2.2)).2.2.2.2.2.2.2.2.2.2.2.2.2.2.2.2.2.2.1) (sb.1, sb.2.1, sb.2.2.1, sb.2.2.2.1, sb.2.2.2.2.1, (st_X12_pass_42 ml.2.2.1 ml.2.2.2.2.2.2.1 ml.2.2.2.2.2.2.2.1 ml.2.2.2.2.2.2.2.2.1 ml.2.2.2.2.2.2.2.2.2.1 sb.1 sb.2.1 sb.2.2.1 sb.2.2.2.1 sb.2.2.2.2.1 te.1 te.2.1 te.2.2.1 so.1 so.2.1 so.2.2.1 sn i (l4, md.2.1, md.2.2.1, md.2.2.2, ml.1, ml.2.1, ml.2.2.2.1, ml.2.2.2.2.1, ml.2.2.2.2.2.1, ml.2.2.2.2.2.2.2.2.2.2.1, ml.2.2.2.2.2.2.2.2.2.2.2.1, ml.2.2.2.2.2.2.2.2.2.2.2.2, r4, sb.2.2.2.2.2, te.2.2.2.1, te.2.2.2.2.1, te.2.2.2.2.2.1, te.2.2.2.2.2.2.1, te.2.2.2.2.2.2.2, so.2.2.2, wa.1, wa.2.1, wa.2.2.1, wa.2.2.2)).2.2.2.2.2.2.2.2.2.2.2.2.2.1) (so.1, so.2.1, so.2.2.1, (st_X12_pass_42 ml.2.2.1 ml.2.2.2.2.2.2.1 ml.2.2.2.2.2.2.2.1 ml.2.2.2.2.2.2.2.2.1 ml.2.2.2.2.2.2.2.2.2.1 sb.1 sb.2.1 sb.2.2.1 sb.2.2.2.1 sb.2.2.2.2.1 te.1 te.2.1 te.2.2.1 so.1 so.2.1 so.2.2.1 sn i (l4, md.2.1, md.2.2.1, md.2.2.2, ml.1, ml.2.1, ml.2.2.2.1, ml.2.2.2.2.1, ml.2.2.2.2.2.1, ml.2.2.2.2.2.2.2.2.2.2.1, ml.2.2.2.2.2.2.2.2.2.2.2.1, ml.2.2.2.2.2.2.2.2.2.2.2.2, r4, sb.2.2.2.2.2, te.2.2.2.1, te.2.2.2.2.1, te.2.2.2.2.2.1, te.2.2.2.2.2.2.1, te.2.2.2.2.2.2.2, so.2.2.2, wa.1, wa.2.1, wa.2.2.1, wa.2.2.2)).2.2.2.2.2.2.2.2.2.2.2.2.2.2.2.2.2.2.2.1) ((st_X12_pass_42 ml.2.2.1 ml.2.2.2.2.2.2.1 ml.2.2.2.2.2.2.2.1 ml.2.2.2.2.2.2.2.2.1 ml.2.2.2.2.2.2.2.2.2.1 sb.1 sb.2.1 sb.2.2.1 sb.2.2.2.1 sb.2.2.2.2.1 te.1 te.2.1 te.2.2.1 so.1 so.2.1 so.2.2.1 sn i (l4, md.2.1, md.2.2.1, md.2.2.2, ml.1, ml.2.1, ml.2.2.2.1, ml.2.2.2.2.1, ml.2.2.2.2.2.1, ml.2.2.2.2.2.2.2.2.2.2.1, ml.2.2.2.2.2.2.2.2.2.2.2.1, ml.2.2.2.2.2.2.2.2.2.2.2.2, r4, sb.2.2.2.2.2, te.2.2.2.1, te.2.2.2.2.1, te.2.2.2.2.2.1, te.2.2.2.2.2.2.1, te.2.2.2.2.2.2.2, so.2.2.2, wa.1, wa.2.1, wa.2.2.1, wa.2.2.2)).2.2.2.2.2.2.2.2.2.2.2.2.2.2.2.2.2.2.2.2.1, (st_X12_pass_42 ml.2.2.1 ml.2.2.2.2.2.2.1 ml.2.2.2.2.2.2.2.1 ml.2.2.2.2.2.2.2.2.1 ml.2.2.2.2.2.2.2.2.2.1 sb.1 sb.2.1 sb.2.2.1 sb.2.2.2.1 sb.2.2.2.2.1 te.1 te.2.1 te.2.2.1 so.1 so.2.1 so.2.2.1 sn i (l4, md.2.1, md.2.2.1, md.2.2.2, ml.1, ml.2.1, ml.2.2.2.1, ml.2.2.2.2.1, ml.2.2.2.2.2.1, ml.2.2.2.2.2.2.2.2.2.2.1, ml.2.2.2.2.2.2.2.2.2.2.2.1, ml.2.2.2.2.2.2.2.2.2.2.2.2, r4, sb.2.2.2.2.2, te.2.2.2.1, te.2.2.2.2.1, te.2.2.2.2.2.1, te.2.2.2.2.2.2.1, te.2.2.2.2.2.2.2, so.2.2.2, wa.1, wa.2.1, wa.2.2.1, wa.2.2.2)).2.2.2.2.2.2.2.2.2.2.2.2.2.2.2.2.2.2.2.2.2.1, (st_X12_pass_42 ml.2.2.1 ml.2.2.2.2.2.2.1 ml.2.2.2.2.2.2.2.1 ml.2.2.2.2.2.2.2.2.1 ml.2.2.2.2.2.2.2.2.2.1 sb.1 sb.2.1 sb.2.2.1 sb.2.2.2.1 sb.2.2.2.2.1 te.1 te.2.1 te.2.2.1 so.1 so.2.1 so.2.2.1 sn i (l4, md.2.1, md.2.2.1, md.2.2.2, ml.1, ml.2.1, ml.2.2.2.1, ml.2.2.2.2.1, ml.2.2.2.2.2.1, ml.2.2.2.2.2.2.2.2.2.2.1, ml.2.2.2.2.2.2.2.2.2.2.2.1, ml.2.2.2.2.2.2.2.2.2.2.2.2, r4, sb.2.2.2.2.2, te.2.2.2.1, te.2.2.2.2.1, te.2.2.2.2.2.1, te.2.2.2.2.2.2.1, te.2.2.2.2.2.2.2, so.2.2.2, wa.1, wa.2.1, wa.2.2.1, wa.2.2.2)).2.2.2.2.2.2.2.2.2.2.2.2.2.2.2.2.2.2.2.2.2.2.1, (st_X12_pass_42 ml.2.2.1 ml.2.2.2.2.2.2.1 ml.2.2.2.2.2.2.2.1 ml.2.2.2.2.2.2.2.2.1 ml.2.2.2.2.2.2.2.2.2.1 sb.1 sb.2.1 sb.2.2.1 sb.2.2.2.1 sb.2.2.2.2.1 te.1 te.2.1 te.2.2.1 so.1 so.2.1 so.2.2.1 sn i (l4, md.2.1, md.2.2.1, md.2.2.2, ml.1, ml.2.1, ml.2.2.2.1, ml.2.2.2.2.1, ml.2.2.2.2.2.1, ml.2.2.2.2.2.2.2.2.2.2.1, ml.2.2.2.2.2.2.2.2.2.2.2.1, ml.2.2.2.2.2.2.2.2.2.2.2.2, r4, sb.2.2.2.2.2, te.2.2.2.1, te.2.2.2.2.1, te.2.2.2.2.2.1, te.2.2.2.2.2.2.1, te.2.2.2.2.2.2.2, so.2.2.2, wa.1, wa.2.1, wa.2.2.1, wa.2.2.2)).2.2.2.2.2.2.2.2.2.2.2.2.2.2.2.2.2.2.2.2.2.2.2) := by
  obtain ⟨fu, fi, sm, ln, cl, cp, br, w7, w8, w9, w10, mk, bl, st⟩ := la
  obtain ⟨fu', cl', cp', fi', sm', ln', x6, x7, x8, x9, mk', bl', st'⟩ := ml
  obtain ⟨tr, pl, hd, va, lo, db, ag, vd, cn, me⟩ := se
  obtain ⟨nT, x, y, tr', va', row, out, wd'⟩ := te
  obtain ⟨wn, up, ub, uf, ut, cu, A, T, B, s, cA, ca, cb⟩ := su
  obtain ⟨nB, at', bd', fr', to', w'⟩ := sb
  obtain ⟨op, cpl, cbd, cc, cls⟩ := sc
  obtain ⟨nS, sat, sbd, ic⟩ := so
  obtain ⟨nW, A', T', B'⟩ := wa
  obtain ⟨t0, hm, me', cls'⟩ := md
  obtain ⟨⟨L, ⟨dw, wd, ra, hd9, hw4, h4, hr, e7, e8, e9, e10, m6, m7, m8, m9⟩, s1, s2, s3, SB⟩, s4, s5, ⟨en, hs, hsz⟩, ⟨eu, hu, huz⟩, ⟨ew, hq⟩, ⟨ec, hc⟩⟩ := R
  have hns := w.hns
  have hnu := w.hnu
  have hnc := w.hnc
  have hcc := w.hcc
  have hC := w.hC
  have hq0 := w.hq0
  have ha0 := w.ha0
  have hpu := w.hpu
  have hpc := w.hpc
  clear w
  replace e7 : w7 = ze dw := e7
  replace e8 : w8 = zf dw := e8
  replace e9 : w9 = nI wd := e9
  replace e10 : w10 = nI ra := e10
  replace m6 : x6 = w7 := m6
  replace m7 : x7 = w8 := m7
  replace m8 : x8 = w9 := m8
  replace m9 : x9 = w10 := m9
  replace s1 : mk = mk' := s1
  replace s2 : bl = bl' := s2
  replace s3 : st = st' := s3
  replace s4 : me = me' := s4
  replace s5 : cls = cls' := s5
  replace hmd : hm = wo := hmd
  replace en : cn.toNatClampNeg = nT := en
  replace eu : cu.toNatClampNeg = nB := eu
  replace ec : cc.toNatClampNeg = nS := ec
  replace ew : s = nW := ew
  replace hcc : cc = nI cc.toNatClampNeg := hcc
  replace hns : cn.toNatClampNeg ≤ 10 := hns
  replace hnu : cu.toNatClampNeg ≤ 12 := hnu
  replace hnc : cc.toNatClampNeg ≤ 6 := hnc
  replace hC : zCap s cA ca cb := hC
  replace hq0 : s ≤ 500000 := hq0
  replace ha0 : cA ≤ 1000000 := ha0
  subst m6 m7 m8 m9
  subst e7 e8 e9 e10
  subst s1 s2 s3 s4 s5
  subst hmd
  subst hwo
  subst en eu ec ew
  replace SB : zBd 48 (9999 + 90 * (nI h).toNatClampNeg) sm := SB
  rw [nI_clamp (by omega)] at SB
  replace L : zLnd fu fi sm ln cl cp fu' fi' sm' ln' cl' cp' := L
  replace hs : ∀ k, k < cn.toNatClampNeg → zSv (pl k) (x k) (y k) ∧ zSr (hd k) (va k) (va' k) ∧ zStv (tr k) (lo k) (db k) (ag k) (tr' k) (row k) (out k) (wd' k) := hs
  replace hu : ∀ k, k < cu.toNatClampNeg → up k = at' k ∧ (ub k = bd' k ∧ ∃ m, m ≤ 9999 ∧ bd' k = nI m) ∧ uf k = fr' k ∧ ut k = to' k ∧ wn k = w' k := hu
  replace hc : ∀ k, k < cc.toNatClampNeg → cpl k = sat k ∧ cbd k = sbd k ∧ zOp (op k) (ic k) := hc
  replace hq : zSn s A T B A' T' B' := hq
  replace hsz : ∀ k, cn.toNatClampNeg ≤ k → hd k = (0 : Int32) ∧ lo k = (0 : Int32) ∧ db k = (0 : Int32) := hsz
  replace huz : ∀ k, cu.toNatClampNeg ≤ k → wn k = (0 : Int32) := huz
  replace hpu : ∀ k, k < cu.toNatClampNeg → vp_in (up k) 48 := hpu
  replace hpc : ∀ k, k < cc.toNatClampNeg → vp_in (cpl k) 48 := hpc
  replace hk : k = (nI wd).toNatClampNeg := hk
  replace hsn : sn = (nI wd).toNatClampNeg := hsn
  rw [nI_clamp (by omega)] at hk hsn
  replace hk := hk.symm
  replace hsn := hsn.symm
  subst hk hsn
  -- the model
  have H := zhour (mk := mk) (mk' := mk) (bl := bl) (bl' := bl) (st := st) (st' := st) L hd9 hw4 h4 hr
  obtain ⟨⟨q1, q2, q3, q4, q5, q6, q7, q8, q9⟩, H11, H12, H13⟩ := H
  have bS := zSmB_hour (fu := fu) (fi := fi) (ln := ln) (cl := cl) (cp := cp) (w := wd) (mk := mk) (bl := bl) (st := st) hd9 L.2.2.2.2.2.2.1 L.2.2.2.2.2.2.2.1 SB hr (by omega)
  -- judging
  have hp1 : ∀ k, k < cn.toNatClampNeg → zSv (pl k) (x k) (y k) := fun k hk => (hs k hk).1
  have hr1 : ∀ k, k < cn.toNatClampNeg → zSr (hd k) (va k) (va' k) := fun k hk => (hs k hk).2.1
  have J := zjudge hp1 hr1 (fun k hk => (hs k hk).2.2) hns (lp_X4_judgeAll_2 pl hd va lo cn.toNatClampNeg vd cn.toNatClampNeg) (lp_X12_judge_14 cn.toNatClampNeg x y va' out (fun _ => 0) cn.toNatClampNeg) (fun k hk => by rw [zvds _ (Nat.le_refl _) k hk, if_pos hk]) (fun k hk => by rw [zmns _ (Nat.le_refl _) k hk, if_pos hk]) cn.toNatClampNeg (Nat.le_refl _)
  -- mending
  have ht1 := fun k hk => (J k hk).1
  have ho1 : ∀ k, k < cn.toNatClampNeg → (lp_X4_judgeAll_29 (lp_X4_judgeAll_2 pl hd va lo cn.toNatClampNeg vd cn.toNatClampNeg) (tr, lo, db, ag) cn.toNatClampNeg).2.1 k = (lp_X12_judge_48 va' (lp_X12_judge_14 cn.toNatClampNeg x y va' out (fun _ => 0) cn.toNatClampNeg) (tr', row, out, wd') cn.toNatClampNeg).2.2.1 k := fun k hk => by
    obtain ⟨-, z⟩ := J k hk
    rcases z with ⟨a, b, -⟩ | ⟨a, b, -⟩ <;> rw [a, b]
  have Md := zmend2 (me := me) hp1 hr1 ht1 ho1 hns q3 48 (Nat.le_refl _)
  have bM := zSmB_mend (me := me) (lo := (lp_X4_judgeAll_29 (lp_X4_judgeAll_2 pl hd va lo cn.toNatClampNeg vd cn.toNatClampNeg) (tr, lo, db, ag) cn.toNatClampNeg).2.1) hp1 hr1 ht1 hns (M := 9999 + 90 * h + 90) ⟨by omega, by omega⟩ bS 48 (Nat.le_refl _)
  have Ln : zLnd (g_X1_runModel_x_0 fu fi sm ln cl cp (nI ra) mk) (g_X1_runModel_x_1 fu fi sm ln cl cp (ze dw) (zf dw) (nI wd) (nI ra) mk) _ (g_X1_runModel_x_3 fi ln cl cp) (g_X1_runModel_x_4 fi ln cl cp) cp (g_X8_hour_ml_0 fu' cl' cp' fi' sm' ln' (nI ra) mk) (g_X8_hour_ml_3 fu' cl' cp' fi' sm' ln' (ze dw) (zf dw) (nI wd) (nI ra) mk) _ (g_X8_hour_ml_5 cl' cp' fi' ln') (g_X8_hour_ml_1 cl' cp' fi' ln') cp' := ⟨q1, q2, Md.2, q4, q5, q6, q7, q8, q9⟩
  -- warning
  have Wn := zwarnR (hr := nI h) (l4 := l4) (N := r4) (sm := _) (sm' := _) (fun k hk => ⟨(hu k hk).1, hpu k hk⟩) (fun k hk => (hu k hk).2.1) (fun k hk => (hu k hk).2.2.1) (fun k hk => (hu k hk).2.2.2.1) Md.2 (fun k hk => by obtain ⟨m, h1, h2⟩ := bM k hk; exact ⟨m, by omega, h2⟩) hnu (fun k hk => (hu k hk).2.2.2.2) hq (fun i hi => (zwarn hC (by omega) (by omega) i (by omega)).1) cu.toNatClampNeg (Nat.le_refl _)
  -- schools
  have hz0 : cc ≤ (0 : Int32) → cc.toNatClampNeg = 0 := fun z => by
    rcases Nat.eq_zero_or_pos cc.toNatClampNeg with q | q
    · exact q
    · exact absurd (hcc ▸ z : nI cc.toNatClampNeg ≤ (0 : Int32)) (nI_nle q (by omega))
  have Dc := zdecide (pk := g_X2_look_o_0 al.1 al.2.1 al.2.2.1 al.2.2.2.1 al.2.2.2.2.1 al.2.2.2.2.2.1 al.2.2.2.2.2.2.1 al.2.2.2.2.2.2.2.2.2.2.2.1 al.2.2.2.2.2.2.2.2.2.2.2.2.1 al.2.2.2.2.2.2.2.2.2.2.2.2.2 (g_X1_runModel_x_0 fu fi sm ln cl cp (nI ra) mk) (g_X1_runModel_x_1 fu fi sm ln cl cp (ze dw) (zf dw) (nI wd) (nI ra) mk) (lp_X4_mendAll_2 _ pl hd va _ cn.toNatClampNeg (me, g_X1_runModel_x_2 fu fi sm ln cl cp (ze dw) (zf dw) (nI wd) (nI ra) mk bl st wd) 48).2 (g_X1_runModel_x_3 fi ln cl cp) (g_X1_runModel_x_4 fi ln cl cp) cp (ze dw) (zf dw) (nI wd) (nI ra) 12 wd) (fun k hk => (hc k hk).1) (fun k hk => (hc k hk).2.1) (fun k hk => (hc k hk).2.2) (rfl : cls = cls) (fun k hk => by
    have e := (hc k hk).1
    obtain ⟨j, hj, ej⟩ := vp_in_of (hpc k hk) (by decide)
    have hin : (sat k).toNatClampNeg < 48 := by rw [← e, ej, nI_clamp (by omega)]; exact hj
    rw [e]
    exact (zlook (zcopyl Ln) hd9 hw4 h4 hr hin rfl 12).2) cc.toNatClampNeg (Nat.le_refl _)
  have hh1 : (g_X6_runHour_wo_0 (nI h)).toNatClampNeg = h + 1 := by
    show (nI h + (1 : Int32)).toNatClampNeg = _
    rw [nI_1, nI_clamp (by omega)]
  refine ⟨⟨Ln, ⟨dw, wd, ra, hd9, hw4, h4, hr, rfl, rfl, rfl, rfl, rfl, rfl, rfl, rfl⟩, H11 rfl, H12 rfl, H13 rfl, ?_⟩, Md.1, ?_, ⟨rfl, ?_, ?_⟩, ⟨rfl, ?_, ?_⟩, ⟨Wn.2.1, Wn.2.2⟩, ⟨rfl, ?_⟩⟩
  · show zBd 48 (9999 + 90 * (g_X6_runHour_wo_0 (nI h)).toNatClampNeg) _
    rw [hh1]
    exact fun k hk => by obtain ⟨m, h1, h2⟩ := bM k hk; exact ⟨m, by omega, h2⟩
  · refine zifE rfl (fun _ z => ?_) (fun _ z => Dc.2)
    show cls = (lp_X12_close_10 _ _ _ _ _ _ _ _ _ _ _ _ _ (cls, ic) cc.toNatClampNeg).1
    rw [hz0 z, lp_X12_close_10_0]
  · exact fun k hk => ⟨hp1 k hk, Or.inl ⟨(zfgt _ (Nat.le_refl _) k hk).trans (if_pos hk), (zfgt2 _ (Nat.le_refl _) k hk).trans (if_pos hk)⟩, J k hk⟩
  · exact fun k hk => ⟨(zfgto _ (Nat.le_refl _) k hk).trans (hsz k hk).1, (zjo hns _ (Nat.le_refl _) k hk).1.trans (hsz k hk).2.1, (zjo hns _ (Nat.le_refl _) k hk).2.trans (hsz k hk).2.2⟩
  · exact fun k hk => ⟨(hu k hk).1, (hu k hk).2.1, (hu k hk).2.2.1, (hu k hk).2.2.2.1, Wn.1 k hk⟩
  · exact fun k hk => (zwo _ (Nat.le_refl _) k hk).trans (huz k hk)
  · exact fun k hk => ⟨(hc k hk).1, (hc k hk).2.1, zifO (hc k hk).2.2 (fun _ z => absurd hk (by show ¬ k < cc.toNatClampNeg; rw [hz0 z]; exact Nat.not_lt_zero k)) (fun _ _ => Dc.1 k hk)⟩
end
section
/-! which calls are refused: class and reference alike -/
theorem zrm {c : Int32} {n N : Nat} (hc : c = nI n) (hn : n ≤ N) (hN : N < 2 ^ 31) : x_X7_checkRoom c (nI N) = (0 : Int32) ↔ ¬ r_Jx4a65c_size_8abf5 (nI n) = nI N := by
  unfold x_X7_checkRoom r_Jx4a65c_size_8abf5
  rw [hc]
  by_cases h : n < N
  · rw [if_pos ((nI_ltI (by omega) hN).mpr h)]
    exact ⟨fun _ z => by have := (nI_eq (by omega) hN).mp z; omega, fun _ => rfl⟩
  · rw [if_neg (fun z => h ((nI_ltI (by omega) hN).mp z))]
    exact ⟨fun z => absurd z (by decide), fun z => absurd (by rw [show n = N by omega]) z⟩
theorem znm {a c : Int32} {n : Nat} (hc : c = nI n) (hn : n < 2 ^ 31) : x_X7_checkNumber a c = (0 : Int32) ↔ ¬ r_X12_isBetween a (0 : Int32) (nI n - (1 : Int32)) = (0 : Int32) := by
  unfold x_X7_checkNumber
  rw [hc]
  constructor
  · intro h z
    by_cases c1 : a < (0 : Int32)
    · rw [if_pos c1] at h; exact absurd h (by decide)
    · rw [if_neg c1] at h
      by_cases c2 : a < nI n
      · unfold r_X12_isBetween at z
        rw [if_neg c1] at z
        by_cases c3 : nI n - (1 : Int32) < a
        · obtain ⟨j, hj, rfl⟩ := nI_of c1
          have h1 := (nI_ltI hj hn).mp c2
          obtain ⟨k, rfl⟩ : ∃ k, n = k + 1 := ⟨n - 1, by omega⟩
          rw [nI_pred] at c3
          have h2 := (nI_ltI (by omega) hj).mp c3
          omega
        · rw [if_neg c3] at z; exact absurd z (by decide)
      · rw [if_neg c2] at h; exact absurd h (by decide)
  · intro h
    obtain ⟨h1, h2⟩ := zmsz hn h
    have h3 : ¬ a < (0 : Int32) := by rw [h1]; exact nI_pos (by omega)
    rw [if_neg h3]
    have h4 : a < nI n := by rw [h1]; exact (nI_ltI (by omega) hn).mpr h2
    rw [if_pos h4]
/-- a code is no refusal -/
theorem zwr {a : Int32} : r_X12_isWrong a = (0 : Int32) ↔ a ≤ (0 : Int32) := by
  unfold r_X12_isWrong
  by_cases c : a ≤ (0 : Int32)
  · rw [if_pos c]; exact ⟨fun _ => c, fun _ => rfl⟩
  · rw [if_neg c]; exact ⟨fun z => absurd z (by decide), fun z => absurd z c⟩
theorem zatlt {a b : Int32} (h : ¬ r_X12_isCell a b = (0 : Int32)) : (r_X12_at a b).toNatClampNeg < 48 := by
  obtain ⟨j, hj, e⟩ := vp_in_of (zmcell_ix h) (by decide)
  have e : r_X12_at a b = nI j := e
  rw [e, nI_clamp (by omega)]
  exact hj
/-- cell (a, b) by its number -/
theorem zatv {a b : Int32} (h : ¬ r_X12_isCell a b = (0 : Int32)) : zSv (r_X12_at a b) a b := by
  obtain ⟨h1, h2⟩ := zmcell h
  obtain ⟨-, h3, h4⟩ := zmix (k := 7) (n := 8) ⟨by decide, by decide⟩ (zmbet h1)
  obtain ⟨-, h5, h6⟩ := zmix (k := 5) (n := 6) ⟨by decide, by decide⟩ (zmbet h2)
  refine ⟨b.toNatClampNeg * 8 + a.toNatClampNeg, by omega, ?_, ?_, ?_⟩
  · unfold r_X12_at
    rw [h4, h6, show (8 : Int32) = nI 8 from rfl, pk_mul, nI_add, nI_clamp (by omega), nI_clamp (by omega)]
  · rw [show (b.toNatClampNeg * 8 + a.toNatClampNeg) % 8 = a.toNatClampNeg by omega]; exact h4
  · rw [show (b.toNatClampNeg * 8 + a.toNatClampNeg) / 8 = b.toNatClampNeg by omega]; exact h6
/-- a checked number -/
theorem zbw {a : Int32} {l u : Nat} (hu : u < 1000000) (h : ¬ r_X12_isBetween a (nI l) (nI u) = (0 : Int32)) (hl : l ≤ u) : ∃ m, m ≤ u ∧ l ≤ m ∧ a = nI m := by
  obtain ⟨h1, h2⟩ := zmbet h
  have n0 : ¬ a < (0 : Int32) := fun z => absurd (Int32.lt_of_le_of_lt h1 z) (nI_pos (by omega))
  obtain ⟨j, hj, rfl⟩ := nI_of n0
  exact ⟨j, (nI_leI hj (by omega)).mp h2, (nI_leI (by omega) hj).mp h1, rfl⟩
theorem zdir {a b : Int32} (ha : ¬ r_X12_isBetween a (-1 : Int32) (1 : Int32) = (0 : Int32)) (hb : ¬ r_X12_isBetween b (-1 : Int32) (1 : Int32) = (0 : Int32)) : ∃ d, d < 9 ∧ a = ze d ∧ b = zf d := by
  have key : ∀ x : Int32, ¬ r_X12_isBetween x (-1 : Int32) (1 : Int32) = (0 : Int32) → x = (-1 : Int32) ∨ x = (0 : Int32) ∨ x = (1 : Int32) := by
    intro x h
    obtain ⟨h1, h2⟩ := zmbet h
    rw [zle, show (-1 : Int32).toInt = -1 by decide] at h1
    rw [zle, show (1 : Int32).toInt = 1 by decide] at h2
    have e : x.toInt = -1 ∨ x.toInt = 0 ∨ x.toInt = 1 := by omega
    rcases e with e | e | e
    · exact Or.inl (Int32.toInt_inj.mp e)
    · exact Or.inr (Or.inl (Int32.toInt_inj.mp e))
    · exact Or.inr (Or.inr (Int32.toInt_inj.mp e))
  rcases key a ha with rfl | rfl | rfl <;> rcases key b hb with rfl | rfl | rfl
  · exact ⟨0, by decide, rfl, rfl⟩
  · exact ⟨3, by decide, rfl, rfl⟩
  · exact ⟨6, by decide, rfl, rfl⟩
  · exact ⟨1, by decide, rfl, rfl⟩
  · exact ⟨4, by decide, rfl, rfl⟩
  · exact ⟨7, by decide, rfl, rfl⟩
  · exact ⟨2, by decide, rfl, rfl⟩
  · exact ⟨5, by decide, rfl, rfl⟩
  · exact ⟨8, by decide, rfl, rfl⟩
set_option maxHeartbeats 4000000 in
set_option maxRecDepth 100000 in
theorem zq_setFuel (a b f : Int32) : x_X7_setFuel a b f = (0 : Int32) ↔ r_X12_isWrong (if (r_X12_isCell a b) = (0 : Int32) then (1 : Int32) else (if (r_X12_isBetween f (0 : Int32) (99 : Int32)) = (0 : Int32) then (2 : Int32) else (0 : Int32))) = (0 : Int32) := by
  unfold x_X7_setFuel
  by_cases d1 : r_X12_isCell a b = (0 : Int32)
  · rw [if_neg (fun z => ((zcB (a := a) (b := b)).mp z) d1), if_pos d1]
    exact ⟨fun z => absurd z (by decide), fun z => absurd z (by decide)⟩
  rw [if_pos ((zcB (a := a) (b := b)).mpr d1), if_neg d1]
  by_cases d2 : r_X12_isBetween f (0 : Int32) (99 : Int32) = (0 : Int32)
  · rw [if_neg (fun z => ((zrB (a := f) (b := (0 : Int32)) (d := (99 : Int32))).mp z) d2), if_pos d2]
    exact ⟨fun z => absurd z (by decide), fun z => absurd z (by decide)⟩
  rw [if_pos ((zrB (a := f) (b := (0 : Int32)) (d := (99 : Int32))).mpr d2), if_neg d2]
  exact ⟨fun _ => by decide, fun _ => rfl⟩
set_option maxHeartbeats 4000000 in
set_option maxRecDepth 100000 in
theorem zq_light {l0 l3 m0 m5 : Nat → Int32} (h0 : ∀ k, k < 48 → l0 k = m0 k) (h3 : ∀ k, k < 48 → l3 k = m5 k) (a b f : Int32) : x_X7_light l0 l3 a b f = (0 : Int32) ↔ r_X12_isWrong (if (r_X12_isCell a b) = (0 : Int32) then (1 : Int32) else (if (r_X12_isBetween f (1 : Int32) (9 : Int32)) = (0 : Int32) then (2 : Int32) else (if (m0 (r_X12_at a b).toNatClampNeg) = (0 : Int32) then (3 : Int32) else (if (m5 (r_X12_at a b).toNatClampNeg) = (0 : Int32) then (0 : Int32) else (3 : Int32))))) = (0 : Int32) := by
  unfold x_X7_light
  by_cases d1 : r_X12_isCell a b = (0 : Int32)
  · rw [if_neg (fun z => ((zcB (a := a) (b := b)).mp z) d1), if_pos d1]
    exact ⟨fun z => absurd z (by decide), fun z => absurd z (by decide)⟩
  rw [if_pos ((zcB (a := a) (b := b)).mpr d1), if_neg d1]
  by_cases d2 : r_X12_isBetween f (1 : Int32) (9 : Int32) = (0 : Int32)
  · rw [if_neg (fun z => ((zrB (a := f) (b := (1 : Int32)) (d := (9 : Int32))).mp z) d2), if_pos d2]
    exact ⟨fun z => absurd z (by decide), fun z => absurd z (by decide)⟩
  rw [if_pos ((zrB (a := f) (b := (1 : Int32)) (d := (9 : Int32))).mpr d2), if_neg d2]
  by_cases d3 : m0 (r_X12_at a b).toNatClampNeg = (0 : Int32)
  · rw [if_pos (Classical.byContradiction (fun z => (((show ¬ l0 (r_X7_placeOf a b).toNatClampNeg = (0 : Int32) ↔ ¬ m0 (r_X12_at a b).toNatClampNeg = (0 : Int32) from (by rw [zplace_at d1, h0 _ (zatlt d1)]))).mp z) d3)), if_pos d3]
    exact ⟨fun z => absurd z (by decide), fun z => absurd z (by decide)⟩
  rw [if_neg (((show ¬ l0 (r_X7_placeOf a b).toNatClampNeg = (0 : Int32) ↔ ¬ m0 (r_X12_at a b).toNatClampNeg = (0 : Int32) from (by rw [zplace_at d1, h0 _ (zatlt d1)]))).mpr d3), if_neg d3]
  by_cases d4 : ¬ m5 (r_X12_at a b).toNatClampNeg = (0 : Int32)
  · rw [if_neg (fun z => d4 (((show l3 (r_X7_placeOf a b).toNatClampNeg = (0 : Int32) ↔ m5 (r_X12_at a b).toNatClampNeg = (0 : Int32) from (by rw [zplace_at d1, h3 _ (zatlt d1)]))).mp z)), if_neg d4]
    exact ⟨fun z => absurd z (by decide), fun z => absurd z (by decide)⟩
  have d4 := Classical.byContradiction d4
  rw [if_pos (((show l3 (r_X7_placeOf a b).toNatClampNeg = (0 : Int32) ↔ m5 (r_X12_at a b).toNatClampNeg = (0 : Int32) from (by rw [zplace_at d1, h3 _ (zatlt d1)]))).mpr d4), if_pos d4]
  exact ⟨fun _ => by decide, fun _ => rfl⟩
set_option maxHeartbeats 4000000 in
set_option maxRecDepth 100000 in
theorem zq_setWind (a b f : Int32) : x_X7_setWind a b f = (0 : Int32) ↔ r_X12_isWrong (if (if (r_X12_isBetween a (-1 : Int32) (1 : Int32)) = (0 : Int32) then (0 : Int32) else (if (r_X12_isBetween b (-1 : Int32) (1 : Int32)) = (0 : Int32) then (0 : Int32) else (if (r_X12_isBetween f (0 : Int32) (if a = (0 : Int32) then (if b = (0 : Int32) then (0 : Int32) else (4 : Int32)) else (4 : Int32))) = (0 : Int32) then (0 : Int32) else (1 : Int32)))) = (0 : Int32) then (1 : Int32) else (0 : Int32)) = (0 : Int32) := by
  unfold x_X7_setWind
  by_cases d1 : r_X12_isBetween a (-1 : Int32) (1 : Int32) = (0 : Int32)
  · rw [if_neg (fun z => ((zrB (a := a) (b := (-1 : Int32)) (d := (1 : Int32))).mp z) d1), if_pos d1]
    exact ⟨fun z => absurd z (by decide), fun z => absurd z (by decide)⟩
  rw [if_pos ((zrB (a := a) (b := (-1 : Int32)) (d := (1 : Int32))).mpr d1), if_neg d1]
  by_cases d2 : r_X12_isBetween b (-1 : Int32) (1 : Int32) = (0 : Int32)
  · rw [if_neg (fun z => ((zrB (a := b) (b := (-1 : Int32)) (d := (1 : Int32))).mp z) d2), if_pos d2]
    exact ⟨fun z => absurd z (by decide), fun z => absurd z (by decide)⟩
  rw [if_pos ((zrB (a := b) (b := (-1 : Int32)) (d := (1 : Int32))).mpr d2), if_neg d2]
  by_cases d3 : r_X12_isBetween f (0 : Int32) (if a = (0 : Int32) then (if b = (0 : Int32) then (0 : Int32) else (4 : Int32)) else (4 : Int32)) = (0 : Int32)
  · rw [if_neg (fun z => ((zrB (a := f) (b := (0 : Int32)) (d := (if a = (0 : Int32) then (if b = (0 : Int32) then (0 : Int32) else (4 : Int32)) else (4 : Int32)))).mp z) d3), if_pos d3]
    exact ⟨fun z => absurd z (by decide), fun z => absurd z (by decide)⟩
  rw [if_pos ((zrB (a := f) (b := (0 : Int32)) (d := (if a = (0 : Int32) then (if b = (0 : Int32) then (0 : Int32) else (4 : Int32)) else (4 : Int32)))).mpr d3), if_neg d3]
  exact ⟨fun _ => by decide, fun _ => rfl⟩
set_option maxHeartbeats 4000000 in
set_option maxRecDepth 100000 in
theorem zq_digLine {l1 l3 m3 m5 : Nat → Int32} (h1 : ∀ k, k < 48 → l1 k = m3 k) (h3 : ∀ k, k < 48 → l3 k = m5 k) (a b f : Int32) : x_X7_digLine l1 l3 a b f = (0 : Int32) ↔ r_X12_isWrong (if (r_X12_isCell a b) = (0 : Int32) then (1 : Int32) else (if (r_X12_isCrew f) = (0 : Int32) then (2 : Int32) else (if (m5 (r_X12_at a b).toNatClampNeg) = (0 : Int32) then (if (m3 (r_X12_at a b).toNatClampNeg) ≤ (4 : Int32) then (0 : Int32) else (3 : Int32)) else (3 : Int32)))) = (0 : Int32) := by
  unfold x_X7_digLine
  by_cases d1 : r_X12_isCell a b = (0 : Int32)
  · rw [if_neg (fun z => ((zcB (a := a) (b := b)).mp z) d1), if_pos d1]
    exact ⟨fun z => absurd z (by decide), fun z => absurd z (by decide)⟩
  rw [if_pos ((zcB (a := a) (b := b)).mpr d1), if_neg d1]
  by_cases d2 : r_X12_isCrew f = (0 : Int32)
  · rw [if_neg (fun z => (((show x_X7_checkRange f (0 : Int32) (2 : Int32) = (0 : Int32) ↔ ¬ r_X12_isCrew f = (0 : Int32) from zrB)).mp z) d2), if_pos d2]
    exact ⟨fun z => absurd z (by decide), fun z => absurd z (by decide)⟩
  rw [if_pos (((show x_X7_checkRange f (0 : Int32) (2 : Int32) = (0 : Int32) ↔ ¬ r_X12_isCrew f = (0 : Int32) from zrB)).mpr d2), if_neg d2]
  by_cases d3 : ¬ m5 (r_X12_at a b).toNatClampNeg = (0 : Int32)
  · rw [if_neg (fun z => d3 (((show l3 (r_X7_placeOf a b).toNatClampNeg = (0 : Int32) ↔ m5 (r_X12_at a b).toNatClampNeg = (0 : Int32) from (by rw [zplace_at d1, h3 _ (zatlt d1)]))).mp z)), if_neg d3]
    exact ⟨fun z => absurd z (by decide), fun z => absurd z (by decide)⟩
  have d3 := Classical.byContradiction d3
  rw [if_pos (((show l3 (r_X7_placeOf a b).toNatClampNeg = (0 : Int32) ↔ m5 (r_X12_at a b).toNatClampNeg = (0 : Int32) from (by rw [zplace_at d1, h3 _ (zatlt d1)]))).mpr d3), if_pos d3]
  by_cases d4 : ¬ m3 (r_X12_at a b).toNatClampNeg ≤ (4 : Int32)
  · rw [if_neg (fun z => d4 (((show l1 (r_X7_placeOf a b).toNatClampNeg ≤ (4 : Int32) ↔ m3 (r_X12_at a b).toNatClampNeg ≤ (4 : Int32) from (by rw [zplace_at d1, h1 _ (zatlt d1)]))).mp z)), if_neg d4]
    exact ⟨fun z => absurd z (by decide), fun z => absurd z (by decide)⟩
  have d4 := Classical.byContradiction d4
  rw [if_pos (((show l1 (r_X7_placeOf a b).toNatClampNeg ≤ (4 : Int32) ↔ m3 (r_X12_at a b).toNatClampNeg ≤ (4 : Int32) from (by rw [zplace_at d1, h1 _ (zatlt d1)]))).mpr d4), if_pos d4]
  exact ⟨fun _ => by decide, fun _ => rfl⟩
set_option maxHeartbeats 4000000 in
set_option maxRecDepth 100000 in
theorem zq_addSensor {c : Int32} {n : Nat} (hc : c = nI n) (hn : n ≤ 10) (a b : Int32) : x_X7_addSensor c a b = (0 : Int32) ↔ r_X12_isWrong (if (r_X12_isCell a b) = (0 : Int32) then (1 : Int32) else (if (r_Jx4a65c_size_8abf5 (nI n)) = (10 : Int32) then (2 : Int32) else (0 : Int32))) = (0 : Int32) := by
  unfold x_X7_addSensor
  by_cases d1 : r_X12_isCell a b = (0 : Int32)
  · rw [if_neg (fun z => ((zcB (a := a) (b := b)).mp z) d1), if_pos d1]
    exact ⟨fun z => absurd z (by decide), fun z => absurd z (by decide)⟩
  rw [if_pos ((zcB (a := a) (b := b)).mpr d1), if_neg d1]
  by_cases d2 : r_Jx4a65c_size_8abf5 (nI n) = (10 : Int32)
  · rw [if_neg (fun z => (((show x_X7_checkRoom c (10 : Int32) = (0 : Int32) ↔ ¬ r_Jx4a65c_size_8abf5 (nI n) = (10 : Int32) from zrm (N := 10) hc hn (by decide))).mp z) d2), if_pos d2]
    exact ⟨fun z => absurd z (by decide), fun z => absurd z (by decide)⟩
  rw [if_pos (((show x_X7_checkRoom c (10 : Int32) = (0 : Int32) ↔ ¬ r_Jx4a65c_size_8abf5 (nI n) = (10 : Int32) from zrm (N := 10) hc hn (by decide))).mpr d2), if_neg d2]
  exact ⟨fun _ => by decide, fun _ => rfl⟩
set_option maxHeartbeats 4000000 in
set_option maxRecDepth 100000 in
theorem zq_read {c : Int32} {n : Nat} (hc : c = nI n) (hn : n ≤ 10) (a b : Int32) : x_X7_read c a b = (0 : Int32) ↔ r_X12_isWrong (if (r_X12_isSensor n a) = (0 : Int32) then (1 : Int32) else (if (r_X12_isBetween b (0 : Int32) (9999 : Int32)) = (0 : Int32) then (2 : Int32) else (0 : Int32))) = (0 : Int32) := by
  unfold x_X7_read
  by_cases d1 : r_X12_isSensor n a = (0 : Int32)
  · rw [if_neg (fun z => (((show x_X7_checkNumber a c = (0 : Int32) ↔ ¬ r_X12_isSensor n a = (0 : Int32) from znm hc (by omega))).mp z) d1), if_pos d1]
    exact ⟨fun z => absurd z (by decide), fun z => absurd z (by decide)⟩
  rw [if_pos (((show x_X7_checkNumber a c = (0 : Int32) ↔ ¬ r_X12_isSensor n a = (0 : Int32) from znm hc (by omega))).mpr d1), if_neg d1]
  by_cases d2 : r_X12_isBetween b (0 : Int32) (9999 : Int32) = (0 : Int32)
  · rw [if_neg (fun z => ((zrB (a := b) (b := (0 : Int32)) (d := (9999 : Int32))).mp z) d2), if_pos d2]
    exact ⟨fun z => absurd z (by decide), fun z => absurd z (by decide)⟩
  rw [if_pos ((zrB (a := b) (b := (0 : Int32)) (d := (9999 : Int32))).mpr d2), if_neg d2]
  exact ⟨fun _ => by decide, fun _ => rfl⟩
set_option maxHeartbeats 4000000 in
set_option maxRecDepth 100000 in
theorem zq_subscribe {c : Int32} {n : Nat} (hc : c = nI n) (hn : n ≤ 12) (a b f g k1 : Int32) : x_X7_subscribe c a b f g k1 = (0 : Int32) ↔ r_X12_isWrong (if (r_X12_isCell a b) = (0 : Int32) then (1 : Int32) else (if (if (r_X12_isBetween f (20 : Int32) (9999 : Int32)) = (0 : Int32) then (0 : Int32) else (if (r_X12_isBetween g (0 : Int32) (23 : Int32)) = (0 : Int32) then (0 : Int32) else (if (r_X12_isBetween k1 (0 : Int32) (23 : Int32)) = (0 : Int32) then (0 : Int32) else (1 : Int32)))) = (0 : Int32) then (2 : Int32) else (if (r_Jx4a65c_size_8abf5 (nI n)) = (12 : Int32) then (3 : Int32) else (0 : Int32)))) = (0 : Int32) := by
  unfold x_X7_subscribe
  by_cases d1 : r_X12_isCell a b = (0 : Int32)
  · rw [if_neg (fun z => ((zcB (a := a) (b := b)).mp z) d1), if_pos d1]
    exact ⟨fun z => absurd z (by decide), fun z => absurd z (by decide)⟩
  rw [if_pos ((zcB (a := a) (b := b)).mpr d1), if_neg d1]
  by_cases d2 : r_X12_isBetween f (20 : Int32) (9999 : Int32) = (0 : Int32)
  · rw [if_neg (fun z => ((zrB (a := f) (b := (20 : Int32)) (d := (9999 : Int32))).mp z) d2), if_pos d2, if_pos (rfl : (0 : Int32) = (0 : Int32))]
    exact ⟨fun z => absurd z (by decide), fun z => absurd z (by decide)⟩
  rw [if_pos ((zrB (a := f) (b := (20 : Int32)) (d := (9999 : Int32))).mpr d2), if_neg d2]
  by_cases d3 : r_X12_isBetween g (0 : Int32) (23 : Int32) = (0 : Int32)
  · rw [if_neg (fun z => ((zrB (a := g) (b := (0 : Int32)) (d := (23 : Int32))).mp z) d3), if_pos d3, if_pos (rfl : (0 : Int32) = (0 : Int32))]
    exact ⟨fun z => absurd z (by decide), fun z => absurd z (by decide)⟩
  rw [if_pos ((zrB (a := g) (b := (0 : Int32)) (d := (23 : Int32))).mpr d3), if_neg d3]
  by_cases d4 : r_X12_isBetween k1 (0 : Int32) (23 : Int32) = (0 : Int32)
  · rw [if_neg (fun z => ((zrB (a := k1) (b := (0 : Int32)) (d := (23 : Int32))).mp z) d4), if_pos d4, if_pos (rfl : (0 : Int32) = (0 : Int32))]
    exact ⟨fun z => absurd z (by decide), fun z => absurd z (by decide)⟩
  rw [if_pos ((zrB (a := k1) (b := (0 : Int32)) (d := (23 : Int32))).mpr d4), if_neg d4, if_neg (by decide : ¬ (1 : Int32) = (0 : Int32))]
  by_cases d5 : r_Jx4a65c_size_8abf5 (nI n) = (12 : Int32)
  · rw [if_neg (fun z => (((show x_X7_checkRoom c (12 : Int32) = (0 : Int32) ↔ ¬ r_Jx4a65c_size_8abf5 (nI n) = (12 : Int32) from zrm (N := 12) hc hn (by decide))).mp z) d5), if_pos d5]
    exact ⟨fun z => absurd z (by decide), fun z => absurd z (by decide)⟩
  rw [if_pos (((show x_X7_checkRoom c (12 : Int32) = (0 : Int32) ↔ ¬ r_Jx4a65c_size_8abf5 (nI n) = (12 : Int32) from zrm (N := 12) hc hn (by decide))).mpr d5), if_neg d5]
  exact ⟨fun _ => by decide, fun _ => rfl⟩
set_option maxHeartbeats 4000000 in
set_option maxRecDepth 100000 in
theorem zq_addSchool {c : Int32} {n : Nat} (hc : c = nI n) (hn : n ≤ 6) (a b f : Int32) : x_X7_addSchool c a b f = (0 : Int32) ↔ r_X12_isWrong (if (r_X12_isCell a b) = (0 : Int32) then (1 : Int32) else (if (r_X12_isBetween f (20 : Int32) (9999 : Int32)) = (0 : Int32) then (2 : Int32) else (if (r_Jx4a65c_size_8abf5 (nI n)) = (6 : Int32) then (3 : Int32) else (0 : Int32)))) = (0 : Int32) := by
  unfold x_X7_addSchool
  by_cases d1 : r_X12_isCell a b = (0 : Int32)
  · rw [if_neg (fun z => ((zcB (a := a) (b := b)).mp z) d1), if_pos d1]
    exact ⟨fun z => absurd z (by decide), fun z => absurd z (by decide)⟩
  rw [if_pos ((zcB (a := a) (b := b)).mpr d1), if_neg d1]
  by_cases d2 : r_X12_isBetween f (20 : Int32) (9999 : Int32) = (0 : Int32)
  · rw [if_neg (fun z => ((zrB (a := f) (b := (20 : Int32)) (d := (9999 : Int32))).mp z) d2), if_pos d2]
    exact ⟨fun z => absurd z (by decide), fun z => absurd z (by decide)⟩
  rw [if_pos ((zrB (a := f) (b := (20 : Int32)) (d := (9999 : Int32))).mpr d2), if_neg d2]
  by_cases d3 : r_Jx4a65c_size_8abf5 (nI n) = (6 : Int32)
  · rw [if_neg (fun z => (((show x_X7_checkRoom c (6 : Int32) = (0 : Int32) ↔ ¬ r_Jx4a65c_size_8abf5 (nI n) = (6 : Int32) from zrm (N := 6) hc hn (by decide))).mp z) d3), if_pos d3]
    exact ⟨fun z => absurd z (by decide), fun z => absurd z (by decide)⟩
  rw [if_pos (((show x_X7_checkRoom c (6 : Int32) = (0 : Int32) ↔ ¬ r_Jx4a65c_size_8abf5 (nI n) = (6 : Int32) from zrm (N := 6) hc hn (by decide))).mpr d3), if_neg d3]
  exact ⟨fun _ => by decide, fun _ => rfl⟩
set_option maxHeartbeats 4000000 in
set_option maxRecDepth 100000 in
theorem zq_setRain (a : Int32) : x_X7_setRain a = (0 : Int32) ↔ r_X12_isWrong (if (r_X12_isBetween a (0 : Int32) (9 : Int32)) = (0 : Int32) then (1 : Int32) else (0 : Int32)) = (0 : Int32) := by
  unfold x_X7_setRain
  by_cases d1 : r_X12_isBetween a (0 : Int32) (9 : Int32) = (0 : Int32)
  · rw [if_neg (fun z => ((zrB (a := a) (b := (0 : Int32)) (d := (9 : Int32))).mp z) d1), if_pos d1]
    exact ⟨fun z => absurd z (by decide), fun z => absurd z (by decide)⟩
  rw [if_pos ((zrB (a := a) (b := (0 : Int32)) (d := (9 : Int32))).mpr d1), if_neg d1]
  exact ⟨fun _ => by decide, fun _ => rfl⟩
set_option maxHeartbeats 4000000 in
set_option maxRecDepth 100000 in
theorem zr_setFuel {aq : zAcs} {r : Nat} {kc : Nat} {wo : zWor} {la : zLand} {ou : zOutl} {al : zLand} {se : zSens} {su : zSubs} {sc : zScho} {rv : zWv} {md : zMd} {ml : zMl} {te : zMs} {sb : zMb} {so : zMo} {wa : zMw} {r1 : Nat} {r2 : Nat} {r3 : Nat} {r4 : Nat} {xs : Nat → Int32} (S : zCl aq r (wo, la, ou, al, se, su, sc) rv) (M : zSm (zch aq aq.1) md ml te sb so wa r1 r2 r3 r4) (R : zRl (wo, la, ou, al, se, su, sc) md ml te sb so wa) : zRl (wo, ((g_L_setFuel_la_0 la.1 (xs ((6 * kc) + 1)) (xs ((6 * kc) + 2)) (xs ((6 * kc) + 3))), la.2.1, la.2.2.1, la.2.2.2.1, la.2.2.2.2.1, la.2.2.2.2.2.1, la.2.2.2.2.2.2.1, la.2.2.2.2.2.2.2.1, la.2.2.2.2.2.2.2.2.1, la.2.2.2.2.2.2.2.2.2.1, la.2.2.2.2.2.2.2.2.2.2.1, la.2.2.2.2.2.2.2.2.2.2.2.1, la.2.2.2.2.2.2.2.2.2.2.2.2.1, la.2.2.2.2.2.2.2.2.2.2.2.2.2), ou, al, se, su, sc) ((g_X12_setFuel_md_0 (xs ((6 * kc) + 1)) (xs ((6 * kc) + 2)) (xs ((6 * kc) + 3))), md.2.1, md.2.2.1, md.2.2.2) ((g_X12_setFuel_ml_0 ml.1 (xs ((6 * kc) + 1)) (xs ((6 * kc) + 2)) (xs ((6 * kc) + 3))), ml.2.1, ml.2.2.1, ml.2.2.2.1, ml.2.2.2.2.1, ml.2.2.2.2.2.1, ml.2.2.2.2.2.2.1, ml.2.2.2.2.2.2.2.1, ml.2.2.2.2.2.2.2.2.1, ml.2.2.2.2.2.2.2.2.2.1, ml.2.2.2.2.2.2.2.2.2.2.1, ml.2.2.2.2.2.2.2.2.2.2.2.1, ml.2.2.2.2.2.2.2.2.2.2.2.2) te sb so wa := by
  have w := S.2.2.1.1.1
  have zq := (zq_setFuel (xs ((6 * kc) + 1)) (xs ((6 * kc) + 2)) (xs ((6 * kc) + 3)))
  by_cases c : x_X7_setFuel (xs ((6 * kc) + 1)) (xs ((6 * kc) + 2)) (xs ((6 * kc) + 3)) = (0 : Int32)
  · have cr : (r_X12_isWrong (if (r_X12_isCell (xs ((6 * kc) + 1)) (xs ((6 * kc) + 2))) = (0 : Int32) then (1 : Int32) else (if (r_X12_isBetween (xs ((6 * kc) + 3)) (0 : Int32) (99 : Int32)) = (0 : Int32) then (2 : Int32) else (0 : Int32)))) = (0 : Int32) := zq.mp c
    have c' := c
    unfold x_X7_setFuel at c'
    have c1 : (x_X7_placeOf (xs ((6 * kc) + 1)) (xs ((6 * kc) + 2))) = (0 : Int32) := by
      by_cases z : (x_X7_placeOf (xs ((6 * kc) + 1)) (xs ((6 * kc) + 2))) = (0 : Int32)
      · exact z
      · rw [if_neg z] at c'; exact absurd c' (by decide)
    rw [if_pos c1] at c'
    have c2 : (x_X7_checkRange (xs ((6 * kc) + 3)) (0 : Int32) (99 : Int32)) = (0 : Int32) := by
      by_cases z : (x_X7_checkRange (xs ((6 * kc) + 3)) (0 : Int32) (99 : Int32)) = (0 : Int32)
      · exact z
      · rw [if_neg z] at c'; exact absurd c' (by decide)
    rw [if_pos c2] at c'
    clear c'
    simp only [g_L_setFuel_la_0, g_X7_setFuel_la_0, g_X12_setFuel_ml_0, if_pos c, if_pos cr, if_pos c1, if_pos c2]
    obtain ⟨⟨L, W, s1, s2, s3, SB⟩, s4, s5, hs, hu, hw, hc⟩ := R
    obtain ⟨q1, q2, q3, q4, q5, q6, q7, q8, q9⟩ := L
    have dc : ¬ r_X12_isCell (xs ((6 * kc) + 1)) (xs ((6 * kc) + 2)) = (0 : Int32) := zcB.mp c1
    rw [zplace_at dc]
    obtain ⟨m, hm, -, em⟩ := zbw (l := 0) (u := 99) (by decide) (zrB.mp c2) (by decide)
    exact ⟨⟨⟨zEq_u q1 rfl, q2, q3, q4, q5, q6, zBd_u q7 hm em, q8, q9⟩, W, s1, s2, s3, SB⟩, s4, s5, hs, hu, hw, hc⟩
  · have cr : ¬ ((r_X12_isWrong (if (r_X12_isCell (xs ((6 * kc) + 1)) (xs ((6 * kc) + 2))) = (0 : Int32) then (1 : Int32) else (if (r_X12_isBetween (xs ((6 * kc) + 3)) (0 : Int32) (99 : Int32)) = (0 : Int32) then (2 : Int32) else (0 : Int32)))) = (0 : Int32)) := fun z => c (zq.mpr z)
    simp only [g_L_setFuel_la_0, g_X12_setFuel_ml_0, if_neg c, if_neg cr]
    exact R
set_option maxHeartbeats 4000000 in
set_option maxRecDepth 100000 in
theorem zr_light {aq : zAcs} {r : Nat} {kc : Nat} {wo : zWor} {la : zLand} {ou : zOutl} {al : zLand} {se : zSens} {su : zSubs} {sc : zScho} {rv : zWv} {md : zMd} {ml : zMl} {te : zMs} {sb : zMb} {so : zMo} {wa : zMw} {r1 : Nat} {r2 : Nat} {r3 : Nat} {r4 : Nat} {xs : Nat → Int32} (S : zCl aq r (wo, la, ou, al, se, su, sc) rv) (M : zSm (zch aq aq.1) md ml te sb so wa r1 r2 r3 r4) (R : zRl (wo, la, ou, al, se, su, sc) md ml te sb so wa) : zRl (wo, (la.1, (g_L_light_la_1 la.1 la.2.1 la.2.2.2.1 (xs ((6 * kc) + 1)) (xs ((6 * kc) + 2)) (xs ((6 * kc) + 3))), la.2.2.1, la.2.2.2.1, la.2.2.2.2.1, la.2.2.2.2.2.1, la.2.2.2.2.2.2.1, la.2.2.2.2.2.2.2.1, la.2.2.2.2.2.2.2.2.1, la.2.2.2.2.2.2.2.2.2.1, la.2.2.2.2.2.2.2.2.2.2.1, la.2.2.2.2.2.2.2.2.2.2.2.1, la.2.2.2.2.2.2.2.2.2.2.2.2.1, la.2.2.2.2.2.2.2.2.2.2.2.2.2), ou, al, se, su, sc) ((g_X12_light_md_0 ml.1 ml.2.2.2.2.2.1 (xs ((6 * kc) + 1)) (xs ((6 * kc) + 2)) (xs ((6 * kc) + 3))), md.2.1, md.2.2.1, md.2.2.2) (ml.1, ml.2.1, ml.2.2.1, (g_X12_light_ml_3 ml.1 ml.2.2.2.1 ml.2.2.2.2.2.1 (xs ((6 * kc) + 1)) (xs ((6 * kc) + 2)) (xs ((6 * kc) + 3))), ml.2.2.2.2.1, ml.2.2.2.2.2.1, ml.2.2.2.2.2.2.1, ml.2.2.2.2.2.2.2.1, ml.2.2.2.2.2.2.2.2.1, ml.2.2.2.2.2.2.2.2.2.1, ml.2.2.2.2.2.2.2.2.2.2.1, ml.2.2.2.2.2.2.2.2.2.2.2.1, ml.2.2.2.2.2.2.2.2.2.2.2.2) te sb so wa := by
  have w := S.2.2.1.1.1
  have zq := (zq_light R.1.1.1 R.1.1.2.2.2.1 (xs ((6 * kc) + 1)) (xs ((6 * kc) + 2)) (xs ((6 * kc) + 3)))
  by_cases c : x_X7_light la.1 la.2.2.2.1 (xs ((6 * kc) + 1)) (xs ((6 * kc) + 2)) (xs ((6 * kc) + 3)) = (0 : Int32)
  · have cr : (r_X12_isWrong (if (r_X12_isCell (xs ((6 * kc) + 1)) (xs ((6 * kc) + 2))) = (0 : Int32) then (1 : Int32) else (if (r_X12_isBetween (xs ((6 * kc) + 3)) (1 : Int32) (9 : Int32)) = (0 : Int32) then (2 : Int32) else (if (ml.1 (r_X12_at (xs ((6 * kc) + 1)) (xs ((6 * kc) + 2))).toNatClampNeg) = (0 : Int32) then (3 : Int32) else (if (ml.2.2.2.2.2.1 (r_X12_at (xs ((6 * kc) + 1)) (xs ((6 * kc) + 2))).toNatClampNeg) = (0 : Int32) then (0 : Int32) else (3 : Int32)))))) = (0 : Int32) := zq.mp c
    have c' := c
    unfold x_X7_light at c'
    have c1 : (x_X7_placeOf (xs ((6 * kc) + 1)) (xs ((6 * kc) + 2))) = (0 : Int32) := by
      by_cases z : (x_X7_placeOf (xs ((6 * kc) + 1)) (xs ((6 * kc) + 2))) = (0 : Int32)
      · exact z
      · rw [if_neg z] at c'; exact absurd c' (by decide)
    rw [if_pos c1] at c'
    have c2 : (x_X7_checkRange (xs ((6 * kc) + 3)) (1 : Int32) (9 : Int32)) = (0 : Int32) := by
      by_cases z : (x_X7_checkRange (xs ((6 * kc) + 3)) (1 : Int32) (9 : Int32)) = (0 : Int32)
      · exact z
      · rw [if_neg z] at c'; exact absurd c' (by decide)
    rw [if_pos c2] at c'
    have c3 : ¬ ((la.1 (r_X7_placeOf (xs ((6 * kc) + 1)) (xs ((6 * kc) + 2))).toNatClampNeg) = (0 : Int32)) := by
      by_cases z : (la.1 (r_X7_placeOf (xs ((6 * kc) + 1)) (xs ((6 * kc) + 2))).toNatClampNeg) = (0 : Int32)
      · rw [if_pos z] at c'; exact absurd c' (by decide)
      · exact z
    rw [if_neg c3] at c'
    have c4 : (la.2.2.2.1 (r_X7_placeOf (xs ((6 * kc) + 1)) (xs ((6 * kc) + 2))).toNatClampNeg) = (0 : Int32) := by
      by_cases z : (la.2.2.2.1 (r_X7_placeOf (xs ((6 * kc) + 1)) (xs ((6 * kc) + 2))).toNatClampNeg) = (0 : Int32)
      · exact z
      · rw [if_neg z] at c'; exact absurd c' (by decide)
    rw [if_pos c4] at c'
    clear c'
    simp only [g_L_light_la_1, g_X7_light_la_1, g_X12_light_ml_3, if_pos c, if_pos cr, if_pos c1, if_pos c2, if_neg c3, if_pos c4]
    obtain ⟨⟨L, W, s1, s2, s3, SB⟩, s4, s5, hs, hu, hw, hc⟩ := R
    obtain ⟨q1, q2, q3, q4, q5, q6, q7, q8, q9⟩ := L
    have dc : ¬ r_X12_isCell (xs ((6 * kc) + 1)) (xs ((6 * kc) + 2)) = (0 : Int32) := zcB.mp c1
    rw [zplace_at dc]
    obtain ⟨m, hm, -, em⟩ := zbw (l := 1) (u := 9) (by decide) (zrB.mp c2) (by decide)
    have e := q2 _ (zatlt dc)
    have y : zEq 48 (if (xs ((6 * kc) + 3)) ≤ la.2.1 (r_X12_at (xs ((6 * kc) + 1)) (xs ((6 * kc) + 2))).toNatClampNeg then la.2.1 else upd la.2.1 (r_X12_at (xs ((6 * kc) + 1)) (xs ((6 * kc) + 2))).toNatClampNeg (xs ((6 * kc) + 3))) (if (if (xs ((6 * kc) + 3)) ≤ (ml.2.2.2.1 (r_X12_at (xs ((6 * kc) + 1)) (xs ((6 * kc) + 2))).toNatClampNeg) then (0 : Int32) else (1 : Int32)) = (0 : Int32) then ml.2.2.2.1 else (upd ml.2.2.2.1 (r_X12_at (xs ((6 * kc) + 1)) (xs ((6 * kc) + 2))).toNatClampNeg (xs ((6 * kc) + 3)))) ∧ zBd 48 9 (if (xs ((6 * kc) + 3)) ≤ la.2.1 (r_X12_at (xs ((6 * kc) + 1)) (xs ((6 * kc) + 2))).toNatClampNeg then la.2.1 else upd la.2.1 (r_X12_at (xs ((6 * kc) + 1)) (xs ((6 * kc) + 2))).toNatClampNeg (xs ((6 * kc) + 3))) := by
      rw [← e]
      by_cases z : (xs ((6 * kc) + 3)) ≤ la.2.1 (r_X12_at (xs ((6 * kc) + 1)) (xs ((6 * kc) + 2))).toNatClampNeg
      · rw [if_pos z, if_pos z, if_pos rfl]; exact ⟨q2, q8⟩
      · rw [if_neg z, if_neg z, if_neg (by decide)]; exact ⟨zEq_u q2 rfl, zBd_u q8 hm em⟩
    exact ⟨⟨⟨q1, y.1, q3, q4, q5, q6, q7, y.2, q9⟩, W, s1, s2, s3, SB⟩, s4, s5, hs, hu, hw, hc⟩
  · have cr : ¬ ((r_X12_isWrong (if (r_X12_isCell (xs ((6 * kc) + 1)) (xs ((6 * kc) + 2))) = (0 : Int32) then (1 : Int32) else (if (r_X12_isBetween (xs ((6 * kc) + 3)) (1 : Int32) (9 : Int32)) = (0 : Int32) then (2 : Int32) else (if (ml.1 (r_X12_at (xs ((6 * kc) + 1)) (xs ((6 * kc) + 2))).toNatClampNeg) = (0 : Int32) then (3 : Int32) else (if (ml.2.2.2.2.2.1 (r_X12_at (xs ((6 * kc) + 1)) (xs ((6 * kc) + 2))).toNatClampNeg) = (0 : Int32) then (0 : Int32) else (3 : Int32)))))) = (0 : Int32)) := fun z => c (zq.mpr z)
    simp only [g_L_light_la_1, g_X12_light_ml_3, if_neg c, if_neg cr]
    exact R
set_option maxHeartbeats 4000000 in
set_option maxRecDepth 100000 in
theorem zr_setWind {aq : zAcs} {r : Nat} {kc : Nat} {wo : zWor} {la : zLand} {ou : zOutl} {al : zLand} {se : zSens} {su : zSubs} {sc : zScho} {rv : zWv} {md : zMd} {ml : zMl} {te : zMs} {sb : zMb} {so : zMo} {wa : zMw} {r1 : Nat} {r2 : Nat} {r3 : Nat} {r4 : Nat} {xs : Nat → Int32} (S : zCl aq r (wo, la, ou, al, se, su, sc) rv) (M : zSm (zch aq aq.1) md ml te sb so wa r1 r2 r3 r4) (R : zRl (wo, la, ou, al, se, su, sc) md ml te sb so wa) : zRl (wo, (la.1, la.2.1, la.2.2.1, la.2.2.2.1, la.2.2.2.2.1, la.2.2.2.2.2.1, la.2.2.2.2.2.2.1, (g_L_setWind_la_7 la.2.2.2.2.2.2.2.1 (xs ((6 * kc) + 1)) (xs ((6 * kc) + 2)) (xs ((6 * kc) + 3))), (g_L_setWind_la_8 la.2.2.2.2.2.2.2.2.1 (xs ((6 * kc) + 1)) (xs ((6 * kc) + 2)) (xs ((6 * kc) + 3))), (g_L_setWind_la_9 la.2.2.2.2.2.2.2.2.2.1 (xs ((6 * kc) + 1)) (xs ((6 * kc) + 2)) (xs ((6 * kc) + 3))), la.2.2.2.2.2.2.2.2.2.2.1, la.2.2.2.2.2.2.2.2.2.2.2.1, la.2.2.2.2.2.2.2.2.2.2.2.2.1, la.2.2.2.2.2.2.2.2.2.2.2.2.2), ou, al, se, su, sc) ((g_X12_setWind_md_0 (xs ((6 * kc) + 1)) (xs ((6 * kc) + 2)) (xs ((6 * kc) + 3))), md.2.1, md.2.2.1, md.2.2.2) (ml.1, ml.2.1, ml.2.2.1, ml.2.2.2.1, ml.2.2.2.2.1, ml.2.2.2.2.2.1, (g_X12_setWind_ml_6 ml.2.2.2.2.2.2.1 (xs ((6 * kc) + 1)) (xs ((6 * kc) + 2)) (xs ((6 * kc) + 3))), (g_X12_setWind_ml_7 ml.2.2.2.2.2.2.2.1 (xs ((6 * kc) + 1)) (xs ((6 * kc) + 2)) (xs ((6 * kc) + 3))), (g_X12_setWind_ml_8 ml.2.2.2.2.2.2.2.2.1 (xs ((6 * kc) + 1)) (xs ((6 * kc) + 2)) (xs ((6 * kc) + 3))), ml.2.2.2.2.2.2.2.2.2.1, ml.2.2.2.2.2.2.2.2.2.2.1, ml.2.2.2.2.2.2.2.2.2.2.2.1, ml.2.2.2.2.2.2.2.2.2.2.2.2) te sb so wa := by
  have w := S.2.2.1.1.1
  have zq := (zq_setWind (xs ((6 * kc) + 1)) (xs ((6 * kc) + 2)) (xs ((6 * kc) + 3)))
  by_cases c : x_X7_setWind (xs ((6 * kc) + 1)) (xs ((6 * kc) + 2)) (xs ((6 * kc) + 3)) = (0 : Int32)
  · have cr : (r_X12_isWrong (if (if (r_X12_isBetween (xs ((6 * kc) + 1)) (-1 : Int32) (1 : Int32)) = (0 : Int32) then (0 : Int32) else (if (r_X12_isBetween (xs ((6 * kc) + 2)) (-1 : Int32) (1 : Int32)) = (0 : Int32) then (0 : Int32) else (if (r_X12_isBetween (xs ((6 * kc) + 3)) (0 : Int32) (if (xs ((6 * kc) + 1)) = (0 : Int32) then (if (xs ((6 * kc) + 2)) = (0 : Int32) then (0 : Int32) else (4 : Int32)) else (4 : Int32))) = (0 : Int32) then (0 : Int32) else (1 : Int32)))) = (0 : Int32) then (1 : Int32) else (0 : Int32))) = (0 : Int32) := zq.mp c
    have c' := c
    unfold x_X7_setWind at c'
    have c1 : (x_X7_checkRange (xs ((6 * kc) + 1)) (-1 : Int32) (1 : Int32)) = (0 : Int32) := by
      by_cases z : (x_X7_checkRange (xs ((6 * kc) + 1)) (-1 : Int32) (1 : Int32)) = (0 : Int32)
      · exact z
      · rw [if_neg z] at c'; exact absurd c' (by decide)
    rw [if_pos c1] at c'
    have c2 : (x_X7_checkRange (xs ((6 * kc) + 2)) (-1 : Int32) (1 : Int32)) = (0 : Int32) := by
      by_cases z : (x_X7_checkRange (xs ((6 * kc) + 2)) (-1 : Int32) (1 : Int32)) = (0 : Int32)
      · exact z
      · rw [if_neg z] at c'; exact absurd c' (by decide)
    rw [if_pos c2] at c'
    have c3 : (x_X7_checkRange (xs ((6 * kc) + 3)) (0 : Int32) (if (xs ((6 * kc) + 1)) = (0 : Int32) then (if (xs ((6 * kc) + 2)) = (0 : Int32) then (0 : Int32) else (4 : Int32)) else (4 : Int32))) = (0 : Int32) := by
      by_cases z : (x_X7_checkRange (xs ((6 * kc) + 3)) (0 : Int32) (if (xs ((6 * kc) + 1)) = (0 : Int32) then (if (xs ((6 * kc) + 2)) = (0 : Int32) then (0 : Int32) else (4 : Int32)) else (4 : Int32))) = (0 : Int32)
      · exact z
      · rw [if_neg z] at c'; exact absurd c' (by decide)
    rw [if_pos c3] at c'
    clear c'
    simp only [g_L_setWind_la_7, g_L_setWind_la_8, g_L_setWind_la_9, g_X7_setWind_la_7, g_X7_setWind_la_8, g_X7_setWind_la_9, g_X12_setWind_ml_6, g_X12_setWind_ml_7, g_X12_setWind_ml_8, if_pos c, if_pos cr, if_pos c1, if_pos c2, if_pos c3]
    obtain ⟨⟨L, W, s1, s2, s3, SB⟩, s4, s5, hs, hu, hw, hc⟩ := R
    have w1 : ∃ m, m ≤ 4 ∧ (xs ((6 * kc) + 3)) = nI m := ⟨_, (zwind c3).2, (zwind c3).1⟩
    have wr : zRwi (xs ((6 * kc) + 1)) (xs ((6 * kc) + 2)) (xs ((6 * kc) + 3)) la.2.2.2.2.2.2.2.2.2.2.1 (xs ((6 * kc) + 1)) (xs ((6 * kc) + 2)) (xs ((6 * kc) + 3)) ml.2.2.2.2.2.2.2.2.2.1 := by
      obtain ⟨dw, wd, ra, -, -, -, hr, -, -, -, e10, -, -, -, m9⟩ := W
      obtain ⟨dw', hd, h7, h8⟩ := zdir (zrB.mp c1) (zrB.mp c2)
      obtain ⟨m, hm, em⟩ := w1
      refine ⟨dw', m, ra, hd, hm, fun z y => ?_, hr, h7, h8, em, e10, rfl, rfl, rfl, m9⟩
      subst y
      have g1 : (xs ((6 * kc) + 1)) = (0 : Int32) := h7
      have g2 : (xs ((6 * kc) + 2)) = (0 : Int32) := h8
      have g3 := (zmbet (zrB.mp c3)).2
      rw [if_pos g1, if_pos g2, em] at g3
      exact absurd g3 (nI_nle z (by omega))
    exact ⟨⟨L, wr, s1, s2, s3, SB⟩, s4, s5, hs, hu, hw, hc⟩
  · have cr : ¬ ((r_X12_isWrong (if (if (r_X12_isBetween (xs ((6 * kc) + 1)) (-1 : Int32) (1 : Int32)) = (0 : Int32) then (0 : Int32) else (if (r_X12_isBetween (xs ((6 * kc) + 2)) (-1 : Int32) (1 : Int32)) = (0 : Int32) then (0 : Int32) else (if (r_X12_isBetween (xs ((6 * kc) + 3)) (0 : Int32) (if (xs ((6 * kc) + 1)) = (0 : Int32) then (if (xs ((6 * kc) + 2)) = (0 : Int32) then (0 : Int32) else (4 : Int32)) else (4 : Int32))) = (0 : Int32) then (0 : Int32) else (1 : Int32)))) = (0 : Int32) then (1 : Int32) else (0 : Int32))) = (0 : Int32)) := fun z => c (zq.mpr z)
    simp only [g_L_setWind_la_7, g_L_setWind_la_8, g_L_setWind_la_9, g_X12_setWind_ml_6, g_X12_setWind_ml_7, g_X12_setWind_ml_8, if_neg c, if_neg cr]
    exact R
set_option maxHeartbeats 4000000 in
set_option maxRecDepth 100000 in
theorem zr_setRain {aq : zAcs} {r : Nat} {kc : Nat} {wo : zWor} {la : zLand} {ou : zOutl} {al : zLand} {se : zSens} {su : zSubs} {sc : zScho} {rv : zWv} {md : zMd} {ml : zMl} {te : zMs} {sb : zMb} {so : zMo} {wa : zMw} {r1 : Nat} {r2 : Nat} {r3 : Nat} {r4 : Nat} {xs : Nat → Int32} (S : zCl aq r (wo, la, ou, al, se, su, sc) rv) (M : zSm (zch aq aq.1) md ml te sb so wa r1 r2 r3 r4) (R : zRl (wo, la, ou, al, se, su, sc) md ml te sb so wa) : zRl (wo, (la.1, la.2.1, la.2.2.1, la.2.2.2.1, la.2.2.2.2.1, la.2.2.2.2.2.1, la.2.2.2.2.2.2.1, la.2.2.2.2.2.2.2.1, la.2.2.2.2.2.2.2.2.1, la.2.2.2.2.2.2.2.2.2.1, (g_L_setRain_la_10 la.2.2.2.2.2.2.2.2.2.2.1 (xs ((6 * kc) + 1))), la.2.2.2.2.2.2.2.2.2.2.2.1, la.2.2.2.2.2.2.2.2.2.2.2.2.1, la.2.2.2.2.2.2.2.2.2.2.2.2.2), ou, al, se, su, sc) ((g_X12_setRain_md_0 (xs ((6 * kc) + 1))), md.2.1, md.2.2.1, md.2.2.2) (ml.1, ml.2.1, ml.2.2.1, ml.2.2.2.1, ml.2.2.2.2.1, ml.2.2.2.2.2.1, ml.2.2.2.2.2.2.1, ml.2.2.2.2.2.2.2.1, ml.2.2.2.2.2.2.2.2.1, (g_X12_setRain_ml_9 ml.2.2.2.2.2.2.2.2.2.1 (xs ((6 * kc) + 1))), ml.2.2.2.2.2.2.2.2.2.2.1, ml.2.2.2.2.2.2.2.2.2.2.2.1, ml.2.2.2.2.2.2.2.2.2.2.2.2) te sb so wa := by
  have w := S.2.2.1.1.1
  have zq := (zq_setRain (xs ((6 * kc) + 1)))
  by_cases c : x_X7_setRain (xs ((6 * kc) + 1)) = (0 : Int32)
  · have cr : (r_X12_isWrong (if (r_X12_isBetween (xs ((6 * kc) + 1)) (0 : Int32) (9 : Int32)) = (0 : Int32) then (1 : Int32) else (0 : Int32))) = (0 : Int32) := zq.mp c
    have c' := c
    unfold x_X7_setRain at c'
    have c1 : (x_X7_checkRange (xs ((6 * kc) + 1)) (0 : Int32) (9 : Int32)) = (0 : Int32) := by
      by_cases z : (x_X7_checkRange (xs ((6 * kc) + 1)) (0 : Int32) (9 : Int32)) = (0 : Int32)
      · exact z
      · rw [if_neg z] at c'; exact absurd c' (by decide)
    rw [if_pos c1] at c'
    clear c'
    simp only [g_L_setRain_la_10, g_X7_setRain_la_10, g_X12_setRain_ml_9, if_pos c, if_pos cr, if_pos c1]
    obtain ⟨⟨L, W, s1, s2, s3, SB⟩, s4, s5, hs, hu, hw, hc⟩ := R
    have wr : zRwi la.2.2.2.2.2.2.2.1 la.2.2.2.2.2.2.2.2.1 la.2.2.2.2.2.2.2.2.2.1 (xs ((6 * kc) + 1)) ml.2.2.2.2.2.2.1 ml.2.2.2.2.2.2.2.1 ml.2.2.2.2.2.2.2.2.1 (xs ((6 * kc) + 1)) := by
      obtain ⟨dw, wd, ra, hd, hw4, h4, -, e7, e8, e9, -, m6, m7, m8, -⟩ := W
      obtain ⟨m, hm, -, em⟩ := zbw (l := 0) (u := 9) (by decide) (zrB.mp c1) (by decide)
      exact ⟨dw, wd, m, hd, hw4, h4, hm, e7, e8, e9, em, m6, m7, m8, rfl⟩
    exact ⟨⟨L, wr, s1, s2, s3, SB⟩, s4, s5, hs, hu, hw, hc⟩
  · have cr : ¬ ((r_X12_isWrong (if (r_X12_isBetween (xs ((6 * kc) + 1)) (0 : Int32) (9 : Int32)) = (0 : Int32) then (1 : Int32) else (0 : Int32))) = (0 : Int32)) := fun z => c (zq.mpr z)
    simp only [g_L_setRain_la_10, g_X12_setRain_ml_9, if_neg c, if_neg cr]
    exact R
set_option maxHeartbeats 4000000 in
set_option maxRecDepth 100000 in
theorem zr_digLine {aq : zAcs} {r : Nat} {kc : Nat} {wo : zWor} {la : zLand} {ou : zOutl} {al : zLand} {se : zSens} {su : zSubs} {sc : zScho} {rv : zWv} {md : zMd} {ml : zMl} {te : zMs} {sb : zMb} {so : zMo} {wa : zMw} {r1 : Nat} {r2 : Nat} {r3 : Nat} {r4 : Nat} {xs : Nat → Int32} (S : zCl aq r (wo, la, ou, al, se, su, sc) rv) (M : zSm (zch aq aq.1) md ml te sb so wa r1 r2 r3 r4) (R : zRl (wo, la, ou, al, se, su, sc) md ml te sb so wa) : zRl (wo, (la.1, la.2.1, la.2.2.1, la.2.2.2.1, (g_L_digLine_la_4 la.1 la.2.1 la.2.2.2.1 la.2.2.2.2.1 (xs ((6 * kc) + 1)) (xs ((6 * kc) + 2)) (xs ((6 * kc) + 3))), (g_L_digLine_la_5 la.2.1 la.2.2.2.1 la.2.2.2.2.2.1 (xs ((6 * kc) + 1)) (xs ((6 * kc) + 2)) (xs ((6 * kc) + 3))), la.2.2.2.2.2.2.1, la.2.2.2.2.2.2.2.1, la.2.2.2.2.2.2.2.2.1, la.2.2.2.2.2.2.2.2.2.1, la.2.2.2.2.2.2.2.2.2.2.1, la.2.2.2.2.2.2.2.2.2.2.2.1, la.2.2.2.2.2.2.2.2.2.2.2.2.1, la.2.2.2.2.2.2.2.2.2.2.2.2.2), ou, al, se, su, sc) ((g_X12_digLine_md_0 ml.2.2.2.1 ml.2.2.2.2.2.1 (xs ((6 * kc) + 1)) (xs ((6 * kc) + 2)) (xs ((6 * kc) + 3))), md.2.1, md.2.2.1, md.2.2.2) (ml.1, (g_X12_digLine_ml_1 ml.1 ml.2.1 ml.2.2.2.1 ml.2.2.2.2.2.1 (xs ((6 * kc) + 1)) (xs ((6 * kc) + 2)) (xs ((6 * kc) + 3))), (g_X12_digLine_ml_2 ml.2.2.1 ml.2.2.2.1 ml.2.2.2.2.2.1 (xs ((6 * kc) + 1)) (xs ((6 * kc) + 2)) (xs ((6 * kc) + 3))), ml.2.2.2.1, ml.2.2.2.2.1, ml.2.2.2.2.2.1, ml.2.2.2.2.2.2.1, ml.2.2.2.2.2.2.2.1, ml.2.2.2.2.2.2.2.2.1, ml.2.2.2.2.2.2.2.2.2.1, ml.2.2.2.2.2.2.2.2.2.2.1, ml.2.2.2.2.2.2.2.2.2.2.2.1, ml.2.2.2.2.2.2.2.2.2.2.2.2) te sb so wa := by
  have w := S.2.2.1.1.1
  have zq := (zq_digLine R.1.1.2.1 R.1.1.2.2.2.1 (xs ((6 * kc) + 1)) (xs ((6 * kc) + 2)) (xs ((6 * kc) + 3)))
  by_cases c : x_X7_digLine la.2.1 la.2.2.2.1 (xs ((6 * kc) + 1)) (xs ((6 * kc) + 2)) (xs ((6 * kc) + 3)) = (0 : Int32)
  · have cr : (r_X12_isWrong (if (r_X12_isCell (xs ((6 * kc) + 1)) (xs ((6 * kc) + 2))) = (0 : Int32) then (1 : Int32) else (if (r_X12_isCrew (xs ((6 * kc) + 3))) = (0 : Int32) then (2 : Int32) else (if (ml.2.2.2.2.2.1 (r_X12_at (xs ((6 * kc) + 1)) (xs ((6 * kc) + 2))).toNatClampNeg) = (0 : Int32) then (if (ml.2.2.2.1 (r_X12_at (xs ((6 * kc) + 1)) (xs ((6 * kc) + 2))).toNatClampNeg) ≤ (4 : Int32) then (0 : Int32) else (3 : Int32)) else (3 : Int32))))) = (0 : Int32) := zq.mp c
    have c' := c
    unfold x_X7_digLine at c'
    have c1 : (x_X7_placeOf (xs ((6 * kc) + 1)) (xs ((6 * kc) + 2))) = (0 : Int32) := by
      by_cases z : (x_X7_placeOf (xs ((6 * kc) + 1)) (xs ((6 * kc) + 2))) = (0 : Int32)
      · exact z
      · rw [if_neg z] at c'; exact absurd c' (by decide)
    rw [if_pos c1] at c'
    have c2 : (x_X7_checkRange (xs ((6 * kc) + 3)) (0 : Int32) (2 : Int32)) = (0 : Int32) := by
      by_cases z : (x_X7_checkRange (xs ((6 * kc) + 3)) (0 : Int32) (2 : Int32)) = (0 : Int32)
      · exact z
      · rw [if_neg z] at c'; exact absurd c' (by decide)
    rw [if_pos c2] at c'
    have c3 : (la.2.2.2.1 (r_X7_placeOf (xs ((6 * kc) + 1)) (xs ((6 * kc) + 2))).toNatClampNeg) = (0 : Int32) := by
      by_cases z : (la.2.2.2.1 (r_X7_placeOf (xs ((6 * kc) + 1)) (xs ((6 * kc) + 2))).toNatClampNeg) = (0 : Int32)
      · exact z
      · rw [if_neg z] at c'; exact absurd c' (by decide)
    rw [if_pos c3] at c'
    have c4 : (la.2.1 (r_X7_placeOf (xs ((6 * kc) + 1)) (xs ((6 * kc) + 2))).toNatClampNeg) ≤ (4 : Int32) := by
      by_cases z : (la.2.1 (r_X7_placeOf (xs ((6 * kc) + 1)) (xs ((6 * kc) + 2))).toNatClampNeg) ≤ (4 : Int32)
      · exact z
      · rw [if_neg z] at c'; exact absurd c' (by decide)
    rw [if_pos c4] at c'
    clear c'
    simp only [g_L_digLine_la_4, g_L_digLine_la_5, g_X7_digLine_la_4, g_X7_digLine_la_5, g_X12_digLine_ml_1, g_X12_digLine_ml_2, if_pos c, if_pos cr, if_pos c1, if_pos c2, if_pos c3, if_pos c4]
    obtain ⟨⟨L, W, s1, s2, s3, SB⟩, s4, s5, hs, hu, hw, hc⟩ := R
    obtain ⟨q1, q2, q3, q4, q5, q6, q7, q8, q9⟩ := L
    have dc : ¬ r_X12_isCell (xs ((6 * kc) + 1)) (xs ((6 * kc) + 2)) = (0 : Int32) := zcB.mp c1
    rw [zplace_at dc]
    have e := q1 _ (zatlt dc)
    obtain ⟨m, hm, em⟩ := q7 _ (zatlt dc)
    have y : (2 : Int32) + (la.1 (r_X12_at (xs ((6 * kc) + 1)) (xs ((6 * kc) + 2))).toNatClampNeg) / (20 : Int32) = nI (2 + m / 20) := by
      rw [em, show nI m / (20 : Int32) = nI (m / 20) from pk_div (by omega) (by decide) (by decide), show (2 : Int32) = nI 2 from rfl, nI_add]
    exact ⟨⟨⟨q1, q2, q3, q4, zEq_u q5 (by rw [← e]), zEq_u q6 rfl, q7, q8, zBd_u q9 (by omega : 2 + m / 20 ≤ 6) y⟩, W, s1, s2, s3, SB⟩, s4, s5, hs, hu, hw, hc⟩
  · have cr : ¬ ((r_X12_isWrong (if (r_X12_isCell (xs ((6 * kc) + 1)) (xs ((6 * kc) + 2))) = (0 : Int32) then (1 : Int32) else (if (r_X12_isCrew (xs ((6 * kc) + 3))) = (0 : Int32) then (2 : Int32) else (if (ml.2.2.2.2.2.1 (r_X12_at (xs ((6 * kc) + 1)) (xs ((6 * kc) + 2))).toNatClampNeg) = (0 : Int32) then (if (ml.2.2.2.1 (r_X12_at (xs ((6 * kc) + 1)) (xs ((6 * kc) + 2))).toNatClampNeg) ≤ (4 : Int32) then (0 : Int32) else (3 : Int32)) else (3 : Int32))))) = (0 : Int32)) := fun z => c (zq.mpr z)
    simp only [g_L_digLine_la_4, g_L_digLine_la_5, g_X12_digLine_ml_1, g_X12_digLine_ml_2, if_neg c, if_neg cr]
    exact R
set_option maxHeartbeats 4000000 in
set_option maxRecDepth 100000 in
theorem zr_addSensor {aq : zAcs} {r : Nat} {kc : Nat} {wo : zWor} {la : zLand} {ou : zOutl} {al : zLand} {se : zSens} {su : zSubs} {sc : zScho} {rv : zWv} {md : zMd} {ml : zMl} {te : zMs} {sb : zMb} {so : zMo} {wa : zMw} {r1 : Nat} {r2 : Nat} {r3 : Nat} {r4 : Nat} {xs : Nat → Int32} (S : zCl aq r (wo, la, ou, al, se, su, sc) rv) (M : zSm (zch aq aq.1) md ml te sb so wa r1 r2 r3 r4) (R : zRl (wo, la, ou, al, se, su, sc) md ml te sb so wa) : zRl (wo, la, ou, al, ((g_L_addSensor_se_0 se.1 se.2.2.2.2.2.2.2.2.1 (xs ((6 * kc) + 1)) (xs ((6 * kc) + 2))), (g_L_addSensor_se_1 se.2.1 se.2.2.2.2.2.2.2.2.1 (xs ((6 * kc) + 1)) (xs ((6 * kc) + 2))), se.2.2.1, se.2.2.2.1, se.2.2.2.2.1, se.2.2.2.2.2.1, se.2.2.2.2.2.2.1, se.2.2.2.2.2.2.2.1, (g_L_addSensor_se_8 se.2.2.2.2.2.2.2.2.1 (xs ((6 * kc) + 1)) (xs ((6 * kc) + 2))), se.2.2.2.2.2.2.2.2.2), su, sc) ((g_X12_addSensor_md_0 te.1 (xs ((6 * kc) + 1)) (xs ((6 * kc) + 2))), md.2.1, md.2.2.1, md.2.2.2) ml ((g_X12_addSensor_se_0 te.1 (xs ((6 * kc) + 1)) (xs ((6 * kc) + 2))), (g_X12_addSensor_se_1 te.1 te.2.1 (xs ((6 * kc) + 1)) (xs ((6 * kc) + 2))), (g_X12_addSensor_se_2 te.1 te.2.2.1 (xs ((6 * kc) + 1)) (xs ((6 * kc) + 2))), (g_X12_addSensor_se_3 te.1 te.2.2.2.1 (xs ((6 * kc) + 1)) (xs ((6 * kc) + 2))), (g_X12_addSensor_se_4 te.1 te.2.2.2.2.1 (xs ((6 * kc) + 1)) (xs ((6 * kc) + 2))), (g_X12_addSensor_se_5 te.1 te.2.2.2.2.2.1 (xs ((6 * kc) + 1)) (xs ((6 * kc) + 2))), (g_X12_addSensor_se_6 te.1 te.2.2.2.2.2.2.1 (xs ((6 * kc) + 1)) (xs ((6 * kc) + 2))), (g_X12_addSensor_se_7 te.1 te.2.2.2.2.2.2.2 (xs ((6 * kc) + 1)) (xs ((6 * kc) + 2)))) sb so wa := by
  have w := S.2.2.1.1.1
  have ecn := R.2.2.2.1.1
  have zq := (zq_addSensor w.hcs w.hns (xs ((6 * kc) + 1)) (xs ((6 * kc) + 2)))
  rw [ecn] at zq
  by_cases c : x_X7_addSensor se.2.2.2.2.2.2.2.2.1 (xs ((6 * kc) + 1)) (xs ((6 * kc) + 2)) = (0 : Int32)
  · have cr : (r_X12_isWrong (if (r_X12_isCell (xs ((6 * kc) + 1)) (xs ((6 * kc) + 2))) = (0 : Int32) then (1 : Int32) else (if (r_Jx4a65c_size_8abf5 (nI te.1)) = (10 : Int32) then (2 : Int32) else (0 : Int32)))) = (0 : Int32) := zq.mp c
    have c' := c
    unfold x_X7_addSensor at c'
    have c1 : (x_X7_placeOf (xs ((6 * kc) + 1)) (xs ((6 * kc) + 2))) = (0 : Int32) := by
      by_cases z : (x_X7_placeOf (xs ((6 * kc) + 1)) (xs ((6 * kc) + 2))) = (0 : Int32)
      · exact z
      · rw [if_neg z] at c'; exact absurd c' (by decide)
    rw [if_pos c1] at c'
    have c2 : (x_X7_checkRoom se.2.2.2.2.2.2.2.2.1 (10 : Int32)) = (0 : Int32) := by
      by_cases z : (x_X7_checkRoom se.2.2.2.2.2.2.2.2.1 (10 : Int32)) = (0 : Int32)
      · exact z
      · rw [if_neg z] at c'; exact absurd c' (by decide)
    rw [if_pos c2] at c'
    clear c'
    simp only [g_L_addSensor_se_0, g_L_addSensor_se_1, g_L_addSensor_se_8, g_X7_addSensor_se_0, g_X7_addSensor_se_1, g_X7_addSensor_se_8, g_X12_addSensor_se_0, g_X12_addSensor_se_1, g_X12_addSensor_se_2, g_X12_addSensor_se_3, g_X12_addSensor_se_4, g_X12_addSensor_se_5, g_X12_addSensor_se_6, g_X12_addSensor_se_7, if_pos c, if_pos cr, if_pos c1, if_pos c2]
    obtain ⟨⟨L, W, s1, s2, s3, SB⟩, s4, s5, hs, hu, hw, hc⟩ := R
    have dc : ¬ r_X12_isCell (xs ((6 * kc) + 1)) (xs ((6 * kc) + 2)) = (0 : Int32) := zcB.mp c1
    rw [zplace_at dc]
    have n1 : (se.2.2.2.2.2.2.2.2.1 + (1 : Int32)).toNatClampNeg = nsv (wo, la, ou, al, se, su, sc) + 1 := by rw [w.hcs, nI_1, nI_clamp (by have := w.hns; omega)]
    obtain ⟨en, hs1, hs0⟩ := hs
    have n2 : te.1 = se.2.2.2.2.2.2.2.2.1.toNatClampNeg := en.symm
    refine ⟨⟨L, W, s1, s2, s3, SB⟩, s4, s5, ⟨?_, ?_, ?_⟩, hu, hw, hc⟩
    · show (se.2.2.2.2.2.2.2.2.1 + (1 : Int32)).toNatClampNeg = te.1 + 1
      rw [n1, ← en]
    · show ∀ k, k < (se.2.2.2.2.2.2.2.2.1 + (1 : Int32)).toNatClampNeg → _
      rw [n1]
      intro k hk
      rw [n2]
      by_cases z : k = se.2.2.2.2.2.2.2.2.1.toNatClampNeg
      · obtain ⟨z1, z2, z3⟩ := hs0 k (Nat.le_of_eq z.symm)
        refine ⟨?_, Or.inl ⟨z1, ?_⟩, ⟨50, by decide, ?_, ?_⟩, Or.inl ⟨z2, ?_, 0, by decide, z3, ?_, ?_⟩⟩ <;> (try (show upd _ _ _ k = _; rw [z, upd_i]; rfl))
        show zSv (upd _ _ _ k) (upd _ _ _ k) (upd _ _ _ k)
        rw [z, upd_i, upd_i, upd_i]
        exact zatv dc
      · have hk2 : k < nsv (wo, la, ou, al, se, su, sc) := Nat.lt_of_le_of_ne (Nat.le_of_lt_succ hk) z
        obtain ⟨g1, g2, g3⟩ := hs1 k hk2
        have o : ∀ {F : Nat → Int32} {v : Int32}, upd F se.2.2.2.2.2.2.2.2.1.toNatClampNeg v k = F k := fun {F v} => upd_o z
        refine ⟨?_, ?_, ?_⟩
        · show zSv (upd _ _ _ k) (upd _ _ _ k) (upd _ _ _ k)
          rw [o, o, o]; exact g1
        · show zSr _ _ (upd _ _ _ k)
          rw [o]; exact g2
        · show zStv (upd _ _ _ k) _ _ _ (upd _ _ _ k) (upd _ _ _ k) (upd _ _ _ k) (upd _ _ _ k)
          rw [o, o, o, o, o]; exact g3
    · show ∀ k, (se.2.2.2.2.2.2.2.2.1 + (1 : Int32)).toNatClampNeg ≤ k → _
      rw [n1]
      exact fun k hk => hs0 k (Nat.le_of_succ_le hk)
  · have cr : ¬ ((r_X12_isWrong (if (r_X12_isCell (xs ((6 * kc) + 1)) (xs ((6 * kc) + 2))) = (0 : Int32) then (1 : Int32) else (if (r_Jx4a65c_size_8abf5 (nI te.1)) = (10 : Int32) then (2 : Int32) else (0 : Int32)))) = (0 : Int32)) := fun z => c (zq.mpr z)
    simp only [g_L_addSensor_se_0, g_L_addSensor_se_1, g_L_addSensor_se_8, g_X12_addSensor_se_0, g_X12_addSensor_se_1, g_X12_addSensor_se_2, g_X12_addSensor_se_3, g_X12_addSensor_se_4, g_X12_addSensor_se_5, g_X12_addSensor_se_6, g_X12_addSensor_se_7, if_neg c, if_neg cr]
    exact R
set_option maxHeartbeats 4000000 in
set_option maxRecDepth 100000 in
theorem zr_read {aq : zAcs} {r : Nat} {kc : Nat} {wo : zWor} {la : zLand} {ou : zOutl} {al : zLand} {se : zSens} {su : zSubs} {sc : zScho} {rv : zWv} {md : zMd} {ml : zMl} {te : zMs} {sb : zMb} {so : zMo} {wa : zMw} {r1 : Nat} {r2 : Nat} {r3 : Nat} {r4 : Nat} {xs : Nat → Int32} (S : zCl aq r (wo, la, ou, al, se, su, sc) rv) (M : zSm (zch aq aq.1) md ml te sb so wa r1 r2 r3 r4) (R : zRl (wo, la, ou, al, se, su, sc) md ml te sb so wa) : zRl (wo, la, ou, al, (se.1, se.2.1, (g_L_read_se_2 se.2.2.1 se.2.2.2.2.2.2.2.2.1 (xs ((6 * kc) + 1)) (xs ((6 * kc) + 2))), (g_L_read_se_3 se.2.2.2.1 se.2.2.2.2.2.2.2.2.1 (xs ((6 * kc) + 1)) (xs ((6 * kc) + 2))), se.2.2.2.2.1, se.2.2.2.2.2.1, se.2.2.2.2.2.2.1, se.2.2.2.2.2.2.2.1, se.2.2.2.2.2.2.2.2.1, se.2.2.2.2.2.2.2.2.2), su, sc) ((g_X12_read_md_0 te.1 (xs ((6 * kc) + 1)) (xs ((6 * kc) + 2))), md.2.1, md.2.2.1, md.2.2.2) ml (te.1, te.2.1, te.2.2.1, te.2.2.2.1, (g_X12_read_se_4 te.1 te.2.2.2.2.1 (xs ((6 * kc) + 1)) (xs ((6 * kc) + 2))), te.2.2.2.2.2.1, te.2.2.2.2.2.2.1, te.2.2.2.2.2.2.2) sb so wa := by
  have w := S.2.2.1.1.1
  have ecn := R.2.2.2.1.1
  have zq := (zq_read w.hcs w.hns (xs ((6 * kc) + 1)) (xs ((6 * kc) + 2)))
  rw [ecn] at zq
  by_cases c : x_X7_read se.2.2.2.2.2.2.2.2.1 (xs ((6 * kc) + 1)) (xs ((6 * kc) + 2)) = (0 : Int32)
  · have cr : (r_X12_isWrong (if (r_X12_isSensor te.1 (xs ((6 * kc) + 1))) = (0 : Int32) then (1 : Int32) else (if (r_X12_isBetween (xs ((6 * kc) + 2)) (0 : Int32) (9999 : Int32)) = (0 : Int32) then (2 : Int32) else (0 : Int32)))) = (0 : Int32) := zq.mp c
    have c' := c
    unfold x_X7_read at c'
    have c1 : (x_X7_checkNumber (xs ((6 * kc) + 1)) se.2.2.2.2.2.2.2.2.1) = (0 : Int32) := by
      by_cases z : (x_X7_checkNumber (xs ((6 * kc) + 1)) se.2.2.2.2.2.2.2.2.1) = (0 : Int32)
      · exact z
      · rw [if_neg z] at c'; exact absurd c' (by decide)
    rw [if_pos c1] at c'
    have c2 : (x_X7_checkRange (xs ((6 * kc) + 2)) (0 : Int32) (9999 : Int32)) = (0 : Int32) := by
      by_cases z : (x_X7_checkRange (xs ((6 * kc) + 2)) (0 : Int32) (9999 : Int32)) = (0 : Int32)
      · exact z
      · rw [if_neg z] at c'; exact absurd c' (by decide)
    rw [if_pos c2] at c'
    clear c'
    simp only [g_L_read_se_2, g_L_read_se_3, g_X7_read_se_2, g_X7_read_se_3, g_X12_read_se_4, if_pos c, if_pos cr, if_pos c1, if_pos c2]
    obtain ⟨⟨L, W, s1, s2, s3, SB⟩, s4, s5, hs, hu, hw, hc⟩ := R
    obtain ⟨en, hs1, hs0⟩ := hs
    obtain ⟨m, hm, -, em⟩ := zbw (l := 0) (u := 9999) (by decide) (zrB.mp c2) (by decide)
    have ha := zmsz (by have := w.hns; omega) ((znm w.hcs (by have := w.hns; omega)).mp c1)
    refine ⟨⟨L, W, s1, s2, s3, SB⟩, s4, s5, ⟨en, fun k hk => ?_, fun k hk => ?_⟩, hu, hw, hc⟩
    · obtain ⟨g1, g2, g3⟩ := hs1 k hk
      refine ⟨g1, ?_, g3⟩
      show zSr (upd _ _ _ k) (upd _ _ _ k) (upd _ _ _ k)
      by_cases z : k = (xs ((6 * kc) + 1)).toNatClampNeg
      · rw [z, upd_i, upd_i, upd_i]; exact Or.inr ⟨m, hm, rfl, em, em⟩
      · rw [upd_o z, upd_o z, upd_o z]; exact g2
    · obtain ⟨g1, g2, g3⟩ := hs0 k hk
      refine ⟨?_, g2, g3⟩
      show upd _ _ _ k = _
      have hk2 : te.1 ≤ k := Nat.le_trans (Nat.le_of_eq en.symm) hk
      rw [upd_o (by have := ha.2; have : nsv (wo, la, ou, al, se, su, sc) = te.1 := en; omega)]; exact g1
  · have cr : ¬ ((r_X12_isWrong (if (r_X12_isSensor te.1 (xs ((6 * kc) + 1))) = (0 : Int32) then (1 : Int32) else (if (r_X12_isBetween (xs ((6 * kc) + 2)) (0 : Int32) (9999 : Int32)) = (0 : Int32) then (2 : Int32) else (0 : Int32)))) = (0 : Int32)) := fun z => c (zq.mpr z)
    simp only [g_L_read_se_2, g_L_read_se_3, g_X12_read_se_4, if_neg c, if_neg cr]
    exact R
set_option maxHeartbeats 4000000 in
set_option maxRecDepth 100000 in
theorem zr_subscribe {aq : zAcs} {r : Nat} {kc : Nat} {wo : zWor} {la : zLand} {ou : zOutl} {al : zLand} {se : zSens} {su : zSubs} {sc : zScho} {rv : zWv} {md : zMd} {ml : zMl} {te : zMs} {sb : zMb} {so : zMo} {wa : zMw} {r1 : Nat} {r2 : Nat} {r3 : Nat} {r4 : Nat} {xs : Nat → Int32} (S : zCl aq r (wo, la, ou, al, se, su, sc) rv) (M : zSm (zch aq aq.1) md ml te sb so wa r1 r2 r3 r4) (R : zRl (wo, la, ou, al, se, su, sc) md ml te sb so wa) : zRl (wo, la, ou, al, se, (su.1, (g_L_subscribe_su_1 su.2.1 su.2.2.2.2.2.1 (xs ((6 * kc) + 1)) (xs ((6 * kc) + 2)) (xs ((6 * kc) + 3)) (xs ((6 * kc) + 4)) (xs ((6 * kc) + 5))), (g_L_subscribe_su_2 su.2.2.1 su.2.2.2.2.2.1 (xs ((6 * kc) + 1)) (xs ((6 * kc) + 2)) (xs ((6 * kc) + 3)) (xs ((6 * kc) + 4)) (xs ((6 * kc) + 5))), (g_L_subscribe_su_3 su.2.2.2.1 su.2.2.2.2.2.1 (xs ((6 * kc) + 1)) (xs ((6 * kc) + 2)) (xs ((6 * kc) + 3)) (xs ((6 * kc) + 4)) (xs ((6 * kc) + 5))), (g_L_subscribe_su_4 su.2.2.2.2.1 su.2.2.2.2.2.1 (xs ((6 * kc) + 1)) (xs ((6 * kc) + 2)) (xs ((6 * kc) + 3)) (xs ((6 * kc) + 4)) (xs ((6 * kc) + 5))), (g_L_subscribe_su_5 su.2.2.2.2.2.1 (xs ((6 * kc) + 1)) (xs ((6 * kc) + 2)) (xs ((6 * kc) + 3)) (xs ((6 * kc) + 4)) (xs ((6 * kc) + 5))), su.2.2.2.2.2.2.1, su.2.2.2.2.2.2.2.1, su.2.2.2.2.2.2.2.2.1, su.2.2.2.2.2.2.2.2.2.1, su.2.2.2.2.2.2.2.2.2.2.1, su.2.2.2.2.2.2.2.2.2.2.2.1, su.2.2.2.2.2.2.2.2.2.2.2.2), sc) ((g_X12_subscribe_md_0 sb.1 (xs ((6 * kc) + 1)) (xs ((6 * kc) + 2)) (xs ((6 * kc) + 3)) (xs ((6 * kc) + 4)) (xs ((6 * kc) + 5))), md.2.1, md.2.2.1, md.2.2.2) ml te ((g_X12_subscribe_sb_0 sb.1 (xs ((6 * kc) + 1)) (xs ((6 * kc) + 2)) (xs ((6 * kc) + 3)) (xs ((6 * kc) + 4)) (xs ((6 * kc) + 5))), (g_X12_subscribe_sb_1 sb.1 sb.2.1 (xs ((6 * kc) + 1)) (xs ((6 * kc) + 2)) (xs ((6 * kc) + 3)) (xs ((6 * kc) + 4)) (xs ((6 * kc) + 5))), (g_X12_subscribe_sb_2 sb.1 sb.2.2.1 (xs ((6 * kc) + 1)) (xs ((6 * kc) + 2)) (xs ((6 * kc) + 3)) (xs ((6 * kc) + 4)) (xs ((6 * kc) + 5))), (g_X12_subscribe_sb_3 sb.1 sb.2.2.2.1 (xs ((6 * kc) + 1)) (xs ((6 * kc) + 2)) (xs ((6 * kc) + 3)) (xs ((6 * kc) + 4)) (xs ((6 * kc) + 5))), (g_X12_subscribe_sb_4 sb.1 sb.2.2.2.2.1 (xs ((6 * kc) + 1)) (xs ((6 * kc) + 2)) (xs ((6 * kc) + 3)) (xs ((6 * kc) + 4)) (xs ((6 * kc) + 5))), (g_X12_subscribe_sb_5 sb.1 sb.2.2.2.2.2 (xs ((6 * kc) + 1)) (xs ((6 * kc) + 2)) (xs ((6 * kc) + 3)) (xs ((6 * kc) + 4)) (xs ((6 * kc) + 5)))) so wa := by
  have w := S.2.2.1.1.1
  have ecn := R.2.2.2.2.1.1
  have zq := (zq_subscribe w.hcu w.hnu (xs ((6 * kc) + 1)) (xs ((6 * kc) + 2)) (xs ((6 * kc) + 3)) (xs ((6 * kc) + 4)) (xs ((6 * kc) + 5)))
  rw [ecn] at zq
  by_cases c : x_X7_subscribe su.2.2.2.2.2.1 (xs ((6 * kc) + 1)) (xs ((6 * kc) + 2)) (xs ((6 * kc) + 3)) (xs ((6 * kc) + 4)) (xs ((6 * kc) + 5)) = (0 : Int32)
  · have cr : (r_X12_isWrong (if (r_X12_isCell (xs ((6 * kc) + 1)) (xs ((6 * kc) + 2))) = (0 : Int32) then (1 : Int32) else (if (if (r_X12_isBetween (xs ((6 * kc) + 3)) (20 : Int32) (9999 : Int32)) = (0 : Int32) then (0 : Int32) else (if (r_X12_isBetween (xs ((6 * kc) + 4)) (0 : Int32) (23 : Int32)) = (0 : Int32) then (0 : Int32) else (if (r_X12_isBetween (xs ((6 * kc) + 5)) (0 : Int32) (23 : Int32)) = (0 : Int32) then (0 : Int32) else (1 : Int32)))) = (0 : Int32) then (2 : Int32) else (if (r_Jx4a65c_size_8abf5 (nI sb.1)) = (12 : Int32) then (3 : Int32) else (0 : Int32))))) = (0 : Int32) := zq.mp c
    have c' := c
    unfold x_X7_subscribe at c'
    have c1 : (x_X7_placeOf (xs ((6 * kc) + 1)) (xs ((6 * kc) + 2))) = (0 : Int32) := by
      by_cases z : (x_X7_placeOf (xs ((6 * kc) + 1)) (xs ((6 * kc) + 2))) = (0 : Int32)
      · exact z
      · rw [if_neg z] at c'; exact absurd c' (by decide)
    rw [if_pos c1] at c'
    have c2 : (x_X7_checkRange (xs ((6 * kc) + 3)) (20 : Int32) (9999 : Int32)) = (0 : Int32) := by
      by_cases z : (x_X7_checkRange (xs ((6 * kc) + 3)) (20 : Int32) (9999 : Int32)) = (0 : Int32)
      · exact z
      · rw [if_neg z] at c'; exact absurd c' (by decide)
    rw [if_pos c2] at c'
    have c3 : (x_X7_checkRange (xs ((6 * kc) + 4)) (0 : Int32) (23 : Int32)) = (0 : Int32) := by
      by_cases z : (x_X7_checkRange (xs ((6 * kc) + 4)) (0 : Int32) (23 : Int32)) = (0 : Int32)
      · exact z
      · rw [if_neg z] at c'; exact absurd c' (by decide)
    rw [if_pos c3] at c'
    have c4 : (x_X7_checkRange (xs ((6 * kc) + 5)) (0 : Int32) (23 : Int32)) = (0 : Int32) := by
      by_cases z : (x_X7_checkRange (xs ((6 * kc) + 5)) (0 : Int32) (23 : Int32)) = (0 : Int32)
      · exact z
      · rw [if_neg z] at c'; exact absurd c' (by decide)
    rw [if_pos c4] at c'
    have c5 : (x_X7_checkRoom su.2.2.2.2.2.1 (12 : Int32)) = (0 : Int32) := by
      by_cases z : (x_X7_checkRoom su.2.2.2.2.2.1 (12 : Int32)) = (0 : Int32)
      · exact z
      · rw [if_neg z] at c'; exact absurd c' (by decide)
    rw [if_pos c5] at c'
    clear c'
    simp only [g_L_subscribe_su_1, g_L_subscribe_su_2, g_L_subscribe_su_3, g_L_subscribe_su_4, g_L_subscribe_su_5, g_X7_subscribe_su_1, g_X7_subscribe_su_2, g_X7_subscribe_su_3, g_X7_subscribe_su_4, g_X7_subscribe_su_5, g_X12_subscribe_sb_0, g_X12_subscribe_sb_1, g_X12_subscribe_sb_2, g_X12_subscribe_sb_3, g_X12_subscribe_sb_4, g_X12_subscribe_sb_5, if_pos c, if_pos cr, if_pos c1, if_pos c2, if_pos c3, if_pos c4, if_pos c5]
    obtain ⟨⟨L, W, s1, s2, s3, SB⟩, s4, s5, hs, hu, hw, hc⟩ := R
    have dc : ¬ r_X12_isCell (xs ((6 * kc) + 1)) (xs ((6 * kc) + 2)) = (0 : Int32) := zcB.mp c1
    rw [zplace_at dc]
    have n1 : (su.2.2.2.2.2.1 + (1 : Int32)).toNatClampNeg = nuv (wo, la, ou, al, se, su, sc) + 1 := by rw [w.hcu, nI_1, nI_clamp (by have := w.hnu; omega)]
    obtain ⟨en, hu1, hu0⟩ := hu
    have n2 : sb.1 = su.2.2.2.2.2.1.toNatClampNeg := en.symm
    obtain ⟨m, hm, -, em⟩ := zbw (l := 20) (u := 9999) (by decide) (zrB.mp c2) (by decide)
    refine ⟨⟨L, W, s1, s2, s3, SB⟩, s4, s5, hs, ⟨?_, ?_, ?_⟩, hw, hc⟩
    · show (su.2.2.2.2.2.1 + (1 : Int32)).toNatClampNeg = sb.1 + 1
      rw [n1, ← en]
    · show ∀ k, k < (su.2.2.2.2.2.1 + (1 : Int32)).toNatClampNeg → _
      rw [n1]
      intro k hk
      rw [n2]
      show upd _ _ _ k = upd _ _ _ k ∧ (upd _ _ _ k = upd _ _ _ k ∧ ∃ m, m ≤ 9999 ∧ upd _ _ _ k = nI m) ∧ upd _ _ _ k = upd _ _ _ k ∧ upd _ _ _ k = upd _ _ _ k ∧ _ = upd _ _ _ k
      by_cases z : k = su.2.2.2.2.2.1.toNatClampNeg
      · have z0 := hu0 k (Nat.le_of_eq z.symm)
        rw [z] at z0 ⊢
        simp only [upd_i]
        exact ⟨rfl, ⟨rfl, m, hm, em⟩, rfl, rfl, z0⟩
      · have hk2 : k < nuv (wo, la, ou, al, se, su, sc) := Nat.lt_of_le_of_ne (Nat.le_of_lt_succ hk) z
        simp only [upd_o z]
        exact hu1 k hk2
    · show ∀ k, (su.2.2.2.2.2.1 + (1 : Int32)).toNatClampNeg ≤ k → _
      rw [n1]
      exact fun k hk => hu0 k (Nat.le_of_succ_le hk)
  · have cr : ¬ ((r_X12_isWrong (if (r_X12_isCell (xs ((6 * kc) + 1)) (xs ((6 * kc) + 2))) = (0 : Int32) then (1 : Int32) else (if (if (r_X12_isBetween (xs ((6 * kc) + 3)) (20 : Int32) (9999 : Int32)) = (0 : Int32) then (0 : Int32) else (if (r_X12_isBetween (xs ((6 * kc) + 4)) (0 : Int32) (23 : Int32)) = (0 : Int32) then (0 : Int32) else (if (r_X12_isBetween (xs ((6 * kc) + 5)) (0 : Int32) (23 : Int32)) = (0 : Int32) then (0 : Int32) else (1 : Int32)))) = (0 : Int32) then (2 : Int32) else (if (r_Jx4a65c_size_8abf5 (nI sb.1)) = (12 : Int32) then (3 : Int32) else (0 : Int32))))) = (0 : Int32)) := fun z => c (zq.mpr z)
    simp only [g_L_subscribe_su_1, g_L_subscribe_su_2, g_L_subscribe_su_3, g_L_subscribe_su_4, g_L_subscribe_su_5, g_X12_subscribe_sb_0, g_X12_subscribe_sb_1, g_X12_subscribe_sb_2, g_X12_subscribe_sb_3, g_X12_subscribe_sb_4, g_X12_subscribe_sb_5, if_neg c, if_neg cr]
    exact R
set_option maxHeartbeats 4000000 in
set_option maxRecDepth 100000 in
theorem zr_addSchool {aq : zAcs} {r : Nat} {kc : Nat} {wo : zWor} {la : zLand} {ou : zOutl} {al : zLand} {se : zSens} {su : zSubs} {sc : zScho} {rv : zWv} {md : zMd} {ml : zMl} {te : zMs} {sb : zMb} {so : zMo} {wa : zMw} {r1 : Nat} {r2 : Nat} {r3 : Nat} {r4 : Nat} {xs : Nat → Int32} (S : zCl aq r (wo, la, ou, al, se, su, sc) rv) (M : zSm (zch aq aq.1) md ml te sb so wa r1 r2 r3 r4) (R : zRl (wo, la, ou, al, se, su, sc) md ml te sb so wa) : zRl (wo, la, ou, al, se, su, ((g_L_addSchool_sc_0 sc.1 sc.2.2.2.1 (xs ((6 * kc) + 1)) (xs ((6 * kc) + 2)) (xs ((6 * kc) + 3))), (g_L_addSchool_sc_1 sc.2.1 sc.2.2.2.1 (xs ((6 * kc) + 1)) (xs ((6 * kc) + 2)) (xs ((6 * kc) + 3))), (g_L_addSchool_sc_2 sc.2.2.1 sc.2.2.2.1 (xs ((6 * kc) + 1)) (xs ((6 * kc) + 2)) (xs ((6 * kc) + 3))), (g_L_addSchool_sc_3 sc.2.2.2.1 (xs ((6 * kc) + 1)) (xs ((6 * kc) + 2)) (xs ((6 * kc) + 3))), sc.2.2.2.2)) ((g_X12_addSchool_md_0 so.1 (xs ((6 * kc) + 1)) (xs ((6 * kc) + 2)) (xs ((6 * kc) + 3))), md.2.1, md.2.2.1, md.2.2.2) ml te sb ((g_X12_addSchool_so_0 so.1 (xs ((6 * kc) + 1)) (xs ((6 * kc) + 2)) (xs ((6 * kc) + 3))), (g_X12_addSchool_so_1 so.1 so.2.1 (xs ((6 * kc) + 1)) (xs ((6 * kc) + 2)) (xs ((6 * kc) + 3))), (g_X12_addSchool_so_2 so.1 so.2.2.1 (xs ((6 * kc) + 1)) (xs ((6 * kc) + 2)) (xs ((6 * kc) + 3))), (g_X12_addSchool_so_3 so.1 so.2.2.2 (xs ((6 * kc) + 1)) (xs ((6 * kc) + 2)) (xs ((6 * kc) + 3)))) wa := by
  have w := S.2.2.1.1.1
  have ecn := R.2.2.2.2.2.2.1
  have zq := (zq_addSchool w.hcc w.hnc (xs ((6 * kc) + 1)) (xs ((6 * kc) + 2)) (xs ((6 * kc) + 3)))
  rw [ecn] at zq
  by_cases c : x_X7_addSchool sc.2.2.2.1 (xs ((6 * kc) + 1)) (xs ((6 * kc) + 2)) (xs ((6 * kc) + 3)) = (0 : Int32)
  · have cr : (r_X12_isWrong (if (r_X12_isCell (xs ((6 * kc) + 1)) (xs ((6 * kc) + 2))) = (0 : Int32) then (1 : Int32) else (if (r_X12_isBetween (xs ((6 * kc) + 3)) (20 : Int32) (9999 : Int32)) = (0 : Int32) then (2 : Int32) else (if (r_Jx4a65c_size_8abf5 (nI so.1)) = (6 : Int32) then (3 : Int32) else (0 : Int32))))) = (0 : Int32) := zq.mp c
    have c' := c
    unfold x_X7_addSchool at c'
    have c1 : (x_X7_placeOf (xs ((6 * kc) + 1)) (xs ((6 * kc) + 2))) = (0 : Int32) := by
      by_cases z : (x_X7_placeOf (xs ((6 * kc) + 1)) (xs ((6 * kc) + 2))) = (0 : Int32)
      · exact z
      · rw [if_neg z] at c'; exact absurd c' (by decide)
    rw [if_pos c1] at c'
    have c2 : (x_X7_checkRange (xs ((6 * kc) + 3)) (20 : Int32) (9999 : Int32)) = (0 : Int32) := by
      by_cases z : (x_X7_checkRange (xs ((6 * kc) + 3)) (20 : Int32) (9999 : Int32)) = (0 : Int32)
      · exact z
      · rw [if_neg z] at c'; exact absurd c' (by decide)
    rw [if_pos c2] at c'
    have c3 : (x_X7_checkRoom sc.2.2.2.1 (6 : Int32)) = (0 : Int32) := by
      by_cases z : (x_X7_checkRoom sc.2.2.2.1 (6 : Int32)) = (0 : Int32)
      · exact z
      · rw [if_neg z] at c'; exact absurd c' (by decide)
    rw [if_pos c3] at c'
    clear c'
    simp only [g_L_addSchool_sc_0, g_L_addSchool_sc_1, g_L_addSchool_sc_2, g_L_addSchool_sc_3, g_X7_addSchool_sc_0, g_X7_addSchool_sc_1, g_X7_addSchool_sc_2, g_X7_addSchool_sc_3, g_X12_addSchool_so_0, g_X12_addSchool_so_1, g_X12_addSchool_so_2, g_X12_addSchool_so_3, if_pos c, if_pos cr, if_pos c1, if_pos c2, if_pos c3]
    obtain ⟨⟨L, W, s1, s2, s3, SB⟩, s4, s5, hs, hu, hw, hc⟩ := R
    have dc : ¬ r_X12_isCell (xs ((6 * kc) + 1)) (xs ((6 * kc) + 2)) = (0 : Int32) := zcB.mp c1
    rw [zplace_at dc]
    have n1 : (sc.2.2.2.1 + (1 : Int32)).toNatClampNeg = ncv (wo, la, ou, al, se, su, sc) + 1 := by rw [w.hcc, nI_1, nI_clamp (by have := w.hnc; omega)]
    obtain ⟨en, hc1⟩ := hc
    have n2 : so.1 = sc.2.2.2.1.toNatClampNeg := en.symm
    refine ⟨⟨L, W, s1, s2, s3, SB⟩, s4, s5, hs, hu, hw, ⟨?_, ?_⟩⟩
    · show (sc.2.2.2.1 + (1 : Int32)).toNatClampNeg = so.1 + 1
      rw [n1, ← en]
    · show ∀ k, k < (sc.2.2.2.1 + (1 : Int32)).toNatClampNeg → _
      rw [n1]
      intro k hk
      rw [n2]
      show upd _ _ _ k = upd _ _ _ k ∧ upd _ _ _ k = upd _ _ _ k ∧ zOp (upd _ _ _ k) (upd _ _ _ k)
      by_cases z : k = sc.2.2.2.1.toNatClampNeg
      · rw [z]
        simp only [upd_i]
        exact ⟨rfl, rfl, Or.inl ⟨rfl, rfl⟩⟩
      · have hk2 : k < ncv (wo, la, ou, al, se, su, sc) := Nat.lt_of_le_of_ne (Nat.le_of_lt_succ hk) z
        simp only [upd_o z]
        exact hc1 k hk2
  · have cr : ¬ ((r_X12_isWrong (if (r_X12_isCell (xs ((6 * kc) + 1)) (xs ((6 * kc) + 2))) = (0 : Int32) then (1 : Int32) else (if (r_X12_isBetween (xs ((6 * kc) + 3)) (20 : Int32) (9999 : Int32)) = (0 : Int32) then (2 : Int32) else (if (r_Jx4a65c_size_8abf5 (nI so.1)) = (6 : Int32) then (3 : Int32) else (0 : Int32))))) = (0 : Int32)) := fun z => c (zq.mpr z)
    simp only [g_L_addSchool_sc_0, g_L_addSchool_sc_1, g_L_addSchool_sc_2, g_L_addSchool_sc_3, g_X12_addSchool_so_0, g_X12_addSchool_so_1, g_X12_addSchool_so_2, g_X12_addSchool_so_3, if_neg c, if_neg cr]
    exact R
end
section
/-! the hours of pass: what class and reference have alike -/
def zVi (wo : zWor) (la : zLand) (ou : zOutl) (al : zLand) (se : zSens) (su : zSubs) (sc : zScho) (y : (Nat → Int32) × (Nat → Int32) × (Nat → Int32) × (Nat → Int32) × (Nat → Int32) × (Nat → Int32) × (Nat → Int32) × Int32 × Int32 × Int32 × Int32 × Int64 × Int64 × Int64 × (Nat → Int32) × (Nat → Int32) × (Nat → Int32) × (Nat → Int32) × (Nat → Int32) × (Nat → Int32) × Int64 × Int64 × Int64 × (Nat → Int32) × (Nat → Int32) × Int32 × (Nat → Int32) × (Nat → Int32) × (Nat → Int32) × (Nat → Int32) × (Nat → Int32) × (Nat → Int32) × Int64 × (Nat → Int32) × (Nat → Int32) × (Nat → Int32) × (Nat → Int32) × Nat × Nat × Nat × Nat × Int32) : zWv := (y.2.2.2.2.2.2.2.2.2.2.2.2.2.2.2.2.2.2.2.2.2.2.2.2.2.2.2.2.2.2.2.2.2.2.2.2.2.2.2.2.2, (y.2.2.2.2.2.2.2.2.2.2.2.2.2.2.1, y.2.2.2.2.2.2.2.2.2.2.2.2.2.2.2.1, y.2.2.2.2.2.2.2.2.2.2.2.2.2.2.2.2.1, y.2.2.2.2.2.2.2.2.2.2.2.2.2.2.2.2.2.1, y.2.2.2.2.2.2.2.2.2.2.2.2.2.2.2.2.2.2.1, la.2.2.2.2.2.1, y.2.2.2.2.2.2.2.2.2.2.2.2.2.2.2.2.2.2.2.1, la.2.2.2.2.2.2.2.1, la.2.2.2.2.2.2.2.2.1, la.2.2.2.2.2.2.2.2.2.1, la.2.2.2.2.2.2.2.2.2.2.1, y.2.2.2.2.2.2.2.2.2.2.2.2.2.2.2.2.2.2.2.2.1, y.2.2.2.2.2.2.2.2.2.2.2.2.2.2.2.2.2.2.2.2.2.1, y.2.2.2.2.2.2.2.2.2.2.2.2.2.2.2.2.2.2.2.2.2.2.1), y.2.2.2.2.2.2.2.2.2.2.2.2.2.2.2.2.2.2.2.2.2.2.2.1, (y.1, y.2.1, y.2.2.1, y.2.2.2.1, y.2.2.2.2.1, y.2.2.2.2.2.1, y.2.2.2.2.2.2.1, y.2.2.2.2.2.2.2.1, y.2.2.2.2.2.2.2.2.1, y.2.2.2.2.2.2.2.2.2.1, y.2.2.2.2.2.2.2.2.2.2.1, y.2.2.2.2.2.2.2.2.2.2.2.1, y.2.2.2.2.2.2.2.2.2.2.2.2.1, y.2.2.2.2.2.2.2.2.2.2.2.2.2.1), (y.2.2.2.2.2.2.2.2.2.2.2.2.2.2.2.2.2.2.2.2.2.2.2.2.2.2.1, se.2.1, y.2.2.2.2.2.2.2.2.2.2.2.2.2.2.2.2.2.2.2.2.2.2.2.2.2.2.2.1, se.2.2.2.1, y.2.2.2.2.2.2.2.2.2.2.2.2.2.2.2.2.2.2.2.2.2.2.2.2.2.2.2.2.1, y.2.2.2.2.2.2.2.2.2.2.2.2.2.2.2.2.2.2.2.2.2.2.2.2.2.2.2.2.2.1, y.2.2.2.2.2.2.2.2.2.2.2.2.2.2.2.2.2.2.2.2.2.2.2.2.2.2.2.2.2.2.1, y.2.2.2.2.2.2.2.2.2.2.2.2.2.2.2.2.2.2.2.2.2.2.2.2.2.2.2.2.2.2.2.1, se.2.2.2.2.2.2.2.2.1, y.2.2.2.2.2.2.2.2.2.2.2.2.2.2.2.2.2.2.2.2.2.2.2.2.2.2.2.2.2.2.2.2.1), (y.2.2.2.2.2.2.2.2.2.2.2.2.2.2.2.2.2.2.2.2.2.2.2.2.2.2.2.2.2.2.2.2.2.1, su.2.1, su.2.2.1, su.2.2.2.1, su.2.2.2.2.1, su.2.2.2.2.2.1, y.2.2.2.2.2.2.2.2.2.2.2.2.2.2.2.2.2.2.2.2.2.2.2.2.2.2.2.2.2.2.2.2.2.2.1, y.2.2.2.2.2.2.2.2.2.2.2.2.2.2.2.2.2.2.2.2.2.2.2.2.2.2.2.2.2.2.2.2.2.2.2.1, y.2.2.2.2.2.2.2.2.2.2.2.2.2.2.2.2.2.2.2.2.2.2.2.2.2.2.2.2.2.2.2.2.2.2.2.2.1, y.2.2.2.2.2.2.2.2.2.2.2.2.2.2.2.2.2.2.2.2.2.2.2.2.2.2.2.2.2.2.2.2.2.2.2.2.2.1, y.2.2.2.2.2.2.2.2.2.2.2.2.2.2.2.2.2.2.2.2.2.2.2.2.2.2.2.2.2.2.2.2.2.2.2.2.2.2.1, y.2.2.2.2.2.2.2.2.2.2.2.2.2.2.2.2.2.2.2.2.2.2.2.2.2.2.2.2.2.2.2.2.2.2.2.2.2.2.2.1, y.2.2.2.2.2.2.2.2.2.2.2.2.2.2.2.2.2.2.2.2.2.2.2.2.2.2.2.2.2.2.2.2.2.2.2.2.2.2.2.2.1), (y.2.2.2.2.2.2.2.2.2.2.2.2.2.2.2.2.2.2.2.2.2.2.2.2.1, sc.2.1, sc.2.2.1, sc.2.2.2.1, y.2.2.2.2.2.2.2.2.2.2.2.2.2.2.2.2.2.2.2.2.2.2.2.2.2.1))
def zVm_md (md : zMd) (z : Int32 × Int32 × Int64 × Int32 × (Nat → Int32) × (Nat → Int32) × (Nat → Int32) × (Nat → Int32) × (Nat → Int32) × Int64 × Int64 × Int64 × Nat × (Nat → Int32) × (Nat → Int32) × (Nat → Int32) × (Nat → Int32) × (Nat → Int32) × (Nat → Int32) × (Nat → Int32) × Nat × (Nat → Int32) × (Nat → Int32) × (Nat → Int32)) : zMd := (md.1, z.2.1, z.2.2.1, z.2.2.2.1)
def zVm_ml (ml : zMl) (z : Int32 × Int32 × Int64 × Int32 × (Nat → Int32) × (Nat → Int32) × (Nat → Int32) × (Nat → Int32) × (Nat → Int32) × Int64 × Int64 × Int64 × Nat × (Nat → Int32) × (Nat → Int32) × (Nat → Int32) × (Nat → Int32) × (Nat → Int32) × (Nat → Int32) × (Nat → Int32) × Nat × (Nat → Int32) × (Nat → Int32) × (Nat → Int32)) : zMl := (z.2.2.2.2.1, z.2.2.2.2.2.1, ml.2.2.1, z.2.2.2.2.2.2.1, z.2.2.2.2.2.2.2.1, z.2.2.2.2.2.2.2.2.1, ml.2.2.2.2.2.2.1, ml.2.2.2.2.2.2.2.1, ml.2.2.2.2.2.2.2.2.1, ml.2.2.2.2.2.2.2.2.2.1, z.2.2.2.2.2.2.2.2.2.1, z.2.2.2.2.2.2.2.2.2.2.1, z.2.2.2.2.2.2.2.2.2.2.2.1)
def zVm_te (te : zMs) (z : Int32 × Int32 × Int64 × Int32 × (Nat → Int32) × (Nat → Int32) × (Nat → Int32) × (Nat → Int32) × (Nat → Int32) × Int64 × Int64 × Int64 × Nat × (Nat → Int32) × (Nat → Int32) × (Nat → Int32) × (Nat → Int32) × (Nat → Int32) × (Nat → Int32) × (Nat → Int32) × Nat × (Nat → Int32) × (Nat → Int32) × (Nat → Int32)) : zMs := (te.1, te.2.1, te.2.2.1, z.2.2.2.2.2.2.2.2.2.2.2.2.2.2.1, z.2.2.2.2.2.2.2.2.2.2.2.2.2.2.2.1, z.2.2.2.2.2.2.2.2.2.2.2.2.2.2.2.2.1, z.2.2.2.2.2.2.2.2.2.2.2.2.2.2.2.2.2.1, z.2.2.2.2.2.2.2.2.2.2.2.2.2.2.2.2.2.2.1)
def zVm_sb (sb : zMb) (z : Int32 × Int32 × Int64 × Int32 × (Nat → Int32) × (Nat → Int32) × (Nat → Int32) × (Nat → Int32) × (Nat → Int32) × Int64 × Int64 × Int64 × Nat × (Nat → Int32) × (Nat → Int32) × (Nat → Int32) × (Nat → Int32) × (Nat → Int32) × (Nat → Int32) × (Nat → Int32) × Nat × (Nat → Int32) × (Nat → Int32) × (Nat → Int32)) : zMb := (sb.1, sb.2.1, sb.2.2.1, sb.2.2.2.1, sb.2.2.2.2.1, z.2.2.2.2.2.2.2.2.2.2.2.2.2.1)
def zVm_so (so : zMo) (z : Int32 × Int32 × Int64 × Int32 × (Nat → Int32) × (Nat → Int32) × (Nat → Int32) × (Nat → Int32) × (Nat → Int32) × Int64 × Int64 × Int64 × Nat × (Nat → Int32) × (Nat → Int32) × (Nat → Int32) × (Nat → Int32) × (Nat → Int32) × (Nat → Int32) × (Nat → Int32) × Nat × (Nat → Int32) × (Nat → Int32) × (Nat → Int32)) : zMo := (so.1, so.2.1, so.2.2.1, z.2.2.2.2.2.2.2.2.2.2.2.2.2.2.2.2.2.2.2.1)
def zVm_wa (wa : zMw) (z : Int32 × Int32 × Int64 × Int32 × (Nat → Int32) × (Nat → Int32) × (Nat → Int32) × (Nat → Int32) × (Nat → Int32) × Int64 × Int64 × Int64 × Nat × (Nat → Int32) × (Nat → Int32) × (Nat → Int32) × (Nat → Int32) × (Nat → Int32) × (Nat → Int32) × (Nat → Int32) × Nat × (Nat → Int32) × (Nat → Int32) × (Nat → Int32)) : zMw := (z.2.2.2.2.2.2.2.2.2.2.2.2.2.2.2.2.2.2.2.2.1, z.2.2.2.2.2.2.2.2.2.2.2.2.2.2.2.2.2.2.2.2.2.1, z.2.2.2.2.2.2.2.2.2.2.2.2.2.2.2.2.2.2.2.2.2.2.1, z.2.2.2.2.2.2.2.2.2.2.2.2.2.2.2.2.2.2.2.2.2.2.2)
set_option maxHeartbeats 4000000 in
set_option maxRecDepth 100000 in
theorem zpassR {wo : zWor} {la : zLand} {ou : zOutl} {al : zLand} {se : zSens} {su : zSubs} {sc : zScho} {md : zMd} {ml : zMl} {l4 : zAL} {te : zMs} {sb : zMb} {so : zMo} {wa : zMw} {r1 r2 r3 r4 h : Nat} (R : zRl (wo, la, ou, al, se, su, sc) md ml te sb so wa) (S : zSf h (wo, la, ou, al, se, su, sc)) (M : zSm h md ml te sb so wa r1 r2 r3 r4) : ∀ i : Nat, i ≤ 24 → h + i ≤ 999 → zRl (zVi wo la ou al se su sc (lp_X6_perform_10_210 la.2.2.2.2.2.1 la.2.2.2.2.2.2.2.1 la.2.2.2.2.2.2.2.2.1 la.2.2.2.2.2.2.2.2.2.1 la.2.2.2.2.2.2.2.2.2.2.1 sc.2.1 sc.2.2.1 sc.2.2.2.1 se.2.1 se.2.2.2.1 su.2.1 su.2.2.1 su.2.2.2.1 su.2.2.2.2.1 (nsv (wo, la, ou, al, se, su, sc)) (nuv (wo, la, ou, al, se, su, sc)) (ncv (wo, la, ou, al, se, su, sc)) (kv (wo, la, ou, al, se, su, sc)) (al.1, al.2.1, al.2.2.1, al.2.2.2.1, al.2.2.2.2.1, al.2.2.2.2.2.1, al.2.2.2.2.2.2.1, al.2.2.2.2.2.2.2.1, al.2.2.2.2.2.2.2.2.1, al.2.2.2.2.2.2.2.2.2.1, al.2.2.2.2.2.2.2.2.2.2.1, al.2.2.2.2.2.2.2.2.2.2.2.1, al.2.2.2.2.2.2.2.2.2.2.2.2.1, al.2.2.2.2.2.2.2.2.2.2.2.2.2, la.1, la.2.1, la.2.2.1, la.2.2.2.1, la.2.2.2.2.1, la.2.2.2.2.2.2.1, la.2.2.2.2.2.2.2.2.2.2.2.1, la.2.2.2.2.2.2.2.2.2.2.2.2.1, la.2.2.2.2.2.2.2.2.2.2.2.2.2, ou, sc.1, sc.2.2.2.2, se.1, se.2.2.1, se.2.2.2.2.1, se.2.2.2.2.2.1, se.2.2.2.2.2.2.1, se.2.2.2.2.2.2.2.1, se.2.2.2.2.2.2.2.2.2, su.1, su.2.2.2.2.2.2.1, su.2.2.2.2.2.2.2.1, su.2.2.2.2.2.2.2.2.1, su.2.2.2.2.2.2.2.2.2.1, su.2.2.2.2.2.2.2.2.2.2.1, su.2.2.2.2.2.2.2.2.2.2.2.1, su.2.2.2.2.2.2.2.2.2.2.2.2, wo) i)) (zVm_md md (lp_X12_pass_42 ml.2.2.1 ml.2.2.2.2.2.2.1 ml.2.2.2.2.2.2.2.1 ml.2.2.2.2.2.2.2.2.1 ml.2.2.2.2.2.2.2.2.2.1 sb.1 sb.2.1 sb.2.2.1 sb.2.2.2.1 sb.2.2.2.2.1 te.1 te.2.1 te.2.2.1 so.1 so.2.1 so.2.2.1 (snv ml) (l4.1, md.2.1, md.2.2.1, md.2.2.2, ml.1, ml.2.1, ml.2.2.2.1, ml.2.2.2.2.1, ml.2.2.2.2.2.1, ml.2.2.2.2.2.2.2.2.2.2.1, ml.2.2.2.2.2.2.2.2.2.2.2.1, ml.2.2.2.2.2.2.2.2.2.2.2.2, r4, sb.2.2.2.2.2, te.2.2.2.1, te.2.2.2.2.1, te.2.2.2.2.2.1, te.2.2.2.2.2.2.1, te.2.2.2.2.2.2.2, so.2.2.2, wa.1, wa.2.1, wa.2.2.1, wa.2.2.2) i)) (zVm_ml ml (lp_X12_pass_42 ml.2.2.1 ml.2.2.2.2.2.2.1 ml.2.2.2.2.2.2.2.1 ml.2.2.2.2.2.2.2.2.1 ml.2.2.2.2.2.2.2.2.2.1 sb.1 sb.2.1 sb.2.2.1 sb.2.2.2.1 sb.2.2.2.2.1 te.1 te.2.1 te.2.2.1 so.1 so.2.1 so.2.2.1 (snv ml) (l4.1, md.2.1, md.2.2.1, md.2.2.2, ml.1, ml.2.1, ml.2.2.2.1, ml.2.2.2.2.1, ml.2.2.2.2.2.1, ml.2.2.2.2.2.2.2.2.2.2.1, ml.2.2.2.2.2.2.2.2.2.2.2.1, ml.2.2.2.2.2.2.2.2.2.2.2.2, r4, sb.2.2.2.2.2, te.2.2.2.1, te.2.2.2.2.1, te.2.2.2.2.2.1, te.2.2.2.2.2.2.1, te.2.2.2.2.2.2.2, so.2.2.2, wa.1, wa.2.1, wa.2.2.1, wa.2.2.2) i)) (zVm_te te (lp_X12_pass_42 ml.2.2.1 ml.2.2.2.2.2.2.1 ml.2.2.2.2.2.2.2.1 ml.2.2.2.2.2.2.2.2.1 ml.2.2.2.2.2.2.2.2.2.1 sb.1 sb.2.1 sb.2.2.1 sb.2.2.2.1 sb.2.2.2.2.1 te.1 te.2.1 te.2.2.1 so.1 so.2.1 so.2.2.1 (snv ml) (l4.1, md.2.1, md.2.2.1, md.2.2.2, ml.1, ml.2.1, ml.2.2.2.1, ml.2.2.2.2.1, ml.2.2.2.2.2.1, ml.2.2.2.2.2.2.2.2.2.2.1, ml.2.2.2.2.2.2.2.2.2.2.2.1, ml.2.2.2.2.2.2.2.2.2.2.2.2, r4, sb.2.2.2.2.2, te.2.2.2.1, te.2.2.2.2.1, te.2.2.2.2.2.1, te.2.2.2.2.2.2.1, te.2.2.2.2.2.2.2, so.2.2.2, wa.1, wa.2.1, wa.2.2.1, wa.2.2.2) i)) (zVm_sb sb (lp_X12_pass_42 ml.2.2.1 ml.2.2.2.2.2.2.1 ml.2.2.2.2.2.2.2.1 ml.2.2.2.2.2.2.2.2.1 ml.2.2.2.2.2.2.2.2.2.1 sb.1 sb.2.1 sb.2.2.1 sb.2.2.2.1 sb.2.2.2.2.1 te.1 te.2.1 te.2.2.1 so.1 so.2.1 so.2.2.1 (snv ml) (l4.1, md.2.1, md.2.2.1, md.2.2.2, ml.1, ml.2.1, ml.2.2.2.1, ml.2.2.2.2.1, ml.2.2.2.2.2.1, ml.2.2.2.2.2.2.2.2.2.2.1, ml.2.2.2.2.2.2.2.2.2.2.2.1, ml.2.2.2.2.2.2.2.2.2.2.2.2, r4, sb.2.2.2.2.2, te.2.2.2.1, te.2.2.2.2.1, te.2.2.2.2.2.1, te.2.2.2.2.2.2.1, te.2.2.2.2.2.2.2, so.2.2.2, wa.1, wa.2.1, wa.2.2.1, wa.2.2.2) i)) (zVm_so so (lp_X12_pass_42 ml.2.2.1 ml.2.2.2.2.2.2.1 ml.2.2.2.2.2.2.2.1 ml.2.2.2.2.2.2.2.2.1 ml.2.2.2.2.2.2.2.2.2.1 sb.1 sb.2.1 sb.2.2.1 sb.2.2.2.1 sb.2.2.2.2.1 te.1 te.2.1 te.2.2.1 so.1 so.2.1 so.2.2.1 (snv ml) (l4.1, md.2.1, md.2.2.1, md.2.2.2, ml.1, ml.2.1, ml.2.2.2.1, ml.2.2.2.2.1, ml.2.2.2.2.2.1, ml.2.2.2.2.2.2.2.2.2.2.1, ml.2.2.2.2.2.2.2.2.2.2.2.1, ml.2.2.2.2.2.2.2.2.2.2.2.2, r4, sb.2.2.2.2.2, te.2.2.2.1, te.2.2.2.2.1, te.2.2.2.2.2.1, te.2.2.2.2.2.2.1, te.2.2.2.2.2.2.2, so.2.2.2, wa.1, wa.2.1, wa.2.2.1, wa.2.2.2) i)) (zVm_wa wa (lp_X12_pass_42 ml.2.2.1 ml.2.2.2.2.2.2.1 ml.2.2.2.2.2.2.2.1 ml.2.2.2.2.2.2.2.2.1 ml.2.2.2.2.2.2.2.2.2.1 sb.1 sb.2.1 sb.2.2.1 sb.2.2.2.1 sb.2.2.2.2.1 te.1 te.2.1 te.2.2.1 so.1 so.2.1 so.2.2.1 (snv ml) (l4.1, md.2.1, md.2.2.1, md.2.2.2, ml.1, ml.2.1, ml.2.2.2.1, ml.2.2.2.2.1, ml.2.2.2.2.2.1, ml.2.2.2.2.2.2.2.2.2.2.1, ml.2.2.2.2.2.2.2.2.2.2.2.1, ml.2.2.2.2.2.2.2.2.2.2.2.2, r4, sb.2.2.2.2.2, te.2.2.2.1, te.2.2.2.2.1, te.2.2.2.2.2.1, te.2.2.2.2.2.2.1, te.2.2.2.2.2.2.2, so.2.2.2, wa.1, wa.2.1, wa.2.2.1, wa.2.2.2) i)) := by
  obtain ⟨w, k4, hwo, h9, hse, hca, hbu, hbs⟩ := S
  replace hse : su.2.2.2.2.2.2.2.2.2.1 ≤ 12 * h := hse
  obtain ⟨s1, s2, hq, hbo, n10, n12, n6, hat, hat3, htr, hh, h9m, hw, q1, q2, q3, q4⟩ := M
  intro i
  induction i with
  | zero => intro _ _; rw [lp_X6_perform_10_210_0, lp_X12_pass_42_0]; exact R
  | succ i ih =>
    intro hi hk
    have j := ih (by omega) (by omega)
    obtain ⟨p1, p2, p3, p4, p5, p6⟩ := zpk (ns := nsv (wo, la, ou, al, se, su, sc)) (nc := ncv (wo, la, ou, al, se, su, sc)) (k := kv (wo, la, ou, al, se, su, sc)) la ou al se su sc wo w.hnu w.hT w.hC w.hq0 w.ha0 w.hbo i (by omega)
    obtain ⟨-, -, v3⟩ := zpk2 (ns := nsv (wo, la, ou, al, se, su, sc)) (nu := nuv (wo, la, ou, al, se, su, sc)) (nc := ncv (wo, la, ou, al, se, su, sc)) (k := kv (wo, la, ou, al, se, su, sc)) la ou al se su sc wo hbu hbs hwo i
    obtain ⟨m1, m2, m3, m4, m5, m6⟩ := zmpk (sn := snv ml) (ml := ml) (l4 := l4) (te := te) (sb := sb) (so := so) (wa := wa) (r4 := r4) (md := md) hbo htr q4 hh n12 (by omega) i (by omega)
    rw [lp_X6_perform_10_210_s, lp_X12_pass_42_s]
    generalize (lp_X6_perform_10_210 la.2.2.2.2.2.1 la.2.2.2.2.2.2.2.1 la.2.2.2.2.2.2.2.2.1 la.2.2.2.2.2.2.2.2.2.1 la.2.2.2.2.2.2.2.2.2.2.1 sc.2.1 sc.2.2.1 sc.2.2.2.1 se.2.1 se.2.2.2.1 su.2.1 su.2.2.1 su.2.2.2.1 su.2.2.2.2.1 (nsv (wo, la, ou, al, se, su, sc)) (nuv (wo, la, ou, al, se, su, sc)) (ncv (wo, la, ou, al, se, su, sc)) (kv (wo, la, ou, al, se, su, sc)) (al.1, al.2.1, al.2.2.1, al.2.2.2.1, al.2.2.2.2.1, al.2.2.2.2.2.1, al.2.2.2.2.2.2.1, al.2.2.2.2.2.2.2.1, al.2.2.2.2.2.2.2.2.1, al.2.2.2.2.2.2.2.2.2.1, al.2.2.2.2.2.2.2.2.2.2.1, al.2.2.2.2.2.2.2.2.2.2.2.1, al.2.2.2.2.2.2.2.2.2.2.2.2.1, al.2.2.2.2.2.2.2.2.2.2.2.2.2, la.1, la.2.1, la.2.2.1, la.2.2.2.1, la.2.2.2.2.1, la.2.2.2.2.2.2.1, la.2.2.2.2.2.2.2.2.2.2.2.1, la.2.2.2.2.2.2.2.2.2.2.2.2.1, la.2.2.2.2.2.2.2.2.2.2.2.2.2, ou, sc.1, sc.2.2.2.2, se.1, se.2.2.1, se.2.2.2.2.1, se.2.2.2.2.2.1, se.2.2.2.2.2.2.1, se.2.2.2.2.2.2.2.1, se.2.2.2.2.2.2.2.2.2, su.1, su.2.2.2.2.2.2.1, su.2.2.2.2.2.2.2.1, su.2.2.2.2.2.2.2.2.1, su.2.2.2.2.2.2.2.2.2.1, su.2.2.2.2.2.2.2.2.2.2.1, su.2.2.2.2.2.2.2.2.2.2.2.1, su.2.2.2.2.2.2.2.2.2.2.2.2, wo) i) = y at j p1 p2 p3 p4 p5 p6 v3 ⊢
    generalize (lp_X12_pass_42 ml.2.2.1 ml.2.2.2.2.2.2.1 ml.2.2.2.2.2.2.2.1 ml.2.2.2.2.2.2.2.2.1 ml.2.2.2.2.2.2.2.2.2.1 sb.1 sb.2.1 sb.2.2.1 sb.2.2.2.1 sb.2.2.2.2.1 te.1 te.2.1 te.2.2.1 so.1 so.2.1 so.2.2.1 (snv ml) (l4.1, md.2.1, md.2.2.1, md.2.2.2, ml.1, ml.2.1, ml.2.2.2.1, ml.2.2.2.2.1, ml.2.2.2.2.2.1, ml.2.2.2.2.2.2.2.2.2.2.1, ml.2.2.2.2.2.2.2.2.2.2.2.1, ml.2.2.2.2.2.2.2.2.2.2.2.2, r4, sb.2.2.2.2.2, te.2.2.2.1, te.2.2.2.2.1, te.2.2.2.2.2.1, te.2.2.2.2.2.2.1, te.2.2.2.2.2.2.2, so.2.2.2, wa.1, wa.2.1, wa.2.2.1, wa.2.2.2) i) = z at j m1 m2 m3 m4 m5 m6 ⊢
    have wv : zW10 (zVi wo la ou al se su sc y) := ⟨w.hcs, w.hns, p1, w.hcu, w.hnu, w.hpu, w.hcc, w.hnc, w.hpc, w.hq, w.hw, w.hk, p6, p2, Nat.le_trans p3 (by omega), p5.elim (fun z => Nat.le_trans z w.ha0) (fun z => Nat.le_trans z (by omega))⟩
    have q := zHR (l4 := z.1) (r4 := z.2.2.2.2.2.2.2.2.2.2.2.2.1) (K := 0) (i := i) (h := h + i) (k := kv (wo, la, ou, al, se, su, sc)) (sn := snv ml) j wv v3 (by omega) (m5.trans v3.symm) rfl rfl
    exact q
set_option maxHeartbeats 4000000 in
set_option maxRecDepth 100000 in
theorem zr_pass {aq : zAcs} {r : Nat} {kc : Nat} {wo : zWor} {la : zLand} {ou : zOutl} {al : zLand} {se : zSens} {su : zSubs} {sc : zScho} {rv : zWv} {md : zMd} {ml : zMl} {l4 : zAL} {te : zMs} {sb : zMb} {so : zMo} {wa : zMw} {r1 : Nat} {r2 : Nat} {r3 : Nat} {r4 : Nat} {xs : Nat → Int32} (S : zCl aq r (wo, la, ou, al, se, su, sc) rv) (M : zSm (zch aq aq.1) md ml te sb so wa r1 r2 r3 r4) (R : zRl (wo, la, ou, al, se, su, sc) md ml te sb so wa) : zRl ((g_L_pass_wo_0 al.1 al.2.1 al.2.2.1 al.2.2.2.1 al.2.2.2.2.1 al.2.2.2.2.2.1 al.2.2.2.2.2.2.1 al.2.2.2.2.2.2.2.1 al.2.2.2.2.2.2.2.2.1 al.2.2.2.2.2.2.2.2.2.1 al.2.2.2.2.2.2.2.2.2.2.1 al.2.2.2.2.2.2.2.2.2.2.2.1 al.2.2.2.2.2.2.2.2.2.2.2.2.1 al.2.2.2.2.2.2.2.2.2.2.2.2.2 la.1 la.2.1 la.2.2.1 la.2.2.2.1 la.2.2.2.2.1 la.2.2.2.2.2.1 la.2.2.2.2.2.2.1 la.2.2.2.2.2.2.2.1 la.2.2.2.2.2.2.2.2.1 la.2.2.2.2.2.2.2.2.2.1 la.2.2.2.2.2.2.2.2.2.2.1 la.2.2.2.2.2.2.2.2.2.2.2.1 la.2.2.2.2.2.2.2.2.2.2.2.2.1 la.2.2.2.2.2.2.2.2.2.2.2.2.2 ou sc.1 sc.2.1 sc.2.2.1 sc.2.2.2.1 sc.2.2.2.2 se.1 se.2.1 se.2.2.1 se.2.2.2.1 se.2.2.2.2.1 se.2.2.2.2.2.1 se.2.2.2.2.2.2.1 se.2.2.2.2.2.2.2.1 se.2.2.2.2.2.2.2.2.2 su.1 su.2.1 su.2.2.1 su.2.2.2.1 su.2.2.2.2.1 su.2.2.2.2.2.2.1 su.2.2.2.2.2.2.2.1 su.2.2.2.2.2.2.2.2.1 su.2.2.2.2.2.2.2.2.2.1 su.2.2.2.2.2.2.2.2.2.2.1 su.2.2.2.2.2.2.2.2.2.2.2.1 su.2.2.2.2.2.2.2.2.2.2.2.2 wo (xs ((6 * kc) + 1)) (nsv (wo, la, ou, al, se, su, sc)) (nuv (wo, la, ou, al, se, su, sc)) (ncv (wo, la, ou, al, se, su, sc)) (kv (wo, la, ou, al, se, su, sc))), ((g_L_pass_la_0 al.1 al.2.1 al.2.2.1 al.2.2.2.1 al.2.2.2.2.1 al.2.2.2.2.2.1 al.2.2.2.2.2.2.1 al.2.2.2.2.2.2.2.1 al.2.2.2.2.2.2.2.2.1 al.2.2.2.2.2.2.2.2.2.1 al.2.2.2.2.2.2.2.2.2.2.1 al.2.2.2.2.2.2.2.2.2.2.2.1 al.2.2.2.2.2.2.2.2.2.2.2.2.1 al.2.2.2.2.2.2.2.2.2.2.2.2.2 la.1 la.2.1 la.2.2.1 la.2.2.2.1 la.2.2.2.2.1 la.2.2.2.2.2.1 la.2.2.2.2.2.2.1 la.2.2.2.2.2.2.2.1 la.2.2.2.2.2.2.2.2.1 la.2.2.2.2.2.2.2.2.2.1 la.2.2.2.2.2.2.2.2.2.2.1 la.2.2.2.2.2.2.2.2.2.2.2.1 la.2.2.2.2.2.2.2.2.2.2.2.2.1 la.2.2.2.2.2.2.2.2.2.2.2.2.2 ou sc.1 sc.2.1 sc.2.2.1 sc.2.2.2.1 sc.2.2.2.2 se.1 se.2.1 se.2.2.1 se.2.2.2.1 se.2.2.2.2.1 se.2.2.2.2.2.1 se.2.2.2.2.2.2.1 se.2.2.2.2.2.2.2.1 se.2.2.2.2.2.2.2.2.2 su.1 su.2.1 su.2.2.1 su.2.2.2.1 su.2.2.2.2.1 su.2.2.2.2.2.2.1 su.2.2.2.2.2.2.2.1 su.2.2.2.2.2.2.2.2.1 su.2.2.2.2.2.2.2.2.2.1 su.2.2.2.2.2.2.2.2.2.2.1 su.2.2.2.2.2.2.2.2.2.2.2.1 su.2.2.2.2.2.2.2.2.2.2.2.2 wo (xs ((6 * kc) + 1)) (nsv (wo, la, ou, al, se, su, sc)) (nuv (wo, la, ou, al, se, su, sc)) (ncv (wo, la, ou, al, se, su, sc)) (kv (wo, la, ou, al, se, su, sc))), (g_L_pass_la_1 al.1 al.2.1 al.2.2.1 al.2.2.2.1 al.2.2.2.2.1 al.2.2.2.2.2.1 al.2.2.2.2.2.2.1 al.2.2.2.2.2.2.2.1 al.2.2.2.2.2.2.2.2.1 al.2.2.2.2.2.2.2.2.2.1 al.2.2.2.2.2.2.2.2.2.2.1 al.2.2.2.2.2.2.2.2.2.2.2.1 al.2.2.2.2.2.2.2.2.2.2.2.2.1 al.2.2.2.2.2.2.2.2.2.2.2.2.2 la.1 la.2.1 la.2.2.1 la.2.2.2.1 la.2.2.2.2.1 la.2.2.2.2.2.1 la.2.2.2.2.2.2.1 la.2.2.2.2.2.2.2.1 la.2.2.2.2.2.2.2.2.1 la.2.2.2.2.2.2.2.2.2.1 la.2.2.2.2.2.2.2.2.2.2.1 la.2.2.2.2.2.2.2.2.2.2.2.1 la.2.2.2.2.2.2.2.2.2.2.2.2.1 la.2.2.2.2.2.2.2.2.2.2.2.2.2 ou sc.1 sc.2.1 sc.2.2.1 sc.2.2.2.1 sc.2.2.2.2 se.1 se.2.1 se.2.2.1 se.2.2.2.1 se.2.2.2.2.1 se.2.2.2.2.2.1 se.2.2.2.2.2.2.1 se.2.2.2.2.2.2.2.1 se.2.2.2.2.2.2.2.2.2 su.1 su.2.1 su.2.2.1 su.2.2.2.1 su.2.2.2.2.1 su.2.2.2.2.2.2.1 su.2.2.2.2.2.2.2.1 su.2.2.2.2.2.2.2.2.1 su.2.2.2.2.2.2.2.2.2.1 su.2.2.2.2.2.2.2.2.2.2.1 su.2.2.2.2.2.2.2.2.2.2.2.1 su.2.2.2.2.2.2.2.2.2.2.2.2 wo (xs ((6 * kc) + 1)) (nsv (wo, la, ou, al, se, su, sc)) (nuv (wo, la, ou, al, se, su, sc)) (ncv (wo, la, ou, al, se, su, sc)) (kv (wo, la, ou, al, se, su, sc))), (g_L_pass_la_2 al.1 al.2.1 al.2.2.1 al.2.2.2.1 al.2.2.2.2.1 al.2.2.2.2.2.1 al.2.2.2.2.2.2.1 al.2.2.2.2.2.2.2.1 al.2.2.2.2.2.2.2.2.1 al.2.2.2.2.2.2.2.2.2.1 al.2.2.2.2.2.2.2.2.2.2.1 al.2.2.2.2.2.2.2.2.2.2.2.1 al.2.2.2.2.2.2.2.2.2.2.2.2.1 al.2.2.2.2.2.2.2.2.2.2.2.2.2 la.1 la.2.1 la.2.2.1 la.2.2.2.1 la.2.2.2.2.1 la.2.2.2.2.2.1 la.2.2.2.2.2.2.1 la.2.2.2.2.2.2.2.1 la.2.2.2.2.2.2.2.2.1 la.2.2.2.2.2.2.2.2.2.1 la.2.2.2.2.2.2.2.2.2.2.1 la.2.2.2.2.2.2.2.2.2.2.2.1 la.2.2.2.2.2.2.2.2.2.2.2.2.1 la.2.2.2.2.2.2.2.2.2.2.2.2.2 ou sc.1 sc.2.1 sc.2.2.1 sc.2.2.2.1 sc.2.2.2.2 se.1 se.2.1 se.2.2.1 se.2.2.2.1 se.2.2.2.2.1 se.2.2.2.2.2.1 se.2.2.2.2.2.2.1 se.2.2.2.2.2.2.2.1 se.2.2.2.2.2.2.2.2.2 su.1 su.2.1 su.2.2.1 su.2.2.2.1 su.2.2.2.2.1 su.2.2.2.2.2.2.1 su.2.2.2.2.2.2.2.1 su.2.2.2.2.2.2.2.2.1 su.2.2.2.2.2.2.2.2.2.1 su.2.2.2.2.2.2.2.2.2.2.1 su.2.2.2.2.2.2.2.2.2.2.2.1 su.2.2.2.2.2.2.2.2.2.2.2.2 wo (xs ((6 * kc) + 1)) (nsv (wo, la, ou, al, se, su, sc)) (nuv (wo, la, ou, al, se, su, sc)) (ncv (wo, la, ou, al, se, su, sc)) (kv (wo, la, ou, al, se, su, sc))), (g_L_pass_la_3 al.1 al.2.1 al.2.2.1 al.2.2.2.1 al.2.2.2.2.1 al.2.2.2.2.2.1 al.2.2.2.2.2.2.1 al.2.2.2.2.2.2.2.1 al.2.2.2.2.2.2.2.2.1 al.2.2.2.2.2.2.2.2.2.1 al.2.2.2.2.2.2.2.2.2.2.1 al.2.2.2.2.2.2.2.2.2.2.2.1 al.2.2.2.2.2.2.2.2.2.2.2.2.1 al.2.2.2.2.2.2.2.2.2.2.2.2.2 la.1 la.2.1 la.2.2.1 la.2.2.2.1 la.2.2.2.2.1 la.2.2.2.2.2.1 la.2.2.2.2.2.2.1 la.2.2.2.2.2.2.2.1 la.2.2.2.2.2.2.2.2.1 la.2.2.2.2.2.2.2.2.2.1 la.2.2.2.2.2.2.2.2.2.2.1 la.2.2.2.2.2.2.2.2.2.2.2.1 la.2.2.2.2.2.2.2.2.2.2.2.2.1 la.2.2.2.2.2.2.2.2.2.2.2.2.2 ou sc.1 sc.2.1 sc.2.2.1 sc.2.2.2.1 sc.2.2.2.2 se.1 se.2.1 se.2.2.1 se.2.2.2.1 se.2.2.2.2.1 se.2.2.2.2.2.1 se.2.2.2.2.2.2.1 se.2.2.2.2.2.2.2.1 se.2.2.2.2.2.2.2.2.2 su.1 su.2.1 su.2.2.1 su.2.2.2.1 su.2.2.2.2.1 su.2.2.2.2.2.2.1 su.2.2.2.2.2.2.2.1 su.2.2.2.2.2.2.2.2.1 su.2.2.2.2.2.2.2.2.2.1 su.2.2.2.2.2.2.2.2.2.2.1 su.2.2.2.2.2.2.2.2.2.2.2.1 su.2.2.2.2.2.2.2.2.2.2.2.2 wo (xs ((6 * kc) + 1)) (nsv (wo, la, ou, al, se, su, sc)) (nuv (wo, la, ou, al, se, su, sc)) (ncv (wo, la, ou, al, se, su, sc)) (kv (wo, la, ou, al, se, su, sc))), (g_L_pass_la_4 al.1 al.2.1 al.2.2.1 al.2.2.2.1 al.2.2.2.2.1 al.2.2.2.2.2.1 al.2.2.2.2.2.2.1 al.2.2.2.2.2.2.2.1 al.2.2.2.2.2.2.2.2.1 al.2.2.2.2.2.2.2.2.2.1 al.2.2.2.2.2.2.2.2.2.2.1 al.2.2.2.2.2.2.2.2.2.2.2.1 al.2.2.2.2.2.2.2.2.2.2.2.2.1 al.2.2.2.2.2.2.2.2.2.2.2.2.2 la.1 la.2.1 la.2.2.1 la.2.2.2.1 la.2.2.2.2.1 la.2.2.2.2.2.1 la.2.2.2.2.2.2.1 la.2.2.2.2.2.2.2.1 la.2.2.2.2.2.2.2.2.1 la.2.2.2.2.2.2.2.2.2.1 la.2.2.2.2.2.2.2.2.2.2.1 la.2.2.2.2.2.2.2.2.2.2.2.1 la.2.2.2.2.2.2.2.2.2.2.2.2.1 la.2.2.2.2.2.2.2.2.2.2.2.2.2 ou sc.1 sc.2.1 sc.2.2.1 sc.2.2.2.1 sc.2.2.2.2 se.1 se.2.1 se.2.2.1 se.2.2.2.1 se.2.2.2.2.1 se.2.2.2.2.2.1 se.2.2.2.2.2.2.1 se.2.2.2.2.2.2.2.1 se.2.2.2.2.2.2.2.2.2 su.1 su.2.1 su.2.2.1 su.2.2.2.1 su.2.2.2.2.1 su.2.2.2.2.2.2.1 su.2.2.2.2.2.2.2.1 su.2.2.2.2.2.2.2.2.1 su.2.2.2.2.2.2.2.2.2.1 su.2.2.2.2.2.2.2.2.2.2.1 su.2.2.2.2.2.2.2.2.2.2.2.1 su.2.2.2.2.2.2.2.2.2.2.2.2 wo (xs ((6 * kc) + 1)) (nsv (wo, la, ou, al, se, su, sc)) (nuv (wo, la, ou, al, se, su, sc)) (ncv (wo, la, ou, al, se, su, sc)) (kv (wo, la, ou, al, se, su, sc))), la.2.2.2.2.2.1, (g_L_pass_la_6 al.1 al.2.1 al.2.2.1 al.2.2.2.1 al.2.2.2.2.1 al.2.2.2.2.2.1 al.2.2.2.2.2.2.1 al.2.2.2.2.2.2.2.1 al.2.2.2.2.2.2.2.2.1 al.2.2.2.2.2.2.2.2.2.1 al.2.2.2.2.2.2.2.2.2.2.1 al.2.2.2.2.2.2.2.2.2.2.2.1 al.2.2.2.2.2.2.2.2.2.2.2.2.1 al.2.2.2.2.2.2.2.2.2.2.2.2.2 la.1 la.2.1 la.2.2.1 la.2.2.2.1 la.2.2.2.2.1 la.2.2.2.2.2.1 la.2.2.2.2.2.2.1 la.2.2.2.2.2.2.2.1 la.2.2.2.2.2.2.2.2.1 la.2.2.2.2.2.2.2.2.2.1 la.2.2.2.2.2.2.2.2.2.2.1 la.2.2.2.2.2.2.2.2.2.2.2.1 la.2.2.2.2.2.2.2.2.2.2.2.2.1 la.2.2.2.2.2.2.2.2.2.2.2.2.2 ou sc.1 sc.2.1 sc.2.2.1 sc.2.2.2.1 sc.2.2.2.2 se.1 se.2.1 se.2.2.1 se.2.2.2.1 se.2.2.2.2.1 se.2.2.2.2.2.1 se.2.2.2.2.2.2.1 se.2.2.2.2.2.2.2.1 se.2.2.2.2.2.2.2.2.2 su.1 su.2.1 su.2.2.1 su.2.2.2.1 su.2.2.2.2.1 su.2.2.2.2.2.2.1 su.2.2.2.2.2.2.2.1 su.2.2.2.2.2.2.2.2.1 su.2.2.2.2.2.2.2.2.2.1 su.2.2.2.2.2.2.2.2.2.2.1 su.2.2.2.2.2.2.2.2.2.2.2.1 su.2.2.2.2.2.2.2.2.2.2.2.2 wo (xs ((6 * kc) + 1)) (nsv (wo, la, ou, al, se, su, sc)) (nuv (wo, la, ou, al, se, su, sc)) (ncv (wo, la, ou, al, se, su, sc)) (kv (wo, la, ou, al, se, su, sc))), la.2.2.2.2.2.2.2.1, la.2.2.2.2.2.2.2.2.1, la.2.2.2.2.2.2.2.2.2.1, la.2.2.2.2.2.2.2.2.2.2.1, (g_L_pass_la_11 al.1 al.2.1 al.2.2.1 al.2.2.2.1 al.2.2.2.2.1 al.2.2.2.2.2.1 al.2.2.2.2.2.2.1 al.2.2.2.2.2.2.2.1 al.2.2.2.2.2.2.2.2.1 al.2.2.2.2.2.2.2.2.2.1 al.2.2.2.2.2.2.2.2.2.2.1 al.2.2.2.2.2.2.2.2.2.2.2.1 al.2.2.2.2.2.2.2.2.2.2.2.2.1 al.2.2.2.2.2.2.2.2.2.2.2.2.2 la.1 la.2.1 la.2.2.1 la.2.2.2.1 la.2.2.2.2.1 la.2.2.2.2.2.1 la.2.2.2.2.2.2.1 la.2.2.2.2.2.2.2.1 la.2.2.2.2.2.2.2.2.1 la.2.2.2.2.2.2.2.2.2.1 la.2.2.2.2.2.2.2.2.2.2.1 la.2.2.2.2.2.2.2.2.2.2.2.1 la.2.2.2.2.2.2.2.2.2.2.2.2.1 la.2.2.2.2.2.2.2.2.2.2.2.2.2 ou sc.1 sc.2.1 sc.2.2.1 sc.2.2.2.1 sc.2.2.2.2 se.1 se.2.1 se.2.2.1 se.2.2.2.1 se.2.2.2.2.1 se.2.2.2.2.2.1 se.2.2.2.2.2.2.1 se.2.2.2.2.2.2.2.1 se.2.2.2.2.2.2.2.2.2 su.1 su.2.1 su.2.2.1 su.2.2.2.1 su.2.2.2.2.1 su.2.2.2.2.2.2.1 su.2.2.2.2.2.2.2.1 su.2.2.2.2.2.2.2.2.1 su.2.2.2.2.2.2.2.2.2.1 su.2.2.2.2.2.2.2.2.2.2.1 su.2.2.2.2.2.2.2.2.2.2.2.1 su.2.2.2.2.2.2.2.2.2.2.2.2 wo (xs ((6 * kc) + 1)) (nsv (wo, la, ou, al, se, su, sc)) (nuv (wo, la, ou, al, se, su, sc)) (ncv (wo, la, ou, al, se, su, sc)) (kv (wo, la, ou, al, se, su, sc))), (g_L_pass_la_12 al.1 al.2.1 al.2.2.1 al.2.2.2.1 al.2.2.2.2.1 al.2.2.2.2.2.1 al.2.2.2.2.2.2.1 al.2.2.2.2.2.2.2.1 al.2.2.2.2.2.2.2.2.1 al.2.2.2.2.2.2.2.2.2.1 al.2.2.2.2.2.2.2.2.2.2.1 al.2.2.2.2.2.2.2.2.2.2.2.1 al.2.2.2.2.2.2.2.2.2.2.2.2.1 al.2.2.2.2.2.2.2.2.2.2.2.2.2 la.1 la.2.1 la.2.2.1 la.2.2.2.1 la.2.2.2.2.1 la.2.2.2.2.2.1 la.2.2.2.2.2.2.1 la.2.2.2.2.2.2.2.1 la.2.2.2.2.2.2.2.2.1 la.2.2.2.2.2.2.2.2.2.1 la.2.2.2.2.2.2.2.2.2.2.1 la.2.2.2.2.2.2.2.2.2.2.2.1 la.2.2.2.2.2.2.2.2.2.2.2.2.1 la.2.2.2.2.2.2.2.2.2.2.2.2.2 ou sc.1 sc.2.1 sc.2.2.1 sc.2.2.2.1 sc.2.2.2.2 se.1 se.2.1 se.2.2.1 se.2.2.2.1 se.2.2.2.2.1 se.2.2.2.2.2.1 se.2.2.2.2.2.2.1 se.2.2.2.2.2.2.2.1 se.2.2.2.2.2.2.2.2.2 su.1 su.2.1 su.2.2.1 su.2.2.2.1 su.2.2.2.2.1 su.2.2.2.2.2.2.1 su.2.2.2.2.2.2.2.1 su.2.2.2.2.2.2.2.2.1 su.2.2.2.2.2.2.2.2.2.1 su.2.2.2.2.2.2.2.2.2.2.1 su.2.2.2.2.2.2.2.2.2.2.2.1 su.2.2.2.2.2.2.2.2.2.2.2.2 wo (xs ((6 * kc) + 1)) (nsv (wo, la, ou, al, se, su, sc)) (nuv (wo, la, ou, al, se, su, sc)) (ncv (wo, la, ou, al, se, su, sc)) (kv (wo, la, ou, al, se, su, sc))), (g_L_pass_la_13 al.1 al.2.1 al.2.2.1 al.2.2.2.1 al.2.2.2.2.1 al.2.2.2.2.2.1 al.2.2.2.2.2.2.1 al.2.2.2.2.2.2.2.1 al.2.2.2.2.2.2.2.2.1 al.2.2.2.2.2.2.2.2.2.1 al.2.2.2.2.2.2.2.2.2.2.1 al.2.2.2.2.2.2.2.2.2.2.2.1 al.2.2.2.2.2.2.2.2.2.2.2.2.1 al.2.2.2.2.2.2.2.2.2.2.2.2.2 la.1 la.2.1 la.2.2.1 la.2.2.2.1 la.2.2.2.2.1 la.2.2.2.2.2.1 la.2.2.2.2.2.2.1 la.2.2.2.2.2.2.2.1 la.2.2.2.2.2.2.2.2.1 la.2.2.2.2.2.2.2.2.2.1 la.2.2.2.2.2.2.2.2.2.2.1 la.2.2.2.2.2.2.2.2.2.2.2.1 la.2.2.2.2.2.2.2.2.2.2.2.2.1 la.2.2.2.2.2.2.2.2.2.2.2.2.2 ou sc.1 sc.2.1 sc.2.2.1 sc.2.2.2.1 sc.2.2.2.2 se.1 se.2.1 se.2.2.1 se.2.2.2.1 se.2.2.2.2.1 se.2.2.2.2.2.1 se.2.2.2.2.2.2.1 se.2.2.2.2.2.2.2.1 se.2.2.2.2.2.2.2.2.2 su.1 su.2.1 su.2.2.1 su.2.2.2.1 su.2.2.2.2.1 su.2.2.2.2.2.2.1 su.2.2.2.2.2.2.2.1 su.2.2.2.2.2.2.2.2.1 su.2.2.2.2.2.2.2.2.2.1 su.2.2.2.2.2.2.2.2.2.2.1 su.2.2.2.2.2.2.2.2.2.2.2.1 su.2.2.2.2.2.2.2.2.2.2.2.2 wo (xs ((6 * kc) + 1)) (nsv (wo, la, ou, al, se, su, sc)) (nuv (wo, la, ou, al, se, su, sc)) (ncv (wo, la, ou, al, se, su, sc)) (kv (wo, la, ou, al, se, su, sc)))), (g_L_pass_ou_0 al.1 al.2.1 al.2.2.1 al.2.2.2.1 al.2.2.2.2.1 al.2.2.2.2.2.1 al.2.2.2.2.2.2.1 al.2.2.2.2.2.2.2.1 al.2.2.2.2.2.2.2.2.1 al.2.2.2.2.2.2.2.2.2.1 al.2.2.2.2.2.2.2.2.2.2.1 al.2.2.2.2.2.2.2.2.2.2.2.1 al.2.2.2.2.2.2.2.2.2.2.2.2.1 al.2.2.2.2.2.2.2.2.2.2.2.2.2 la.1 la.2.1 la.2.2.1 la.2.2.2.1 la.2.2.2.2.1 la.2.2.2.2.2.1 la.2.2.2.2.2.2.1 la.2.2.2.2.2.2.2.1 la.2.2.2.2.2.2.2.2.1 la.2.2.2.2.2.2.2.2.2.1 la.2.2.2.2.2.2.2.2.2.2.1 la.2.2.2.2.2.2.2.2.2.2.2.1 la.2.2.2.2.2.2.2.2.2.2.2.2.1 la.2.2.2.2.2.2.2.2.2.2.2.2.2 ou sc.1 sc.2.1 sc.2.2.1 sc.2.2.2.1 sc.2.2.2.2 se.1 se.2.1 se.2.2.1 se.2.2.2.1 se.2.2.2.2.1 se.2.2.2.2.2.1 se.2.2.2.2.2.2.1 se.2.2.2.2.2.2.2.1 se.2.2.2.2.2.2.2.2.2 su.1 su.2.1 su.2.2.1 su.2.2.2.1 su.2.2.2.2.1 su.2.2.2.2.2.2.1 su.2.2.2.2.2.2.2.1 su.2.2.2.2.2.2.2.2.1 su.2.2.2.2.2.2.2.2.2.1 su.2.2.2.2.2.2.2.2.2.2.1 su.2.2.2.2.2.2.2.2.2.2.2.1 su.2.2.2.2.2.2.2.2.2.2.2.2 wo (xs ((6 * kc) + 1)) (nsv (wo, la, ou, al, se, su, sc)) (nuv (wo, la, ou, al, se, su, sc)) (ncv (wo, la, ou, al, se, su, sc)) (kv (wo, la, ou, al, se, su, sc))), ((g_L_pass_al_0 al.1 al.2.1 al.2.2.1 al.2.2.2.1 al.2.2.2.2.1 al.2.2.2.2.2.1 al.2.2.2.2.2.2.1 al.2.2.2.2.2.2.2.1 al.2.2.2.2.2.2.2.2.1 al.2.2.2.2.2.2.2.2.2.1 al.2.2.2.2.2.2.2.2.2.2.1 al.2.2.2.2.2.2.2.2.2.2.2.1 al.2.2.2.2.2.2.2.2.2.2.2.2.1 al.2.2.2.2.2.2.2.2.2.2.2.2.2 la.1 la.2.1 la.2.2.1 la.2.2.2.1 la.2.2.2.2.1 la.2.2.2.2.2.1 la.2.2.2.2.2.2.1 la.2.2.2.2.2.2.2.1 la.2.2.2.2.2.2.2.2.1 la.2.2.2.2.2.2.2.2.2.1 la.2.2.2.2.2.2.2.2.2.2.1 la.2.2.2.2.2.2.2.2.2.2.2.1 la.2.2.2.2.2.2.2.2.2.2.2.2.1 la.2.2.2.2.2.2.2.2.2.2.2.2.2 ou sc.1 sc.2.1 sc.2.2.1 sc.2.2.2.1 sc.2.2.2.2 se.1 se.2.1 se.2.2.1 se.2.2.2.1 se.2.2.2.2.1 se.2.2.2.2.2.1 se.2.2.2.2.2.2.1 se.2.2.2.2.2.2.2.1 se.2.2.2.2.2.2.2.2.2 su.1 su.2.1 su.2.2.1 su.2.2.2.1 su.2.2.2.2.1 su.2.2.2.2.2.2.1 su.2.2.2.2.2.2.2.1 su.2.2.2.2.2.2.2.2.1 su.2.2.2.2.2.2.2.2.2.1 su.2.2.2.2.2.2.2.2.2.2.1 su.2.2.2.2.2.2.2.2.2.2.2.1 su.2.2.2.2.2.2.2.2.2.2.2.2 wo (xs ((6 * kc) + 1)) (nsv (wo, la, ou, al, se, su, sc)) (nuv (wo, la, ou, al, se, su, sc)) (ncv (wo, la, ou, al, se, su, sc)) (kv (wo, la, ou, al, se, su, sc))), (g_L_pass_al_1 al.1 al.2.1 al.2.2.1 al.2.2.2.1 al.2.2.2.2.1 al.2.2.2.2.2.1 al.2.2.2.2.2.2.1 al.2.2.2.2.2.2.2.1 al.2.2.2.2.2.2.2.2.1 al.2.2.2.2.2.2.2.2.2.1 al.2.2.2.2.2.2.2.2.2.2.1 al.2.2.2.2.2.2.2.2.2.2.2.1 al.2.2.2.2.2.2.2.2.2.2.2.2.1 al.2.2.2.2.2.2.2.2.2.2.2.2.2 la.1 la.2.1 la.2.2.1 la.2.2.2.1 la.2.2.2.2.1 la.2.2.2.2.2.1 la.2.2.2.2.2.2.1 la.2.2.2.2.2.2.2.1 la.2.2.2.2.2.2.2.2.1 la.2.2.2.2.2.2.2.2.2.1 la.2.2.2.2.2.2.2.2.2.2.1 la.2.2.2.2.2.2.2.2.2.2.2.1 la.2.2.2.2.2.2.2.2.2.2.2.2.1 la.2.2.2.2.2.2.2.2.2.2.2.2.2 ou sc.1 sc.2.1 sc.2.2.1 sc.2.2.2.1 sc.2.2.2.2 se.1 se.2.1 se.2.2.1 se.2.2.2.1 se.2.2.2.2.1 se.2.2.2.2.2.1 se.2.2.2.2.2.2.1 se.2.2.2.2.2.2.2.1 se.2.2.2.2.2.2.2.2.2 su.1 su.2.1 su.2.2.1 su.2.2.2.1 su.2.2.2.2.1 su.2.2.2.2.2.2.1 su.2.2.2.2.2.2.2.1 su.2.2.2.2.2.2.2.2.1 su.2.2.2.2.2.2.2.2.2.1 su.2.2.2.2.2.2.2.2.2.2.1 su.2.2.2.2.2.2.2.2.2.2.2.1 su.2.2.2.2.2.2.2.2.2.2.2.2 wo (xs ((6 * kc) + 1)) (nsv (wo, la, ou, al, se, su, sc)) (nuv (wo, la, ou, al, se, su, sc)) (ncv (wo, la, ou, al, se, su, sc)) (kv (wo, la, ou, al, se, su, sc))), (g_L_pass_al_2 al.1 al.2.1 al.2.2.1 al.2.2.2.1 al.2.2.2.2.1 al.2.2.2.2.2.1 al.2.2.2.2.2.2.1 al.2.2.2.2.2.2.2.1 al.2.2.2.2.2.2.2.2.1 al.2.2.2.2.2.2.2.2.2.1 al.2.2.2.2.2.2.2.2.2.2.1 al.2.2.2.2.2.2.2.2.2.2.2.1 al.2.2.2.2.2.2.2.2.2.2.2.2.1 al.2.2.2.2.2.2.2.2.2.2.2.2.2 la.1 la.2.1 la.2.2.1 la.2.2.2.1 la.2.2.2.2.1 la.2.2.2.2.2.1 la.2.2.2.2.2.2.1 la.2.2.2.2.2.2.2.1 la.2.2.2.2.2.2.2.2.1 la.2.2.2.2.2.2.2.2.2.1 la.2.2.2.2.2.2.2.2.2.2.1 la.2.2.2.2.2.2.2.2.2.2.2.1 la.2.2.2.2.2.2.2.2.2.2.2.2.1 la.2.2.2.2.2.2.2.2.2.2.2.2.2 ou sc.1 sc.2.1 sc.2.2.1 sc.2.2.2.1 sc.2.2.2.2 se.1 se.2.1 se.2.2.1 se.2.2.2.1 se.2.2.2.2.1 se.2.2.2.2.2.1 se.2.2.2.2.2.2.1 se.2.2.2.2.2.2.2.1 se.2.2.2.2.2.2.2.2.2 su.1 su.2.1 su.2.2.1 su.2.2.2.1 su.2.2.2.2.1 su.2.2.2.2.2.2.1 su.2.2.2.2.2.2.2.1 su.2.2.2.2.2.2.2.2.1 su.2.2.2.2.2.2.2.2.2.1 su.2.2.2.2.2.2.2.2.2.2.1 su.2.2.2.2.2.2.2.2.2.2.2.1 su.2.2.2.2.2.2.2.2.2.2.2.2 wo (xs ((6 * kc) + 1)) (nsv (wo, la, ou, al, se, su, sc)) (nuv (wo, la, ou, al, se, su, sc)) (ncv (wo, la, ou, al, se, su, sc)) (kv (wo, la, ou, al, se, su, sc))), (g_L_pass_al_3 al.1 al.2.1 al.2.2.1 al.2.2.2.1 al.2.2.2.2.1 al.2.2.2.2.2.1 al.2.2.2.2.2.2.1 al.2.2.2.2.2.2.2.1 al.2.2.2.2.2.2.2.2.1 al.2.2.2.2.2.2.2.2.2.1 al.2.2.2.2.2.2.2.2.2.2.1 al.2.2.2.2.2.2.2.2.2.2.2.1 al.2.2.2.2.2.2.2.2.2.2.2.2.1 al.2.2.2.2.2.2.2.2.2.2.2.2.2 la.1 la.2.1 la.2.2.1 la.2.2.2.1 la.2.2.2.2.1 la.2.2.2.2.2.1 la.2.2.2.2.2.2.1 la.2.2.2.2.2.2.2.1 la.2.2.2.2.2.2.2.2.1 la.2.2.2.2.2.2.2.2.2.1 la.2.2.2.2.2.2.2.2.2.2.1 la.2.2.2.2.2.2.2.2.2.2.2.1 la.2.2.2.2.2.2.2.2.2.2.2.2.1 la.2.2.2.2.2.2.2.2.2.2.2.2.2 ou sc.1 sc.2.1 sc.2.2.1 sc.2.2.2.1 sc.2.2.2.2 se.1 se.2.1 se.2.2.1 se.2.2.2.1 se.2.2.2.2.1 se.2.2.2.2.2.1 se.2.2.2.2.2.2.1 se.2.2.2.2.2.2.2.1 se.2.2.2.2.2.2.2.2.2 su.1 su.2.1 su.2.2.1 su.2.2.2.1 su.2.2.2.2.1 su.2.2.2.2.2.2.1 su.2.2.2.2.2.2.2.1 su.2.2.2.2.2.2.2.2.1 su.2.2.2.2.2.2.2.2.2.1 su.2.2.2.2.2.2.2.2.2.2.1 su.2.2.2.2.2.2.2.2.2.2.2.1 su.2.2.2.2.2.2.2.2.2.2.2.2 wo (xs ((6 * kc) + 1)) (nsv (wo, la, ou, al, se, su, sc)) (nuv (wo, la, ou, al, se, su, sc)) (ncv (wo, la, ou, al, se, su, sc)) (kv (wo, la, ou, al, se, su, sc))), (g_L_pass_al_4 al.1 al.2.1 al.2.2.1 al.2.2.2.1 al.2.2.2.2.1 al.2.2.2.2.2.1 al.2.2.2.2.2.2.1 al.2.2.2.2.2.2.2.1 al.2.2.2.2.2.2.2.2.1 al.2.2.2.2.2.2.2.2.2.1 al.2.2.2.2.2.2.2.2.2.2.1 al.2.2.2.2.2.2.2.2.2.2.2.1 al.2.2.2.2.2.2.2.2.2.2.2.2.1 al.2.2.2.2.2.2.2.2.2.2.2.2.2 la.1 la.2.1 la.2.2.1 la.2.2.2.1 la.2.2.2.2.1 la.2.2.2.2.2.1 la.2.2.2.2.2.2.1 la.2.2.2.2.2.2.2.1 la.2.2.2.2.2.2.2.2.1 la.2.2.2.2.2.2.2.2.2.1 la.2.2.2.2.2.2.2.2.2.2.1 la.2.2.2.2.2.2.2.2.2.2.2.1 la.2.2.2.2.2.2.2.2.2.2.2.2.1 la.2.2.2.2.2.2.2.2.2.2.2.2.2 ou sc.1 sc.2.1 sc.2.2.1 sc.2.2.2.1 sc.2.2.2.2 se.1 se.2.1 se.2.2.1 se.2.2.2.1 se.2.2.2.2.1 se.2.2.2.2.2.1 se.2.2.2.2.2.2.1 se.2.2.2.2.2.2.2.1 se.2.2.2.2.2.2.2.2.2 su.1 su.2.1 su.2.2.1 su.2.2.2.1 su.2.2.2.2.1 su.2.2.2.2.2.2.1 su.2.2.2.2.2.2.2.1 su.2.2.2.2.2.2.2.2.1 su.2.2.2.2.2.2.2.2.2.1 su.2.2.2.2.2.2.2.2.2.2.1 su.2.2.2.2.2.2.2.2.2.2.2.1 su.2.2.2.2.2.2.2.2.2.2.2.2 wo (xs ((6 * kc) + 1)) (nsv (wo, la, ou, al, se, su, sc)) (nuv (wo, la, ou, al, se, su, sc)) (ncv (wo, la, ou, al, se, su, sc)) (kv (wo, la, ou, al, se, su, sc))), (g_L_pass_al_5 al.1 al.2.1 al.2.2.1 al.2.2.2.1 al.2.2.2.2.1 al.2.2.2.2.2.1 al.2.2.2.2.2.2.1 al.2.2.2.2.2.2.2.1 al.2.2.2.2.2.2.2.2.1 al.2.2.2.2.2.2.2.2.2.1 al.2.2.2.2.2.2.2.2.2.2.1 al.2.2.2.2.2.2.2.2.2.2.2.1 al.2.2.2.2.2.2.2.2.2.2.2.2.1 al.2.2.2.2.2.2.2.2.2.2.2.2.2 la.1 la.2.1 la.2.2.1 la.2.2.2.1 la.2.2.2.2.1 la.2.2.2.2.2.1 la.2.2.2.2.2.2.1 la.2.2.2.2.2.2.2.1 la.2.2.2.2.2.2.2.2.1 la.2.2.2.2.2.2.2.2.2.1 la.2.2.2.2.2.2.2.2.2.2.1 la.2.2.2.2.2.2.2.2.2.2.2.1 la.2.2.2.2.2.2.2.2.2.2.2.2.1 la.2.2.2.2.2.2.2.2.2.2.2.2.2 ou sc.1 sc.2.1 sc.2.2.1 sc.2.2.2.1 sc.2.2.2.2 se.1 se.2.1 se.2.2.1 se.2.2.2.1 se.2.2.2.2.1 se.2.2.2.2.2.1 se.2.2.2.2.2.2.1 se.2.2.2.2.2.2.2.1 se.2.2.2.2.2.2.2.2.2 su.1 su.2.1 su.2.2.1 su.2.2.2.1 su.2.2.2.2.1 su.2.2.2.2.2.2.1 su.2.2.2.2.2.2.2.1 su.2.2.2.2.2.2.2.2.1 su.2.2.2.2.2.2.2.2.2.1 su.2.2.2.2.2.2.2.2.2.2.1 su.2.2.2.2.2.2.2.2.2.2.2.1 su.2.2.2.2.2.2.2.2.2.2.2.2 wo (xs ((6 * kc) + 1)) (nsv (wo, la, ou, al, se, su, sc)) (nuv (wo, la, ou, al, se, su, sc)) (ncv (wo, la, ou, al, se, su, sc)) (kv (wo, la, ou, al, se, su, sc))), (g_L_pass_al_6 al.1 al.2.1 al.2.2.1 al.2.2.2.1 al.2.2.2.2.1 al.2.2.2.2.2.1 al.2.2.2.2.2.2.1 al.2.2.2.2.2.2.2.1 al.2.2.2.2.2.2.2.2.1 al.2.2.2.2.2.2.2.2.2.1 al.2.2.2.2.2.2.2.2.2.2.1 al.2.2.2.2.2.2.2.2.2.2.2.1 al.2.2.2.2.2.2.2.2.2.2.2.2.1 al.2.2.2.2.2.2.2.2.2.2.2.2.2 la.1 la.2.1 la.2.2.1 la.2.2.2.1 la.2.2.2.2.1 la.2.2.2.2.2.1 la.2.2.2.2.2.2.1 la.2.2.2.2.2.2.2.1 la.2.2.2.2.2.2.2.2.1 la.2.2.2.2.2.2.2.2.2.1 la.2.2.2.2.2.2.2.2.2.2.1 la.2.2.2.2.2.2.2.2.2.2.2.1 la.2.2.2.2.2.2.2.2.2.2.2.2.1 la.2.2.2.2.2.2.2.2.2.2.2.2.2 ou sc.1 sc.2.1 sc.2.2.1 sc.2.2.2.1 sc.2.2.2.2 se.1 se.2.1 se.2.2.1 se.2.2.2.1 se.2.2.2.2.1 se.2.2.2.2.2.1 se.2.2.2.2.2.2.1 se.2.2.2.2.2.2.2.1 se.2.2.2.2.2.2.2.2.2 su.1 su.2.1 su.2.2.1 su.2.2.2.1 su.2.2.2.2.1 su.2.2.2.2.2.2.1 su.2.2.2.2.2.2.2.1 su.2.2.2.2.2.2.2.2.1 su.2.2.2.2.2.2.2.2.2.1 su.2.2.2.2.2.2.2.2.2.2.1 su.2.2.2.2.2.2.2.2.2.2.2.1 su.2.2.2.2.2.2.2.2.2.2.2.2 wo (xs ((6 * kc) + 1)) (nsv (wo, la, ou, al, se, su, sc)) (nuv (wo, la, ou, al, se, su, sc)) (ncv (wo, la, ou, al, se, su, sc)) (kv (wo, la, ou, al, se, su, sc))), (g_L_pass_al_7 al.1 al.2.1 al.2.2.1 al.2.2.2.1 al.2.2.2.2.1 al.2.2.2.2.2.1 al.2.2.2.2.2.2.1 al.2.2.2.2.2.2.2.1 al.2.2.2.2.2.2.2.2.1 al.2.2.2.2.2.2.2.2.2.1 al.2.2.2.2.2.2.2.2.2.2.1 al.2.2.2.2.2.2.2.2.2.2.2.1 al.2.2.2.2.2.2.2.2.2.2.2.2.1 al.2.2.2.2.2.2.2.2.2.2.2.2.2 la.1 la.2.1 la.2.2.1 la.2.2.2.1 la.2.2.2.2.1 la.2.2.2.2.2.1 la.2.2.2.2.2.2.1 la.2.2.2.2.2.2.2.1 la.2.2.2.2.2.2.2.2.1 la.2.2.2.2.2.2.2.2.2.1 la.2.2.2.2.2.2.2.2.2.2.1 la.2.2.2.2.2.2.2.2.2.2.2.1 la.2.2.2.2.2.2.2.2.2.2.2.2.1 la.2.2.2.2.2.2.2.2.2.2.2.2.2 ou sc.1 sc.2.1 sc.2.2.1 sc.2.2.2.1 sc.2.2.2.2 se.1 se.2.1 se.2.2.1 se.2.2.2.1 se.2.2.2.2.1 se.2.2.2.2.2.1 se.2.2.2.2.2.2.1 se.2.2.2.2.2.2.2.1 se.2.2.2.2.2.2.2.2.2 su.1 su.2.1 su.2.2.1 su.2.2.2.1 su.2.2.2.2.1 su.2.2.2.2.2.2.1 su.2.2.2.2.2.2.2.1 su.2.2.2.2.2.2.2.2.1 su.2.2.2.2.2.2.2.2.2.1 su.2.2.2.2.2.2.2.2.2.2.1 su.2.2.2.2.2.2.2.2.2.2.2.1 su.2.2.2.2.2.2.2.2.2.2.2.2 wo (xs ((6 * kc) + 1)) (nsv (wo, la, ou, al, se, su, sc)) (nuv (wo, la, ou, al, se, su, sc)) (ncv (wo, la, ou, al, se, su, sc)) (kv (wo, la, ou, al, se, su, sc))), (g_L_pass_al_8 al.1 al.2.1 al.2.2.1 al.2.2.2.1 al.2.2.2.2.1 al.2.2.2.2.2.1 al.2.2.2.2.2.2.1 al.2.2.2.2.2.2.2.1 al.2.2.2.2.2.2.2.2.1 al.2.2.2.2.2.2.2.2.2.1 al.2.2.2.2.2.2.2.2.2.2.1 al.2.2.2.2.2.2.2.2.2.2.2.1 al.2.2.2.2.2.2.2.2.2.2.2.2.1 al.2.2.2.2.2.2.2.2.2.2.2.2.2 la.1 la.2.1 la.2.2.1 la.2.2.2.1 la.2.2.2.2.1 la.2.2.2.2.2.1 la.2.2.2.2.2.2.1 la.2.2.2.2.2.2.2.1 la.2.2.2.2.2.2.2.2.1 la.2.2.2.2.2.2.2.2.2.1 la.2.2.2.2.2.2.2.2.2.2.1 la.2.2.2.2.2.2.2.2.2.2.2.1 la.2.2.2.2.2.2.2.2.2.2.2.2.1 la.2.2.2.2.2.2.2.2.2.2.2.2.2 ou sc.1 sc.2.1 sc.2.2.1 sc.2.2.2.1 sc.2.2.2.2 se.1 se.2.1 se.2.2.1 se.2.2.2.1 se.2.2.2.2.1 se.2.2.2.2.2.1 se.2.2.2.2.2.2.1 se.2.2.2.2.2.2.2.1 se.2.2.2.2.2.2.2.2.2 su.1 su.2.1 su.2.2.1 su.2.2.2.1 su.2.2.2.2.1 su.2.2.2.2.2.2.1 su.2.2.2.2.2.2.2.1 su.2.2.2.2.2.2.2.2.1 su.2.2.2.2.2.2.2.2.2.1 su.2.2.2.2.2.2.2.2.2.2.1 su.2.2.2.2.2.2.2.2.2.2.2.1 su.2.2.2.2.2.2.2.2.2.2.2.2 wo (xs ((6 * kc) + 1)) (nsv (wo, la, ou, al, se, su, sc)) (nuv (wo, la, ou, al, se, su, sc)) (ncv (wo, la, ou, al, se, su, sc)) (kv (wo, la, ou, al, se, su, sc))), (g_L_pass_al_9 al.1 al.2.1 al.2.2.1 al.2.2.2.1 al.2.2.2.2.1 al.2.2.2.2.2.1 al.2.2.2.2.2.2.1 al.2.2.2.2.2.2.2.1 al.2.2.2.2.2.2.2.2.1 al.2.2.2.2.2.2.2.2.2.1 al.2.2.2.2.2.2.2.2.2.2.1 al.2.2.2.2.2.2.2.2.2.2.2.1 al.2.2.2.2.2.2.2.2.2.2.2.2.1 al.2.2.2.2.2.2.2.2.2.2.2.2.2 la.1 la.2.1 la.2.2.1 la.2.2.2.1 la.2.2.2.2.1 la.2.2.2.2.2.1 la.2.2.2.2.2.2.1 la.2.2.2.2.2.2.2.1 la.2.2.2.2.2.2.2.2.1 la.2.2.2.2.2.2.2.2.2.1 la.2.2.2.2.2.2.2.2.2.2.1 la.2.2.2.2.2.2.2.2.2.2.2.1 la.2.2.2.2.2.2.2.2.2.2.2.2.1 la.2.2.2.2.2.2.2.2.2.2.2.2.2 ou sc.1 sc.2.1 sc.2.2.1 sc.2.2.2.1 sc.2.2.2.2 se.1 se.2.1 se.2.2.1 se.2.2.2.1 se.2.2.2.2.1 se.2.2.2.2.2.1 se.2.2.2.2.2.2.1 se.2.2.2.2.2.2.2.1 se.2.2.2.2.2.2.2.2.2 su.1 su.2.1 su.2.2.1 su.2.2.2.1 su.2.2.2.2.1 su.2.2.2.2.2.2.1 su.2.2.2.2.2.2.2.1 su.2.2.2.2.2.2.2.2.1 su.2.2.2.2.2.2.2.2.2.1 su.2.2.2.2.2.2.2.2.2.2.1 su.2.2.2.2.2.2.2.2.2.2.2.1 su.2.2.2.2.2.2.2.2.2.2.2.2 wo (xs ((6 * kc) + 1)) (nsv (wo, la, ou, al, se, su, sc)) (nuv (wo, la, ou, al, se, su, sc)) (ncv (wo, la, ou, al, se, su, sc)) (kv (wo, la, ou, al, se, su, sc))), (g_L_pass_al_10 al.1 al.2.1 al.2.2.1 al.2.2.2.1 al.2.2.2.2.1 al.2.2.2.2.2.1 al.2.2.2.2.2.2.1 al.2.2.2.2.2.2.2.1 al.2.2.2.2.2.2.2.2.1 al.2.2.2.2.2.2.2.2.2.1 al.2.2.2.2.2.2.2.2.2.2.1 al.2.2.2.2.2.2.2.2.2.2.2.1 al.2.2.2.2.2.2.2.2.2.2.2.2.1 al.2.2.2.2.2.2.2.2.2.2.2.2.2 la.1 la.2.1 la.2.2.1 la.2.2.2.1 la.2.2.2.2.1 la.2.2.2.2.2.1 la.2.2.2.2.2.2.1 la.2.2.2.2.2.2.2.1 la.2.2.2.2.2.2.2.2.1 la.2.2.2.2.2.2.2.2.2.1 la.2.2.2.2.2.2.2.2.2.2.1 la.2.2.2.2.2.2.2.2.2.2.2.1 la.2.2.2.2.2.2.2.2.2.2.2.2.1 la.2.2.2.2.2.2.2.2.2.2.2.2.2 ou sc.1 sc.2.1 sc.2.2.1 sc.2.2.2.1 sc.2.2.2.2 se.1 se.2.1 se.2.2.1 se.2.2.2.1 se.2.2.2.2.1 se.2.2.2.2.2.1 se.2.2.2.2.2.2.1 se.2.2.2.2.2.2.2.1 se.2.2.2.2.2.2.2.2.2 su.1 su.2.1 su.2.2.1 su.2.2.2.1 su.2.2.2.2.1 su.2.2.2.2.2.2.1 su.2.2.2.2.2.2.2.1 su.2.2.2.2.2.2.2.2.1 su.2.2.2.2.2.2.2.2.2.1 su.2.2.2.2.2.2.2.2.2.2.1 su.2.2.2.2.2.2.2.2.2.2.2.1 su.2.2.2.2.2.2.2.2.2.2.2.2 wo (xs ((6 * kc) + 1)) (nsv (wo, la, ou, al, se, su, sc)) (nuv (wo, la, ou, al, se, su, sc)) (ncv (wo, la, ou, al, se, su, sc)) (kv (wo, la, ou, al, se, su, sc))), (g_L_pass_al_11 al.1 al.2.1 al.2.2.1 al.2.2.2.1 al.2.2.2.2.1 al.2.2.2.2.2.1 al.2.2.2.2.2.2.1 al.2.2.2.2.2.2.2.1 al.2.2.2.2.2.2.2.2.1 al.2.2.2.2.2.2.2.2.2.1 al.2.2.2.2.2.2.2.2.2.2.1 al.2.2.2.2.2.2.2.2.2.2.2.1 al.2.2.2.2.2.2.2.2.2.2.2.2.1 al.2.2.2.2.2.2.2.2.2.2.2.2.2 la.1 la.2.1 la.2.2.1 la.2.2.2.1 la.2.2.2.2.1 la.2.2.2.2.2.1 la.2.2.2.2.2.2.1 la.2.2.2.2.2.2.2.1 la.2.2.2.2.2.2.2.2.1 la.2.2.2.2.2.2.2.2.2.1 la.2.2.2.2.2.2.2.2.2.2.1 la.2.2.2.2.2.2.2.2.2.2.2.1 la.2.2.2.2.2.2.2.2.2.2.2.2.1 la.2.2.2.2.2.2.2.2.2.2.2.2.2 ou sc.1 sc.2.1 sc.2.2.1 sc.2.2.2.1 sc.2.2.2.2 se.1 se.2.1 se.2.2.1 se.2.2.2.1 se.2.2.2.2.1 se.2.2.2.2.2.1 se.2.2.2.2.2.2.1 se.2.2.2.2.2.2.2.1 se.2.2.2.2.2.2.2.2.2 su.1 su.2.1 su.2.2.1 su.2.2.2.1 su.2.2.2.2.1 su.2.2.2.2.2.2.1 su.2.2.2.2.2.2.2.1 su.2.2.2.2.2.2.2.2.1 su.2.2.2.2.2.2.2.2.2.1 su.2.2.2.2.2.2.2.2.2.2.1 su.2.2.2.2.2.2.2.2.2.2.2.1 su.2.2.2.2.2.2.2.2.2.2.2.2 wo (xs ((6 * kc) + 1)) (nsv (wo, la, ou, al, se, su, sc)) (nuv (wo, la, ou, al, se, su, sc)) (ncv (wo, la, ou, al, se, su, sc)) (kv (wo, la, ou, al, se, su, sc))), (g_L_pass_al_12 al.1 al.2.1 al.2.2.1 al.2.2.2.1 al.2.2.2.2.1 al.2.2.2.2.2.1 al.2.2.2.2.2.2.1 al.2.2.2.2.2.2.2.1 al.2.2.2.2.2.2.2.2.1 al.2.2.2.2.2.2.2.2.2.1 al.2.2.2.2.2.2.2.2.2.2.1 al.2.2.2.2.2.2.2.2.2.2.2.1 al.2.2.2.2.2.2.2.2.2.2.2.2.1 al.2.2.2.2.2.2.2.2.2.2.2.2.2 la.1 la.2.1 la.2.2.1 la.2.2.2.1 la.2.2.2.2.1 la.2.2.2.2.2.1 la.2.2.2.2.2.2.1 la.2.2.2.2.2.2.2.1 la.2.2.2.2.2.2.2.2.1 la.2.2.2.2.2.2.2.2.2.1 la.2.2.2.2.2.2.2.2.2.2.1 la.2.2.2.2.2.2.2.2.2.2.2.1 la.2.2.2.2.2.2.2.2.2.2.2.2.1 la.2.2.2.2.2.2.2.2.2.2.2.2.2 ou sc.1 sc.2.1 sc.2.2.1 sc.2.2.2.1 sc.2.2.2.2 se.1 se.2.1 se.2.2.1 se.2.2.2.1 se.2.2.2.2.1 se.2.2.2.2.2.1 se.2.2.2.2.2.2.1 se.2.2.2.2.2.2.2.1 se.2.2.2.2.2.2.2.2.2 su.1 su.2.1 su.2.2.1 su.2.2.2.1 su.2.2.2.2.1 su.2.2.2.2.2.2.1 su.2.2.2.2.2.2.2.1 su.2.2.2.2.2.2.2.2.1 su.2.2.2.2.2.2.2.2.2.1 su.2.2.2.2.2.2.2.2.2.2.1 su.2.2.2.2.2.2.2.2.2.2.2.1 su.2.2.2.2.2.2.2.2.2.2.2.2 wo (xs ((6 * kc) + 1)) (nsv (wo, la, ou, al, se, su, sc)) (nuv (wo, la, ou, al, se, su, sc)) (ncv (wo, la, ou, al, se, su, sc)) (kv (wo, la, ou, al, se, su, sc))), (g_L_pass_al_13 al.1 al.2.1 al.2.2.1 al.2.2.2.1 al.2.2.2.2.1 al.2.2.2.2.2.1 al.2.2.2.2.2.2.1 al.2.2.2.2.2.2.2.1 al.2.2.2.2.2.2.2.2.1 al.2.2.2.2.2.2.2.2.2.1 al.2.2.2.2.2.2.2.2.2.2.1 al.2.2.2.2.2.2.2.2.2.2.2.1 al.2.2.2.2.2.2.2.2.2.2.2.2.1 al.2.2.2.2.2.2.2.2.2.2.2.2.2 la.1 la.2.1 la.2.2.1 la.2.2.2.1 la.2.2.2.2.1 la.2.2.2.2.2.1 la.2.2.2.2.2.2.1 la.2.2.2.2.2.2.2.1 la.2.2.2.2.2.2.2.2.1 la.2.2.2.2.2.2.2.2.2.1 la.2.2.2.2.2.2.2.2.2.2.1 la.2.2.2.2.2.2.2.2.2.2.2.1 la.2.2.2.2.2.2.2.2.2.2.2.2.1 la.2.2.2.2.2.2.2.2.2.2.2.2.2 ou sc.1 sc.2.1 sc.2.2.1 sc.2.2.2.1 sc.2.2.2.2 se.1 se.2.1 se.2.2.1 se.2.2.2.1 se.2.2.2.2.1 se.2.2.2.2.2.1 se.2.2.2.2.2.2.1 se.2.2.2.2.2.2.2.1 se.2.2.2.2.2.2.2.2.2 su.1 su.2.1 su.2.2.1 su.2.2.2.1 su.2.2.2.2.1 su.2.2.2.2.2.2.1 su.2.2.2.2.2.2.2.1 su.2.2.2.2.2.2.2.2.1 su.2.2.2.2.2.2.2.2.2.1 su.2.2.2.2.2.2.2.2.2.2.1 su.2.2.2.2.2.2.2.2.2.2.2.1 su.2.2.2.2.2.2.2.2.2.2.2.2 wo (xs ((6 * kc) + 1)) (nsv (wo, la, ou, al, se, su, sc)) (nuv (wo, la, ou, al, se, su, sc)) (ncv (wo, la, ou, al, se, su, sc)) (kv (wo, la, ou, al, se, su, sc)))), ((g_L_pass_se_0 al.1 al.2.1 al.2.2.1 al.2.2.2.1 al.2.2.2.2.1 al.2.2.2.2.2.1 al.2.2.2.2.2.2.1 al.2.2.2.2.2.2.2.1 al.2.2.2.2.2.2.2.2.1 al.2.2.2.2.2.2.2.2.2.1 al.2.2.2.2.2.2.2.2.2.2.1 al.2.2.2.2.2.2.2.2.2.2.2.1 al.2.2.2.2.2.2.2.2.2.2.2.2.1 al.2.2.2.2.2.2.2.2.2.2.2.2.2 la.1 la.2.1 la.2.2.1 la.2.2.2.1 la.2.2.2.2.1 la.2.2.2.2.2.1 la.2.2.2.2.2.2.1 la.2.2.2.2.2.2.2.1 la.2.2.2.2.2.2.2.2.1 la.2.2.2.2.2.2.2.2.2.1 la.2.2.2.2.2.2.2.2.2.2.1 la.2.2.2.2.2.2.2.2.2.2.2.1 la.2.2.2.2.2.2.2.2.2.2.2.2.1 la.2.2.2.2.2.2.2.2.2.2.2.2.2 ou sc.1 sc.2.1 sc.2.2.1 sc.2.2.2.1 sc.2.2.2.2 se.1 se.2.1 se.2.2.1 se.2.2.2.1 se.2.2.2.2.1 se.2.2.2.2.2.1 se.2.2.2.2.2.2.1 se.2.2.2.2.2.2.2.1 se.2.2.2.2.2.2.2.2.2 su.1 su.2.1 su.2.2.1 su.2.2.2.1 su.2.2.2.2.1 su.2.2.2.2.2.2.1 su.2.2.2.2.2.2.2.1 su.2.2.2.2.2.2.2.2.1 su.2.2.2.2.2.2.2.2.2.1 su.2.2.2.2.2.2.2.2.2.2.1 su.2.2.2.2.2.2.2.2.2.2.2.1 su.2.2.2.2.2.2.2.2.2.2.2.2 wo (xs ((6 * kc) + 1)) (nsv (wo, la, ou, al, se, su, sc)) (nuv (wo, la, ou, al, se, su, sc)) (ncv (wo, la, ou, al, se, su, sc)) (kv (wo, la, ou, al, se, su, sc))), se.2.1, (g_L_pass_se_2 al.1 al.2.1 al.2.2.1 al.2.2.2.1 al.2.2.2.2.1 al.2.2.2.2.2.1 al.2.2.2.2.2.2.1 al.2.2.2.2.2.2.2.1 al.2.2.2.2.2.2.2.2.1 al.2.2.2.2.2.2.2.2.2.1 al.2.2.2.2.2.2.2.2.2.2.1 al.2.2.2.2.2.2.2.2.2.2.2.1 al.2.2.2.2.2.2.2.2.2.2.2.2.1 al.2.2.2.2.2.2.2.2.2.2.2.2.2 la.1 la.2.1 la.2.2.1 la.2.2.2.1 la.2.2.2.2.1 la.2.2.2.2.2.1 la.2.2.2.2.2.2.1 la.2.2.2.2.2.2.2.1 la.2.2.2.2.2.2.2.2.1 la.2.2.2.2.2.2.2.2.2.1 la.2.2.2.2.2.2.2.2.2.2.1 la.2.2.2.2.2.2.2.2.2.2.2.1 la.2.2.2.2.2.2.2.2.2.2.2.2.1 la.2.2.2.2.2.2.2.2.2.2.2.2.2 ou sc.1 sc.2.1 sc.2.2.1 sc.2.2.2.1 sc.2.2.2.2 se.1 se.2.1 se.2.2.1 se.2.2.2.1 se.2.2.2.2.1 se.2.2.2.2.2.1 se.2.2.2.2.2.2.1 se.2.2.2.2.2.2.2.1 se.2.2.2.2.2.2.2.2.2 su.1 su.2.1 su.2.2.1 su.2.2.2.1 su.2.2.2.2.1 su.2.2.2.2.2.2.1 su.2.2.2.2.2.2.2.1 su.2.2.2.2.2.2.2.2.1 su.2.2.2.2.2.2.2.2.2.1 su.2.2.2.2.2.2.2.2.2.2.1 su.2.2.2.2.2.2.2.2.2.2.2.1 su.2.2.2.2.2.2.2.2.2.2.2.2 wo (xs ((6 * kc) + 1)) (nsv (wo, la, ou, al, se, su, sc)) (nuv (wo, la, ou, al, se, su, sc)) (ncv (wo, la, ou, al, se, su, sc)) (kv (wo, la, ou, al, se, su, sc))), se.2.2.2.1, (g_L_pass_se_4 al.1 al.2.1 al.2.2.1 al.2.2.2.1 al.2.2.2.2.1 al.2.2.2.2.2.1 al.2.2.2.2.2.2.1 al.2.2.2.2.2.2.2.1 al.2.2.2.2.2.2.2.2.1 al.2.2.2.2.2.2.2.2.2.1 al.2.2.2.2.2.2.2.2.2.2.1 al.2.2.2.2.2.2.2.2.2.2.2.1 al.2.2.2.2.2.2.2.2.2.2.2.2.1 al.2.2.2.2.2.2.2.2.2.2.2.2.2 la.1 la.2.1 la.2.2.1 la.2.2.2.1 la.2.2.2.2.1 la.2.2.2.2.2.1 la.2.2.2.2.2.2.1 la.2.2.2.2.2.2.2.1 la.2.2.2.2.2.2.2.2.1 la.2.2.2.2.2.2.2.2.2.1 la.2.2.2.2.2.2.2.2.2.2.1 la.2.2.2.2.2.2.2.2.2.2.2.1 la.2.2.2.2.2.2.2.2.2.2.2.2.1 la.2.2.2.2.2.2.2.2.2.2.2.2.2 ou sc.1 sc.2.1 sc.2.2.1 sc.2.2.2.1 sc.2.2.2.2 se.1 se.2.1 se.2.2.1 se.2.2.2.1 se.2.2.2.2.1 se.2.2.2.2.2.1 se.2.2.2.2.2.2.1 se.2.2.2.2.2.2.2.1 se.2.2.2.2.2.2.2.2.2 su.1 su.2.1 su.2.2.1 su.2.2.2.1 su.2.2.2.2.1 su.2.2.2.2.2.2.1 su.2.2.2.2.2.2.2.1 su.2.2.2.2.2.2.2.2.1 su.2.2.2.2.2.2.2.2.2.1 su.2.2.2.2.2.2.2.2.2.2.1 su.2.2.2.2.2.2.2.2.2.2.2.1 su.2.2.2.2.2.2.2.2.2.2.2.2 wo (xs ((6 * kc) + 1)) (nsv (wo, la, ou, al, se, su, sc)) (nuv (wo, la, ou, al, se, su, sc)) (ncv (wo, la, ou, al, se, su, sc)) (kv (wo, la, ou, al, se, su, sc))), (g_L_pass_se_5 al.1 al.2.1 al.2.2.1 al.2.2.2.1 al.2.2.2.2.1 al.2.2.2.2.2.1 al.2.2.2.2.2.2.1 al.2.2.2.2.2.2.2.1 al.2.2.2.2.2.2.2.2.1 al.2.2.2.2.2.2.2.2.2.1 al.2.2.2.2.2.2.2.2.2.2.1 al.2.2.2.2.2.2.2.2.2.2.2.1 al.2.2.2.2.2.2.2.2.2.2.2.2.1 al.2.2.2.2.2.2.2.2.2.2.2.2.2 la.1 la.2.1 la.2.2.1 la.2.2.2.1 la.2.2.2.2.1 la.2.2.2.2.2.1 la.2.2.2.2.2.2.1 la.2.2.2.2.2.2.2.1 la.2.2.2.2.2.2.2.2.1 la.2.2.2.2.2.2.2.2.2.1 la.2.2.2.2.2.2.2.2.2.2.1 la.2.2.2.2.2.2.2.2.2.2.2.1 la.2.2.2.2.2.2.2.2.2.2.2.2.1 la.2.2.2.2.2.2.2.2.2.2.2.2.2 ou sc.1 sc.2.1 sc.2.2.1 sc.2.2.2.1 sc.2.2.2.2 se.1 se.2.1 se.2.2.1 se.2.2.2.1 se.2.2.2.2.1 se.2.2.2.2.2.1 se.2.2.2.2.2.2.1 se.2.2.2.2.2.2.2.1 se.2.2.2.2.2.2.2.2.2 su.1 su.2.1 su.2.2.1 su.2.2.2.1 su.2.2.2.2.1 su.2.2.2.2.2.2.1 su.2.2.2.2.2.2.2.1 su.2.2.2.2.2.2.2.2.1 su.2.2.2.2.2.2.2.2.2.1 su.2.2.2.2.2.2.2.2.2.2.1 su.2.2.2.2.2.2.2.2.2.2.2.1 su.2.2.2.2.2.2.2.2.2.2.2.2 wo (xs ((6 * kc) + 1)) (nsv (wo, la, ou, al, se, su, sc)) (nuv (wo, la, ou, al, se, su, sc)) (ncv (wo, la, ou, al, se, su, sc)) (kv (wo, la, ou, al, se, su, sc))), (g_L_pass_se_6 al.1 al.2.1 al.2.2.1 al.2.2.2.1 al.2.2.2.2.1 al.2.2.2.2.2.1 al.2.2.2.2.2.2.1 al.2.2.2.2.2.2.2.1 al.2.2.2.2.2.2.2.2.1 al.2.2.2.2.2.2.2.2.2.1 al.2.2.2.2.2.2.2.2.2.2.1 al.2.2.2.2.2.2.2.2.2.2.2.1 al.2.2.2.2.2.2.2.2.2.2.2.2.1 al.2.2.2.2.2.2.2.2.2.2.2.2.2 la.1 la.2.1 la.2.2.1 la.2.2.2.1 la.2.2.2.2.1 la.2.2.2.2.2.1 la.2.2.2.2.2.2.1 la.2.2.2.2.2.2.2.1 la.2.2.2.2.2.2.2.2.1 la.2.2.2.2.2.2.2.2.2.1 la.2.2.2.2.2.2.2.2.2.2.1 la.2.2.2.2.2.2.2.2.2.2.2.1 la.2.2.2.2.2.2.2.2.2.2.2.2.1 la.2.2.2.2.2.2.2.2.2.2.2.2.2 ou sc.1 sc.2.1 sc.2.2.1 sc.2.2.2.1 sc.2.2.2.2 se.1 se.2.1 se.2.2.1 se.2.2.2.1 se.2.2.2.2.1 se.2.2.2.2.2.1 se.2.2.2.2.2.2.1 se.2.2.2.2.2.2.2.1 se.2.2.2.2.2.2.2.2.2 su.1 su.2.1 su.2.2.1 su.2.2.2.1 su.2.2.2.2.1 su.2.2.2.2.2.2.1 su.2.2.2.2.2.2.2.1 su.2.2.2.2.2.2.2.2.1 su.2.2.2.2.2.2.2.2.2.1 su.2.2.2.2.2.2.2.2.2.2.1 su.2.2.2.2.2.2.2.2.2.2.2.1 su.2.2.2.2.2.2.2.2.2.2.2.2 wo (xs ((6 * kc) + 1)) (nsv (wo, la, ou, al, se, su, sc)) (nuv (wo, la, ou, al, se, su, sc)) (ncv (wo, la, ou, al, se, su, sc)) (kv (wo, la, ou, al, se, su, sc))), (g_L_pass_se_7 al.1 al.2.1 al.2.2.1 al.2.2.2.1 al.2.2.2.2.1 al.2.2.2.2.2.1 al.2.2.2.2.2.2.1 al.2.2.2.2.2.2.2.1 al.2.2.2.2.2.2.2.2.1 al.2.2.2.2.2.2.2.2.2.1 al.2.2.2.2.2.2.2.2.2.2.1 al.2.2.2.2.2.2.2.2.2.2.2.1 al.2.2.2.2.2.2.2.2.2.2.2.2.1 al.2.2.2.2.2.2.2.2.2.2.2.2.2 la.1 la.2.1 la.2.2.1 la.2.2.2.1 la.2.2.2.2.1 la.2.2.2.2.2.1 la.2.2.2.2.2.2.1 la.2.2.2.2.2.2.2.1 la.2.2.2.2.2.2.2.2.1 la.2.2.2.2.2.2.2.2.2.1 la.2.2.2.2.2.2.2.2.2.2.1 la.2.2.2.2.2.2.2.2.2.2.2.1 la.2.2.2.2.2.2.2.2.2.2.2.2.1 la.2.2.2.2.2.2.2.2.2.2.2.2.2 ou sc.1 sc.2.1 sc.2.2.1 sc.2.2.2.1 sc.2.2.2.2 se.1 se.2.1 se.2.2.1 se.2.2.2.1 se.2.2.2.2.1 se.2.2.2.2.2.1 se.2.2.2.2.2.2.1 se.2.2.2.2.2.2.2.1 se.2.2.2.2.2.2.2.2.2 su.1 su.2.1 su.2.2.1 su.2.2.2.1 su.2.2.2.2.1 su.2.2.2.2.2.2.1 su.2.2.2.2.2.2.2.1 su.2.2.2.2.2.2.2.2.1 su.2.2.2.2.2.2.2.2.2.1 su.2.2.2.2.2.2.2.2.2.2.1 su.2.2.2.2.2.2.2.2.2.2.2.1 su.2.2.2.2.2.2.2.2.2.2.2.2 wo (xs ((6 * kc) + 1)) (nsv (wo, la, ou, al, se, su, sc)) (nuv (wo, la, ou, al, se, su, sc)) (ncv (wo, la, ou, al, se, su, sc)) (kv (wo, la, ou, al, se, su, sc))), se.2.2.2.2.2.2.2.2.1, (g_L_pass_se_9 al.1 al.2.1 al.2.2.1 al.2.2.2.1 al.2.2.2.2.1 al.2.2.2.2.2.1 al.2.2.2.2.2.2.1 al.2.2.2.2.2.2.2.1 al.2.2.2.2.2.2.2.2.1 al.2.2.2.2.2.2.2.2.2.1 al.2.2.2.2.2.2.2.2.2.2.1 al.2.2.2.2.2.2.2.2.2.2.2.1 al.2.2.2.2.2.2.2.2.2.2.2.2.1 al.2.2.2.2.2.2.2.2.2.2.2.2.2 la.1 la.2.1 la.2.2.1 la.2.2.2.1 la.2.2.2.2.1 la.2.2.2.2.2.1 la.2.2.2.2.2.2.1 la.2.2.2.2.2.2.2.1 la.2.2.2.2.2.2.2.2.1 la.2.2.2.2.2.2.2.2.2.1 la.2.2.2.2.2.2.2.2.2.2.1 la.2.2.2.2.2.2.2.2.2.2.2.1 la.2.2.2.2.2.2.2.2.2.2.2.2.1 la.2.2.2.2.2.2.2.2.2.2.2.2.2 ou sc.1 sc.2.1 sc.2.2.1 sc.2.2.2.1 sc.2.2.2.2 se.1 se.2.1 se.2.2.1 se.2.2.2.1 se.2.2.2.2.1 se.2.2.2.2.2.1 se.2.2.2.2.2.2.1 se.2.2.2.2.2.2.2.1 se.2.2.2.2.2.2.2.2.2 su.1 su.2.1 su.2.2.1 su.2.2.2.1 su.2.2.2.2.1 su.2.2.2.2.2.2.1 su.2.2.2.2.2.2.2.1 su.2.2.2.2.2.2.2.2.1 su.2.2.2.2.2.2.2.2.2.1 su.2.2.2.2.2.2.2.2.2.2.1 su.2.2.2.2.2.2.2.2.2.2.2.1 su.2.2.2.2.2.2.2.2.2.2.2.2 wo (xs ((6 * kc) + 1)) (nsv (wo, la, ou, al, se, su, sc)) (nuv (wo, la, ou, al, se, su, sc)) (ncv (wo, la, ou, al, se, su, sc)) (kv (wo, la, ou, al, se, su, sc)))), ((g_L_pass_su_0 al.1 al.2.1 al.2.2.1 al.2.2.2.1 al.2.2.2.2.1 al.2.2.2.2.2.1 al.2.2.2.2.2.2.1 al.2.2.2.2.2.2.2.1 al.2.2.2.2.2.2.2.2.1 al.2.2.2.2.2.2.2.2.2.1 al.2.2.2.2.2.2.2.2.2.2.1 al.2.2.2.2.2.2.2.2.2.2.2.1 al.2.2.2.2.2.2.2.2.2.2.2.2.1 al.2.2.2.2.2.2.2.2.2.2.2.2.2 la.1 la.2.1 la.2.2.1 la.2.2.2.1 la.2.2.2.2.1 la.2.2.2.2.2.1 la.2.2.2.2.2.2.1 la.2.2.2.2.2.2.2.1 la.2.2.2.2.2.2.2.2.1 la.2.2.2.2.2.2.2.2.2.1 la.2.2.2.2.2.2.2.2.2.2.1 la.2.2.2.2.2.2.2.2.2.2.2.1 la.2.2.2.2.2.2.2.2.2.2.2.2.1 la.2.2.2.2.2.2.2.2.2.2.2.2.2 ou sc.1 sc.2.1 sc.2.2.1 sc.2.2.2.1 sc.2.2.2.2 se.1 se.2.1 se.2.2.1 se.2.2.2.1 se.2.2.2.2.1 se.2.2.2.2.2.1 se.2.2.2.2.2.2.1 se.2.2.2.2.2.2.2.1 se.2.2.2.2.2.2.2.2.2 su.1 su.2.1 su.2.2.1 su.2.2.2.1 su.2.2.2.2.1 su.2.2.2.2.2.2.1 su.2.2.2.2.2.2.2.1 su.2.2.2.2.2.2.2.2.1 su.2.2.2.2.2.2.2.2.2.1 su.2.2.2.2.2.2.2.2.2.2.1 su.2.2.2.2.2.2.2.2.2.2.2.1 su.2.2.2.2.2.2.2.2.2.2.2.2 wo (xs ((6 * kc) + 1)) (nsv (wo, la, ou, al, se, su, sc)) (nuv (wo, la, ou, al, se, su, sc)) (ncv (wo, la, ou, al, se, su, sc)) (kv (wo, la, ou, al, se, su, sc))), su.2.1, su.2.2.1, su.2.2.2.1, su.2.2.2.2.1, su.2.2.2.2.2.1, (g_L_pass_su_6 al.1 al.2.1 al.2.2.1 al.2.2.2.1 al.2.2.2.2.1 al.2.2.2.2.2.1 al.2.2.2.2.2.2.1 al.2.2.2.2.2.2.2.1 al.2.2.2.2.2.2.2.2.1 al.2.2.2.2.2.2.2.2.2.1 al.2.2.2.2.2.2.2.2.2.2.1 al.2.2.2.2.2.2.2.2.2.2.2.1 al.2.2.2.2.2.2.2.2.2.2.2.2.1 al.2.2.2.2.2.2.2.2.2.2.2.2.2 la.1 la.2.1 la.2.2.1 la.2.2.2.1 la.2.2.2.2.1 la.2.2.2.2.2.1 la.2.2.2.2.2.2.1 la.2.2.2.2.2.2.2.1 la.2.2.2.2.2.2.2.2.1 la.2.2.2.2.2.2.2.2.2.1 la.2.2.2.2.2.2.2.2.2.2.1 la.2.2.2.2.2.2.2.2.2.2.2.1 la.2.2.2.2.2.2.2.2.2.2.2.2.1 la.2.2.2.2.2.2.2.2.2.2.2.2.2 ou sc.1 sc.2.1 sc.2.2.1 sc.2.2.2.1 sc.2.2.2.2 se.1 se.2.1 se.2.2.1 se.2.2.2.1 se.2.2.2.2.1 se.2.2.2.2.2.1 se.2.2.2.2.2.2.1 se.2.2.2.2.2.2.2.1 se.2.2.2.2.2.2.2.2.2 su.1 su.2.1 su.2.2.1 su.2.2.2.1 su.2.2.2.2.1 su.2.2.2.2.2.2.1 su.2.2.2.2.2.2.2.1 su.2.2.2.2.2.2.2.2.1 su.2.2.2.2.2.2.2.2.2.1 su.2.2.2.2.2.2.2.2.2.2.1 su.2.2.2.2.2.2.2.2.2.2.2.1 su.2.2.2.2.2.2.2.2.2.2.2.2 wo (xs ((6 * kc) + 1)) (nsv (wo, la, ou, al, se, su, sc)) (nuv (wo, la, ou, al, se, su, sc)) (ncv (wo, la, ou, al, se, su, sc)) (kv (wo, la, ou, al, se, su, sc))), (g_L_pass_su_7 al.1 al.2.1 al.2.2.1 al.2.2.2.1 al.2.2.2.2.1 al.2.2.2.2.2.1 al.2.2.2.2.2.2.1 al.2.2.2.2.2.2.2.1 al.2.2.2.2.2.2.2.2.1 al.2.2.2.2.2.2.2.2.2.1 al.2.2.2.2.2.2.2.2.2.2.1 al.2.2.2.2.2.2.2.2.2.2.2.1 al.2.2.2.2.2.2.2.2.2.2.2.2.1 al.2.2.2.2.2.2.2.2.2.2.2.2.2 la.1 la.2.1 la.2.2.1 la.2.2.2.1 la.2.2.2.2.1 la.2.2.2.2.2.1 la.2.2.2.2.2.2.1 la.2.2.2.2.2.2.2.1 la.2.2.2.2.2.2.2.2.1 la.2.2.2.2.2.2.2.2.2.1 la.2.2.2.2.2.2.2.2.2.2.1 la.2.2.2.2.2.2.2.2.2.2.2.1 la.2.2.2.2.2.2.2.2.2.2.2.2.1 la.2.2.2.2.2.2.2.2.2.2.2.2.2 ou sc.1 sc.2.1 sc.2.2.1 sc.2.2.2.1 sc.2.2.2.2 se.1 se.2.1 se.2.2.1 se.2.2.2.1 se.2.2.2.2.1 se.2.2.2.2.2.1 se.2.2.2.2.2.2.1 se.2.2.2.2.2.2.2.1 se.2.2.2.2.2.2.2.2.2 su.1 su.2.1 su.2.2.1 su.2.2.2.1 su.2.2.2.2.1 su.2.2.2.2.2.2.1 su.2.2.2.2.2.2.2.1 su.2.2.2.2.2.2.2.2.1 su.2.2.2.2.2.2.2.2.2.1 su.2.2.2.2.2.2.2.2.2.2.1 su.2.2.2.2.2.2.2.2.2.2.2.1 su.2.2.2.2.2.2.2.2.2.2.2.2 wo (xs ((6 * kc) + 1)) (nsv (wo, la, ou, al, se, su, sc)) (nuv (wo, la, ou, al, se, su, sc)) (ncv (wo, la, ou, al, se, su, sc)) (kv (wo, la, ou, al, se, su, sc))), (g_L_pass_su_8 al.1 al.2.1 al.2.2.1 al.2.2.2.1 al.2.2.2.2.1 al.2.2.2.2.2.1 al.2.2.2.2.2.2.1 al.2.2.2.2.2.2.2.1 al.2.2.2.2.2.2.2.2.1 al.2.2.2.2.2.2.2.2.2.1 al.2.2.2.2.2.2.2.2.2.2.1 al.2.2.2.2.2.2.2.2.2.2.2.1 al.2.2.2.2.2.2.2.2.2.2.2.2.1 al.2.2.2.2.2.2.2.2.2.2.2.2.2 la.1 la.2.1 la.2.2.1 la.2.2.2.1 la.2.2.2.2.1 la.2.2.2.2.2.1 la.2.2.2.2.2.2.1 la.2.2.2.2.2.2.2.1 la.2.2.2.2.2.2.2.2.1 la.2.2.2.2.2.2.2.2.2.1 la.2.2.2.2.2.2.2.2.2.2.1 la.2.2.2.2.2.2.2.2.2.2.2.1 la.2.2.2.2.2.2.2.2.2.2.2.2.1 la.2.2.2.2.2.2.2.2.2.2.2.2.2 ou sc.1 sc.2.1 sc.2.2.1 sc.2.2.2.1 sc.2.2.2.2 se.1 se.2.1 se.2.2.1 se.2.2.2.1 se.2.2.2.2.1 se.2.2.2.2.2.1 se.2.2.2.2.2.2.1 se.2.2.2.2.2.2.2.1 se.2.2.2.2.2.2.2.2.2 su.1 su.2.1 su.2.2.1 su.2.2.2.1 su.2.2.2.2.1 su.2.2.2.2.2.2.1 su.2.2.2.2.2.2.2.1 su.2.2.2.2.2.2.2.2.1 su.2.2.2.2.2.2.2.2.2.1 su.2.2.2.2.2.2.2.2.2.2.1 su.2.2.2.2.2.2.2.2.2.2.2.1 su.2.2.2.2.2.2.2.2.2.2.2.2 wo (xs ((6 * kc) + 1)) (nsv (wo, la, ou, al, se, su, sc)) (nuv (wo, la, ou, al, se, su, sc)) (ncv (wo, la, ou, al, se, su, sc)) (kv (wo, la, ou, al, se, su, sc))), (g_L_pass_su_9 al.1 al.2.1 al.2.2.1 al.2.2.2.1 al.2.2.2.2.1 al.2.2.2.2.2.1 al.2.2.2.2.2.2.1 al.2.2.2.2.2.2.2.1 al.2.2.2.2.2.2.2.2.1 al.2.2.2.2.2.2.2.2.2.1 al.2.2.2.2.2.2.2.2.2.2.1 al.2.2.2.2.2.2.2.2.2.2.2.1 al.2.2.2.2.2.2.2.2.2.2.2.2.1 al.2.2.2.2.2.2.2.2.2.2.2.2.2 la.1 la.2.1 la.2.2.1 la.2.2.2.1 la.2.2.2.2.1 la.2.2.2.2.2.1 la.2.2.2.2.2.2.1 la.2.2.2.2.2.2.2.1 la.2.2.2.2.2.2.2.2.1 la.2.2.2.2.2.2.2.2.2.1 la.2.2.2.2.2.2.2.2.2.2.1 la.2.2.2.2.2.2.2.2.2.2.2.1 la.2.2.2.2.2.2.2.2.2.2.2.2.1 la.2.2.2.2.2.2.2.2.2.2.2.2.2 ou sc.1 sc.2.1 sc.2.2.1 sc.2.2.2.1 sc.2.2.2.2 se.1 se.2.1 se.2.2.1 se.2.2.2.1 se.2.2.2.2.1 se.2.2.2.2.2.1 se.2.2.2.2.2.2.1 se.2.2.2.2.2.2.2.1 se.2.2.2.2.2.2.2.2.2 su.1 su.2.1 su.2.2.1 su.2.2.2.1 su.2.2.2.2.1 su.2.2.2.2.2.2.1 su.2.2.2.2.2.2.2.1 su.2.2.2.2.2.2.2.2.1 su.2.2.2.2.2.2.2.2.2.1 su.2.2.2.2.2.2.2.2.2.2.1 su.2.2.2.2.2.2.2.2.2.2.2.1 su.2.2.2.2.2.2.2.2.2.2.2.2 wo (xs ((6 * kc) + 1)) (nsv (wo, la, ou, al, se, su, sc)) (nuv (wo, la, ou, al, se, su, sc)) (ncv (wo, la, ou, al, se, su, sc)) (kv (wo, la, ou, al, se, su, sc))), (g_L_pass_su_10 al.1 al.2.1 al.2.2.1 al.2.2.2.1 al.2.2.2.2.1 al.2.2.2.2.2.1 al.2.2.2.2.2.2.1 al.2.2.2.2.2.2.2.1 al.2.2.2.2.2.2.2.2.1 al.2.2.2.2.2.2.2.2.2.1 al.2.2.2.2.2.2.2.2.2.2.1 al.2.2.2.2.2.2.2.2.2.2.2.1 al.2.2.2.2.2.2.2.2.2.2.2.2.1 al.2.2.2.2.2.2.2.2.2.2.2.2.2 la.1 la.2.1 la.2.2.1 la.2.2.2.1 la.2.2.2.2.1 la.2.2.2.2.2.1 la.2.2.2.2.2.2.1 la.2.2.2.2.2.2.2.1 la.2.2.2.2.2.2.2.2.1 la.2.2.2.2.2.2.2.2.2.1 la.2.2.2.2.2.2.2.2.2.2.1 la.2.2.2.2.2.2.2.2.2.2.2.1 la.2.2.2.2.2.2.2.2.2.2.2.2.1 la.2.2.2.2.2.2.2.2.2.2.2.2.2 ou sc.1 sc.2.1 sc.2.2.1 sc.2.2.2.1 sc.2.2.2.2 se.1 se.2.1 se.2.2.1 se.2.2.2.1 se.2.2.2.2.1 se.2.2.2.2.2.1 se.2.2.2.2.2.2.1 se.2.2.2.2.2.2.2.1 se.2.2.2.2.2.2.2.2.2 su.1 su.2.1 su.2.2.1 su.2.2.2.1 su.2.2.2.2.1 su.2.2.2.2.2.2.1 su.2.2.2.2.2.2.2.1 su.2.2.2.2.2.2.2.2.1 su.2.2.2.2.2.2.2.2.2.1 su.2.2.2.2.2.2.2.2.2.2.1 su.2.2.2.2.2.2.2.2.2.2.2.1 su.2.2.2.2.2.2.2.2.2.2.2.2 wo (xs ((6 * kc) + 1)) (nsv (wo, la, ou, al, se, su, sc)) (nuv (wo, la, ou, al, se, su, sc)) (ncv (wo, la, ou, al, se, su, sc)) (kv (wo, la, ou, al, se, su, sc))), (g_L_pass_su_11 al.1 al.2.1 al.2.2.1 al.2.2.2.1 al.2.2.2.2.1 al.2.2.2.2.2.1 al.2.2.2.2.2.2.1 al.2.2.2.2.2.2.2.1 al.2.2.2.2.2.2.2.2.1 al.2.2.2.2.2.2.2.2.2.1 al.2.2.2.2.2.2.2.2.2.2.1 al.2.2.2.2.2.2.2.2.2.2.2.1 al.2.2.2.2.2.2.2.2.2.2.2.2.1 al.2.2.2.2.2.2.2.2.2.2.2.2.2 la.1 la.2.1 la.2.2.1 la.2.2.2.1 la.2.2.2.2.1 la.2.2.2.2.2.1 la.2.2.2.2.2.2.1 la.2.2.2.2.2.2.2.1 la.2.2.2.2.2.2.2.2.1 la.2.2.2.2.2.2.2.2.2.1 la.2.2.2.2.2.2.2.2.2.2.1 la.2.2.2.2.2.2.2.2.2.2.2.1 la.2.2.2.2.2.2.2.2.2.2.2.2.1 la.2.2.2.2.2.2.2.2.2.2.2.2.2 ou sc.1 sc.2.1 sc.2.2.1 sc.2.2.2.1 sc.2.2.2.2 se.1 se.2.1 se.2.2.1 se.2.2.2.1 se.2.2.2.2.1 se.2.2.2.2.2.1 se.2.2.2.2.2.2.1 se.2.2.2.2.2.2.2.1 se.2.2.2.2.2.2.2.2.2 su.1 su.2.1 su.2.2.1 su.2.2.2.1 su.2.2.2.2.1 su.2.2.2.2.2.2.1 su.2.2.2.2.2.2.2.1 su.2.2.2.2.2.2.2.2.1 su.2.2.2.2.2.2.2.2.2.1 su.2.2.2.2.2.2.2.2.2.2.1 su.2.2.2.2.2.2.2.2.2.2.2.1 su.2.2.2.2.2.2.2.2.2.2.2.2 wo (xs ((6 * kc) + 1)) (nsv (wo, la, ou, al, se, su, sc)) (nuv (wo, la, ou, al, se, su, sc)) (ncv (wo, la, ou, al, se, su, sc)) (kv (wo, la, ou, al, se, su, sc))), (g_L_pass_su_12 al.1 al.2.1 al.2.2.1 al.2.2.2.1 al.2.2.2.2.1 al.2.2.2.2.2.1 al.2.2.2.2.2.2.1 al.2.2.2.2.2.2.2.1 al.2.2.2.2.2.2.2.2.1 al.2.2.2.2.2.2.2.2.2.1 al.2.2.2.2.2.2.2.2.2.2.1 al.2.2.2.2.2.2.2.2.2.2.2.1 al.2.2.2.2.2.2.2.2.2.2.2.2.1 al.2.2.2.2.2.2.2.2.2.2.2.2.2 la.1 la.2.1 la.2.2.1 la.2.2.2.1 la.2.2.2.2.1 la.2.2.2.2.2.1 la.2.2.2.2.2.2.1 la.2.2.2.2.2.2.2.1 la.2.2.2.2.2.2.2.2.1 la.2.2.2.2.2.2.2.2.2.1 la.2.2.2.2.2.2.2.2.2.2.1 la.2.2.2.2.2.2.2.2.2.2.2.1 la.2.2.2.2.2.2.2.2.2.2.2.2.1 la.2.2.2.2.2.2.2.2.2.2.2.2.2 ou sc.1 sc.2.1 sc.2.2.1 sc.2.2.2.1 sc.2.2.2.2 se.1 se.2.1 se.2.2.1 se.2.2.2.1 se.2.2.2.2.1 se.2.2.2.2.2.1 se.2.2.2.2.2.2.1 se.2.2.2.2.2.2.2.1 se.2.2.2.2.2.2.2.2.2 su.1 su.2.1 su.2.2.1 su.2.2.2.1 su.2.2.2.2.1 su.2.2.2.2.2.2.1 su.2.2.2.2.2.2.2.1 su.2.2.2.2.2.2.2.2.1 su.2.2.2.2.2.2.2.2.2.1 su.2.2.2.2.2.2.2.2.2.2.1 su.2.2.2.2.2.2.2.2.2.2.2.1 su.2.2.2.2.2.2.2.2.2.2.2.2 wo (xs ((6 * kc) + 1)) (nsv (wo, la, ou, al, se, su, sc)) (nuv (wo, la, ou, al, se, su, sc)) (ncv (wo, la, ou, al, se, su, sc)) (kv (wo, la, ou, al, se, su, sc)))), ((g_L_pass_sc_0 al.1 al.2.1 al.2.2.1 al.2.2.2.1 al.2.2.2.2.1 al.2.2.2.2.2.1 al.2.2.2.2.2.2.1 al.2.2.2.2.2.2.2.1 al.2.2.2.2.2.2.2.2.1 al.2.2.2.2.2.2.2.2.2.1 al.2.2.2.2.2.2.2.2.2.2.1 al.2.2.2.2.2.2.2.2.2.2.2.1 al.2.2.2.2.2.2.2.2.2.2.2.2.1 al.2.2.2.2.2.2.2.2.2.2.2.2.2 la.1 la.2.1 la.2.2.1 la.2.2.2.1 la.2.2.2.2.1 la.2.2.2.2.2.1 la.2.2.2.2.2.2.1 la.2.2.2.2.2.2.2.1 la.2.2.2.2.2.2.2.2.1 la.2.2.2.2.2.2.2.2.2.1 la.2.2.2.2.2.2.2.2.2.2.1 la.2.2.2.2.2.2.2.2.2.2.2.1 la.2.2.2.2.2.2.2.2.2.2.2.2.1 la.2.2.2.2.2.2.2.2.2.2.2.2.2 ou sc.1 sc.2.1 sc.2.2.1 sc.2.2.2.1 sc.2.2.2.2 se.1 se.2.1 se.2.2.1 se.2.2.2.1 se.2.2.2.2.1 se.2.2.2.2.2.1 se.2.2.2.2.2.2.1 se.2.2.2.2.2.2.2.1 se.2.2.2.2.2.2.2.2.2 su.1 su.2.1 su.2.2.1 su.2.2.2.1 su.2.2.2.2.1 su.2.2.2.2.2.2.1 su.2.2.2.2.2.2.2.1 su.2.2.2.2.2.2.2.2.1 su.2.2.2.2.2.2.2.2.2.1 su.2.2.2.2.2.2.2.2.2.2.1 su.2.2.2.2.2.2.2.2.2.2.2.1 su.2.2.2.2.2.2.2.2.2.2.2.2 wo (xs ((6 * kc) + 1)) (nsv (wo, la, ou, al, se, su, sc)) (nuv (wo, la, ou, al, se, su, sc)) (ncv (wo, la, ou, al, se, su, sc)) (kv (wo, la, ou, al, se, su, sc))), sc.2.1, sc.2.2.1, sc.2.2.2.1, (g_L_pass_sc_4 al.1 al.2.1 al.2.2.1 al.2.2.2.1 al.2.2.2.2.1 al.2.2.2.2.2.1 al.2.2.2.2.2.2.1 al.2.2.2.2.2.2.2.1 al.2.2.2.2.2.2.2.2.1 al.2.2.2.2.2.2.2.2.2.1 al.2.2.2.2.2.2.2.2.2.2.1 al.2.2.2.2.2.2.2.2.2.2.2.1 al.2.2.2.2.2.2.2.2.2.2.2.2.1 al.2.2.2.2.2.2.2.2.2.2.2.2.2 la.1 la.2.1 la.2.2.1 la.2.2.2.1 la.2.2.2.2.1 la.2.2.2.2.2.1 la.2.2.2.2.2.2.1 la.2.2.2.2.2.2.2.1 la.2.2.2.2.2.2.2.2.1 la.2.2.2.2.2.2.2.2.2.1 la.2.2.2.2.2.2.2.2.2.2.1 la.2.2.2.2.2.2.2.2.2.2.2.1 la.2.2.2.2.2.2.2.2.2.2.2.2.1 la.2.2.2.2.2.2.2.2.2.2.2.2.2 ou sc.1 sc.2.1 sc.2.2.1 sc.2.2.2.1 sc.2.2.2.2 se.1 se.2.1 se.2.2.1 se.2.2.2.1 se.2.2.2.2.1 se.2.2.2.2.2.1 se.2.2.2.2.2.2.1 se.2.2.2.2.2.2.2.1 se.2.2.2.2.2.2.2.2.2 su.1 su.2.1 su.2.2.1 su.2.2.2.1 su.2.2.2.2.1 su.2.2.2.2.2.2.1 su.2.2.2.2.2.2.2.1 su.2.2.2.2.2.2.2.2.1 su.2.2.2.2.2.2.2.2.2.1 su.2.2.2.2.2.2.2.2.2.2.1 su.2.2.2.2.2.2.2.2.2.2.2.1 su.2.2.2.2.2.2.2.2.2.2.2.2 wo (xs ((6 * kc) + 1)) (nsv (wo, la, ou, al, se, su, sc)) (nuv (wo, la, ou, al, se, su, sc)) (ncv (wo, la, ou, al, se, su, sc)) (kv (wo, la, ou, al, se, su, sc))))) ((g_X12_pass_md_0 md.2.1 (xs ((6 * kc) + 1))), (g_X12_pass_md_1 l4.1 md.2.1 md.2.2.1 md.2.2.2 ml.1 ml.2.1 ml.2.2.1 ml.2.2.2.1 ml.2.2.2.2.1 ml.2.2.2.2.2.1 ml.2.2.2.2.2.2.1 ml.2.2.2.2.2.2.2.1 ml.2.2.2.2.2.2.2.2.1 ml.2.2.2.2.2.2.2.2.2.1 ml.2.2.2.2.2.2.2.2.2.2.1 ml.2.2.2.2.2.2.2.2.2.2.2.1 ml.2.2.2.2.2.2.2.2.2.2.2.2 r4 sb.1 sb.2.1 sb.2.2.1 sb.2.2.2.1 sb.2.2.2.2.1 sb.2.2.2.2.2 te.1 te.2.1 te.2.2.1 te.2.2.2.1 te.2.2.2.2.1 te.2.2.2.2.2.1 te.2.2.2.2.2.2.1 te.2.2.2.2.2.2.2 so.1 so.2.1 so.2.2.1 so.2.2.2 wa.1 wa.2.1 wa.2.2.1 wa.2.2.2 (xs ((6 * kc) + 1)) (snv ml)), (g_X12_pass_md_2 l4.1 md.2.1 md.2.2.1 md.2.2.2 ml.1 ml.2.1 ml.2.2.1 ml.2.2.2.1 ml.2.2.2.2.1 ml.2.2.2.2.2.1 ml.2.2.2.2.2.2.1 ml.2.2.2.2.2.2.2.1 ml.2.2.2.2.2.2.2.2.1 ml.2.2.2.2.2.2.2.2.2.1 ml.2.2.2.2.2.2.2.2.2.2.1 ml.2.2.2.2.2.2.2.2.2.2.2.1 ml.2.2.2.2.2.2.2.2.2.2.2.2 r4 sb.1 sb.2.1 sb.2.2.1 sb.2.2.2.1 sb.2.2.2.2.1 sb.2.2.2.2.2 te.1 te.2.1 te.2.2.1 te.2.2.2.1 te.2.2.2.2.1 te.2.2.2.2.2.1 te.2.2.2.2.2.2.1 te.2.2.2.2.2.2.2 so.1 so.2.1 so.2.2.1 so.2.2.2 wa.1 wa.2.1 wa.2.2.1 wa.2.2.2 (xs ((6 * kc) + 1)) (snv ml)), (g_X12_pass_md_3 l4.1 md.2.1 md.2.2.1 md.2.2.2 ml.1 ml.2.1 ml.2.2.1 ml.2.2.2.1 ml.2.2.2.2.1 ml.2.2.2.2.2.1 ml.2.2.2.2.2.2.1 ml.2.2.2.2.2.2.2.1 ml.2.2.2.2.2.2.2.2.1 ml.2.2.2.2.2.2.2.2.2.1 ml.2.2.2.2.2.2.2.2.2.2.1 ml.2.2.2.2.2.2.2.2.2.2.2.1 ml.2.2.2.2.2.2.2.2.2.2.2.2 r4 sb.1 sb.2.1 sb.2.2.1 sb.2.2.2.1 sb.2.2.2.2.1 sb.2.2.2.2.2 te.1 te.2.1 te.2.2.1 te.2.2.2.1 te.2.2.2.2.1 te.2.2.2.2.2.1 te.2.2.2.2.2.2.1 te.2.2.2.2.2.2.2 so.1 so.2.1 so.2.2.1 so.2.2.2 wa.1 wa.2.1 wa.2.2.1 wa.2.2.2 (xs ((6 * kc) + 1)) (snv ml))) ((g_X12_pass_ml_0 l4.1 md.2.1 md.2.2.1 md.2.2.2 ml.1 ml.2.1 ml.2.2.1 ml.2.2.2.1 ml.2.2.2.2.1 ml.2.2.2.2.2.1 ml.2.2.2.2.2.2.1 ml.2.2.2.2.2.2.2.1 ml.2.2.2.2.2.2.2.2.1 ml.2.2.2.2.2.2.2.2.2.1 ml.2.2.2.2.2.2.2.2.2.2.1 ml.2.2.2.2.2.2.2.2.2.2.2.1 ml.2.2.2.2.2.2.2.2.2.2.2.2 r4 sb.1 sb.2.1 sb.2.2.1 sb.2.2.2.1 sb.2.2.2.2.1 sb.2.2.2.2.2 te.1 te.2.1 te.2.2.1 te.2.2.2.1 te.2.2.2.2.1 te.2.2.2.2.2.1 te.2.2.2.2.2.2.1 te.2.2.2.2.2.2.2 so.1 so.2.1 so.2.2.1 so.2.2.2 wa.1 wa.2.1 wa.2.2.1 wa.2.2.2 (xs ((6 * kc) + 1)) (snv ml)), (g_X12_pass_ml_1 l4.1 md.2.1 md.2.2.1 md.2.2.2 ml.1 ml.2.1 ml.2.2.1 ml.2.2.2.1 ml.2.2.2.2.1 ml.2.2.2.2.2.1 ml.2.2.2.2.2.2.1 ml.2.2.2.2.2.2.2.1 ml.2.2.2.2.2.2.2.2.1 ml.2.2.2.2.2.2.2.2.2.1 ml.2.2.2.2.2.2.2.2.2.2.1 ml.2.2.2.2.2.2.2.2.2.2.2.1 ml.2.2.2.2.2.2.2.2.2.2.2.2 r4 sb.1 sb.2.1 sb.2.2.1 sb.2.2.2.1 sb.2.2.2.2.1 sb.2.2.2.2.2 te.1 te.2.1 te.2.2.1 te.2.2.2.1 te.2.2.2.2.1 te.2.2.2.2.2.1 te.2.2.2.2.2.2.1 te.2.2.2.2.2.2.2 so.1 so.2.1 so.2.2.1 so.2.2.2 wa.1 wa.2.1 wa.2.2.1 wa.2.2.2 (xs ((6 * kc) + 1)) (snv ml)), ml.2.2.1, (g_X12_pass_ml_3 l4.1 md.2.1 md.2.2.1 md.2.2.2 ml.1 ml.2.1 ml.2.2.1 ml.2.2.2.1 ml.2.2.2.2.1 ml.2.2.2.2.2.1 ml.2.2.2.2.2.2.1 ml.2.2.2.2.2.2.2.1 ml.2.2.2.2.2.2.2.2.1 ml.2.2.2.2.2.2.2.2.2.1 ml.2.2.2.2.2.2.2.2.2.2.1 ml.2.2.2.2.2.2.2.2.2.2.2.1 ml.2.2.2.2.2.2.2.2.2.2.2.2 r4 sb.1 sb.2.1 sb.2.2.1 sb.2.2.2.1 sb.2.2.2.2.1 sb.2.2.2.2.2 te.1 te.2.1 te.2.2.1 te.2.2.2.1 te.2.2.2.2.1 te.2.2.2.2.2.1 te.2.2.2.2.2.2.1 te.2.2.2.2.2.2.2 so.1 so.2.1 so.2.2.1 so.2.2.2 wa.1 wa.2.1 wa.2.2.1 wa.2.2.2 (xs ((6 * kc) + 1)) (snv ml)), (g_X12_pass_ml_4 l4.1 md.2.1 md.2.2.1 md.2.2.2 ml.1 ml.2.1 ml.2.2.1 ml.2.2.2.1 ml.2.2.2.2.1 ml.2.2.2.2.2.1 ml.2.2.2.2.2.2.1 ml.2.2.2.2.2.2.2.1 ml.2.2.2.2.2.2.2.2.1 ml.2.2.2.2.2.2.2.2.2.1 ml.2.2.2.2.2.2.2.2.2.2.1 ml.2.2.2.2.2.2.2.2.2.2.2.1 ml.2.2.2.2.2.2.2.2.2.2.2.2 r4 sb.1 sb.2.1 sb.2.2.1 sb.2.2.2.1 sb.2.2.2.2.1 sb.2.2.2.2.2 te.1 te.2.1 te.2.2.1 te.2.2.2.1 te.2.2.2.2.1 te.2.2.2.2.2.1 te.2.2.2.2.2.2.1 te.2.2.2.2.2.2.2 so.1 so.2.1 so.2.2.1 so.2.2.2 wa.1 wa.2.1 wa.2.2.1 wa.2.2.2 (xs ((6 * kc) + 1)) (snv ml)), (g_X12_pass_ml_5 l4.1 md.2.1 md.2.2.1 md.2.2.2 ml.1 ml.2.1 ml.2.2.1 ml.2.2.2.1 ml.2.2.2.2.1 ml.2.2.2.2.2.1 ml.2.2.2.2.2.2.1 ml.2.2.2.2.2.2.2.1 ml.2.2.2.2.2.2.2.2.1 ml.2.2.2.2.2.2.2.2.2.1 ml.2.2.2.2.2.2.2.2.2.2.1 ml.2.2.2.2.2.2.2.2.2.2.2.1 ml.2.2.2.2.2.2.2.2.2.2.2.2 r4 sb.1 sb.2.1 sb.2.2.1 sb.2.2.2.1 sb.2.2.2.2.1 sb.2.2.2.2.2 te.1 te.2.1 te.2.2.1 te.2.2.2.1 te.2.2.2.2.1 te.2.2.2.2.2.1 te.2.2.2.2.2.2.1 te.2.2.2.2.2.2.2 so.1 so.2.1 so.2.2.1 so.2.2.2 wa.1 wa.2.1 wa.2.2.1 wa.2.2.2 (xs ((6 * kc) + 1)) (snv ml)), ml.2.2.2.2.2.2.1, ml.2.2.2.2.2.2.2.1, ml.2.2.2.2.2.2.2.2.1, ml.2.2.2.2.2.2.2.2.2.1, (g_X12_pass_ml_10 l4.1 md.2.1 md.2.2.1 md.2.2.2 ml.1 ml.2.1 ml.2.2.1 ml.2.2.2.1 ml.2.2.2.2.1 ml.2.2.2.2.2.1 ml.2.2.2.2.2.2.1 ml.2.2.2.2.2.2.2.1 ml.2.2.2.2.2.2.2.2.1 ml.2.2.2.2.2.2.2.2.2.1 ml.2.2.2.2.2.2.2.2.2.2.1 ml.2.2.2.2.2.2.2.2.2.2.2.1 ml.2.2.2.2.2.2.2.2.2.2.2.2 r4 sb.1 sb.2.1 sb.2.2.1 sb.2.2.2.1 sb.2.2.2.2.1 sb.2.2.2.2.2 te.1 te.2.1 te.2.2.1 te.2.2.2.1 te.2.2.2.2.1 te.2.2.2.2.2.1 te.2.2.2.2.2.2.1 te.2.2.2.2.2.2.2 so.1 so.2.1 so.2.2.1 so.2.2.2 wa.1 wa.2.1 wa.2.2.1 wa.2.2.2 (xs ((6 * kc) + 1)) (snv ml)), (g_X12_pass_ml_11 l4.1 md.2.1 md.2.2.1 md.2.2.2 ml.1 ml.2.1 ml.2.2.1 ml.2.2.2.1 ml.2.2.2.2.1 ml.2.2.2.2.2.1 ml.2.2.2.2.2.2.1 ml.2.2.2.2.2.2.2.1 ml.2.2.2.2.2.2.2.2.1 ml.2.2.2.2.2.2.2.2.2.1 ml.2.2.2.2.2.2.2.2.2.2.1 ml.2.2.2.2.2.2.2.2.2.2.2.1 ml.2.2.2.2.2.2.2.2.2.2.2.2 r4 sb.1 sb.2.1 sb.2.2.1 sb.2.2.2.1 sb.2.2.2.2.1 sb.2.2.2.2.2 te.1 te.2.1 te.2.2.1 te.2.2.2.1 te.2.2.2.2.1 te.2.2.2.2.2.1 te.2.2.2.2.2.2.1 te.2.2.2.2.2.2.2 so.1 so.2.1 so.2.2.1 so.2.2.2 wa.1 wa.2.1 wa.2.2.1 wa.2.2.2 (xs ((6 * kc) + 1)) (snv ml)), (g_X12_pass_ml_12 l4.1 md.2.1 md.2.2.1 md.2.2.2 ml.1 ml.2.1 ml.2.2.1 ml.2.2.2.1 ml.2.2.2.2.1 ml.2.2.2.2.2.1 ml.2.2.2.2.2.2.1 ml.2.2.2.2.2.2.2.1 ml.2.2.2.2.2.2.2.2.1 ml.2.2.2.2.2.2.2.2.2.1 ml.2.2.2.2.2.2.2.2.2.2.1 ml.2.2.2.2.2.2.2.2.2.2.2.1 ml.2.2.2.2.2.2.2.2.2.2.2.2 r4 sb.1 sb.2.1 sb.2.2.1 sb.2.2.2.1 sb.2.2.2.2.1 sb.2.2.2.2.2 te.1 te.2.1 te.2.2.1 te.2.2.2.1 te.2.2.2.2.1 te.2.2.2.2.2.1 te.2.2.2.2.2.2.1 te.2.2.2.2.2.2.2 so.1 so.2.1 so.2.2.1 so.2.2.2 wa.1 wa.2.1 wa.2.2.1 wa.2.2.2 (xs ((6 * kc) + 1)) (snv ml))) (te.1, te.2.1, te.2.2.1, (g_X12_pass_se_3 l4.1 md.2.1 md.2.2.1 md.2.2.2 ml.1 ml.2.1 ml.2.2.1 ml.2.2.2.1 ml.2.2.2.2.1 ml.2.2.2.2.2.1 ml.2.2.2.2.2.2.1 ml.2.2.2.2.2.2.2.1 ml.2.2.2.2.2.2.2.2.1 ml.2.2.2.2.2.2.2.2.2.1 ml.2.2.2.2.2.2.2.2.2.2.1 ml.2.2.2.2.2.2.2.2.2.2.2.1 ml.2.2.2.2.2.2.2.2.2.2.2.2 r4 sb.1 sb.2.1 sb.2.2.1 sb.2.2.2.1 sb.2.2.2.2.1 sb.2.2.2.2.2 te.1 te.2.1 te.2.2.1 te.2.2.2.1 te.2.2.2.2.1 te.2.2.2.2.2.1 te.2.2.2.2.2.2.1 te.2.2.2.2.2.2.2 so.1 so.2.1 so.2.2.1 so.2.2.2 wa.1 wa.2.1 wa.2.2.1 wa.2.2.2 (xs ((6 * kc) + 1)) (snv ml)), (g_X12_pass_se_4 l4.1 md.2.1 md.2.2.1 md.2.2.2 ml.1 ml.2.1 ml.2.2.1 ml.2.2.2.1 ml.2.2.2.2.1 ml.2.2.2.2.2.1 ml.2.2.2.2.2.2.1 ml.2.2.2.2.2.2.2.1 ml.2.2.2.2.2.2.2.2.1 ml.2.2.2.2.2.2.2.2.2.1 ml.2.2.2.2.2.2.2.2.2.2.1 ml.2.2.2.2.2.2.2.2.2.2.2.1 ml.2.2.2.2.2.2.2.2.2.2.2.2 r4 sb.1 sb.2.1 sb.2.2.1 sb.2.2.2.1 sb.2.2.2.2.1 sb.2.2.2.2.2 te.1 te.2.1 te.2.2.1 te.2.2.2.1 te.2.2.2.2.1 te.2.2.2.2.2.1 te.2.2.2.2.2.2.1 te.2.2.2.2.2.2.2 so.1 so.2.1 so.2.2.1 so.2.2.2 wa.1 wa.2.1 wa.2.2.1 wa.2.2.2 (xs ((6 * kc) + 1)) (snv ml)), (g_X12_pass_se_5 l4.1 md.2.1 md.2.2.1 md.2.2.2 ml.1 ml.2.1 ml.2.2.1 ml.2.2.2.1 ml.2.2.2.2.1 ml.2.2.2.2.2.1 ml.2.2.2.2.2.2.1 ml.2.2.2.2.2.2.2.1 ml.2.2.2.2.2.2.2.2.1 ml.2.2.2.2.2.2.2.2.2.1 ml.2.2.2.2.2.2.2.2.2.2.1 ml.2.2.2.2.2.2.2.2.2.2.2.1 ml.2.2.2.2.2.2.2.2.2.2.2.2 r4 sb.1 sb.2.1 sb.2.2.1 sb.2.2.2.1 sb.2.2.2.2.1 sb.2.2.2.2.2 te.1 te.2.1 te.2.2.1 te.2.2.2.1 te.2.2.2.2.1 te.2.2.2.2.2.1 te.2.2.2.2.2.2.1 te.2.2.2.2.2.2.2 so.1 so.2.1 so.2.2.1 so.2.2.2 wa.1 wa.2.1 wa.2.2.1 wa.2.2.2 (xs ((6 * kc) + 1)) (snv ml)), (g_X12_pass_se_6 l4.1 md.2.1 md.2.2.1 md.2.2.2 ml.1 ml.2.1 ml.2.2.1 ml.2.2.2.1 ml.2.2.2.2.1 ml.2.2.2.2.2.1 ml.2.2.2.2.2.2.1 ml.2.2.2.2.2.2.2.1 ml.2.2.2.2.2.2.2.2.1 ml.2.2.2.2.2.2.2.2.2.1 ml.2.2.2.2.2.2.2.2.2.2.1 ml.2.2.2.2.2.2.2.2.2.2.2.1 ml.2.2.2.2.2.2.2.2.2.2.2.2 r4 sb.1 sb.2.1 sb.2.2.1 sb.2.2.2.1 sb.2.2.2.2.1 sb.2.2.2.2.2 te.1 te.2.1 te.2.2.1 te.2.2.2.1 te.2.2.2.2.1 te.2.2.2.2.2.1 te.2.2.2.2.2.2.1 te.2.2.2.2.2.2.2 so.1 so.2.1 so.2.2.1 so.2.2.2 wa.1 wa.2.1 wa.2.2.1 wa.2.2.2 (xs ((6 * kc) + 1)) (snv ml)), (g_X12_pass_se_7 l4.1 md.2.1 md.2.2.1 md.2.2.2 ml.1 ml.2.1 ml.2.2.1 ml.2.2.2.1 ml.2.2.2.2.1 ml.2.2.2.2.2.1 ml.2.2.2.2.2.2.1 ml.2.2.2.2.2.2.2.1 ml.2.2.2.2.2.2.2.2.1 ml.2.2.2.2.2.2.2.2.2.1 ml.2.2.2.2.2.2.2.2.2.2.1 ml.2.2.2.2.2.2.2.2.2.2.2.1 ml.2.2.2.2.2.2.2.2.2.2.2.2 r4 sb.1 sb.2.1 sb.2.2.1 sb.2.2.2.1 sb.2.2.2.2.1 sb.2.2.2.2.2 te.1 te.2.1 te.2.2.1 te.2.2.2.1 te.2.2.2.2.1 te.2.2.2.2.2.1 te.2.2.2.2.2.2.1 te.2.2.2.2.2.2.2 so.1 so.2.1 so.2.2.1 so.2.2.2 wa.1 wa.2.1 wa.2.2.1 wa.2.2.2 (xs ((6 * kc) + 1)) (snv ml))) (sb.1, sb.2.1, sb.2.2.1, sb.2.2.2.1, sb.2.2.2.2.1, (g_X12_pass_sb_5 l4.1 md.2.1 md.2.2.1 md.2.2.2 ml.1 ml.2.1 ml.2.2.1 ml.2.2.2.1 ml.2.2.2.2.1 ml.2.2.2.2.2.1 ml.2.2.2.2.2.2.1 ml.2.2.2.2.2.2.2.1 ml.2.2.2.2.2.2.2.2.1 ml.2.2.2.2.2.2.2.2.2.1 ml.2.2.2.2.2.2.2.2.2.2.1 ml.2.2.2.2.2.2.2.2.2.2.2.1 ml.2.2.2.2.2.2.2.2.2.2.2.2 r4 sb.1 sb.2.1 sb.2.2.1 sb.2.2.2.1 sb.2.2.2.2.1 sb.2.2.2.2.2 te.1 te.2.1 te.2.2.1 te.2.2.2.1 te.2.2.2.2.1 te.2.2.2.2.2.1 te.2.2.2.2.2.2.1 te.2.2.2.2.2.2.2 so.1 so.2.1 so.2.2.1 so.2.2.2 wa.1 wa.2.1 wa.2.2.1 wa.2.2.2 (xs ((6 * kc) + 1)) (snv ml))) (so.1, so.2.1, so.2.2.1, (g_X12_pass_so_3 l4.1 md.2.1 md.2.2.1 md.2.2.2 ml.1 ml.2.1 ml.2.2.1 ml.2.2.2.1 ml.2.2.2.2.1 ml.2.2.2.2.2.1 ml.2.2.2.2.2.2.1 ml.2.2.2.2.2.2.2.1 ml.2.2.2.2.2.2.2.2.1 ml.2.2.2.2.2.2.2.2.2.1 ml.2.2.2.2.2.2.2.2.2.2.1 ml.2.2.2.2.2.2.2.2.2.2.2.1 ml.2.2.2.2.2.2.2.2.2.2.2.2 r4 sb.1 sb.2.1 sb.2.2.1 sb.2.2.2.1 sb.2.2.2.2.1 sb.2.2.2.2.2 te.1 te.2.1 te.2.2.1 te.2.2.2.1 te.2.2.2.2.1 te.2.2.2.2.2.1 te.2.2.2.2.2.2.1 te.2.2.2.2.2.2.2 so.1 so.2.1 so.2.2.1 so.2.2.2 wa.1 wa.2.1 wa.2.2.1 wa.2.2.2 (xs ((6 * kc) + 1)) (snv ml))) ((g_X12_pass_wa_0 l4.1 md.2.1 md.2.2.1 md.2.2.2 ml.1 ml.2.1 ml.2.2.1 ml.2.2.2.1 ml.2.2.2.2.1 ml.2.2.2.2.2.1 ml.2.2.2.2.2.2.1 ml.2.2.2.2.2.2.2.1 ml.2.2.2.2.2.2.2.2.1 ml.2.2.2.2.2.2.2.2.2.1 ml.2.2.2.2.2.2.2.2.2.2.1 ml.2.2.2.2.2.2.2.2.2.2.2.1 ml.2.2.2.2.2.2.2.2.2.2.2.2 r4 sb.1 sb.2.1 sb.2.2.1 sb.2.2.2.1 sb.2.2.2.2.1 sb.2.2.2.2.2 te.1 te.2.1 te.2.2.1 te.2.2.2.1 te.2.2.2.2.1 te.2.2.2.2.2.1 te.2.2.2.2.2.2.1 te.2.2.2.2.2.2.2 so.1 so.2.1 so.2.2.1 so.2.2.2 wa.1 wa.2.1 wa.2.2.1 wa.2.2.2 (xs ((6 * kc) + 1)) (snv ml)), (g_X12_pass_wa_1 l4.1 md.2.1 md.2.2.1 md.2.2.2 ml.1 ml.2.1 ml.2.2.1 ml.2.2.2.1 ml.2.2.2.2.1 ml.2.2.2.2.2.1 ml.2.2.2.2.2.2.1 ml.2.2.2.2.2.2.2.1 ml.2.2.2.2.2.2.2.2.1 ml.2.2.2.2.2.2.2.2.2.1 ml.2.2.2.2.2.2.2.2.2.2.1 ml.2.2.2.2.2.2.2.2.2.2.2.1 ml.2.2.2.2.2.2.2.2.2.2.2.2 r4 sb.1 sb.2.1 sb.2.2.1 sb.2.2.2.1 sb.2.2.2.2.1 sb.2.2.2.2.2 te.1 te.2.1 te.2.2.1 te.2.2.2.1 te.2.2.2.2.1 te.2.2.2.2.2.1 te.2.2.2.2.2.2.1 te.2.2.2.2.2.2.2 so.1 so.2.1 so.2.2.1 so.2.2.2 wa.1 wa.2.1 wa.2.2.1 wa.2.2.2 (xs ((6 * kc) + 1)) (snv ml)), (g_X12_pass_wa_2 l4.1 md.2.1 md.2.2.1 md.2.2.2 ml.1 ml.2.1 ml.2.2.1 ml.2.2.2.1 ml.2.2.2.2.1 ml.2.2.2.2.2.1 ml.2.2.2.2.2.2.1 ml.2.2.2.2.2.2.2.1 ml.2.2.2.2.2.2.2.2.1 ml.2.2.2.2.2.2.2.2.2.1 ml.2.2.2.2.2.2.2.2.2.2.1 ml.2.2.2.2.2.2.2.2.2.2.2.1 ml.2.2.2.2.2.2.2.2.2.2.2.2 r4 sb.1 sb.2.1 sb.2.2.1 sb.2.2.2.1 sb.2.2.2.2.1 sb.2.2.2.2.2 te.1 te.2.1 te.2.2.1 te.2.2.2.1 te.2.2.2.2.1 te.2.2.2.2.2.1 te.2.2.2.2.2.2.1 te.2.2.2.2.2.2.2 so.1 so.2.1 so.2.2.1 so.2.2.2 wa.1 wa.2.1 wa.2.2.1 wa.2.2.2 (xs ((6 * kc) + 1)) (snv ml)), (g_X12_pass_wa_3 l4.1 md.2.1 md.2.2.1 md.2.2.2 ml.1 ml.2.1 ml.2.2.1 ml.2.2.2.1 ml.2.2.2.2.1 ml.2.2.2.2.2.1 ml.2.2.2.2.2.2.1 ml.2.2.2.2.2.2.2.1 ml.2.2.2.2.2.2.2.2.1 ml.2.2.2.2.2.2.2.2.2.1 ml.2.2.2.2.2.2.2.2.2.2.1 ml.2.2.2.2.2.2.2.2.2.2.2.1 ml.2.2.2.2.2.2.2.2.2.2.2.2 r4 sb.1 sb.2.1 sb.2.2.1 sb.2.2.2.1 sb.2.2.2.2.1 sb.2.2.2.2.2 te.1 te.2.1 te.2.2.1 te.2.2.2.1 te.2.2.2.2.1 te.2.2.2.2.2.1 te.2.2.2.2.2.2.1 te.2.2.2.2.2.2.2 so.1 so.2.1 so.2.2.1 so.2.2.2 wa.1 wa.2.1 wa.2.2.1 wa.2.2.2 (xs ((6 * kc) + 1)) (snv ml))) := by
  have w := S.2.2.1.1.1
  have hwo : wo = nI (zch aq aq.1) := S.2.2.1.1.2.2.1
  have hmd : md.2.1 = wo := (M.2.2.2.2.2.2.2.2.2.2.1).trans hwo.symm
  have zq := @zpq wo (xs ((6 * kc) + 1))
  by_cases c : x_X7_pass wo (xs ((6 * kc) + 1)) = (0 : Int32)
  · have cr : r_X12_isWrong (if r_X12_isBetween (xs ((6 * kc) + 1)) (1 : Int32) (24 : Int32) = (0 : Int32) then (1 : Int32) else (if (md.2.1 + (xs ((6 * kc) + 1))) ≤ (999 : Int32) then (0 : Int32) else (2 : Int32))) = (0 : Int32) := by rw [hmd]; exact zq.mp c
    have c' := c
    unfold x_X7_pass at c'
    have c1 : x_X7_checkRange (xs ((6 * kc) + 1)) (1 : Int32) (24 : Int32) = (0 : Int32) := by
      by_cases z : x_X7_checkRange (xs ((6 * kc) + 1)) (1 : Int32) (24 : Int32) = (0 : Int32)
      · exact z
      · rw [if_neg z] at c'; exact absurd c' (by decide)
    rw [if_pos c1] at c'
    have c2 : (wo + (xs ((6 * kc) + 1))) ≤ (999 : Int32) := by
      by_cases z : (wo + (xs ((6 * kc) + 1))) ≤ (999 : Int32)
      · exact z
      · rw [if_neg z] at c'; exact absurd c' (by decide)
    clear c'
    have h24 := zrng1 (k := 24) rfl rfl (by decide) c1
    have hl := zlasth hwo h24 S.2.2.1.1.2.2.2.1 c2
    simp only [g_L_pass_wo_0, g_L_pass_la_0, g_L_pass_la_1, g_L_pass_la_2, g_L_pass_la_3, g_L_pass_la_4, g_L_pass_la_6, g_L_pass_la_11, g_L_pass_la_12, g_L_pass_la_13, g_L_pass_ou_0, g_L_pass_al_0, g_L_pass_al_1, g_L_pass_al_2, g_L_pass_al_3, g_L_pass_al_4, g_L_pass_al_5, g_L_pass_al_6, g_L_pass_al_7, g_L_pass_al_8, g_L_pass_al_9, g_L_pass_al_10, g_L_pass_al_11, g_L_pass_al_12, g_L_pass_al_13, g_L_pass_se_0, g_L_pass_se_2, g_L_pass_se_4, g_L_pass_se_5, g_L_pass_se_6, g_L_pass_se_7, g_L_pass_se_9, g_L_pass_su_0, g_L_pass_su_6, g_L_pass_su_7, g_L_pass_su_8, g_L_pass_su_9, g_L_pass_su_10, g_L_pass_su_11, g_L_pass_su_12, g_L_pass_sc_0, g_L_pass_sc_4, g_X7_pass_wo_0, g_X7_pass_la_0, g_X7_pass_la_1, g_X7_pass_la_2, g_X7_pass_la_3, g_X7_pass_la_4, g_X7_pass_la_6, g_X7_pass_la_11, g_X7_pass_la_12, g_X7_pass_la_13, g_X7_pass_ou_0, g_X7_pass_al_0, g_X7_pass_al_1, g_X7_pass_al_2, g_X7_pass_al_3, g_X7_pass_al_4, g_X7_pass_al_5, g_X7_pass_al_6, g_X7_pass_al_7, g_X7_pass_al_8, g_X7_pass_al_9, g_X7_pass_al_10, g_X7_pass_al_11, g_X7_pass_al_12, g_X7_pass_al_13, g_X7_pass_se_0, g_X7_pass_se_2, g_X7_pass_se_4, g_X7_pass_se_5, g_X7_pass_se_6, g_X7_pass_se_7, g_X7_pass_se_9, g_X7_pass_su_0, g_X7_pass_su_6, g_X7_pass_su_7, g_X7_pass_su_8, g_X7_pass_su_9, g_X7_pass_su_10, g_X7_pass_su_11, g_X7_pass_su_12, g_X7_pass_sc_0, g_X7_pass_sc_4, g_X12_pass_md_1, g_X12_pass_md_2, g_X12_pass_md_3, g_X12_pass_ml_0, g_X12_pass_ml_1, g_X12_pass_ml_3, g_X12_pass_ml_4, g_X12_pass_ml_5, g_X12_pass_ml_10, g_X12_pass_ml_11, g_X12_pass_ml_12, g_X12_pass_se_3, g_X12_pass_se_4, g_X12_pass_se_5, g_X12_pass_se_6, g_X12_pass_se_7, g_X12_pass_sb_5, g_X12_pass_so_3, g_X12_pass_wa_0, g_X12_pass_wa_1, g_X12_pass_wa_2, g_X12_pass_wa_3, if_pos c, if_pos c1, if_pos c2, if_pos cr]
    exact zpassR (l4 := l4) R S.2.2.1.1 M _ h24.2 hl
  · have cr : ¬ r_X12_isWrong (if r_X12_isBetween (xs ((6 * kc) + 1)) (1 : Int32) (24 : Int32) = (0 : Int32) then (1 : Int32) else (if (md.2.1 + (xs ((6 * kc) + 1))) ≤ (999 : Int32) then (0 : Int32) else (2 : Int32))) = (0 : Int32) := by rw [hmd]; exact fun z => c (zq.mpr z)
    simp only [g_L_pass_wo_0, g_L_pass_la_0, g_L_pass_la_1, g_L_pass_la_2, g_L_pass_la_3, g_L_pass_la_4, g_L_pass_la_6, g_L_pass_la_11, g_L_pass_la_12, g_L_pass_la_13, g_L_pass_ou_0, g_L_pass_al_0, g_L_pass_al_1, g_L_pass_al_2, g_L_pass_al_3, g_L_pass_al_4, g_L_pass_al_5, g_L_pass_al_6, g_L_pass_al_7, g_L_pass_al_8, g_L_pass_al_9, g_L_pass_al_10, g_L_pass_al_11, g_L_pass_al_12, g_L_pass_al_13, g_L_pass_se_0, g_L_pass_se_2, g_L_pass_se_4, g_L_pass_se_5, g_L_pass_se_6, g_L_pass_se_7, g_L_pass_se_9, g_L_pass_su_0, g_L_pass_su_6, g_L_pass_su_7, g_L_pass_su_8, g_L_pass_su_9, g_L_pass_su_10, g_L_pass_su_11, g_L_pass_su_12, g_L_pass_sc_0, g_L_pass_sc_4, g_X12_pass_md_1, g_X12_pass_md_2, g_X12_pass_md_3, g_X12_pass_ml_0, g_X12_pass_ml_1, g_X12_pass_ml_3, g_X12_pass_ml_4, g_X12_pass_ml_5, g_X12_pass_ml_10, g_X12_pass_ml_11, g_X12_pass_ml_12, g_X12_pass_se_3, g_X12_pass_se_4, g_X12_pass_se_5, g_X12_pass_se_6, g_X12_pass_se_7, g_X12_pass_sb_5, g_X12_pass_so_3, g_X12_pass_wa_0, g_X12_pass_wa_1, g_X12_pass_wa_2, g_X12_pass_wa_3, if_neg c, if_neg cr]
    exact R
theorem zRl_oa {wo : zWor} {la : zLand} {ou ou' : zOutl} {al al' : zLand} {se : zSens} {su : zSubs} {sc : zScho} {md : zMd} {ml : zMl} {te : zMs} {sb : zMb} {so : zMo} {wa : zMw} {t : Int32} (R : zRl (wo, la, ou, al, se, su, sc) md ml te sb so wa) : zRl (wo, la, ou', al', se, su, sc) (t, md.2.1, md.2.2.1, md.2.2.2) ml te sb so wa := R
theorem zcmp0 {x : Int64} : lg_cmp x x = (0 : Int32) := by
  unfold lg_cmp
  rw [if_neg Int64.lt_irrefl, if_pos rfl]
theorem zupdL {f : Nat → Int64} {i : Nat} {v : Int64} : vp_updL f i v i = v := by
  unfold vp_updL
  rw [if_pos rfl]
end
