/-! which calls are refused: class and reference alike -/
theorem zrm {c : Int32} {n N : Nat} (hc : c = nI n) (hn : n ≤ N) (hN : N < 2 ^ 31) : x_X7_checkRoom c (nI N) = (0 : Int32) ↔ ¬ r_Jx4a65c_size_8abf5 (nI n) = nI N := by
  unfold x_X7_checkRoom r_Jx4a65c_size_8abf5
  rw [hc]
  by_cases h : n < N
  · rw [if_pos ((nI_ltI (by omega) hN).mpr h)]
    exact ⟨fun _ z => by have := (nI_eq (by omega) hN).mp z; omega, fun _ => rfl⟩
  · rw [if_neg (fun z => h ((nI_ltI (by omega) hN).mp z))]
    exact ⟨fun z => absurd z (by decide), fun z => absurd (by rw [show n = N by omega]) z⟩
theorem znm {a c : Int32} {n : Nat} (hc : c = nI n) (hn : n < 2 ^ 31) : x_X7_checkNumber a c = (0 : Int32) ↔ ¬ r_X12_isBetween a (0 : Int32) (nI n - (1 : Int32)) = (0 : Int32) := by
  unfold x_X7_checkNumber
  rw [hc]
  constructor
  · intro h z
    by_cases c1 : a < (0 : Int32)
    · rw [if_pos c1] at h; exact absurd h (by decide)
    · rw [if_neg c1] at h
      by_cases c2 : a < nI n
      · unfold r_X12_isBetween at z
        rw [if_neg c1] at z
        by_cases c3 : nI n - (1 : Int32) < a
        · obtain ⟨j, hj, rfl⟩ := nI_of c1
          have h1 := (nI_ltI hj hn).mp c2
          obtain ⟨k, rfl⟩ : ∃ k, n = k + 1 := ⟨n - 1, by omega⟩
          rw [nI_pred] at c3
          have h2 := (nI_ltI (by omega) hj).mp c3
          omega
        · rw [if_neg c3] at z; exact absurd z (by decide)
      · rw [if_neg c2] at h; exact absurd h (by decide)
  · intro h
    obtain ⟨h1, h2⟩ := zmsz hn h
    have h3 : ¬ a < (0 : Int32) := by rw [h1]; exact nI_pos (by omega)
    rw [if_neg h3]
    have h4 : a < nI n := by rw [h1]; exact (nI_ltI (by omega) hn).mpr h2
    rw [if_pos h4]
/-- a code is no refusal -/
theorem zwr {a : Int32} : r_X12_isWrong a = (0 : Int32) ↔ a ≤ (0 : Int32) := by
  unfold r_X12_isWrong
  by_cases c : a ≤ (0 : Int32)
  · rw [if_pos c]; exact ⟨fun _ => c, fun _ => rfl⟩
  · rw [if_neg c]; exact ⟨fun z => absurd z (by decide), fun z => absurd z c⟩
theorem zatlt {a b : Int32} (h : ¬ r_X12_isCell a b = (0 : Int32)) : (r_X12_at a b).toNatClampNeg < 48 := by
  obtain ⟨j, hj, e⟩ := vp_in_of (zmcell_ix h) (by decide)
  have e : r_X12_at a b = nI j := e
  rw [e, nI_clamp (by omega)]
  exact hj
/-- cell (a, b) by its number -/
theorem zatv {a b : Int32} (h : ¬ r_X12_isCell a b = (0 : Int32)) : zSv (r_X12_at a b) a b := by
  obtain ⟨h1, h2⟩ := zmcell h
  obtain ⟨-, h3, h4⟩ := zmix (k := 7) (n := 8) ⟨by decide, by decide⟩ (zmbet h1)
  obtain ⟨-, h5, h6⟩ := zmix (k := 5) (n := 6) ⟨by decide, by decide⟩ (zmbet h2)
  refine ⟨b.toNatClampNeg * 8 + a.toNatClampNeg, by omega, ?_, ?_, ?_⟩
  · unfold r_X12_at
    rw [h4, h6, show (8 : Int32) = nI 8 from rfl, pk_mul, nI_add, nI_clamp (by omega), nI_clamp (by omega)]
  · rw [show (b.toNatClampNeg * 8 + a.toNatClampNeg) % 8 = a.toNatClampNeg by omega]; exact h4
  · rw [show (b.toNatClampNeg * 8 + a.toNatClampNeg) / 8 = b.toNatClampNeg by omega]; exact h6
/-- a checked number -/
theorem zbw {a : Int32} {l u : Nat} (hu : u < 1000000) (h : ¬ r_X12_isBetween a (nI l) (nI u) = (0 : Int32)) (hl : l ≤ u) : ∃ m, m ≤ u ∧ l ≤ m ∧ a = nI m := by
  obtain ⟨h1, h2⟩ := zmbet h
  have n0 : ¬ a < (0 : Int32) := fun z => absurd (Int32.lt_of_le_of_lt h1 z) (nI_pos (by omega))
  obtain ⟨j, hj, rfl⟩ := nI_of n0
  exact ⟨j, (nI_leI hj (by omega)).mp h2, (nI_leI (by omega) hj).mp h1, rfl⟩
theorem zdir {a b : Int32} (ha : ¬ r_X12_isBetween a (-1 : Int32) (1 : Int32) = (0 : Int32)) (hb : ¬ r_X12_isBetween b (-1 : Int32) (1 : Int32) = (0 : Int32)) : ∃ d, d < 9 ∧ a = ze d ∧ b = zf d := by
  have key : ∀ x : Int32, ¬ r_X12_isBetween x (-1 : Int32) (1 : Int32) = (0 : Int32) → x = (-1 : Int32) ∨ x = (0 : Int32) ∨ x = (1 : Int32) := by
    intro x h
    obtain ⟨h1, h2⟩ := zmbet h
    rw [zle, show (-1 : Int32).toInt = -1 by decide] at h1
    rw [zle, show (1 : Int32).toInt = 1 by decide] at h2
    have e : x.toInt = -1 ∨ x.toInt = 0 ∨ x.toInt = 1 := by omega
    rcases e with e | e | e
    · exact Or.inl (Int32.toInt_inj.mp e)
    · exact Or.inr (Or.inl (Int32.toInt_inj.mp e))
    · exact Or.inr (Or.inr (Int32.toInt_inj.mp e))
  rcases key a ha with rfl | rfl | rfl <;> rcases key b hb with rfl | rfl | rfl
  · exact ⟨0, by decide, rfl, rfl⟩
  · exact ⟨3, by decide, rfl, rfl⟩
  · exact ⟨6, by decide, rfl, rfl⟩
  · exact ⟨1, by decide, rfl, rfl⟩
  · exact ⟨4, by decide, rfl, rfl⟩
  · exact ⟨7, by decide, rfl, rfl⟩
  · exact ⟨2, by decide, rfl, rfl⟩
  · exact ⟨5, by decide, rfl, rfl⟩
  · exact ⟨8, by decide, rfl, rfl⟩
set_option maxHeartbeats 4000000 in
set_option maxRecDepth 100000 in
theorem zq_setFuel (a b f : Int32) : x_X7_setFuel a b f = (0 : Int32) ↔ r_X12_isWrong (if (r_X12_isCell a b) = (0 : Int32) then (1 : Int32) else (if (r_X12_isBetween f (0 : Int32) (99 : Int32)) = (0 : Int32) then (2 : Int32) else (0 : Int32))) = (0 : Int32) := by
  unfold x_X7_setFuel
  by_cases d1 : r_X12_isCell a b = (0 : Int32)
  · rw [if_neg (fun z => ((zcB (a := a) (b := b)).mp z) d1), if_pos d1]
    exact ⟨fun z => absurd z (by decide), fun z => absurd z (by decide)⟩
  rw [if_pos ((zcB (a := a) (b := b)).mpr d1), if_neg d1]
  by_cases d2 : r_X12_isBetween f (0 : Int32) (99 : Int32) = (0 : Int32)
  · rw [if_neg (fun z => ((zrB (a := f) (b := (0 : Int32)) (d := (99 : Int32))).mp z) d2), if_pos d2]
    exact ⟨fun z => absurd z (by decide), fun z => absurd z (by decide)⟩
  rw [if_pos ((zrB (a := f) (b := (0 : Int32)) (d := (99 : Int32))).mpr d2), if_neg d2]
  exact ⟨fun _ => by decide, fun _ => rfl⟩
set_option maxHeartbeats 4000000 in
set_option maxRecDepth 100000 in
theorem zq_light {l0 l3 m0 m5 : Nat → Int32} (h0 : ∀ k, k < 48 → l0 k = m0 k) (h3 : ∀ k, k < 48 → l3 k = m5 k) (a b f : Int32) : x_X7_light l0 l3 a b f = (0 : Int32) ↔ r_X12_isWrong (if (r_X12_isCell a b) = (0 : Int32) then (1 : Int32) else (if (r_X12_isBetween f (1 : Int32) (9 : Int32)) = (0 : Int32) then (2 : Int32) else (if (m0 (r_X12_at a b).toNatClampNeg) = (0 : Int32) then (3 : Int32) else (if (m5 (r_X12_at a b).toNatClampNeg) = (0 : Int32) then (0 : Int32) else (3 : Int32))))) = (0 : Int32) := by
  unfold x_X7_light
  by_cases d1 : r_X12_isCell a b = (0 : Int32)
  · rw [if_neg (fun z => ((zcB (a := a) (b := b)).mp z) d1), if_pos d1]
    exact ⟨fun z => absurd z (by decide), fun z => absurd z (by decide)⟩
  rw [if_pos ((zcB (a := a) (b := b)).mpr d1), if_neg d1]
  by_cases d2 : r_X12_isBetween f (1 : Int32) (9 : Int32) = (0 : Int32)
  · rw [if_neg (fun z => ((zrB (a := f) (b := (1 : Int32)) (d := (9 : Int32))).mp z) d2), if_pos d2]
    exact ⟨fun z => absurd z (by decide), fun z => absurd z (by decide)⟩
  rw [if_pos ((zrB (a := f) (b := (1 : Int32)) (d := (9 : Int32))).mpr d2), if_neg d2]
  by_cases d3 : m0 (r_X12_at a b).toNatClampNeg = (0 : Int32)
  · rw [if_pos (Classical.byContradiction (fun z => (((show ¬ l0 (r_X7_placeOf a b).toNatClampNeg = (0 : Int32) ↔ ¬ m0 (r_X12_at a b).toNatClampNeg = (0 : Int32) from (by rw [zplace_at d1, h0 _ (zatlt d1)]))).mp z) d3)), if_pos d3]
    exact ⟨fun z => absurd z (by decide), fun z => absurd z (by decide)⟩
  rw [if_neg (((show ¬ l0 (r_X7_placeOf a b).toNatClampNeg = (0 : Int32) ↔ ¬ m0 (r_X12_at a b).toNatClampNeg = (0 : Int32) from (by rw [zplace_at d1, h0 _ (zatlt d1)]))).mpr d3), if_neg d3]
  by_cases d4 : ¬ m5 (r_X12_at a b).toNatClampNeg = (0 : Int32)
  · rw [if_neg (fun z => d4 (((show l3 (r_X7_placeOf a b).toNatClampNeg = (0 : Int32) ↔ m5 (r_X12_at a b).toNatClampNeg = (0 : Int32) from (by rw [zplace_at d1, h3 _ (zatlt d1)]))).mp z)), if_neg d4]
    exact ⟨fun z => absurd z (by decide), fun z => absurd z (by decide)⟩
  have d4 := Classical.byContradiction d4
  rw [if_pos (((show l3 (r_X7_placeOf a b).toNatClampNeg = (0 : Int32) ↔ m5 (r_X12_at a b).toNatClampNeg = (0 : Int32) from (by rw [zplace_at d1, h3 _ (zatlt d1)]))).mpr d4), if_pos d4]
  exact ⟨fun _ => by decide, fun _ => rfl⟩
set_option maxHeartbeats 4000000 in
set_option maxRecDepth 100000 in
theorem zq_setWind (a b f : Int32) : x_X7_setWind a b f = (0 : Int32) ↔ r_X12_isWrong (if (if (r_X12_isBetween a (-1 : Int32) (1 : Int32)) = (0 : Int32) then (0 : Int32) else (if (r_X12_isBetween b (-1 : Int32) (1 : Int32)) = (0 : Int32) then (0 : Int32) else (if (r_X12_isBetween f (0 : Int32) (if a = (0 : Int32) then (if b = (0 : Int32) then (0 : Int32) else (4 : Int32)) else (4 : Int32))) = (0 : Int32) then (0 : Int32) else (1 : Int32)))) = (0 : Int32) then (1 : Int32) else (0 : Int32)) = (0 : Int32) := by
  unfold x_X7_setWind
  by_cases d1 : r_X12_isBetween a (-1 : Int32) (1 : Int32) = (0 : Int32)
  · rw [if_neg (fun z => ((zrB (a := a) (b := (-1 : Int32)) (d := (1 : Int32))).mp z) d1), if_pos d1]
    exact ⟨fun z => absurd z (by decide), fun z => absurd z (by decide)⟩
  rw [if_pos ((zrB (a := a) (b := (-1 : Int32)) (d := (1 : Int32))).mpr d1), if_neg d1]
  by_cases d2 : r_X12_isBetween b (-1 : Int32) (1 : Int32) = (0 : Int32)
  · rw [if_neg (fun z => ((zrB (a := b) (b := (-1 : Int32)) (d := (1 : Int32))).mp z) d2), if_pos d2]
    exact ⟨fun z => absurd z (by decide), fun z => absurd z (by decide)⟩
  rw [if_pos ((zrB (a := b) (b := (-1 : Int32)) (d := (1 : Int32))).mpr d2), if_neg d2]
  by_cases d3 : r_X12_isBetween f (0 : Int32) (if a = (0 : Int32) then (if b = (0 : Int32) then (0 : Int32) else (4 : Int32)) else (4 : Int32)) = (0 : Int32)
  · rw [if_neg (fun z => ((zrB (a := f) (b := (0 : Int32)) (d := (if a = (0 : Int32) then (if b = (0 : Int32) then (0 : Int32) else (4 : Int32)) else (4 : Int32)))).mp z) d3), if_pos d3]
    exact ⟨fun z => absurd z (by decide), fun z => absurd z (by decide)⟩
  rw [if_pos ((zrB (a := f) (b := (0 : Int32)) (d := (if a = (0 : Int32) then (if b = (0 : Int32) then (0 : Int32) else (4 : Int32)) else (4 : Int32)))).mpr d3), if_neg d3]
  exact ⟨fun _ => by decide, fun _ => rfl⟩
set_option maxHeartbeats 4000000 in
set_option maxRecDepth 100000 in
theorem zq_digLine {l1 l3 m3 m5 : Nat → Int32} (h1 : ∀ k, k < 48 → l1 k = m3 k) (h3 : ∀ k, k < 48 → l3 k = m5 k) (a b f : Int32) : x_X7_digLine l1 l3 a b f = (0 : Int32) ↔ r_X12_isWrong (if (r_X12_isCell a b) = (0 : Int32) then (1 : Int32) else (if (r_X12_isCrew f) = (0 : Int32) then (2 : Int32) else (if (m5 (r_X12_at a b).toNatClampNeg) = (0 : Int32) then (if (m3 (r_X12_at a b).toNatClampNeg) ≤ (4 : Int32) then (0 : Int32) else (3 : Int32)) else (3 : Int32)))) = (0 : Int32) := by
  unfold x_X7_digLine
  by_cases d1 : r_X12_isCell a b = (0 : Int32)
  · rw [if_neg (fun z => ((zcB (a := a) (b := b)).mp z) d1), if_pos d1]
    exact ⟨fun z => absurd z (by decide), fun z => absurd z (by decide)⟩
  rw [if_pos ((zcB (a := a) (b := b)).mpr d1), if_neg d1]
  by_cases d2 : r_X12_isCrew f = (0 : Int32)
  · rw [if_neg (fun z => (((show x_X7_checkRange f (0 : Int32) (2 : Int32) = (0 : Int32) ↔ ¬ r_X12_isCrew f = (0 : Int32) from zrB)).mp z) d2), if_pos d2]
    exact ⟨fun z => absurd z (by decide), fun z => absurd z (by decide)⟩
  rw [if_pos (((show x_X7_checkRange f (0 : Int32) (2 : Int32) = (0 : Int32) ↔ ¬ r_X12_isCrew f = (0 : Int32) from zrB)).mpr d2), if_neg d2]
  by_cases d3 : ¬ m5 (r_X12_at a b).toNatClampNeg = (0 : Int32)
  · rw [if_neg (fun z => d3 (((show l3 (r_X7_placeOf a b).toNatClampNeg = (0 : Int32) ↔ m5 (r_X12_at a b).toNatClampNeg = (0 : Int32) from (by rw [zplace_at d1, h3 _ (zatlt d1)]))).mp z)), if_neg d3]
    exact ⟨fun z => absurd z (by decide), fun z => absurd z (by decide)⟩
  have d3 := Classical.byContradiction d3
  rw [if_pos (((show l3 (r_X7_placeOf a b).toNatClampNeg = (0 : Int32) ↔ m5 (r_X12_at a b).toNatClampNeg = (0 : Int32) from (by rw [zplace_at d1, h3 _ (zatlt d1)]))).mpr d3), if_pos d3]
  by_cases d4 : ¬ m3 (r_X12_at a b).toNatClampNeg ≤ (4 : Int32)
  · rw [if_neg (fun z => d4 (((show l1 (r_X7_placeOf a b).toNatClampNeg ≤ (4 : Int32) ↔ m3 (r_X12_at a b).toNatClampNeg ≤ (4 : Int32) from (by rw [zplace_at d1, h1 _ (zatlt d1)]))).mp z)), if_neg d4]
    exact ⟨fun z => absurd z (by decide), fun z => absurd z (by decide)⟩
  have d4 := Classical.byContradiction d4
  rw [if_pos (((show l1 (r_X7_placeOf a b).toNatClampNeg ≤ (4 : Int32) ↔ m3 (r_X12_at a b).toNatClampNeg ≤ (4 : Int32) from (by rw [zplace_at d1, h1 _ (zatlt d1)]))).mpr d4), if_pos d4]
  exact ⟨fun _ => by decide, fun _ => rfl⟩
set_option maxHeartbeats 4000000 in
set_option maxRecDepth 100000 in
theorem zq_addSensor {c : Int32} {n : Nat} (hc : c = nI n) (hn : n ≤ 10) (a b : Int32) : x_X7_addSensor c a b = (0 : Int32) ↔ r_X12_isWrong (if (r_X12_isCell a b) = (0 : Int32) then (1 : Int32) else (if (r_Jx4a65c_size_8abf5 (nI n)) = (10 : Int32) then (2 : Int32) else (0 : Int32))) = (0 : Int32) := by
  unfold x_X7_addSensor
  by_cases d1 : r_X12_isCell a b = (0 : Int32)
  · rw [if_neg (fun z => ((zcB (a := a) (b := b)).mp z) d1), if_pos d1]
    exact ⟨fun z => absurd z (by decide), fun z => absurd z (by decide)⟩
  rw [if_pos ((zcB (a := a) (b := b)).mpr d1), if_neg d1]
  by_cases d2 : r_Jx4a65c_size_8abf5 (nI n) = (10 : Int32)
  · rw [if_neg (fun z => (((show x_X7_checkRoom c (10 : Int32) = (0 : Int32) ↔ ¬ r_Jx4a65c_size_8abf5 (nI n) = (10 : Int32) from zrm (N := 10) hc hn (by decide))).mp z) d2), if_pos d2]
    exact ⟨fun z => absurd z (by decide), fun z => absurd z (by decide)⟩
  rw [if_pos (((show x_X7_checkRoom c (10 : Int32) = (0 : Int32) ↔ ¬ r_Jx4a65c_size_8abf5 (nI n) = (10 : Int32) from zrm (N := 10) hc hn (by decide))).mpr d2), if_neg d2]
  exact ⟨fun _ => by decide, fun _ => rfl⟩
set_option maxHeartbeats 4000000 in
set_option maxRecDepth 100000 in
theorem zq_read {c : Int32} {n : Nat} (hc : c = nI n) (hn : n ≤ 10) (a b : Int32) : x_X7_read c a b = (0 : Int32) ↔ r_X12_isWrong (if (r_X12_isSensor n a) = (0 : Int32) then (1 : Int32) else (if (r_X12_isBetween b (0 : Int32) (9999 : Int32)) = (0 : Int32) then (2 : Int32) else (0 : Int32))) = (0 : Int32) := by
  unfold x_X7_read
  by_cases d1 : r_X12_isSensor n a = (0 : Int32)
  · rw [if_neg (fun z => (((show x_X7_checkNumber a c = (0 : Int32) ↔ ¬ r_X12_isSensor n a = (0 : Int32) from znm hc (by omega))).mp z) d1), if_pos d1]
    exact ⟨fun z => absurd z (by decide), fun z => absurd z (by decide)⟩
  rw [if_pos (((show x_X7_checkNumber a c = (0 : Int32) ↔ ¬ r_X12_isSensor n a = (0 : Int32) from znm hc (by omega))).mpr d1), if_neg d1]
  by_cases d2 : r_X12_isBetween b (0 : Int32) (9999 : Int32) = (0 : Int32)
  · rw [if_neg (fun z => ((zrB (a := b) (b := (0 : Int32)) (d := (9999 : Int32))).mp z) d2), if_pos d2]
    exact ⟨fun z => absurd z (by decide), fun z => absurd z (by decide)⟩
  rw [if_pos ((zrB (a := b) (b := (0 : Int32)) (d := (9999 : Int32))).mpr d2), if_neg d2]
  exact ⟨fun _ => by decide, fun _ => rfl⟩
set_option maxHeartbeats 4000000 in
set_option maxRecDepth 100000 in
theorem zq_subscribe {c : Int32} {n : Nat} (hc : c = nI n) (hn : n ≤ 12) (a b f g k1 : Int32) : x_X7_subscribe c a b f g k1 = (0 : Int32) ↔ r_X12_isWrong (if (r_X12_isCell a b) = (0 : Int32) then (1 : Int32) else (if (if (r_X12_isBetween f (20 : Int32) (9999 : Int32)) = (0 : Int32) then (0 : Int32) else (if (r_X12_isBetween g (0 : Int32) (23 : Int32)) = (0 : Int32) then (0 : Int32) else (if (r_X12_isBetween k1 (0 : Int32) (23 : Int32)) = (0 : Int32) then (0 : Int32) else (1 : Int32)))) = (0 : Int32) then (2 : Int32) else (if (r_Jx4a65c_size_8abf5 (nI n)) = (12 : Int32) then (3 : Int32) else (0 : Int32)))) = (0 : Int32) := by
  unfold x_X7_subscribe
  by_cases d1 : r_X12_isCell a b = (0 : Int32)
  · rw [if_neg (fun z => ((zcB (a := a) (b := b)).mp z) d1), if_pos d1]
    exact ⟨fun z => absurd z (by decide), fun z => absurd z (by decide)⟩
  rw [if_pos ((zcB (a := a) (b := b)).mpr d1), if_neg d1]
  by_cases d2 : r_X12_isBetween f (20 : Int32) (9999 : Int32) = (0 : Int32)
  · rw [if_neg (fun z => ((zrB (a := f) (b := (20 : Int32)) (d := (9999 : Int32))).mp z) d2), if_pos d2, if_pos (rfl : (0 : Int32) = (0 : Int32))]
    exact ⟨fun z => absurd z (by decide), fun z => absurd z (by decide)⟩
  rw [if_pos ((zrB (a := f) (b := (20 : Int32)) (d := (9999 : Int32))).mpr d2), if_neg d2]
  by_cases d3 : r_X12_isBetween g (0 : Int32) (23 : Int32) = (0 : Int32)
  · rw [if_neg (fun z => ((zrB (a := g) (b := (0 : Int32)) (d := (23 : Int32))).mp z) d3), if_pos d3, if_pos (rfl : (0 : Int32) = (0 : Int32))]
    exact ⟨fun z => absurd z (by decide), fun z => absurd z (by decide)⟩
  rw [if_pos ((zrB (a := g) (b := (0 : Int32)) (d := (23 : Int32))).mpr d3), if_neg d3]
  by_cases d4 : r_X12_isBetween k1 (0 : Int32) (23 : Int32) = (0 : Int32)
  · rw [if_neg (fun z => ((zrB (a := k1) (b := (0 : Int32)) (d := (23 : Int32))).mp z) d4), if_pos d4, if_pos (rfl : (0 : Int32) = (0 : Int32))]
    exact ⟨fun z => absurd z (by decide), fun z => absurd z (by decide)⟩
  rw [if_pos ((zrB (a := k1) (b := (0 : Int32)) (d := (23 : Int32))).mpr d4), if_neg d4, if_neg (by decide : ¬ (1 : Int32) = (0 : Int32))]
  by_cases d5 : r_Jx4a65c_size_8abf5 (nI n) = (12 : Int32)
  · rw [if_neg (fun z => (((show x_X7_checkRoom c (12 : Int32) = (0 : Int32) ↔ ¬ r_Jx4a65c_size_8abf5 (nI n) = (12 : Int32) from zrm (N := 12) hc hn (by decide))).mp z) d5), if_pos d5]
    exact ⟨fun z => absurd z (by decide), fun z => absurd z (by decide)⟩
  rw [if_pos (((show x_X7_checkRoom c (12 : Int32) = (0 : Int32) ↔ ¬ r_Jx4a65c_size_8abf5 (nI n) = (12 : Int32) from zrm (N := 12) hc hn (by decide))).mpr d5), if_neg d5]
  exact ⟨fun _ => by decide, fun _ => rfl⟩
set_option maxHeartbeats 4000000 in
set_option maxRecDepth 100000 in
theorem zq_addSchool {c : Int32} {n : Nat} (hc : c = nI n) (hn : n ≤ 6) (a b f : Int32) : x_X7_addSchool c a b f = (0 : Int32) ↔ r_X12_isWrong (if (r_X12_isCell a b) = (0 : Int32) then (1 : Int32) else (if (r_X12_isBetween f (20 : Int32) (9999 : Int32)) = (0 : Int32) then (2 : Int32) else (if (r_Jx4a65c_size_8abf5 (nI n)) = (6 : Int32) then (3 : Int32) else (0 : Int32)))) = (0 : Int32) := by
  unfold x_X7_addSchool
  by_cases d1 : r_X12_isCell a b = (0 : Int32)
  · rw [if_neg (fun z => ((zcB (a := a) (b := b)).mp z) d1), if_pos d1]
    exact ⟨fun z => absurd z (by decide), fun z => absurd z (by decide)⟩
  rw [if_pos ((zcB (a := a) (b := b)).mpr d1), if_neg d1]
  by_cases d2 : r_X12_isBetween f (20 : Int32) (9999 : Int32) = (0 : Int32)
  · rw [if_neg (fun z => ((zrB (a := f) (b := (20 : Int32)) (d := (9999 : Int32))).mp z) d2), if_pos d2]
    exact ⟨fun z => absurd z (by decide), fun z => absurd z (by decide)⟩
  rw [if_pos ((zrB (a := f) (b := (20 : Int32)) (d := (9999 : Int32))).mpr d2), if_neg d2]
  by_cases d3 : r_Jx4a65c_size_8abf5 (nI n) = (6 : Int32)
  · rw [if_neg (fun z => (((show x_X7_checkRoom c (6 : Int32) = (0 : Int32) ↔ ¬ r_Jx4a65c_size_8abf5 (nI n) = (6 : Int32) from zrm (N := 6) hc hn (by decide))).mp z) d3), if_pos d3]
    exact ⟨fun z => absurd z (by decide), fun z => absurd z (by decide)⟩
  rw [if_pos (((show x_X7_checkRoom c (6 : Int32) = (0 : Int32) ↔ ¬ r_Jx4a65c_size_8abf5 (nI n) = (6 : Int32) from zrm (N := 6) hc hn (by decide))).mpr d3), if_neg d3]
  exact ⟨fun _ => by decide, fun _ => rfl⟩
set_option maxHeartbeats 4000000 in
set_option maxRecDepth 100000 in
theorem zq_setRain (a : Int32) : x_X7_setRain a = (0 : Int32) ↔ r_X12_isWrong (if (r_X12_isBetween a (0 : Int32) (9 : Int32)) = (0 : Int32) then (1 : Int32) else (0 : Int32)) = (0 : Int32) := by
  unfold x_X7_setRain
  by_cases d1 : r_X12_isBetween a (0 : Int32) (9 : Int32) = (0 : Int32)
  · rw [if_neg (fun z => ((zrB (a := a) (b := (0 : Int32)) (d := (9 : Int32))).mp z) d1), if_pos d1]
    exact ⟨fun z => absurd z (by decide), fun z => absurd z (by decide)⟩
  rw [if_pos ((zrB (a := a) (b := (0 : Int32)) (d := (9 : Int32))).mpr d1), if_neg d1]
  exact ⟨fun _ => by decide, fun _ => rfl⟩
set_option maxHeartbeats 4000000 in
set_option maxRecDepth 100000 in
theorem zr_setFuel {aq : zAcs} {r : Nat} {kc : Nat} {wo : zWor} {la : zLand} {ou : zOutl} {al : zLand} {se : zSens} {su : zSubs} {sc : zScho} {rv : zWv} {md : zMd} {ml : zMl} {te : zMs} {sb : zMb} {so : zMo} {wa : zMw} {r1 : Nat} {r2 : Nat} {r3 : Nat} {r4 : Nat} {xs : Nat → Int32} (S : zCl aq r (wo, la, ou, al, se, su, sc) rv) (M : zSm (zch aq aq.1) md ml te sb so wa r1 r2 r3 r4) (R : zRl (wo, la, ou, al, se, su, sc) md ml te sb so wa) : zRl (wo, ((g_L_setFuel_la_0 la.1 (xs ((6 * kc) + 1)) (xs ((6 * kc) + 2)) (xs ((6 * kc) + 3))), la.2.1, la.2.2.1, la.2.2.2.1, la.2.2.2.2.1, la.2.2.2.2.2.1, la.2.2.2.2.2.2.1, la.2.2.2.2.2.2.2.1, la.2.2.2.2.2.2.2.2.1, la.2.2.2.2.2.2.2.2.2.1, la.2.2.2.2.2.2.2.2.2.2.1, la.2.2.2.2.2.2.2.2.2.2.2.1, la.2.2.2.2.2.2.2.2.2.2.2.2.1, la.2.2.2.2.2.2.2.2.2.2.2.2.2), ou, al, se, su, sc) ((g_X12_setFuel_md_0 (xs ((6 * kc) + 1)) (xs ((6 * kc) + 2)) (xs ((6 * kc) + 3))), md.2.1, md.2.2.1, md.2.2.2) ((g_X12_setFuel_ml_0 ml.1 (xs ((6 * kc) + 1)) (xs ((6 * kc) + 2)) (xs ((6 * kc) + 3))), ml.2.1, ml.2.2.1, ml.2.2.2.1, ml.2.2.2.2.1, ml.2.2.2.2.2.1, ml.2.2.2.2.2.2.1, ml.2.2.2.2.2.2.2.1, ml.2.2.2.2.2.2.2.2.1, ml.2.2.2.2.2.2.2.2.2.1, ml.2.2.2.2.2.2.2.2.2.2.1, ml.2.2.2.2.2.2.2.2.2.2.2.1, ml.2.2.2.2.2.2.2.2.2.2.2.2) te sb so wa := by
  have w := S.2.2.1.1.1
  have zq := (zq_setFuel (xs ((6 * kc) + 1)) (xs ((6 * kc) + 2)) (xs ((6 * kc) + 3)))
  by_cases c : x_X7_setFuel (xs ((6 * kc) + 1)) (xs ((6 * kc) + 2)) (xs ((6 * kc) + 3)) = (0 : Int32)
  · have cr : (r_X12_isWrong (if (r_X12_isCell (xs ((6 * kc) + 1)) (xs ((6 * kc) + 2))) = (0 : Int32) then (1 : Int32) else (if (r_X12_isBetween (xs ((6 * kc) + 3)) (0 : Int32) (99 : Int32)) = (0 : Int32) then (2 : Int32) else (0 : Int32)))) = (0 : Int32) := zq.mp c
    have c' := c
    unfold x_X7_setFuel at c'
    have c1 : (x_X7_placeOf (xs ((6 * kc) + 1)) (xs ((6 * kc) + 2))) = (0 : Int32) := by
      by_cases z : (x_X7_placeOf (xs ((6 * kc) + 1)) (xs ((6 * kc) + 2))) = (0 : Int32)
      · exact z
      · rw [if_neg z] at c'; exact absurd c' (by decide)
    rw [if_pos c1] at c'
    have c2 : (x_X7_checkRange (xs ((6 * kc) + 3)) (0 : Int32) (99 : Int32)) = (0 : Int32) := by
      by_cases z : (x_X7_checkRange (xs ((6 * kc) + 3)) (0 : Int32) (99 : Int32)) = (0 : Int32)
      · exact z
      · rw [if_neg z] at c'; exact absurd c' (by decide)
    rw [if_pos c2] at c'
    clear c'
    simp only [g_L_setFuel_la_0, g_X7_setFuel_la_0, g_X12_setFuel_ml_0, if_pos c, if_pos cr, if_pos c1, if_pos c2]
    obtain ⟨⟨L, W, s1, s2, s3, SB⟩, s4, s5, hs, hu, hw, hc⟩ := R
    obtain ⟨q1, q2, q3, q4, q5, q6, q7, q8, q9⟩ := L
    have dc : ¬ r_X12_isCell (xs ((6 * kc) + 1)) (xs ((6 * kc) + 2)) = (0 : Int32) := zcB.mp c1
    rw [zplace_at dc]
    obtain ⟨m, hm, -, em⟩ := zbw (l := 0) (u := 99) (by decide) (zrB.mp c2) (by decide)
    exact ⟨⟨⟨zEq_u q1 rfl, q2, q3, q4, q5, q6, zBd_u q7 hm em, q8, q9⟩, W, s1, s2, s3, SB⟩, s4, s5, hs, hu, hw, hc⟩
  · have cr : ¬ ((r_X12_isWrong (if (r_X12_isCell (xs ((6 * kc) + 1)) (xs ((6 * kc) + 2))) = (0 : Int32) then (1 : Int32) else (if (r_X12_isBetween (xs ((6 * kc) + 3)) (0 : Int32) (99 : Int32)) = (0 : Int32) then (2 : Int32) else (0 : Int32)))) = (0 : Int32)) := fun z => c (zq.mpr z)
    simp only [g_L_setFuel_la_0, g_X12_setFuel_ml_0, if_neg c, if_neg cr]
    exact R
set_option maxHeartbeats 4000000 in
set_option maxRecDepth 100000 in
theorem zr_light {aq : zAcs} {r : Nat} {kc : Nat} {wo : zWor} {la : zLand} {ou : zOutl} {al : zLand} {se : zSens} {su : zSubs} {sc : zScho} {rv : zWv} {md : zMd} {ml : zMl} {te : zMs} {sb : zMb} {so : zMo} {wa : zMw} {r1 : Nat} {r2 : Nat} {r3 : Nat} {r4 : Nat} {xs : Nat → Int32} (S : zCl aq r (wo, la, ou, al, se, su, sc) rv) (M : zSm (zch aq aq.1) md ml te sb so wa r1 r2 r3 r4) (R : zRl (wo, la, ou, al, se, su, sc) md ml te sb so wa) : zRl (wo, (la.1, (g_L_light_la_1 la.1 la.2.1 la.2.2.2.1 (xs ((6 * kc) + 1)) (xs ((6 * kc) + 2)) (xs ((6 * kc) + 3))), la.2.2.1, la.2.2.2.1, la.2.2.2.2.1, la.2.2.2.2.2.1, la.2.2.2.2.2.2.1, la.2.2.2.2.2.2.2.1, la.2.2.2.2.2.2.2.2.1, la.2.2.2.2.2.2.2.2.2.1, la.2.2.2.2.2.2.2.2.2.2.1, la.2.2.2.2.2.2.2.2.2.2.2.1, la.2.2.2.2.2.2.2.2.2.2.2.2.1, la.2.2.2.2.2.2.2.2.2.2.2.2.2), ou, al, se, su, sc) ((g_X12_light_md_0 ml.1 ml.2.2.2.2.2.1 (xs ((6 * kc) + 1)) (xs ((6 * kc) + 2)) (xs ((6 * kc) + 3))), md.2.1, md.2.2.1, md.2.2.2) (ml.1, ml.2.1, ml.2.2.1, (g_X12_light_ml_3 ml.1 ml.2.2.2.1 ml.2.2.2.2.2.1 (xs ((6 * kc) + 1)) (xs ((6 * kc) + 2)) (xs ((6 * kc) + 3))), ml.2.2.2.2.1, ml.2.2.2.2.2.1, ml.2.2.2.2.2.2.1, ml.2.2.2.2.2.2.2.1, ml.2.2.2.2.2.2.2.2.1, ml.2.2.2.2.2.2.2.2.2.1, ml.2.2.2.2.2.2.2.2.2.2.1, ml.2.2.2.2.2.2.2.2.2.2.2.1, ml.2.2.2.2.2.2.2.2.2.2.2.2) te sb so wa := by
  have w := S.2.2.1.1.1
  have zq := (zq_light R.1.1.1 R.1.1.2.2.2.1 (xs ((6 * kc) + 1)) (xs ((6 * kc) + 2)) (xs ((6 * kc) + 3)))
  by_cases c : x_X7_light la.1 la.2.2.2.1 (xs ((6 * kc) + 1)) (xs ((6 * kc) + 2)) (xs ((6 * kc) + 3)) = (0 : Int32)
  · have cr : (r_X12_isWrong (if (r_X12_isCell (xs ((6 * kc) + 1)) (xs ((6 * kc) + 2))) = (0 : Int32) then (1 : Int32) else (if (r_X12_isBetween (xs ((6 * kc) + 3)) (1 : Int32) (9 : Int32)) = (0 : Int32) then (2 : Int32) else (if (ml.1 (r_X12_at (xs ((6 * kc) + 1)) (xs ((6 * kc) + 2))).toNatClampNeg) = (0 : Int32) then (3 : Int32) else (if (ml.2.2.2.2.2.1 (r_X12_at (xs ((6 * kc) + 1)) (xs ((6 * kc) + 2))).toNatClampNeg) = (0 : Int32) then (0 : Int32) else (3 : Int32)))))) = (0 : Int32) := zq.mp c
    have c' := c
    unfold x_X7_light at c'
    have c1 : (x_X7_placeOf (xs ((6 * kc) + 1)) (xs ((6 * kc) + 2))) = (0 : Int32) := by
      by_cases z : (x_X7_placeOf (xs ((6 * kc) + 1)) (xs ((6 * kc) + 2))) = (0 : Int32)
      · exact z
      · rw [if_neg z] at c'; exact absurd c' (by decide)
    rw [if_pos c1] at c'
    have c2 : (x_X7_checkRange (xs ((6 * kc) + 3)) (1 : Int32) (9 : Int32)) = (0 : Int32) := by
      by_cases z : (x_X7_checkRange (xs ((6 * kc) + 3)) (1 : Int32) (9 : Int32)) = (0 : Int32)
      · exact z
      · rw [if_neg z] at c'; exact absurd c' (by decide)
    rw [if_pos c2] at c'
    have c3 : ¬ ((la.1 (r_X7_placeOf (xs ((6 * kc) + 1)) (xs ((6 * kc) + 2))).toNatClampNeg) = (0 : Int32)) := by
      by_cases z : (la.1 (r_X7_placeOf (xs ((6 * kc) + 1)) (xs ((6 * kc) + 2))).toNatClampNeg) = (0 : Int32)
      · rw [if_pos z] at c'; exact absurd c' (by decide)
      · exact z
    rw [if_neg c3] at c'
    have c4 : (la.2.2.2.1 (r_X7_placeOf (xs ((6 * kc) + 1)) (xs ((6 * kc) + 2))).toNatClampNeg) = (0 : Int32) := by
      by_cases z : (la.2.2.2.1 (r_X7_placeOf (xs ((6 * kc) + 1)) (xs ((6 * kc) + 2))).toNatClampNeg) = (0 : Int32)
      · exact z
      · rw [if_neg z] at c'; exact absurd c' (by decide)
    rw [if_pos c4] at c'
    clear c'
    simp only [g_L_light_la_1, g_X7_light_la_1, g_X12_light_ml_3, if_pos c, if_pos cr, if_pos c1, if_pos c2, if_neg c3, if_pos c4]
    obtain ⟨⟨L, W, s1, s2, s3, SB⟩, s4, s5, hs, hu, hw, hc⟩ := R
    obtain ⟨q1, q2, q3, q4, q5, q6, q7, q8, q9⟩ := L
    have dc : ¬ r_X12_isCell (xs ((6 * kc) + 1)) (xs ((6 * kc) + 2)) = (0 : Int32) := zcB.mp c1
    rw [zplace_at dc]
    obtain ⟨m, hm, -, em⟩ := zbw (l := 1) (u := 9) (by decide) (zrB.mp c2) (by decide)
    have e := q2 _ (zatlt dc)
    have y : zEq 48 (if (xs ((6 * kc) + 3)) ≤ la.2.1 (r_X12_at (xs ((6 * kc) + 1)) (xs ((6 * kc) + 2))).toNatClampNeg then la.2.1 else upd la.2.1 (r_X12_at (xs ((6 * kc) + 1)) (xs ((6 * kc) + 2))).toNatClampNeg (xs ((6 * kc) + 3))) (if (if (xs ((6 * kc) + 3)) ≤ (ml.2.2.2.1 (r_X12_at (xs ((6 * kc) + 1)) (xs ((6 * kc) + 2))).toNatClampNeg) then (0 : Int32) else (1 : Int32)) = (0 : Int32) then ml.2.2.2.1 else (upd ml.2.2.2.1 (r_X12_at (xs ((6 * kc) + 1)) (xs ((6 * kc) + 2))).toNatClampNeg (xs ((6 * kc) + 3)))) ∧ zBd 48 9 (if (xs ((6 * kc) + 3)) ≤ la.2.1 (r_X12_at (xs ((6 * kc) + 1)) (xs ((6 * kc) + 2))).toNatClampNeg then la.2.1 else upd la.2.1 (r_X12_at (xs ((6 * kc) + 1)) (xs ((6 * kc) + 2))).toNatClampNeg (xs ((6 * kc) + 3))) := by
      rw [← e]
      by_cases z : (xs ((6 * kc) + 3)) ≤ la.2.1 (r_X12_at (xs ((6 * kc) + 1)) (xs ((6 * kc) + 2))).toNatClampNeg
      · rw [if_pos z, if_pos z, if_pos rfl]; exact ⟨q2, q8⟩
      · rw [if_neg z, if_neg z, if_neg (by decide)]; exact ⟨zEq_u q2 rfl, zBd_u q8 hm em⟩
    exact ⟨⟨⟨q1, y.1, q3, q4, q5, q6, q7, y.2, q9⟩, W, s1, s2, s3, SB⟩, s4, s5, hs, hu, hw, hc⟩
  · have cr : ¬ ((r_X12_isWrong (if (r_X12_isCell (xs ((6 * kc) + 1)) (xs ((6 * kc) + 2))) = (0 : Int32) then (1 : Int32) else (if (r_X12_isBetween (xs ((6 * kc) + 3)) (1 : Int32) (9 : Int32)) = (0 : Int32) then (2 : Int32) else (if (ml.1 (r_X12_at (xs ((6 * kc) + 1)) (xs ((6 * kc) + 2))).toNatClampNeg) = (0 : Int32) then (3 : Int32) else (if (ml.2.2.2.2.2.1 (r_X12_at (xs ((6 * kc) + 1)) (xs ((6 * kc) + 2))).toNatClampNeg) = (0 : Int32) then (0 : Int32) else (3 : Int32)))))) = (0 : Int32)) := fun z => c (zq.mpr z)
    simp only [g_L_light_la_1, g_X12_light_ml_3, if_neg c, if_neg cr]
    exact R
set_option maxHeartbeats 4000000 in
set_option maxRecDepth 100000 in
theorem zr_setWind {aq : zAcs} {r : Nat} {kc : Nat} {wo : zWor} {la : zLand} {ou : zOutl} {al : zLand} {se : zSens} {su : zSubs} {sc : zScho} {rv : zWv} {md : zMd} {ml : zMl} {te : zMs} {sb : zMb} {so : zMo} {wa : zMw} {r1 : Nat} {r2 : Nat} {r3 : Nat} {r4 : Nat} {xs : Nat → Int32} (S : zCl aq r (wo, la, ou, al, se, su, sc) rv) (M : zSm (zch aq aq.1) md ml te sb so wa r1 r2 r3 r4) (R : zRl (wo, la, ou, al, se, su, sc) md ml te sb so wa) : zRl (wo, (la.1, la.2.1, la.2.2.1, la.2.2.2.1, la.2.2.2.2.1, la.2.2.2.2.2.1, la.2.2.2.2.2.2.1, (g_L_setWind_la_7 la.2.2.2.2.2.2.2.1 (xs ((6 * kc) + 1)) (xs ((6 * kc) + 2)) (xs ((6 * kc) + 3))), (g_L_setWind_la_8 la.2.2.2.2.2.2.2.2.1 (xs ((6 * kc) + 1)) (xs ((6 * kc) + 2)) (xs ((6 * kc) + 3))), (g_L_setWind_la_9 la.2.2.2.2.2.2.2.2.2.1 (xs ((6 * kc) + 1)) (xs ((6 * kc) + 2)) (xs ((6 * kc) + 3))), la.2.2.2.2.2.2.2.2.2.2.1, la.2.2.2.2.2.2.2.2.2.2.2.1, la.2.2.2.2.2.2.2.2.2.2.2.2.1, la.2.2.2.2.2.2.2.2.2.2.2.2.2), ou, al, se, su, sc) ((g_X12_setWind_md_0 (xs ((6 * kc) + 1)) (xs ((6 * kc) + 2)) (xs ((6 * kc) + 3))), md.2.1, md.2.2.1, md.2.2.2) (ml.1, ml.2.1, ml.2.2.1, ml.2.2.2.1, ml.2.2.2.2.1, ml.2.2.2.2.2.1, (g_X12_setWind_ml_6 ml.2.2.2.2.2.2.1 (xs ((6 * kc) + 1)) (xs ((6 * kc) + 2)) (xs ((6 * kc) + 3))), (g_X12_setWind_ml_7 ml.2.2.2.2.2.2.2.1 (xs ((6 * kc) + 1)) (xs ((6 * kc) + 2)) (xs ((6 * kc) + 3))), (g_X12_setWind_ml_8 ml.2.2.2.2.2.2.2.2.1 (xs ((6 * kc) + 1)) (xs ((6 * kc) + 2)) (xs ((6 * kc) + 3))), ml.2.2.2.2.2.2.2.2.2.1, ml.2.2.2.2.2.2.2.2.2.2.1, ml.2.2.2.2.2.2.2.2.2.2.2.1, ml.2.2.2.2.2.2.2.2.2.2.2.2) te sb so wa := by
  have w := S.2.2.1.1.1
  have zq := (zq_setWind (xs ((6 * kc) + 1)) (xs ((6 * kc) + 2)) (xs ((6 * kc) + 3)))
  by_cases c : x_X7_setWind (xs ((6 * kc) + 1)) (xs ((6 * kc) + 2)) (xs ((6 * kc) + 3)) = (0 : Int32)
  · have cr : (r_X12_isWrong (if (if (r_X12_isBetween (xs ((6 * kc) + 1)) (-1 : Int32) (1 : Int32)) = (0 : Int32) then (0 : Int32) else (if (r_X12_isBetween (xs ((6 * kc) + 2)) (-1 : Int32) (1 : Int32)) = (0 : Int32) then (0 : Int32) else (if (r_X12_isBetween (xs ((6 * kc) + 3)) (0 : Int32) (if (xs ((6 * kc) + 1)) = (0 : Int32) then (if (xs ((6 * kc) + 2)) = (0 : Int32) then (0 : Int32) else (4 : Int32)) else (4 : Int32))) = (0 : Int32) then (0 : Int32) else (1 : Int32)))) = (0 : Int32) then (1 : Int32) else (0 : Int32))) = (0 : Int32) := zq.mp c
    have c' := c
    unfold x_X7_setWind at c'
    have c1 : (x_X7_checkRange (xs ((6 * kc) + 1)) (-1 : Int32) (1 : Int32)) = (0 : Int32) := by
      by_cases z : (x_X7_checkRange (xs ((6 * kc) + 1)) (-1 : Int32) (1 : Int32)) = (0 : Int32)
      · exact z
      · rw [if_neg z] at c'; exact absurd c' (by decide)
    rw [if_pos c1] at c'
    have c2 : (x_X7_checkRange (xs ((6 * kc) + 2)) (-1 : Int32) (1 : Int32)) = (0 : Int32) := by
      by_cases z : (x_X7_checkRange (xs ((6 * kc) + 2)) (-1 : Int32) (1 : Int32)) = (0 : Int32)
      · exact z
      · rw [if_neg z] at c'; exact absurd c' (by decide)
    rw [if_pos c2] at c'
    have c3 : (x_X7_checkRange (xs ((6 * kc) + 3)) (0 : Int32) (if (xs ((6 * kc) + 1)) = (0 : Int32) then (if (xs ((6 * kc) + 2)) = (0 : Int32) then (0 : Int32) else (4 : Int32)) else (4 : Int32))) = (0 : Int32) := by
      by_cases z : (x_X7_checkRange (xs ((6 * kc) + 3)) (0 : Int32) (if (xs ((6 * kc) + 1)) = (0 : Int32) then (if (xs ((6 * kc) + 2)) = (0 : Int32) then (0 : Int32) else (4 : Int32)) else (4 : Int32))) = (0 : Int32)
      · exact z
      · rw [if_neg z] at c'; exact absurd c' (by decide)
    rw [if_pos c3] at c'
    clear c'
    simp only [g_L_setWind_la_7, g_L_setWind_la_8, g_L_setWind_la_9, g_X7_setWind_la_7, g_X7_setWind_la_8, g_X7_setWind_la_9, g_X12_setWind_ml_6, g_X12_setWind_ml_7, g_X12_setWind_ml_8, if_pos c, if_pos cr, if_pos c1, if_pos c2, if_pos c3]
    obtain ⟨⟨L, W, s1, s2, s3, SB⟩, s4, s5, hs, hu, hw, hc⟩ := R
    have w1 : ∃ m, m ≤ 4 ∧ (xs ((6 * kc) + 3)) = nI m := ⟨_, (zwind c3).2, (zwind c3).1⟩
    have wr : zRwi (xs ((6 * kc) + 1)) (xs ((6 * kc) + 2)) (xs ((6 * kc) + 3)) la.2.2.2.2.2.2.2.2.2.2.1 (xs ((6 * kc) + 1)) (xs ((6 * kc) + 2)) (xs ((6 * kc) + 3)) ml.2.2.2.2.2.2.2.2.2.1 := by
      obtain ⟨dw, wd, ra, -, -, -, hr, -, -, -, e10, -, -, -, m9⟩ := W
      obtain ⟨dw', hd, h7, h8⟩ := zdir (zrB.mp c1) (zrB.mp c2)
      obtain ⟨m, hm, em⟩ := w1
      refine ⟨dw', m, ra, hd, hm, fun z y => ?_, hr, h7, h8, em, e10, rfl, rfl, rfl, m9⟩
      subst y
      have g1 : (xs ((6 * kc) + 1)) = (0 : Int32) := h7
      have g2 : (xs ((6 * kc) + 2)) = (0 : Int32) := h8
      have g3 := (zmbet (zrB.mp c3)).2
      rw [if_pos g1, if_pos g2, em] at g3
      exact absurd g3 (nI_nle z (by omega))
    exact ⟨⟨L, wr, s1, s2, s3, SB⟩, s4, s5, hs, hu, hw, hc⟩
  · have cr : ¬ ((r_X12_isWrong (if (if (r_X12_isBetween (xs ((6 * kc) + 1)) (-1 : Int32) (1 : Int32)) = (0 : Int32) then (0 : Int32) else (if (r_X12_isBetween (xs ((6 * kc) + 2)) (-1 : Int32) (1 : Int32)) = (0 : Int32) then (0 : Int32) else (if (r_X12_isBetween (xs ((6 * kc) + 3)) (0 : Int32) (if (xs ((6 * kc) + 1)) = (0 : Int32) then (if (xs ((6 * kc) + 2)) = (0 : Int32) then (0 : Int32) else (4 : Int32)) else (4 : Int32))) = (0 : Int32) then (0 : Int32) else (1 : Int32)))) = (0 : Int32) then (1 : Int32) else (0 : Int32))) = (0 : Int32)) := fun z => c (zq.mpr z)
    simp only [g_L_setWind_la_7, g_L_setWind_la_8, g_L_setWind_la_9, g_X12_setWind_ml_6, g_X12_setWind_ml_7, g_X12_setWind_ml_8, if_neg c, if_neg cr]
    exact R
set_option maxHeartbeats 4000000 in
set_option maxRecDepth 100000 in
theorem zr_setRain {aq : zAcs} {r : Nat} {kc : Nat} {wo : zWor} {la : zLand} {ou : zOutl} {al : zLand} {se : zSens} {su : zSubs} {sc : zScho} {rv : zWv} {md : zMd} {ml : zMl} {te : zMs} {sb : zMb} {so : zMo} {wa : zMw} {r1 : Nat} {r2 : Nat} {r3 : Nat} {r4 : Nat} {xs : Nat → Int32} (S : zCl aq r (wo, la, ou, al, se, su, sc) rv) (M : zSm (zch aq aq.1) md ml te sb so wa r1 r2 r3 r4) (R : zRl (wo, la, ou, al, se, su, sc) md ml te sb so wa) : zRl (wo, (la.1, la.2.1, la.2.2.1, la.2.2.2.1, la.2.2.2.2.1, la.2.2.2.2.2.1, la.2.2.2.2.2.2.1, la.2.2.2.2.2.2.2.1, la.2.2.2.2.2.2.2.2.1, la.2.2.2.2.2.2.2.2.2.1, (g_L_setRain_la_10 la.2.2.2.2.2.2.2.2.2.2.1 (xs ((6 * kc) + 1))), la.2.2.2.2.2.2.2.2.2.2.2.1, la.2.2.2.2.2.2.2.2.2.2.2.2.1, la.2.2.2.2.2.2.2.2.2.2.2.2.2), ou, al, se, su, sc) ((g_X12_setRain_md_0 (xs ((6 * kc) + 1))), md.2.1, md.2.2.1, md.2.2.2) (ml.1, ml.2.1, ml.2.2.1, ml.2.2.2.1, ml.2.2.2.2.1, ml.2.2.2.2.2.1, ml.2.2.2.2.2.2.1, ml.2.2.2.2.2.2.2.1, ml.2.2.2.2.2.2.2.2.1, (g_X12_setRain_ml_9 ml.2.2.2.2.2.2.2.2.2.1 (xs ((6 * kc) + 1))), ml.2.2.2.2.2.2.2.2.2.2.1, ml.2.2.2.2.2.2.2.2.2.2.2.1, ml.2.2.2.2.2.2.2.2.2.2.2.2) te sb so wa := by
  have w := S.2.2.1.1.1
  have zq := (zq_setRain (xs ((6 * kc) + 1)))
  by_cases c : x_X7_setRain (xs ((6 * kc) + 1)) = (0 : Int32)
  · have cr : (r_X12_isWrong (if (r_X12_isBetween (xs ((6 * kc) + 1)) (0 : Int32) (9 : Int32)) = (0 : Int32) then (1 : Int32) else (0 : Int32))) = (0 : Int32) := zq.mp c
    have c' := c
    unfold x_X7_setRain at c'
    have c1 : (x_X7_checkRange (xs ((6 * kc) + 1)) (0 : Int32) (9 : Int32)) = (0 : Int32) := by
      by_cases z : (x_X7_checkRange (xs ((6 * kc) + 1)) (0 : Int32) (9 : Int32)) = (0 : Int32)
      · exact z
      · rw [if_neg z] at c'; exact absurd c' (by decide)
    rw [if_pos c1] at c'
    clear c'
    simp only [g_L_setRain_la_10, g_X7_setRain_la_10, g_X12_setRain_ml_9, if_pos c, if_pos cr, if_pos c1]
    obtain ⟨⟨L, W, s1, s2, s3, SB⟩, s4, s5, hs, hu, hw, hc⟩ := R
    have wr : zRwi la.2.2.2.2.2.2.2.1 la.2.2.2.2.2.2.2.2.1 la.2.2.2.2.2.2.2.2.2.1 (xs ((6 * kc) + 1)) ml.2.2.2.2.2.2.1 ml.2.2.2.2.2.2.2.1 ml.2.2.2.2.2.2.2.2.1 (xs ((6 * kc) + 1)) := by
      obtain ⟨dw, wd, ra, hd, hw4, h4, -, e7, e8, e9, -, m6, m7, m8, -⟩ := W
      obtain ⟨m, hm, -, em⟩ := zbw (l := 0) (u := 9) (by decide) (zrB.mp c1) (by decide)
      exact ⟨dw, wd, m, hd, hw4, h4, hm, e7, e8, e9, em, m6, m7, m8, rfl⟩
    exact ⟨⟨L, wr, s1, s2, s3, SB⟩, s4, s5, hs, hu, hw, hc⟩
  · have cr : ¬ ((r_X12_isWrong (if (r_X12_isBetween (xs ((6 * kc) + 1)) (0 : Int32) (9 : Int32)) = (0 : Int32) then (1 : Int32) else (0 : Int32))) = (0 : Int32)) := fun z => c (zq.mpr z)
    simp only [g_L_setRain_la_10, g_X12_setRain_ml_9, if_neg c, if_neg cr]
    exact R
set_option maxHeartbeats 4000000 in
set_option maxRecDepth 100000 in
theorem zr_digLine {aq : zAcs} {r : Nat} {kc : Nat} {wo : zWor} {la : zLand} {ou : zOutl} {al : zLand} {se : zSens} {su : zSubs} {sc : zScho} {rv : zWv} {md : zMd} {ml : zMl} {te : zMs} {sb : zMb} {so : zMo} {wa : zMw} {r1 : Nat} {r2 : Nat} {r3 : Nat} {r4 : Nat} {xs : Nat → Int32} (S : zCl aq r (wo, la, ou, al, se, su, sc) rv) (M : zSm (zch aq aq.1) md ml te sb so wa r1 r2 r3 r4) (R : zRl (wo, la, ou, al, se, su, sc) md ml te sb so wa) : zRl (wo, (la.1, la.2.1, la.2.2.1, la.2.2.2.1, (g_L_digLine_la_4 la.1 la.2.1 la.2.2.2.1 la.2.2.2.2.1 (xs ((6 * kc) + 1)) (xs ((6 * kc) + 2)) (xs ((6 * kc) + 3))), (g_L_digLine_la_5 la.2.1 la.2.2.2.1 la.2.2.2.2.2.1 (xs ((6 * kc) + 1)) (xs ((6 * kc) + 2)) (xs ((6 * kc) + 3))), la.2.2.2.2.2.2.1, la.2.2.2.2.2.2.2.1, la.2.2.2.2.2.2.2.2.1, la.2.2.2.2.2.2.2.2.2.1, la.2.2.2.2.2.2.2.2.2.2.1, la.2.2.2.2.2.2.2.2.2.2.2.1, la.2.2.2.2.2.2.2.2.2.2.2.2.1, la.2.2.2.2.2.2.2.2.2.2.2.2.2), ou, al, se, su, sc) ((g_X12_digLine_md_0 ml.2.2.2.1 ml.2.2.2.2.2.1 (xs ((6 * kc) + 1)) (xs ((6 * kc) + 2)) (xs ((6 * kc) + 3))), md.2.1, md.2.2.1, md.2.2.2) (ml.1, (g_X12_digLine_ml_1 ml.1 ml.2.1 ml.2.2.2.1 ml.2.2.2.2.2.1 (xs ((6 * kc) + 1)) (xs ((6 * kc) + 2)) (xs ((6 * kc) + 3))), (g_X12_digLine_ml_2 ml.2.2.1 ml.2.2.2.1 ml.2.2.2.2.2.1 (xs ((6 * kc) + 1)) (xs ((6 * kc) + 2)) (xs ((6 * kc) + 3))), ml.2.2.2.1, ml.2.2.2.2.1, ml.2.2.2.2.2.1, ml.2.2.2.2.2.2.1, ml.2.2.2.2.2.2.2.1, ml.2.2.2.2.2.2.2.2.1, ml.2.2.2.2.2.2.2.2.2.1, ml.2.2.2.2.2.2.2.2.2.2.1, ml.2.2.2.2.2.2.2.2.2.2.2.1, ml.2.2.2.2.2.2.2.2.2.2.2.2) te sb so wa := by
  have w := S.2.2.1.1.1
  have zq := (zq_digLine R.1.1.2.1 R.1.1.2.2.2.1 (xs ((6 * kc) + 1)) (xs ((6 * kc) + 2)) (xs ((6 * kc) + 3)))
  by_cases c : x_X7_digLine la.2.1 la.2.2.2.1 (xs ((6 * kc) + 1)) (xs ((6 * kc) + 2)) (xs ((6 * kc) + 3)) = (0 : Int32)
  · have cr : (r_X12_isWrong (if (r_X12_isCell (xs ((6 * kc) + 1)) (xs ((6 * kc) + 2))) = (0 : Int32) then (1 : Int32) else (if (r_X12_isCrew (xs ((6 * kc) + 3))) = (0 : Int32) then (2 : Int32) else (if (ml.2.2.2.2.2.1 (r_X12_at (xs ((6 * kc) + 1)) (xs ((6 * kc) + 2))).toNatClampNeg) = (0 : Int32) then (if (ml.2.2.2.1 (r_X12_at (xs ((6 * kc) + 1)) (xs ((6 * kc) + 2))).toNatClampNeg) ≤ (4 : Int32) then (0 : Int32) else (3 : Int32)) else (3 : Int32))))) = (0 : Int32) := zq.mp c
    have c' := c
    unfold x_X7_digLine at c'
    have c1 : (x_X7_placeOf (xs ((6 * kc) + 1)) (xs ((6 * kc) + 2))) = (0 : Int32) := by
      by_cases z : (x_X7_placeOf (xs ((6 * kc) + 1)) (xs ((6 * kc) + 2))) = (0 : Int32)
      · exact z
      · rw [if_neg z] at c'; exact absurd c' (by decide)
    rw [if_pos c1] at c'
    have c2 : (x_X7_checkRange (xs ((6 * kc) + 3)) (0 : Int32) (2 : Int32)) = (0 : Int32) := by
      by_cases z : (x_X7_checkRange (xs ((6 * kc) + 3)) (0 : Int32) (2 : Int32)) = (0 : Int32)
      · exact z
      · rw [if_neg z] at c'; exact absurd c' (by decide)
    rw [if_pos c2] at c'
    have c3 : (la.2.2.2.1 (r_X7_placeOf (xs ((6 * kc) + 1)) (xs ((6 * kc) + 2))).toNatClampNeg) = (0 : Int32) := by
      by_cases z : (la.2.2.2.1 (r_X7_placeOf (xs ((6 * kc) + 1)) (xs ((6 * kc) + 2))).toNatClampNeg) = (0 : Int32)
      · exact z
      · rw [if_neg z] at c'; exact absurd c' (by decide)
    rw [if_pos c3] at c'
    have c4 : (la.2.1 (r_X7_placeOf (xs ((6 * kc) + 1)) (xs ((6 * kc) + 2))).toNatClampNeg) ≤ (4 : Int32) := by
      by_cases z : (la.2.1 (r_X7_placeOf (xs ((6 * kc) + 1)) (xs ((6 * kc) + 2))).toNatClampNeg) ≤ (4 : Int32)
      · exact z
      · rw [if_neg z] at c'; exact absurd c' (by decide)
    rw [if_pos c4] at c'
    clear c'
    simp only [g_L_digLine_la_4, g_L_digLine_la_5, g_X7_digLine_la_4, g_X7_digLine_la_5, g_X12_digLine_ml_1, g_X12_digLine_ml_2, if_pos c, if_pos cr, if_pos c1, if_pos c2, if_pos c3, if_pos c4]
    obtain ⟨⟨L, W, s1, s2, s3, SB⟩, s4, s5, hs, hu, hw, hc⟩ := R
    obtain ⟨q1, q2, q3, q4, q5, q6, q7, q8, q9⟩ := L
    have dc : ¬ r_X12_isCell (xs ((6 * kc) + 1)) (xs ((6 * kc) + 2)) = (0 : Int32) := zcB.mp c1
    rw [zplace_at dc]
    have e := q1 _ (zatlt dc)
    obtain ⟨m, hm, em⟩ := q7 _ (zatlt dc)
    have y : (2 : Int32) + (la.1 (r_X12_at (xs ((6 * kc) + 1)) (xs ((6 * kc) + 2))).toNatClampNeg) / (20 : Int32) = nI (2 + m / 20) := by
      rw [em, show nI m / (20 : Int32) = nI (m / 20) from pk_div (by omega) (by decide) (by decide), show (2 : Int32) = nI 2 from rfl, nI_add]
    exact ⟨⟨⟨q1, q2, q3, q4, zEq_u q5 (by rw [← e]), zEq_u q6 rfl, q7, q8, zBd_u q9 (by omega : 2 + m / 20 ≤ 6) y⟩, W, s1, s2, s3, SB⟩, s4, s5, hs, hu, hw, hc⟩
  · have cr : ¬ ((r_X12_isWrong (if (r_X12_isCell (xs ((6 * kc) + 1)) (xs ((6 * kc) + 2))) = (0 : Int32) then (1 : Int32) else (if (r_X12_isCrew (xs ((6 * kc) + 3))) = (0 : Int32) then (2 : Int32) else (if (ml.2.2.2.2.2.1 (r_X12_at (xs ((6 * kc) + 1)) (xs ((6 * kc) + 2))).toNatClampNeg) = (0 : Int32) then (if (ml.2.2.2.1 (r_X12_at (xs ((6 * kc) + 1)) (xs ((6 * kc) + 2))).toNatClampNeg) ≤ (4 : Int32) then (0 : Int32) else (3 : Int32)) else (3 : Int32))))) = (0 : Int32)) := fun z => c (zq.mpr z)
    simp only [g_L_digLine_la_4, g_L_digLine_la_5, g_X12_digLine_ml_1, g_X12_digLine_ml_2, if_neg c, if_neg cr]
    exact R
set_option maxHeartbeats 4000000 in
set_option maxRecDepth 100000 in
theorem zr_addSensor {aq : zAcs} {r : Nat} {kc : Nat} {wo : zWor} {la : zLand} {ou : zOutl} {al : zLand} {se : zSens} {su : zSubs} {sc : zScho} {rv : zWv} {md : zMd} {ml : zMl} {te : zMs} {sb : zMb} {so : zMo} {wa : zMw} {r1 : Nat} {r2 : Nat} {r3 : Nat} {r4 : Nat} {xs : Nat → Int32} (S : zCl aq r (wo, la, ou, al, se, su, sc) rv) (M : zSm (zch aq aq.1) md ml te sb so wa r1 r2 r3 r4) (R : zRl (wo, la, ou, al, se, su, sc) md ml te sb so wa) : zRl (wo, la, ou, al, ((g_L_addSensor_se_0 se.1 se.2.2.2.2.2.2.2.2.1 (xs ((6 * kc) + 1)) (xs ((6 * kc) + 2))), (g_L_addSensor_se_1 se.2.1 se.2.2.2.2.2.2.2.2.1 (xs ((6 * kc) + 1)) (xs ((6 * kc) + 2))), se.2.2.1, se.2.2.2.1, se.2.2.2.2.1, se.2.2.2.2.2.1, se.2.2.2.2.2.2.1, se.2.2.2.2.2.2.2.1, (g_L_addSensor_se_8 se.2.2.2.2.2.2.2.2.1 (xs ((6 * kc) + 1)) (xs ((6 * kc) + 2))), se.2.2.2.2.2.2.2.2.2), su, sc) ((g_X12_addSensor_md_0 te.1 (xs ((6 * kc) + 1)) (xs ((6 * kc) + 2))), md.2.1, md.2.2.1, md.2.2.2) ml ((g_X12_addSensor_se_0 te.1 (xs ((6 * kc) + 1)) (xs ((6 * kc) + 2))), (g_X12_addSensor_se_1 te.1 te.2.1 (xs ((6 * kc) + 1)) (xs ((6 * kc) + 2))), (g_X12_addSensor_se_2 te.1 te.2.2.1 (xs ((6 * kc) + 1)) (xs ((6 * kc) + 2))), (g_X12_addSensor_se_3 te.1 te.2.2.2.1 (xs ((6 * kc) + 1)) (xs ((6 * kc) + 2))), (g_X12_addSensor_se_4 te.1 te.2.2.2.2.1 (xs ((6 * kc) + 1)) (xs ((6 * kc) + 2))), (g_X12_addSensor_se_5 te.1 te.2.2.2.2.2.1 (xs ((6 * kc) + 1)) (xs ((6 * kc) + 2))), (g_X12_addSensor_se_6 te.1 te.2.2.2.2.2.2.1 (xs ((6 * kc) + 1)) (xs ((6 * kc) + 2))), (g_X12_addSensor_se_7 te.1 te.2.2.2.2.2.2.2 (xs ((6 * kc) + 1)) (xs ((6 * kc) + 2)))) sb so wa := by
  have w := S.2.2.1.1.1
  have ecn := R.2.2.2.1.1
  have zq := (zq_addSensor w.hcs w.hns (xs ((6 * kc) + 1)) (xs ((6 * kc) + 2)))
  rw [ecn] at zq
  by_cases c : x_X7_addSensor se.2.2.2.2.2.2.2.2.1 (xs ((6 * kc) + 1)) (xs ((6 * kc) + 2)) = (0 : Int32)
  · have cr : (r_X12_isWrong (if (r_X12_isCell (xs ((6 * kc) + 1)) (xs ((6 * kc) + 2))) = (0 : Int32) then (1 : Int32) else (if (r_Jx4a65c_size_8abf5 (nI te.1)) = (10 : Int32) then (2 : Int32) else (0 : Int32)))) = (0 : Int32) := zq.mp c
    have c' := c
    unfold x_X7_addSensor at c'
    have c1 : (x_X7_placeOf (xs ((6 * kc) + 1)) (xs ((6 * kc) + 2))) = (0 : Int32) := by
      by_cases z : (x_X7_placeOf (xs ((6 * kc) + 1)) (xs ((6 * kc) + 2))) = (0 : Int32)
      · exact z
      · rw [if_neg z] at c'; exact absurd c' (by decide)
    rw [if_pos c1] at c'
    have c2 : (x_X7_checkRoom se.2.2.2.2.2.2.2.2.1 (10 : Int32)) = (0 : Int32) := by
      by_cases z : (x_X7_checkRoom se.2.2.2.2.2.2.2.2.1 (10 : Int32)) = (0 : Int32)
      · exact z
      · rw [if_neg z] at c'; exact absurd c' (by decide)
    rw [if_pos c2] at c'
    clear c'
    simp only [g_L_addSensor_se_0, g_L_addSensor_se_1, g_L_addSensor_se_8, g_X7_addSensor_se_0, g_X7_addSensor_se_1, g_X7_addSensor_se_8, g_X12_addSensor_se_0, g_X12_addSensor_se_1, g_X12_addSensor_se_2, g_X12_addSensor_se_3, g_X12_addSensor_se_4, g_X12_addSensor_se_5, g_X12_addSensor_se_6, g_X12_addSensor_se_7, if_pos c, if_pos cr, if_pos c1, if_pos c2]
    obtain ⟨⟨L, W, s1, s2, s3, SB⟩, s4, s5, hs, hu, hw, hc⟩ := R
    have dc : ¬ r_X12_isCell (xs ((6 * kc) + 1)) (xs ((6 * kc) + 2)) = (0 : Int32) := zcB.mp c1
    rw [zplace_at dc]
    have n1 : (se.2.2.2.2.2.2.2.2.1 + (1 : Int32)).toNatClampNeg = nsv (wo, la, ou, al, se, su, sc) + 1 := by rw [w.hcs, nI_1, nI_clamp (by have := w.hns; omega)]
    obtain ⟨en, hs1, hs0⟩ := hs
    have n2 : te.1 = se.2.2.2.2.2.2.2.2.1.toNatClampNeg := en.symm
    refine ⟨⟨L, W, s1, s2, s3, SB⟩, s4, s5, ⟨?_, ?_, ?_⟩, hu, hw, hc⟩
    · show (se.2.2.2.2.2.2.2.2.1 + (1 : Int32)).toNatClampNeg = te.1 + 1
      rw [n1, ← en]
    · show ∀ k, k < (se.2.2.2.2.2.2.2.2.1 + (1 : Int32)).toNatClampNeg → _
      rw [n1]
      intro k hk
      rw [n2]
      by_cases z : k = se.2.2.2.2.2.2.2.2.1.toNatClampNeg
      · obtain ⟨z1, z2, z3⟩ := hs0 k (Nat.le_of_eq z.symm)
        refine ⟨?_, Or.inl ⟨z1, ?_⟩, ⟨50, by decide, ?_, ?_⟩, Or.inl ⟨z2, ?_, 0, by decide, z3, ?_, ?_⟩⟩ <;> (try (show upd _ _ _ k = _; rw [z, upd_i]; rfl))
        show zSv (upd _ _ _ k) (upd _ _ _ k) (upd _ _ _ k)
        rw [z, upd_i, upd_i, upd_i]
        exact zatv dc
      · have hk2 : k < nsv (wo, la, ou, al, se, su, sc) := Nat.lt_of_le_of_ne (Nat.le_of_lt_succ hk) z
        obtain ⟨g1, g2, g3⟩ := hs1 k hk2
        have o : ∀ {F : Nat → Int32} {v : Int32}, upd F se.2.2.2.2.2.2.2.2.1.toNatClampNeg v k = F k := fun {F v} => upd_o z
        refine ⟨?_, ?_, ?_⟩
        · show zSv (upd _ _ _ k) (upd _ _ _ k) (upd _ _ _ k)
          rw [o, o, o]; exact g1
        · show zSr _ _ (upd _ _ _ k)
          rw [o]; exact g2
        · show zStv (upd _ _ _ k) _ _ _ (upd _ _ _ k) (upd _ _ _ k) (upd _ _ _ k) (upd _ _ _ k)
          rw [o, o, o, o, o]; exact g3
    · show ∀ k, (se.2.2.2.2.2.2.2.2.1 + (1 : Int32)).toNatClampNeg ≤ k → _
      rw [n1]
      exact fun k hk => hs0 k (Nat.le_of_succ_le hk)
  · have cr : ¬ ((r_X12_isWrong (if (r_X12_isCell (xs ((6 * kc) + 1)) (xs ((6 * kc) + 2))) = (0 : Int32) then (1 : Int32) else (if (r_Jx4a65c_size_8abf5 (nI te.1)) = (10 : Int32) then (2 : Int32) else (0 : Int32)))) = (0 : Int32)) := fun z => c (zq.mpr z)
    simp only [g_L_addSensor_se_0, g_L_addSensor_se_1, g_L_addSensor_se_8, g_X12_addSensor_se_0, g_X12_addSensor_se_1, g_X12_addSensor_se_2, g_X12_addSensor_se_3, g_X12_addSensor_se_4, g_X12_addSensor_se_5, g_X12_addSensor_se_6, g_X12_addSensor_se_7, if_neg c, if_neg cr]
    exact R
set_option maxHeartbeats 4000000 in
set_option maxRecDepth 100000 in
theorem zr_read {aq : zAcs} {r : Nat} {kc : Nat} {wo : zWor} {la : zLand} {ou : zOutl} {al : zLand} {se : zSens} {su : zSubs} {sc : zScho} {rv : zWv} {md : zMd} {ml : zMl} {te : zMs} {sb : zMb} {so : zMo} {wa : zMw} {r1 : Nat} {r2 : Nat} {r3 : Nat} {r4 : Nat} {xs : Nat → Int32} (S : zCl aq r (wo, la, ou, al, se, su, sc) rv) (M : zSm (zch aq aq.1) md ml te sb so wa r1 r2 r3 r4) (R : zRl (wo, la, ou, al, se, su, sc) md ml te sb so wa) : zRl (wo, la, ou, al, (se.1, se.2.1, (g_L_read_se_2 se.2.2.1 se.2.2.2.2.2.2.2.2.1 (xs ((6 * kc) + 1)) (xs ((6 * kc) + 2))), (g_L_read_se_3 se.2.2.2.1 se.2.2.2.2.2.2.2.2.1 (xs ((6 * kc) + 1)) (xs ((6 * kc) + 2))), se.2.2.2.2.1, se.2.2.2.2.2.1, se.2.2.2.2.2.2.1, se.2.2.2.2.2.2.2.1, se.2.2.2.2.2.2.2.2.1, se.2.2.2.2.2.2.2.2.2), su, sc) ((g_X12_read_md_0 te.1 (xs ((6 * kc) + 1)) (xs ((6 * kc) + 2))), md.2.1, md.2.2.1, md.2.2.2) ml (te.1, te.2.1, te.2.2.1, te.2.2.2.1, (g_X12_read_se_4 te.1 te.2.2.2.2.1 (xs ((6 * kc) + 1)) (xs ((6 * kc) + 2))), te.2.2.2.2.2.1, te.2.2.2.2.2.2.1, te.2.2.2.2.2.2.2) sb so wa := by
  have w := S.2.2.1.1.1
  have ecn := R.2.2.2.1.1
  have zq := (zq_read w.hcs w.hns (xs ((6 * kc) + 1)) (xs ((6 * kc) + 2)))
  rw [ecn] at zq
  by_cases c : x_X7_read se.2.2.2.2.2.2.2.2.1 (xs ((6 * kc) + 1)) (xs ((6 * kc) + 2)) = (0 : Int32)
  · have cr : (r_X12_isWrong (if (r_X12_isSensor te.1 (xs ((6 * kc) + 1))) = (0 : Int32) then (1 : Int32) else (if (r_X12_isBetween (xs ((6 * kc) + 2)) (0 : Int32) (9999 : Int32)) = (0 : Int32) then (2 : Int32) else (0 : Int32)))) = (0 : Int32) := zq.mp c
    have c' := c
    unfold x_X7_read at c'
    have c1 : (x_X7_checkNumber (xs ((6 * kc) + 1)) se.2.2.2.2.2.2.2.2.1) = (0 : Int32) := by
      by_cases z : (x_X7_checkNumber (xs ((6 * kc) + 1)) se.2.2.2.2.2.2.2.2.1) = (0 : Int32)
      · exact z
      · rw [if_neg z] at c'; exact absurd c' (by decide)
    rw [if_pos c1] at c'
    have c2 : (x_X7_checkRange (xs ((6 * kc) + 2)) (0 : Int32) (9999 : Int32)) = (0 : Int32) := by
      by_cases z : (x_X7_checkRange (xs ((6 * kc) + 2)) (0 : Int32) (9999 : Int32)) = (0 : Int32)
      · exact z
      · rw [if_neg z] at c'; exact absurd c' (by decide)
    rw [if_pos c2] at c'
    clear c'
    simp only [g_L_read_se_2, g_L_read_se_3, g_X7_read_se_2, g_X7_read_se_3, g_X12_read_se_4, if_pos c, if_pos cr, if_pos c1, if_pos c2]
    obtain ⟨⟨L, W, s1, s2, s3, SB⟩, s4, s5, hs, hu, hw, hc⟩ := R
    obtain ⟨en, hs1, hs0⟩ := hs
    obtain ⟨m, hm, -, em⟩ := zbw (l := 0) (u := 9999) (by decide) (zrB.mp c2) (by decide)
    have ha := zmsz (by have := w.hns; omega) ((znm w.hcs (by have := w.hns; omega)).mp c1)
    refine ⟨⟨L, W, s1, s2, s3, SB⟩, s4, s5, ⟨en, fun k hk => ?_, fun k hk => ?_⟩, hu, hw, hc⟩
    · obtain ⟨g1, g2, g3⟩ := hs1 k hk
      refine ⟨g1, ?_, g3⟩
      show zSr (upd _ _ _ k) (upd _ _ _ k) (upd _ _ _ k)
      by_cases z : k = (xs ((6 * kc) + 1)).toNatClampNeg
      · rw [z, upd_i, upd_i, upd_i]; exact Or.inr ⟨m, hm, rfl, em, em⟩
      · rw [upd_o z, upd_o z, upd_o z]; exact g2
    · obtain ⟨g1, g2, g3⟩ := hs0 k hk
      refine ⟨?_, g2, g3⟩
      show upd _ _ _ k = _
      have hk2 : te.1 ≤ k := Nat.le_trans (Nat.le_of_eq en.symm) hk
      rw [upd_o (by have := ha.2; have : nsv (wo, la, ou, al, se, su, sc) = te.1 := en; omega)]; exact g1
  · have cr : ¬ ((r_X12_isWrong (if (r_X12_isSensor te.1 (xs ((6 * kc) + 1))) = (0 : Int32) then (1 : Int32) else (if (r_X12_isBetween (xs ((6 * kc) + 2)) (0 : Int32) (9999 : Int32)) = (0 : Int32) then (2 : Int32) else (0 : Int32)))) = (0 : Int32)) := fun z => c (zq.mpr z)
    simp only [g_L_read_se_2, g_L_read_se_3, g_X12_read_se_4, if_neg c, if_neg cr]
    exact R
set_option maxHeartbeats 4000000 in
set_option maxRecDepth 100000 in
theorem zr_subscribe {aq : zAcs} {r : Nat} {kc : Nat} {wo : zWor} {la : zLand} {ou : zOutl} {al : zLand} {se : zSens} {su : zSubs} {sc : zScho} {rv : zWv} {md : zMd} {ml : zMl} {te : zMs} {sb : zMb} {so : zMo} {wa : zMw} {r1 : Nat} {r2 : Nat} {r3 : Nat} {r4 : Nat} {xs : Nat → Int32} (S : zCl aq r (wo, la, ou, al, se, su, sc) rv) (M : zSm (zch aq aq.1) md ml te sb so wa r1 r2 r3 r4) (R : zRl (wo, la, ou, al, se, su, sc) md ml te sb so wa) : zRl (wo, la, ou, al, se, (su.1, (g_L_subscribe_su_1 su.2.1 su.2.2.2.2.2.1 (xs ((6 * kc) + 1)) (xs ((6 * kc) + 2)) (xs ((6 * kc) + 3)) (xs ((6 * kc) + 4)) (xs ((6 * kc) + 5))), (g_L_subscribe_su_2 su.2.2.1 su.2.2.2.2.2.1 (xs ((6 * kc) + 1)) (xs ((6 * kc) + 2)) (xs ((6 * kc) + 3)) (xs ((6 * kc) + 4)) (xs ((6 * kc) + 5))), (g_L_subscribe_su_3 su.2.2.2.1 su.2.2.2.2.2.1 (xs ((6 * kc) + 1)) (xs ((6 * kc) + 2)) (xs ((6 * kc) + 3)) (xs ((6 * kc) + 4)) (xs ((6 * kc) + 5))), (g_L_subscribe_su_4 su.2.2.2.2.1 su.2.2.2.2.2.1 (xs ((6 * kc) + 1)) (xs ((6 * kc) + 2)) (xs ((6 * kc) + 3)) (xs ((6 * kc) + 4)) (xs ((6 * kc) + 5))), (g_L_subscribe_su_5 su.2.2.2.2.2.1 (xs ((6 * kc) + 1)) (xs ((6 * kc) + 2)) (xs ((6 * kc) + 3)) (xs ((6 * kc) + 4)) (xs ((6 * kc) + 5))), su.2.2.2.2.2.2.1, su.2.2.2.2.2.2.2.1, su.2.2.2.2.2.2.2.2.1, su.2.2.2.2.2.2.2.2.2.1, su.2.2.2.2.2.2.2.2.2.2.1, su.2.2.2.2.2.2.2.2.2.2.2.1, su.2.2.2.2.2.2.2.2.2.2.2.2), sc) ((g_X12_subscribe_md_0 sb.1 (xs ((6 * kc) + 1)) (xs ((6 * kc) + 2)) (xs ((6 * kc) + 3)) (xs ((6 * kc) + 4)) (xs ((6 * kc) + 5))), md.2.1, md.2.2.1, md.2.2.2) ml te ((g_X12_subscribe_sb_0 sb.1 (xs ((6 * kc) + 1)) (xs ((6 * kc) + 2)) (xs ((6 * kc) + 3)) (xs ((6 * kc) + 4)) (xs ((6 * kc) + 5))), (g_X12_subscribe_sb_1 sb.1 sb.2.1 (xs ((6 * kc) + 1)) (xs ((6 * kc) + 2)) (xs ((6 * kc) + 3)) (xs ((6 * kc) + 4)) (xs ((6 * kc) + 5))), (g_X12_subscribe_sb_2 sb.1 sb.2.2.1 (xs ((6 * kc) + 1)) (xs ((6 * kc) + 2)) (xs ((6 * kc) + 3)) (xs ((6 * kc) + 4)) (xs ((6 * kc) + 5))), (g_X12_subscribe_sb_3 sb.1 sb.2.2.2.1 (xs ((6 * kc) + 1)) (xs ((6 * kc) + 2)) (xs ((6 * kc) + 3)) (xs ((6 * kc) + 4)) (xs ((6 * kc) + 5))), (g_X12_subscribe_sb_4 sb.1 sb.2.2.2.2.1 (xs ((6 * kc) + 1)) (xs ((6 * kc) + 2)) (xs ((6 * kc) + 3)) (xs ((6 * kc) + 4)) (xs ((6 * kc) + 5))), (g_X12_subscribe_sb_5 sb.1 sb.2.2.2.2.2 (xs ((6 * kc) + 1)) (xs ((6 * kc) + 2)) (xs ((6 * kc) + 3)) (xs ((6 * kc) + 4)) (xs ((6 * kc) + 5)))) so wa := by
  have w := S.2.2.1.1.1
  have ecn := R.2.2.2.2.1.1
  have zq := (zq_subscribe w.hcu w.hnu (xs ((6 * kc) + 1)) (xs ((6 * kc) + 2)) (xs ((6 * kc) + 3)) (xs ((6 * kc) + 4)) (xs ((6 * kc) + 5)))
  rw [ecn] at zq
  by_cases c : x_X7_subscribe su.2.2.2.2.2.1 (xs ((6 * kc) + 1)) (xs ((6 * kc) + 2)) (xs ((6 * kc) + 3)) (xs ((6 * kc) + 4)) (xs ((6 * kc) + 5)) = (0 : Int32)
  · have cr : (r_X12_isWrong (if (r_X12_isCell (xs ((6 * kc) + 1)) (xs ((6 * kc) + 2))) = (0 : Int32) then (1 : Int32) else (if (if (r_X12_isBetween (xs ((6 * kc) + 3)) (20 : Int32) (9999 : Int32)) = (0 : Int32) then (0 : Int32) else (if (r_X12_isBetween (xs ((6 * kc) + 4)) (0 : Int32) (23 : Int32)) = (0 : Int32) then (0 : Int32) else (if (r_X12_isBetween (xs ((6 * kc) + 5)) (0 : Int32) (23 : Int32)) = (0 : Int32) then (0 : Int32) else (1 : Int32)))) = (0 : Int32) then (2 : Int32) else (if (r_Jx4a65c_size_8abf5 (nI sb.1)) = (12 : Int32) then (3 : Int32) else (0 : Int32))))) = (0 : Int32) := zq.mp c
    have c' := c
    unfold x_X7_subscribe at c'
    have c1 : (x_X7_placeOf (xs ((6 * kc) + 1)) (xs ((6 * kc) + 2))) = (0 : Int32) := by
      by_cases z : (x_X7_placeOf (xs ((6 * kc) + 1)) (xs ((6 * kc) + 2))) = (0 : Int32)
      · exact z
      · rw [if_neg z] at c'; exact absurd c' (by decide)
    rw [if_pos c1] at c'
    have c2 : (x_X7_checkRange (xs ((6 * kc) + 3)) (20 : Int32) (9999 : Int32)) = (0 : Int32) := by
      by_cases z : (x_X7_checkRange (xs ((6 * kc) + 3)) (20 : Int32) (9999 : Int32)) = (0 : Int32)
      · exact z
      · rw [if_neg z] at c'; exact absurd c' (by decide)
    rw [if_pos c2] at c'
    have c3 : (x_X7_checkRange (xs ((6 * kc) + 4)) (0 : Int32) (23 : Int32)) = (0 : Int32) := by
      by_cases z : (x_X7_checkRange (xs ((6 * kc) + 4)) (0 : Int32) (23 : Int32)) = (0 : Int32)
      · exact z
      · rw [if_neg z] at c'; exact absurd c' (by decide)
    rw [if_pos c3] at c'
    have c4 : (x_X7_checkRange (xs ((6 * kc) + 5)) (0 : Int32) (23 : Int32)) = (0 : Int32) := by
      by_cases z : (x_X7_checkRange (xs ((6 * kc) + 5)) (0 : Int32) (23 : Int32)) = (0 : Int32)
      · exact z
      · rw [if_neg z] at c'; exact absurd c' (by decide)
    rw [if_pos c4] at c'
    have c5 : (x_X7_checkRoom su.2.2.2.2.2.1 (12 : Int32)) = (0 : Int32) := by
      by_cases z : (x_X7_checkRoom su.2.2.2.2.2.1 (12 : Int32)) = (0 : Int32)
      · exact z
      · rw [if_neg z] at c'; exact absurd c' (by decide)
    rw [if_pos c5] at c'
    clear c'
    simp only [g_L_subscribe_su_1, g_L_subscribe_su_2, g_L_subscribe_su_3, g_L_subscribe_su_4, g_L_subscribe_su_5, g_X7_subscribe_su_1, g_X7_subscribe_su_2, g_X7_subscribe_su_3, g_X7_subscribe_su_4, g_X7_subscribe_su_5, g_X12_subscribe_sb_0, g_X12_subscribe_sb_1, g_X12_subscribe_sb_2, g_X12_subscribe_sb_3, g_X12_subscribe_sb_4, g_X12_subscribe_sb_5, if_pos c, if_pos cr, if_pos c1, if_pos c2, if_pos c3, if_pos c4, if_pos c5]
    obtain ⟨⟨L, W, s1, s2, s3, SB⟩, s4, s5, hs, hu, hw, hc⟩ := R
    have dc : ¬ r_X12_isCell (xs ((6 * kc) + 1)) (xs ((6 * kc) + 2)) = (0 : Int32) := zcB.mp c1
    rw [zplace_at dc]
    have n1 : (su.2.2.2.2.2.1 + (1 : Int32)).toNatClampNeg = nuv (wo, la, ou, al, se, su, sc) + 1 := by rw [w.hcu, nI_1, nI_clamp (by have := w.hnu; omega)]
    obtain ⟨en, hu1, hu0⟩ := hu
    have n2 : sb.1 = su.2.2.2.2.2.1.toNatClampNeg := en.symm
    obtain ⟨m, hm, -, em⟩ := zbw (l := 20) (u := 9999) (by decide) (zrB.mp c2) (by decide)
    refine ⟨⟨L, W, s1, s2, s3, SB⟩, s4, s5, hs, ⟨?_, ?_, ?_⟩, hw, hc⟩
    · show (su.2.2.2.2.2.1 + (1 : Int32)).toNatClampNeg = sb.1 + 1
      rw [n1, ← en]
    · show ∀ k, k < (su.2.2.2.2.2.1 + (1 : Int32)).toNatClampNeg → _
      rw [n1]
      intro k hk
      rw [n2]
      show upd _ _ _ k = upd _ _ _ k ∧ (upd _ _ _ k = upd _ _ _ k ∧ ∃ m, m ≤ 9999 ∧ upd _ _ _ k = nI m) ∧ upd _ _ _ k = upd _ _ _ k ∧ upd _ _ _ k = upd _ _ _ k ∧ _ = upd _ _ _ k
      by_cases z : k = su.2.2.2.2.2.1.toNatClampNeg
      · have z0 := hu0 k (Nat.le_of_eq z.symm)
        rw [z] at z0 ⊢
        simp only [upd_i]
        exact ⟨rfl, ⟨rfl, m, hm, em⟩, rfl, rfl, z0⟩
      · have hk2 : k < nuv (wo, la, ou, al, se, su, sc) := Nat.lt_of_le_of_ne (Nat.le_of_lt_succ hk) z
        simp only [upd_o z]
        exact hu1 k hk2
    · show ∀ k, (su.2.2.2.2.2.1 + (1 : Int32)).toNatClampNeg ≤ k → _
      rw [n1]
      exact fun k hk => hu0 k (Nat.le_of_succ_le hk)
  · have cr : ¬ ((r_X12_isWrong (if (r_X12_isCell (xs ((6 * kc) + 1)) (xs ((6 * kc) + 2))) = (0 : Int32) then (1 : Int32) else (if (if (r_X12_isBetween (xs ((6 * kc) + 3)) (20 : Int32) (9999 : Int32)) = (0 : Int32) then (0 : Int32) else (if (r_X12_isBetween (xs ((6 * kc) + 4)) (0 : Int32) (23 : Int32)) = (0 : Int32) then (0 : Int32) else (if (r_X12_isBetween (xs ((6 * kc) + 5)) (0 : Int32) (23 : Int32)) = (0 : Int32) then (0 : Int32) else (1 : Int32)))) = (0 : Int32) then (2 : Int32) else (if (r_Jx4a65c_size_8abf5 (nI sb.1)) = (12 : Int32) then (3 : Int32) else (0 : Int32))))) = (0 : Int32)) := fun z => c (zq.mpr z)
    simp only [g_L_subscribe_su_1, g_L_subscribe_su_2, g_L_subscribe_su_3, g_L_subscribe_su_4, g_L_subscribe_su_5, g_X12_subscribe_sb_0, g_X12_subscribe_sb_1, g_X12_subscribe_sb_2, g_X12_subscribe_sb_3, g_X12_subscribe_sb_4, g_X12_subscribe_sb_5, if_neg c, if_neg cr]
    exact R
set_option maxHeartbeats 4000000 in
set_option maxRecDepth 100000 in
theorem zr_addSchool {aq : zAcs} {r : Nat} {kc : Nat} {wo : zWor} {la : zLand} {ou : zOutl} {al : zLand} {se : zSens} {su : zSubs} {sc : zScho} {rv : zWv} {md : zMd} {ml : zMl} {te : zMs} {sb : zMb} {so : zMo} {wa : zMw} {r1 : Nat} {r2 : Nat} {r3 : Nat} {r4 : Nat} {xs : Nat → Int32} (S : zCl aq r (wo, la, ou, al, se, su, sc) rv) (M : zSm (zch aq aq.1) md ml te sb so wa r1 r2 r3 r4) (R : zRl (wo, la, ou, al, se, su, sc) md ml te sb so wa) : zRl (wo, la, ou, al, se, su, ((g_L_addSchool_sc_0 sc.1 sc.2.2.2.1 (xs ((6 * kc) + 1)) (xs ((6 * kc) + 2)) (xs ((6 * kc) + 3))), (g_L_addSchool_sc_1 sc.2.1 sc.2.2.2.1 (xs ((6 * kc) + 1)) (xs ((6 * kc) + 2)) (xs ((6 * kc) + 3))), (g_L_addSchool_sc_2 sc.2.2.1 sc.2.2.2.1 (xs ((6 * kc) + 1)) (xs ((6 * kc) + 2)) (xs ((6 * kc) + 3))), (g_L_addSchool_sc_3 sc.2.2.2.1 (xs ((6 * kc) + 1)) (xs ((6 * kc) + 2)) (xs ((6 * kc) + 3))), sc.2.2.2.2)) ((g_X12_addSchool_md_0 so.1 (xs ((6 * kc) + 1)) (xs ((6 * kc) + 2)) (xs ((6 * kc) + 3))), md.2.1, md.2.2.1, md.2.2.2) ml te sb ((g_X12_addSchool_so_0 so.1 (xs ((6 * kc) + 1)) (xs ((6 * kc) + 2)) (xs ((6 * kc) + 3))), (g_X12_addSchool_so_1 so.1 so.2.1 (xs ((6 * kc) + 1)) (xs ((6 * kc) + 2)) (xs ((6 * kc) + 3))), (g_X12_addSchool_so_2 so.1 so.2.2.1 (xs ((6 * kc) + 1)) (xs ((6 * kc) + 2)) (xs ((6 * kc) + 3))), (g_X12_addSchool_so_3 so.1 so.2.2.2 (xs ((6 * kc) + 1)) (xs ((6 * kc) + 2)) (xs ((6 * kc) + 3)))) wa := by
  have w := S.2.2.1.1.1
  have ecn := R.2.2.2.2.2.2.1
  have zq := (zq_addSchool w.hcc w.hnc (xs ((6 * kc) + 1)) (xs ((6 * kc) + 2)) (xs ((6 * kc) + 3)))
  rw [ecn] at zq
  by_cases c : x_X7_addSchool sc.2.2.2.1 (xs ((6 * kc) + 1)) (xs ((6 * kc) + 2)) (xs ((6 * kc) + 3)) = (0 : Int32)
  · have cr : (r_X12_isWrong (if (r_X12_isCell (xs ((6 * kc) + 1)) (xs ((6 * kc) + 2))) = (0 : Int32) then (1 : Int32) else (if (r_X12_isBetween (xs ((6 * kc) + 3)) (20 : Int32) (9999 : Int32)) = (0 : Int32) then (2 : Int32) else (if (r_Jx4a65c_size_8abf5 (nI so.1)) = (6 : Int32) then (3 : Int32) else (0 : Int32))))) = (0 : Int32) := zq.mp c
    have c' := c
    unfold x_X7_addSchool at c'
    have c1 : (x_X7_placeOf (xs ((6 * kc) + 1)) (xs ((6 * kc) + 2))) = (0 : Int32) := by
      by_cases z : (x_X7_placeOf (xs ((6 * kc) + 1)) (xs ((6 * kc) + 2))) = (0 : Int32)
      · exact z
      · rw [if_neg z] at c'; exact absurd c' (by decide)
    rw [if_pos c1] at c'
    have c2 : (x_X7_checkRange (xs ((6 * kc) + 3)) (20 : Int32) (9999 : Int32)) = (0 : Int32) := by
      by_cases z : (x_X7_checkRange (xs ((6 * kc) + 3)) (20 : Int32) (9999 : Int32)) = (0 : Int32)
      · exact z
      · rw [if_neg z] at c'; exact absurd c' (by decide)
    rw [if_pos c2] at c'
    have c3 : (x_X7_checkRoom sc.2.2.2.1 (6 : Int32)) = (0 : Int32) := by
      by_cases z : (x_X7_checkRoom sc.2.2.2.1 (6 : Int32)) = (0 : Int32)
      · exact z
      · rw [if_neg z] at c'; exact absurd c' (by decide)
    rw [if_pos c3] at c'
    clear c'
    simp only [g_L_addSchool_sc_0, g_L_addSchool_sc_1, g_L_addSchool_sc_2, g_L_addSchool_sc_3, g_X7_addSchool_sc_0, g_X7_addSchool_sc_1, g_X7_addSchool_sc_2, g_X7_addSchool_sc_3, g_X12_addSchool_so_0, g_X12_addSchool_so_1, g_X12_addSchool_so_2, g_X12_addSchool_so_3, if_pos c, if_pos cr, if_pos c1, if_pos c2, if_pos c3]
    obtain ⟨⟨L, W, s1, s2, s3, SB⟩, s4, s5, hs, hu, hw, hc⟩ := R
    have dc : ¬ r_X12_isCell (xs ((6 * kc) + 1)) (xs ((6 * kc) + 2)) = (0 : Int32) := zcB.mp c1
    rw [zplace_at dc]
    have n1 : (sc.2.2.2.1 + (1 : Int32)).toNatClampNeg = ncv (wo, la, ou, al, se, su, sc) + 1 := by rw [w.hcc, nI_1, nI_clamp (by have := w.hnc; omega)]
    obtain ⟨en, hc1⟩ := hc
    have n2 : so.1 = sc.2.2.2.1.toNatClampNeg := en.symm
    refine ⟨⟨L, W, s1, s2, s3, SB⟩, s4, s5, hs, hu, hw, ⟨?_, ?_⟩⟩
    · show (sc.2.2.2.1 + (1 : Int32)).toNatClampNeg = so.1 + 1
      rw [n1, ← en]
    · show ∀ k, k < (sc.2.2.2.1 + (1 : Int32)).toNatClampNeg → _
      rw [n1]
      intro k hk
      rw [n2]
      show upd _ _ _ k = upd _ _ _ k ∧ upd _ _ _ k = upd _ _ _ k ∧ zOp (upd _ _ _ k) (upd _ _ _ k)
      by_cases z : k = sc.2.2.2.1.toNatClampNeg
      · rw [z]
        simp only [upd_i]
        exact ⟨rfl, rfl, Or.inl ⟨rfl, rfl⟩⟩
      · have hk2 : k < ncv (wo, la, ou, al, se, su, sc) := Nat.lt_of_le_of_ne (Nat.le_of_lt_succ hk) z
        simp only [upd_o z]
        exact hc1 k hk2
  · have cr : ¬ ((r_X12_isWrong (if (r_X12_isCell (xs ((6 * kc) + 1)) (xs ((6 * kc) + 2))) = (0 : Int32) then (1 : Int32) else (if (r_X12_isBetween (xs ((6 * kc) + 3)) (20 : Int32) (9999 : Int32)) = (0 : Int32) then (2 : Int32) else (if (r_Jx4a65c_size_8abf5 (nI so.1)) = (6 : Int32) then (3 : Int32) else (0 : Int32))))) = (0 : Int32)) := fun z => c (zq.mpr z)
    simp only [g_L_addSchool_sc_0, g_L_addSchool_sc_1, g_L_addSchool_sc_2, g_L_addSchool_sc_3, g_X12_addSchool_so_0, g_X12_addSchool_so_1, g_X12_addSchool_so_2, g_X12_addSchool_so_3, if_neg c, if_neg cr]
    exact R
