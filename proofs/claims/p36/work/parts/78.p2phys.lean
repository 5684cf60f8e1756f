/-! the model's steps: carry, settle, spread -/
theorem zcellE (a b : Int32) : r_X7_isCell a b = r_X12_isCell a b := by
  have h := @zcB a b
  unfold x_X7_placeOf at h
  by_cases c : r_X7_isCell a b = (0 : Int32)
  · rw [if_pos c] at h
    by_cases d : r_X12_isCell a b = (0 : Int32)
    · rw [c, d]
    · exact absurd (h.mpr d) (by decide)
  · rw [if_neg c] at h
    have d := h.mp rfl
    have e1 : r_X7_isCell a b = (1 : Int32) := by
      unfold r_X7_isCell at c ⊢
      (repeat' split) <;> first | rfl | (rename_i z1; exact absurd (by simp [*]) c)
    have e2 : r_X12_isCell a b = (1 : Int32) := by
      unfold r_X12_isCell at d ⊢
      (repeat' split) <;> first | rfl | (rename_i z1; exact absurd (by simp [*]) d)
    rw [e1, e2]
section ZCA
variable {s s' : Nat → Int32} {wx wy : Int32} {bl bl' : Int64}
theorem zcar (hs : zEq 48 s s') : ∀ i, i ≤ 48 → (∀ k, k < 48 → (lp_X1_carry_10 wx wy (s, (fun _ => (0 : Int32)), bl) i).1 k = (if k < i then s k - s k / (4 : Int32) else s k)) ∧ (∀ k, k < 48 → (lp_X1_carry_10 wx wy (s, (fun _ => (0 : Int32)), bl) i).2.1 k + (if k < i then s k - s k / (4 : Int32) else (0 : Int32)) = (lp_X8_carry_7 s' wx wy (bl', (fun _ => (0 : Int32))) i).2 k) ∧ (bl = bl' → (lp_X1_carry_10 wx wy (s, (fun _ => (0 : Int32)), bl) i).2.2 = (lp_X8_carry_7 s' wx wy (bl', (fun _ => (0 : Int32))) i).1) := by
  intro i
  induction i with
  | zero =>
    intro _
    rw [lp_X1_carry_10_0, lp_X8_carry_7_0]
    exact ⟨fun k _ => by rw [if_neg (Nat.not_lt_zero k)], fun k _ => by rw [if_neg (Nat.not_lt_zero k)]; exact Int32.add_zero _, fun h => h⟩
  | succ i ih =>
    intro hi
    obtain ⟨j1, j2, j3⟩ := ih (by omega)
    rw [lp_X1_carry_10_s, lp_X8_carry_7_s]
    generalize lp_X1_carry_10 wx wy (s, (fun _ => (0 : Int32)), bl) i = y at j1 j2 j3 ⊢
    generalize lp_X8_carry_7 s' wx wy (bl', (fun _ => (0 : Int32))) i = z at j2 j3 ⊢
    unfold st_X1_carry_10 st_X8_carry_7
    have e1 : y.1 i = s i := by rw [j1 i (by omega), if_neg (Nat.lt_irrefl i)]
    have e2 : s' i = s i := (hs i (by omega)).symm
    have e3 : y.2.1 i = z.2 i := by have := j2 i (by omega); rw [if_neg (Nat.lt_irrefl i), Int32.add_zero] at this; exact this
    have key : ∀ k, k < 48 → y.2.1 k + (if k < i + 1 then s k - s k / (4 : Int32) else (0 : Int32)) = upd z.2 i (z.2 i + (s i - s i / (4 : Int32))) k := by
      intro k hk
      by_cases e : k = i
      · rw [e, upd_i, if_pos (Nat.lt_succ_self i), e3]
      · rw [upd_o e, ← j2 k hk]
        by_cases q : k < i
        · rw [if_pos q, if_pos (by omega)]
        · rw [if_neg q, if_neg (by omega)]
    dsimp only
    rw [e1, e2, ← zcellE]
    refine ⟨fun k hk => ?_, ?_, ?_⟩
    · by_cases e : k = i
      · rw [e, upd_i, if_pos (Nat.lt_succ_self i)]
      · rw [upd_o e, j1 k hk]
        by_cases q : k < i
        · rw [if_pos q, if_pos (by omega)]
        · rw [if_neg q, if_neg (by omega)]
    · by_cases c : r_X7_isCell (((nI i) - (nI i) / (8 : Int32) * (8 : Int32)) + wx) (((nI i) / (8 : Int32)) + wy) = (0 : Int32)
      · rw [if_pos c, if_pos c]; exact key
      · rw [if_neg c, if_neg c]
        generalize (((((nI i) / (8 : Int32)) + wy) * (8 : Int32)) + (((nI i) - (nI i) / (8 : Int32) * (8 : Int32)) + wx)).toNatClampNeg = t
        intro k hk
        by_cases e : k = t
        · rw [e, upd_i, upd_i]
          have h := key k hk
          rw [e] at h
          rw [← h, Int32.add_assoc, Int32.add_assoc, Int32.add_comm (s i / (4 : Int32))]
        · rw [upd_o e, upd_o e]; exact key k hk
    · intro h
      by_cases c : r_X7_isCell (((nI i) - (nI i) / (8 : Int32) * (8 : Int32)) + wx) (((nI i) / (8 : Int32)) + wy) = (0 : Int32)
      · rw [if_pos c, if_pos c, j3 h]
      · rw [if_neg c, if_neg c, j3 h]
theorem zcar2 {br y : Nat → Int32} : ∀ i, i ≤ 48 → ∀ k, k < 48 → lp_X1_carry_103 br y i k = (if k < i then y k + br k else y k) := by
  intro i
  induction i with
  | zero => intro _ k _; rw [lp_X1_carry_103_0, if_neg (Nat.not_lt_zero k)]
  | succ i ih =>
    intro hi k hk
    rw [lp_X1_carry_103_s]
    unfold st_X1_carry_103
    by_cases e : k = i
    · rw [e, upd_i, if_pos (Nat.lt_succ_self i), ih (by omega) i (by omega), if_neg (Nat.lt_irrefl i)]
    · rw [upd_o e, ih (by omega) k hk]
      by_cases q : k < i
      · rw [if_pos q, if_pos (by omega)]
      · rw [if_neg q, if_neg (by omega)]
theorem zcarry (hs : zEq 48 s s') : zEq 48 (g_X1_carry_x_2 s wx wy bl) (g_X8_carry_ml_4 s' wx wy bl') ∧ (bl = bl' → g_X1_carry_x_12 s wx wy bl = g_X8_carry_ml_11 s' wx wy bl') := by
  obtain ⟨h1, h2, h3⟩ := zcar (wx := wx) (wy := wy) (bl := bl) (bl' := bl') hs 48 (Nat.le_refl _)
  refine ⟨fun k hk => ?_, h3⟩
  have a := h1 k hk
  have b := h2 k hk
  rw [if_pos hk] at a b
  show lp_X1_carry_103 _ _ 48 k = (lp_X8_carry_7 s' wx wy (bl', (fun _ => 0)) 48).2 k
  rw [zcar2 48 (Nat.le_refl _) k hk, if_pos hk, a, Int32.add_comm]
  exact b
theorem zcarN {br : Nat → Int32} (hs : zEq 48 s s') : ∀ n, zEq 48 (lp_X1_runModel_14 wx wy (s, br, bl) n).1 (lp_X8_hour_14 wx wy (s', bl') n).1 ∧ (bl = bl' → (lp_X1_runModel_14 wx wy (s, br, bl) n).2.2 = (lp_X8_hour_14 wx wy (s', bl') n).2) := by
  intro n
  induction n with
  | zero => rw [lp_X1_runModel_14_0, lp_X8_hour_14_0]; exact ⟨hs, fun h => h⟩
  | succ n ih =>
    rw [lp_X1_runModel_14_s, lp_X8_hour_14_s]
    unfold st_X1_runModel_14 st_X8_hour_14
    dsimp only
    exact ⟨(zcarry ih.1).1, fun h => (zcarry ih.1).2 (ih.2 h)⟩
end ZCA
theorem zsettle {s s' : Nat → Int32} {ra : Int32} {se se' : Int64} (hs : zEq 48 s s') : ∀ i, i ≤ 48 → zEq 48 (lp_X1_settle_2 ra (s, se) i).1 (lp_X8_settle_2 ra (s', se') i).1 ∧ (se = se' → (lp_X1_settle_2 ra (s, se) i).2 = (lp_X8_settle_2 ra (s', se') i).2) := by
  intro i
  induction i with
  | zero => intro _; rw [lp_X1_settle_2_0, lp_X8_settle_2_0]; exact ⟨hs, fun h => h⟩
  | succ i ih =>
    intro hi
    obtain ⟨j1, j2⟩ := ih (by omega)
    rw [lp_X1_settle_2_s, lp_X8_settle_2_s]
    unfold st_X1_settle_2 st_X8_settle_2
    have e := j1 i (by omega)
    dsimp only
    rw [e, Int32.add_comm ra (1 : Int32)]
    exact ⟨zEq_u j1 rfl, fun h => by rw [j2 h]⟩
/-! spread: what a cell tells, and what is told to a cell -/
def zgX (i : Nat) : Int32 := (nI i) - (nI i) / (8 : Int32) * (8 : Int32)
def zgY (i : Nat) : Int32 := (nI i) / (8 : Int32)
def ze (d : Nat) : Int32 := if d % 3 = 0 then (-1 : Int32) else if d % 3 = 1 then (0 : Int32) else (1 : Int32)
def zf (d : Nat) : Int32 := if d / 3 = 0 then (-1 : Int32) else if d / 3 = 1 then (0 : Int32) else (1 : Int32)
/-- the cell beside cell i in direction d; 99: none -/
def zt (i d : Nat) : Nat := if 1 ≤ i % 8 + d % 3 ∧ i % 8 + d % 3 ≤ 8 ∧ 1 ≤ i / 8 + d / 3 ∧ i / 8 + d / 3 ≤ 6 then (i / 8 + d / 3 - 1) * 8 + (i % 8 + d % 3 - 1) else 99
theorem zt_geo : ∀ d, d < 9 → ∀ i, i < 48 → (if r_X7_isCell (zgX i + ze d) (zgY i + zf d) = (0 : Int32) then 99 else (((zgY i + zf d) * (8 : Int32)) + (zgX i + ze d)).toNatClampNeg) = zt i d := by decide +kernel
theorem zt_lt {i d : Nat} (hi : i < 48) (hd : d < 9) : zt i d < 48 ∨ zt i d = 99 := by
  unfold zt
  split
  · left; omega
  · right; rfl
theorem zt_dual {i k d : Nat} (hi : i < 48) (hk : k < 48) (hd : d < 9) (h : zt i d = k) : zt k (8 - d) = i := by
  unfold zt at h ⊢
  split at h
  · rename_i q
    rcases (by omega : d = 0 ∨ d = 1 ∨ d = 2 ∨ d = 3 ∨ d = 4 ∨ d = 5 ∨ d = 6 ∨ d = 7 ∨ d = 8) with rfl | rfl | rfl | rfl | rfl | rfl | rfl | rfl | rfl <;> (rw [if_pos (by omega)]; omega)
  · omega
theorem zt_dual2 {i k d : Nat} (hi : i < 48) (hk : k < 48) (hd : d < 9) : zt k d = i ↔ zt i (8 - d) = k :=
  ⟨fun h => zt_dual hk hi hd h, fun h => by have := zt_dual hi hk (by omega : 8 - d < 9) h; rwa [show 8 - (8 - d) = d by omega] at this⟩
theorem ztell {b : Nat → Int32} {i d m σ k : Nat} {x y s : Int32} (hi : i < 48) (hd : d < 9) (hx : x = zgX i + ze d) (hy : y = zgY i + zf d) (hs : s = nI σ) (hσ : σ ≤ 5) (hk : k < 48) (hb : b k = nI m) (hm : m ≤ 5) : g_X1_tell_x_6 b x y s k = nI (max m (if zt i d = k then σ else 0)) := by
  have g := zt_geo d hd i hi
  subst hx hy hs
  unfold g_X1_tell_x_6
  by_cases c : r_X7_isCell (zgX i + ze d) (zgY i + zf d) = (0 : Int32)
  · rw [if_pos c] at g ⊢
    rw [if_neg (by omega), Nat.max_eq_left (Nat.zero_le m)]
    exact hb
  · rw [if_neg c] at g ⊢
    rw [g]
    by_cases e : zt i d = k
    · rw [if_pos e, e, hb]
      by_cases q : nI σ ≤ nI m
      · rw [if_pos q, hb, Nat.max_eq_left ((nI_leI (by omega) (by omega)).mp q)]
      · rw [if_neg q, upd_i, Nat.max_eq_right (Nat.le_of_lt (Nat.lt_of_not_le (fun z => q ((nI_leI (by omega) (by omega)).mpr z))))]
    · rw [if_neg e, Nat.max_eq_left (Nat.zero_le m)]
      by_cases q : nI σ ≤ b (zt i d)
      · rw [if_pos q]; exact hb
      · rw [if_neg q, upd_o (fun z => e z.symm)]; exact hb
/-- what is told to k by its neighbour in direction d, when the cells ahead of n have told -/
def znb (F : Nat → Int32) (k n d : Nat) (c : Int32) (v : Nat) : Nat := if zt k d < n ∧ c ≤ F (zt k d) then v else 0
theorem znb_s {F : Nat → Int32} {k n d v : Nat} {c : Int32} (hk : k < 48) (hn : n < 48) (hd : d < 9) : znb F k (n + 1) d c v = max (znb F k n d c v) (if c ≤ F n then (if zt n (8 - d) = k then v else 0) else 0) := by
  unfold znb
  have q := zt_dual2 hn hk hd
  by_cases e : zt n (8 - d) = k
  · have e2 := q.mpr e
    rw [e2, if_pos e]
    by_cases y : c ≤ F n
    · rw [if_pos (⟨Nat.lt_succ_self n, y⟩ : n < n + 1 ∧ c ≤ F n), if_neg ((fun z => Nat.lt_irrefl n z.1) : ¬ (n < n ∧ c ≤ F n)), if_pos y, Nat.zero_max]
    · rw [if_neg ((fun z => y z.2) : ¬ (n < n + 1 ∧ c ≤ F n)), if_neg ((fun z => y z.2) : ¬ (n < n ∧ c ≤ F n)), if_neg y]; rfl
  · have e2 : zt k d ≠ n := fun z => e (q.mp z)
    rw [if_neg e]
    have e3 : (if c ≤ F n then 0 else 0) = 0 := by split <;> rfl
    rw [e3]
    by_cases y : zt k d < n ∧ c ≤ F (zt k d)
    · rw [if_pos y, if_pos ⟨by omega, y.2⟩]; omega
    · rw [if_neg y, if_neg (fun z => y ⟨by omega, z.2⟩)]; rfl
def zmN (F : Nat → Int32) (k n : Nat) : Nat := max (max (znb F k n 5 (5 : Int32) 1) (znb F k n 3 (5 : Int32) 1)) (max (znb F k n 7 (5 : Int32) 1) (znb F k n 1 (5 : Int32) 1))
def zmW (F : Nat → Int32) (k n dw w : Nat) : Nat := if 0 < w then znb F k n (8 - dw) (3 : Int32) (w + 1) else 0
theorem znb_v {F : Nat → Int32} {k n d v : Nat} {c : Int32} : znb F k n d c v ≤ v := by unfold znb; split <;> omega
theorem zsb1 {x : Int32} : x - (1 : Int32) = x + (-1 : Int32) := by rw [Int32.sub_eq_add_neg]
theorem z4tells {b F : Nat → Int32} {n k m : Nat} (hn : n < 48) (hk : k < 48) (hb : b k = nI m) (hm : m ≤ 5) : (g_X1_tell_x_6 (g_X1_tell_x_6 (g_X1_tell_x_6 (g_X1_tell_x_6 b (((nI n) - (nI n) / (8 : Int32) * (8 : Int32)) - (1 : Int32)) ((nI n) / (8 : Int32)) (1 : Int32)) (((nI n) - (nI n) / (8 : Int32) * (8 : Int32)) + (1 : Int32)) ((nI n) / (8 : Int32)) (1 : Int32)) ((nI n) - (nI n) / (8 : Int32) * (8 : Int32)) (((nI n) / (8 : Int32)) - (1 : Int32)) (1 : Int32)) ((nI n) - (nI n) / (8 : Int32) * (8 : Int32)) (((nI n) / (8 : Int32)) + (1 : Int32)) (1 : Int32)) k = nI (max (max (max (max m (if zt n 3 = k then 1 else 0)) (if zt n 5 = k then 1 else 0)) (if zt n 1 = k then 1 else 0)) (if zt n 7 = k then 1 else 0)) := by
  have b1 : (if zt n 3 = k then 1 else 0) ≤ 1 := by split <;> omega
  have b2 : (if zt n 5 = k then 1 else 0) ≤ 1 := by split <;> omega
  have b3 : (if zt n 1 = k then 1 else 0) ≤ 1 := by split <;> omega
  have h1 := ztell (d := 3) (σ := 1) (x := ((nI n) - (nI n) / (8 : Int32) * (8 : Int32)) - (1 : Int32)) (y := (nI n) / (8 : Int32)) hn (by decide) zsb1 (Int32.add_zero _).symm rfl (by decide) hk hb hm
  have h2 := ztell (d := 5) (σ := 1) (x := ((nI n) - (nI n) / (8 : Int32) * (8 : Int32)) + (1 : Int32)) (y := (nI n) / (8 : Int32)) hn (by decide) rfl (Int32.add_zero _).symm rfl (by decide) hk h1 (Nat.max_le.mpr ⟨hm, by omega⟩)
  have h3 := ztell (d := 1) (σ := 1) (x := (nI n) - (nI n) / (8 : Int32) * (8 : Int32)) (y := ((nI n) / (8 : Int32)) - (1 : Int32)) hn (by decide) (Int32.add_zero _).symm zsb1 rfl (by decide) hk h2 (Nat.max_le.mpr ⟨Nat.max_le.mpr ⟨hm, by omega⟩, by omega⟩)
  exact ztell (d := 7) (σ := 1) (x := (nI n) - (nI n) / (8 : Int32) * (8 : Int32)) (y := ((nI n) / (8 : Int32)) + (1 : Int32)) hn (by decide) (Int32.add_zero _).symm rfl rfl (by decide) hk h3 (Nat.max_le.mpr ⟨Nat.max_le.mpr ⟨Nat.max_le.mpr ⟨hm, by omega⟩, by omega⟩, by omega⟩)
theorem zgpush {F : Nat → Int32} {dw w : Nat} (hd : dw < 9) (hw : w ≤ 4) : ∀ n, n ≤ 48 → ∀ k, k < 48 → lp_X1_spread_10 F (ze dw) (zf dw) (nI w) (fun _ => (0 : Int32)) n k = nI (max (zmW F k n dw w) (zmN F k n)) ∧ zmW F k n dw w ≤ 5 ∧ zmN F k n ≤ 1 := by
  intro n
  induction n with
  | zero =>
    intro _ k _
    rw [lp_X1_spread_10_0]
    have q : ∀ d c v, znb F k 0 d c v = 0 := fun d c v => by unfold znb; rw [if_neg (fun z => Nat.not_lt_zero _ z.1)]
    unfold zmW zmN
    simp only [q]
    refine ⟨?_, by split <;> omega, by decide⟩
    split <;> rfl
  | succ n ih =>
    intro hn k hk
    obtain ⟨j1, j2, j3⟩ := ih (by omega) k hk
    have hn : n < 48 := hn
    rw [lp_X1_spread_10_s]
    unfold st_X1_spread_10
    generalize lp_X1_spread_10 F (ze dw) (zf dw) (nI w) (fun _ => (0 : Int32)) n = y at j1 ⊢
    have sN : zmN F k (n + 1) = max (zmN F k n) (if (5 : Int32) ≤ F n then max (max (if zt n 3 = k then 1 else 0) (if zt n 5 = k then 1 else 0)) (max (if zt n 1 = k then 1 else 0) (if zt n 7 = k then 1 else 0)) else 0) := by
      unfold zmN
      rw [znb_s hk hn (by decide : 5 < 9), znb_s hk hn (by decide : 3 < 9), znb_s hk hn (by decide : 7 < 9), znb_s hk hn (by decide : 1 < 9)]
      show max (max (max _ (if (5 : Int32) ≤ F n then (if zt n 3 = k then 1 else 0) else 0)) (max _ (if (5 : Int32) ≤ F n then (if zt n 5 = k then 1 else 0) else 0))) (max (max _ (if (5 : Int32) ≤ F n then (if zt n 1 = k then 1 else 0) else 0)) (max _ (if (5 : Int32) ≤ F n then (if zt n 7 = k then 1 else 0) else 0))) = _
      by_cases c : (5 : Int32) ≤ F n
      · rw [if_pos c, if_pos c, if_pos c, if_pos c, if_pos c]
        ac_rfl
      · rw [if_neg c, if_neg c, if_neg c, if_neg c, if_neg c]
        simp only [Nat.max_zero]
    have sW : zmW F k (n + 1) dw w = max (zmW F k n dw w) (if 0 < w then (if (3 : Int32) ≤ F n then (if zt n dw = k then w + 1 else 0) else 0) else 0) := by
      unfold zmW
      by_cases c : 0 < w
      · rw [if_pos c, if_pos c, if_pos c, znb_s hk hn (by omega : 8 - dw < 9), show 8 - (8 - dw) = dw by omega]
      · rw [if_neg c, if_neg c, if_neg c]; rfl
    have bN : zmN F k (n + 1) ≤ 1 := by
      rw [sN]
      have : (if (5 : Int32) ≤ F n then max (max (if zt n 3 = k then 1 else 0) (if zt n 5 = k then 1 else 0)) (max (if zt n 1 = k then 1 else 0) (if zt n 7 = k then 1 else 0)) else 0) ≤ 1 := by
        (repeat' split) <;> decide
      exact Nat.max_le.mpr ⟨j3, this⟩
    have bW : zmW F k (n + 1) dw w ≤ 5 := by
      rw [sW]
      have : (if 0 < w then (if (3 : Int32) ≤ F n then (if zt n dw = k then w + 1 else 0) else 0) else 0) ≤ 5 := by
        (repeat' split) <;> omega
      exact Nat.max_le.mpr ⟨j2, this⟩
    refine ⟨?_, bW, bN⟩
    have hm : max (zmW F k n dw w) (zmN F k n) ≤ 5 := Nat.max_le.mpr ⟨j2, by omega⟩
    -- the four neighbours
    have t4 : (if (F n) < (5 : Int32) then y else (g_X1_tell_x_6 (g_X1_tell_x_6 (g_X1_tell_x_6 (g_X1_tell_x_6 y (((nI n) - (nI n) / (8 : Int32) * (8 : Int32)) - (1 : Int32)) ((nI n) / (8 : Int32)) (1 : Int32)) (((nI n) - (nI n) / (8 : Int32) * (8 : Int32)) + (1 : Int32)) ((nI n) / (8 : Int32)) (1 : Int32)) ((nI n) - (nI n) / (8 : Int32) * (8 : Int32)) (((nI n) / (8 : Int32)) - (1 : Int32)) (1 : Int32)) ((nI n) - (nI n) / (8 : Int32) * (8 : Int32)) (((nI n) / (8 : Int32)) + (1 : Int32)) (1 : Int32))) k = nI (max (zmW F k n dw w) (zmN F k (n + 1))) := by
      rw [sN]
      by_cases c : (F n) < (5 : Int32)
      · rw [if_pos c, if_neg (Int32.not_le.mpr c), Nat.max_zero]; exact j1
      · rw [if_neg c, if_pos (Int32.not_lt.mp c), z4tells (F := F) hn hk j1 hm]
        exact congrArg nI (by ac_rfl)
    rw [sW]
    by_cases c3 : (F n) < (3 : Int32)
    · rw [if_pos c3, if_neg (Int32.not_le.mpr c3)]
      have e : (if 0 < w then 0 else 0) = 0 := by split <;> rfl
      rw [e, Nat.max_zero]
      exact t4
    · rw [if_neg c3, if_pos (Int32.not_lt.mp c3)]
      by_cases cw : nI w ≤ (0 : Int32)
      · have z : w = 0 := by
          rcases Nat.eq_zero_or_pos w with z | z
          · exact z
          · exact absurd cw (nI_nle z (by omega))
        rw [if_pos cw, if_neg (by omega : ¬ 0 < w), Nat.max_zero]
        exact t4
      · have z : 0 < w := by
          rcases Nat.eq_zero_or_pos w with z | z
          · rw [z] at cw; exact absurd Int32.le_rfl cw
          · exact z
        rw [if_neg cw, if_pos z]
        have h := ztell (d := dw) (σ := w + 1) (s := nI w + (1 : Int32)) (x := ((nI n) - (nI n) / (8 : Int32) * (8 : Int32)) + ze dw) (y := (nI n) / (8 : Int32) + zf dw) hn hd rfl rfl (nI_1 w) (by omega) hk t4 (Nat.max_le.mpr ⟨j2, by omega⟩)
        rw [h]
        exact congrArg nI (by ac_rfl)
