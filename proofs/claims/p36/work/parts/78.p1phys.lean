/-! the model's steps, class and reference, on the 48 cells: dig, burn -/
/-- alike on the first n places -/
def zEq (n : Nat) (f g : Nat → Int32) : Prop := ∀ k, k < n → f k = g k
/-- a number between 0 and N in each of the first n places -/
def zBd (n N : Nat) (f : Nat → Int32) : Prop := ∀ k, k < n → ∃ m, m ≤ N ∧ f k = nI m
theorem zEq_r {n : Nat} {f : Nat → Int32} : zEq n f f := fun _ _ => rfl
theorem zEq_u {n i : Nat} {f g : Nat → Int32} {v w : Int32} (h : zEq n f g) (hv : v = w) : zEq n (upd f i v) (upd g i w) := by
  intro k hk
  by_cases e : k = i
  · rw [e, upd_i, upd_i, hv]
  · rw [upd_o e, upd_o e]; exact h k hk
theorem zBd_u {n N i m : Nat} {f : Nat → Int32} {v : Int32} (h : zBd n N f) (hm : m ≤ N) (hv : v = nI m) : zBd n N (upd f i v) := by
  intro k hk
  by_cases e : k = i
  · rw [e, upd_i]; exact ⟨m, hm, hv⟩
  · rw [upd_o e]; exact h k hk
theorem zBd_e {n N : Nat} {f g : Nat → Int32} (h : zBd n N f) (e : zEq n f g) : zBd n N g := fun k hk => by
  obtain ⟨m, h1, h2⟩ := h k hk
  exact ⟨m, h1, (e k hk).symm.trans h2⟩
theorem zdg {m : Nat} (hm : m ≤ 6) : (nI m ≤ (0 : Int32) ↔ m = 0) ∧ (nI m = (0 : Int32) ↔ m = 0) ∧ (m ≠ 0 → (nI m - (1 : Int32) = nI (m - 1) ∧ (nI m - (1 : Int32) = (0 : Int32) ↔ nI m - (1 : Int32) ≤ (0 : Int32)))) := by
  rcases (by omega : m = 0 ∨ m = 1 ∨ m = 2 ∨ m = 3 ∨ m = 4 ∨ m = 5 ∨ m = 6) with rfl | rfl | rfl | rfl | rfl | rfl | rfl <;> decide
section ZDG
variable {f f' ln ln' c c' p p' : Nat → Int32}
theorem zdig (hf : zEq 48 f f') (hl : zEq 48 ln ln') (hc : zEq 3 c c') (hp : zEq 3 p p') (hb : zBd 3 6 c) : ∀ i, i ≤ 3 → zEq 48 (lp_X1_dig_2 p (f, ln, c) i).1 (lp_X8_dig_2 p' (c', f', ln') i).2.1 ∧ zEq 48 (lp_X1_dig_2 p (f, ln, c) i).2.1 (lp_X8_dig_2 p' (c', f', ln') i).2.2 ∧ zEq 3 (lp_X1_dig_2 p (f, ln, c) i).2.2 (lp_X8_dig_2 p' (c', f', ln') i).1 ∧ zBd 3 6 (lp_X1_dig_2 p (f, ln, c) i).2.2 := by
  intro i
  induction i with
  | zero => intro _; rw [lp_X1_dig_2_0, lp_X8_dig_2_0]; exact ⟨hf, hl, hc, hb⟩
  | succ i ih =>
    intro hi
    obtain ⟨j1, j2, j3, j4⟩ := ih (by omega)
    rw [lp_X1_dig_2_s, lp_X8_dig_2_s]
    unfold st_X1_dig_2 st_X8_dig_2
    obtain ⟨m, hm, e⟩ := j4 i (by omega)
    have e' := (j3 i (by omega)).symm.trans e
    obtain ⟨d1, d2, d3⟩ := zdg hm
    simp only [upd_i]
    rw [e, e', ← hp i (by omega)]
    by_cases z : m = 0
    · rw [if_pos (d1.mpr z), if_pos (d1.mpr z), if_pos (d1.mpr z), if_pos (d2.mpr z), if_pos (d2.mpr z), if_pos (d2.mpr z)]
      exact ⟨j1, j2, j3, j4⟩
    · obtain ⟨g1, g2⟩ := d3 z
      rw [if_neg (fun y => z (d1.mp y)), if_neg (fun y => z (d1.mp y)), if_neg (fun y => z (d1.mp y)), if_neg (fun y => z (d2.mp y)), if_neg (fun y => z (d2.mp y)), if_neg (fun y => z (d2.mp y))]
      refine ⟨?_, ?_, zEq_u j3 rfl, zBd_u j4 (by omega : m - 1 ≤ 6) g1⟩
      · by_cases y : nI m - (1 : Int32) = (0 : Int32)
        · rw [if_pos y, if_pos (g2.mp y)]; exact zEq_u j1 rfl
        · rw [if_neg y, if_neg (fun x => y (g2.mpr x))]; exact j1
      · by_cases y : nI m - (1 : Int32) = (0 : Int32)
        · rw [if_pos y, if_pos (g2.mp y)]; exact zEq_u j2 rfl
        · rw [if_neg y, if_neg (fun x => y (g2.mpr x))]; exact j2
/-- fires stay between 0 and 9 -/
theorem zdigb (hb : zBd 48 9 f) : ∀ i, zBd 48 9 (lp_X1_dig_2 p (f, ln, c) i).1 := by
  intro i
  induction i with
  | zero => rw [lp_X1_dig_2_0]; exact hb
  | succ i ih =>
    rw [lp_X1_dig_2_s]
    unfold st_X1_dig_2
    dsimp only
    (repeat' split) <;> first | exact ih | exact zBd_u ih (Nat.zero_le 9) rfl
end ZDG
/-! burn -/
theorem zburnt {a b : Nat} (ha : a ≤ 99) (hb : b ≤ 9) : (if nI a ≤ nI b then nI a else nI b) = nI (min a b) ∧ (if nI a < nI b then nI a else nI b) = nI (min a b) := by
  constructor
  · by_cases c : a ≤ b
    · rw [if_pos ((nI_leI (by omega) (by omega)).mpr c), Nat.min_eq_left c]
    · rw [if_neg (fun z => c ((nI_leI (by omega) (by omega)).mp z)), Nat.min_eq_right (by omega)]
  · by_cases c : a < b
    · rw [if_pos ((nI_ltI (by omega) (by omega)).mpr c), Nat.min_eq_left (by omega)]
    · rw [if_neg (fun z => c ((nI_ltI (by omega) (by omega)).mp z)), Nat.min_eq_right (by omega)]
theorem zsubN {a b : Nat} (h : b ≤ a) : nI a - nI b = nI (a - b) := by
  obtain ⟨k, rfl⟩ : ∃ k, a = b + k := ⟨a - b, by omega⟩
  rw [Nat.add_sub_cancel_left, ← nI_add, Int32.add_comm]
  exact Int32.add_sub_cancel _ _
theorem zten : ∀ m, m ≤ 9 → (nI m * (10 : Int32)).toInt64 = (10 : Int64) * (nI m).toInt64 := by
  intro m hm
  rcases (by omega : m = 0 ∨ m = 1 ∨ m = 2 ∨ m = 3 ∨ m = 4 ∨ m = 5 ∨ m = 6 ∨ m = 7 ∨ m = 8 ∨ m = 9) with rfl | rfl | rfl | rfl | rfl | rfl | rfl | rfl | rfl | rfl <;> decide
theorem zweak {b w : Nat} (hb : b ≤ 9) (hw : w ≤ 3) : (if nI w ≤ nI b then nI b - nI w else (0 : Int32)) = nI (b - w) ∧ (if (0 : Int32) < nI b - nI w then nI b - nI w else (0 : Int32)) = nI (b - w) := by
  rcases (by omega : w = 0 ∨ w = 1 ∨ w = 2 ∨ w = 3) with rfl | rfl | rfl | rfl <;> rcases (by omega : b = 0 ∨ b = 1 ∨ b = 2 ∨ b = 3 ∨ b = 4 ∨ b = 5 ∨ b = 6 ∨ b = 7 ∨ b = 8 ∨ b = 9) with rfl | rfl | rfl | rfl | rfl | rfl | rfl | rfl | rfl | rfl <;> decide
section ZBU
variable {fu fu' fi fi' sm sm' : Nat → Int32} {mk mk' : Int64} {ra : Nat}
theorem zburn (hu : zEq 48 fu fu') (hi : zEq 48 fi fi') (hs : zEq 48 sm sm') (bu : zBd 48 99 fu) (bi : zBd 48 9 fi) (hr : ra ≤ 9) : ∀ i, i ≤ 48 → zEq 48 (lp_X1_burn_9 (nI ra / (3 : Int32)) (fu, fi, sm, mk) i).1 (lp_X8_burn_2 (nI ra) (fu', fi', sm', mk') i).1 ∧ zEq 48 (lp_X1_burn_9 (nI ra / (3 : Int32)) (fu, fi, sm, mk) i).2.1 (lp_X8_burn_2 (nI ra) (fu', fi', sm', mk') i).2.1 ∧ zEq 48 (lp_X1_burn_9 (nI ra / (3 : Int32)) (fu, fi, sm, mk) i).2.2.1 (lp_X8_burn_2 (nI ra) (fu', fi', sm', mk') i).2.2.1 ∧ (mk = mk' → (lp_X1_burn_9 (nI ra / (3 : Int32)) (fu, fi, sm, mk) i).2.2.2 = (lp_X8_burn_2 (nI ra) (fu', fi', sm', mk') i).2.2.2) ∧ zBd 48 99 (lp_X1_burn_9 (nI ra / (3 : Int32)) (fu, fi, sm, mk) i).1 ∧ zBd 48 9 (lp_X1_burn_9 (nI ra / (3 : Int32)) (fu, fi, sm, mk) i).2.1 := by
  intro i
  induction i with
  | zero => intro _; rw [lp_X1_burn_9_0, lp_X8_burn_2_0]; exact ⟨hu, hi, hs, fun h => h, bu, bi⟩
  | succ i ih =>
    intro hk
    obtain ⟨j1, j2, j3, j4, j5, j6⟩ := ih (by omega)
    rw [lp_X1_burn_9_s, lp_X8_burn_2_s]
    generalize lp_X1_burn_9 (nI ra / (3 : Int32)) (fu, fi, sm, mk) i = y at j1 j2 j3 j4 j5 j6 ⊢
    generalize lp_X8_burn_2 (nI ra) (fu', fi', sm', mk') i = z at j1 j2 j3 j4 ⊢
    unfold st_X1_burn_9 st_X8_burn_2
    obtain ⟨a, ha, ea⟩ := j5 i (by omega)
    obtain ⟨b, hb, eb⟩ := j6 i (by omega)
    have ea' := (j1 i (by omega)).symm.trans ea
    have eb' := (j2 i (by omega)).symm.trans eb
    have e3 := j3 i (by omega)
    simp only [upd_i]
    rw [ea, eb, ea', eb', (zburnt ha hb).1, (zburnt ha hb).2, zsubN (Nat.min_le_left a b), show nI ra / (3 : Int32) = nI (ra / 3) from pk_div (by omega) (by decide) (by decide), (zweak hb (by omega : ra / 3 ≤ 3)).1, (zweak hb (by omega : ra / 3 ≤ 3)).2, ← e3, zten (min a b) (Nat.le_trans (Nat.min_le_right a b) hb), Int32.mul_comm (10 : Int32) (nI (min a b))]
    have q : ∃ m, m ≤ 9 ∧ (if nI (a - min a b) = (0 : Int32) then (0 : Int32) else nI (b - ra / 3)) = nI m := by
      by_cases z : nI (a - min a b) = (0 : Int32)
      · rw [if_pos z]; exact ⟨0, by decide, rfl⟩
      · rw [if_neg z]; exact ⟨b - ra / 3, by omega, rfl⟩
    obtain ⟨m, hm, em⟩ := q
    exact ⟨zEq_u j1 rfl, zEq_u j2 rfl, zEq_u j3 rfl, fun h => by rw [j4 h], zBd_u j5 (by omega : a - min a b ≤ 99) rfl, zBd_u j6 hm em⟩
end ZBU
