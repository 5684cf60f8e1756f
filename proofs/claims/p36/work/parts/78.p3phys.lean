/-! the reference's spread -/
def zNt (F : Nat → Int32) (i : Nat) : Int32 := (if (5 : Int32) ≤ (r_X8_fireAt F (((nI i) - (nI i) / (8 : Int32) * (8 : Int32)) - (1 : Int32)) ((nI i) / (8 : Int32))) then (1 : Int32) else (if (5 : Int32) ≤ (r_X8_fireAt F (((nI i) - (nI i) / (8 : Int32) * (8 : Int32)) + (1 : Int32)) ((nI i) / (8 : Int32))) then (1 : Int32) else (if (5 : Int32) ≤ (r_X8_fireAt F ((nI i) - (nI i) / (8 : Int32) * (8 : Int32)) (((nI i) / (8 : Int32)) - (1 : Int32))) then (1 : Int32) else (if (r_X8_fireAt F ((nI i) - (nI i) / (8 : Int32) * (8 : Int32)) (((nI i) / (8 : Int32)) + (1 : Int32))) < (5 : Int32) then (0 : Int32) else (1 : Int32)))))
def zTold (F : Nat → Int32) (wx wy ws : Int32) (i : Nat) : Int32 := (if wx = (0 : Int32) then (if wy = (0 : Int32) then (if (5 : Int32) ≤ (r_X8_fireAt F (((nI i) - (nI i) / (8 : Int32) * (8 : Int32)) - (1 : Int32)) ((nI i) / (8 : Int32))) then (1 : Int32) else (if (5 : Int32) ≤ (r_X8_fireAt F (((nI i) - (nI i) / (8 : Int32) * (8 : Int32)) + (1 : Int32)) ((nI i) / (8 : Int32))) then (1 : Int32) else (if (5 : Int32) ≤ (r_X8_fireAt F ((nI i) - (nI i) / (8 : Int32) * (8 : Int32)) (((nI i) / (8 : Int32)) - (1 : Int32))) then (1 : Int32) else (if (r_X8_fireAt F ((nI i) - (nI i) / (8 : Int32) * (8 : Int32)) (((nI i) / (8 : Int32)) + (1 : Int32))) < (5 : Int32) then (0 : Int32) else (1 : Int32))))) else (if ws ≤ (0 : Int32) then (if (5 : Int32) ≤ (r_X8_fireAt F (((nI i) - (nI i) / (8 : Int32) * (8 : Int32)) - (1 : Int32)) ((nI i) / (8 : Int32))) then (1 : Int32) else (if (5 : Int32) ≤ (r_X8_fireAt F (((nI i) - (nI i) / (8 : Int32) * (8 : Int32)) + (1 : Int32)) ((nI i) / (8 : Int32))) then (1 : Int32) else (if (5 : Int32) ≤ (r_X8_fireAt F ((nI i) - (nI i) / (8 : Int32) * (8 : Int32)) (((nI i) / (8 : Int32)) - (1 : Int32))) then (1 : Int32) else (if (r_X8_fireAt F ((nI i) - (nI i) / (8 : Int32) * (8 : Int32)) (((nI i) / (8 : Int32)) + (1 : Int32))) < (5 : Int32) then (0 : Int32) else (1 : Int32))))) else (if (r_X8_fireAt F (((nI i) - (nI i) / (8 : Int32) * (8 : Int32)) - wx) (((nI i) / (8 : Int32)) - wy)) < (3 : Int32) then (if (5 : Int32) ≤ (r_X8_fireAt F (((nI i) - (nI i) / (8 : Int32) * (8 : Int32)) - (1 : Int32)) ((nI i) / (8 : Int32))) then (1 : Int32) else (if (5 : Int32) ≤ (r_X8_fireAt F (((nI i) - (nI i) / (8 : Int32) * (8 : Int32)) + (1 : Int32)) ((nI i) / (8 : Int32))) then (1 : Int32) else (if (5 : Int32) ≤ (r_X8_fireAt F ((nI i) - (nI i) / (8 : Int32) * (8 : Int32)) (((nI i) / (8 : Int32)) - (1 : Int32))) then (1 : Int32) else (if (r_X8_fireAt F ((nI i) - (nI i) / (8 : Int32) * (8 : Int32)) (((nI i) / (8 : Int32)) + (1 : Int32))) < (5 : Int32) then (0 : Int32) else (1 : Int32))))) else ((1 : Int32) + ws)))) else (if ws ≤ (0 : Int32) then (if (5 : Int32) ≤ (r_X8_fireAt F (((nI i) - (nI i) / (8 : Int32) * (8 : Int32)) - (1 : Int32)) ((nI i) / (8 : Int32))) then (1 : Int32) else (if (5 : Int32) ≤ (r_X8_fireAt F (((nI i) - (nI i) / (8 : Int32) * (8 : Int32)) + (1 : Int32)) ((nI i) / (8 : Int32))) then (1 : Int32) else (if (5 : Int32) ≤ (r_X8_fireAt F ((nI i) - (nI i) / (8 : Int32) * (8 : Int32)) (((nI i) / (8 : Int32)) - (1 : Int32))) then (1 : Int32) else (if (r_X8_fireAt F ((nI i) - (nI i) / (8 : Int32) * (8 : Int32)) (((nI i) / (8 : Int32)) + (1 : Int32))) < (5 : Int32) then (0 : Int32) else (1 : Int32))))) else (if (r_X8_fireAt F (((nI i) - (nI i) / (8 : Int32) * (8 : Int32)) - wx) (((nI i) / (8 : Int32)) - wy)) < (3 : Int32) then (if (5 : Int32) ≤ (r_X8_fireAt F (((nI i) - (nI i) / (8 : Int32) * (8 : Int32)) - (1 : Int32)) ((nI i) / (8 : Int32))) then (1 : Int32) else (if (5 : Int32) ≤ (r_X8_fireAt F (((nI i) - (nI i) / (8 : Int32) * (8 : Int32)) + (1 : Int32)) ((nI i) / (8 : Int32))) then (1 : Int32) else (if (5 : Int32) ≤ (r_X8_fireAt F ((nI i) - (nI i) / (8 : Int32) * (8 : Int32)) (((nI i) / (8 : Int32)) - (1 : Int32))) then (1 : Int32) else (if (r_X8_fireAt F ((nI i) - (nI i) / (8 : Int32) * (8 : Int32)) (((nI i) / (8 : Int32)) + (1 : Int32))) < (5 : Int32) then (0 : Int32) else (1 : Int32))))) else ((1 : Int32) + ws))))
theorem zTold_d (F : Nat → Int32) (wx wy ws : Int32) (i : Nat) : zTold F wx wy ws i = (if wx = (0 : Int32) then (if wy = (0 : Int32) then zNt F i else (if ws ≤ (0 : Int32) then zNt F i else (if (r_X8_fireAt F (((nI i) - (nI i) / (8 : Int32) * (8 : Int32)) - wx) (((nI i) / (8 : Int32)) - wy)) < (3 : Int32) then zNt F i else ((1 : Int32) + ws)))) else (if ws ≤ (0 : Int32) then zNt F i else (if (r_X8_fireAt F (((nI i) - (nI i) / (8 : Int32) * (8 : Int32)) - wx) (((nI i) / (8 : Int32)) - wy)) < (3 : Int32) then zNt F i else ((1 : Int32) + ws)))) := rfl
theorem zst8 (f0 F ln : Nat → Int32) (wx wy ws : Int32) (i : Nat) (y : Nat → Int32) : st_X8_spread_13 f0 F ln wx wy ws i y = (if (f0 i) ≤ (0 : Int32) then y else (if (ln i) = (0 : Int32) then (upd y i (if (y i) < zTold F wx wy ws i then zTold F wx wy ws i else (y i))) else y)) := rfl
theorem zfa {F : Nat → Int32} {k d : Nat} {x y c : Int32} (hk : k < 48) (hd : d < 9) (hx : x = zgX k + ze d) (hy : y = zgY k + zf d) (hc : ¬ c ≤ (0 : Int32)) : c ≤ r_X8_fireAt F x y ↔ (zt k d < 48 ∧ c ≤ F (zt k d)) := by
  have g := zt_geo d hd k hk
  subst hx hy
  unfold r_X8_fireAt
  rw [← zcellE]
  by_cases q : r_X7_isCell (zgX k + ze d) (zgY k + zf d) = (0 : Int32)
  · rw [if_pos q] at g ⊢
    exact ⟨fun z => absurd z hc, fun z => absurd z.1 (by omega)⟩
  · rw [if_neg q] at g ⊢
    rw [g]
    have h99 : zt k d < 48 := by
      rcases zt_lt hk hd with z | z
      · exact z
      · rw [z] at g
        have hin := zmcell_ix (a := zgX k + ze d) (b := zgY k + zf d) (by rw [← zcellE]; exact q)
        obtain ⟨j, hj, e⟩ := vp_in_of hin (by decide)
        rw [e, nI_clamp (by omega)] at g
        omega
    exact ⟨fun z => ⟨h99, z⟩, fun z => z.2⟩
theorem ze_neg : ∀ d, d < 9 → -(ze d) = ze (8 - d) ∧ -(zf d) = zf (8 - d) := by decide
theorem ze_0 : ∀ d, d < 9 → ze d = (0 : Int32) → zf d = (0 : Int32) → d = 4 := by decide
theorem zNt_eq {F F' : Nat → Int32} {k : Nat} (hk : k < 48) (hF : zEq 48 F F') : zNt F' k = nI (zmN F k 48) := by
  have p1 := zfa (F := F') (x := ((nI k) - (nI k) / (8 : Int32) * (8 : Int32)) - (1 : Int32)) (y := (nI k) / (8 : Int32)) (c := (5 : Int32)) hk (by decide : 3 < 9) zsb1 (Int32.add_zero _).symm (by decide)
  have p2 := zfa (F := F') (x := ((nI k) - (nI k) / (8 : Int32) * (8 : Int32)) + (1 : Int32)) (y := (nI k) / (8 : Int32)) (c := (5 : Int32)) hk (by decide : 5 < 9) rfl (Int32.add_zero _).symm (by decide)
  have p3 := zfa (F := F') (x := (nI k) - (nI k) / (8 : Int32) * (8 : Int32)) (y := ((nI k) / (8 : Int32)) - (1 : Int32)) (c := (5 : Int32)) hk (by decide : 1 < 9) (Int32.add_zero _).symm zsb1 (by decide)
  have p4 := zfa (F := F') (x := (nI k) - (nI k) / (8 : Int32) * (8 : Int32)) (y := ((nI k) / (8 : Int32)) + (1 : Int32)) (c := (5 : Int32)) hk (by decide : 7 < 9) (Int32.add_zero _).symm rfl (by decide)
  have ex : ∀ d, (zt k d < 48 ∧ (5 : Int32) ≤ F' (zt k d)) ↔ (zt k d < 48 ∧ (5 : Int32) ≤ F (zt k d)) := fun d => ⟨fun z => ⟨z.1, by rw [hF _ z.1]; exact z.2⟩, fun z => ⟨z.1, by rw [← hF _ z.1]; exact z.2⟩⟩
  rw [ex] at p1 p2 p3 p4
  unfold zNt zmN znb
  by_cases c1 : zt k 3 < 48 ∧ (5 : Int32) ≤ F (zt k 3)
  · rw [if_pos (p1.mpr c1), if_pos c1]
    (repeat' split) <;> rfl
  · rw [if_neg (fun z => c1 (p1.mp z)), if_neg c1]
    by_cases c2 : zt k 5 < 48 ∧ (5 : Int32) ≤ F (zt k 5)
    · rw [if_pos (p2.mpr c2), if_pos c2]
      (repeat' split) <;> rfl
    · rw [if_neg (fun z => c2 (p2.mp z)), if_neg c2]
      by_cases c3 : zt k 1 < 48 ∧ (5 : Int32) ≤ F (zt k 1)
      · rw [if_pos (p3.mpr c3), if_pos c3]
        (repeat' split) <;> rfl
      · rw [if_neg (fun z => c3 (p3.mp z)), if_neg c3]
        by_cases c4 : zt k 7 < 48 ∧ (5 : Int32) ≤ F (zt k 7)
        · rw [if_neg (Int32.not_lt.mpr (p4.mpr c4)), if_pos c4]; rfl
        · rw [if_pos (Int32.not_le.mp (fun z => c4 (p4.mp z))), if_neg c4]; rfl
theorem zTold_eq {F F' : Nat → Int32} {k dw w : Nat} (hk : k < 48) (hF : zEq 48 F F') (hd : dw < 9) (hw : w ≤ 4) (h4 : 0 < w → dw ≠ 4) : zTold F' (ze dw) (zf dw) (nI w) k = nI (max (zmW F k 48 dw w) (zmN F k 48)) := by
  have bN : zmN F k 48 ≤ 1 := by unfold zmN znb; (repeat' split) <;> decide
  have ng := ze_neg dw hd
  have pw := zfa (F := F') (x := ((nI k) - (nI k) / (8 : Int32) * (8 : Int32)) - ze dw) (y := ((nI k) / (8 : Int32)) - zf dw) (c := (3 : Int32)) hk (by omega : 8 - dw < 9) (by rw [Int32.sub_eq_add_neg, ng.1]; rfl) (by rw [Int32.sub_eq_add_neg, ng.2]; rfl) (by decide)
  have ex : (zt k (8 - dw) < 48 ∧ (3 : Int32) ≤ F' (zt k (8 - dw))) ↔ (zt k (8 - dw) < 48 ∧ (3 : Int32) ≤ F (zt k (8 - dw))) := ⟨fun z => ⟨z.1, by rw [hF _ z.1]; exact z.2⟩, fun z => ⟨z.1, by rw [← hF _ z.1]; exact z.2⟩⟩
  rw [ex] at pw
  rw [zTold_d, zNt_eq hk hF]
  have core : (if nI w ≤ (0 : Int32) then nI (zmN F k 48) else (if (r_X8_fireAt F' (((nI k) - (nI k) / (8 : Int32) * (8 : Int32)) - ze dw) (((nI k) / (8 : Int32)) - zf dw)) < (3 : Int32) then nI (zmN F k 48) else ((1 : Int32) + nI w))) = nI (max (zmW F k 48 dw w) (zmN F k 48)) := by
    unfold zmW
    rcases Nat.eq_zero_or_pos w with z | z
    · rw [z, if_pos (by decide), if_neg (Nat.lt_irrefl 0), Nat.zero_max]
    · rw [if_neg (nI_nle z (by omega)), if_pos z]
      unfold znb
      by_cases q : zt k (8 - dw) < 48 ∧ (3 : Int32) ≤ F (zt k (8 - dw))
      · rw [if_neg (Int32.not_lt.mpr (pw.mpr q)), if_pos q, Nat.max_eq_left (by omega), Int32.add_comm, nI_1]
      · rw [if_pos (Int32.not_le.mp (fun y => q (pw.mp y))), if_neg q, Nat.zero_max]
  by_cases c1 : ze dw = (0 : Int32)
  · rw [if_pos c1]
    by_cases c2 : zf dw = (0 : Int32)
    · rw [if_pos c2]
      have z : ¬ 0 < w := fun z => h4 z (ze_0 dw hd c1 c2)
      unfold zmW
      rw [if_neg z, Nat.zero_max]
    · rw [if_neg c2]; exact core
  · rw [if_neg c1]; exact core
section ZSP
variable {fu fu' fi fi' ln ln' : Nat → Int32} {dw w : Nat}
theorem zspread (hu : zEq 48 fu fu') (hi : zEq 48 fi fi') (hl : zEq 48 ln ln') (bi : zBd 48 9 fi) (hd : dw < 9) (hw : w ≤ 4) (h4 : 0 < w → dw ≠ 4) : zEq 48 (g_X1_spread_x_1 fu fi ln (ze dw) (zf dw) (nI w)) (g_X8_spread_ml_3 fu' fi' ln' (ze dw) (zf dw) (nI w)) ∧ zBd 48 9 (g_X1_spread_x_1 fu fi ln (ze dw) (zf dw) (nI w)) := by
  unfold g_X1_spread_x_1 g_X8_spread_ml_3
  have hp := fun k hk => zgpush (F := fi) (dw := dw) (w := w) hd hw 48 (Nat.le_refl _) k hk
  generalize lp_X1_spread_10 fi (ze dw) (zf dw) (nI w) (fun _ => (0 : Int32)) 48 = br at hp ⊢
  have L : ∀ i, i ≤ 48 → zEq 48 (lp_X1_spread_119 fu ln br fi i) (lp_X8_spread_13 fu' fi' ln' (ze dw) (zf dw) (nI w) fi' i) ∧ zBd 48 9 (lp_X1_spread_119 fu ln br fi i) := by
    intro i
    induction i with
    | zero => intro _; rw [lp_X1_spread_119_0, lp_X8_spread_13_0]; exact ⟨hi, bi⟩
    | succ i ih =>
      intro hk
      have hk : i < 48 := hk
      obtain ⟨j1, j2⟩ := ih (by omega)
      rw [lp_X1_spread_119_s, lp_X8_spread_13_s, zst8]
      unfold st_X1_spread_119
      obtain ⟨p1, p2, p3⟩ := hp i hk
      rw [zTold_eq hk hi hd hw h4, p1, ← hu i hk, ← hl i hk]
      have e := j1 i hk
      have hm : max (zmW fi i 48 dw w) (zmN fi i 48) ≤ 9 := Nat.max_le.mpr ⟨by omega, by omega⟩
      generalize max (zmW fi i 48 dw w) (zmN fi i 48) = T at hm ⊢
      by_cases c1 : (fu i) ≤ (0 : Int32)
      · rw [if_pos c1, if_pos c1]; exact ⟨j1, j2⟩
      · rw [if_neg c1, if_neg c1]
        by_cases c2 : ln i = (0 : Int32)
        · rw [if_pos c2, if_pos c2, ← e]
          by_cases c3 : nI T ≤ lp_X1_spread_119 fu ln br fi i i
          · rw [if_pos c3, if_neg (Int32.not_lt.mpr c3)]
            refine ⟨fun k hk => ?_, j2⟩
            by_cases y : k = i
            · rw [y, upd_i]
            · rw [upd_o y]; exact j1 k hk
          · rw [if_neg c3, if_pos (Int32.not_le.mp c3)]
            exact ⟨zEq_u j1 rfl, zBd_u j2 hm rfl⟩
        · rw [if_neg c2, if_neg c2]; exact ⟨j1, j2⟩
  exact L 48 (Nat.le_refl _)
end ZSP
/-! one hour of the model -/
/-- the cells and the crews, alike, and within their bounds -/
def zLnd (fu fi sm ln cl cp fu' fi' sm' ln' cl' cp' : Nat → Int32) : Prop := zEq 48 fu fu' ∧ zEq 48 fi fi' ∧ zEq 48 sm sm' ∧ zEq 48 ln ln' ∧ zEq 3 cl cl' ∧ zEq 3 cp cp' ∧ zBd 48 99 fu ∧ zBd 48 9 fi ∧ zBd 3 6 cl
theorem zhour {fu fi sm ln cl cp fu' fi' sm' ln' cl' cp' : Nat → Int32} {dw w ra : Nat} {mk mk' bl bl' st st' : Int64} (h : zLnd fu fi sm ln cl cp fu' fi' sm' ln' cl' cp') (hd : dw < 9) (hw : w ≤ 4) (h4 : 0 < w → dw ≠ 4) (hr : ra ≤ 9) :
    zLnd (g_X1_runModel_x_0 fu fi sm ln cl cp (nI ra) mk) (g_X1_runModel_x_1 fu fi sm ln cl cp (ze dw) (zf dw) (nI w) (nI ra) mk) (g_X1_runModel_x_2 fu fi sm ln cl cp (ze dw) (zf dw) (nI w) (nI ra) mk bl st w) (g_X1_runModel_x_3 fi ln cl cp) (g_X1_runModel_x_4 fi ln cl cp) cp
      (g_X8_hour_ml_0 fu' cl' cp' fi' sm' ln' (nI ra) mk') (g_X8_hour_ml_3 fu' cl' cp' fi' sm' ln' (ze dw) (zf dw) (nI w) (nI ra) mk') (g_X8_hour_ml_4 fu' cl' cp' fi' sm' ln' (ze dw) (zf dw) (nI ra) mk' bl' st' w) (g_X8_hour_ml_5 cl' cp' fi' ln') (g_X8_hour_ml_1 cl' cp' fi' ln') cp' ∧
    (mk = mk' → g_X1_runModel_x_11 fu fi sm ln cl cp (nI ra) mk = g_X8_hour_ml_10 fu' cl' cp' fi' sm' ln' (nI ra) mk') ∧
    (bl = bl' → g_X1_runModel_x_12 fu fi sm ln cl cp (ze dw) (zf dw) (nI w) (nI ra) mk bl w = g_X8_hour_ml_11 fu' cl' cp' fi' sm' ln' (ze dw) (zf dw) (nI ra) mk' bl' w) ∧
    (st = st' → g_X1_runModel_x_13 fu fi sm ln cl cp (ze dw) (zf dw) (nI w) (nI ra) mk bl st w = g_X8_hour_ml_12 fu' cl' cp' fi' sm' ln' (ze dw) (zf dw) (nI ra) mk' bl' st' w) := by
  obtain ⟨h1, h2, h3, h5, h6, h7, b1, b2, b3⟩ := h
  obtain ⟨d1, d2, d3, d4⟩ := zdig h2 h5 h6 h7 b3 3 (Nat.le_refl _)
  have d5 := zdigb (p := cp) (c := cl) (ln := ln) b2 3
  obtain ⟨u1, u2, u3, u4, u5, u6⟩ := zburn (mk := mk) (mk' := mk') h1 d1 h3 b1 d5 hr 48 (Nat.le_refl _)
  obtain ⟨s1, s2⟩ := zspread u1 u2 d2 u6 hd hw h4
  have c1 := zcarN (wx := ze dw) (wy := zf dw) (bl := bl) (bl' := bl') (br := g_X1_spread_x_6 (g_X1_burn_x_1 fu (g_X1_dig_x_1 fi ln cl cp) sm (nI ra) mk) (ze dw) (zf dw) (nI w)) u3 w
  have e1 := zsettle (ra := nI ra) (se := st) (se' := st') c1.1 48 (Nat.le_refl _)
  exact ⟨⟨u1, s1, e1.1, d2, d3, h7, u5, s2, d4⟩, u4, c1.2, e1.2⟩
