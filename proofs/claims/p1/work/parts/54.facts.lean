/-! the checks of class and reference are alike -/
theorem zlq {x y : Int64} (h : x = y) : lg_cmp x y = 0 := by
  subst h
  unfold lg_cmp
  simp
theorem zul {f : Nat → Int64} {i : Nat} {v : Int64} : vp_updL f i v i = v := if_pos rfl
theorem zb_rng (a b d : Int32) : x_X7_checkRange a b d = (if r_X12_isBetween a b d = (0 : Int32) then (2 : Int32) else (0 : Int32)) := by
  unfold x_X7_checkRange r_X12_isBetween
  by_cases c1 : a < b
  · rw [if_pos c1, if_pos c1]; rfl
  · rw [if_neg c1, if_neg c1]
    by_cases c2 : a ≤ d
    · rw [if_pos c2, if_neg (Int32.not_lt.mpr c2)]; rfl
    · rw [if_neg c2, if_pos (Int32.not_le.mp c2)]; rfl
theorem zb_cell (a b : Int32) : r_X7_isCell a b = r_X12_isCell a b := by
  have e1 : (8 : Int32) ≤ a ↔ (7 : Int32) < a := by
    rw [zle, zlt]
    show (8 : Int) ≤ _ ↔ (7 : Int) < _
    omega
  have e2 : (6 : Int32) ≤ b ↔ (5 : Int32) < b := by
    rw [zle, zlt]
    show (6 : Int) ≤ _ ↔ (5 : Int) < _
    omega
  unfold r_X7_isCell r_X12_isCell r_X12_isBetween
  by_cases c1 : a < (0 : Int32)
  · rw [if_pos c1, if_pos c1]; rfl
  · rw [if_neg c1, if_neg c1]
    by_cases c2 : (7 : Int32) < a
    · rw [if_pos (e1.mpr c2), if_pos c2]; rfl
    · rw [if_neg (fun h => c2 (e1.mp h)), if_neg c2, if_neg (by decide : ¬ (1 : Int32) = 0)]
      by_cases c3 : b < (0 : Int32)
      · rw [if_pos c3, if_pos c3]; rfl
      · rw [if_neg c3, if_neg c3]
        by_cases c4 : (5 : Int32) < b
        · rw [if_pos (e2.mpr c4), if_pos c4]; rfl
        · rw [if_neg (fun h => c4 (e2.mp h)), if_neg c4]; rfl
theorem zb_place (a b : Int32) : x_X7_placeOf a b = (if r_X12_isCell a b = (0 : Int32) then (1 : Int32) else (0 : Int32)) := by
  unfold x_X7_placeOf
  rw [zb_cell]
theorem zb_at {a b : Int32} (h : ¬ r_X12_isCell a b = (0 : Int32)) : r_X7_placeOf a b = r_X12_at a b := by
  unfold r_X7_placeOf r_X12_at
  rw [zb_cell, if_neg h]
theorem zb_num0 (a : Int32) : x_X7_checkNumber a (0 : Int32) = (1 : Int32) := by
  unfold x_X7_checkNumber
  by_cases c1 : a < (0 : Int32)
  · rw [if_pos c1]
  · rw [if_neg c1, if_neg c1]
theorem zb_num1 (a : Int32) : x_X7_checkNumber a (nI 0) = (1 : Int32) := zb_num0 a
theorem zb_wr (a : Int32) : r_X12_isWrong a = (if a ≤ (0 : Int32) then (0 : Int32) else (1 : Int32)) := rfl
theorem zk1 {x : Int32} (h : (if x = (0 : Int32) then (0 : Int32) else (1 : Int32)) = (0 : Int32)) : x = 0 := by
  by_cases c : x = (0 : Int32)
  · exact c
  · rw [if_neg c] at h; exact absurd h (by decide)
theorem zk2 {x y : Int32} (h : (if x = (0 : Int32) then (0 : Int32) else (if x = y then (1 : Int32) else (2 : Int32))) = (0 : Int32)) : x = 0 := by
  by_cases c : x = (0 : Int32)
  · exact c
  · rw [if_neg c] at h
    split at h <;> exact absurd h (by decide)
theorem zk3 {x y z : Int32} (h : (if x = (0 : Int32) then (0 : Int32) else (if x = y then (1 : Int32) else (if x = z then (2 : Int32) else (3 : Int32)))) = (0 : Int32)) : x = 0 := by
  by_cases c : x = (0 : Int32)
  · exact c
  · rw [if_neg c] at h
    (repeat' split at h) <;> exact absurd h (by decide)
theorem zf_kindle (p f : Int32) (hf : ¬ f ≤ (0 : Int32)) : r_X1_kindle zz p f = 1 := by
  unfold r_X1_kindle
  rw [if_neg hf]
  exact if_pos (if_pos rfl)
theorem zf_hours (q_la_5 : Nat → Int32) (q_la_7 : Int32) (q_la_8 : Int32) (q_la_9 : Int32) (q_la_10 : Int32) (q_sc_1 : Nat → Int32) (q_sc_2 : Nat → Int32) (q_sc_3 : Int32) (q_se_1 : Nat → Int32) (q_se_3 : Nat → Int32) (q_su_1 : Nat → Int32) (q_su_2 : Nat → Int32) (q_su_3 : Nat → Int32) (q_su_4 : Nat → Int32) (ns : Nat) (nu : Nat) (nc : Nat) (k : Nat) (y : (Nat → Int32) × (Nat → Int32) × (Nat → Int32) × (Nat → Int32) × (Nat → Int32) × (Nat → Int32) × (Nat → Int32) × Int32 × Int32 × Int32 × Int32 × Int64 × Int64 × Int64 × (Nat → Int32) × (Nat → Int32) × (Nat → Int32) × (Nat → Int32) × (Nat → Int32) × (Nat → Int32) × Int64 × Int64 × Int64 × (Nat → Int32) × (Nat → Int32) × Int32 × (Nat → Int32) × (Nat → Int32) × (Nat → Int32) × (Nat → Int32) × (Nat → Int32) × (Nat → Int32) × Int64 × (Nat → Int32) × (Nat → Int32) × (Nat → Int32) × (Nat → Int32) × Nat × Nat × Nat × Nat × Int32) : ∀ n, (lp_X6_perform_10_210 q_la_5 q_la_7 q_la_8 q_la_9 q_la_10 q_sc_1 q_sc_2 q_sc_3 q_se_1 q_se_3 q_su_1 q_su_2 q_su_3 q_su_4 ns nu nc k y n).2.2.2.2.2.2.2.2.2.2.2.2.2.2.2.2.2.2.2.2.2.2.2.2.2.2.2.2.2.2.2.2.2.2.2.2.2.2.2.2.2 = y.2.2.2.2.2.2.2.2.2.2.2.2.2.2.2.2.2.2.2.2.2.2.2.2.2.2.2.2.2.2.2.2.2.2.2.2.2.2.2.2.2 + nI n := by
  intro n
  induction n with
  | zero => rw [lp_X6_perform_10_210_0]; exact (Int32.add_zero _).symm
  | succ n ih =>
    rw [lp_X6_perform_10_210_s]
    show (lp_X6_perform_10_210 q_la_5 q_la_7 q_la_8 q_la_9 q_la_10 q_sc_1 q_sc_2 q_sc_3 q_se_1 q_se_3 q_su_1 q_su_2 q_su_3 q_su_4 ns nu nc k y n).2.2.2.2.2.2.2.2.2.2.2.2.2.2.2.2.2.2.2.2.2.2.2.2.2.2.2.2.2.2.2.2.2.2.2.2.2.2.2.2.2 + (1 : Int32) = _
    rw [ih, Int32.add_assoc, nI_1]
theorem zm_hours (q_ml_2 : Nat → Int32) (q_ml_6 : Int32) (q_ml_7 : Int32) (q_ml_8 : Int32) (q_ml_9 : Int32) (y : Int32 × (Nat → Int32) × (Nat → Int32) × (Nat → Int32) × (Nat → Int32) × (Nat → Int32) × Int64 × Int64 × Int64) : ∀ n, (lp_X12_pass_42 q_ml_2 q_ml_6 q_ml_7 q_ml_8 q_ml_9 y n).1 = y.1 + nI n := by
  intro n
  induction n with
  | zero => rw [lp_X12_pass_42_0]; exact (Int32.add_zero _).symm
  | succ n ih =>
    rw [lp_X12_pass_42_s]
    show (lp_X12_pass_42 q_ml_2 q_ml_6 q_ml_7 q_ml_8 q_ml_9 y n).1 + (1 : Int32) = _
    rw [ih, Int32.add_assoc, nI_1]
abbrev zT : Nat → Int32 := fun _ => (10 : Int32)
theorem zf_lk (n : Nat) : ∃ (b7 : Nat → Int32) (m2 z2 y2 : Int64), lp_X2_look_18 (g_X1_copyFrom_x_5 zz zz) (g_X1_copyFrom_x_7 (0 : Int32)) (g_X1_copyFrom_x_8 (0 : Int32)) (g_X1_copyFrom_x_9 (0 : Int32)) (g_X1_copyFrom_x_10 (0 : Int32)) 0 (zz, (g_X1_copyFrom_x_0 zT zT), (g_X1_copyFrom_x_1 zz zz), (g_X1_copyFrom_x_2 zz zz), (g_X1_copyFrom_x_3 zz zz), (g_X1_copyFrom_x_4 zz zz), zz, (0 : Int64), (0 : Int64), (0 : Int64)) n = (zz, zT, zz, zz, zz, zz, b7, m2, z2, y2) := by
  have e5 : g_X1_copyFrom_x_5 zz zz = zz := zcpy_c 0 3
  have e0 : g_X1_copyFrom_x_0 zT zT = zT := zcpy_c 10 48
  have e1 : g_X1_copyFrom_x_1 zz zz = zz := zcpy_c 0 48
  have e2 : g_X1_copyFrom_x_2 zz zz = zz := zcpy_c 0 48
  have e3 : g_X1_copyFrom_x_3 zz zz = zz := zf_line 48
  have e4 : g_X1_copyFrom_x_4 zz zz = zz := zcpy_c 0 3
  rw [e0, e1, e2, e3, e4, e5]
  exact zf_look (fun _ _ => rfl) _ _ _ _ _ _ _ _ n
theorem zf_fcl (n : Nat) : g_X2_look_w_2 zT zz zz zz zz zz zz (0 : Int64) (0 : Int64) (0 : Int64) zT zz zz zz zz zz (0 : Int32) (0 : Int32) (0 : Int32) (0 : Int32) n 0 = zz := by
  obtain ⟨b7, m2, z2, y2, e⟩ := zf_lk n
  exact congrArg (fun q => q.2.2.2.1) e
theorem zf_pkl (n : Nat) : g_X2_look_o_0 zT zz zz zz zz zz zz (0 : Int64) (0 : Int64) (0 : Int64) zT zz zz zz zz zz (0 : Int32) (0 : Int32) (0 : Int32) (0 : Int32) n 0 = zz := by
  obtain ⟨b7, m2, z2, y2, e⟩ := zf_lk n
  exact congrArg (fun q => q.1) e
theorem zm_fcl (n : Nat) (m z y : Int64) : (lp_X12_forecast_49 (va_cpy zz zz 0 0 3) (0 : Int32) (0 : Int32) (0 : Int32) (0 : Int32) (va_cpy zT zz 0 0 48, va_cpy zz zz 0 0 3, zz, zz, va_cpy zz zz 0 0 48, m, z, y) n).2.2.2.1 = zz := by
  have h3 : va_cpy zz zz 0 0 3 = zz := zcpy_c 0 3
  have h48 : va_cpy zz zz 0 0 48 = zz := zcpy_c 0 48
  rw [h3, h48]
  obtain ⟨m2, z2, y2, e⟩ := zm_fc (fu := va_cpy zT zz 0 0 48) (fun k hk => zcpy_l hk) zz (0 : Int32) m z y n
  rw [e]
theorem zm_wol (n : Nat) (v : Int32) (m z y : Int64) : (lp_X12_worstOf_18 (va_cpy zz zz 0 0 3) (0 : Int32) (0 : Int32) (0 : Int32) (0 : Int32) v (va_cpy zT zz 0 0 48, va_cpy zz zz 0 0 3, zz, zz, va_cpy zz zz 0 0 48, m, z, y, (0 : Int32)) n).2.2.2.2.2.2.2.2 = (0 : Int32) := by
  have h3 : va_cpy zz zz 0 0 3 = zz := zcpy_c 0 3
  have h48 : va_cpy zz zz 0 0 48 = zz := zcpy_c 0 48
  rw [h3, h48]
  obtain ⟨m2, z2, y2, e⟩ := zm_wo (fu := va_cpy zT zz 0 0 48) (fun k hk => zcpy_l hk) zz (0 : Int32) v m z y n
  rw [e]
theorem zf_sum : ∀ n, lp_X1_smokeInAll_4 zz (0 : Int64) n = 0 := by
  intro n
  induction n with
  | zero => rw [lp_X1_smokeInAll_4_0]
  | succ n ih => rw [lp_X1_smokeInAll_4_s, ih]; rfl
theorem zm_sum : ∀ n, lp_X12_meanSmoke_22 zz (0 : Int64) n = 0 := by
  intro n
  induction n with
  | zero => rw [lp_X12_meanSmoke_22_0]
  | succ n ih => rw [lp_X12_meanSmoke_22_s, ih]; rfl
theorem zmean7 : vf_n64 (FP.ddiv (FP.l2d (r_X1_smokeInAll zz)) 4631952216750555136) := by
  unfold r_X1_smokeInAll vf_n64
  rw [zf_sum]
  decide +kernel
theorem zmean12 : vf_n64 (FP.ddiv (FP.l2d (lp_X12_meanSmoke_22 zz (0 : Int64) 48)) 4631952216750555136) := by
  unfold vf_n64
  rw [zm_sum]
  decide +kernel
theorem zCap_0 : zCap 0 32 32 32 := ⟨by decide, by decide, by decide, by decide⟩
theorem zf_wa {s0 s1 s2 s3 s4 s6 s7 s8 x2 : Nat → Int32} {s9 s10 s11 s12 : Nat} {a b : Int32} : g_X5_warnAll_su_10 s0 s1 s2 s3 s4 s6 s7 s8 s9 s10 s11 s12 x2 a b 0 = s10 := by
  unfold g_X5_warnAll_su_10
  rw [lp_X5_warnAll_3_0]
set_option maxHeartbeats 4000000 in
theorem zf_cap (q_la_5 : Nat → Int32) (q_la_7 : Int32) (q_la_8 : Int32) (q_la_9 : Int32) (q_la_10 : Int32) (q_sc_1 : Nat → Int32) (q_sc_2 : Nat → Int32) (q_sc_3 : Int32) (q_se_1 : Nat → Int32) (q_se_3 : Nat → Int32) (q_su_1 : Nat → Int32) (q_su_2 : Nat → Int32) (q_su_3 : Nat → Int32) (q_su_4 : Nat → Int32) (ns : Nat) (nc : Nat) (k : Nat) (y : (Nat → Int32) × (Nat → Int32) × (Nat → Int32) × (Nat → Int32) × (Nat → Int32) × (Nat → Int32) × (Nat → Int32) × Int32 × Int32 × Int32 × Int32 × Int64 × Int64 × Int64 × (Nat → Int32) × (Nat → Int32) × (Nat → Int32) × (Nat → Int32) × (Nat → Int32) × (Nat → Int32) × Int64 × Int64 × Int64 × (Nat → Int32) × (Nat → Int32) × Int32 × (Nat → Int32) × (Nat → Int32) × (Nat → Int32) × (Nat → Int32) × (Nat → Int32) × (Nat → Int32) × Int64 × (Nat → Int32) × (Nat → Int32) × (Nat → Int32) × (Nat → Int32) × Nat × Nat × Nat × Nat × Int32) : ∀ n, (lp_X6_perform_10_210 q_la_5 q_la_7 q_la_8 q_la_9 q_la_10 q_sc_1 q_sc_2 q_sc_3 q_se_1 q_se_3 q_su_1 q_su_2 q_su_3 q_su_4 ns 0 nc k y n).2.2.2.2.2.2.2.2.2.2.2.2.2.2.2.2.2.2.2.2.2.2.2.2.2.2.2.2.2.2.2.2.2.2.2.2.2.2.1 = y.2.2.2.2.2.2.2.2.2.2.2.2.2.2.2.2.2.2.2.2.2.2.2.2.2.2.2.2.2.2.2.2.2.2.2.2.2.2.1 := by
  intro n
  induction n with
  | zero => rw [lp_X6_perform_10_210_0]
  | succ n ih =>
    rw [lp_X6_perform_10_210_s]
    exact zf_wa.trans ih
theorem q_setFuel_259 (xs : Nat → Int32) : (r_X12_thrown (g_X12_setFuel_md_0 (xs 1) (xs 2) (xs 3))) = (r_L_setFuel (xs 1) (xs 2) (xs 3)) := by
  simp only [r_X12_thrown, g_X12_setFuel_md_0, g_X12_isWrong_md_0, r_L_setFuel, x_X7_setFuel, zb_place, zb_rng, zb_num0, zb_num1, zb_wr, r_X6_perform_1, r_X1_replaceFuel]
  by_cases c1 : r_X12_isCell (xs 1) (xs 2) = (0 : Int32) <;> by_cases c2 : r_X12_isBetween (xs 3) (0 : Int32) (99 : Int32) = (0 : Int32) <;> simp (decide := true) [c1, c2]
theorem q_setFuel_276 (xs : Nat → Int32) (c_266 : (r_L_setFuel (xs 1) (xs 2) (xs 3)) = (0 : Int32)) : (lg_cmp ((g_L_setFuel_lo_0 (fun _ => (10 : Int32)) (fun _ => (0 : Int64)) (xs 1) (xs 2) (xs 3)) (nI 0).toNatClampNeg) ((r_X12_setFuel (fun _ => (10 : Int32)) (xs 1) (xs 2) (xs 3)).toInt64)) = (0 : Int32) := by
  refine zlq ?_
  have c := zk2 c_266
  unfold g_L_setFuel_lo_0
  rw [if_pos c, zul]
  refine congrArg Int32.toInt64 ?_
  simp only [x_X7_setFuel, zb_place, zb_rng, zb_num0, zb_num1, zb_wr, r_X6_perform_1, r_X1_replaceFuel] at c
  by_cases c1 : r_X12_isCell (xs 1) (xs 2) = (0 : Int32) <;> by_cases c2 : r_X12_isBetween (xs 3) (0 : Int32) (99 : Int32) = (0 : Int32) <;> (try simp (decide := true) [c1, c2] at c)
  all_goals simp (decide := true) [r_X7_setFuel, r_X12_setFuel, zb_place, zb_rng, zb_num0, zb_num1, zb_wr, r_X6_perform_1, r_X1_replaceFuel, c1, c2]
theorem q_light_339 (xs : Nat → Int32) : (r_X12_thrown (g_X12_light_md_0 (fun _ => (10 : Int32)) (fun _ => (0 : Int32)) (xs 1) (xs 2) (xs 3))) = (r_L_light (fun _ => (10 : Int32)) (fun _ => (0 : Int32)) (xs 1) (xs 2) (xs 3)) := by
  simp only [r_X12_thrown, g_X12_light_md_0, g_X12_isWrong_md_0, r_L_light, x_X7_light, zb_place, zb_rng, zb_num0, zb_num1, zb_wr, r_X12_isNoCell]
  by_cases c1 : r_X12_isCell (xs 1) (xs 2) = (0 : Int32) <;> by_cases c2 : r_X12_isBetween (xs 3) (1 : Int32) (9 : Int32) = (0 : Int32) <;> simp (decide := true) [c1, c2]
theorem q_light_363 (xs : Nat → Int32) (c_346 : (r_L_light (fun _ => (10 : Int32)) (fun _ => (0 : Int32)) (xs 1) (xs 2) (xs 3)) = (0 : Int32)) : (lg_cmp ((g_L_light_lo_0 (fun _ => (10 : Int32)) (fun _ => (0 : Int32)) (fun _ => (0 : Int32)) (fun _ => (0 : Int64)) (xs 1) (xs 2) (xs 3)) (nI 0).toNatClampNeg) (if (r_X12_light (fun _ => (10 : Int32)) (fun _ => (0 : Int32)) (fun _ => (0 : Int32)) (xs 1) (xs 2) (xs 3)) = (0 : Int32) then (0 : Int64) else (1 : Int64))) = (0 : Int32) := by
  refine zlq ?_
  have c := zk3 c_346
  unfold g_L_light_lo_0
  rw [if_pos c, zul]
  simp only [x_X7_light, zb_place, zb_rng, zb_num0, zb_num1, zb_wr, r_X12_isNoCell] at c
  by_cases c1 : r_X12_isCell (xs 1) (xs 2) = (0 : Int32) <;> by_cases c2 : r_X12_isBetween (xs 3) (1 : Int32) (9 : Int32) = (0 : Int32) <;> (try simp (decide := true) [c1, c2] at c)
  all_goals simp (decide := true) [r_X7_light, r_X12_light, zb_place, zb_rng, zb_num0, zb_num1, zb_wr, r_X12_isNoCell, c1, c2]
  have hp : ¬ xs 3 ≤ (0 : Int32) := fun h => c2 (if_pos (Int32.lt_of_le_of_lt h (by decide)))
  rw [if_neg hp]
  exact if_pos (zf_kindle _ _ hp)
theorem q_setWind_426 (xs : Nat → Int32) : (r_X12_thrown (g_X12_setWind_md_0 (xs 1) (xs 2) (xs 3))) = (r_L_setWind (xs 1) (xs 2) (xs 3)) := by
  simp only [r_X12_thrown, g_X12_setWind_md_0, g_X12_isWrong_md_0, r_L_setWind, x_X7_setWind, zb_place, zb_rng, zb_num0, zb_num1, zb_wr, r_X6_perform_3, r_X1_turnWind]
  by_cases c1 : r_X12_isBetween (xs 1) (-1 : Int32) (1 : Int32) = (0 : Int32) <;> by_cases c2 : r_X12_isBetween (xs 2) (-1 : Int32) (1 : Int32) = (0 : Int32) <;> by_cases c3 : xs 1 = (0 : Int32) <;> by_cases c4 : xs 2 = (0 : Int32) <;> by_cases c5 : r_X12_isBetween (xs 3) (0 : Int32) (0 : Int32) = (0 : Int32) <;> by_cases c6 : r_X12_isBetween (xs 3) (0 : Int32) (4 : Int32) = (0 : Int32) <;> simp (decide := true) [c1, c2, c3, c4, c5, c6]
theorem q_setWind_443 (xs : Nat → Int32) (c_433 : (r_L_setWind (xs 1) (xs 2) (xs 3)) = (0 : Int32)) : (lg_cmp ((g_L_setWind_lo_0 (0 : Int32) (fun _ => (0 : Int64)) (xs 1) (xs 2) (xs 3)) (nI 0).toNatClampNeg) ((r_X12_setWind (0 : Int32) (xs 1) (xs 2) (xs 3)).toInt64)) = (0 : Int32) := by
  refine zlq ?_
  have c := zk1 c_433
  unfold g_L_setWind_lo_0
  rw [if_pos c, zul]
  refine congrArg Int32.toInt64 ?_
  simp only [x_X7_setWind, zb_place, zb_rng, zb_num0, zb_num1, zb_wr, r_X6_perform_3, r_X1_turnWind] at c
  by_cases c1 : r_X12_isBetween (xs 1) (-1 : Int32) (1 : Int32) = (0 : Int32) <;> by_cases c2 : r_X12_isBetween (xs 2) (-1 : Int32) (1 : Int32) = (0 : Int32) <;> by_cases c3 : xs 1 = (0 : Int32) <;> by_cases c4 : xs 2 = (0 : Int32) <;> by_cases c5 : r_X12_isBetween (xs 3) (0 : Int32) (0 : Int32) = (0 : Int32) <;> by_cases c6 : r_X12_isBetween (xs 3) (0 : Int32) (4 : Int32) = (0 : Int32) <;> (try simp (decide := true) [c1, c2, c3, c4, c5, c6] at c)
  all_goals simp (decide := true) [r_X7_setWind, r_X12_setWind, zb_place, zb_rng, zb_num0, zb_num1, zb_wr, r_X6_perform_3, r_X1_turnWind, c1, c2, c3, c4, c5, c6]
theorem q_setRain_482 (xs : Nat → Int32) : (r_X12_thrown (g_X12_setRain_md_0 (xs 1))) = (r_L_setRain (xs 1)) := by
  simp only [r_X12_thrown, g_X12_setRain_md_0, g_X12_isWrong_md_0, r_L_setRain, x_X7_setRain, zb_place, zb_rng, zb_num0, zb_num1, zb_wr, r_X6_perform_4, r_X1_changeRain]
  by_cases c1 : r_X12_isBetween (xs 1) (0 : Int32) (9 : Int32) = (0 : Int32) <;> simp (decide := true) [c1]
theorem q_setRain_499 (xs : Nat → Int32) (c_489 : (r_L_setRain (xs 1)) = (0 : Int32)) : (lg_cmp ((g_L_setRain_lo_0 (0 : Int32) (fun _ => (0 : Int64)) (xs 1)) (nI 0).toNatClampNeg) ((r_X12_setRain (0 : Int32) (xs 1)).toInt64)) = (0 : Int32) := by
  refine zlq ?_
  have c := zk1 c_489
  unfold g_L_setRain_lo_0
  rw [if_pos c, zul]
  refine congrArg Int32.toInt64 ?_
  simp only [x_X7_setRain, zb_place, zb_rng, zb_num0, zb_num1, zb_wr, r_X6_perform_4, r_X1_changeRain] at c
  by_cases c1 : r_X12_isBetween (xs 1) (0 : Int32) (9 : Int32) = (0 : Int32) <;> (try simp (decide := true) [c1] at c)
  all_goals simp (decide := true) [r_X7_setRain, r_X12_setRain, zb_place, zb_rng, zb_num0, zb_num1, zb_wr, r_X6_perform_4, r_X1_changeRain, c1]
theorem q_digLine_562 (xs : Nat → Int32) : (r_X12_thrown (g_X12_digLine_md_0 (fun _ => (0 : Int32)) (fun _ => (0 : Int32)) (xs 1) (xs 2) (xs 3))) = (r_L_digLine (fun _ => (0 : Int32)) (fun _ => (0 : Int32)) (xs 1) (xs 2) (xs 3)) := by
  simp only [r_X12_thrown, g_X12_digLine_md_0, g_X12_isWrong_md_0, r_L_digLine, x_X7_digLine, zb_place, zb_rng, zb_num0, zb_num1, zb_wr, r_X12_isCrew, r_X6_perform_5, r_X1_sendCrew, i_X0_init, g_X1_sendCrew_x_4]
  by_cases c1 : r_X12_isCell (xs 1) (xs 2) = (0 : Int32) <;> by_cases c2 : r_X12_isBetween (xs 3) (0 : Int32) (2 : Int32) = (0 : Int32) <;> simp (decide := true) [c1, c2]
theorem q_digLine_579 (xs : Nat → Int32) (c_569 : (r_L_digLine (fun _ => (0 : Int32)) (fun _ => (0 : Int32)) (xs 1) (xs 2) (xs 3)) = (0 : Int32)) : (lg_cmp ((g_L_digLine_lo_0 (fun _ => (10 : Int32)) (fun _ => (0 : Int32)) (fun _ => (0 : Int32)) (fun _ => (0 : Int32)) (fun _ => (0 : Int64)) (xs 1) (xs 2) (xs 3)) (nI 0).toNatClampNeg) ((r_X12_digLine (fun _ => (10 : Int32)) (fun _ => (0 : Int32)) (fun _ => (0 : Int32)) (fun _ => (0 : Int32)) (xs 1) (xs 2) (xs 3)).toInt64)) = (0 : Int32) := by
  refine zlq ?_
  have c := zk3 c_569
  unfold g_L_digLine_lo_0
  rw [if_pos c, zul]
  refine congrArg Int32.toInt64 ?_
  simp only [x_X7_digLine, zb_place, zb_rng, zb_num0, zb_num1, zb_wr, r_X12_isCrew, r_X6_perform_5, r_X1_sendCrew, i_X0_init, g_X1_sendCrew_x_4] at c
  by_cases c1 : r_X12_isCell (xs 1) (xs 2) = (0 : Int32) <;> by_cases c2 : r_X12_isBetween (xs 3) (0 : Int32) (2 : Int32) = (0 : Int32) <;> (try simp (decide := true) [c1, c2] at c)
  all_goals simp (decide := true) [r_X7_digLine, r_X12_digLine, zb_place, zb_rng, zb_num0, zb_num1, zb_wr, r_X12_isCrew, r_X6_perform_5, r_X1_sendCrew, i_X0_init, g_X1_sendCrew_x_4, c1, c2]
theorem q_addSensor_630 (xs : Nat → Int32) : (r_X12_thrown (g_X12_addSensor_md_0 (xs 1) (xs 2))) = (r_L_addSensor (0 : Int32) (xs 1) (xs 2)) := by
  simp only [r_X12_thrown, g_X12_addSensor_md_0, g_X12_isWrong_md_0, r_L_addSensor, x_X7_addSensor, zb_place, zb_rng, zb_num0, zb_num1, zb_wr, r_X6_perform_6, r_X4_enter, x_X7_checkRoom, r_Jx4a65c_size_8abf5]
  by_cases c1 : r_X12_isCell (xs 1) (xs 2) = (0 : Int32) <;> simp (decide := true) [c1]
theorem q_addSensor_647 (xs : Nat → Int32) (c_637 : (r_L_addSensor (0 : Int32) (xs 1) (xs 2)) = (0 : Int32)) : (lg_cmp ((g_L_addSensor_lo_0 (fun _ => (0 : Int64)) (0 : Int32) (xs 1) (xs 2)) (nI 0).toNatClampNeg) ((r_X12_addSensor (xs 1) (xs 2)).toInt64)) = (0 : Int32) := by
  refine zlq ?_
  have c := zk2 c_637
  unfold g_L_addSensor_lo_0
  rw [if_pos c, zul]
  refine congrArg Int32.toInt64 ?_
  simp only [x_X7_addSensor, zb_place, zb_rng, zb_num0, zb_num1, zb_wr, r_X6_perform_6, r_X4_enter, x_X7_checkRoom, r_Jx4a65c_size_8abf5] at c
  by_cases c1 : r_X12_isCell (xs 1) (xs 2) = (0 : Int32) <;> (try simp (decide := true) [c1] at c)
  all_goals simp (decide := true) [r_X7_addSensor, r_X12_addSensor, zb_place, zb_rng, zb_num0, zb_num1, zb_wr, r_X6_perform_6, r_X4_enter, x_X7_checkRoom, r_Jx4a65c_size_8abf5, c1]
theorem q_read_698 (xs : Nat → Int32) : (r_X12_thrown (g_X12_read_md_0)) = (r_L_read (0 : Int32) (xs 1) (xs 2)) := by
  simp (decide := true) only [r_X12_thrown, g_X12_read_md_0, g_X12_isWrong_md_0, r_L_read, x_X7_read, zb_place, zb_rng, zb_num0, zb_num1, zb_wr, if_true, if_false]
theorem q_read_715 (xs : Nat → Int32) (c_705 : (r_L_read (0 : Int32) (xs 1) (xs 2)) = (0 : Int32)) : (lg_cmp ((g_L_read_lo_0 (fun _ => (0 : Int64)) (fun _ => (0 : Int32)) (0 : Int32) (xs 1) (xs 2) 0) (nI 0).toNatClampNeg) r_X12_read.toInt64) = (0 : Int32) := by
  refine zlq ?_
  have c := zk2 c_705
  simp (decide := true) only [x_X7_read, zb_num0, zb_num1, if_true, if_false] at c
theorem q_trust_754 (xs : Nat → Int32) : (r_X12_thrown (g_X12_trust_md_0)) = (r_L_trust (0 : Int32) (xs 1)) := by
  simp (decide := true) only [r_X12_thrown, g_X12_trust_md_0, g_X12_isWrong_md_0, r_L_trust, x_X7_trust, zb_place, zb_rng, zb_num0, zb_num1, zb_wr, if_true, if_false]
theorem q_trust_771 (xs : Nat → Int32) (c_761 : (r_L_trust (0 : Int32) (xs 1)) = (0 : Int32)) : (lg_cmp ((g_L_trust_lo_0 (fun _ => (0 : Int64)) (fun _ => (0 : Int32)) (0 : Int32) (xs 1)) (nI 0).toNatClampNeg) r_X12_trust.toInt64) = (0 : Int32) := by
  refine zlq ?_
  have c := zk1 c_761
  simp (decide := true) only [x_X7_trust, zb_num0, zb_num1, if_true, if_false] at c
theorem q_stateOf_810 (xs : Nat → Int32) : (r_X12_thrown (g_X12_stateOf_md_0)) = (r_L_stateOf (0 : Int32) (xs 1)) := by
  simp (decide := true) only [r_X12_thrown, g_X12_stateOf_md_0, g_X12_isWrong_md_0, r_L_stateOf, x_X7_stateOf, zb_place, zb_rng, zb_num0, zb_num1, zb_wr, if_true, if_false]
theorem q_stateOf_827 (xs : Nat → Int32) (c_817 : (r_L_stateOf (0 : Int32) (xs 1)) = (0 : Int32)) : (lg_cmp ((g_L_stateOf_lo_0 (fun _ => (0 : Int64)) (fun _ => (0 : Int32)) (fun _ => (0 : Int32)) (0 : Int32) (xs 1)) (nI 0).toNatClampNeg) r_X12_stateOf.toInt64) = (0 : Int32) := by
  refine zlq ?_
  have c := zk1 c_817
  simp (decide := true) only [x_X7_stateOf, zb_num0, zb_num1, if_true, if_false] at c
theorem q_judged_866 (xs : Nat → Int32) : (r_X12_thrown (g_X12_judged_md_0)) = (r_L_judged (fun _ => (0 : Int32)) (fun _ => (0 : Int32)) (fun _ => (0 : Int32)) (fun _ => (0 : Int32)) (0 : Int32) (xs 1) 0) := by
  simp (decide := true) only [r_X12_thrown, g_X12_judged_md_0, g_X12_isWrong_md_0, r_L_judged, x_X7_judged, zb_place, zb_rng, zb_num0, zb_num1, zb_wr, if_true, if_false]
theorem q_judged_883 (xs : Nat → Int32) (c_873 : (r_L_judged (fun _ => (0 : Int32)) (fun _ => (0 : Int32)) (fun _ => (0 : Int32)) (fun _ => (0 : Int32)) (0 : Int32) (xs 1) 0) = (0 : Int32)) : (lg_cmp ((g_L_judged_lo_0 (fun _ => (0 : Int64)) (fun _ => (0 : Int32)) (fun _ => (0 : Int32)) (fun _ => (0 : Int32)) (fun _ => (0 : Int32)) (0 : Int32) (xs 1) 0) (nI 0).toNatClampNeg) r_X12_judged.toInt64) = (0 : Int32) := by
  refine zlq ?_
  have c := zk2 c_873
  simp (decide := true) only [x_X7_judged, zb_num0, zb_num1, if_true, if_false] at c
theorem q_subscribe_970 (xs : Nat → Int32) : (r_X12_thrown (g_X12_subscribe_md_0 (xs 1) (xs 2) (xs 3) (xs 4) (xs 5))) = (r_L_subscribe (0 : Int32) (xs 1) (xs 2) (xs 3) (xs 4) (xs 5)) := by
  simp only [r_X12_thrown, g_X12_subscribe_md_0, g_X12_isWrong_md_0, r_L_subscribe, x_X7_subscribe, zb_place, zb_rng, zb_num0, zb_num1, zb_wr, r_X6_perform_8, r_X5_enter, x_X7_checkRoom, r_Jx4a65c_size_8abf5]
  by_cases c1 : r_X12_isCell (xs 1) (xs 2) = (0 : Int32) <;> by_cases c2 : r_X12_isBetween (xs 3) (20 : Int32) (9999 : Int32) = (0 : Int32) <;> by_cases c3 : r_X12_isBetween (xs 4) (0 : Int32) (23 : Int32) = (0 : Int32) <;> by_cases c4 : r_X12_isBetween (xs 5) (0 : Int32) (23 : Int32) = (0 : Int32) <;> simp (decide := true) [c1, c2, c3, c4]
theorem q_subscribe_987 (xs : Nat → Int32) (c_977 : (r_L_subscribe (0 : Int32) (xs 1) (xs 2) (xs 3) (xs 4) (xs 5)) = (0 : Int32)) : (lg_cmp ((g_L_subscribe_lo_0 (fun _ => (0 : Int64)) (0 : Int32) (xs 1) (xs 2) (xs 3) (xs 4) (xs 5)) (nI 0).toNatClampNeg) ((r_X12_subscribe (xs 1) (xs 2) (xs 3) (xs 4) (xs 5)).toInt64)) = (0 : Int32) := by
  refine zlq ?_
  have c := zk3 c_977
  unfold g_L_subscribe_lo_0
  rw [if_pos c, zul]
  refine congrArg Int32.toInt64 ?_
  simp only [x_X7_subscribe, zb_place, zb_rng, zb_num0, zb_num1, zb_wr, r_X6_perform_8, r_X5_enter, x_X7_checkRoom, r_Jx4a65c_size_8abf5] at c
  by_cases c1 : r_X12_isCell (xs 1) (xs 2) = (0 : Int32) <;> by_cases c2 : r_X12_isBetween (xs 3) (20 : Int32) (9999 : Int32) = (0 : Int32) <;> by_cases c3 : r_X12_isBetween (xs 4) (0 : Int32) (23 : Int32) = (0 : Int32) <;> by_cases c4 : r_X12_isBetween (xs 5) (0 : Int32) (23 : Int32) = (0 : Int32) <;> (try simp (decide := true) [c1, c2, c3, c4] at c)
  all_goals simp (decide := true) [r_X7_subscribe, r_X12_subscribe, zb_place, zb_rng, zb_num0, zb_num1, zb_wr, r_X6_perform_8, r_X5_enter, x_X7_checkRoom, r_Jx4a65c_size_8abf5, c1, c2, c3, c4]
theorem q_addSchool_1050 (xs : Nat → Int32) : (r_X12_thrown (g_X12_addSchool_md_0 (xs 1) (xs 2) (xs 3))) = (r_L_addSchool (0 : Int32) (xs 1) (xs 2) (xs 3)) := by
  simp only [r_X12_thrown, g_X12_addSchool_md_0, g_X12_isWrong_md_0, r_L_addSchool, x_X7_addSchool, zb_place, zb_rng, zb_num0, zb_num1, zb_wr, r_X6_perform_9, r_X3_enter, x_X7_checkRoom, r_Jx4a65c_size_8abf5]
  by_cases c1 : r_X12_isCell (xs 1) (xs 2) = (0 : Int32) <;> by_cases c2 : r_X12_isBetween (xs 3) (20 : Int32) (9999 : Int32) = (0 : Int32) <;> simp (decide := true) [c1, c2]
theorem q_addSchool_1067 (xs : Nat → Int32) (c_1057 : (r_L_addSchool (0 : Int32) (xs 1) (xs 2) (xs 3)) = (0 : Int32)) : (lg_cmp ((g_L_addSchool_lo_0 (fun _ => (0 : Int64)) (0 : Int32) (xs 1) (xs 2) (xs 3)) (nI 0).toNatClampNeg) ((r_X12_addSchool (xs 1) (xs 2) (xs 3)).toInt64)) = (0 : Int32) := by
  refine zlq ?_
  have c := zk3 c_1057
  unfold g_L_addSchool_lo_0
  rw [if_pos c, zul]
  refine congrArg Int32.toInt64 ?_
  simp only [x_X7_addSchool, zb_place, zb_rng, zb_num0, zb_num1, zb_wr, r_X6_perform_9, r_X3_enter, x_X7_checkRoom, r_Jx4a65c_size_8abf5] at c
  by_cases c1 : r_X12_isCell (xs 1) (xs 2) = (0 : Int32) <;> by_cases c2 : r_X12_isBetween (xs 3) (20 : Int32) (9999 : Int32) = (0 : Int32) <;> (try simp (decide := true) [c1, c2] at c)
  all_goals simp (decide := true) [r_X7_addSchool, r_X12_addSchool, zb_place, zb_rng, zb_num0, zb_num1, zb_wr, r_X6_perform_9, r_X3_enter, x_X7_checkRoom, r_Jx4a65c_size_8abf5, c1, c2]
theorem q_isOpen_1106 (xs : Nat → Int32) : (r_X12_thrown (g_X12_isOpen_md_0)) = (r_L_isOpen (0 : Int32) (xs 1)) := by
  simp (decide := true) only [r_X12_thrown, g_X12_isOpen_md_0, g_X12_isWrong_md_0, r_L_isOpen, x_X7_isOpen, zb_place, zb_rng, zb_num0, zb_num1, zb_wr, if_true, if_false]
theorem q_isOpen_1130 (xs : Nat → Int32) (c_1113 : (r_L_isOpen (0 : Int32) (xs 1)) = (0 : Int32)) : (lg_cmp ((g_L_isOpen_lo_0 (fun _ => (0 : Int64)) (fun _ => (0 : Int32)) (0 : Int32) (xs 1)) (nI 0).toNatClampNeg) (if r_X12_isOpen = (0 : Int32) then (0 : Int64) else (1 : Int64))) = (0 : Int32) := by
  refine zlq ?_
  have c := zk1 c_1113
  simp (decide := true) only [x_X7_isOpen, zb_num0, zb_num1, if_true, if_false] at c
theorem q_isWarned_1169 (xs : Nat → Int32) : (r_X12_thrown (g_X12_isWarned_md_0)) = (r_L_isWarned (0 : Int32) (xs 1)) := by
  simp (decide := true) only [r_X12_thrown, g_X12_isWarned_md_0, g_X12_isWrong_md_0, r_L_isWarned, x_X7_isWarned, zb_place, zb_rng, zb_num0, zb_num1, zb_wr, if_true, if_false]
theorem q_isWarned_1193 (xs : Nat → Int32) (c_1176 : (r_L_isWarned (0 : Int32) (xs 1)) = (0 : Int32)) : (lg_cmp ((g_L_isWarned_lo_0 (fun _ => (0 : Int64)) (fun _ => (0 : Int32)) (0 : Int32) (xs 1)) (nI 0).toNatClampNeg) (if r_X12_isWarned = (0 : Int32) then (0 : Int64) else (1 : Int64))) = (0 : Int32) := by
  refine zlq ?_
  have c := zk1 c_1176
  simp (decide := true) only [x_X7_isWarned, zb_num0, zb_num1, if_true, if_false] at c
theorem q_pass_1232 (xs : Nat → Int32) : (r_X12_thrown (g_X12_pass_md_0 (0 : Int32) (xs 1))) = (r_L_pass (0 : Int32) (xs 1)) := by
  simp only [r_X12_thrown, g_X12_pass_md_0, g_X12_isWrong_md_0, r_L_pass, x_X7_pass, zb_place, zb_rng, zb_num0, zb_num1, zb_wr]
  by_cases c1 : r_X12_isBetween (xs 1) (1 : Int32) (24 : Int32) = (0 : Int32) <;> by_cases c2 : xs 1 ≤ (999 : Int32) <;> simp (decide := true) [c1, c2]
theorem q_pass_1249 (xs : Nat → Int32) (c_1239 : (r_L_pass (0 : Int32) (xs 1)) = (0 : Int32)) : (lg_cmp ((g_L_pass_lo_0 (fun _ => (10 : Int32)) (fun _ => (0 : Int32)) (fun _ => (0 : Int32)) (fun _ => (0 : Int32)) (fun _ => (0 : Int32)) (fun _ => (0 : Int32)) (fun _ => (0 : Int32)) (0 : Int32) (0 : Int32) (0 : Int32) (0 : Int32) (0 : Int64) (0 : Int64) (0 : Int64) (fun _ => (10 : Int32)) (fun _ => (0 : Int32)) (fun _ => (0 : Int32)) (fun _ => (0 : Int32)) (fun _ => (0 : Int32)) (fun _ => (0 : Int32)) (fun _ => (0 : Int32)) (0 : Int32) (0 : Int32) (0 : Int32) (0 : Int32) (0 : Int64) (0 : Int64) (0 : Int64) (fun _ => (0 : Int64)) (fun _ => (0 : Int32)) (fun _ => (0 : Int32)) (fun _ => (0 : Int32)) (fun _ => (0 : Int32)) (0 : Int32) (0 : Int32) (fun _ => (0 : Int32)) (fun _ => (0 : Int32)) (fun _ => (0 : Int32)) (fun _ => (0 : Int32)) (fun _ => (0 : Int32)) (fun _ => (0 : Int32)) (fun _ => (0 : Int32)) (fun _ => (0 : Int32)) (0 : Int64) (fun _ => (0 : Int32)) (fun _ => (0 : Int32)) (fun _ => (0 : Int32)) (fun _ => (0 : Int32)) (fun _ => (0 : Int32)) (fun _ => (0 : Int32)) (fun _ => (0 : Int32)) (fun _ => (0 : Int32)) 0 32 32 32 (0 : Int32) (xs 1) 0 0 0 0) (nI 0).toNatClampNeg) ((r_X12_pass (0 : Int32) (fun _ => (10 : Int32)) (fun _ => (0 : Int32)) (fun _ => (0 : Int32)) (fun _ => (0 : Int32)) (fun _ => (0 : Int32)) (fun _ => (0 : Int32)) (0 : Int32) (0 : Int32) (0 : Int32) (0 : Int64) (0 : Int64) (0 : Int64) (xs 1)).toInt64)) = (0 : Int32) := by
  refine zlq ?_
  have c := zk2 c_1239
  unfold g_L_pass_lo_0
  rw [if_pos c, zul]
  refine congrArg Int32.toInt64 ?_
  simp only [x_X7_pass, zb_place, zb_rng, zb_num0, zb_num1, zb_wr] at c
  by_cases c1 : r_X12_isBetween (xs 1) (1 : Int32) (24 : Int32) = (0 : Int32) <;> by_cases c2 : xs 1 ≤ (999 : Int32) <;> (try simp (decide := true) [c1, c2] at c)
  all_goals simp (decide := true) [r_X7_pass, r_X12_pass, zb_place, zb_rng, zb_num0, zb_num1, zb_wr, c1, c2]
  exact (zf_hours _ _ _ _ _ _ _ _ _ _ _ _ _ _ _ _ _ _ _ _).trans (zm_hours zz (0 : Int32) (0 : Int32) (0 : Int32) (0 : Int32) ((0 : Int32), zT, zz, zz, zz, zz, (0 : Int64), (0 : Int64), (0 : Int64)) _).symm
theorem q_hour_1265 (xs : Nat → Int32) : (r_X7_hour (0 : Int32)) = (r_X12_hour (0 : Int32)) := by
  rfl
theorem q_fuel_1313 (xs : Nat → Int32) : (r_X12_thrown (g_X12_fuel_md_0 (xs 1) (xs 2))) = (r_L_fuel (xs 1) (xs 2)) := by
  simp only [r_X12_thrown, g_X12_fuel_md_0, g_X12_isWrong_md_0, r_L_fuel, x_X7_fuel, zb_place, zb_rng, zb_num0, zb_num1, zb_wr, r_X12_isNoCell, g_X12_isNoCell_md_0]
  by_cases c1 : r_X12_isCell (xs 1) (xs 2) = (0 : Int32) <;> simp (decide := true) [c1]
theorem q_fuel_1330 (xs : Nat → Int32) (c_1320 : (r_L_fuel (xs 1) (xs 2)) = (0 : Int32)) : (lg_cmp ((g_L_fuel_lo_0 (fun _ => (10 : Int32)) (fun _ => (0 : Int64)) (xs 1) (xs 2)) (nI 0).toNatClampNeg) ((r_X12_fuel (fun _ => (10 : Int32)) (xs 1) (xs 2)).toInt64)) = (0 : Int32) := by
  refine zlq ?_
  have c := zk1 c_1320
  unfold g_L_fuel_lo_0
  rw [if_pos c, zul]
  refine congrArg Int32.toInt64 ?_
  simp only [x_X7_fuel, zb_place, zb_rng, zb_num0, zb_num1, zb_wr, r_X12_isNoCell, g_X12_isNoCell_md_0] at c
  by_cases c1 : r_X12_isCell (xs 1) (xs 2) = (0 : Int32) <;> (try simp (decide := true) [c1] at c)
  all_goals simp (decide := true) [r_X7_fuel, r_X12_fuel, zb_place, zb_rng, zb_num0, zb_num1, zb_wr, r_X12_isNoCell, g_X12_isNoCell_md_0, c1]
theorem q_fire_1381 (xs : Nat → Int32) : (r_X12_thrown (g_X12_fire_md_0 (xs 1) (xs 2))) = (r_L_fire (xs 1) (xs 2)) := by
  simp only [r_X12_thrown, g_X12_fire_md_0, g_X12_isWrong_md_0, r_L_fire, x_X7_fire, zb_place, zb_rng, zb_num0, zb_num1, zb_wr, r_X12_isNoCell, g_X12_isNoCell_md_0]
  by_cases c1 : r_X12_isCell (xs 1) (xs 2) = (0 : Int32) <;> simp (decide := true) [c1]
theorem q_fire_1398 (xs : Nat → Int32) (c_1388 : (r_L_fire (xs 1) (xs 2)) = (0 : Int32)) : (lg_cmp ((g_L_fire_lo_0 (fun _ => (0 : Int32)) (fun _ => (0 : Int64)) (xs 1) (xs 2)) (nI 0).toNatClampNeg) ((r_X12_fire (fun _ => (0 : Int32)) (xs 1) (xs 2)).toInt64)) = (0 : Int32) := by
  refine zlq ?_
  have c := zk1 c_1388
  unfold g_L_fire_lo_0
  rw [if_pos c, zul]
  refine congrArg Int32.toInt64 ?_
  simp only [x_X7_fire, zb_place, zb_rng, zb_num0, zb_num1, zb_wr, r_X12_isNoCell, g_X12_isNoCell_md_0] at c
  by_cases c1 : r_X12_isCell (xs 1) (xs 2) = (0 : Int32) <;> (try simp (decide := true) [c1] at c)
  all_goals simp (decide := true) [r_X7_fire, r_X12_fire, zb_place, zb_rng, zb_num0, zb_num1, zb_wr, r_X12_isNoCell, g_X12_isNoCell_md_0, c1]
theorem q_smoke_1449 (xs : Nat → Int32) : (r_X12_thrown (g_X12_smoke_md_0 (xs 1) (xs 2))) = (r_L_smoke (xs 1) (xs 2)) := by
  simp only [r_X12_thrown, g_X12_smoke_md_0, g_X12_isWrong_md_0, r_L_smoke, x_X7_smoke, zb_place, zb_rng, zb_num0, zb_num1, zb_wr, r_X12_isNoCell, g_X12_isNoCell_md_0]
  by_cases c1 : r_X12_isCell (xs 1) (xs 2) = (0 : Int32) <;> simp (decide := true) [c1]
theorem q_smoke_1466 (xs : Nat → Int32) (c_1456 : (r_L_smoke (xs 1) (xs 2)) = (0 : Int32)) : (lg_cmp ((g_L_smoke_lo_0 (fun _ => (0 : Int32)) (fun _ => (0 : Int64)) (xs 1) (xs 2)) (nI 0).toNatClampNeg) ((r_X12_smoke (fun _ => (0 : Int32)) (xs 1) (xs 2)).toInt64)) = (0 : Int32) := by
  refine zlq ?_
  have c := zk1 c_1456
  unfold g_L_smoke_lo_0
  rw [if_pos c, zul]
  refine congrArg Int32.toInt64 ?_
  simp only [x_X7_smoke, zb_place, zb_rng, zb_num0, zb_num1, zb_wr, r_X12_isNoCell, g_X12_isNoCell_md_0] at c
  by_cases c1 : r_X12_isCell (xs 1) (xs 2) = (0 : Int32) <;> (try simp (decide := true) [c1] at c)
  all_goals simp (decide := true) [r_X7_smoke, r_X12_smoke, zb_place, zb_rng, zb_num0, zb_num1, zb_wr, r_X12_isNoCell, g_X12_isNoCell_md_0, c1]
theorem q_hasLine_1517 (xs : Nat → Int32) : (r_X12_thrown (g_X12_hasLine_md_0 (xs 1) (xs 2))) = (r_L_hasLine (xs 1) (xs 2)) := by
  simp only [r_X12_thrown, g_X12_hasLine_md_0, g_X12_isWrong_md_0, r_L_hasLine, x_X7_hasLine, zb_place, zb_rng, zb_num0, zb_num1, zb_wr, r_X12_isNoCell, g_X12_isNoCell_md_0]
  by_cases c1 : r_X12_isCell (xs 1) (xs 2) = (0 : Int32) <;> simp (decide := true) [c1]
theorem q_hasLine_1541 (xs : Nat → Int32) (c_1524 : (r_L_hasLine (xs 1) (xs 2)) = (0 : Int32)) : (lg_cmp ((g_L_hasLine_lo_0 (fun _ => (0 : Int32)) (fun _ => (0 : Int64)) (xs 1) (xs 2)) (nI 0).toNatClampNeg) (if (r_X12_hasLine (fun _ => (0 : Int32)) (xs 1) (xs 2)) = (0 : Int32) then (0 : Int64) else (1 : Int64))) = (0 : Int32) := by
  refine zlq ?_
  have c := zk1 c_1524
  unfold g_L_hasLine_lo_0
  rw [if_pos c, zul]
  simp only [x_X7_hasLine, zb_place, zb_rng, zb_num0, zb_num1, zb_wr, r_X12_isNoCell, g_X12_isNoCell_md_0] at c
  by_cases c1 : r_X12_isCell (xs 1) (xs 2) = (0 : Int32) <;> (try simp (decide := true) [c1] at c)
  all_goals simp (decide := true) [r_X7_hasLine, r_X12_hasLine, zb_place, zb_rng, zb_num0, zb_num1, zb_wr, r_X12_isNoCell, g_X12_isNoCell_md_0, c1]
theorem q_left_1580 (xs : Nat → Int32) : (r_X12_thrown (g_X12_left_md_0 (xs 1))) = (r_L_left (xs 1)) := by
  simp only [r_X12_thrown, g_X12_left_md_0, g_X12_isWrong_md_0, r_L_left, x_X7_left, zb_place, zb_rng, zb_num0, zb_num1, zb_wr, r_X12_isCrew]
  by_cases c1 : r_X12_isBetween (xs 1) (0 : Int32) (2 : Int32) = (0 : Int32) <;> simp (decide := true) [c1]
theorem q_left_1597 (xs : Nat → Int32) (c_1587 : (r_L_left (xs 1)) = (0 : Int32)) : (lg_cmp ((g_L_left_lo_0 (fun _ => (0 : Int32)) (fun _ => (0 : Int64)) (xs 1)) (nI 0).toNatClampNeg) ((r_X12_left (fun _ => (0 : Int32)) (xs 1)).toInt64)) = (0 : Int32) := by
  refine zlq ?_
  have c := zk1 c_1587
  unfold g_L_left_lo_0
  rw [if_pos c, zul]
  refine congrArg Int32.toInt64 ?_
  simp only [x_X7_left, zb_place, zb_rng, zb_num0, zb_num1, zb_wr, r_X12_isCrew] at c
  by_cases c1 : r_X12_isBetween (xs 1) (0 : Int32) (2 : Int32) = (0 : Int32) <;> (try simp (decide := true) [c1] at c)
  all_goals simp (decide := true) [r_X7_left, r_X12_left, zb_place, zb_rng, zb_num0, zb_num1, zb_wr, r_X12_isCrew, c1]
theorem q_forecast_1660 (xs : Nat → Int32) : (r_X12_thrown (g_X12_forecast_md_0 (xs 1) (xs 2) (xs 3))) = (r_L_forecast (xs 1) (xs 2) (xs 3)) := by
  simp only [r_X12_thrown, g_X12_forecast_md_0, g_X12_isWrong_md_0, r_L_forecast, x_X7_forecast, zb_place, zb_rng, zb_num0, zb_num1, zb_wr, r_X12_isNoCell, g_X12_isNoCell_md_0]
  by_cases c1 : r_X12_isCell (xs 1) (xs 2) = (0 : Int32) <;> by_cases c2 : r_X12_isBetween (xs 3) (1 : Int32) (12 : Int32) = (0 : Int32) <;> simp (decide := true) [c1, c2]
theorem q_forecast_1677 (xs : Nat → Int32) (c_1667 : (r_L_forecast (xs 1) (xs 2) (xs 3)) = (0 : Int32)) : (lg_cmp ((g_L_forecast_lo_0 (fun _ => (10 : Int32)) (fun _ => (0 : Int32)) (fun _ => (0 : Int32)) (fun _ => (0 : Int32)) (fun _ => (0 : Int32)) (fun _ => (0 : Int32)) (fun _ => (0 : Int32)) (0 : Int64) (0 : Int64) (0 : Int64) (fun _ => (10 : Int32)) (fun _ => (0 : Int32)) (fun _ => (0 : Int32)) (fun _ => (0 : Int32)) (fun _ => (0 : Int32)) (fun _ => (0 : Int32)) (0 : Int32) (0 : Int32) (0 : Int32) (0 : Int32) (fun _ => (0 : Int64)) (xs 1) (xs 2) (xs 3) 0) (nI 0).toNatClampNeg) ((r_X12_forecast (fun _ => (10 : Int32)) (fun _ => (0 : Int32)) (fun _ => (0 : Int32)) (fun _ => (0 : Int32)) (fun _ => (0 : Int32)) (fun _ => (0 : Int32)) (0 : Int32) (0 : Int32) (0 : Int32) (0 : Int64) (0 : Int64) (0 : Int64) (xs 1) (xs 2) (xs 3)).toInt64)) = (0 : Int32) := by
  refine zlq ?_
  have c := zk2 c_1667
  unfold g_L_forecast_lo_0
  rw [if_pos c, zul]
  refine congrArg Int32.toInt64 ?_
  simp only [x_X7_forecast, zb_place, zb_rng, zb_num0, zb_num1, zb_wr, r_X12_isNoCell, g_X12_isNoCell_md_0] at c
  by_cases c1 : r_X12_isCell (xs 1) (xs 2) = (0 : Int32) <;> by_cases c2 : r_X12_isBetween (xs 3) (1 : Int32) (12 : Int32) = (0 : Int32) <;> (try simp (decide := true) [c1, c2] at c)
  all_goals simp (decide := true) [r_X7_forecast, r_X12_forecast, zb_place, zb_rng, zb_num0, zb_num1, zb_wr, r_X12_isNoCell, g_X12_isNoCell_md_0, c1, c2]
  exact (congrFun (zf_fcl _) _).trans (congrFun (zm_fcl (xs 3).toNatClampNeg (0 : Int64) (0 : Int64) (0 : Int64)) (r_X12_at (xs 1) (xs 2)).toNatClampNeg).symm
theorem q_worst_1740 (xs : Nat → Int32) : (r_X12_thrown (g_X12_worst_md_0 (xs 1) (xs 2) (xs 3))) = (r_L_worst (xs 1) (xs 2) (xs 3)) := by
  simp only [r_X12_thrown, g_X12_worst_md_0, g_X12_isWrong_md_0, r_L_worst, x_X7_worst, zb_place, zb_rng, zb_num0, zb_num1, zb_wr, r_X12_isNoCell, g_X12_isNoCell_md_0]
  by_cases c1 : r_X12_isCell (xs 1) (xs 2) = (0 : Int32) <;> by_cases c2 : r_X12_isBetween (xs 3) (1 : Int32) (12 : Int32) = (0 : Int32) <;> simp (decide := true) [c1, c2]
theorem q_worst_1757 (xs : Nat → Int32) (c_1747 : (r_L_worst (xs 1) (xs 2) (xs 3)) = (0 : Int32)) : (lg_cmp ((g_L_worst_lo_0 (fun _ => (10 : Int32)) (fun _ => (0 : Int32)) (fun _ => (0 : Int32)) (fun _ => (0 : Int32)) (fun _ => (0 : Int32)) (fun _ => (0 : Int32)) (fun _ => (0 : Int32)) (0 : Int64) (0 : Int64) (0 : Int64) (fun _ => (10 : Int32)) (fun _ => (0 : Int32)) (fun _ => (0 : Int32)) (fun _ => (0 : Int32)) (fun _ => (0 : Int32)) (fun _ => (0 : Int32)) (0 : Int32) (0 : Int32) (0 : Int32) (0 : Int32) (fun _ => (0 : Int64)) (xs 1) (xs 2) (xs 3) 0) (nI 0).toNatClampNeg) ((r_X12_worst (fun _ => (10 : Int32)) (fun _ => (0 : Int32)) (fun _ => (0 : Int32)) (fun _ => (0 : Int32)) (fun _ => (0 : Int32)) (fun _ => (0 : Int32)) (0 : Int32) (0 : Int32) (0 : Int32) (0 : Int64) (0 : Int64) (0 : Int64) (xs 1) (xs 2) (xs 3)).toInt64)) = (0 : Int32) := by
  refine zlq ?_
  have c := zk2 c_1747
  unfold g_L_worst_lo_0
  rw [if_pos c, zul]
  refine congrArg Int32.toInt64 ?_
  simp only [x_X7_worst, zb_place, zb_rng, zb_num0, zb_num1, zb_wr, r_X12_isNoCell, g_X12_isNoCell_md_0] at c
  by_cases c1 : r_X12_isCell (xs 1) (xs 2) = (0 : Int32) <;> by_cases c2 : r_X12_isBetween (xs 3) (1 : Int32) (12 : Int32) = (0 : Int32) <;> (try simp (decide := true) [c1, c2] at c)
  all_goals simp (decide := true) [r_X7_worst, r_X12_worst, zb_place, zb_rng, zb_num0, zb_num1, zb_wr, r_X12_isNoCell, g_X12_isNoCell_md_0, c1, c2]
  exact (congrFun (zf_pkl _) _).trans (zm_wol _ _ _ _ _).symm
theorem q_warnings_1773 (xs : Nat → Int32) : (r_X7_warnings 0) = r_X12_warnings := by
  rfl
theorem q_warnedAt_1809 (xs : Nat → Int32) : (r_X12_thrown (g_X12_warnedAt_md_0)) = (r_L_warnedAt 0 (xs 1)) := by
  simp (decide := true) only [r_X12_thrown, g_X12_warnedAt_md_0, g_X12_isWrong_md_0, r_L_warnedAt, x_X7_warnedAt, zb_place, zb_rng, zb_num0, zb_num1, zb_wr, g_X12_warned_md_0, if_true, if_false]
theorem q_warnedAt_1826 (xs : Nat → Int32) (c_1816 : (r_L_warnedAt 0 (xs 1)) = (0 : Int32)) : (lg_cmp ((g_L_warnedAt_lo_0 (fun _ => (0 : Int64)) (fun _ => (0 : Int32)) 0 (xs 1)) (nI 0).toNatClampNeg) r_X12_warnedAt.toInt64) = (0 : Int32) := by
  refine zlq ?_
  have c := zk1 c_1816
  simp (decide := true) only [x_X7_warnedAt, zb_num0, zb_num1, if_true, if_false] at c
theorem q_warnedWhom_1865 (xs : Nat → Int32) : (r_X12_thrown (g_X12_warnedWhom_md_0)) = (r_L_warnedWhom 0 (xs 1)) := by
  simp (decide := true) only [r_X12_thrown, g_X12_warnedWhom_md_0, g_X12_isWrong_md_0, r_L_warnedWhom, x_X7_warnedWhom, zb_place, zb_rng, zb_num0, zb_num1, zb_wr, g_X12_warned_md_0, if_true, if_false]
theorem q_warnedWhom_1882 (xs : Nat → Int32) (c_1872 : (r_L_warnedWhom 0 (xs 1)) = (0 : Int32)) : (lg_cmp ((g_L_warnedWhom_lo_0 (fun _ => (0 : Int64)) (fun _ => (0 : Int32)) 0 (xs 1)) (nI 0).toNatClampNeg) r_X12_warnedWhom.toInt64) = (0 : Int32) := by
  refine zlq ?_
  have c := zk1 c_1872
  simp (decide := true) only [x_X7_warnedWhom, zb_num0, zb_num1, if_true, if_false] at c
theorem q_warnedBy_1921 (xs : Nat → Int32) : (r_X12_thrown (g_X12_warnedBy_md_0)) = (r_L_warnedBy 0 (xs 1)) := by
  simp (decide := true) only [r_X12_thrown, g_X12_warnedBy_md_0, g_X12_isWrong_md_0, r_L_warnedBy, x_X7_warnedBy, zb_place, zb_rng, zb_num0, zb_num1, zb_wr, g_X12_warned_md_0, if_true, if_false]
theorem q_warnedBy_1938 (xs : Nat → Int32) (c_1928 : (r_L_warnedBy 0 (xs 1)) = (0 : Int32)) : (lg_cmp ((g_L_warnedBy_lo_0 (fun _ => (0 : Int64)) (fun _ => (0 : Int32)) 0 (xs 1)) (nI 0).toNatClampNeg) r_X12_warnedBy.toInt64) = (0 : Int32) := by
  refine zlq ?_
  have c := zk1 c_1928
  simp (decide := true) only [x_X7_warnedBy, zb_num0, zb_num1, if_true, if_false] at c
theorem q_closings_1954 (xs : Nat → Int32) : (r_X7_closings (0 : Int32)) = (r_X12_closings (0 : Int32)) := by
  rfl
theorem q_made_1968 (xs : Nat → Int32) : (lg_cmp (r_X7_made (0 : Int64)) (r_X12_made (0 : Int64))) = (0 : Int32) := by
  rfl
theorem q_blown_1982 (xs : Nat → Int32) : (lg_cmp (r_X7_blown (0 : Int64)) (r_X12_blown (0 : Int64))) = (0 : Int32) := by
  rfl
theorem q_settled_1996 (xs : Nat → Int32) : (lg_cmp (r_X7_settled (0 : Int64)) (r_X12_settled (0 : Int64))) = (0 : Int32) := by
  rfl
theorem q_mended_2010 (xs : Nat → Int32) : (lg_cmp (r_X7_mended (0 : Int64)) (r_X12_mended (0 : Int64))) = (0 : Int32) := by
  rfl
theorem q_trustShare_2035 (xs : Nat → Int32) : (r_X12_thrown (g_X12_trustShare_md_0)) = r_L_trustShare := by
  rfl
theorem q_meanSmoke_2098 (xs : Nat → Int32) : (Op.cmpValue (FP.dcmp (r_X7_meanSmoke (fun _ => (0 : Int32))) (r_X12_meanSmoke (fun _ => (0 : Int32)))) .l) = (0 : Int32) := by
  unfold r_X7_meanSmoke r_X12_meanSmoke r_X1_smokeInAll
  rw [zf_sum, zm_sum]
  decide +kernel
theorem q_isKept_2130 (xs : Nat → Int32) : (r_X7_isKept (fun _ => (0 : Int32)) (0 : Int64) (0 : Int64) (0 : Int64) (0 : Int64)) = r_X12_isKept := by
  unfold r_X7_isKept r_X1_smokeInAll
  rw [zf_sum]
  rfl
theorem q_isSame_2143 (xs : Nat → Int32) : (r_X7_isSame_0 (fun _ => (0 : Int32)) (fun _ => (0 : Int32)) (0 : Int32) (fun _ => (0 : Int32)) (fun _ => (0 : Int32)) (fun _ => (0 : Int32)) 0 (fun _ => (0 : Int32)) (fun _ => (0 : Int32)) (0 : Int32) (fun _ => (0 : Int32)) (fun _ => (0 : Int32)) (fun _ => (0 : Int32)) 0 0) = r_X12_isSame := by
  rfl
