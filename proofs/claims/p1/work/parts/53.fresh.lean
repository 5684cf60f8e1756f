/-! on new objects: an hour changes nothing of either land; class and reference answer alike -/
theorem zupd_s {f : Nat → Int32} {i : Nat} {v : Int32} (h : v = f i) : upd f i v = f := by
  subst h
  funext k
  unfold upd
  split
  · rename_i z; rw [z]
  · rfl
theorem zcpy_c (c : Int32) (n : Nat) : va_cpy (fun _ => c) (fun _ => c) 0 0 n = fun _ => c := by
  funext k
  unfold va_cpy
  split <;> rfl
theorem zcpy_l {f g : Nat → Int32} {n k : Nat} (h : k < n) : va_cpy f g 0 0 n k = f k := by
  unfold va_cpy
  rw [if_pos ⟨Nat.zero_le _, by omega⟩]
  congr 1
  omega
abbrev zz : Nat → Int32 := fun _ => (0 : Int32)
theorem zf_dig (q : Nat → Int32) : ∀ i, lp_X1_dig_2 q (zz, zz, zz) i = (zz, zz, zz) := by
  intro i
  induction i with
  | zero => rw [lp_X1_dig_2_0]
  | succ i ih =>
    rw [lp_X1_dig_2_s, ih]
    rfl
theorem zf_burnt {x : Int32} (h : x = 10) : (if x ≤ (0 : Int32) then x else (0 : Int32)) = 0 := by rw [h]; decide
theorem zf_burn {fu : Nat → Int32} (hf : ∀ k, k < 48 → fu k = 10) (m : Int64) : ∀ i, i ≤ 48 → lp_X1_burn_9 ((0 : Int32) / (3 : Int32)) (fu, zz, zz, m) i = (fu, zz, zz, m) := by
  intro i
  induction i with
  | zero => intro _; rw [lp_X1_burn_9_0]
  | succ i ih =>
    intro hi
    rw [lp_X1_burn_9_s, ih (by omega)]
    have eb := zf_burnt (hf i (by omega))
    refine Prod.ext ?_ (Prod.ext ?_ (Prod.ext ?_ ?_))
    · exact zupd_s (by show fu i - (if fu i ≤ (0 : Int32) then fu i else (0 : Int32)) = fu i; rw [eb]; exact Int32.sub_zero _)
    · refine zupd_s ?_
      show (if _ = (0 : Int32) then (0 : Int32) else (if (0 : Int32) / (3 : Int32) ≤ (0 : Int32) then ((0 : Int32) - (0 : Int32) / (3 : Int32)) else (0 : Int32))) = (0 : Int32)
      (repeat' split) <;> decide
    · exact zupd_s (by show (0 : Int32) + (if fu i ≤ (0 : Int32) then fu i else (0 : Int32)) * (10 : Int32) = (0 : Int32); rw [eb]; decide)
    · show m + ((if fu i ≤ (0 : Int32) then fu i else (0 : Int32)) * (10 : Int32)).toInt64 = m
      rw [eb, (by decide : ((0 : Int32) * (10 : Int32)).toInt64 = 0)]
      exact Int64.add_zero m
theorem zf_told (a b c : Int32) : ∀ i, lp_X1_spread_10 zz a b c zz i = zz := by
  intro i
  induction i with
  | zero => rw [lp_X1_spread_10_0]
  | succ i ih =>
    rw [lp_X1_spread_10_s, ih]
    exact (if_pos (show (0 : Int32) < 3 by decide)).trans (if_pos (show (0 : Int32) < 5 by decide))
theorem zf_caught (fu : Nat → Int32) : ∀ i, lp_X1_spread_119 fu zz zz zz i = zz := by
  intro i
  induction i with
  | zero => rw [lp_X1_spread_119_0]
  | succ i ih =>
    rw [lp_X1_spread_119_s, ih]
    unfold st_X1_spread_119
    (repeat' split) <;> first | rfl | exact absurd (Int32.le_refl _) (by assumption)
theorem zf_settle (m : Int64) : ∀ i, lp_X1_settle_2 (0 : Int32) (zz, m) i = (zz, m) := by
  intro i
  induction i with
  | zero => rw [lp_X1_settle_2_0]
  | succ i ih =>
    rw [lp_X1_settle_2_s, ih]
    refine Prod.ext ?_ ?_
    · exact zupd_s (by show (0 : Int32) - ((0 : Int32) * ((0 : Int32) + (1 : Int32))) / (20 : Int32) = (0 : Int32); decide)
    · show m + (((0 : Int32) * ((0 : Int32) + (1 : Int32))) / (20 : Int32)).toInt64 = m
      rw [(by decide : (((0 : Int32) * ((0 : Int32) + (1 : Int32))) / (20 : Int32)).toInt64 = 0)]
      exact Int64.add_zero m
section ZF1
variable {fu q : Nat → Int32} {m z y9 : Int64} {a b c : Int32}
theorem zf_x1 : g_X1_dig_x_1 zz zz zz q = zz := by unfold g_X1_dig_x_1; rw [zf_dig]
theorem zf_x3 : g_X1_dig_x_3 zz zz zz q = zz := by unfold g_X1_dig_x_3; rw [zf_dig]
theorem zf_x4 : g_X1_dig_x_4 zz zz zz q = zz := by unfold g_X1_dig_x_4; rw [zf_dig]
theorem zf_b0 (hf : ∀ k, k < 48 → fu k = 10) : g_X1_burn_x_0 fu zz zz (0 : Int32) m = fu := by unfold g_X1_burn_x_0; rw [zf_burn hf m 48 (Nat.le_refl _)]
theorem zf_b1 (hf : ∀ k, k < 48 → fu k = 10) : g_X1_burn_x_1 fu zz zz (0 : Int32) m = zz := by unfold g_X1_burn_x_1; rw [zf_burn hf m 48 (Nat.le_refl _)]
theorem zf_b2 (hf : ∀ k, k < 48 → fu k = 10) : g_X1_burn_x_2 fu zz zz (0 : Int32) m = zz := by unfold g_X1_burn_x_2; rw [zf_burn hf m 48 (Nat.le_refl _)]
theorem zf_b11 (hf : ∀ k, k < 48 → fu k = 10) : g_X1_burn_x_11 fu zz zz (0 : Int32) m = m := by unfold g_X1_burn_x_11; rw [zf_burn hf m 48 (Nat.le_refl _)]
theorem zf_r0 (hf : ∀ k, k < 48 → fu k = 10) : g_X1_runModel_x_0 fu zz zz zz zz q (0 : Int32) m = fu := by unfold g_X1_runModel_x_0; rw [zf_x1, zf_b0 hf]
theorem zf_r1 (hf : ∀ k, k < 48 → fu k = 10) : g_X1_runModel_x_1 fu zz zz zz zz q a b c (0 : Int32) m = zz := by
  unfold g_X1_runModel_x_1
  rw [zf_x1, zf_x3, zf_b0 hf, zf_b1 hf]
  unfold g_X1_spread_x_1
  rw [zf_told, zf_caught]
theorem zf_r2 (hf : ∀ k, k < 48 → fu k = 10) : g_X1_runModel_x_2 fu zz zz zz zz q a b c (0 : Int32) m z y9 0 = zz := by
  unfold g_X1_runModel_x_2
  rw [lp_X1_runModel_14_0, zf_x1, zf_b2 hf]
  unfold g_X1_settle_x_2
  rw [zf_settle]
theorem zf_r3 : g_X1_runModel_x_3 zz zz zz q = zz := zf_x3
theorem zf_r4 : g_X1_runModel_x_4 zz zz zz q = zz := zf_x4
end ZF1
theorem zf_peak : ∀ i, lp_X2_look_33 zz zz i = zz := by
  intro i
  induction i with
  | zero => rw [lp_X2_look_33_0]
  | succ i ih =>
    rw [lp_X2_look_33_s, ih]
    rfl
theorem zf_line : ∀ i, lp_X1_copyFrom_47 zz zz i = zz := by
  intro i
  induction i with
  | zero => rw [lp_X1_copyFrom_47_0]
  | succ i ih =>
    rw [lp_X1_copyFrom_47_s, ih]
    exact zupd_s rfl
/-- what a look finds: no smoke in any hour -/
theorem zf_look {fu : Nat → Int32} (hf : ∀ k, k < 48 → fu k = 10) (q : Nat → Int32) (a b c : Int32) (b6 : Nat → Int32) (m z y9 : Int64) : ∀ n, ∃ (b7 : Nat → Int32) (m2 z2 y2 : Int64), lp_X2_look_18 q a b c (0 : Int32) 0 (zz, fu, zz, zz, zz, zz, b6, m, z, y9) n = (zz, fu, zz, zz, zz, zz, b7, m2, z2, y2) := by
  intro n
  induction n with
  | zero => exact ⟨b6, m, z, y9, by rw [lp_X2_look_18_0]⟩
  | succ n ih =>
    obtain ⟨b7, m2, z2, y2, e⟩ := ih
    rw [lp_X2_look_18_s, e]
    unfold st_X2_look_18
    refine ⟨_, _, _, _, Prod.ext ?_ (Prod.ext ?_ (Prod.ext ?_ (Prod.ext ?_ (Prod.ext ?_ (Prod.ext ?_ (Prod.ext rfl (Prod.ext rfl (Prod.ext rfl rfl))))))))⟩
    · show lp_X2_look_33 (g_X1_runModel_x_2 fu zz zz zz zz q a b c (0 : Int32) m2 z2 y2 0) zz 48 = zz
      rw [zf_r2 hf, zf_peak]
    · exact zf_r0 hf
    · exact zf_r1 hf
    · exact zf_r2 hf
    · exact zf_r3
    · exact zf_r4
/-! the reference's land -/
theorem zm_dig (q : Nat → Int32) : ∀ i, lp_X8_dig_2 q (zz, zz, zz) i = (zz, zz, zz) := by
  intro i
  induction i with
  | zero => rw [lp_X8_dig_2_0]
  | succ i ih =>
    rw [lp_X8_dig_2_s, ih]
    rfl
theorem zm_burnt {x : Int32} (h : x = 10) : (if x < (0 : Int32) then x else (0 : Int32)) = 0 := by rw [h]; decide
theorem zm_burn {fu : Nat → Int32} (hf : ∀ k, k < 48 → fu k = 10) (m : Int64) : ∀ i, i ≤ 48 → lp_X8_burn_2 (0 : Int32) (fu, zz, zz, m) i = (fu, zz, zz, m) := by
  intro i
  induction i with
  | zero => intro _; rw [lp_X8_burn_2_0]
  | succ i ih =>
    intro hi
    rw [lp_X8_burn_2_s, ih (by omega)]
    have eb := zm_burnt (hf i (by omega))
    refine Prod.ext ?_ (Prod.ext ?_ (Prod.ext ?_ ?_))
    · exact zupd_s (by show fu i - (if fu i < (0 : Int32) then fu i else (0 : Int32)) = fu i; rw [eb]; exact Int32.sub_zero _)
    · refine zupd_s ?_
      show (if _ = (0 : Int32) then (0 : Int32) else (if (0 : Int32) < ((0 : Int32) - (0 : Int32) / (3 : Int32)) then ((0 : Int32) - (0 : Int32) / (3 : Int32)) else (0 : Int32))) = (0 : Int32)
      (repeat' split) <;> decide
    · exact zupd_s (by show (0 : Int32) + (10 : Int32) * (if fu i < (0 : Int32) then fu i else (0 : Int32)) = (0 : Int32); rw [eb]; decide)
    · show m + (10 : Int64) * (if fu i < (0 : Int32) then fu i else (0 : Int32)).toInt64 = m
      rw [eb, (by decide : (10 : Int64) * (0 : Int32).toInt64 = 0)]
      exact Int64.add_zero m
theorem zm_fireAt (a b : Int32) : r_X8_fireAt zz a b = 0 := by
  unfold r_X8_fireAt
  split <;> rfl
theorem zm_spread (fu : Nat → Int32) (c : Int32) : ∀ i, lp_X8_spread_13 fu zz zz (0 : Int32) (0 : Int32) c zz i = zz := by
  intro i
  induction i with
  | zero => rw [lp_X8_spread_13_0]
  | succ i ih =>
    rw [lp_X8_spread_13_s, ih]
    unfold st_X8_spread_13
    simp only [zm_fireAt, (by decide : ((5 : Int32) ≤ 0) = False), (by decide : ((3 : Int32) ≤ 0) = False), if_false, if_true, ite_self, (by decide : ((0 : Int32) < 0) = False)]
    split
    · rfl
    · exact zupd_s rfl
theorem zm_settle (m : Int64) : ∀ i, lp_X8_settle_2 (0 : Int32) (zz, m) i = (zz, m) := by
  intro i
  induction i with
  | zero => rw [lp_X8_settle_2_0]
  | succ i ih =>
    rw [lp_X8_settle_2_s, ih]
    refine Prod.ext ?_ ?_
    · exact zupd_s (by show (0 : Int32) - ((0 : Int32) * ((1 : Int32) + (0 : Int32))) / (20 : Int32) = (0 : Int32); decide)
    · show m + (((0 : Int32) * ((1 : Int32) + (0 : Int32))) / (20 : Int32)).toInt64 = m
      rw [(by decide : (((0 : Int32) * ((1 : Int32) + (0 : Int32))) / (20 : Int32)).toInt64 = 0)]
      exact Int64.add_zero m
section ZF8
variable {fu q : Nat → Int32} {m z y9 : Int64} {c : Int32}
theorem zm_d1 : g_X8_dig_ml_1 zz q zz zz = zz := by unfold g_X8_dig_ml_1; rw [zm_dig]
theorem zm_d3 : g_X8_dig_ml_3 zz q zz zz = zz := by unfold g_X8_dig_ml_3; rw [zm_dig]
theorem zm_d5 : g_X8_dig_ml_5 zz q zz zz = zz := by unfold g_X8_dig_ml_5; rw [zm_dig]
theorem zm_h0 (hf : ∀ k, k < 48 → fu k = 10) : g_X8_hour_ml_0 fu zz q zz zz zz (0 : Int32) m = fu := by unfold g_X8_hour_ml_0 g_X8_burn_ml_0; rw [zm_d3, zm_burn hf m 48 (Nat.le_refl _)]
theorem zm_h1 : g_X8_hour_ml_1 zz q zz zz = zz := zm_d1
theorem zm_h3 (hf : ∀ k, k < 48 → fu k = 10) : g_X8_hour_ml_3 fu zz q zz zz zz (0 : Int32) (0 : Int32) c (0 : Int32) m = zz := by
  unfold g_X8_hour_ml_3 g_X8_burn_ml_0 g_X8_burn_ml_3 g_X8_spread_ml_3
  rw [zm_d3, zm_d5, zm_burn hf m 48 (Nat.le_refl _)]
  exact zm_spread fu c 48
theorem zm_h4 (hf : ∀ k, k < 48 → fu k = 10) (a b : Int32) : g_X8_hour_ml_4 fu zz q zz zz zz a b (0 : Int32) m z y9 0 = zz := by
  unfold g_X8_hour_ml_4 g_X8_burn_ml_4 g_X8_settle_ml_4
  rw [lp_X8_hour_14_0, zm_d3, zm_burn hf m 48 (Nat.le_refl _), zm_settle]
theorem zm_h5 : g_X8_hour_ml_5 zz q zz zz = zz := zm_d5
end ZF8
theorem zm_fc {fu : Nat → Int32} (hf : ∀ k, k < 48 → fu k = 10) (q : Nat → Int32) (c : Int32) (m z y9 : Int64) : ∀ n, ∃ (m2 z2 y2 : Int64), lp_X12_forecast_49 q (0 : Int32) (0 : Int32) c (0 : Int32) (fu, zz, zz, zz, zz, m, z, y9) n = (fu, zz, zz, zz, zz, m2, z2, y2) := by
  intro n
  induction n with
  | zero => exact ⟨m, z, y9, by rw [lp_X12_forecast_49_0]⟩
  | succ n ih =>
    obtain ⟨m2, z2, y2, e⟩ := ih
    rw [lp_X12_forecast_49_s, e]
    unfold st_X12_forecast_49
    refine ⟨_, _, _, Prod.ext ?_ (Prod.ext ?_ (Prod.ext ?_ (Prod.ext ?_ (Prod.ext ?_ (Prod.ext rfl (Prod.ext rfl rfl))))))⟩
    · exact zm_h0 hf
    · exact zm_h1
    · exact zm_h3 hf
    · exact zm_h4 hf _ _
    · exact zm_h5
theorem zm_wo {fu : Nat → Int32} (hf : ∀ k, k < 48 → fu k = 10) (q : Nat → Int32) (c v : Int32) (m z y9 : Int64) : ∀ n, ∃ (m2 z2 y2 : Int64), lp_X12_worstOf_18 q (0 : Int32) (0 : Int32) c (0 : Int32) v (fu, zz, zz, zz, zz, m, z, y9, (0 : Int32)) n = (fu, zz, zz, zz, zz, m2, z2, y2, (0 : Int32)) := by
  intro n
  induction n with
  | zero => exact ⟨m, z, y9, by rw [lp_X12_worstOf_18_0]⟩
  | succ n ih =>
    obtain ⟨m2, z2, y2, e⟩ := ih
    rw [lp_X12_worstOf_18_s, e]
    unfold st_X12_worstOf_18
    refine ⟨_, _, _, Prod.ext ?_ (Prod.ext ?_ (Prod.ext ?_ (Prod.ext ?_ (Prod.ext ?_ (Prod.ext rfl (Prod.ext rfl (Prod.ext rfl ?_)))))))⟩
    · exact zm_h0 hf
    · exact zm_h1
    · exact zm_h3 hf
    · exact zm_h4 hf _ _
    · exact zm_h5
    · show (if (0 : Int32) < (g_X8_hour_ml_4 fu zz q zz zz zz (0 : Int32) (0 : Int32) (0 : Int32) m2 z2 y2 0) v.toNatClampNeg then (g_X8_hour_ml_4 fu zz q zz zz zz (0 : Int32) (0 : Int32) (0 : Int32) m2 z2 y2 0) v.toNatClampNeg else (0 : Int32)) = (0 : Int32)
      rw [zm_h4 hf]
      rfl
