/-! on new objects: an hour changes nothing of either land; class and reference answer alike -/
theorem zupd_s {f : Nat → Int32} {i : Nat} {v : Int32} (h : v = f i) : upd f i v = f := by
  subst h
  funext k
  unfold upd
  split
  · rename_i z; rw [z]
  · rfl
theorem zcpy_c (c : Int32) (n : Nat) : va_cpy (fun _ => c) (fun _ => c) 0 0 n = fun _ => c := by
  funext k
  unfold va_cpy
  split <;> rfl
theorem zcpy_l {f g : Nat → Int32} {n k : Nat} (h : k < n) : va_cpy f g 0 0 n k = f k := by
  unfold va_cpy
  rw [if_pos ⟨Nat.zero_le _, by omega⟩]
  congr 1
  omega
abbrev zz : Nat → Int32 := fun _ => (0 : Int32)
theorem zf_dig (q : Nat → Int32) : ∀ i, lp_X1_dig_2 q (zz, zz, zz) i = (zz, zz, zz) := by
  intro i
  induction i with
  | zero => rw [lp_X1_dig_2_0]
  | succ i ih =>
    rw [lp_X1_dig_2_s, ih]
    rfl
theorem zf_burnt {x : Int32} (h : x = 10) : (if x ≤ (0 : Int32) then x else (0 : Int32)) = 0 := by rw [h]; decide
theorem zf_burn {fu : Nat → Int32} (hf : ∀ k, k < 48 → fu k = 10) (m : Int64) : ∀ i, i ≤ 48 → lp_X1_burn_9 ((0 : Int32) / (3 : Int32)) (fu, zz, zz, m) i = (fu, zz, zz, m) := by
  intro i
  induction i with
  | zero => intro _; rw [lp_X1_burn_9_0]
  | succ i ih =>
    intro hi
    rw [lp_X1_burn_9_s, ih (by omega)]
    have eb := zf_burnt (hf i (by omega))
    refine Prod.ext ?_ (Prod.ext ?_ (Prod.ext ?_ ?_))
    · exact zupd_s (by show fu i - (if fu i ≤ (0 : Int32) then fu i else (0 : Int32)) = fu i; rw [eb]; exact Int32.sub_zero _)
    · refine zupd_s ?_
      show (if _ = (0 : Int32) then (0 : Int32) else (if (0 : Int32) / (3 : Int32) ≤ (0 : Int32) then ((0 : Int32) - (0 : Int32) / (3 : Int32)) else (0 : Int32))) = (0 : Int32)
      (repeat' split) <;> decide
    · exact zupd_s (by show (0 : Int32) + (if fu i ≤ (0 : Int32) then fu i else (0 : Int32)) * (10 : Int32) = (0 : Int32); rw [eb]; decide)
    · show m + ((if fu i ≤ (0 : Int32) then fu i else (0 : Int32)) * (10 : Int32)).toInt64 = m
      rw [eb, (by decide : ((0 : Int32) * (10 : Int32)).toInt64 = 0)]
      exact Int64.add_zero m
theorem zf_told (a b c : Int32) : ∀ i, lp_X1_spread_10 zz a b c zz i = zz := by
  intro i
  induction i with
  | zero => rw [lp_X1_spread_10_0]
  | succ i ih =>
    rw [lp_X1_spread_10_s, ih]
    unfold st_X1_spread_10
    rw [if_pos (by decide), if_pos (by decide)]
theorem zf_caught (fu : Nat → Int32) : ∀ i, lp_X1_spread_119 fu zz zz zz i = zz := by
  intro i
  induction i with
  | zero => rw [lp_X1_spread_119_0]
  | succ i ih =>
    rw [lp_X1_spread_119_s, ih]
    unfold st_X1_spread_119
    (repeat' split) <;> first | rfl | exact absurd (Int32.le_refl _) (by assumption)
theorem zf_settle (m : Int64) : ∀ i, lp_X1_settle_2 (0 : Int32) (zz, m) i = (zz, m) := by
  intro i
  induction i with
  | zero => rw [lp_X1_settle_2_0]
  | succ i ih =>
    rw [lp_X1_settle_2_s, ih]
    refine Prod.ext ?_ ?_
    · exact zupd_s (by show (0 : Int32) - ((0 : Int32) * ((0 : Int32) + (1 : Int32))) / (20 : Int32) = (0 : Int32); decide)
    · show m + (((0 : Int32) * ((0 : Int32) + (1 : Int32))) / (20 : Int32)).toInt64 = m
      rw [(by decide : (((0 : Int32) * ((0 : Int32) + (1 : Int32))) / (20 : Int32)).toInt64 = 0)]
      exact Int64.add_zero m
section ZF1
variable {fu q : Nat → Int32} {m z y9 : Int64} {a b c : Int32}
theorem zf_x1 : g_X1_dig_x_1 zz zz zz q = zz := by unfold g_X1_dig_x_1; rw [zf_dig]
theorem zf_x3 : g_X1_dig_x_3 zz zz zz q = zz := by unfold g_X1_dig_x_3; rw [zf_dig]
theorem zf_x4 : g_X1_dig_x_4 zz zz zz q = zz := by unfold g_X1_dig_x_4; rw [zf_dig]
theorem zf_b0 (hf : ∀ k, k < 48 → fu k = 10) : g_X1_burn_x_0 fu zz zz (0 : Int32) m = fu := by unfold g_X1_burn_x_0; rw [zf_burn hf m 48 (Nat.le_refl _)]
theorem zf_b1 (hf : ∀ k, k < 48 → fu k = 10) : g_X1_burn_x_1 fu zz zz (0 : Int32) m = zz := by unfold g_X1_burn_x_1; rw [zf_burn hf m 48 (Nat.le_refl _)]
theorem zf_b2 (hf : ∀ k, k < 48 → fu k = 10) : g_X1_burn_x_2 fu zz zz (0 : Int32) m = zz := by unfold g_X1_burn_x_2; rw [zf_burn hf m 48 (Nat.le_refl _)]
theorem zf_b11 (hf : ∀ k, k < 48 → fu k = 10) : g_X1_burn_x_11 fu zz zz (0 : Int32) m = m := by unfold g_X1_burn_x_11; rw [zf_burn hf m 48 (Nat.le_refl _)]
theorem zf_r0 (hf : ∀ k, k < 48 → fu k = 10) : g_X1_runModel_x_0 fu zz zz zz zz q (0 : Int32) m = fu := by unfold g_X1_runModel_x_0; rw [zf_x1, zf_b0 hf]
theorem zf_r1 (hf : ∀ k, k < 48 → fu k = 10) : g_X1_runModel_x_1 fu zz zz zz zz q a b c (0 : Int32) m = zz := by
  unfold g_X1_runModel_x_1
  rw [zf_x1, zf_x3, zf_b0 hf, zf_b1 hf]
  unfold g_X1_spread_x_1
  rw [zf_told, zf_caught]
theorem zf_r2 (hf : ∀ k, k < 48 → fu k = 10) : g_X1_runModel_x_2 fu zz zz zz zz q a b c (0 : Int32) m z y9 0 = zz := by
  unfold g_X1_runModel_x_2
  rw [lp_X1_runModel_14_0, zf_x1, zf_b2 hf]
  unfold g_X1_settle_x_2
  rw [zf_settle]
theorem zf_r3 : g_X1_runModel_x_3 zz zz zz q = zz := zf_x3
theorem zf_r4 : g_X1_runModel_x_4 zz zz zz q = zz := zf_x4
end ZF1
theorem zf_peak : ∀ i, lp_X2_look_33 zz zz i = zz := by
  intro i
  induction i with
  | zero => rw [lp_X2_look_33_0]
  | succ i ih =>
    rw [lp_X2_look_33_s, ih]
    rfl
theorem zf_line : ∀ i, lp_X1_copyFrom_47 zz zz i = zz := by
  intro i
  induction i with
  | zero => rw [lp_X1_copyFrom_47_0]
  | succ i ih =>
    rw [lp_X1_copyFrom_47_s, ih]
    exact zupd_s rfl
/-- what a look finds: no smoke in any hour -/
theorem zf_look {fu : Nat → Int32} (hf : ∀ k, k < 48 → fu k = 10) (q : Nat → Int32) (a b c : Int32) (b6 : Nat → Int32) (m z y9 : Int64) : ∀ n, ∃ (b7 : Nat → Int32) (m2 z2 y2 : Int64), lp_X2_look_18 q a b c (0 : Int32) 0 (zz, fu, zz, zz, zz, zz, b6, m, z, y9) n = (zz, fu, zz, zz, zz, zz, b7, m2, z2, y2) := by
  intro n
  induction n with
  | zero => exact ⟨b6, m, z, y9, by rw [lp_X2_look_18_0]⟩
  | succ n ih =>
    obtain ⟨b7, m2, z2, y2, e⟩ := ih
    rw [lp_X2_look_18_s, e]
    unfold st_X2_look_18
    refine ⟨_, _, _, _, Prod.ext ?_ (Prod.ext ?_ (Prod.ext ?_ (Prod.ext ?_ (Prod.ext ?_ (Prod.ext ?_ (Prod.ext rfl (Prod.ext rfl (Prod.ext rfl rfl))))))))⟩
    · show lp_X2_look_33 (g_X1_runModel_x_2 fu zz zz zz zz q a b c (0 : Int32) m2 z2 y2 0) zz 48 = zz
      rw [zf_r2 hf, zf_peak]
    · exact zf_r0 hf
    · exact zf_r1 hf
    · exact zf_r2 hf
    · exact zf_r3
    · exact zf_r4
