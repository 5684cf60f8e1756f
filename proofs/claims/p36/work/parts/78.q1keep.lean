/-! smoke is neither made nor lost between cells: sums in long, class alone -/
section ZKP
theorem zlc64 {a b c : Int64} (h : a + c = b + c) : a = b := by
  have := congrArg (· - c) h
  simpa only [Int64.add_sub_cancel] using this
theorem z64m (a b c : Int64) : a + b + c = a + c + b := by rw [Int64.add_assoc, Int64.add_comm b c, ← Int64.add_assoc]
theorem z64 {x y : Int32} {a m : Nat} (hx : x = nI a) (hs : x + y = nI m) (ha : a < 2 ^ 30) (hm : m < 2 ^ 30) : (x + y).toInt64 = x.toInt64 + y.toInt64 := by
  have t1 := nI_toInt (show a < 2 ^ 31 by omega)
  have t2 := nI_toInt (show m < 2 ^ 31 by omega)
  have ey : y = (x + y) - x := by rw [Int32.add_comm, Int32.add_sub_cancel]
  have ty : y.toInt = (m : Int) - a := by
    rw [ey, hs, hx, zsub (by omega) (by omega), t1, t2]
  apply Int64.toInt_inj.mp
  rw [Int64.toInt_add, Int32.toInt_toInt64, Int32.toInt_toInt64, Int32.toInt_toInt64, ty, hs, hx, t1, t2, show (a : Int) + ((m : Int) - a) = m by omega]
  exact (Int.bmod_eq_of_le (by omega) (by omega)).symm
theorem z64s {x y : Int32} {a m : Nat} (hx : x = nI a) (hs : x - y = nI m) (ha : a < 2 ^ 30) (hm : m < 2 ^ 30) : (x - y).toInt64 + y.toInt64 = x.toInt64 := by
  have e : (x - y) + y = nI a := by rw [Int32.sub_add_cancel]; exact hx
  have h := z64 hs e hm ha
  rw [← h, Int32.sub_add_cancel]
abbrev zS (f : Nat → Int32) (n : Nat) : Int64 := lp_X1_smokeInAll_4 f (0 : Int64) n
theorem zS_s (f : Nat → Int32) (n : Nat) : zS f (n + 1) = zS f n + (f n).toInt64 := by
  show lp_X1_smokeInAll_4 f (0 : Int64) (n + 1) = _
  rw [lp_X1_smokeInAll_4_s]; rfl
theorem zS_0 (f : Nat → Int32) : zS f 0 = 0 := lp_X1_smokeInAll_4_0 _ _
theorem zS_o {f : Nat → Int32} {i : Nat} {v : Int32} : ∀ n, n ≤ i → zS (upd f i v) n = zS f n := by
  intro n
  induction n with
  | zero => intro _; rw [zS_0, zS_0]
  | succ n ih => intro h; rw [zS_s, zS_s, ih (by omega), upd_o (by omega)]
theorem zS_u {f : Nat → Int32} {i : Nat} {v : Int32} : ∀ n, i < n → zS (upd f i v) n + (f i).toInt64 = zS f n + v.toInt64 := by
  intro n
  induction n with
  | zero => intro h; omega
  | succ n ih =>
    intro h
    rw [zS_s, zS_s]
    by_cases e : i = n
    · rw [← e, upd_i, zS_o i (Nat.le_refl i)]
      exact z64m _ _ _
    · rw [upd_o (show ¬ n = i by omega), z64m, ih (by omega), z64m]
theorem zS_add {f : Nat → Int32} {i : Nat} {v : Int32} {d : Int64} (hi : i < 48) (hv : v.toInt64 = (f i).toInt64 + d) : zS (upd f i v) 48 = zS f 48 + d := by
  have h := zS_u (f := f) (v := v) 48 hi
  rw [hv, ← Int64.add_assoc, z64m (zS f 48)] at h
  exact zlc64 h
theorem zS_sub {f : Nat → Int32} {i : Nat} {v : Int32} {d : Int64} (hi : i < 48) (hv : v.toInt64 + d = (f i).toInt64) : zS (upd f i v) 48 + d = zS f 48 := by
  have h := zS_u (f := f) (v := v) 48 hi
  rw [← hv, Int64.add_comm v.toInt64 d, ← Int64.add_assoc] at h
  exact zlc64 h
theorem zS_eq {f g : Nat → Int32} : ∀ n, (∀ k, k < n → f k = g k) → zS f n = zS g n := by
  intro n
  induction n with
  | zero => intro _; rw [zS_0, zS_0]
  | succ n ih => intro h; rw [zS_s, zS_s, ih (fun k hk => h k (by omega)), h n (by omega)]
theorem zS_z : ∀ n, zS (fun _ => (0 : Int32)) n = 0 := by
  intro n
  induction n with
  | zero => exact zS_0 _
  | succ n ih => rw [zS_s, ih]; rfl
/-- the fire's smoke is counted as it is made -/
theorem zkBurn {fu fi sm : Nat → Int32} {mk : Int64} {ra M : Nat} (bu : zBd 48 99 fu) (bi : zBd 48 9 fi) (bs : zBd 48 M sm) (hr : ra ≤ 9) (hM : M ≤ 1000000) : ∀ i, i ≤ 48 → zS (lp_X1_burn_9 (nI ra / (3 : Int32)) (fu, fi, sm, mk) i).2.2.1 48 + mk = zS sm 48 + (lp_X1_burn_9 (nI ra / (3 : Int32)) (fu, fi, sm, mk) i).2.2.2 := by
  intro i
  induction i with
  | zero => intro _; rw [lp_X1_burn_9_0]
  | succ i ih =>
    intro hi
    have j := ih (by omega)
    obtain ⟨-, j2⟩ := zSmB_burn (mk := mk) bu bi bs hr hM i (by omega)
    obtain ⟨-, -, -, -, b1, b2⟩ := zburn (mk := mk) (mk' := mk) zEq_r zEq_r (zEq_r (f := sm)) bu bi hr i (by omega)
    rw [lp_X1_burn_9_s]
    generalize lp_X1_burn_9 (nI ra / (3 : Int32)) (fu, fi, sm, mk) i = y at j j2 b1 b2 ⊢
    unfold st_X1_burn_9
    obtain ⟨a, ha, ea⟩ := b1 i (by omega)
    obtain ⟨b, hb, eb⟩ := b2 i (by omega)
    obtain ⟨s, hs, es⟩ := bs i (by omega)
    dsimp only
    have e0 := j2 i (by omega) (Nat.le_refl i)
    have e1 : y.2.2.1 i + (if y.1 i ≤ y.2.1 i then y.1 i else y.2.1 i) * (10 : Int32) = nI (s + min a b * 10) := by
      rw [e0, ea, eb, (zburnt ha hb).1, es, show (10 : Int32) = nI 10 from rfl, pk_mul, nI_add]
    rw [zS_add (show i < 48 by omega) (z64 (e0.trans es) e1 (by omega) (by omega)), z64m, j, Int64.add_assoc]
/-- what settles is counted -/
theorem zkSettle {sm : Nat → Int32} {st : Int64} {ra M : Nat} (bs : zBd 48 M sm) (hr : ra ≤ 9) (hM : M ≤ 2000000) : ∀ i, i ≤ 48 → zS (lp_X1_settle_2 (nI ra) (sm, st) i).1 48 + (lp_X1_settle_2 (nI ra) (sm, st) i).2 = zS sm 48 + st := by
  intro i
  induction i with
  | zero => intro _; rw [lp_X1_settle_2_0]
  | succ i ih =>
    intro hi
    have j := ih (by omega)
    have b0 := zSmB_settle (se := st) bs hr hM i (by omega)
    have b1 := zSmB_settle (se := st) bs hr hM (i + 1) hi
    rw [lp_X1_settle_2_s] at b1 ⊢
    generalize lp_X1_settle_2 (nI ra) (sm, st) i = y at j b0 b1 ⊢
    unfold st_X1_settle_2 at b1 ⊢
    dsimp only at b1 ⊢
    obtain ⟨m, hm, em⟩ := b0 i (by omega)
    obtain ⟨m', hm', em'⟩ := b1 i (by omega)
    rw [upd_i] at em'
    have h := zS_sub (f := y.1) (show i < 48 by omega) (z64s em em' (by omega) (by omega))
    rw [Int64.add_comm y.2, ← Int64.add_assoc, h]
    exact j
section
variable {s : Nat → Int32} {dw M : Nat} {bl : Int64}
/-- what a cell gives is brought to another, or blown away -/
theorem zkCar (hd : dw < 9) (bs : zBd 48 M s) (hM : M ≤ 2000000) : ∀ i, i ≤ 48 → zS (lp_X1_carry_10 (ze dw) (zf dw) (s, (fun _ => (0 : Int32)), bl) i).1 48 + zS (lp_X1_carry_10 (ze dw) (zf dw) (s, (fun _ => (0 : Int32)), bl) i).2.1 48 + (lp_X1_carry_10 (ze dw) (zf dw) (s, (fun _ => (0 : Int32)), bl) i).2.2 = zS s 48 + zS (fun _ => (0 : Int32)) 48 + bl := by
  intro i
  induction i with
  | zero => intro _; rw [lp_X1_carry_10_0]
  | succ i ih =>
    intro hi
    have hi : i < 48 := hi
    have j := ih (by omega)
    have j1 := (zcar (wx := ze dw) (wy := zf dw) (bl := bl) (bl' := bl) (zEq_r (f := s)) i (by omega)).1 i hi
    rw [if_neg (Nat.lt_irrefl i)] at j1
    have j2 := zbrc (s := s) (bl := bl) hd i (by omega)
    rw [lp_X1_carry_10_s]
    generalize lp_X1_carry_10 (ze dw) (zf dw) (s, (fun _ => (0 : Int32)), bl) i = y at j j1 j2 ⊢
    unfold st_X1_carry_10
    dsimp only
    obtain ⟨m, hm, em⟩ := bs i hi
    have e4 : s i / (4 : Int32) = nI (m / 4) := by rw [em]; exact pk_div (by omega) (by decide) (by decide)
    have e5 : y.1 i - y.1 i / (4 : Int32) = nI (m - m / 4) := by rw [j1, e4, em, zsubN (Nat.div_le_self m 4)]
    have hs := zS_sub (f := y.1) hi (z64s (j1.trans em) e5 (by omega) (by omega))
    have g := zt_geo dw hd i hi
    show zS (upd y.1 i (y.1 i - y.1 i / (4 : Int32))) 48 + zS (if r_X7_isCell (zgX i + ze dw) (zgY i + zf dw) = (0 : Int32) then y.2.1 else upd y.2.1 ((((zgY i + zf dw) * (8 : Int32)) + (zgX i + ze dw))).toNatClampNeg (y.2.1 ((((zgY i + zf dw) * (8 : Int32)) + (zgX i + ze dw))).toNatClampNeg + y.1 i / (4 : Int32))) 48 + (if r_X7_isCell (zgX i + ze dw) (zgY i + zf dw) = (0 : Int32) then y.2.2 + (y.1 i / (4 : Int32)).toInt64 else y.2.2) = _
    by_cases c : r_X7_isCell (zgX i + ze dw) (zgY i + zf dw) = (0 : Int32)
    · rw [if_pos c, if_pos c, ← j, ← hs, ← Int64.add_assoc, z64m, z64m (zS _ 48) _ (zS y.2.1 48)]
    · rw [if_neg c] at g
      rw [if_neg c, if_neg c, g]
      have du := zt_dual2 (d := 8 - dw) (i := i) (k := zt i dw) hi
      have hk : zt i dw < 48 := by
        have h8 := zcell_ix c
        rw [← g]
        exact Nat.lt_of_not_le (fun z => h8 (Or.inr z))
      have du := du hk (by omega)
      rw [show 8 - (8 - dw) = dw by omega] at du
      have e6 := j2 (zt i dw) hk
      rw [du.mpr rfl, if_neg (Nat.lt_irrefl i)] at e6
      have e7 : y.2.1 (zt i dw) + y.1 i / (4 : Int32) = nI (m / 4) := by rw [e6, j1, e4]; exact Int32.zero_add _
      have hb := zS_add (f := y.2.1) hk (z64 (show y.2.1 (zt i dw) = nI 0 from e6) e7 (by omega) (by omega))
      rw [hb, ← j, ← hs, ← Int64.add_assoc, z64m (zS _ 48) _ (zS y.2.1 48)]
/-- a step of the wind -/
theorem zkCarry (hd : dw < 9) (bs : zBd 48 M s) (hM : M ≤ 2000000) : zS (g_X1_carry_x_2 s (ze dw) (zf dw) bl) 48 + g_X1_carry_x_12 s (ze dw) (zf dw) bl = zS s 48 + bl := by
  have a := zkCar (bl := bl) hd bs hM 48 (Nat.le_refl _)
  have b := zSmB_carry (bl := bl) hd bs hM
  unfold g_X1_carry_x_2 at b ⊢
  unfold g_X1_carry_x_12
  have j1 := (zcar (wx := ze dw) (wy := zf dw) (bl := bl) (bl' := bl) (zEq_r (f := s)) 48 (Nat.le_refl _)).1
  generalize lp_X1_carry_10 (ze dw) (zf dw) (s, (fun _ => (0 : Int32)), bl) 48 = y at a b j1 ⊢
  have c : ∀ n, n ≤ 48 → zS (lp_X1_carry_103 y.2.1 y.1 48) n = zS y.1 n + zS y.2.1 n := by
    intro n
    induction n with
    | zero => intro _; rw [zS_0, zS_0, zS_0]; rfl
    | succ n ih =>
      intro hn
      have hn : n < 48 := hn
      have e := zcar2 (br := y.2.1) (y := y.1) 48 (Nat.le_refl _) n hn
      rw [if_pos hn] at e
      obtain ⟨m, hm, em⟩ := b n hn
      obtain ⟨q, hq, eq⟩ := bs n hn
      have e1 := j1 n hn
      rw [if_pos hn, eq, show nI q / (4 : Int32) = nI (q / 4) from pk_div (by omega) (by decide) (by decide), zsubN (Nat.div_le_self q 4)] at e1
      rw [zS_s, zS_s, zS_s, ih (by omega), e, z64 e1 (e.symm.trans em) (by omega) (by omega), ← Int64.add_assoc, ← Int64.add_assoc, z64m (zS y.1 n)]
  rw [c 48 (Nat.le_refl _), a, zS_z, Int64.add_zero]
theorem zkCarN {br : Nat → Int32} (hd : dw < 9) (bs : zBd 48 M s) (hM : M ≤ 2000000) : ∀ n, zS (lp_X1_runModel_14 (ze dw) (zf dw) (s, br, bl) n).1 48 + (lp_X1_runModel_14 (ze dw) (zf dw) (s, br, bl) n).2.2 = zS s 48 + bl := by
  intro n
  induction n with
  | zero => rw [lp_X1_runModel_14_0]
  | succ n ih =>
    have b := zSmB_carN (br := br) (bl := bl) hd bs hM n
    rw [lp_X1_runModel_14_s]
    generalize lp_X1_runModel_14 (ze dw) (zf dw) (s, br, bl) n = y at ih b ⊢
    rw [← ih]
    exact zkCarry hd b hM
/-- the steps 1 to 5 of an hour -/
theorem zkRun {fu fi ln cl cp : Nat → Int32} {w ra : Nat} {mk st : Int64} (hd : dw < 9) (bu : zBd 48 99 fu) (bi : zBd 48 9 fi) (bs : zBd 48 M s) (hr : ra ≤ 9) (hM : M ≤ 1000000) : zS (g_X1_runModel_x_2 fu fi s ln cl cp (ze dw) (zf dw) (nI w) (nI ra) mk bl st w) 48 + g_X1_runModel_x_12 fu fi s ln cl cp (ze dw) (zf dw) (nI w) (nI ra) mk bl w + g_X1_runModel_x_13 fu fi s ln cl cp (ze dw) (zf dw) (nI w) (nI ra) mk bl st w + mk = zS s 48 + bl + st + g_X1_runModel_x_11 fu fi s ln cl cp (nI ra) mk := by
  have d5 := zdigb (p := cp) (c := cl) (ln := ln) bi 3
  obtain ⟨h, -⟩ := zSmB_burn (mk := mk) bu d5 bs hr hM 48 (Nat.le_refl _)
  have b1 : zBd 48 (M + 90) (lp_X1_burn_9 (nI ra / (3 : Int32)) (fu, (lp_X1_dig_2 cp (fi, ln, cl) 3).1, s, mk) 48).2.2.1 := fun k hk => by
    obtain ⟨m, h1, h2⟩ := h k hk
    exact ⟨m, by omega, h2⟩
  have k1 := zkBurn (mk := mk) bu d5 bs hr hM 48 (Nat.le_refl _)
  have k2 := zkCarN (br := g_X1_spread_x_6 (g_X1_burn_x_1 fu (g_X1_dig_x_1 fi ln cl cp) s (nI ra) mk) (ze dw) (zf dw) (nI w)) (bl := bl) hd b1 (by omega) w
  have k3 := zkSettle (st := st) (zSmB_carN (br := g_X1_spread_x_6 (g_X1_burn_x_1 fu (g_X1_dig_x_1 fi ln cl cp) s (nI ra) mk) (ze dw) (zf dw) (nI w)) (bl := bl) hd b1 (by omega) w) hr (by omega) 48 (Nat.le_refl _)
  show zS (lp_X1_settle_2 (nI ra) ((lp_X1_runModel_14 (ze dw) (zf dw) ((lp_X1_burn_9 (nI ra / (3 : Int32)) (fu, (lp_X1_dig_2 cp (fi, ln, cl) 3).1, s, mk) 48).2.2.1, (g_X1_spread_x_6 (g_X1_burn_x_1 fu (g_X1_dig_x_1 fi ln cl cp) s (nI ra) mk) (ze dw) (zf dw) (nI w)), bl) w).1, st) 48).1 48 + (lp_X1_runModel_14 (ze dw) (zf dw) ((lp_X1_burn_9 (nI ra / (3 : Int32)) (fu, (lp_X1_dig_2 cp (fi, ln, cl) 3).1, s, mk) 48).2.2.1, (g_X1_spread_x_6 (g_X1_burn_x_1 fu (g_X1_dig_x_1 fi ln cl cp) s (nI ra) mk) (ze dw) (zf dw) (nI w)), bl) w).2.2 + (lp_X1_settle_2 (nI ra) ((lp_X1_runModel_14 (ze dw) (zf dw) ((lp_X1_burn_9 (nI ra / (3 : Int32)) (fu, (lp_X1_dig_2 cp (fi, ln, cl) 3).1, s, mk) 48).2.2.1, (g_X1_spread_x_6 (g_X1_burn_x_1 fu (g_X1_dig_x_1 fi ln cl cp) s (nI ra) mk) (ze dw) (zf dw) (nI w)), bl) w).1, st) 48).2 + mk = zS s 48 + bl + st + (lp_X1_burn_9 (nI ra / (3 : Int32)) (fu, (lp_X1_dig_2 cp (fi, ln, cl) 3).1, s, mk) 48).2.2.2
  rw [z64m (zS _ 48), k3, z64m _ st, k2, z64m _ st mk, z64m _ bl mk, k1, z64m _ _ bl, z64m _ _ st]
end
section
variable {tr pl hd va lo x y tr' va' out sm : Nat → Int32} {n M : Nat} {me : Int64}
/-- what the sensors mend is counted -/
theorem zkMend (hp : ∀ k, k < n → zSv (pl k) (x k) (y k)) (hr : ∀ k, k < n → zSr (hd k) (va k) (va' k)) (ht : ∀ k, k < n → ∃ m, m ≤ 100 ∧ tr k = nI m ∧ tr' k = nI m) (hn : n ≤ 10) (hM : 9999 ≤ M ∧ M ≤ 1000000) (bs : zBd 48 M sm) : ∀ i, i ≤ 48 → zS (lp_X4_mendAll_2 tr pl hd va lo n (me, sm) i).2 48 + me = zS sm 48 + (lp_X4_mendAll_2 tr pl hd va lo n (me, sm) i).1 := by
  intro i
  induction i with
  | zero => intro _; rw [lp_X4_mendAll_2_0]
  | succ i ih =>
    intro hi
    have j := ih (by omega)
    have b0 := zSmB_mend (me := me) (lo := lo) hp hr ht hn hM bs i (by omega)
    have b1 := zSmB_mend (me := me) (lo := lo) hp hr ht hn hM bs (i + 1) hi
    rw [lp_X4_mendAll_2_s] at b1 ⊢
    generalize lp_X4_mendAll_2 tr pl hd va lo n (me, sm) i = u at j b0 b1 ⊢
    unfold st_X4_mendAll_2 at b1 ⊢
    generalize lp_X4_mendAll_16 tr pl hd va lo i ((0 : Int32), (0 : Int32)) n = t at b1 ⊢
    dsimp only at b1 ⊢
    by_cases z : t.1 ≤ (0 : Int32)
    · rw [if_pos z, if_pos z]; exact j
    · rw [if_neg z] at b1
      rw [if_neg z, if_neg z]
      obtain ⟨a, ha, ea⟩ := b0 i (by omega)
      obtain ⟨m, hm, em⟩ := b1 i (by omega)
      rw [upd_i] at em
      rw [zS_add (show i < 48 by omega) (z64 ea em (by omega) (by omega)), z64m, j, Int64.add_assoc]
end
theorem z64l (a b c : Int64) : a + (b + c) = b + (a + c) := by rw [← Int64.add_assoc, Int64.add_comm a b, Int64.add_assoc]
theorem zkJoin {F me R2 me' R12 R13 mk S bl st R11 : Int64} (h1 : F + me = R2 + me') (h2 : R2 + R12 + R13 + mk = S + bl + st + R11) (h3 : S + bl + st = mk + me) : F + R12 + R13 = R11 + me' := by
  have e1 : F + R12 + R13 + (mk + me) = (F + me) + R12 + R13 + mk := by simp only [Int64.add_assoc, Int64.add_comm, z64l]
  have e2 : R2 + me' + R12 + R13 + mk = (R2 + R12 + R13 + mk) + me' := by simp only [Int64.add_assoc, Int64.add_comm, z64l]
  have e3 : mk + me + R11 + me' = R11 + me' + (mk + me) := by simp only [Int64.add_assoc, Int64.add_comm, z64l]
  apply zlc64 (c := mk + me)
  rw [e1, h1, e2, h2, h3, e3]
end ZKP
