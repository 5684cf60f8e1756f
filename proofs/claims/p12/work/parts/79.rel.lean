theorem zcmpE {a b : Int32} (h : a = b) : lg_cmp a.toInt64 b.toInt64 = (0 : Int32) := by rw [h]; exact zcmp0
theorem zb01 {x : Int32} : (if x = (0 : Int32) then (0 : Int32) else (1 : Int32)) = (0 : Int32) ↔ x = (0 : Int32) := by
  by_cases z : x = (0 : Int32)
  · rw [if_pos z]; exact ⟨fun _ => z, fun _ => rfl⟩
  · rw [if_neg z]; exact ⟨fun h => absurd h (by decide), fun h => absurd h z⟩
theorem zcmpB {a b : Int32} (h : a = (0 : Int32) ↔ b = (0 : Int32)) : lg_cmp (if a = (0 : Int32) then (0 : Int64) else (1 : Int64)) (if b = (0 : Int32) then (0 : Int64) else (1 : Int64)) = (0 : Int32) := by
  by_cases z : b = (0 : Int32)
  · rw [if_pos (h.mpr z), if_pos z]; exact zcmp0
  · rw [if_neg (fun y => z (h.mp y)), if_neg z]; exact zcmp0
theorem zstlo {t lo db ag t' row out wd : Int32} (h : zStv t lo db ag t' row out wd) : lo = out := by
  rcases h.2 with ⟨l, o, -⟩ | ⟨l, o, -⟩
  · exact l.trans o.symm
  · exact l.trans o.symm
theorem zcntR {hd va : Nat → Int32} {n : Nat} (h : ∀ k, k < n → (hd k = (0 : Int32) ↔ r_X10_hasRead va k = (0 : Int32))) : ∀ j, j ≤ n → lp_X4_take_19 hd (0 : Int32) j = lp_X12_read_67 va (0 : Int32) j := by
  intro j
  induction j with
  | zero => intro _; rw [lp_X4_take_19_0, lp_X12_read_67_0]
  | succ j ih =>
    intro hj
    rw [lp_X4_take_19_s, lp_X12_read_67_s, ih (by omega)]
    unfold st_X4_take_19 st_X12_read_67
    by_cases z : hd j = (0 : Int32)
    · rw [if_pos z, if_pos ((h j (by omega)).mp z), Int32.add_zero]
    · rw [if_neg z, if_neg (fun y => z ((h j (by omega)).mpr y))]
theorem zcntT {lo out : Nat → Int32} {n : Nat} (h : ∀ k, k < n → lo k = out k) : ∀ j, j ≤ n → lp_X4_counting_4 lo (0 : Int32) j = lp_X12_trustShare_12 out (0 : Int32) j := by
  intro j
  induction j with
  | zero => intro _; rw [lp_X4_counting_4_0, lp_X12_trustShare_12_0]
  | succ j ih =>
    intro hj
    rw [lp_X4_counting_4_s, lp_X12_trustShare_12_s, ih (by omega)]
    unfold st_X4_counting_4 st_X12_trustShare_12
    rw [h j (by omega)]
    by_cases z : out j = (0 : Int32)
    · rw [if_pos z, if_pos z]
    · rw [if_neg z, if_neg z, Int32.add_zero]
theorem zsumS {sm sm' : Nat → Int32} (h : zEq 48 sm sm') : ∀ j, j ≤ 48 → lp_X1_smokeInAll_4 sm (0 : Int64) j = lp_X12_meanSmoke_22 sm' (0 : Int64) j := by
  intro j
  induction j with
  | zero => intro _; rw [lp_X1_smokeInAll_4_0, lp_X12_meanSmoke_22_0]
  | succ j ih =>
    intro hj
    rw [lp_X1_smokeInAll_4_s, lp_X12_meanSmoke_22_s, ih (by omega)]
    unfold st_X1_smokeInAll_4 st_X12_meanSmoke_22
    rw [h j (by omega)]
set_option maxHeartbeats 4000000 in
set_option maxRecDepth 100000 in
theorem zo_subscribe_0 {aq : zAcs} {r : Nat} {kc : Nat} {wo : zWor} {la : zLand} {ou : zOutl} {al : zLand} {se : zSens} {su : zSubs} {sc : zScho} {rv : zWv} {md : zMd} {ml : zMl} {te : zMs} {sb : zMb} {so : zMo} {wa : zMw} {r1 : Nat} {r2 : Nat} {r3 : Nat} {r4 : Nat} {xs : Nat → Int32} (S : zCl aq r (wo, la, ou, al, se, su, sc) rv) (M : zSm (zch aq aq.1) md ml te sb so wa r1 r2 r3 r4) (R : zRl (wo, la, ou, al, se, su, sc) md ml te sb so wa) : (r_X12_thrown (g_X12_subscribe_md_0 sb.1 (xs ((6 * kc) + 1)) (xs ((6 * kc) + 2)) (xs ((6 * kc) + 3)) (xs ((6 * kc) + 4)) (xs ((6 * kc) + 5)))) = (r_L_subscribe su.2.2.2.2.2.1 (xs ((6 * kc) + 1)) (xs ((6 * kc) + 2)) (xs ((6 * kc) + 3)) (xs ((6 * kc) + 4)) (xs ((6 * kc) + 5))) := by
  have w := S.2.2.1.1.1
  have hwo : wo = nI (zch aq aq.1) := S.2.2.1.1.2.2.1
  have hmd : md.2.1 = wo := (M.2.2.2.2.2.2.2.2.2.2.1).trans hwo.symm
  have hcs : se.2.2.2.2.2.2.2.2.1 = nI te.1 := w.hcs.trans (congrArg nI R.2.2.2.1.1)
  have hcu : su.2.2.2.2.2.1 = nI sb.1 := w.hcu.trans (congrArg nI R.2.2.2.2.1.1)
  have hcc : sc.2.2.2.1 = nI so.1 := w.hcc.trans (congrArg nI R.2.2.2.2.2.2.1)
  have hcw : nI su.2.2.2.2.2.2.2.2.2.1 = nI wa.1 := congrArg nI R.2.2.2.2.2.1.1
  have hqw : su.2.2.2.2.2.2.2.2.2.1 = wa.1 := R.2.2.2.2.2.1.1
  have hnw : wa.1 ≤ 11988 := Nat.le_trans M.2.2.2.2.2.2.2.2.2.2.2.2.1 (by have := M.2.2.2.2.2.2.2.2.2.2.2.1; omega)
  have hns : te.1 ≤ 10 := M.2.2.2.2.1
  have hnu : sb.1 ≤ 12 := M.2.2.2.2.2.1
  have hnc : so.1 ≤ 6 := M.2.2.2.2.2.2.1
  unfold r_X12_thrown g_X12_subscribe_md_0  g_X12_isWrong_md_0 r_L_subscribe x_X7_subscribe
  by_cases d1 : ((r_X12_isCell (xs ((6 * kc) + 1)) (xs ((6 * kc) + 2))) = (0 : Int32))
  · rw [if_neg (fun z => (((show (x_X7_placeOf (xs ((6 * kc) + 1)) (xs ((6 * kc) + 2))) = (0 : Int32) ↔ ¬ ((r_X12_isCell (xs ((6 * kc) + 1)) (xs ((6 * kc) + 2))) = (0 : Int32)) from zcB)).mp z) d1), if_pos d1]
    all_goals decide
  rw [if_pos (((show (x_X7_placeOf (xs ((6 * kc) + 1)) (xs ((6 * kc) + 2))) = (0 : Int32) ↔ ¬ ((r_X12_isCell (xs ((6 * kc) + 1)) (xs ((6 * kc) + 2))) = (0 : Int32)) from zcB)).mpr d1), if_neg d1]
  by_cases d2 : ((r_X12_isBetween (xs ((6 * kc) + 3)) (20 : Int32) (9999 : Int32)) = (0 : Int32))
  · rw [if_neg (fun z => (((show (x_X7_checkRange (xs ((6 * kc) + 3)) (20 : Int32) (9999 : Int32)) = (0 : Int32) ↔ ¬ ((r_X12_isBetween (xs ((6 * kc) + 3)) (20 : Int32) (9999 : Int32)) = (0 : Int32)) from zrB)).mp z) d2), if_pos d2, if_pos (rfl : (0 : Int32) = (0 : Int32))]
    all_goals decide
  rw [if_pos (((show (x_X7_checkRange (xs ((6 * kc) + 3)) (20 : Int32) (9999 : Int32)) = (0 : Int32) ↔ ¬ ((r_X12_isBetween (xs ((6 * kc) + 3)) (20 : Int32) (9999 : Int32)) = (0 : Int32)) from zrB)).mpr d2), if_neg d2]
  by_cases d3 : ((r_X12_isBetween (xs ((6 * kc) + 4)) (0 : Int32) (23 : Int32)) = (0 : Int32))
  · rw [if_neg (fun z => (((show (x_X7_checkRange (xs ((6 * kc) + 4)) (0 : Int32) (23 : Int32)) = (0 : Int32) ↔ ¬ ((r_X12_isBetween (xs ((6 * kc) + 4)) (0 : Int32) (23 : Int32)) = (0 : Int32)) from zrB)).mp z) d3), if_pos d3, if_pos (rfl : (0 : Int32) = (0 : Int32))]
    all_goals decide
  rw [if_pos (((show (x_X7_checkRange (xs ((6 * kc) + 4)) (0 : Int32) (23 : Int32)) = (0 : Int32) ↔ ¬ ((r_X12_isBetween (xs ((6 * kc) + 4)) (0 : Int32) (23 : Int32)) = (0 : Int32)) from zrB)).mpr d3), if_neg d3]
  by_cases d4 : ((r_X12_isBetween (xs ((6 * kc) + 5)) (0 : Int32) (23 : Int32)) = (0 : Int32))
  · rw [if_neg (fun z => (((show (x_X7_checkRange (xs ((6 * kc) + 5)) (0 : Int32) (23 : Int32)) = (0 : Int32) ↔ ¬ ((r_X12_isBetween (xs ((6 * kc) + 5)) (0 : Int32) (23 : Int32)) = (0 : Int32)) from zrB)).mp z) d4), if_pos d4, if_pos (rfl : (0 : Int32) = (0 : Int32))]
    all_goals decide
  rw [if_pos (((show (x_X7_checkRange (xs ((6 * kc) + 5)) (0 : Int32) (23 : Int32)) = (0 : Int32) ↔ ¬ ((r_X12_isBetween (xs ((6 * kc) + 5)) (0 : Int32) (23 : Int32)) = (0 : Int32)) from zrB)).mpr d4), if_neg d4, if_neg (by decide : ¬ (1 : Int32) = (0 : Int32))]
  by_cases d5 : ((r_Jx4a65c_size_8abf5 (nI sb.1)) = (12 : Int32))
  · rw [if_neg (fun z => (((show (x_X7_checkRoom su.2.2.2.2.2.1 (12 : Int32)) = (0 : Int32) ↔ ¬ ((r_Jx4a65c_size_8abf5 (nI sb.1)) = (12 : Int32)) from zrm (N := 12) hcu hnu (by decide))).mp z) d5), if_pos d5]
    all_goals decide
  rw [if_pos (((show (x_X7_checkRoom su.2.2.2.2.2.1 (12 : Int32)) = (0 : Int32) ↔ ¬ ((r_Jx4a65c_size_8abf5 (nI sb.1)) = (12 : Int32)) from zrm (N := 12) hcu hnu (by decide))).mpr d5), if_neg d5]
  all_goals decide
set_option maxHeartbeats 4000000 in
set_option maxRecDepth 100000 in
theorem zo_subscribe_1 {aq : zAcs} {r : Nat} {kc : Nat} {wo : zWor} {la : zLand} {ou : zOutl} {al : zLand} {se : zSens} {su : zSubs} {sc : zScho} {rv : zWv} {lo : zLo} {md : zMd} {ml : zMl} {te : zMs} {sb : zMb} {so : zMo} {wa : zMw} {r1 : Nat} {r2 : Nat} {r3 : Nat} {r4 : Nat} {xs : Nat → Int32} (S : zCl aq r (wo, la, ou, al, se, su, sc) rv) (M : zSm (zch aq aq.1) md ml te sb so wa r1 r2 r3 r4) (R : zRl (wo, la, ou, al, se, su, sc) md ml te sb so wa) : ((r_L_subscribe su.2.2.2.2.2.1 (xs ((6 * kc) + 1)) (xs ((6 * kc) + 2)) (xs ((6 * kc) + 3)) (xs ((6 * kc) + 4)) (xs ((6 * kc) + 5))) = (0 : Int32)) → (lg_cmp ((g_L_subscribe_lo_0 lo su.2.2.2.2.2.1 (xs ((6 * kc) + 1)) (xs ((6 * kc) + 2)) (xs ((6 * kc) + 3)) (xs ((6 * kc) + 4)) (xs ((6 * kc) + 5))) (nI 0).toNatClampNeg) ((r_X12_subscribe sb.1 (xs ((6 * kc) + 1)) (xs ((6 * kc) + 2)) (xs ((6 * kc) + 3)) (xs ((6 * kc) + 4)) (xs ((6 * kc) + 5))).toInt64)) = (0 : Int32) := by
  have w := S.2.2.1.1.1
  have hwo : wo = nI (zch aq aq.1) := S.2.2.1.1.2.2.1
  have hmd : md.2.1 = wo := (M.2.2.2.2.2.2.2.2.2.2.1).trans hwo.symm
  have hcs : se.2.2.2.2.2.2.2.2.1 = nI te.1 := w.hcs.trans (congrArg nI R.2.2.2.1.1)
  have hcu : su.2.2.2.2.2.1 = nI sb.1 := w.hcu.trans (congrArg nI R.2.2.2.2.1.1)
  have hcc : sc.2.2.2.1 = nI so.1 := w.hcc.trans (congrArg nI R.2.2.2.2.2.2.1)
  have hcw : nI su.2.2.2.2.2.2.2.2.2.1 = nI wa.1 := congrArg nI R.2.2.2.2.2.1.1
  have hqw : su.2.2.2.2.2.2.2.2.2.1 = wa.1 := R.2.2.2.2.2.1.1
  have hnw : wa.1 ≤ 11988 := Nat.le_trans M.2.2.2.2.2.2.2.2.2.2.2.2.1 (by have := M.2.2.2.2.2.2.2.2.2.2.2.1; omega)
  have hns : te.1 ≤ 10 := M.2.2.2.2.1
  have hnu : sb.1 ≤ 12 := M.2.2.2.2.2.1
  have hnc : so.1 ≤ 6 := M.2.2.2.2.2.2.1
  intro h
  have c : x_X7_subscribe su.2.2.2.2.2.1 (xs ((6 * kc) + 1)) (xs ((6 * kc) + 2)) (xs ((6 * kc) + 3)) (xs ((6 * kc) + 4)) (xs ((6 * kc) + 5)) = (0 : Int32) := by
    by_cases z : x_X7_subscribe su.2.2.2.2.2.1 (xs ((6 * kc) + 1)) (xs ((6 * kc) + 2)) (xs ((6 * kc) + 3)) (xs ((6 * kc) + 4)) (xs ((6 * kc) + 5)) = (0 : Int32)
    · exact z
    · exfalso
      revert h
      unfold r_L_subscribe
      rw [if_neg z]
      (repeat' split) <;> (intro h; exact absurd h (by decide))
  have cr : r_X12_isWrong (if (r_X12_isCell (xs ((6 * kc) + 1)) (xs ((6 * kc) + 2))) = (0 : Int32) then (1 : Int32) else (if (if (r_X12_isBetween (xs ((6 * kc) + 3)) (20 : Int32) (9999 : Int32)) = (0 : Int32) then (0 : Int32) else (if (r_X12_isBetween (xs ((6 * kc) + 4)) (0 : Int32) (23 : Int32)) = (0 : Int32) then (0 : Int32) else (if (r_X12_isBetween (xs ((6 * kc) + 5)) (0 : Int32) (23 : Int32)) = (0 : Int32) then (0 : Int32) else (1 : Int32)))) = (0 : Int32) then (2 : Int32) else (if (r_Jx4a65c_size_8abf5 (nI sb.1)) = (12 : Int32) then (3 : Int32) else (0 : Int32)))) = (0 : Int32) := by
    have q : r_X12_thrown (g_X12_subscribe_md_0 sb.1 (xs ((6 * kc) + 1)) (xs ((6 * kc) + 2)) (xs ((6 * kc) + 3)) (xs ((6 * kc) + 4)) (xs ((6 * kc) + 5))) = (0 : Int32) := (zo_subscribe_0 S M R).trans h
    exact zwr.mpr (Int32.le_of_eq q)
  have c' := c
  unfold x_X7_subscribe at c'
  have c1 : (x_X7_placeOf (xs ((6 * kc) + 1)) (xs ((6 * kc) + 2))) = (0 : Int32) := by
    by_cases z : (x_X7_placeOf (xs ((6 * kc) + 1)) (xs ((6 * kc) + 2))) = (0 : Int32)
    · exact z
    · rw [if_neg z] at c'; exact absurd c' (by decide)
  rw [if_pos c1] at c'
  have c2 : (x_X7_checkRange (xs ((6 * kc) + 3)) (20 : Int32) (9999 : Int32)) = (0 : Int32) := by
    by_cases z : (x_X7_checkRange (xs ((6 * kc) + 3)) (20 : Int32) (9999 : Int32)) = (0 : Int32)
    · exact z
    · rw [if_neg z] at c'; exact absurd c' (by decide)
  rw [if_pos c2] at c'
  have c3 : (x_X7_checkRange (xs ((6 * kc) + 4)) (0 : Int32) (23 : Int32)) = (0 : Int32) := by
    by_cases z : (x_X7_checkRange (xs ((6 * kc) + 4)) (0 : Int32) (23 : Int32)) = (0 : Int32)
    · exact z
    · rw [if_neg z] at c'; exact absurd c' (by decide)
  rw [if_pos c3] at c'
  have c4 : (x_X7_checkRange (xs ((6 * kc) + 5)) (0 : Int32) (23 : Int32)) = (0 : Int32) := by
    by_cases z : (x_X7_checkRange (xs ((6 * kc) + 5)) (0 : Int32) (23 : Int32)) = (0 : Int32)
    · exact z
    · rw [if_neg z] at c'; exact absurd c' (by decide)
  rw [if_pos c4] at c'
  have c5 : (x_X7_checkRoom su.2.2.2.2.2.1 (12 : Int32)) = (0 : Int32) := by
    by_cases z : (x_X7_checkRoom su.2.2.2.2.2.1 (12 : Int32)) = (0 : Int32)
    · exact z
    · rw [if_neg z] at c'; exact absurd c' (by decide)
  rw [if_pos c5] at c'
  have d1 : ¬ r_X12_isCell (xs ((6 * kc) + 1)) (xs ((6 * kc) + 2)) = (0 : Int32) := zcB.mp c1
  clear c'
  unfold g_L_subscribe_lo_0 r_X12_subscribe  r_X7_subscribe
  simp only [if_pos c, if_pos cr, if_pos c1, if_pos c2, if_pos c3, if_pos c4, if_pos c5]
  rw [zupdL]
  exact zcmpE (by show su.2.2.2.2.2.1 = nI (sb.1 + 1) - (1 : Int32); rw [hcu]; exact (nI_pred _).symm)
