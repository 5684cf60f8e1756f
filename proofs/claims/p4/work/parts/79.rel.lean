theorem zcmpE {a b : Int32} (h : a = b) : lg_cmp a.toInt64 b.toInt64 = (0 : Int32) := by rw [h]; exact zcmp0
set_option maxHeartbeats 4000000 in
set_option maxRecDepth 100000 in
theorem zo_setWind_0 {aq : zAcs} {r : Nat} {kc : Nat} {wo : zWor} {la : zLand} {ou : zOutl} {al : zLand} {se : zSens} {su : zSubs} {sc : zScho} {rv : zWv} {md : zMd} {ml : zMl} {te : zMs} {sb : zMb} {so : zMo} {wa : zMw} {r1 : Nat} {r2 : Nat} {r3 : Nat} {r4 : Nat} {xs : Nat → Int32} (S : zCl aq r (wo, la, ou, al, se, su, sc) rv) (M : zSm (zch aq aq.1) md ml te sb so wa r1 r2 r3 r4) (R : zRl (wo, la, ou, al, se, su, sc) md ml te sb so wa) : (r_X12_thrown (g_X12_setWind_md_0 (xs ((6 * kc) + 1)) (xs ((6 * kc) + 2)) (xs ((6 * kc) + 3)))) = (r_L_setWind (xs ((6 * kc) + 1)) (xs ((6 * kc) + 2)) (xs ((6 * kc) + 3))) := by
  have w := S.2.2.1.1.1
  have hwo : wo = nI (zch aq aq.1) := S.2.2.1.1.2.2.1
  have hmd : md.2.1 = wo := (M.2.2.2.2.2.2.2.2.2.2.1).trans hwo.symm
  have hcs : se.2.2.2.2.2.2.2.2.1 = nI te.1 := w.hcs.trans (congrArg nI R.2.2.2.1.1)
  have hcu : su.2.2.2.2.2.1 = nI sb.1 := w.hcu.trans (congrArg nI R.2.2.2.2.1.1)
  have hcc : sc.2.2.2.1 = nI so.1 := w.hcc.trans (congrArg nI R.2.2.2.2.2.2.1)
  have hns : te.1 ≤ 10 := M.2.2.2.2.1
  have hnu : sb.1 ≤ 12 := M.2.2.2.2.2.1
  have hnc : so.1 ≤ 6 := M.2.2.2.2.2.2.1
  unfold r_X12_thrown g_X12_setWind_md_0 g_X12_isWrong_md_0 r_L_setWind x_X7_setWind
  by_cases d1 : ((r_X12_isBetween (xs ((6 * kc) + 1)) (-1 : Int32) (1 : Int32)) = (0 : Int32))
  · rw [if_neg (fun z => (((show (x_X7_checkRange (xs ((6 * kc) + 1)) (-1 : Int32) (1 : Int32)) = (0 : Int32) ↔ ¬ ((r_X12_isBetween (xs ((6 * kc) + 1)) (-1 : Int32) (1 : Int32)) = (0 : Int32)) from zrB)).mp z) d1), if_pos d1, if_pos (rfl : (0 : Int32) = (0 : Int32))]
    all_goals decide
  rw [if_pos (((show (x_X7_checkRange (xs ((6 * kc) + 1)) (-1 : Int32) (1 : Int32)) = (0 : Int32) ↔ ¬ ((r_X12_isBetween (xs ((6 * kc) + 1)) (-1 : Int32) (1 : Int32)) = (0 : Int32)) from zrB)).mpr d1), if_neg d1]
  by_cases d2 : ((r_X12_isBetween (xs ((6 * kc) + 2)) (-1 : Int32) (1 : Int32)) = (0 : Int32))
  · rw [if_neg (fun z => (((show (x_X7_checkRange (xs ((6 * kc) + 2)) (-1 : Int32) (1 : Int32)) = (0 : Int32) ↔ ¬ ((r_X12_isBetween (xs ((6 * kc) + 2)) (-1 : Int32) (1 : Int32)) = (0 : Int32)) from zrB)).mp z) d2), if_pos d2, if_pos (rfl : (0 : Int32) = (0 : Int32))]
    all_goals decide
  rw [if_pos (((show (x_X7_checkRange (xs ((6 * kc) + 2)) (-1 : Int32) (1 : Int32)) = (0 : Int32) ↔ ¬ ((r_X12_isBetween (xs ((6 * kc) + 2)) (-1 : Int32) (1 : Int32)) = (0 : Int32)) from zrB)).mpr d2), if_neg d2]
  by_cases d3 : ((r_X12_isBetween (xs ((6 * kc) + 3)) (0 : Int32) (if (xs ((6 * kc) + 1)) = (0 : Int32) then (if (xs ((6 * kc) + 2)) = (0 : Int32) then (0 : Int32) else (4 : Int32)) else (4 : Int32))) = (0 : Int32))
  · rw [if_neg (fun z => (((show (x_X7_checkRange (xs ((6 * kc) + 3)) (0 : Int32) (if (xs ((6 * kc) + 1)) = (0 : Int32) then (if (xs ((6 * kc) + 2)) = (0 : Int32) then (0 : Int32) else (4 : Int32)) else (4 : Int32))) = (0 : Int32) ↔ ¬ ((r_X12_isBetween (xs ((6 * kc) + 3)) (0 : Int32) (if (xs ((6 * kc) + 1)) = (0 : Int32) then (if (xs ((6 * kc) + 2)) = (0 : Int32) then (0 : Int32) else (4 : Int32)) else (4 : Int32))) = (0 : Int32)) from zrB)).mp z) d3), if_pos d3, if_pos (rfl : (0 : Int32) = (0 : Int32))]
    all_goals decide
  rw [if_pos (((show (x_X7_checkRange (xs ((6 * kc) + 3)) (0 : Int32) (if (xs ((6 * kc) + 1)) = (0 : Int32) then (if (xs ((6 * kc) + 2)) = (0 : Int32) then (0 : Int32) else (4 : Int32)) else (4 : Int32))) = (0 : Int32) ↔ ¬ ((r_X12_isBetween (xs ((6 * kc) + 3)) (0 : Int32) (if (xs ((6 * kc) + 1)) = (0 : Int32) then (if (xs ((6 * kc) + 2)) = (0 : Int32) then (0 : Int32) else (4 : Int32)) else (4 : Int32))) = (0 : Int32)) from zrB)).mpr d3), if_neg d3, if_neg (by decide : ¬ (1 : Int32) = (0 : Int32))]
  all_goals decide
set_option maxHeartbeats 4000000 in
set_option maxRecDepth 100000 in
theorem zo_setWind_1 {aq : zAcs} {r : Nat} {kc : Nat} {wo : zWor} {la : zLand} {ou : zOutl} {al : zLand} {se : zSens} {su : zSubs} {sc : zScho} {rv : zWv} {lo : zLo} {md : zMd} {ml : zMl} {te : zMs} {sb : zMb} {so : zMo} {wa : zMw} {r1 : Nat} {r2 : Nat} {r3 : Nat} {r4 : Nat} {xs : Nat → Int32} (S : zCl aq r (wo, la, ou, al, se, su, sc) rv) (M : zSm (zch aq aq.1) md ml te sb so wa r1 r2 r3 r4) (R : zRl (wo, la, ou, al, se, su, sc) md ml te sb so wa) : ((r_L_setWind (xs ((6 * kc) + 1)) (xs ((6 * kc) + 2)) (xs ((6 * kc) + 3))) = (0 : Int32)) → (lg_cmp ((g_L_setWind_lo_0 la.2.2.2.2.2.2.2.2.2.1 lo (xs ((6 * kc) + 1)) (xs ((6 * kc) + 2)) (xs ((6 * kc) + 3))) (nI 0).toNatClampNeg) ((r_X12_setWind ml.2.2.2.2.2.2.2.2.1 (xs ((6 * kc) + 1)) (xs ((6 * kc) + 2)) (xs ((6 * kc) + 3))).toInt64)) = (0 : Int32) := by
  have w := S.2.2.1.1.1
  have hwo : wo = nI (zch aq aq.1) := S.2.2.1.1.2.2.1
  have hmd : md.2.1 = wo := (M.2.2.2.2.2.2.2.2.2.2.1).trans hwo.symm
  have hcs : se.2.2.2.2.2.2.2.2.1 = nI te.1 := w.hcs.trans (congrArg nI R.2.2.2.1.1)
  have hcu : su.2.2.2.2.2.1 = nI sb.1 := w.hcu.trans (congrArg nI R.2.2.2.2.1.1)
  have hcc : sc.2.2.2.1 = nI so.1 := w.hcc.trans (congrArg nI R.2.2.2.2.2.2.1)
  have hns : te.1 ≤ 10 := M.2.2.2.2.1
  have hnu : sb.1 ≤ 12 := M.2.2.2.2.2.1
  have hnc : so.1 ≤ 6 := M.2.2.2.2.2.2.1
  intro h
  have c : x_X7_setWind (xs ((6 * kc) + 1)) (xs ((6 * kc) + 2)) (xs ((6 * kc) + 3)) = (0 : Int32) := by
    by_cases z : x_X7_setWind (xs ((6 * kc) + 1)) (xs ((6 * kc) + 2)) (xs ((6 * kc) + 3)) = (0 : Int32)
    · exact z
    · exfalso
      revert h
      unfold r_L_setWind
      rw [if_neg z]
      (repeat' split) <;> (intro h; exact absurd h (by decide))
  have cr : r_X12_isWrong (if (if (r_X12_isBetween (xs ((6 * kc) + 1)) (-1 : Int32) (1 : Int32)) = (0 : Int32) then (0 : Int32) else (if (r_X12_isBetween (xs ((6 * kc) + 2)) (-1 : Int32) (1 : Int32)) = (0 : Int32) then (0 : Int32) else (if (r_X12_isBetween (xs ((6 * kc) + 3)) (0 : Int32) (if (xs ((6 * kc) + 1)) = (0 : Int32) then (if (xs ((6 * kc) + 2)) = (0 : Int32) then (0 : Int32) else (4 : Int32)) else (4 : Int32))) = (0 : Int32) then (0 : Int32) else (1 : Int32)))) = (0 : Int32) then (1 : Int32) else (0 : Int32)) = (0 : Int32) := by
    have q : r_X12_thrown (g_X12_setWind_md_0 (xs ((6 * kc) + 1)) (xs ((6 * kc) + 2)) (xs ((6 * kc) + 3))) = (0 : Int32) := (zo_setWind_0 S M R).trans h
    exact zwr.mpr (Int32.le_of_eq q)
  have c' := c
  unfold x_X7_setWind at c'
  have c1 : (x_X7_checkRange (xs ((6 * kc) + 1)) (-1 : Int32) (1 : Int32)) = (0 : Int32) := by
    by_cases z : (x_X7_checkRange (xs ((6 * kc) + 1)) (-1 : Int32) (1 : Int32)) = (0 : Int32)
    · exact z
    · rw [if_neg z] at c'; exact absurd c' (by decide)
  rw [if_pos c1] at c'
  have c2 : (x_X7_checkRange (xs ((6 * kc) + 2)) (-1 : Int32) (1 : Int32)) = (0 : Int32) := by
    by_cases z : (x_X7_checkRange (xs ((6 * kc) + 2)) (-1 : Int32) (1 : Int32)) = (0 : Int32)
    · exact z
    · rw [if_neg z] at c'; exact absurd c' (by decide)
  rw [if_pos c2] at c'
  have c3 : (x_X7_checkRange (xs ((6 * kc) + 3)) (0 : Int32) (if (xs ((6 * kc) + 1)) = (0 : Int32) then (if (xs ((6 * kc) + 2)) = (0 : Int32) then (0 : Int32) else (4 : Int32)) else (4 : Int32))) = (0 : Int32) := by
    by_cases z : (x_X7_checkRange (xs ((6 * kc) + 3)) (0 : Int32) (if (xs ((6 * kc) + 1)) = (0 : Int32) then (if (xs ((6 * kc) + 2)) = (0 : Int32) then (0 : Int32) else (4 : Int32)) else (4 : Int32))) = (0 : Int32)
    · exact z
    · rw [if_neg z] at c'; exact absurd c' (by decide)
  rw [if_pos c3] at c'
  clear c'
  unfold g_L_setWind_lo_0 r_X12_setWind r_X7_setWind
  simp only [if_pos c, if_pos cr, if_pos c1, if_pos c2, if_pos c3]
  rw [zupdL]
  exact zcmpE (R.1.2.1.elim fun dw ⟨wd, ra, _, _, _, _, _, _, _, _, _, _, m8, _⟩ => m8.symm)
