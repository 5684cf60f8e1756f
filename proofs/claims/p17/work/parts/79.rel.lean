theorem zcmpE {a b : Int32} (h : a = b) : lg_cmp a.toInt64 b.toInt64 = (0 : Int32) := by rw [h]; exact zcmp0
set_option maxHeartbeats 4000000 in
set_option maxRecDepth 100000 in
theorem zo_hour_0 {aq : zAcs} {r : Nat} {wo : zWor} {la : zLand} {ou : zOutl} {al : zLand} {se : zSens} {su : zSubs} {sc : zScho} {rv : zWv} {md : zMd} {ml : zMl} {te : zMs} {sb : zMb} {so : zMo} {wa : zMw} {r1 : Nat} {r2 : Nat} {r3 : Nat} {r4 : Nat} (S : zCl aq r (wo, la, ou, al, se, su, sc) rv) (M : zSm (zch aq aq.1) md ml te sb so wa r1 r2 r3 r4) (R : zRl (wo, la, ou, al, se, su, sc) md ml te sb so wa) : (r_X7_hour wo) = (r_X12_hour md.2.1) := by
  have w := S.2.2.1.1.1
  have hwo : wo = nI (zch aq aq.1) := S.2.2.1.1.2.2.1
  have hmd : md.2.1 = wo := (M.2.2.2.2.2.2.2.2.2.2.1).trans hwo.symm
  have hcs : se.2.2.2.2.2.2.2.2.1 = nI te.1 := w.hcs.trans (congrArg nI R.2.2.2.1.1)
  have hcu : su.2.2.2.2.2.1 = nI sb.1 := w.hcu.trans (congrArg nI R.2.2.2.2.1.1)
  have hcc : sc.2.2.2.1 = nI so.1 := w.hcc.trans (congrArg nI R.2.2.2.2.2.2.1)
  have hns : te.1 ≤ 10 := M.2.2.2.2.1
  have hnu : sb.1 ≤ 12 := M.2.2.2.2.2.1
  have hnc : so.1 ≤ 6 := M.2.2.2.2.2.2.1
  exact hmd.symm

