theorem zcmpE {a b : Int32} (h : a = b) : lg_cmp a.toInt64 b.toInt64 = (0 : Int32) := by rw [h]; exact zcmp0
theorem zb01 {x : Int32} : (if x = (0 : Int32) then (0 : Int32) else (1 : Int32)) = (0 : Int32) ↔ x = (0 : Int32) := by
  by_cases z : x = (0 : Int32)
  · rw [if_pos z]; exact ⟨fun _ => z, fun _ => rfl⟩
  · rw [if_neg z]; exact ⟨fun h => absurd h (by decide), fun h => absurd h z⟩
theorem zcmpB {a b : Int32} (h : a = (0 : Int32) ↔ b = (0 : Int32)) : lg_cmp (if a = (0 : Int32) then (0 : Int64) else (1 : Int64)) (if b = (0 : Int32) then (0 : Int64) else (1 : Int64)) = (0 : Int32) := by
  by_cases z : b = (0 : Int32)
  · rw [if_pos (h.mpr z), if_pos z]; exact zcmp0
  · rw [if_neg (fun y => z (h.mp y)), if_neg z]; exact zcmp0
theorem zstlo {t lo db ag t' row out wd : Int32} (h : zStv t lo db ag t' row out wd) : lo = out := by
  rcases h.2 with ⟨l, o, -⟩ | ⟨l, o, -⟩
  · exact l.trans o.symm
  · exact l.trans o.symm
theorem zcntR {hd va : Nat → Int32} {n : Nat} (h : ∀ k, k < n → (hd k = (0 : Int32) ↔ r_X10_hasRead va k = (0 : Int32))) : ∀ j, j ≤ n → lp_X4_take_19 hd (0 : Int32) j = lp_X12_read_67 va (0 : Int32) j := by
  intro j
  induction j with
  | zero => intro _; rw [lp_X4_take_19_0, lp_X12_read_67_0]
  | succ j ih =>
    intro hj
    rw [lp_X4_take_19_s, lp_X12_read_67_s, ih (by omega)]
    unfold st_X4_take_19 st_X12_read_67
    by_cases z : hd j = (0 : Int32)
    · rw [if_pos z, if_pos ((h j (by omega)).mp z), Int32.add_zero]
    · rw [if_neg z, if_neg (fun y => z ((h j (by omega)).mpr y))]
theorem zcntT {lo out : Nat → Int32} {n : Nat} (h : ∀ k, k < n → lo k = out k) : ∀ j, j ≤ n → lp_X4_counting_4 lo (0 : Int32) j = lp_X12_trustShare_12 out (0 : Int32) j := by
  intro j
  induction j with
  | zero => intro _; rw [lp_X4_counting_4_0, lp_X12_trustShare_12_0]
  | succ j ih =>
    intro hj
    rw [lp_X4_counting_4_s, lp_X12_trustShare_12_s, ih (by omega)]
    unfold st_X4_counting_4 st_X12_trustShare_12
    rw [h j (by omega)]
    by_cases z : out j = (0 : Int32)
    · rw [if_pos z, if_pos z]
    · rw [if_neg z, if_neg z, Int32.add_zero]
theorem zsumS {sm sm' : Nat → Int32} (h : zEq 48 sm sm') : ∀ j, j ≤ 48 → lp_X1_smokeInAll_4 sm (0 : Int64) j = lp_X12_meanSmoke_22 sm' (0 : Int64) j := by
  intro j
  induction j with
  | zero => intro _; rw [lp_X1_smokeInAll_4_0, lp_X12_meanSmoke_22_0]
  | succ j ih =>
    intro hj
    rw [lp_X1_smokeInAll_4_s, lp_X12_meanSmoke_22_s, ih (by omega)]
    unfold st_X1_smokeInAll_4 st_X12_meanSmoke_22
    rw [h j (by omega)]
theorem zfdv (x : Int64) : Jvm.FP.Core.val64 (FP.ddiv (FP.l2d x) 4631952216750555136) ≠ .nan := by
  have e : Jvm.FP.Core.val64 (FP.ddiv (FP.l2d x) 4631952216750555136) = Jvm.FP.Core.quotient Jvm.FP.Core.b64 (Jvm.FP.Core.val64 (FP.l2d x)) (Jvm.FP.Core.val64 4631952216750555136) := Jvm.FP.Core.val64_ddiv _ _
  rw [e, show Jvm.FP.Core.val64 4631952216750555136 = .fin false 6755399441055744 (-47) by decide +kernel]
  have h := zfl2d x
  cases hv : Jvm.FP.Core.val64 (FP.l2d x) with
  | nan => exact absurd hv h
  | inf s => intro h; cases h
  | fin s c q => exact zrr
theorem zvupd {f : Nat → UInt64} {i : Nat} {v : UInt64} : vf_upd f i v i = v := if_pos rfl
theorem zfcmp : ∀ a : Nat, a < 11 → ∀ b : Nat, b < 11 → 0 < b → (Op.cmpValue (FP.dcmp (FP.f2d (FP.fdiv (FP.i2f (nI a)) (FP.i2f (nI b)))) (FP.f2d (FP.fdiv (FP.i2f (nI a)) (FP.i2f (nI b))))) .l) = (0 : Int32) := by decide +kernel
set_option maxHeartbeats 4000000 in
set_option maxRecDepth 100000 in
theorem zo_trustShare_0 {aq : zAcs} {r : Nat} {wo : zWor} {la : zLand} {ou : zOutl} {al : zLand} {se : zSens} {su : zSubs} {sc : zScho} {rv : zWv} {md : zMd} {ml : zMl} {te : zMs} {sb : zMb} {so : zMo} {wa : zMw} {r1 : Nat} {r2 : Nat} {r3 : Nat} {r4 : Nat} (S : zCl aq r (wo, la, ou, al, se, su, sc) rv) (M : zSm (zch aq aq.1) md ml te sb so wa r1 r2 r3 r4) (R : zRl (wo, la, ou, al, se, su, sc) md ml te sb so wa) : (r_X12_thrown (g_X12_trustShare_md_0 te.1)) = (r_L_trustShare se.2.2.2.2.2.2.2.2.1) := by
  have w := S.2.2.1.1.1
  have hwo : wo = nI (zch aq aq.1) := S.2.2.1.1.2.2.1
  have hmd : md.2.1 = wo := (M.2.2.2.2.2.2.2.2.2.2.1).trans hwo.symm
  have hcs : se.2.2.2.2.2.2.2.2.1 = nI te.1 := w.hcs.trans (congrArg nI R.2.2.2.1.1)
  have hcu : su.2.2.2.2.2.1 = nI sb.1 := w.hcu.trans (congrArg nI R.2.2.2.2.1.1)
  have hcc : sc.2.2.2.1 = nI so.1 := w.hcc.trans (congrArg nI R.2.2.2.2.2.2.1)
  have hcw : nI su.2.2.2.2.2.2.2.2.2.1 = nI wa.1 := congrArg nI R.2.2.2.2.2.1.1
  have hqw : su.2.2.2.2.2.2.2.2.2.1 = wa.1 := R.2.2.2.2.2.1.1
  have hnw : wa.1 ≤ 11988 := Nat.le_trans M.2.2.2.2.2.2.2.2.2.2.2.2.1 (by have := M.2.2.2.2.2.2.2.2.2.2.2.1; omega)
  have hns : te.1 ≤ 10 := M.2.2.2.2.1
  have hnu : sb.1 ≤ 12 := M.2.2.2.2.2.1
  have hnc : so.1 ≤ 6 := M.2.2.2.2.2.2.1
  have key : ∀ n, n < 11 → (r_X12_thrown (g_X12_trustShare_md_0 n)) = (r_L_trustShare (nI n)) := by decide
  rw [hcs]
  exact key te.1 (by omega)

set_option maxHeartbeats 4000000 in
set_option maxRecDepth 100000 in
theorem zo_trustShare_1 {aq : zAcs} {r : Nat} {wo : zWor} {la : zLand} {ou : zOutl} {al : zLand} {se : zSens} {su : zSubs} {sc : zScho} {rv : zWv} {md : zMd} {ml : zMl} {te : zMs} {sb : zMb} {so : zMo} {wa : zMw} {r1 : Nat} {r2 : Nat} {r3 : Nat} {r4 : Nat} (S : zCl aq r (wo, la, ou, al, se, su, sc) rv) (M : zSm (zch aq aq.1) md ml te sb so wa r1 r2 r3 r4) (R : zRl (wo, la, ou, al, se, su, sc) md ml te sb so wa) : ((r_L_trustShare se.2.2.2.2.2.2.2.2.1) = (0 : Int32)) → vf_n64 (FP.f2d (r_X12_trustShare te.1 te.2.2.2.2.2.2.1)) := by
  have w := S.2.2.1.1.1
  have hwo : wo = nI (zch aq aq.1) := S.2.2.1.1.2.2.1
  have hmd : md.2.1 = wo := (M.2.2.2.2.2.2.2.2.2.2.1).trans hwo.symm
  have hcs : se.2.2.2.2.2.2.2.2.1 = nI te.1 := w.hcs.trans (congrArg nI R.2.2.2.1.1)
  have hcu : su.2.2.2.2.2.1 = nI sb.1 := w.hcu.trans (congrArg nI R.2.2.2.2.1.1)
  have hcc : sc.2.2.2.1 = nI so.1 := w.hcc.trans (congrArg nI R.2.2.2.2.2.2.1)
  have hcw : nI su.2.2.2.2.2.2.2.2.2.1 = nI wa.1 := congrArg nI R.2.2.2.2.2.1.1
  have hqw : su.2.2.2.2.2.2.2.2.2.1 = wa.1 := R.2.2.2.2.2.1.1
  have hnw : wa.1 ≤ 11988 := Nat.le_trans M.2.2.2.2.2.2.2.2.2.2.2.2.1 (by have := M.2.2.2.2.2.2.2.2.2.2.2.1; omega)
  have hns : te.1 ≤ 10 := M.2.2.2.2.1
  have hnu : sb.1 ≤ 12 := M.2.2.2.2.2.1
  have hnc : so.1 ≤ 6 := M.2.2.2.2.2.2.1
  intro h
  have hz : ¬ te.1 = 0 := fun z => by
    rw [hcs, z] at h
    exact absurd h (by decide)
  have hz2 : 0 < te.1 := by omega
  have k1 : ∀ n, n < 11 → 0 < n → r_X12_isWrong (if (r_Jx4a65c_isEmpty_aae02 (nI n)) = (0 : Int32) then (0 : Int32) else (1 : Int32)) = (0 : Int32) := by decide
  have k2 := k1 te.1 (by omega) hz2
  obtain ⟨t, h1, h2⟩ := zmcnt te.2.2.2.2.2.2.1 te.1
  unfold r_X12_trustShare
  rw [if_pos k2, h2]
  exact (zfshare t (by omega) te.1 (by omega) hz2).2

set_option maxHeartbeats 4000000 in
set_option maxRecDepth 100000 in
theorem zo_trustShare_2 {aq : zAcs} {r : Nat} {wo : zWor} {la : zLand} {ou : zOutl} {al : zLand} {se : zSens} {su : zSubs} {sc : zScho} {rv : zWv} {ld : zLd} {md : zMd} {ml : zMl} {te : zMs} {sb : zMb} {so : zMo} {wa : zMw} {r1 : Nat} {r2 : Nat} {r3 : Nat} {r4 : Nat} (S : zCl aq r (wo, la, ou, al, se, su, sc) rv) (M : zSm (zch aq aq.1) md ml te sb so wa r1 r2 r3 r4) (R : zRl (wo, la, ou, al, se, su, sc) md ml te sb so wa) : ((r_L_trustShare se.2.2.2.2.2.2.2.2.1) = (0 : Int32)) → (Op.cmpValue (FP.dcmp ((g_L_trustShare_ld_0 ld se.2.2.2.2.1 se.2.2.2.2.2.2.2.2.1 (nsv (wo, la, ou, al, se, su, sc))) (nI 0).toNatClampNeg) (FP.f2d (r_X12_trustShare te.1 te.2.2.2.2.2.2.1))) .l) = (0 : Int32) := by
  have w := S.2.2.1.1.1
  have hwo : wo = nI (zch aq aq.1) := S.2.2.1.1.2.2.1
  have hmd : md.2.1 = wo := (M.2.2.2.2.2.2.2.2.2.2.1).trans hwo.symm
  have hcs : se.2.2.2.2.2.2.2.2.1 = nI te.1 := w.hcs.trans (congrArg nI R.2.2.2.1.1)
  have hcu : su.2.2.2.2.2.1 = nI sb.1 := w.hcu.trans (congrArg nI R.2.2.2.2.1.1)
  have hcc : sc.2.2.2.1 = nI so.1 := w.hcc.trans (congrArg nI R.2.2.2.2.2.2.1)
  have hcw : nI su.2.2.2.2.2.2.2.2.2.1 = nI wa.1 := congrArg nI R.2.2.2.2.2.1.1
  have hqw : su.2.2.2.2.2.2.2.2.2.1 = wa.1 := R.2.2.2.2.2.1.1
  have hnw : wa.1 ≤ 11988 := Nat.le_trans M.2.2.2.2.2.2.2.2.2.2.2.2.1 (by have := M.2.2.2.2.2.2.2.2.2.2.2.1; omega)
  have hns : te.1 ≤ 10 := M.2.2.2.2.1
  have hnu : sb.1 ≤ 12 := M.2.2.2.2.2.1
  have hnc : so.1 ≤ 6 := M.2.2.2.2.2.2.1
  intro h
  have hz : ¬ te.1 = 0 := fun z => by
    rw [hcs, z] at h
    exact absurd h (by decide)
  have hz2 : 0 < te.1 := by omega
  have k1 : ∀ n, n < 11 → 0 < n → r_X12_isWrong (if (r_Jx4a65c_isEmpty_aae02 (nI n)) = (0 : Int32) then (0 : Int32) else (1 : Int32)) = (0 : Int32) := by decide
  have k2 := k1 te.1 (by omega) hz2
  obtain ⟨t, h1, h2⟩ := zmcnt te.2.2.2.2.2.2.1 te.1
  have k3 : ∀ n, n < 11 → 0 < n → ¬ nI n = (0 : Int32) := by decide
  have k4 := k3 te.1 (by omega) hz2
  have c : x_X7_trustShare (nI te.1) = (0 : Int32) := by unfold x_X7_trustShare; rw [if_neg k4]
  have ze : nsv (wo, la, ou, al, se, su, sc) = te.1 := R.2.2.2.1.1
  unfold g_L_trustShare_ld_0 r_X12_trustShare r_X7_trustShare r_X4_counting
  rw [hcs, if_pos c, zvupd, if_neg k4, if_pos k2, ze, zcntT (fun k hk => zstlo (R.2.2.2.1.2.1 k (Nat.lt_of_lt_of_eq hk ze.symm)).2.2) te.1 (Nat.le_refl _), h2]
  exact zfcmp t (by omega) te.1 (by omega) hz2

