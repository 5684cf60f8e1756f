abbrev zWv : Type := zWor × zLand × zOutl × zLand × zSens × zSubs × zScho
def wvW (G : zG) (h : Nat) (ad adl ado ada ads adu adc : Nat → Nat) (v : zWv) (t : va_W) : va_W := worW G h ad v.1 ++ (landW G (ad 0) adl v.2.1 ++ (outW G (ad 1) ado v.2.2.1 ++ (landW G (ado 0) ada v.2.2.2.1 ++ (sensW G (ad 2) ads v.2.2.2.2.1 ++ (subW G (ad 3) adu v.2.2.2.2.2.1 ++ (schW G (ad 4) adc v.2.2.2.2.2.2 ++ t))))))
def nsv (v : zWv) : Nat := (v.2.2.2.2.1.2.2.2.2.2.2.2.2.1).toNatClampNeg
def nuv (v : zWv) : Nat := (v.2.2.2.2.2.1.2.2.2.2.2.1).toNatClampNeg
def ncv (v : zWv) : Nat := (v.2.2.2.2.2.2.2.2.2.1).toNatClampNeg
def kv (v : zWv) : Nat := (v.2.1.2.2.2.2.2.2.2.2.2.1).toNatClampNeg
def zcap (v : zWv) : Nat := v.2.2.2.2.2.1.2.2.2.2.2.2.2.2.2.2.1
def zcapN (v : zWv) (n : Nat) : Nat := (lp_X6_perform_10_210 v.2.1.2.2.2.2.2.1 v.2.1.2.2.2.2.2.2.2.1 v.2.1.2.2.2.2.2.2.2.2.1 v.2.1.2.2.2.2.2.2.2.2.2.1 v.2.1.2.2.2.2.2.2.2.2.2.2.1 v.2.2.2.2.2.2.2.1 v.2.2.2.2.2.2.2.2.1 v.2.2.2.2.2.2.2.2.2.1 v.2.2.2.2.1.2.1 v.2.2.2.2.1.2.2.2.1 v.2.2.2.2.2.1.2.1 v.2.2.2.2.2.1.2.2.1 v.2.2.2.2.2.1.2.2.2.1 v.2.2.2.2.2.1.2.2.2.2.1 (nsv v) (nuv v) (ncv v) (kv v) (v.2.2.2.1.1, v.2.2.2.1.2.1, v.2.2.2.1.2.2.1, v.2.2.2.1.2.2.2.1, v.2.2.2.1.2.2.2.2.1, v.2.2.2.1.2.2.2.2.2.1, v.2.2.2.1.2.2.2.2.2.2.1, v.2.2.2.1.2.2.2.2.2.2.2.1, v.2.2.2.1.2.2.2.2.2.2.2.2.1, v.2.2.2.1.2.2.2.2.2.2.2.2.2.1, v.2.2.2.1.2.2.2.2.2.2.2.2.2.2.1, v.2.2.2.1.2.2.2.2.2.2.2.2.2.2.2.1, v.2.2.2.1.2.2.2.2.2.2.2.2.2.2.2.2.1, v.2.2.2.1.2.2.2.2.2.2.2.2.2.2.2.2.2, v.2.1.1, v.2.1.2.1, v.2.1.2.2.1, v.2.1.2.2.2.1, v.2.1.2.2.2.2.1, v.2.1.2.2.2.2.2.2.1, v.2.1.2.2.2.2.2.2.2.2.2.2.2.1, v.2.1.2.2.2.2.2.2.2.2.2.2.2.2.1, v.2.1.2.2.2.2.2.2.2.2.2.2.2.2.2, v.2.2.1, v.2.2.2.2.2.2.1, v.2.2.2.2.2.2.2.2.2.2, v.2.2.2.2.1.1, v.2.2.2.2.1.2.2.1, v.2.2.2.2.1.2.2.2.2.1, v.2.2.2.2.1.2.2.2.2.2.1, v.2.2.2.2.1.2.2.2.2.2.2.1, v.2.2.2.2.1.2.2.2.2.2.2.2.1, v.2.2.2.2.1.2.2.2.2.2.2.2.2.2, v.2.2.2.2.2.1.1, v.2.2.2.2.2.1.2.2.2.2.2.2.1, v.2.2.2.2.2.1.2.2.2.2.2.2.2.1, v.2.2.2.2.2.1.2.2.2.2.2.2.2.2.1, v.2.2.2.2.2.1.2.2.2.2.2.2.2.2.2.1, v.2.2.2.2.2.1.2.2.2.2.2.2.2.2.2.2.1, v.2.2.2.2.2.1.2.2.2.2.2.2.2.2.2.2.2.1, v.2.2.2.2.2.1.2.2.2.2.2.2.2.2.2.2.2.2, v.1) n).2.2.2.2.2.2.2.2.2.2.2.2.2.2.2.2.2.2.2.2.2.2.2.2.2.2.2.2.2.2.2.2.2.2.2.2.2.2.1
def zap (v : zWv) (x : zAct) : zWv := if x.1 = (1 : Int32) then (v.1, f_X6_perform_1_la v.1 v.2.1 v.2.2.1 v.2.2.2.1 v.2.2.2.2.1 v.2.2.2.2.2.1 v.2.2.2.2.2.2 x, v.2.2.1, v.2.2.2.1, v.2.2.2.2.1, v.2.2.2.2.2.1, v.2.2.2.2.2.2) else (if x.1 = (2 : Int32) then (v.1, f_X6_perform_2_la v.1 v.2.1 v.2.2.1 v.2.2.2.1 v.2.2.2.2.1 v.2.2.2.2.2.1 v.2.2.2.2.2.2 x, v.2.2.1, v.2.2.2.1, v.2.2.2.2.1, v.2.2.2.2.2.1, v.2.2.2.2.2.2) else (if x.1 = (3 : Int32) then (v.1, f_X6_perform_3_la v.1 v.2.1 v.2.2.1 v.2.2.2.1 v.2.2.2.2.1 v.2.2.2.2.2.1 v.2.2.2.2.2.2 x, v.2.2.1, v.2.2.2.1, v.2.2.2.2.1, v.2.2.2.2.2.1, v.2.2.2.2.2.2) else (if x.1 = (4 : Int32) then (v.1, f_X6_perform_4_la v.1 v.2.1 v.2.2.1 v.2.2.2.1 v.2.2.2.2.1 v.2.2.2.2.2.1 v.2.2.2.2.2.2 x, v.2.2.1, v.2.2.2.1, v.2.2.2.2.1, v.2.2.2.2.2.1, v.2.2.2.2.2.2) else (if x.1 = (5 : Int32) then (v.1, f_X6_perform_5_la v.1 v.2.1 v.2.2.1 v.2.2.2.1 v.2.2.2.2.1 v.2.2.2.2.2.1 v.2.2.2.2.2.2 x, v.2.2.1, v.2.2.2.1, v.2.2.2.2.1, v.2.2.2.2.2.1, v.2.2.2.2.2.2) else (if x.1 = (6 : Int32) then (v.1, v.2.1, v.2.2.1, v.2.2.2.1, f_X6_perform_6_se v.1 v.2.1 v.2.2.1 v.2.2.2.1 v.2.2.2.2.1 v.2.2.2.2.2.1 v.2.2.2.2.2.2 x (nsv v), v.2.2.2.2.2.1, v.2.2.2.2.2.2) else (if x.1 = (7 : Int32) then (v.1, v.2.1, v.2.2.1, v.2.2.2.1, f_X6_perform_7_se v.1 v.2.1 v.2.2.1 v.2.2.2.1 v.2.2.2.2.1 v.2.2.2.2.2.1 v.2.2.2.2.2.2 x (nsv v), v.2.2.2.2.2.1, v.2.2.2.2.2.2) else (if x.1 = (8 : Int32) then (v.1, v.2.1, v.2.2.1, v.2.2.2.1, v.2.2.2.2.1, f_X6_perform_8_su v.1 v.2.1 v.2.2.1 v.2.2.2.1 v.2.2.2.2.1 v.2.2.2.2.2.1 v.2.2.2.2.2.2 x (nuv v), v.2.2.2.2.2.2) else (if x.1 = (9 : Int32) then (v.1, v.2.1, v.2.2.1, v.2.2.2.1, v.2.2.2.2.1, v.2.2.2.2.2.1, f_X6_perform_9_sc v.1 v.2.1 v.2.2.1 v.2.2.2.1 v.2.2.2.2.1 v.2.2.2.2.2.1 v.2.2.2.2.2.2 x (ncv v)) else (if x.1 = (10 : Int32) then (f_X6_perform_10_wo v.1 v.2.1 v.2.2.1 v.2.2.2.1 v.2.2.2.2.1 v.2.2.2.2.2.1 v.2.2.2.2.2.2 x (nsv v) (nuv v) (ncv v) (kv v) x.2.1.toNatClampNeg (zcapN v x.2.1.toNatClampNeg), f_X6_perform_10_la v.1 v.2.1 v.2.2.1 v.2.2.2.1 v.2.2.2.2.1 v.2.2.2.2.2.1 v.2.2.2.2.2.2 x (nsv v) (nuv v) (ncv v) (kv v) x.2.1.toNatClampNeg (zcapN v x.2.1.toNatClampNeg), f_X6_perform_10_ou v.1 v.2.1 v.2.2.1 v.2.2.2.1 v.2.2.2.2.1 v.2.2.2.2.2.1 v.2.2.2.2.2.2 x (nsv v) (nuv v) (ncv v) (kv v) x.2.1.toNatClampNeg (zcapN v x.2.1.toNatClampNeg), f_X6_perform_10_al v.1 v.2.1 v.2.2.1 v.2.2.2.1 v.2.2.2.2.1 v.2.2.2.2.2.1 v.2.2.2.2.2.2 x (nsv v) (nuv v) (ncv v) (kv v) x.2.1.toNatClampNeg (zcapN v x.2.1.toNatClampNeg), f_X6_perform_10_se v.1 v.2.1 v.2.2.1 v.2.2.2.1 v.2.2.2.2.1 v.2.2.2.2.2.1 v.2.2.2.2.2.2 x (nsv v) (nuv v) (ncv v) (kv v) x.2.1.toNatClampNeg (zcapN v x.2.1.toNatClampNeg), f_X6_perform_10_su v.1 v.2.1 v.2.2.1 v.2.2.2.1 v.2.2.2.2.1 v.2.2.2.2.2.1 v.2.2.2.2.2.2 x (nsv v) (nuv v) (ncv v) (kv v) x.2.1.toNatClampNeg (zcapN v x.2.1.toNatClampNeg), f_X6_perform_10_sc v.1 v.2.1 v.2.2.1 v.2.2.2.1 v.2.2.2.2.1 v.2.2.2.2.2.1 v.2.2.2.2.2.2 x (nsv v) (nuv v) (ncv v) (kv v) x.2.1.toNatClampNeg (zcapN v x.2.1.toNatClampNeg)) else v)))))))))
theorem zap_1 (v : zWv) (a : Int32 × Int32 × Int32 × Int32) : zap v ((1 : Int32), a) = (v.1, f_X6_perform_1_la v.1 v.2.1 v.2.2.1 v.2.2.2.1 v.2.2.2.2.1 v.2.2.2.2.2.1 v.2.2.2.2.2.2 ((1 : Int32), a), v.2.2.1, v.2.2.2.1, v.2.2.2.2.1, v.2.2.2.2.2.1, v.2.2.2.2.2.2) := by
  unfold zap
  rw [if_pos (by decide : (1 : Int32) = (1 : Int32))]
theorem zap_2 (v : zWv) (a : Int32 × Int32 × Int32 × Int32) : zap v ((2 : Int32), a) = (v.1, f_X6_perform_2_la v.1 v.2.1 v.2.2.1 v.2.2.2.1 v.2.2.2.2.1 v.2.2.2.2.2.1 v.2.2.2.2.2.2 ((2 : Int32), a), v.2.2.1, v.2.2.2.1, v.2.2.2.2.1, v.2.2.2.2.2.1, v.2.2.2.2.2.2) := by
  unfold zap
  rw [if_neg (by decide : ¬ (2 : Int32) = (1 : Int32)), if_pos (by decide : (2 : Int32) = (2 : Int32))]
theorem zap_3 (v : zWv) (a : Int32 × Int32 × Int32 × Int32) : zap v ((3 : Int32), a) = (v.1, f_X6_perform_3_la v.1 v.2.1 v.2.2.1 v.2.2.2.1 v.2.2.2.2.1 v.2.2.2.2.2.1 v.2.2.2.2.2.2 ((3 : Int32), a), v.2.2.1, v.2.2.2.1, v.2.2.2.2.1, v.2.2.2.2.2.1, v.2.2.2.2.2.2) := by
  unfold zap
  rw [if_neg (by decide : ¬ (3 : Int32) = (1 : Int32)), if_neg (by decide : ¬ (3 : Int32) = (2 : Int32)), if_pos (by decide : (3 : Int32) = (3 : Int32))]
theorem zap_4 (v : zWv) (a : Int32 × Int32 × Int32 × Int32) : zap v ((4 : Int32), a) = (v.1, f_X6_perform_4_la v.1 v.2.1 v.2.2.1 v.2.2.2.1 v.2.2.2.2.1 v.2.2.2.2.2.1 v.2.2.2.2.2.2 ((4 : Int32), a), v.2.2.1, v.2.2.2.1, v.2.2.2.2.1, v.2.2.2.2.2.1, v.2.2.2.2.2.2) := by
  unfold zap
  rw [if_neg (by decide : ¬ (4 : Int32) = (1 : Int32)), if_neg (by decide : ¬ (4 : Int32) = (2 : Int32)), if_neg (by decide : ¬ (4 : Int32) = (3 : Int32)), if_pos (by decide : (4 : Int32) = (4 : Int32))]
theorem zap_5 (v : zWv) (a : Int32 × Int32 × Int32 × Int32) : zap v ((5 : Int32), a) = (v.1, f_X6_perform_5_la v.1 v.2.1 v.2.2.1 v.2.2.2.1 v.2.2.2.2.1 v.2.2.2.2.2.1 v.2.2.2.2.2.2 ((5 : Int32), a), v.2.2.1, v.2.2.2.1, v.2.2.2.2.1, v.2.2.2.2.2.1, v.2.2.2.2.2.2) := by
  unfold zap
  rw [if_neg (by decide : ¬ (5 : Int32) = (1 : Int32)), if_neg (by decide : ¬ (5 : Int32) = (2 : Int32)), if_neg (by decide : ¬ (5 : Int32) = (3 : Int32)), if_neg (by decide : ¬ (5 : Int32) = (4 : Int32)), if_pos (by decide : (5 : Int32) = (5 : Int32))]
theorem zap_6 (v : zWv) (a : Int32 × Int32 × Int32 × Int32) : zap v ((6 : Int32), a) = (v.1, v.2.1, v.2.2.1, v.2.2.2.1, f_X6_perform_6_se v.1 v.2.1 v.2.2.1 v.2.2.2.1 v.2.2.2.2.1 v.2.2.2.2.2.1 v.2.2.2.2.2.2 ((6 : Int32), a) (nsv v), v.2.2.2.2.2.1, v.2.2.2.2.2.2) := by
  unfold zap
  rw [if_neg (by decide : ¬ (6 : Int32) = (1 : Int32)), if_neg (by decide : ¬ (6 : Int32) = (2 : Int32)), if_neg (by decide : ¬ (6 : Int32) = (3 : Int32)), if_neg (by decide : ¬ (6 : Int32) = (4 : Int32)), if_neg (by decide : ¬ (6 : Int32) = (5 : Int32)), if_pos (by decide : (6 : Int32) = (6 : Int32))]
theorem zap_7 (v : zWv) (a : Int32 × Int32 × Int32 × Int32) : zap v ((7 : Int32), a) = (v.1, v.2.1, v.2.2.1, v.2.2.2.1, f_X6_perform_7_se v.1 v.2.1 v.2.2.1 v.2.2.2.1 v.2.2.2.2.1 v.2.2.2.2.2.1 v.2.2.2.2.2.2 ((7 : Int32), a) (nsv v), v.2.2.2.2.2.1, v.2.2.2.2.2.2) := by
  unfold zap
  rw [if_neg (by decide : ¬ (7 : Int32) = (1 : Int32)), if_neg (by decide : ¬ (7 : Int32) = (2 : Int32)), if_neg (by decide : ¬ (7 : Int32) = (3 : Int32)), if_neg (by decide : ¬ (7 : Int32) = (4 : Int32)), if_neg (by decide : ¬ (7 : Int32) = (5 : Int32)), if_neg (by decide : ¬ (7 : Int32) = (6 : Int32)), if_pos (by decide : (7 : Int32) = (7 : Int32))]
theorem zap_8 (v : zWv) (a : Int32 × Int32 × Int32 × Int32) : zap v ((8 : Int32), a) = (v.1, v.2.1, v.2.2.1, v.2.2.2.1, v.2.2.2.2.1, f_X6_perform_8_su v.1 v.2.1 v.2.2.1 v.2.2.2.1 v.2.2.2.2.1 v.2.2.2.2.2.1 v.2.2.2.2.2.2 ((8 : Int32), a) (nuv v), v.2.2.2.2.2.2) := by
  unfold zap
  rw [if_neg (by decide : ¬ (8 : Int32) = (1 : Int32)), if_neg (by decide : ¬ (8 : Int32) = (2 : Int32)), if_neg (by decide : ¬ (8 : Int32) = (3 : Int32)), if_neg (by decide : ¬ (8 : Int32) = (4 : Int32)), if_neg (by decide : ¬ (8 : Int32) = (5 : Int32)), if_neg (by decide : ¬ (8 : Int32) = (6 : Int32)), if_neg (by decide : ¬ (8 : Int32) = (7 : Int32)), if_pos (by decide : (8 : Int32) = (8 : Int32))]
theorem zap_9 (v : zWv) (a : Int32 × Int32 × Int32 × Int32) : zap v ((9 : Int32), a) = (v.1, v.2.1, v.2.2.1, v.2.2.2.1, v.2.2.2.2.1, v.2.2.2.2.2.1, f_X6_perform_9_sc v.1 v.2.1 v.2.2.1 v.2.2.2.1 v.2.2.2.2.1 v.2.2.2.2.2.1 v.2.2.2.2.2.2 ((9 : Int32), a) (ncv v)) := by
  unfold zap
  rw [if_neg (by decide : ¬ (9 : Int32) = (1 : Int32)), if_neg (by decide : ¬ (9 : Int32) = (2 : Int32)), if_neg (by decide : ¬ (9 : Int32) = (3 : Int32)), if_neg (by decide : ¬ (9 : Int32) = (4 : Int32)), if_neg (by decide : ¬ (9 : Int32) = (5 : Int32)), if_neg (by decide : ¬ (9 : Int32) = (6 : Int32)), if_neg (by decide : ¬ (9 : Int32) = (7 : Int32)), if_neg (by decide : ¬ (9 : Int32) = (8 : Int32)), if_pos (by decide : (9 : Int32) = (9 : Int32))]
theorem zap_10 (v : zWv) (a : Int32 × Int32 × Int32 × Int32) : zap v ((10 : Int32), a) = (f_X6_perform_10_wo v.1 v.2.1 v.2.2.1 v.2.2.2.1 v.2.2.2.2.1 v.2.2.2.2.2.1 v.2.2.2.2.2.2 ((10 : Int32), a) (nsv v) (nuv v) (ncv v) (kv v) a.1.toNatClampNeg (zcapN v a.1.toNatClampNeg), f_X6_perform_10_la v.1 v.2.1 v.2.2.1 v.2.2.2.1 v.2.2.2.2.1 v.2.2.2.2.2.1 v.2.2.2.2.2.2 ((10 : Int32), a) (nsv v) (nuv v) (ncv v) (kv v) a.1.toNatClampNeg (zcapN v a.1.toNatClampNeg), f_X6_perform_10_ou v.1 v.2.1 v.2.2.1 v.2.2.2.1 v.2.2.2.2.1 v.2.2.2.2.2.1 v.2.2.2.2.2.2 ((10 : Int32), a) (nsv v) (nuv v) (ncv v) (kv v) a.1.toNatClampNeg (zcapN v a.1.toNatClampNeg), f_X6_perform_10_al v.1 v.2.1 v.2.2.1 v.2.2.2.1 v.2.2.2.2.1 v.2.2.2.2.2.1 v.2.2.2.2.2.2 ((10 : Int32), a) (nsv v) (nuv v) (ncv v) (kv v) a.1.toNatClampNeg (zcapN v a.1.toNatClampNeg), f_X6_perform_10_se v.1 v.2.1 v.2.2.1 v.2.2.2.1 v.2.2.2.2.1 v.2.2.2.2.2.1 v.2.2.2.2.2.2 ((10 : Int32), a) (nsv v) (nuv v) (ncv v) (kv v) a.1.toNatClampNeg (zcapN v a.1.toNatClampNeg), f_X6_perform_10_su v.1 v.2.1 v.2.2.1 v.2.2.2.1 v.2.2.2.2.1 v.2.2.2.2.2.1 v.2.2.2.2.2.2 ((10 : Int32), a) (nsv v) (nuv v) (ncv v) (kv v) a.1.toNatClampNeg (zcapN v a.1.toNatClampNeg), f_X6_perform_10_sc v.1 v.2.1 v.2.2.1 v.2.2.2.1 v.2.2.2.2.1 v.2.2.2.2.2.1 v.2.2.2.2.2.2 ((10 : Int32), a) (nsv v) (nuv v) (ncv v) (kv v) a.1.toNatClampNeg (zcapN v a.1.toNatClampNeg)) := by
  unfold zap
  rw [if_neg (by decide : ¬ (10 : Int32) = (1 : Int32)), if_neg (by decide : ¬ (10 : Int32) = (2 : Int32)), if_neg (by decide : ¬ (10 : Int32) = (3 : Int32)), if_neg (by decide : ¬ (10 : Int32) = (4 : Int32)), if_neg (by decide : ¬ (10 : Int32) = (5 : Int32)), if_neg (by decide : ¬ (10 : Int32) = (6 : Int32)), if_neg (by decide : ¬ (10 : Int32) = (7 : Int32)), if_neg (by decide : ¬ (10 : Int32) = (8 : Int32)), if_neg (by decide : ¬ (10 : Int32) = (9 : Int32)), if_pos (by decide : (10 : Int32) = (10 : Int32))]
structure zW10 (v : zWv) : Prop where
  hcs : v.2.2.2.2.1.2.2.2.2.2.2.2.2.1 = nI (nsv v)
  hns : (nsv v) ≤ 10
  hT : zTR v.2.2.2.2.1.1
  hcu : v.2.2.2.2.2.1.2.2.2.2.2.1 = nI (nuv v)
  hnu : (nuv v) ≤ 12
  hpu : ∀ j0, j0 < (nuv v) → vp_in (v.2.2.2.2.2.1.2.1 j0) 48
  hcc : v.2.2.2.2.2.2.2.2.2.1 = nI (ncv v)
  hnc : (ncv v) ≤ 6
  hpc : ∀ j0, j0 < (ncv v) → vp_in (v.2.2.2.2.2.2.2.1 j0) 48
  hq : ∀ j0, j0 < 3 → vp_in (v.2.1.2.2.2.2.2.1 j0) 48
  hw : v.2.1.2.2.2.2.2.2.2.2.2.1 = nI (kv v)
  hk : (kv v) < 2 ^ 31
  hbo : zBo v.2.1.2.2.2.1
  hC : zCap v.2.2.2.2.2.1.2.2.2.2.2.2.2.2.2.1 v.2.2.2.2.2.1.2.2.2.2.2.2.2.2.2.2.1 v.2.2.2.2.2.1.2.2.2.2.2.2.2.2.2.2.2.1 v.2.2.2.2.2.1.2.2.2.2.2.2.2.2.2.2.2.2
  hq0 : v.2.2.2.2.2.1.2.2.2.2.2.2.2.2.2.1 ≤ 500000
  ha0 : v.2.2.2.2.2.1.2.2.2.2.2.2.2.2.2.2.1 ≤ 1000000
def zVa (v : zWv) (x : zAct) : Prop := (x.1 = (1 : Int32) ∧ vp_in x.2.1 48) ∨ (x.1 = (2 : Int32) ∧ vp_in x.2.1 48) ∨ (x.1 = (3 : Int32)) ∨ (x.1 = (4 : Int32)) ∨ (x.1 = (5 : Int32) ∧ vp_in x.2.1 48 ∧ vp_in x.2.2.1 3) ∨ (x.1 = (6 : Int32) ∧ v.2.2.2.2.1.2.2.2.2.2.2.2.2.1 = nI (nsv v) ∧ nsv v < 10) ∨ (x.1 = (7 : Int32) ∧ v.2.2.2.2.1.2.2.2.2.2.2.2.2.1 = nI (nsv v) ∧ nsv v ≤ 10 ∧ vp_in x.2.1 10) ∨ (x.1 = (8 : Int32) ∧ v.2.2.2.2.2.1.2.2.2.2.2.1 = nI (nuv v) ∧ nuv v < 12) ∨ (x.1 = (9 : Int32) ∧ v.2.2.2.2.2.2.2.2.2.1 = nI (ncv v) ∧ ncv v < 6) ∨ (x.1 = (10 : Int32) ∧ zW10 v ∧ x.2.1 = nI x.2.1.toNatClampNeg ∧ x.2.1.toNatClampNeg ≤ 24)
theorem sg_split {n j : Nat} (h : j < n) {a : Nat → Nat} {c : Nat → va_E} : sgW n a c = sgW j a c ++ ([(a j, c j)] ++ sgW (n - (j + 1)) (fun i => a (j + 1 + i)) (fun i => c (j + 1 + i))) := by
  have e : n = (j + 1) + (n - (j + 1)) := by omega
  conv => lhs; rw [e]
  unfold sgW
  rw [List.range_add, List.map_append, List.range_succ, List.map_append, List.map_map, List.append_assoc]
  rfl
section ZPF
variable {p : Program} {l : Launch} {e : Env} {s : State} {m : MethodId} {args : Array Value} {below : List Frame} {meth : Method} {c : Code} {H : Heap} {locs : List Loc} {cells slots : Nat} {Q : State → Prop}
variable {G : zG} {A : Nat → Prop} {w2 : va_W} {ls : Array Slot}
set_option maxHeartbeats 4000000 in
set_option maxRecDepth 100000 in
theorem zperf {mc ms : Nat} (B : zM p s m args c cX7_isSame 2 RX7 G A) {h h2 : Nat} {ad adl ado ada ads adu adc : Nat → Nat} {v : zWv} {x : zAct} (hv : zVa v x) (hW : zW G A s.heap H locs (wvW G h ad adl ado ada ads adu adc v ([(h2, .inr (4, [.int x.1, .int x.2.1, .int x.2.2.1, .int x.2.2.2.1, .int x.2.2.2.2]))] ++ w2))) (hsz : ls.size = 2) (hf : cells + 3 * (zcap (zap v x) - zcap v) ≤ mc ∧ slots + 6 * (zcap (zap v x) - zcap v) ≤ ms)
    (kk : ∀ (i : Int32) (adu' : Nat → Nat) (H1 : Heap) (locs1 : List Loc), zW G A s.heap H1 locs1 (wvW G h ad adl ado ada ads adu' adc (zap v x) ([(h2, .inr (4, [.int x.1, .int x.2.1, .int x.2.2.1, .int x.2.2.2.1, .int x.2.2.2.2]))] ++ w2)) → W p l e (zRm 9 mc ms) s m args below meth c H1 locs1 (cells + 3 * (zcap (zap v x) - zcap v)) (slots + 6 * (zcap (zap v x) - zcap v)) Q (F0 m 33 ls [.int i])) :
    W p l e (zRm 9 mc ms) s m args below meth c H locs cells slots Q (F0 m 30 ls [.ref h2, .ref h]) := by
  have e : wvW G h ad adl ado ada ads adu adc v ([(h2, .inr (4, [.int x.1, .int x.2.1, .int x.2.2.1, .int x.2.2.2.1, .int x.2.2.2.2]))] ++ w2) = [] ++ (wvW G h ad adl ado ada ads adu adc v ([(h2, .inr (4, [.int x.1, .int x.2.1, .int x.2.2.1, .int x.2.2.2.1, .int x.2.2.2.2]))]) ++ w2) := by
    simp only [wvW, List.append_assoc, List.nil_append]
  have hW := hW.eq e
  clear e
  obtain ⟨kd, a⟩ := x
  rcases hv with ⟨h1, hp⟩ | ⟨h1, hp⟩ | h1 | h1 | ⟨h1, hp, hc3⟩ | ⟨h1, hcs, hns⟩ | ⟨h1, hcs, hns, ha⟩ | ⟨h1, hcu, hnu⟩ | ⟨h1, hcc, hnc⟩ | ⟨h1, w, hn, hn24⟩
  · change kd = (1 : Int32) at h1
    subst h1
    have ez := zap_1 v a
    rw [ez] at kk hf
    refine zcV (w1 := []) (wc := wvW G h ad adl ado ada ads adu adc v (actW G h2 (fun _ => 0) ((1 : Int32), a))) (w2 := w2) (As := [.ref h2]) B (hW.eq rfl) (c_X6_perform_1 l G h ad v.1 adl v.2.1 ado v.2.2.1 ada v.2.2.2.1 ads v.2.2.2.2.1 adu v.2.2.2.2.2.1 adc v.2.2.2.2.2.2 h2 (fun _ => 0) ((1 : Int32), a) hp) yd_X6_perform ml_X7_44 0 rfl rfl rfl rfl hsz rfl (Nat.le_of_ble_eq_true rfl) ⟨Nat.le_of_ble_eq_true rfl, Nat.le_of_ble_eq_true rfl⟩ ⟨by omega, by omega⟩ dX7_isSame_30 (fun r u H1 locs1 hp_ hW1 => ?_)
    obtain ⟨rfl, rfl⟩ := hp_
    refine W.widen (k := cells + 3 * (zcap (v.1, f_X6_perform_1_la v.1 v.2.1 v.2.2.1 v.2.2.2.1 v.2.2.2.2.1 v.2.2.2.2.2.1 v.2.2.2.2.2.2 ((1 : Int32), a), v.2.2.1, v.2.2.2.1, v.2.2.2.2.1, v.2.2.2.2.2.1, v.2.2.2.2.2.2) - zcap v)) (n := slots + 6 * (zcap (v.1, f_X6_perform_1_la v.1 v.2.1 v.2.2.1 v.2.2.2.1 v.2.2.2.2.1 v.2.2.2.2.2.1 v.2.2.2.2.2.2 ((1 : Int32), a), v.2.2.1, v.2.2.2.1, v.2.2.2.2.1, v.2.2.2.2.2.1, v.2.2.2.2.2.2) - zcap v)) (Nat.le_add_right _ _) (Nat.le_add_right _ _) ?_
    exact kk _ adu H1 locs1 (hW1.eq (by simp only [wvW, List.append_assoc, List.nil_append] <;> rfl))
  · change kd = (2 : Int32) at h1
    subst h1
    have ez := zap_2 v a
    rw [ez] at kk hf
    refine zcV (w1 := []) (wc := wvW G h ad adl ado ada ads adu adc v (actW G h2 (fun _ => 0) ((2 : Int32), a))) (w2 := w2) (As := [.ref h2]) B (hW.eq rfl) (c_X6_perform_2 l G h ad v.1 adl v.2.1 ado v.2.2.1 ada v.2.2.2.1 ads v.2.2.2.2.1 adu v.2.2.2.2.2.1 adc v.2.2.2.2.2.2 h2 (fun _ => 0) ((2 : Int32), a) hp) yd_X6_perform ml_X7_44 0 rfl rfl rfl rfl hsz rfl (Nat.le_of_ble_eq_true rfl) ⟨Nat.le_of_ble_eq_true rfl, Nat.le_of_ble_eq_true rfl⟩ ⟨by omega, by omega⟩ dX7_isSame_30 (fun r u H1 locs1 hp_ hW1 => ?_)
    obtain ⟨rfl, rfl⟩ := hp_
    refine W.widen (k := cells + 3 * (zcap (v.1, f_X6_perform_2_la v.1 v.2.1 v.2.2.1 v.2.2.2.1 v.2.2.2.2.1 v.2.2.2.2.2.1 v.2.2.2.2.2.2 ((2 : Int32), a), v.2.2.1, v.2.2.2.1, v.2.2.2.2.1, v.2.2.2.2.2.1, v.2.2.2.2.2.2) - zcap v)) (n := slots + 6 * (zcap (v.1, f_X6_perform_2_la v.1 v.2.1 v.2.2.1 v.2.2.2.1 v.2.2.2.2.1 v.2.2.2.2.2.1 v.2.2.2.2.2.2 ((2 : Int32), a), v.2.2.1, v.2.2.2.1, v.2.2.2.2.1, v.2.2.2.2.2.1, v.2.2.2.2.2.2) - zcap v)) (Nat.le_add_right _ _) (Nat.le_add_right _ _) ?_
    exact kk _ adu H1 locs1 (hW1.eq (by simp only [wvW, List.append_assoc, List.nil_append] <;> rfl))
  · change kd = (3 : Int32) at h1
    subst h1
    have ez := zap_3 v a
    rw [ez] at kk hf
    refine zcV (w1 := []) (wc := wvW G h ad adl ado ada ads adu adc v (actW G h2 (fun _ => 0) ((3 : Int32), a))) (w2 := w2) (As := [.ref h2]) B (hW.eq rfl) (c_X6_perform_3 l G h ad v.1 adl v.2.1 ado v.2.2.1 ada v.2.2.2.1 ads v.2.2.2.2.1 adu v.2.2.2.2.2.1 adc v.2.2.2.2.2.2 h2 (fun _ => 0) ((3 : Int32), a) ) yd_X6_perform ml_X7_44 0 rfl rfl rfl rfl hsz rfl (Nat.le_of_ble_eq_true rfl) ⟨Nat.le_of_ble_eq_true rfl, Nat.le_of_ble_eq_true rfl⟩ ⟨by omega, by omega⟩ dX7_isSame_30 (fun r u H1 locs1 hp_ hW1 => ?_)
    obtain ⟨rfl, rfl⟩ := hp_
    refine W.widen (k := cells + 3 * (zcap (v.1, f_X6_perform_3_la v.1 v.2.1 v.2.2.1 v.2.2.2.1 v.2.2.2.2.1 v.2.2.2.2.2.1 v.2.2.2.2.2.2 ((3 : Int32), a), v.2.2.1, v.2.2.2.1, v.2.2.2.2.1, v.2.2.2.2.2.1, v.2.2.2.2.2.2) - zcap v)) (n := slots + 6 * (zcap (v.1, f_X6_perform_3_la v.1 v.2.1 v.2.2.1 v.2.2.2.1 v.2.2.2.2.1 v.2.2.2.2.2.1 v.2.2.2.2.2.2 ((3 : Int32), a), v.2.2.1, v.2.2.2.1, v.2.2.2.2.1, v.2.2.2.2.2.1, v.2.2.2.2.2.2) - zcap v)) (Nat.le_add_right _ _) (Nat.le_add_right _ _) ?_
    exact kk _ adu H1 locs1 (hW1.eq (by simp only [wvW, List.append_assoc, List.nil_append] <;> rfl))
  · change kd = (4 : Int32) at h1
    subst h1
    have ez := zap_4 v a
    rw [ez] at kk hf
    refine zcV (w1 := []) (wc := wvW G h ad adl ado ada ads adu adc v (actW G h2 (fun _ => 0) ((4 : Int32), a))) (w2 := w2) (As := [.ref h2]) B (hW.eq rfl) (c_X6_perform_4 l G h ad v.1 adl v.2.1 ado v.2.2.1 ada v.2.2.2.1 ads v.2.2.2.2.1 adu v.2.2.2.2.2.1 adc v.2.2.2.2.2.2 h2 (fun _ => 0) ((4 : Int32), a) ) yd_X6_perform ml_X7_44 0 rfl rfl rfl rfl hsz rfl (Nat.le_of_ble_eq_true rfl) ⟨Nat.le_of_ble_eq_true rfl, Nat.le_of_ble_eq_true rfl⟩ ⟨by omega, by omega⟩ dX7_isSame_30 (fun r u H1 locs1 hp_ hW1 => ?_)
    obtain ⟨rfl, rfl⟩ := hp_
    refine W.widen (k := cells + 3 * (zcap (v.1, f_X6_perform_4_la v.1 v.2.1 v.2.2.1 v.2.2.2.1 v.2.2.2.2.1 v.2.2.2.2.2.1 v.2.2.2.2.2.2 ((4 : Int32), a), v.2.2.1, v.2.2.2.1, v.2.2.2.2.1, v.2.2.2.2.2.1, v.2.2.2.2.2.2) - zcap v)) (n := slots + 6 * (zcap (v.1, f_X6_perform_4_la v.1 v.2.1 v.2.2.1 v.2.2.2.1 v.2.2.2.2.1 v.2.2.2.2.2.1 v.2.2.2.2.2.2 ((4 : Int32), a), v.2.2.1, v.2.2.2.1, v.2.2.2.2.1, v.2.2.2.2.2.1, v.2.2.2.2.2.2) - zcap v)) (Nat.le_add_right _ _) (Nat.le_add_right _ _) ?_
    exact kk _ adu H1 locs1 (hW1.eq (by simp only [wvW, List.append_assoc, List.nil_append] <;> rfl))
  · change kd = (5 : Int32) at h1
    subst h1
    have ez := zap_5 v a
    rw [ez] at kk hf
    refine zcV (w1 := []) (wc := wvW G h ad adl ado ada ads adu adc v (actW G h2 (fun _ => 0) ((5 : Int32), a))) (w2 := w2) (As := [.ref h2]) B (hW.eq rfl) (c_X6_perform_5 l G h ad v.1 adl v.2.1 ado v.2.2.1 ada v.2.2.2.1 ads v.2.2.2.2.1 adu v.2.2.2.2.2.1 adc v.2.2.2.2.2.2 h2 (fun _ => 0) ((5 : Int32), a) hp hc3) yd_X6_perform ml_X7_44 0 rfl rfl rfl rfl hsz rfl (Nat.le_of_ble_eq_true rfl) ⟨Nat.le_of_ble_eq_true rfl, Nat.le_of_ble_eq_true rfl⟩ ⟨by omega, by omega⟩ dX7_isSame_30 (fun r u H1 locs1 hp_ hW1 => ?_)
    obtain ⟨rfl, rfl⟩ := hp_
    refine W.widen (k := cells + 3 * (zcap (v.1, f_X6_perform_5_la v.1 v.2.1 v.2.2.1 v.2.2.2.1 v.2.2.2.2.1 v.2.2.2.2.2.1 v.2.2.2.2.2.2 ((5 : Int32), a), v.2.2.1, v.2.2.2.1, v.2.2.2.2.1, v.2.2.2.2.2.1, v.2.2.2.2.2.2) - zcap v)) (n := slots + 6 * (zcap (v.1, f_X6_perform_5_la v.1 v.2.1 v.2.2.1 v.2.2.2.1 v.2.2.2.2.1 v.2.2.2.2.2.1 v.2.2.2.2.2.2 ((5 : Int32), a), v.2.2.1, v.2.2.2.1, v.2.2.2.2.1, v.2.2.2.2.2.1, v.2.2.2.2.2.2) - zcap v)) (Nat.le_add_right _ _) (Nat.le_add_right _ _) ?_
    exact kk _ adu H1 locs1 (hW1.eq (by simp only [wvW, List.append_assoc, List.nil_append] <;> rfl))
  · change kd = (6 : Int32) at h1
    subst h1
    have ez := zap_6 v a
    rw [ez] at kk hf
    refine zcV (w1 := []) (wc := wvW G h ad adl ado ada ads adu adc v (actW G h2 (fun _ => 0) ((6 : Int32), a))) (w2 := w2) (As := [.ref h2]) B (hW.eq rfl) (c_X6_perform_6 l G h ad v.1 adl v.2.1 ado v.2.2.1 ada v.2.2.2.1 ads v.2.2.2.2.1 adu v.2.2.2.2.2.1 adc v.2.2.2.2.2.2 h2 (fun _ => 0) ((6 : Int32), a) (nsv v) hcs hns) yd_X6_perform ml_X7_44 0 rfl rfl rfl rfl hsz rfl (Nat.le_of_ble_eq_true rfl) ⟨Nat.le_of_ble_eq_true rfl, Nat.le_of_ble_eq_true rfl⟩ ⟨by omega, by omega⟩ dX7_isSame_30 (fun r u H1 locs1 hp_ hW1 => ?_)
    obtain ⟨rfl, rfl⟩ := hp_
    refine W.widen (k := cells + 3 * (zcap (v.1, v.2.1, v.2.2.1, v.2.2.2.1, f_X6_perform_6_se v.1 v.2.1 v.2.2.1 v.2.2.2.1 v.2.2.2.2.1 v.2.2.2.2.2.1 v.2.2.2.2.2.2 ((6 : Int32), a) (nsv v), v.2.2.2.2.2.1, v.2.2.2.2.2.2) - zcap v)) (n := slots + 6 * (zcap (v.1, v.2.1, v.2.2.1, v.2.2.2.1, f_X6_perform_6_se v.1 v.2.1 v.2.2.1 v.2.2.2.1 v.2.2.2.2.1 v.2.2.2.2.2.1 v.2.2.2.2.2.2 ((6 : Int32), a) (nsv v), v.2.2.2.2.2.1, v.2.2.2.2.2.2) - zcap v)) (Nat.le_add_right _ _) (Nat.le_add_right _ _) ?_
    exact kk _ adu H1 locs1 (hW1.eq (by simp only [wvW, List.append_assoc, List.nil_append] <;> rfl))
  · change kd = (7 : Int32) at h1
    subst h1
    have ez := zap_7 v a
    rw [ez] at kk hf
    refine zcV (w1 := []) (wc := wvW G h ad adl ado ada ads adu adc v (actW G h2 (fun _ => 0) ((7 : Int32), a))) (w2 := w2) (As := [.ref h2]) B (hW.eq rfl) (c_X6_perform_7 l G h ad v.1 adl v.2.1 ado v.2.2.1 ada v.2.2.2.1 ads v.2.2.2.2.1 adu v.2.2.2.2.2.1 adc v.2.2.2.2.2.2 h2 (fun _ => 0) ((7 : Int32), a) (nsv v) hcs hns ha) yd_X6_perform ml_X7_44 0 rfl rfl rfl rfl hsz rfl (Nat.le_of_ble_eq_true rfl) ⟨Nat.le_of_ble_eq_true rfl, Nat.le_of_ble_eq_true rfl⟩ ⟨by omega, by omega⟩ dX7_isSame_30 (fun r u H1 locs1 hp_ hW1 => ?_)
    obtain ⟨rfl, rfl⟩ := hp_
    refine W.widen (k := cells + 3 * (zcap (v.1, v.2.1, v.2.2.1, v.2.2.2.1, f_X6_perform_7_se v.1 v.2.1 v.2.2.1 v.2.2.2.1 v.2.2.2.2.1 v.2.2.2.2.2.1 v.2.2.2.2.2.2 ((7 : Int32), a) (nsv v), v.2.2.2.2.2.1, v.2.2.2.2.2.2) - zcap v)) (n := slots + 6 * (zcap (v.1, v.2.1, v.2.2.1, v.2.2.2.1, f_X6_perform_7_se v.1 v.2.1 v.2.2.1 v.2.2.2.1 v.2.2.2.2.1 v.2.2.2.2.2.1 v.2.2.2.2.2.2 ((7 : Int32), a) (nsv v), v.2.2.2.2.2.1, v.2.2.2.2.2.2) - zcap v)) (Nat.le_add_right _ _) (Nat.le_add_right _ _) ?_
    exact kk _ adu H1 locs1 (hW1.eq (by simp only [wvW, List.append_assoc, List.nil_append] <;> rfl))
  · change kd = (8 : Int32) at h1
    subst h1
    have ez := zap_8 v a
    rw [ez] at kk hf
    refine zcV (w1 := []) (wc := wvW G h ad adl ado ada ads adu adc v (actW G h2 (fun _ => 0) ((8 : Int32), a))) (w2 := w2) (As := [.ref h2]) B (hW.eq rfl) (c_X6_perform_8 l G h ad v.1 adl v.2.1 ado v.2.2.1 ada v.2.2.2.1 ads v.2.2.2.2.1 adu v.2.2.2.2.2.1 adc v.2.2.2.2.2.2 h2 (fun _ => 0) ((8 : Int32), a) (nuv v) hcu hnu) yd_X6_perform ml_X7_44 0 rfl rfl rfl rfl hsz rfl (Nat.le_of_ble_eq_true rfl) ⟨Nat.le_of_ble_eq_true rfl, Nat.le_of_ble_eq_true rfl⟩ ⟨by omega, by omega⟩ dX7_isSame_30 (fun r u H1 locs1 hp_ hW1 => ?_)
    obtain ⟨rfl, rfl⟩ := hp_
    refine W.widen (k := cells + 3 * (zcap (v.1, v.2.1, v.2.2.1, v.2.2.2.1, v.2.2.2.2.1, f_X6_perform_8_su v.1 v.2.1 v.2.2.1 v.2.2.2.1 v.2.2.2.2.1 v.2.2.2.2.2.1 v.2.2.2.2.2.2 ((8 : Int32), a) (nuv v), v.2.2.2.2.2.2) - zcap v)) (n := slots + 6 * (zcap (v.1, v.2.1, v.2.2.1, v.2.2.2.1, v.2.2.2.2.1, f_X6_perform_8_su v.1 v.2.1 v.2.2.1 v.2.2.2.1 v.2.2.2.2.1 v.2.2.2.2.2.1 v.2.2.2.2.2.2 ((8 : Int32), a) (nuv v), v.2.2.2.2.2.2) - zcap v)) (Nat.le_add_right _ _) (Nat.le_add_right _ _) ?_
    exact kk _ adu H1 locs1 (hW1.eq (by simp only [wvW, List.append_assoc, List.nil_append] <;> rfl))
  · change kd = (9 : Int32) at h1
    subst h1
    have ez := zap_9 v a
    rw [ez] at kk hf
    refine zcV (w1 := []) (wc := wvW G h ad adl ado ada ads adu adc v (actW G h2 (fun _ => 0) ((9 : Int32), a))) (w2 := w2) (As := [.ref h2]) B (hW.eq rfl) (c_X6_perform_9 l G h ad v.1 adl v.2.1 ado v.2.2.1 ada v.2.2.2.1 ads v.2.2.2.2.1 adu v.2.2.2.2.2.1 adc v.2.2.2.2.2.2 h2 (fun _ => 0) ((9 : Int32), a) (ncv v) hcc hnc) yd_X6_perform ml_X7_44 0 rfl rfl rfl rfl hsz rfl (Nat.le_of_ble_eq_true rfl) ⟨Nat.le_of_ble_eq_true rfl, Nat.le_of_ble_eq_true rfl⟩ ⟨by omega, by omega⟩ dX7_isSame_30 (fun r u H1 locs1 hp_ hW1 => ?_)
    obtain ⟨rfl, rfl⟩ := hp_
    refine W.widen (k := cells + 3 * (zcap (v.1, v.2.1, v.2.2.1, v.2.2.2.1, v.2.2.2.2.1, v.2.2.2.2.2.1, f_X6_perform_9_sc v.1 v.2.1 v.2.2.1 v.2.2.2.1 v.2.2.2.2.1 v.2.2.2.2.2.1 v.2.2.2.2.2.2 ((9 : Int32), a) (ncv v)) - zcap v)) (n := slots + 6 * (zcap (v.1, v.2.1, v.2.2.1, v.2.2.2.1, v.2.2.2.2.1, v.2.2.2.2.2.1, f_X6_perform_9_sc v.1 v.2.1 v.2.2.1 v.2.2.2.1 v.2.2.2.2.1 v.2.2.2.2.2.1 v.2.2.2.2.2.2 ((9 : Int32), a) (ncv v)) - zcap v)) (Nat.le_add_right _ _) (Nat.le_add_right _ _) ?_
    exact kk _ adu H1 locs1 (hW1.eq (by simp only [wvW, List.append_assoc, List.nil_append] <;> rfl))
  · change kd = (10 : Int32) at h1
    subst h1
    have ez := zap_10 v a
    rw [ez] at kk hf
    refine zcV (w1 := []) (wc := wvW G h ad adl ado ada ads adu adc v (actW G h2 (fun _ => 0) ((10 : Int32), a))) (w2 := w2) (As := [.ref h2]) B (hW.eq rfl) (c_X6_perform_10 l G h ad v.1 adl v.2.1 ado v.2.2.1 ada v.2.2.2.1 ads v.2.2.2.2.1 adu v.2.2.2.2.2.1 adc v.2.2.2.2.2.2 h2 (fun _ => 0) ((10 : Int32), a) (nsv v) (nuv v) (ncv v) (kv v) a.1.toNatClampNeg (zcapN v a.1.toNatClampNeg) w.hcs w.hns w.hT w.hcu w.hnu w.hpu w.hcc w.hnc w.hpc w.hq w.hw w.hk w.hbo w.hC w.hq0 w.ha0 hn hn24 (fun i hi => zpkK v.2.1 v.2.2.1 v.2.2.2.1 v.2.2.2.2.1 v.2.2.2.2.2.1 v.2.2.2.2.2.2 v.1 w.hnu w.hT w.hC w.hq0 w.ha0 w.hbo hn24 i hi)) yd_X6_perform ml_X7_44 0 rfl rfl rfl rfl hsz rfl (Nat.le_of_ble_eq_true rfl) ⟨Nat.le_of_ble_eq_true rfl, Nat.le_of_ble_eq_true rfl⟩ hf dX7_isSame_30 (fun r u H1 locs1 hp_ hW1 => ?_)
    obtain ⟨ads_, rfl, rfl⟩ := hp_
    refine W.widen (k := cells + 3 * (zcap (f_X6_perform_10_wo v.1 v.2.1 v.2.2.1 v.2.2.2.1 v.2.2.2.2.1 v.2.2.2.2.2.1 v.2.2.2.2.2.2 ((10 : Int32), a) (nsv v) (nuv v) (ncv v) (kv v) a.1.toNatClampNeg (zcapN v a.1.toNatClampNeg), f_X6_perform_10_la v.1 v.2.1 v.2.2.1 v.2.2.2.1 v.2.2.2.2.1 v.2.2.2.2.2.1 v.2.2.2.2.2.2 ((10 : Int32), a) (nsv v) (nuv v) (ncv v) (kv v) a.1.toNatClampNeg (zcapN v a.1.toNatClampNeg), f_X6_perform_10_ou v.1 v.2.1 v.2.2.1 v.2.2.2.1 v.2.2.2.2.1 v.2.2.2.2.2.1 v.2.2.2.2.2.2 ((10 : Int32), a) (nsv v) (nuv v) (ncv v) (kv v) a.1.toNatClampNeg (zcapN v a.1.toNatClampNeg), f_X6_perform_10_al v.1 v.2.1 v.2.2.1 v.2.2.2.1 v.2.2.2.2.1 v.2.2.2.2.2.1 v.2.2.2.2.2.2 ((10 : Int32), a) (nsv v) (nuv v) (ncv v) (kv v) a.1.toNatClampNeg (zcapN v a.1.toNatClampNeg), f_X6_perform_10_se v.1 v.2.1 v.2.2.1 v.2.2.2.1 v.2.2.2.2.1 v.2.2.2.2.2.1 v.2.2.2.2.2.2 ((10 : Int32), a) (nsv v) (nuv v) (ncv v) (kv v) a.1.toNatClampNeg (zcapN v a.1.toNatClampNeg), f_X6_perform_10_su v.1 v.2.1 v.2.2.1 v.2.2.2.1 v.2.2.2.2.1 v.2.2.2.2.2.1 v.2.2.2.2.2.2 ((10 : Int32), a) (nsv v) (nuv v) (ncv v) (kv v) a.1.toNatClampNeg (zcapN v a.1.toNatClampNeg), f_X6_perform_10_sc v.1 v.2.1 v.2.2.1 v.2.2.2.1 v.2.2.2.2.1 v.2.2.2.2.2.1 v.2.2.2.2.2.2 ((10 : Int32), a) (nsv v) (nuv v) (ncv v) (kv v) a.1.toNatClampNeg (zcapN v a.1.toNatClampNeg)) - zcap v)) (n := slots + 6 * (zcap (f_X6_perform_10_wo v.1 v.2.1 v.2.2.1 v.2.2.2.1 v.2.2.2.2.1 v.2.2.2.2.2.1 v.2.2.2.2.2.2 ((10 : Int32), a) (nsv v) (nuv v) (ncv v) (kv v) a.1.toNatClampNeg (zcapN v a.1.toNatClampNeg), f_X6_perform_10_la v.1 v.2.1 v.2.2.1 v.2.2.2.1 v.2.2.2.2.1 v.2.2.2.2.2.1 v.2.2.2.2.2.2 ((10 : Int32), a) (nsv v) (nuv v) (ncv v) (kv v) a.1.toNatClampNeg (zcapN v a.1.toNatClampNeg), f_X6_perform_10_ou v.1 v.2.1 v.2.2.1 v.2.2.2.1 v.2.2.2.2.1 v.2.2.2.2.2.1 v.2.2.2.2.2.2 ((10 : Int32), a) (nsv v) (nuv v) (ncv v) (kv v) a.1.toNatClampNeg (zcapN v a.1.toNatClampNeg), f_X6_perform_10_al v.1 v.2.1 v.2.2.1 v.2.2.2.1 v.2.2.2.2.1 v.2.2.2.2.2.1 v.2.2.2.2.2.2 ((10 : Int32), a) (nsv v) (nuv v) (ncv v) (kv v) a.1.toNatClampNeg (zcapN v a.1.toNatClampNeg), f_X6_perform_10_se v.1 v.2.1 v.2.2.1 v.2.2.2.1 v.2.2.2.2.1 v.2.2.2.2.2.1 v.2.2.2.2.2.2 ((10 : Int32), a) (nsv v) (nuv v) (ncv v) (kv v) a.1.toNatClampNeg (zcapN v a.1.toNatClampNeg), f_X6_perform_10_su v.1 v.2.1 v.2.2.1 v.2.2.2.1 v.2.2.2.2.1 v.2.2.2.2.2.1 v.2.2.2.2.2.2 ((10 : Int32), a) (nsv v) (nuv v) (ncv v) (kv v) a.1.toNatClampNeg (zcapN v a.1.toNatClampNeg), f_X6_perform_10_sc v.1 v.2.1 v.2.2.1 v.2.2.2.1 v.2.2.2.2.1 v.2.2.2.2.2.1 v.2.2.2.2.2.2 ((10 : Int32), a) (nsv v) (nuv v) (ncv v) (kv v) a.1.toNatClampNeg (zcapN v a.1.toNatClampNeg)) - zcap v)) (Nat.le_refl _) (Nat.le_refl _) ?_
    exact kk _ ads_ H1 locs1 (hW1.eq (by simp only [wvW, List.append_assoc, List.nil_append] <;> rfl))
end ZPF
