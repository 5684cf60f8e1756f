theorem zn64 {r : UInt64} (h : Jvm.FP.Core.val64 r ≠ .nan) : vf_n64 r := by
  unfold vf_n64
  rw [UInt64.le_iff_toNat_le, UInt64.toNat_and]
  rw [show (0x7fffffffffffffff : UInt64).toNat = 2 ^ 63 - 1 by decide, Nat.and_two_pow_sub_one_eq_mod, show (0x7ff0000000000000 : UInt64).toNat = 9218868437227405312 by decide]
  apply Nat.le_of_not_lt
  intro hc
  apply h
  have hE : Jvm.FP.Core.fieldE Jvm.FP.Core.b64 r.toNat = Jvm.FP.Core.b64.exps - 1 := by
    show r.toNat / 4503599627370496 % 2048 = 2047
    omega
  have hT : Jvm.FP.Core.fieldT Jvm.FP.Core.b64 r.toNat ≠ 0 := by
    show r.toNat % 4503599627370496 ≠ 0
    omega
  unfold Jvm.FP.Core.val64 Jvm.FP.Core.decode
  rw [if_pos hE, if_neg hT]
theorem zrr {f : Jvm.FP.Core.Fmt} {s : Bool} {a b : Nat} {e : Int} : Jvm.FP.Core.roundRatio f s a b e ≠ .nan := by
  unfold Jvm.FP.Core.roundRatio Jvm.FP.Core.roundAt Jvm.FP.Core.settle Jvm.FP.Core.bound
  (repeat' split) <;> intro h <;> cases h
theorem zfl2d (x : Int64) : Jvm.FP.Core.val64 (FP.l2d x) ≠ .nan := by
  have e : Jvm.FP.Core.val64 (FP.l2d x) = Jvm.FP.Core.round Jvm.FP.Core.b64 (Jvm.FP.Core.ofInt x.toInt) := Jvm.FP.Core.val64_of64 (Jvm.FP.Core.round_fits Jvm.FP.Core.good_b64 _)
  rw [e]
  exact zrr
theorem zfdd (x : Int64) : vf_n64 (FP.ddiv (FP.l2d x) 4631952216750555136) := by
  apply zn64
  have e : Jvm.FP.Core.val64 (FP.ddiv (FP.l2d x) 4631952216750555136) = Jvm.FP.Core.quotient Jvm.FP.Core.b64 (Jvm.FP.Core.val64 (FP.l2d x)) (Jvm.FP.Core.val64 4631952216750555136) := Jvm.FP.Core.val64_ddiv _ _
  rw [e, show Jvm.FP.Core.val64 4631952216750555136 = .fin false 6755399441055744 (-47) by decide +kernel]
  have h := zfl2d x
  cases hv : Jvm.FP.Core.val64 (FP.l2d x) with
  | nan => exact absurd hv h
  | inf s => intro h; cases h
  | fin s c q => exact zrr
theorem zfshare : ∀ a : Nat, a < 11 → ∀ b : Nat, b < 11 → 0 < b → vf_n32 (FP.fdiv (FP.i2f (nI a)) (FP.i2f (nI b))) ∧ vf_n64 (FP.f2d (FP.fdiv (FP.i2f (nI a)) (FP.i2f (nI b)))) := by
  unfold vf_n32 vf_n64
  decide +kernel
