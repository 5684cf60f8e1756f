/-! what class and reference have alike, and that an hour keeps it -/
def zRwi (w7 w8 w9 w10 m6 m7 m8 m9 : Int32) : Prop := ∃ dw w ra, dw < 9 ∧ w ≤ 4 ∧ (0 < w → dw ≠ 4) ∧ ra ≤ 9 ∧ w7 = ze dw ∧ w8 = zf dw ∧ w9 = nI w ∧ w10 = nI ra ∧ m6 = w7 ∧ m7 = w8 ∧ m8 = w9 ∧ m9 = w10
def zRll (h : Nat) (la : zLand) (ml : zMl) : Prop := zLnd la.1 la.2.1 la.2.2.1 la.2.2.2.1 la.2.2.2.2.1 la.2.2.2.2.2.1 ml.1 ml.2.2.2.1 ml.2.2.2.2.1 ml.2.2.2.2.2.1 ml.2.1 ml.2.2.1 ∧ zRwi la.2.2.2.2.2.2.2.1 la.2.2.2.2.2.2.2.2.1 la.2.2.2.2.2.2.2.2.2.1 la.2.2.2.2.2.2.2.2.2.2.1 ml.2.2.2.2.2.2.1 ml.2.2.2.2.2.2.2.1 ml.2.2.2.2.2.2.2.2.1 ml.2.2.2.2.2.2.2.2.2.1 ∧ la.2.2.2.2.2.2.2.2.2.2.2.1 = ml.2.2.2.2.2.2.2.2.2.2.1 ∧ la.2.2.2.2.2.2.2.2.2.2.2.2.1 = ml.2.2.2.2.2.2.2.2.2.2.2.1 ∧ la.2.2.2.2.2.2.2.2.2.2.2.2.2 = ml.2.2.2.2.2.2.2.2.2.2.2.2 ∧ zBd 48 (9999 + 90 * h) la.2.2.1
def zRls (n : Nat) (se : zSens) (te : zMs) : Prop := n = te.1 ∧ (∀ k, k < n → zSv (se.2.1 k) (te.2.1 k) (te.2.2.1 k) ∧ zSr (se.2.2.1 k) (se.2.2.2.1 k) (te.2.2.2.2.1 k) ∧ zStv (se.1 k) (se.2.2.2.2.1 k) (se.2.2.2.2.2.1 k) (se.2.2.2.2.2.2.1 k) (te.2.2.2.1 k) (te.2.2.2.2.2.1 k) (te.2.2.2.2.2.2.1 k) (te.2.2.2.2.2.2.2 k)) ∧ (∀ k, n ≤ k → se.2.2.1 k = (0 : Int32) ∧ se.2.2.2.2.1 k = (0 : Int32) ∧ se.2.2.2.2.2.1 k = (0 : Int32))
def zRlu (n : Nat) (su : zSubs) (sb : zMb) : Prop := n = sb.1 ∧ (∀ k, k < n → su.2.1 k = sb.2.1 k ∧ (su.2.2.1 k = sb.2.2.1 k ∧ ∃ m, m ≤ 9999 ∧ sb.2.2.1 k = nI m) ∧ su.2.2.2.1 k = sb.2.2.2.1 k ∧ su.2.2.2.2.1 k = sb.2.2.2.2.1 k ∧ su.1 k = sb.2.2.2.2.2 k) ∧ (∀ k, n ≤ k → su.1 k = (0 : Int32))
def zRlw (su : zSubs) (wa : zMw) : Prop := su.2.2.2.2.2.2.2.2.2.1 = wa.1 ∧ zSn su.2.2.2.2.2.2.2.2.2.1 su.2.2.2.2.2.2.1 su.2.2.2.2.2.2.2.1 su.2.2.2.2.2.2.2.2.1 wa.2.1 wa.2.2.1 wa.2.2.2
def zRlc (n : Nat) (sc : zScho) (so : zMo) : Prop := n = so.1 ∧ ∀ k, k < n → sc.2.1 k = so.2.1 k ∧ sc.2.2.1 k = so.2.2.1 k ∧ zOp (sc.1 k) (so.2.2.2 k)
def zRl (v : zWv) (md : zMd) (ml : zMl) (te : zMs) (sb : zMb) (so : zMo) (wa : zMw) : Prop := zRll v.1.toNatClampNeg v.2.1 ml ∧ v.2.2.2.2.1.2.2.2.2.2.2.2.2.2 = md.2.2.1 ∧ v.2.2.2.2.2.2.2.2.2.2 = md.2.2.2 ∧ zRls (nsv v) v.2.2.2.2.1 te ∧ zRlu (nuv v) v.2.2.2.2.2.1 sb ∧ zRlw v.2.2.2.2.2.1 wa ∧ zRlc (ncv v) v.2.2.2.2.2.2 so
theorem zfgt {f : Nat → Int32} {n : Nat} : ∀ i, i ≤ n → ∀ k, k < n → lp_X4_forgetReadings_2 f i k = (if k < i then (0 : Int32) else f k) := by
  intro i
  induction i with
  | zero => intro _ k _; rw [lp_X4_forgetReadings_2_0, if_neg (Nat.not_lt_zero k)]
  | succ i ih =>
    intro hi k hk
    rw [lp_X4_forgetReadings_2_s]
    unfold st_X4_forgetReadings_2
    by_cases e : k = i
    · rw [e, upd_i, if_pos (Nat.lt_succ_self i)]
    · rw [upd_o e, ih (by omega) k hk]
      by_cases q : k < i
      · rw [if_pos q, if_pos (by omega)]
      · rw [if_neg q, if_neg (by omega)]
theorem zfgto {f : Nat → Int32} {n : Nat} : ∀ i, i ≤ n → ∀ k, n ≤ k → lp_X4_forgetReadings_2 f i k = f k := by
  intro i
  induction i with
  | zero => intro _ k _; rw [lp_X4_forgetReadings_2_0]
  | succ i ih =>
    intro hi k hk
    rw [lp_X4_forgetReadings_2_s]
    unfold st_X4_forgetReadings_2
    rw [upd_o (by omega)]
    exact ih (by omega) k hk
theorem zjo {V tr lo db ag : Nat → Int32} {n : Nat} (hn : n ≤ 10) : ∀ i, i ≤ n → ∀ k, n ≤ k → (lp_X4_judgeAll_29 V (tr, lo, db, ag) i).2.1 k = lo k ∧ (lp_X4_judgeAll_29 V (tr, lo, db, ag) i).2.2.1 k = db k := by
  intro i
  induction i with
  | zero => intro _ k _; rw [lp_X4_judgeAll_29_0]; exact ⟨rfl, rfl⟩
  | succ i ih =>
    intro hi k hk
    obtain ⟨j1, j2⟩ := ih (by omega) k hk
    rw [lp_X4_judgeAll_29_s]
    generalize lp_X4_judgeAll_29 V (tr, lo, db, ag) i = u at j1 j2 ⊢
    unfold st_X4_judgeAll_29
    dsimp only
    rw [be4 (by omega), be5 (by omega), do4 (by omega), do5 (by omega)]
    by_cases c1 : V i = (1 : Int32)
    · rw [if_pos c1, if_pos c1, upd_o (by omega), upd_o (by omega)]; exact ⟨j1, j2⟩
    · rw [if_neg c1, if_neg c1]
      by_cases c2 : V i = (2 : Int32)
      · rw [if_pos c2, if_pos c2, upd_o (by omega), upd_o (by omega)]; exact ⟨j1, j2⟩
      · rw [if_neg c2, if_neg c2]; exact ⟨j1, j2⟩
theorem zwo {a1 a2 a3 a4 sm w0 w6 w7 w8 : Nat → Int32} {hr hd : Int32} {q a t b n : Nat} : ∀ i, i ≤ n → ∀ k, n ≤ k → (lp_X5_warnAll_3 a1 a2 a3 a4 sm hr hd (w0, w6, w7, w8, q, a, t, b) i).1 k = w0 k := by
  intro i
  induction i with
  | zero => intro _ k _; rw [lp_X5_warnAll_3_0]
  | succ i ih =>
    intro hi k hk
    have j := ih (by omega) k hk
    rw [lp_X5_warnAll_3_s]
    unfold st_X5_warnAll_3
    dsimp only
    (repeat' split) <;> first | exact j | (rw [upd_o (by omega)]; exact j)
theorem zfgt2 {f : Nat → Int32} {n : Nat} : ∀ i, i ≤ n → ∀ k, k < n → lp_X12_pass_102 f i k = (if k < i then (-1 : Int32) else f k) := by
  intro i
  induction i with
  | zero => intro _ k _; rw [lp_X12_pass_102_0, if_neg (Nat.not_lt_zero k)]
  | succ i ih =>
    intro hi k hk
    rw [lp_X12_pass_102_s]
    unfold st_X12_pass_102
    by_cases e : k = i
    · rw [e, upd_i, if_pos (Nat.lt_succ_self i)]
    · rw [upd_o e, ih (by omega) k hk]
      by_cases q : k < i
      · rw [if_pos q, if_pos (by omega)]
      · rw [if_neg q, if_neg (by omega)]
theorem zifE {α : Type} {c e : Prop} [Decidable c] [Decidable e] {x X y Y : α} (hx : x = y) (h0 : c → e → x = Y) (h1 : c → ¬ e → X = Y) : (if c then (if e then x else X) else x) = (if c then Y else y) := by
  by_cases a : c
  · rw [if_pos a, if_pos a]
    by_cases b : e
    · rw [if_pos b]; exact h0 a b
    · rw [if_neg b]; exact h1 a b
  · rw [if_neg a, if_neg a]; exact hx
theorem zifO {c e : Prop} [Decidable c] [Decidable e] {x X y Y : Nat → Int32} {k : Nat} (hx : zOp (x k) (y k)) (h0 : c → e → zOp (x k) (Y k)) (h1 : c → ¬ e → zOp (X k) (Y k)) : zOp ((if c then (if e then x else X) else x) k) ((if c then Y else y) k) := by
  by_cases a : c
  · rw [if_pos a, if_pos a]
    by_cases b : e
    · rw [if_pos b]; exact h0 a b
    · rw [if_neg b]; exact h1 a b
  · rw [if_neg a, if_neg a]; exact hx
set_option maxHeartbeats 4000000 in
set_option maxRecDepth 100000 in
theorem zHR {wo : zWor} {la : zLand} {ou : zOutl} {al : zLand} {se : zSens} {su : zSubs} {sc : zScho} {md : zMd} {ml : zMl} {te : zMs} {sb : zMb} {so : zMo} {wa : zMw} {l4 : Int32} {r4 K i h k sn : Nat} (R : zRl (wo, la, ou, al, se, su, sc) md ml te sb so wa) (w : zW10 (wo, la, ou, al, se, su, sc)) (hwo : wo = nI h) (hh : h ≤ 998) (hmd : md.2.1 = wo) (hk : k = kv (wo, la, ou, al, se, su, sc)) (hsn : sn = snv ml) : zRl (f_X6_runHour_wo wo la ou al se su sc (nsv (wo, la, ou, al, se, su, sc)) (nuv (wo, la, ou, al, se, su, sc)) (ncv (wo, la, ou, al, se, su, sc)) k K, f_X6_runHour_la wo la ou al se su sc (nsv (wo, la, ou, al, se, su, sc)) (nuv (wo, la, ou, al, se, su, sc)) (ncv (wo, la, ou, al, se, su, sc)) k K, f_X6_runHour_ou wo la ou al se su sc (nsv (wo, la, ou, al, se, su, sc)) (nuv (wo, la, ou, al, se, su, sc)) (ncv (wo, la, ou, al, se, su, sc)) k K, f_X6_runHour_al wo la ou al se su sc (nsv (wo, la, ou, al, se, su, sc)) (nuv (wo, la, ou, al, se, su, sc)) (ncv (wo, la, ou, al, se, su, sc)) k K, f_X6_runHour_se wo la ou al se su sc (nsv (wo, la, ou, al, se, su, sc)) (nuv (wo, la, ou, al, se, su, sc)) (ncv (wo, la, ou, al, se, su, sc)) k K, f_X6_runHour_su wo la ou al se su sc (nsv (wo, la, ou, al, se, su, sc)) (nuv (wo, la, ou, al, se, su, sc)) (ncv (wo, la, ou, al, se, su, sc)) k K, f_X6_runHour_sc wo la ou al se su sc (nsv (wo, la, ou, al, se, su, sc)) (nuv (wo, la, ou, al, se, su, sc)) (ncv (wo, la, ou, al, se, su, sc)) k K) (md.1, (st_X12_pass_42 ml.2.2.1 ml.2.2.2.2.2.2.1 ml.2.2.2.2.2.2.2.1 ml.2.2.2.2.2.2.2.2.1 ml.2.2.2.2.2.2.2.2.2.1 sb.1 sb.2.1 sb.2.2.1 sb.2.2.2.1 sb.2.2.2.2.1 te.1 te.2.1 te.2.2.1 so.1 so.2.1 so.2.2.1 sn i (l4, md.2.1, md.2.2.1, md.2.2.2, ml.1, ml.2.1, ml.2.2.2.1, ml.2.2.2.2.1, ml.2.2.2.2.2.1, ml.2.2.2.2.2.2.2.2.2.2.1, ml.2.2.2.2.2.2.2.2.2.2.2.1, ml.2.2.2.2.2.2.2.2.2.2.2.2, r4, sb.2.2.2.2.2, te.2.2.2.1, te.2.2.2.2.1, te.2.2.2.2.2.1, te.2.2.2.2.2.2.1, te.2.2.2.2.2.2.2, so.2.2.2, wa.1, wa.2.1, wa.2.2.1, wa.2.2.2)).2.1, (st_X12_pass_42 ml.2.2.1 ml.2.2.2.2.2.2.1 ml.2.2.2.2.2.2.2.1 ml.2.2.2.2.2.2.2.2.1 ml.2.2.2.2.2.2.2.2.2.1 sb.1 sb.2.1 sb.2.2.1 sb.2.2.2.1 sb.2.2.2.2.1 te.1 te.2.1 te.2.2.1 so.1 so.2.1 so.2.2.1 sn i (l4, md.2.1, md.2.2.1, md.2.2.2, ml.1, ml.2.1, ml.2.2.2.1, ml.2.2.2.2.1, ml.2.2.2.2.2.1, ml.2.2.2.2.2.2.2.2.2.2.1, ml.2.2.2.2.2.2.2.2.2.2.2.1, ml.2.2.2.2.2.2.2.2.2.2.2.2, r4, sb.2.2.2.2.2, te.2.2.2.1, te.2.2.2.2.1, te.2.2.2.2.2.1, te.2.2.2.2.2.2.1, te.2.2.2.2.2.2.2, so.2.2.2, wa.1, wa.2.1, wa.2.2.1, wa.2.2.2)).2.2.1, (st_X12_pass_42 ml.2.2.1 ml.2.2.2.2.2.2.1 ml.2.2.2.2.2.2.2.1 ml.2.2.2.2.2.2.2.2.1 ml.2.2.2.2.2.2.2.2.2.1 sb.1 sb.2.1 sb.2.2.1 sb.2.2.2.1 sb.2.2.2.2.1 te.1 te.2.1 te.2.2.1 so.1 so.2.1 so.2.2.1 sn i (l4, md.2.1, md.2.2.1, md.2.2.2, ml.1, ml.2.1, ml.2.2.2.1, ml.2.2.2.2.1, ml.2.2.2.2.2.1, ml.2.2.2.2.2.2.2.2.2.2.1, ml.2.2.2.2.2.2.2.2.2.2.2.1, ml.2.2.2.2.2.2.2.2.2.2.2.2, r4, sb.2.2.2.2.2, te.2.2.2.1, te.2.2.2.2.1, te.2.2.2.2.2.1, te.2.2.2.2.2.2.1, te.2.2.2.2.2.2.2, so.2.2.2, wa.1, wa.2.1, wa.2.2.1, wa.2.2.2)).2.2.2.1) ((st_X12_pass_42 ml.2.2.1 ml.2.2.2.2.2.2.1 ml.2.2.2.2.2.2.2.1 ml.2.2.2.2.2.2.2.2.1 ml.2.2.2.2.2.2.2.2.2.1 sb.1 sb.2.1 sb.2.2.1 sb.2.2.2.1 sb.2.2.2.2.1 te.1 te.2.1 te.2.2.1 so.1 so.2.1 so.2.2.1 sn i (l4, md.2.1, md.2.2.1, md.2.2.2, ml.1, ml.2.1, ml.2.2.2.1, ml.2.2.2.2.1, ml.2.2.2.2.2.1, ml.2.2.2.2.2.2.2.2.2.2.1, ml.2.2.2.2.2.2.2.2.2.2.2.1, ml.2.2.2.2.2.2.2.2.2.2.2.2, r4, sb.2.2.2.2.2, te.2.2.2.1, te.2.2.2.2.1, te.2.2.2.2.2.1, te.2.2.2.2.2.2.1, te.2.2.2.2.2.2.2, so.2.2.2, wa.1, wa.2.1, wa.2.2.1, wa.2.2.2)).2.2.2.2.1, (st_X12_pass_42 ml.2.2.1 ml.2.2.2.2.2.2.1 ml.2.2.2.2.2.2.2.1 ml.2.2.2.2.2.2.2.2.1 ml.2.2.2.2.2.2.2.2.2.1 sb.1 sb.2.1 sb.2.2.1 sb.2.2.2.1 sb.2.2.2.2.1 te.1 te.2.1 te.2.2.1 so.1 so.2.1 so.2.2.1 sn i (l4, md.2.1, md.2.2.1, md.2.2.2, ml.1, ml.2.1, ml.2.2.2.1, ml.2.2.2.2.1, ml.2.2.2.2.2.1, ml.2.2.2.2.2.2.2.2.2.2.1, ml.2.2.2.2.2.2.2.2.2.2.2.1, ml.2.2.2.2.2.2.2.2.2.2.2.2, r4, sb.2.2.2.2.2, te.2.2.2.1, te.2.2.2.2.1, te.2.2.2.2.2.1, te.2.2.2.2.2.2.1, te.2.2.2.2.2.2.2, so.2.2.2, wa.1, wa.2.1, wa.2.2.1, wa.2.2.2)).2.2.2.2.2.1, ml.2.2.1, (st_X12_pass_42 ml.2.2.1 ml.2.2.2.2.2.2.1 ml.2.2.2.2.2.2.2.1 ml.2.2.2.2.2.2.2.2.1 ml.2.2.2.2.2.2.2.2.2.1 sb.1 sb.2.1 sb.2.2.1 sb.2.2.2.1 sb.2.2.2.2.1 te.1 te.2.1 te.2.2.1 so.1 so.2.1 so.2.2.1 sn i (l4, md.2.1, md.2.2.1, md.2.2.2, ml.1, ml.2.1, ml.2.2.2.1, ml.2.2.2.2.1, ml.2.2.2.2.2.1, ml.2.2.2.2.2.2.2.2.2.2.1, ml.2.2.2.2.2.2.2.2.2.2.2.1, ml.2.2.2.2.2.2.2.2.2.2.2.2, r4, sb.2.2.2.2.2, te.2.2.2.1, te.2.2.2.2.1, te.2.2.2.2.2.1, te.2.2.2.2.2.2.1, te.2.2.2.2.2.2.2, so.2.2.2, wa.1, wa.2.1, wa.2.2.1, wa.2.2.2)).2.2.2.2.2.2.1, (st_X12_pass_42 ml.2.2.1 ml.2.2.2.2.2.2.1 ml.2.2.2.2.2.2.2.1 ml.2.2.2.2.2.2.2.2.1 ml.2.2.2.2.2.2.2.2.2.1 sb.1 sb.2.1 sb.2.2.1 sb.2.2.2.1 sb.2.2.2.2.1 te.1 te.2.1 te.2.2.1 so.1 so.2.1 so.2.2.1 sn i (l4, md.2.1, md.2.2.1, md.2.2.2, ml.1, ml.2.1, ml.2.2.2.1, ml.2.2.2.2.1, ml.2.2.2.2.2.1, ml.2.2.2.2.2.2.2.2.2.2.1, ml.2.2.2.2.2.2.2.2.2.2.2.1, ml.2.2.2.2.2.2.2.2.2.2.2.2, r4, sb.2.2.2.2.2, te.2.2.2.1, te.2.2.2.2.1, te.2.2.2.2.2.1, te.2.2.2.2.2.2.1, te.2.2.2.2.2.2.2, so.2.2.2, wa.1, wa.2.1, wa.2.2.1, wa.2.2.2)).2.2.2.2.2.2.2.1, (st_X12_pass_42 ml.2.2.1 ml.2.2.2.2.2.2.1 ml.2.2.2.2.2.2.2.1 ml.2.2.2.2.2.2.2.2.1 ml.2.2.2.2.2.2.2.2.2.1 sb.1 sb.2.1 sb.2.2.1 sb.2.2.2.1 sb.2.2.2.2.1 te.1 te.2.1 te.2.2.1 so.1 so.2.1 so.2.2.1 sn i (l4, md.2.1, md.2.2.1, md.2.2.2, ml.1, ml.2.1, ml.2.2.2.1, ml.2.2.2.2.1, ml.2.2.2.2.2.1, ml.2.2.2.2.2.2.2.2.2.2.1, ml.2.2.2.2.2.2.2.2.2.2.2.1, ml.2.2.2.2.2.2.2.2.2.2.2.2, r4, sb.2.2.2.2.2, te.2.2.2.1, te.2.2.2.2.1, te.2.2.2.2.2.1, te.2.2.2.2.2.2.1, te.2.2.2.2.2.2.2, so.2.2.2, wa.1, wa.2.1, wa.2.2.1, wa.2.2.2)).2.2.2.2.2.2.2.2.1, ml.2.2.2.2.2.2.1, ml.2.2.2.2.2.2.2.1, ml.2.2.2.2.2.2.2.2.1, ml.2.2.2.2.2.2.2.2.2.1, (st_X12_pass_42 ml.2.2.1 ml.2.2.2.2.2.2.1 ml.2.2.2.2.2.2.2.1 ml.2.2.2.2.2.2.2.2.1 ml.2.2.2.2.2.2.2.2.2.1 sb.1 sb.2.1 sb.2.2.1 sb.2.2.2.1 sb.2.2.2.2.1 te.1 te.2.1 te.2.2.1 so.1 so.2.1 so.2.2.1 sn i (l4, md.2.1, md.2.2.1, md.2.2.2, ml.1, ml.2.1, ml.2.2.2.1, ml.2.2.2.2.1, ml.2.2.2.2.2.1, ml.2.2.2.2.2.2.2.2.2.2.1, ml.2.2.2.2.2.2.2.2.2.2.2.1, ml.2.2.2.2.2.2.2.2.2.2.2.2, r4, sb.2.2.2.2.2, te.2.2.2.1, te.2.2.2.2.1, te.2.2.2.2.2.1, te.2.2.2.2.2.2.1, te.2.2.2.2.2.2.2, so.2.2.2, wa.1, wa.2.1, wa.2.2.1, wa.2.2.2)).2.2.2.2.2.2.2.2.2.1, (st_X12_pass_42 ml.2.2.1 ml.2.2.2.2.2.2.1 ml.2.2.2.2.2.2.2.1 ml.2.2.2.2.2.2.2.2.1 ml.2.2.2.2.2.2.2.2.2.1 sb.1 sb.2.1 sb.2.2.1 sb.2.2.2.1 sb.2.2.2.2.1 te.1 te.2.1 te.2.2.1 so.1 so.2.1 so.2.2.1 sn i (l4, md.2.1, md.2.2.1, md.2.2.2, ml.1, ml.2.1, ml.2.2.2.1, ml.2.2.2.2.1, ml.2.2.2.2.2.1, ml.2.2.2.2.2.2.2.2.2.2.1, ml.2.2.2.2.2.2.2.2.2.2.2.1, ml.2.2.2.2.2.2.2.2.2.2.2.2, r4, sb.2.2.2.2.2, te.2.2.2.1, te.2.2.2.2.1, te.2.2.2.2.2.1, te.2.2.2.2.2.2.1, te.2.2.2.2.2.2.2, so.2.2.2, wa.1, wa.2.1, wa.2.2.1, wa.2.2.2)).2.2.2.2.2.2.2.2.2.2.1, (st_X12_pass_42 ml.2.2.1 ml.2.2.2.2.2.2.1 ml.2.2.2.2.2.2.2.1 ml.2.2.2.2.2.2.2.2.1 ml.2.2.2.2.2.2.2.2.2.1 sb.1 sb.2.1 sb.2.2.1 sb.2.2.2.1 sb.2.2.2.2.1 te.1 te.2.1 te.2.2.1 so.1 so.2.1 so.2.2.1 sn i (l4, md.2.1, md.2.2.1, md.2.2.2, ml.1, ml.2.1, ml.2.2.2.1, ml.2.2.2.2.1, ml.2.2.2.2.2.1, ml.2.2.2.2.2.2.2.2.2.2.1, ml.2.2.2.2.2.2.2.2.2.2.2.1, ml.2.2.2.2.2.2.2.2.2.2.2.2, r4, sb.2.2.2.2.2, te.2.2.2.1, te.2.2.2.2.1, te.2.2.2.2.2.1, te.2.2.2.2.2.2.1, te.2.2.2.2.2.2.2, so.2.2.2, wa.1, wa.2.1, wa.2.2.1, wa.2.2.2)).2.2.2.2.2.2.2.2.2.2.2.1) (te.1, te.2.1, te.2.2.1, (st_X12_pass_42 ml.2.2.1 ml.2.2.2.2.2.2.1 ml.2.2.2.2.2.2.2.1 ml.2.2.2.2.2.2.2.2.1 ml.2.2.2.2.2.2.2.2.2.1 sb.1 sb.2.1 sb.2.2.1 sb.2.2.2.1 sb.2.2.2.2.1 te.1 te.2.1 te.2.2.1 so.1 so.2.1 so.2.2.1 sn i (l4, md.2.1, md.2.2.1, md.2.2.2, ml.1, ml.2.1, ml.2.2.2.1, ml.2.2.2.2.1, ml.2.2.2.2.2.1, ml.2.2.2.2.2.2.2.2.2.2.1, ml.2.2.2.2.2.2.2.2.2.2.2.1, ml.2.2.2.2.2.2.2.2.2.2.2.2, r4, sb.2.2.2.2.2, te.2.2.2.1, te.2.2.2.2.1, te.2.2.2.2.2.1, te.2.2.2.2.2.2.1, te.2.2.2.2.2.2.2, so.2.2.2, wa.1, wa.2.1, wa.2.2.1, wa.2.2.2)).2.2.2.2.2.2.2.2.2.2.2.2.2.2.1, (st_X12_pass_42 ml.2.2.1 ml.2.2.2.2.2.2.1 ml.2.2.2.2.2.2.2.1 ml.2.2.2.2.2.2.2.2.1 ml.2.2.2.2.2.2.2.2.2.1 sb.1 sb.2.1 sb.2.2.1 sb.2.2.2.1 sb.2.2.2.2.1 te.1 te.2.1 te.2.2.1 so.1 so.2.1 so.2.2.1 sn i (l4, md.2.1, md.2.2.1, md.2.2.2, ml.1, ml.2.1, ml.2.2.2.1, ml.2.2.2.2.1, ml.2.2.2.2.2.1, ml.2.2.2.2.2.2.2.2.2.2.1, ml.2.2.2.2.2.2.2.2.2.2.2.1, ml.2.2.2.2.2.2.2.2.2.2.2.2, r4, sb.2.2.2.2.2, te.2.2.2.1, te.2.2.2.2.1, te.2.2.2.2.2.1, te.2.2.2.2.2.2.1, te.2.2.2.2.2.2.2, so.2.2.2, wa.1, wa.2.1, wa.2.2.1, wa.2.2.2)).2.2.2.2.2.2.2.2.2.2.2.2.2.2.2.1, (st_X12_pass_42 ml.2.2.1 ml.2.2.2.2.2.2.1 ml.2.2.2.2.2.2.2.1 ml.2.2.2.2.2.2.2.2.1 ml.2.2.2.2.2.2.2.2.2.1 sb.1 sb.2.1 sb.2.2.1 sb.2.2.2.1 sb.2.2.2.2.1 te.1 te.2.1 te.2.2.1 so.1 so.2.1 so.2.2.1 sn i (l4, md.2.1, md.2.2.1, md.2.2.2, ml.1, ml.2.1, ml.2.2.2.1, ml.2.2.2.2.1, ml.2.2.2.2.2.1, ml.2.2.2.2.2.2.2.2.2.2.1, ml.2.2.2.2.2.2.2.2.2.2.2.1, ml.2.2.2.2.2.2.2.2.2.2.2.2, r4, sb.2.2.2.2.2, te.2.2.2.1, te.2.2.2.2.1, te.2.2.2.2.2.1, te.2.2.2.2.2.2.1, te.2.2.2.2.2.2.2, so.2.2.2, wa.1, wa.2.1, wa.2.2.1, wa.2.2.2)).2.2.2.2.2.2.2.2.2.2.2.2.2.2.2.2.1, (st_X12_pass_42 ml.2.2.1 ml.2.2.2.2.2.2.1 ml.2.2.2.2.2.2.2.1 ml.2.2.2.2.2.2.2.2.1 ml.2.2.2.2.2.2.2.2.2.1 sb.1 sb.2.1 sb.2.2.1 sb.2.2.2.1 sb.2.2.2.2.1 te.1 te.2.1 te.2.2.1 so.1 so.2.1 so.2.2.1 sn i (l4, md.2.1, md.2.2.1, md.2.2.2, ml.1, ml.2.1, ml.2.2.2.1, ml.2.2.2.2.1, ml.2.2.2.2.2.1, ml.2.2.2.2.2.2.2.2.2.2.1, ml.2.2.2.2.2.2.2.2.2.2.2.1, ml.2.2.2.2.2.2.2.2.2.2.2.2, r4, sb.2.2.2.2.2, te.2.2.2.1, te.2.2.2.2.1, te.2.2.2.2.2.1, te.2.2.2.2.2.2.1, te.2.2.2.2.2.2.2, so.2.2.2, wa.1, wa.2.1, wa.2.2.1, wa.2.2.2)).2.2.2.2.2.2.2.2.2.2.2.2.2.2.2.2.2.1, (st_X12_pass_42 ml.2.2.1 ml.2.2.2.2.2.2.1 ml.2.2.2.2.2.2.2.1 ml.2.2.2.2.2.2.2.2.1 ml.2.2.2.2.2.2.2.2.2.1 sb.1 sb.2.1 sb.2.2.1 sb.2.2.2.1 sb.2.2.2.2.1 te.1 te.2.1 te.2.2.1 so.1 so.2.1 so.2.2.1 sn i (l4, md.2.1, md.2.2.1, md.2.2.2, ml.1, ml.2.1, ml.2.2.2.1, ml.2.2.2.2.1, ml.2.2.2.2.2.1, ml.2.2.2.2.2.2.2.2.2.2.1, ml.2.2.2.2.2.2.2.2.2.2.2.1, ml.2.2.2.2.2.2.2.2.2.2.2.2, r4, sb.2.2.2.2.2, te.2.2.2.1, te.2.2.2.2.1, te.2.2.2.2.2.1, te.2.2.2.2.2.2.1, te.2.2.2.2.2.2.2, so.2.2.2, wa.1, wa.2.1, wa.2.2.1, wa.2.2.2)).2.2.2.2.2.2.2.2.2.2.2.2.2.2.2.2.2.2.1) (sb.1, sb.2.1, sb.2.2.1, sb.2.2.2.1, sb.2.2.2.2.1, (st_X12_pass_42 ml.2.2.1 ml.2.2.2.2.2.2.1 ml.2.2.2.2.2.2.2.1 ml.2.2.2.2.2.2.2.2.1 ml.2.2.2.2.2.2.2.2.2.1 sb.1 sb.2.1 sb.2.2.1 sb.2.2.2.1 sb.2.2.2.2.1 te.1 te.2.1 te.2.2.1 so.1 so.2.1 so.2.2.1 sn i (l4, md.2.1, md.2.2.1, md.2.2.2, ml.1, ml.2.1, ml.2.2.2.1, ml.2.2.2.2.1, ml.2.2.2.2.2.1, ml.2.2.2.2.2.2.2.2.2.2.1, ml.2.2.2.2.2.2.2.2.2.2.2.1, ml.2.2.2.2.2.2.2.2.2.2.2.2, r4, sb.2.2.2.2.2, te.2.2.2.1, te.2.2.2.2.1, te.2.2.2.2.2.1, te.2.2.2.2.2.2.1, te.2.2.2.2.2.2.2, so.2.2.2, wa.1, wa.2.1, wa.2.2.1, wa.2.2.2)).2.2.2.2.2.2.2.2.2.2.2.2.2.1) (so.1, so.2.1, so.2.2.1, (st_X12_pass_42 ml.2.2.1 ml.2.2.2.2.2.2.1 ml.2.2.2.2.2.2.2.1 ml.2.2.2.2.2.2.2.2.1 ml.2.2.2.2.2.2.2.2.2.1 sb.1 sb.2.1 sb.2.2.1 sb.2.2.2.1 sb.2.2.2.2.1 te.1 te.2.1 te.2.2.1 so.1 so.2.1 so.2.2.1 sn i (l4, md.2.1, md.2.2.1, md.2.2.2, ml.1, ml.2.1, ml.2.2.2.1, ml.2.2.2.2.1, ml.2.2.2.2.2.1, ml.2.2.2.2.2.2.2.2.2.2.1, ml.2.2.2.2.2.2.2.2.2.2.2.1, ml.2.2.2.2.2.2.2.2.2.2.2.2, r4, sb.2.2.2.2.2, te.2.2.2.1, te.2.2.2.2.1, te.2.2.2.2.2.1, te.2.2.2.2.2.2.1, te.2.2.2.2.2.2.2, so.2.2.2, wa.1, wa.2.1, wa.2.2.1, wa.2.2.2)).2.2.2.2.2.2.2.2.2.2.2.2.2.2.2.2.2.2.2.1) ((st_X12_pass_42 ml.2.2.1 ml.2.2.2.2.2.2.1 ml.2.2.2.2.2.2.2.1 ml.2.2.2.2.2.2.2.2.1 ml.2.2.2.2.2.2.2.2.2.1 sb.1 sb.2.1 sb.2.2.1 sb.2.2.2.1 sb.2.2.2.2.1 te.1 te.2.1 te.2.2.1 so.1 so.2.1 so.2.2.1 sn i (l4, md.2.1, md.2.2.1, md.2.2.2, ml.1, ml.2.1, ml.2.2.2.1, ml.2.2.2.2.1, ml.2.2.2.2.2.1, ml.2.2.2.2.2.2.2.2.2.2.1, ml.2.2.2.2.2.2.2.2.2.2.2.1, ml.2.2.2.2.2.2.2.2.2.2.2.2, r4, sb.2.2.2.2.2, te.2.2.2.1, te.2.2.2.2.1, te.2.2.2.2.2.1, te.2.2.2.2.2.2.1, te.2.2.2.2.2.2.2, so.2.2.2, wa.1, wa.2.1, wa.2.2.1, wa.2.2.2)).2.2.2.2.2.2.2.2.2.2.2.2.2.2.2.2.2.2.2.2.1, (st_X12_pass_42 ml.2.2.1 ml.2.2.2.2.2.2.1 ml.2.2.2.2.2.2.2.1 ml.2.2.2.2.2.2.2.2.1 ml.2.2.2.2.2.2.2.2.2.1 sb.1 sb.2.1 sb.2.2.1 sb.2.2.2.1 sb.2.2.2.2.1 te.1 te.2.1 te.2.2.1 so.1 so.2.1 so.2.2.1 sn i (l4, md.2.1, md.2.2.1, md.2.2.2, ml.1, ml.2.1, ml.2.2.2.1, ml.2.2.2.2.1, ml.2.2.2.2.2.1, ml.2.2.2.2.2.2.2.2.2.2.1, ml.2.2.2.2.2.2.2.2.2.2.2.1, ml.2.2.2.2.2.2.2.2.2.2.2.2, r4, sb.2.2.2.2.2, te.2.2.2.1, te.2.2.2.2.1, te.2.2.2.2.2.1, te.2.2.2.2.2.2.1, te.2.2.2.2.2.2.2, so.2.2.2, wa.1, wa.2.1, wa.2.2.1, wa.2.2.2)).2.2.2.2.2.2.2.2.2.2.2.2.2.2.2.2.2.2.2.2.2.1, (st_X12_pass_42 ml.2.2.1 ml.2.2.2.2.2.2.1 ml.2.2.2.2.2.2.2.1 ml.2.2.2.2.2.2.2.2.1 ml.2.2.2.2.2.2.2.2.2.1 sb.1 sb.2.1 sb.2.2.1 sb.2.2.2.1 sb.2.2.2.2.1 te.1 te.2.1 te.2.2.1 so.1 so.2.1 so.2.2.1 sn i (l4, md.2.1, md.2.2.1, md.2.2.2, ml.1, ml.2.1, ml.2.2.2.1, ml.2.2.2.2.1, ml.2.2.2.2.2.1, ml.2.2.2.2.2.2.2.2.2.2.1, ml.2.2.2.2.2.2.2.2.2.2.2.1, ml.2.2.2.2.2.2.2.2.2.2.2.2, r4, sb.2.2.2.2.2, te.2.2.2.1, te.2.2.2.2.1, te.2.2.2.2.2.1, te.2.2.2.2.2.2.1, te.2.2.2.2.2.2.2, so.2.2.2, wa.1, wa.2.1, wa.2.2.1, wa.2.2.2)).2.2.2.2.2.2.2.2.2.2.2.2.2.2.2.2.2.2.2.2.2.2.1, (st_X12_pass_42 ml.2.2.1 ml.2.2.2.2.2.2.1 ml.2.2.2.2.2.2.2.1 ml.2.2.2.2.2.2.2.2.1 ml.2.2.2.2.2.2.2.2.2.1 sb.1 sb.2.1 sb.2.2.1 sb.2.2.2.1 sb.2.2.2.2.1 te.1 te.2.1 te.2.2.1 so.1 so.2.1 so.2.2.1 sn i (l4, md.2.1, md.2.2.1, md.2.2.2, ml.1, ml.2.1, ml.2.2.2.1, ml.2.2.2.2.1, ml.2.2.2.2.2.1, ml.2.2.2.2.2.2.2.2.2.2.1, ml.2.2.2.2.2.2.2.2.2.2.2.1, ml.2.2.2.2.2.2.2.2.2.2.2.2, r4, sb.2.2.2.2.2, te.2.2.2.1, te.2.2.2.2.1, te.2.2.2.2.2.1, te.2.2.2.2.2.2.1, te.2.2.2.2.2.2.2, so.2.2.2, wa.1, wa.2.1, wa.2.2.1, wa.2.2.2)).2.2.2.2.2.2.2.2.2.2.2.2.2.2.2.2.2.2.2.2.2.2.2) := by
  obtain ⟨fu, fi, sm, ln, cl, cp, br, w7, w8, w9, w10, mk, bl, st⟩ := la
  obtain ⟨fu', cl', cp', fi', sm', ln', x6, x7, x8, x9, mk', bl', st'⟩ := ml
  obtain ⟨tr, pl, hd, va, lo, db, ag, vd, cn, me⟩ := se
  obtain ⟨nT, x, y, tr', va', row, out, wd'⟩ := te
  obtain ⟨wn, up, ub, uf, ut, cu, A, T, B, s, cA, ca, cb⟩ := su
  obtain ⟨nB, at', bd', fr', to', w'⟩ := sb
  obtain ⟨op, cpl, cbd, cc, cls⟩ := sc
  obtain ⟨nS, sat, sbd, ic⟩ := so
  obtain ⟨nW, A', T', B'⟩ := wa
  obtain ⟨t0, hm, me', cls'⟩ := md
  obtain ⟨⟨L, ⟨dw, wd, ra, hd9, hw4, h4, hr, e7, e8, e9, e10, m6, m7, m8, m9⟩, s1, s2, s3, SB⟩, s4, s5, ⟨en, hs, hsz⟩, ⟨eu, hu, huz⟩, ⟨ew, hq⟩, ⟨ec, hc⟩⟩ := R
  have hns := w.hns
  have hnu := w.hnu
  have hnc := w.hnc
  have hcc := w.hcc
  have hC := w.hC
  have hq0 := w.hq0
  have ha0 := w.ha0
  have hpu := w.hpu
  have hpc := w.hpc
  clear w
  replace e7 : w7 = ze dw := e7
  replace e8 : w8 = zf dw := e8
  replace e9 : w9 = nI wd := e9
  replace e10 : w10 = nI ra := e10
  replace m6 : x6 = w7 := m6
  replace m7 : x7 = w8 := m7
  replace m8 : x8 = w9 := m8
  replace m9 : x9 = w10 := m9
  replace s1 : mk = mk' := s1
  replace s2 : bl = bl' := s2
  replace s3 : st = st' := s3
  replace s4 : me = me' := s4
  replace s5 : cls = cls' := s5
  replace hmd : hm = wo := hmd
  replace en : cn.toNatClampNeg = nT := en
  replace eu : cu.toNatClampNeg = nB := eu
  replace ec : cc.toNatClampNeg = nS := ec
  replace ew : s = nW := ew
  replace hcc : cc = nI cc.toNatClampNeg := hcc
  replace hns : cn.toNatClampNeg ≤ 10 := hns
  replace hnu : cu.toNatClampNeg ≤ 12 := hnu
  replace hnc : cc.toNatClampNeg ≤ 6 := hnc
  replace hC : zCap s cA ca cb := hC
  replace hq0 : s ≤ 500000 := hq0
  replace ha0 : cA ≤ 1000000 := ha0
  subst m6 m7 m8 m9
  subst e7 e8 e9 e10
  subst s1 s2 s3 s4 s5
  subst hmd
  subst hwo
  subst en eu ec ew
  replace SB : zBd 48 (9999 + 90 * (nI h).toNatClampNeg) sm := SB
  rw [nI_clamp (by omega)] at SB
  replace L : zLnd fu fi sm ln cl cp fu' fi' sm' ln' cl' cp' := L
  replace hs : ∀ k, k < cn.toNatClampNeg → zSv (pl k) (x k) (y k) ∧ zSr (hd k) (va k) (va' k) ∧ zStv (tr k) (lo k) (db k) (ag k) (tr' k) (row k) (out k) (wd' k) := hs
  replace hu : ∀ k, k < cu.toNatClampNeg → up k = at' k ∧ (ub k = bd' k ∧ ∃ m, m ≤ 9999 ∧ bd' k = nI m) ∧ uf k = fr' k ∧ ut k = to' k ∧ wn k = w' k := hu
  replace hc : ∀ k, k < cc.toNatClampNeg → cpl k = sat k ∧ cbd k = sbd k ∧ zOp (op k) (ic k) := hc
  replace hq : zSn s A T B A' T' B' := hq
  replace hsz : ∀ k, cn.toNatClampNeg ≤ k → hd k = (0 : Int32) ∧ lo k = (0 : Int32) ∧ db k = (0 : Int32) := hsz
  replace huz : ∀ k, cu.toNatClampNeg ≤ k → wn k = (0 : Int32) := huz
  replace hpu : ∀ k, k < cu.toNatClampNeg → vp_in (up k) 48 := hpu
  replace hpc : ∀ k, k < cc.toNatClampNeg → vp_in (cpl k) 48 := hpc
  replace hk : k = (nI wd).toNatClampNeg := hk
  replace hsn : sn = (nI wd).toNatClampNeg := hsn
  rw [nI_clamp (by omega)] at hk hsn
  replace hk := hk.symm
  replace hsn := hsn.symm
  subst hk hsn
  -- the model
  have H := zhour (mk := mk) (mk' := mk) (bl := bl) (bl' := bl) (st := st) (st' := st) L hd9 hw4 h4 hr
  obtain ⟨⟨q1, q2, q3, q4, q5, q6, q7, q8, q9⟩, H11, H12, H13⟩ := H
  have bS := zSmB_hour (fu := fu) (fi := fi) (ln := ln) (cl := cl) (cp := cp) (w := wd) (mk := mk) (bl := bl) (st := st) hd9 L.2.2.2.2.2.2.1 L.2.2.2.2.2.2.2.1 SB hr (by omega)
  -- judging
  have hp1 : ∀ k, k < cn.toNatClampNeg → zSv (pl k) (x k) (y k) := fun k hk => (hs k hk).1
  have hr1 : ∀ k, k < cn.toNatClampNeg → zSr (hd k) (va k) (va' k) := fun k hk => (hs k hk).2.1
  have J := zjudge hp1 hr1 (fun k hk => (hs k hk).2.2) hns (lp_X4_judgeAll_2 pl hd va lo cn.toNatClampNeg vd cn.toNatClampNeg) (lp_X12_judge_14 cn.toNatClampNeg x y va' out (fun _ => 0) cn.toNatClampNeg) (fun k hk => by rw [zvds _ (Nat.le_refl _) k hk, if_pos hk]) (fun k hk => by rw [zmns _ (Nat.le_refl _) k hk, if_pos hk]) cn.toNatClampNeg (Nat.le_refl _)
  -- mending
  have ht1 := fun k hk => (J k hk).1
  have ho1 : ∀ k, k < cn.toNatClampNeg → (lp_X4_judgeAll_29 (lp_X4_judgeAll_2 pl hd va lo cn.toNatClampNeg vd cn.toNatClampNeg) (tr, lo, db, ag) cn.toNatClampNeg).2.1 k = (lp_X12_judge_48 va' (lp_X12_judge_14 cn.toNatClampNeg x y va' out (fun _ => 0) cn.toNatClampNeg) (tr', row, out, wd') cn.toNatClampNeg).2.2.1 k := fun k hk => by
    obtain ⟨-, z⟩ := J k hk
    rcases z with ⟨a, b, -⟩ | ⟨a, b, -⟩ <;> rw [a, b]
  have Md := zmend2 (me := me) hp1 hr1 ht1 ho1 hns q3 48 (Nat.le_refl _)
  have bM := zSmB_mend (me := me) (lo := (lp_X4_judgeAll_29 (lp_X4_judgeAll_2 pl hd va lo cn.toNatClampNeg vd cn.toNatClampNeg) (tr, lo, db, ag) cn.toNatClampNeg).2.1) hp1 hr1 ht1 hns (M := 9999 + 90 * h + 90) ⟨by omega, by omega⟩ bS 48 (Nat.le_refl _)
  have Ln : zLnd (g_X1_runModel_x_0 fu fi sm ln cl cp (nI ra) mk) (g_X1_runModel_x_1 fu fi sm ln cl cp (ze dw) (zf dw) (nI wd) (nI ra) mk) _ (g_X1_runModel_x_3 fi ln cl cp) (g_X1_runModel_x_4 fi ln cl cp) cp (g_X8_hour_ml_0 fu' cl' cp' fi' sm' ln' (nI ra) mk) (g_X8_hour_ml_3 fu' cl' cp' fi' sm' ln' (ze dw) (zf dw) (nI wd) (nI ra) mk) _ (g_X8_hour_ml_5 cl' cp' fi' ln') (g_X8_hour_ml_1 cl' cp' fi' ln') cp' := ⟨q1, q2, Md.2, q4, q5, q6, q7, q8, q9⟩
  -- warning
  have Wn := zwarnR (hr := nI h) (l4 := l4) (N := r4) (sm := _) (sm' := _) (fun k hk => ⟨(hu k hk).1, hpu k hk⟩) (fun k hk => (hu k hk).2.1) (fun k hk => (hu k hk).2.2.1) (fun k hk => (hu k hk).2.2.2.1) Md.2 (fun k hk => by obtain ⟨m, h1, h2⟩ := bM k hk; exact ⟨m, by omega, h2⟩) hnu (fun k hk => (hu k hk).2.2.2.2) hq (fun i hi => (zwarn hC (by omega) (by omega) i (by omega)).1) cu.toNatClampNeg (Nat.le_refl _)
  -- schools
  have hz0 : cc ≤ (0 : Int32) → cc.toNatClampNeg = 0 := fun z => by
    rcases Nat.eq_zero_or_pos cc.toNatClampNeg with q | q
    · exact q
    · exact absurd (hcc ▸ z : nI cc.toNatClampNeg ≤ (0 : Int32)) (nI_nle q (by omega))
  have Dc := zdecide (pk := g_X2_look_o_0 al.1 al.2.1 al.2.2.1 al.2.2.2.1 al.2.2.2.2.1 al.2.2.2.2.2.1 al.2.2.2.2.2.2.1 al.2.2.2.2.2.2.2.2.2.2.2.1 al.2.2.2.2.2.2.2.2.2.2.2.2.1 al.2.2.2.2.2.2.2.2.2.2.2.2.2 (g_X1_runModel_x_0 fu fi sm ln cl cp (nI ra) mk) (g_X1_runModel_x_1 fu fi sm ln cl cp (ze dw) (zf dw) (nI wd) (nI ra) mk) (lp_X4_mendAll_2 _ pl hd va _ cn.toNatClampNeg (me, g_X1_runModel_x_2 fu fi sm ln cl cp (ze dw) (zf dw) (nI wd) (nI ra) mk bl st wd) 48).2 (g_X1_runModel_x_3 fi ln cl cp) (g_X1_runModel_x_4 fi ln cl cp) cp (ze dw) (zf dw) (nI wd) (nI ra) 12 wd) (fun k hk => (hc k hk).1) (fun k hk => (hc k hk).2.1) (fun k hk => (hc k hk).2.2) (rfl : cls = cls) (fun k hk => by
    have e := (hc k hk).1
    obtain ⟨j, hj, ej⟩ := vp_in_of (hpc k hk) (by decide)
    have hin : (sat k).toNatClampNeg < 48 := by rw [← e, ej, nI_clamp (by omega)]; exact hj
    rw [e]
    exact (zlook (zcopyl Ln) hd9 hw4 h4 hr hin rfl 12).2) cc.toNatClampNeg (Nat.le_refl _)
  have hh1 : (g_X6_runHour_wo_0 (nI h)).toNatClampNeg = h + 1 := by
    show (nI h + (1 : Int32)).toNatClampNeg = _
    rw [nI_1, nI_clamp (by omega)]
  refine ⟨⟨Ln, ⟨dw, wd, ra, hd9, hw4, h4, hr, rfl, rfl, rfl, rfl, rfl, rfl, rfl, rfl⟩, H11 rfl, H12 rfl, H13 rfl, ?_⟩, Md.1, ?_, ⟨rfl, ?_, ?_⟩, ⟨rfl, ?_, ?_⟩, ⟨Wn.2.1, Wn.2.2⟩, ⟨rfl, ?_⟩⟩
  · show zBd 48 (9999 + 90 * (g_X6_runHour_wo_0 (nI h)).toNatClampNeg) _
    rw [hh1]
    exact fun k hk => by obtain ⟨m, h1, h2⟩ := bM k hk; exact ⟨m, by omega, h2⟩
  · refine zifE rfl (fun _ z => ?_) (fun _ z => Dc.2)
    show cls = (lp_X12_close_10 _ _ _ _ _ _ _ _ _ _ _ _ _ (cls, ic) cc.toNatClampNeg).1
    rw [hz0 z, lp_X12_close_10_0]
  · exact fun k hk => ⟨hp1 k hk, Or.inl ⟨(zfgt _ (Nat.le_refl _) k hk).trans (if_pos hk), (zfgt2 _ (Nat.le_refl _) k hk).trans (if_pos hk)⟩, J k hk⟩
  · exact fun k hk => ⟨(zfgto _ (Nat.le_refl _) k hk).trans (hsz k hk).1, (zjo hns _ (Nat.le_refl _) k hk).1.trans (hsz k hk).2.1, (zjo hns _ (Nat.le_refl _) k hk).2.trans (hsz k hk).2.2⟩
  · exact fun k hk => ⟨(hu k hk).1, (hu k hk).2.1, (hu k hk).2.2.1, (hu k hk).2.2.2.1, Wn.1 k hk⟩
  · exact fun k hk => (zwo _ (Nat.le_refl _) k hk).trans (huz k hk)
  · exact fun k hk => ⟨(hc k hk).1, (hc k hk).2.1, zifO (hc k hk).2.2 (fun _ z => absurd hk (by show ¬ k < cc.toNatClampNeg; rw [hz0 z]; exact Nat.not_lt_zero k)) (fun _ _ => Dc.1 k hk)⟩
