/-! joined: 79.rel, 80.loop -/
section
theorem zcmpE {a b : Int32} (h : a = b) : lg_cmp a.toInt64 b.toInt64 = (0 : Int32) := by rw [h]; exact zcmp0
theorem zb01 {x : Int32} : (if x = (0 : Int32) then (0 : Int32) else (1 : Int32)) = (0 : Int32) ↔ x = (0 : Int32) := by
  by_cases z : x = (0 : Int32)
  · rw [if_pos z]; exact ⟨fun _ => z, fun _ => rfl⟩
  · rw [if_neg z]; exact ⟨fun h => absurd h (by decide), fun h => absurd h z⟩
theorem zcmpB {a b : Int32} (h : a = (0 : Int32) ↔ b = (0 : Int32)) : lg_cmp (if a = (0 : Int32) then (0 : Int64) else (1 : Int64)) (if b = (0 : Int32) then (0 : Int64) else (1 : Int64)) = (0 : Int32) := by
  by_cases z : b = (0 : Int32)
  · rw [if_pos (h.mpr z), if_pos z]; exact zcmp0
  · rw [if_neg (fun y => z (h.mp y)), if_neg z]; exact zcmp0
theorem zstlo {t lo db ag t' row out wd : Int32} (h : zStv t lo db ag t' row out wd) : lo = out := by
  rcases h.2 with ⟨l, o, -⟩ | ⟨l, o, -⟩
  · exact l.trans o.symm
  · exact l.trans o.symm
theorem zcntR {hd va : Nat → Int32} {n : Nat} (h : ∀ k, k < n → (hd k = (0 : Int32) ↔ r_X10_hasRead va k = (0 : Int32))) : ∀ j, j ≤ n → lp_X4_take_19 hd (0 : Int32) j = lp_X12_read_67 va (0 : Int32) j := by
  intro j
  induction j with
  | zero => intro _; rw [lp_X4_take_19_0, lp_X12_read_67_0]
  | succ j ih =>
    intro hj
    rw [lp_X4_take_19_s, lp_X12_read_67_s, ih (by omega)]
    unfold st_X4_take_19 st_X12_read_67
    by_cases z : hd j = (0 : Int32)
    · rw [if_pos z, if_pos ((h j (by omega)).mp z), Int32.add_zero]
    · rw [if_neg z, if_neg (fun y => z ((h j (by omega)).mpr y))]
theorem zcntT {lo out : Nat → Int32} {n : Nat} (h : ∀ k, k < n → lo k = out k) : ∀ j, j ≤ n → lp_X4_counting_4 lo (0 : Int32) j = lp_X12_trustShare_12 out (0 : Int32) j := by
  intro j
  induction j with
  | zero => intro _; rw [lp_X4_counting_4_0, lp_X12_trustShare_12_0]
  | succ j ih =>
    intro hj
    rw [lp_X4_counting_4_s, lp_X12_trustShare_12_s, ih (by omega)]
    unfold st_X4_counting_4 st_X12_trustShare_12
    rw [h j (by omega)]
    by_cases z : out j = (0 : Int32)
    · rw [if_pos z, if_pos z]
    · rw [if_neg z, if_neg z, Int32.add_zero]
theorem zsumS {sm sm' : Nat → Int32} (h : zEq 48 sm sm') : ∀ j, j ≤ 48 → lp_X1_smokeInAll_4 sm (0 : Int64) j = lp_X12_meanSmoke_22 sm' (0 : Int64) j := by
  intro j
  induction j with
  | zero => intro _; rw [lp_X1_smokeInAll_4_0, lp_X12_meanSmoke_22_0]
  | succ j ih =>
    intro hj
    rw [lp_X1_smokeInAll_4_s, lp_X12_meanSmoke_22_s, ih (by omega)]
    unfold st_X1_smokeInAll_4 st_X12_meanSmoke_22
    rw [h j (by omega)]
set_option maxHeartbeats 4000000 in
set_option maxRecDepth 100000 in
theorem zo_worst_0 {aq : zAcs} {r : Nat} {kc : Nat} {wo : zWor} {la : zLand} {ou : zOutl} {al : zLand} {se : zSens} {su : zSubs} {sc : zScho} {rv : zWv} {md : zMd} {ml : zMl} {te : zMs} {sb : zMb} {so : zMo} {wa : zMw} {r1 : Nat} {r2 : Nat} {r3 : Nat} {r4 : Nat} {xs : Nat → Int32} (S : zCl aq r (wo, la, ou, al, se, su, sc) rv) (M : zSm (zch aq aq.1) md ml te sb so wa r1 r2 r3 r4) (R : zRl (wo, la, ou, al, se, su, sc) md ml te sb so wa) : (r_X12_thrown (g_X12_worst_md_0 (xs ((6 * kc) + 1)) (xs ((6 * kc) + 2)) (xs ((6 * kc) + 3)))) = (r_L_worst (xs ((6 * kc) + 1)) (xs ((6 * kc) + 2)) (xs ((6 * kc) + 3))) := by
  have w := S.2.2.1.1.1
  have hwo : wo = nI (zch aq aq.1) := S.2.2.1.1.2.2.1
  have hmd : md.2.1 = wo := (M.2.2.2.2.2.2.2.2.2.2.1).trans hwo.symm
  have hcs : se.2.2.2.2.2.2.2.2.1 = nI te.1 := w.hcs.trans (congrArg nI R.2.2.2.1.1)
  have hcu : su.2.2.2.2.2.1 = nI sb.1 := w.hcu.trans (congrArg nI R.2.2.2.2.1.1)
  have hcc : sc.2.2.2.1 = nI so.1 := w.hcc.trans (congrArg nI R.2.2.2.2.2.2.1)
  have hcw : nI su.2.2.2.2.2.2.2.2.2.1 = nI wa.1 := congrArg nI R.2.2.2.2.2.1.1
  have hqw : su.2.2.2.2.2.2.2.2.2.1 = wa.1 := R.2.2.2.2.2.1.1
  have hnw : wa.1 ≤ 11988 := Nat.le_trans M.2.2.2.2.2.2.2.2.2.2.2.2.1 (by have := M.2.2.2.2.2.2.2.2.2.2.2.1; omega)
  have hns : te.1 ≤ 10 := M.2.2.2.2.1
  have hnu : sb.1 ≤ 12 := M.2.2.2.2.2.1
  have hnc : so.1 ≤ 6 := M.2.2.2.2.2.2.1
  unfold r_X12_thrown g_X12_worst_md_0 g_X12_isNoCell_md_0 g_X12_isWrong_md_0 r_L_worst x_X7_worst
  by_cases d1 : r_X12_isCell (xs ((6 * kc) + 1)) (xs ((6 * kc) + 2)) = (0 : Int32)
  · rw [if_neg (fun z => (zcB.mp z) d1), if_neg (show ¬ r_X12_isNoCell (xs ((6 * kc) + 1)) (xs ((6 * kc) + 2)) = (0 : Int32) from by unfold r_X12_isNoCell; rw [if_pos d1]; decide), if_pos d1]; decide
  · rw [if_pos (zcB.mpr d1), if_pos (show r_X12_isNoCell (xs ((6 * kc) + 1)) (xs ((6 * kc) + 2)) = (0 : Int32) from by unfold r_X12_isNoCell; rw [if_neg d1]; decide)]
    by_cases d2 : r_X12_isBetween (xs ((6 * kc) + 3)) (1 : Int32) (12 : Int32) = (0 : Int32)
    · rw [if_neg (fun z => (zrB.mp z) d2), if_pos d2]; decide
    · rw [if_pos (zrB.mpr d2), if_neg d2]; decide

set_option maxHeartbeats 4000000 in
set_option maxRecDepth 100000 in
theorem zo_worst_1 {aq : zAcs} {r : Nat} {kc : Nat} {wo : zWor} {la : zLand} {ou : zOutl} {al : zLand} {se : zSens} {su : zSubs} {sc : zScho} {rv : zWv} {lo : zLo} {md : zMd} {ml : zMl} {te : zMs} {sb : zMb} {so : zMo} {wa : zMw} {r1 : Nat} {r2 : Nat} {r3 : Nat} {r4 : Nat} {xs : Nat → Int32} (S : zCl aq r (wo, la, ou, al, se, su, sc) rv) (M : zSm (zch aq aq.1) md ml te sb so wa r1 r2 r3 r4) (R : zRl (wo, la, ou, al, se, su, sc) md ml te sb so wa) : ((r_L_worst (xs ((6 * kc) + 1)) (xs ((6 * kc) + 2)) (xs ((6 * kc) + 3))) = (0 : Int32)) → (lg_cmp ((g_L_worst_lo_0 al.1 al.2.1 al.2.2.1 al.2.2.2.1 al.2.2.2.2.1 al.2.2.2.2.2.1 al.2.2.2.2.2.2.1 al.2.2.2.2.2.2.2.2.2.2.2.1 al.2.2.2.2.2.2.2.2.2.2.2.2.1 al.2.2.2.2.2.2.2.2.2.2.2.2.2 la.1 la.2.1 la.2.2.1 la.2.2.2.1 la.2.2.2.2.1 la.2.2.2.2.2.1 la.2.2.2.2.2.2.2.1 la.2.2.2.2.2.2.2.2.1 la.2.2.2.2.2.2.2.2.2.1 la.2.2.2.2.2.2.2.2.2.2.1 lo (xs ((6 * kc) + 1)) (xs ((6 * kc) + 2)) (xs ((6 * kc) + 3)) (kv (wo, la, ou, al, se, su, sc))) (nI 0).toNatClampNeg) ((r_X12_worst ml.1 ml.2.1 ml.2.2.1 ml.2.2.2.1 ml.2.2.2.2.1 ml.2.2.2.2.2.1 ml.2.2.2.2.2.2.1 ml.2.2.2.2.2.2.2.1 ml.2.2.2.2.2.2.2.2.1 ml.2.2.2.2.2.2.2.2.2.1 (xs ((6 * kc) + 1)) (xs ((6 * kc) + 2)) (xs ((6 * kc) + 3)) (snv ml)).toInt64)) = (0 : Int32) := by
  have w := S.2.2.1.1.1
  have hwo : wo = nI (zch aq aq.1) := S.2.2.1.1.2.2.1
  have hmd : md.2.1 = wo := (M.2.2.2.2.2.2.2.2.2.2.1).trans hwo.symm
  have hcs : se.2.2.2.2.2.2.2.2.1 = nI te.1 := w.hcs.trans (congrArg nI R.2.2.2.1.1)
  have hcu : su.2.2.2.2.2.1 = nI sb.1 := w.hcu.trans (congrArg nI R.2.2.2.2.1.1)
  have hcc : sc.2.2.2.1 = nI so.1 := w.hcc.trans (congrArg nI R.2.2.2.2.2.2.1)
  have hcw : nI su.2.2.2.2.2.2.2.2.2.1 = nI wa.1 := congrArg nI R.2.2.2.2.2.1.1
  have hqw : su.2.2.2.2.2.2.2.2.2.1 = wa.1 := R.2.2.2.2.2.1.1
  have hnw : wa.1 ≤ 11988 := Nat.le_trans M.2.2.2.2.2.2.2.2.2.2.2.2.1 (by have := M.2.2.2.2.2.2.2.2.2.2.2.1; omega)
  have hns : te.1 ≤ 10 := M.2.2.2.2.1
  have hnu : sb.1 ≤ 12 := M.2.2.2.2.2.1
  have hnc : so.1 ≤ 6 := M.2.2.2.2.2.2.1
  intro h
  have c : x_X7_worst (xs ((6 * kc) + 1)) (xs ((6 * kc) + 2)) (xs ((6 * kc) + 3)) = (0 : Int32) := by
    by_cases z : x_X7_worst (xs ((6 * kc) + 1)) (xs ((6 * kc) + 2)) (xs ((6 * kc) + 3)) = (0 : Int32)
    · exact z
    · exfalso
      revert h
      unfold r_L_worst
      rw [if_neg z]
      (repeat' split) <;> (intro h; exact absurd h (by decide))
  have c' := c
  unfold x_X7_worst at c'
  have c1 : (x_X7_placeOf (xs ((6 * kc) + 1)) (xs ((6 * kc) + 2))) = (0 : Int32) := by
    by_cases z : (x_X7_placeOf (xs ((6 * kc) + 1)) (xs ((6 * kc) + 2))) = (0 : Int32)
    · exact z
    · rw [if_neg z] at c'; exact absurd c' (by decide)
  rw [if_pos c1] at c'
  have c2 : (x_X7_checkRange (xs ((6 * kc) + 3)) (1 : Int32) (12 : Int32)) = (0 : Int32) := by
    by_cases z : (x_X7_checkRange (xs ((6 * kc) + 3)) (1 : Int32) (12 : Int32)) = (0 : Int32)
    · exact z
    · rw [if_neg z] at c'; exact absurd c' (by decide)
  rw [if_pos c2] at c'
  have d1 : ¬ r_X12_isCell (xs ((6 * kc) + 1)) (xs ((6 * kc) + 2)) = (0 : Int32) := zcB.mp c1
  have k1 : r_X12_isNoCell (xs ((6 * kc) + 1)) (xs ((6 * kc) + 2)) = (0 : Int32) := by unfold r_X12_isNoCell; rw [if_neg d1]; decide
  have k2 : r_X12_isWrong (if (r_X12_isBetween (xs ((6 * kc) + 3)) (1 : Int32) (12 : Int32)) = (0 : Int32) then (2 : Int32) else (0 : Int32)) = (0 : Int32) := by rw [if_neg (zrB.mp c2)]; decide
  clear c'
  unfold g_L_worst_lo_0 r_X12_worst  r_X7_worst
  simp only [if_pos c, if_pos k1, if_pos k2, if_pos c1, if_pos c2]
  rw [zupdL]
  exact zcmpE (by
    obtain ⟨dw, w, ra, hd, hw, h4, hr, e7, e8, e9, e10, m6, m7, m8, m9⟩ := R.1.2.1
    replace e7 : la.2.2.2.2.2.2.2.1 = ze dw := e7
    replace e8 : la.2.2.2.2.2.2.2.2.1 = zf dw := e8
    replace e9 : la.2.2.2.2.2.2.2.2.2.1 = nI w := e9
    replace e10 : la.2.2.2.2.2.2.2.2.2.2.1 = nI ra := e10
    replace m6 : ml.2.2.2.2.2.2.1 = ze dw := m6.trans e7
    replace m7 : ml.2.2.2.2.2.2.2.1 = zf dw := m7.trans e8
    replace m8 : ml.2.2.2.2.2.2.2.2.1 = nI w := m8.trans e9
    replace m9 : ml.2.2.2.2.2.2.2.2.2.1 = nI ra := m9.trans e10
    have hk : kv (wo, la, ou, al, se, su, sc) = w := by show (la.2.2.2.2.2.2.2.2.2.1).toNatClampNeg = w; rw [e9, nI_clamp (by omega)]
    have hs : snv ml = w := by show (ml.2.2.2.2.2.2.2.2.1).toNatClampNeg = w; rw [m8, nI_clamp (by omega)]
    have L := R.1.1
    have hat := zatlt d1
    rw [zplace_at d1, hk, hs, e7, e8, e9, e10, m6, m7, m8, m9]
    exact (zlook (zcopyl L) hd hw h4 hr hat rfl _).2)
end
section
/-! what is true at every turn of the law's loop -/
def zI (kc : Nat) (aq : zAcs) (r : Nat) (v rv : zWv) (md : zMd) (ml : zMl) (te : zMs) (sb : zMb) (so : zMo) (wa : zMw) (r1 r2 r3 r4 : Nat) : Prop := zCl aq r v rv ∧ aq.1 ≤ kc ∧ zSm (zch aq aq.1) md ml te sb so wa r1 r2 r3 r4 ∧ zRl v md ml te sb so wa
def zCb (kc hr cv cr r4 : Nat) : Nat := 2000 + 80 * kc + 77 * hr + 416 * (hr / 24) + 3 * cv + 3 * cr + r4
def zSb (kc hr cv cr r4 : Nat) : Nat := 20000 + 3400 * kc + 522 * hr + 19920 * (hr / 24) + 6 * cv + 6 * cr + 4 * r4
theorem zCb_up {kc h cv cr r4 h' cv' cr' r4' x cells : Nat} (hc : cells ≤ zCb kc h cv cr r4) (hx : x ≤ cells + 80) (e1 : h' = h) (e2 : cv' = cv) (e3 : cr' = cr) (e4 : r4' = r4) : x ≤ zCb (kc + 1) h' cv' cr' r4' := by
  subst e1 e2 e3 e4
  unfold zCb at *
  omega
theorem zSb_up {kc h cv cr r4 h' cv' cr' r4' x slots : Nat} (hc : slots ≤ zSb kc h cv cr r4) (hx : x ≤ slots + 3400) (e1 : h' = h) (e2 : cv' = cv) (e3 : cr' = cr) (e4 : r4' = r4) : x ≤ zSb (kc + 1) h' cv' cr' r4' := by
  subst e1 e2 e3 e4
  unfold zSb at *
  omega
theorem zSf_b {hr : Nat} {v : zWv} (h : zSf hr v) : hr ≤ 999 ∧ zcap v ≤ 24000 := by
  obtain ⟨w, k4, hwo, h9, hse, hca, hbu, hbs⟩ := h
  refine ⟨h9, ?_⟩
  show v.2.2.2.2.2.1.2.2.2.2.2.2.2.2.2.2.1 ≤ 24000
  omega
theorem zI_b {kc : Nat} {aq : zAcs} {r : Nat} {v rv : zWv} {md : zMd} {ml : zMl} {te : zMs} {sb : zMb} {so : zMo} {wa : zMw} {r1 r2 r3 r4 : Nat} (I : zI kc aq r v rv md ml te sb so wa r1 r2 r3 r4) : zch aq aq.1 ≤ 999 ∧ zcap v ≤ 24000 ∧ zcap rv ≤ 24000 ∧ r4 ≤ 24000 := by
  obtain ⟨⟨ok, hr, S, T⟩, hkc, M, R⟩ := I
  obtain ⟨b1, b2⟩ := zSf_b S.1
  obtain ⟨b3, b4⟩ := zSf_b T.1
  obtain ⟨s1, s2, hq, hbo, n10, n12, n6, hat, hat3, htr, hh, h9, hw, q1, q2, q3, q4⟩ := M
  have := q4.2
  exact ⟨b1, b2, b4, by omega⟩
theorem zrmc {kc h cv cr r4 : Nat} (h5 : kc ≤ 513) (b : h ≤ 999 ∧ cv ≤ 24000 ∧ cr ≤ 24000 ∧ r4 ≤ 24000) : zCb kc h cv cr r4 ≤ 400000 ∧ zSb kc h cv cr r4 ≤ 5000000 := by
  unfold zCb zSb
  omega
theorem zcap_e {wo wo' : zWor} {la la' : zLand} {ou ou' : zOutl} {al al' : zLand} {se se' : zSens} {su su' : zSubs} {sc sc' : zScho} (h : su'.2.2.2.2.2.2.2.2.2.2.1 = su.2.2.2.2.2.2.2.2.2.2.1) : zcap (wo', la', ou', al', se', su', sc') = zcap (wo, la, ou, al, se, su, sc) := h
theorem zCl_oa {aq : zAcs} {r : Nat} {wo : zWor} {la : zLand} {ou ou' : zOutl} {al al' : zLand} {se : zSens} {su : zSubs} {sc : zScho} {rv : zWv} (S : zCl aq r (wo, la, ou, al, se, su, sc) rv) : zCl aq r (wo, la, ou', al', se, su, sc) rv := S
theorem zSm_md {hr : Nat} {md : zMd} {ml : zMl} {te : zMs} {sb : zMb} {so : zMo} {wa : zMw} {r1 r2 r3 r4 : Nat} {t : Int32} (M : zSm hr md ml te sb so wa r1 r2 r3 r4) : zSm hr (t, md.2.1, md.2.2.1, md.2.2.2) ml te sb so wa r1 r2 r3 r4 := M
def zLW (G : zG) (h0 hm ho hd q1 q2 q3 q4 : Nat) (ad0 ad adl ado ada ads adu adc bd bdl bdo bda bds bdu bdc adz ady adx adm ac1 ac2 ac3 ac4 aa a1 a2 a3 a4 : Nat → Nat) (aq : zAcs) (wo : zWor) (la : zLand) (ou : zOutl) (al : zLand) (se : zSens) (su : zSubs) (sc : zScho) (vwo : zWor) (vla : zLand) (vou : zOutl) (val : zLand) (vse : zSens) (vsu : zSubs) (vsc : zScho) (lo : zLo) (ld : zLd) (md : zMd) (ml : zMl) (l1 l2 l3 l4 : zAL) (te : zMs) (sb : zMb) (so : zMo) (wa : zMw) (r r1 r2 r3 r4 : Nat) : List va_W := [swW G h0 ad0 ((laF aq.1 aa), (nI aq.1), (nI r)), worW G (ad0 0) ad wo, landW G (ad 0) adl la, outW G (ad 1) ado ou, landW G (ado 0) ada al, sensW G (ad 2) ads se, subW G (ad 3) adu su, schW G (ad 4) adc sc, worW G (ad0 1) bd vwo, landW G (bd 0) bdl vla, outW G (bd 1) bdo vou, landW G (bdo 0) bda val, sensW G (bd 2) bds vse, subW G (bd 3) bdu vsu, schW G (bd 4) bdc vsc, loW G ho adz lo, ldW G hd ady ld, mdW G hm adx md, mlW G (adx 0) adm ml, alW G (adx 1) ac1 (l1.1, (zLv G r1 q1), (nI te.1)), alW G (adx 2) ac2 (l2.1, (zLv G r2 q2), (nI sb.1)), alW G (adx 3) ac3 (l3.1, (zLv G r3 q3), (nI so.1)), alW G (adx 4) ac4 (l4.1, (zLv G r4 q4), (nI wa.1)), acsW G 0 aa aq, msW G 0 a1 te, mbW G 0 a2 sb, moW G 0 a3 so, mwW G 0 a4 wa, rwW G q1 a1 (te.1, r1), rwW G q2 a2 (sb.1, r2), rwW G q3 a3 (so.1, r3), rwW G q4 a4 (wa.1, r4)]
def zGo (p : Program) (l : Launch) (e : Env) (s : State) (m : MethodId) (args : Array Value) (below : List Frame) (meth : Method) (c : Code) (Q : State → Prop) (G : zG) (A : Nat → Prop) (b : Nat) (kc : Nat) : Prop := ∀ (h0 hm ho hd q1 q2 q3 q4 : Nat) (ad0 ad adl ado ada ads adu adc bd bdl bdo bda bds bdu bdc adz ady adx adm ac1 ac2 ac3 ac4 aa a1 a2 a3 a4 : Nat → Nat) (aq : zAcs) (wo : zWor) (la : zLand) (ou : zOutl) (al : zLand) (se : zSens) (su : zSubs) (sc : zScho) (vwo : zWor) (vla : zLand) (vou : zOutl) (val : zLand) (vse : zSens) (vsu : zSubs) (vsc : zScho) (lo : zLo) (ld : zLd) (md : zMd) (ml : zMl) (l1 l2 l3 l4 : zAL) (te : zMs) (sb : zMb) (so : zMo) (wa : zMw) (r r1 r2 r3 r4 : Nat) (H : Heap) (locs : List Loc) (ls : Array Slot) (cells slots : Nat), zI kc aq r (wo, la, ou, al, se, su, sc) (vwo, vla, vou, val, vse, vsu, vsc) md ml te sb so wa r1 r2 r3 r4 → cells ≤ zCb kc (zch aq aq.1) (zcap (wo, la, ou, al, se, su, sc)) (zcap (vwo, vla, vou, val, vse, vsu, vsc)) r4 → slots ≤ zSb kc (zch aq aq.1) (zcap (wo, la, ou, al, se, su, sc)) (zcap (vwo, vla, vou, val, vse, vsu, vsc)) r4 → zW G A s.heap H locs (zcat (zLW G h0 hm ho hd q1 q2 q3 q4 ad0 ad adl ado ada ads adu adc bd bdl bdo bda bds bdu bdc adz ady adx adm ac1 ac2 ac3 ac4 aa a1 a2 a3 a4 aq wo la ou al se su sc vwo vla vou val vse vsu vsc lo ld md ml l1 l2 l3 l4 te sb so wa r r1 r2 r3 r4)) → lv_has ls 10 [(0, .ref b), (1, .ref h0), (2, .ref hm), (3, .ref ho), (4, .ref hd), (5, .int (nI (6 * kc)))] → W p l e room_1 s m args below meth c H locs cells slots Q (F0 m 28 ls [])
set_option maxHeartbeats 4000000 in
set_option maxRecDepth 100000 in
theorem zturn {p : Program} {l : Launch} {e : Env} {s : State} {m : MethodId} {args : Array Value} {below : List Frame} {meth : Method} {c : Code} {Q : State → Prop} {G : zG} {A : Nat → Prop} {b kc cells slots : Nat} {H : Heap} {locs : List Loc} {ls : Array Slot} {h0 hm ho hd : Nat} (B : zM p s m args c cL_law 10 RL G A) (hl : lv_has ls 10 [(0, .ref b), (1, .ref h0), (2, .ref hm), (3, .ref ho), (4, .ref hd), (5, .int (nI (6 * kc)))]) (kk : ∀ ls' : Array Slot, lv_has ls' 10 [(0, .ref b), (1, .ref h0), (2, .ref hm), (3, .ref ho), (4, .ref hd), (5, .int (nI (6 * (kc + 1))))] → W p l e room_1 s m args below meth c H locs cells slots Q (F0 m 28 ls' [])) : W p l e room_1 s m args below meth c H locs cells slots Q (F0 m 1369 ls []) := by
  have hx := B.x
  have hb := B.b
  refine lv_iinc (v := nI (6 * (kc + 1))) hx hb dL_law_1369 hl (k := 5) rfl (by show nI (6 * kc) + nI 6 = _; rw [nI_add]; rfl) (by decide) rfl (fun ls1 hl => ?_)
  refine lv_goto (tgt := 28) hx hb dL_law_1372 (by decide) ?_
  exact kk ls1 (lv_sub hl [1, 2, 3, 4, 5, 0] rfl)
end
