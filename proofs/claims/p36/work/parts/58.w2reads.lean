def r_X7_trust (se_0 : Nat → Int32) (se_8 : Int32) (a : Int32) : Int32 := (if (x_X7_checkNumber a se_8) = (0 : Int32) then (se_0 a.toNatClampNeg) else (0 : Int32))
def x_X7_trust (se_8 : Int32) (a : Int32) : Int32 := (if (x_X7_checkNumber a se_8) = (0 : Int32) then (0 : Int32) else (1 : Int32))
abbrev po_X7_trust (G : zG) (h0 : Nat) (ad0 : Nat → Nat) (sw : zSw) (ad : Nat → Nat) (wo : zWor) (ads : Nat → Nat) (se : zSens) (a : Int32) (ns : Nat) : Option Value → va_W → Prop := fun r u => (x_X7_trust se.2.2.2.2.2.2.2.2.1 a) = (0 : Int32) ∧ r = some (.int (r_X7_trust se.1 se.2.2.2.2.2.2.2.2.1 a)) ∧ u = swW G h0 ad0 sw ++ (worW G (ad0 0) ad wo ++ (sensW G (ad 2) ads se))
abbrev px_X7_trust (G : zG) (h0 : Nat) (ad0 : Nat → Nat) (sw : zSw) (ad : Nat → Nat) (wo : zWor) (ads : Nat → Nat) (se : zSens) (a : Int32) (ns : Nat) : String → va_W → Prop := fun E u => ¬ (x_X7_trust se.2.2.2.2.2.2.2.2.1 a) = (0 : Int32) ∧ E = zExn (x_X7_trust se.2.2.2.2.2.2.2.2.1 a) ∧ u = swW G h0 ad0 sw ++ (worW G (ad0 0) ad wo ++ (sensW G (ad 2) ads se))
set_option maxHeartbeats 4000000 in
set_option maxRecDepth 100000 in
theorem c_X7_trust (l : Launch) (G : zG) (h0 : Nat) (ad0 : Nat → Nat) (sw : zSw) (ad : Nat → Nat) (wo : zWor) (ads : Nat → Nat) (se : zSens) (a : Int32) (ns : Nat) (hst : l.stackTraces = false) (hcs : se.2.2.2.2.2.2.2.2.1 = nI ns) (hns : ns ≤ 10) : zX l yX7_trust cX7_trust 2 (some .int) 7 1 6 G [.ref h0, .int a] (swW G h0 ad0 sw ++ (worW G (ad0 0) ad wo ++ (sensW G (ad 2) ads se))) (po_X7_trust G h0 ad0 sw ad wo ads se a ns) (px_X7_trust G h0 ad0 sw ad wo ads se a ns) := by
  refine zX.of RX7 rfl (by decide) (Nat.le_of_ble_eq_true rfl) ?_
  intro p e s m args below meth c A ls B hr hlk hnm hex hW hl
  have hx := B.x
  have hb := B.b
  have hl : lv_has ls 2 [(0, .ref h0), (1, .int a)] := hl
  refine lv_iload_n hx hb dX7_trust_0 rfl (lv_at hl 1 rfl) ?_
  refine lv_aload_n hx hb dX7_trust_1 rfl (lv_at hl 0 rfl) ?_
  refine zget B hW 0 rfl lf_X7_10 rfl dX7_trust_2 ?_
  refine zget B hW 2 rfl lf_X7_74 rfl dX7_trust_5 ?_
  refine zget B hW 3 rfl lf_X7_78 rfl dX7_trust_8 ?_
  refine zxS (w1 := []) (wc := []) (w2 := swW G h0 ad0 sw ++ (worW G (ad0 0) ad wo ++ (sensW G (ad 2) ads se))) (As := [.int a, .int se.2.2.2.2.2.2.2.2.1]) B (hW.eq rfl) (c_X7_checkNumber l G a se.2.2.2.2.2.2.2.2.1 (hst)) yd_X7_checkNumber ml_X7_87 rfl hl.1 rfl (Nat.le_of_ble_eq_true rfl) ⟨Nat.le_of_ble_eq_true rfl, Nat.le_of_ble_eq_true rfl⟩ ⟨(Nat.le_of_ble_eq_true rfl), (Nat.le_of_ble_eq_true rfl)⟩ dX7_trust_11 (fun v u H locs hp hW => ?_) (fun E_ q_ ce_ u H locs hp hW hce hcv hcl => ?_)
  · obtain ⟨x_11, rfl, rfl⟩ := hp
    have hW := hW.eq (w' := swW G h0 ad0 sw ++ (worW G (ad0 0) ad wo ++ (sensW G (ad 2) ads se))) rfl
    refine lv_aload_n hx hb dX7_trust_14 rfl (lv_at hl 0 rfl) ?_
    refine zget B hW 0 rfl lf_X7_10 rfl dX7_trust_15 ?_
    refine zget B hW 2 rfl lf_X7_74 rfl dX7_trust_18 ?_
    refine zget B hW 3 rfl lf_X7_90 rfl dX7_trust_21 ?_
    refine lv_iload_n hx hb dX7_trust_24 rfl (lv_at hl 1 rfl) ?_
    refine ziald B hW 4 rfl (znum hcs hns (by decide) x_11) dX7_trust_25 ?_
    have e_0 : (if (x_X7_checkNumber a se.2.2.2.2.2.2.2.2.1) = (0 : Int32) then (se.1 a.toNatClampNeg) else (0 : Int32)) = (se.1 a.toNatClampNeg) := if_pos x_11
    exact vx_ret (ziret B hr hlk hW ⟨(if_pos x_11), by show _ = some (Value.int (if (x_X7_checkNumber a se.2.2.2.2.2.2.2.2.1) = (0 : Int32) then (se.1 a.toNatClampNeg) else (0 : Int32))) <;> (try rw [e_0]) <;> rfl, by show _ = swW G h0 ad0 sw ++ (worW G (ad0 0) ad wo ++ (sensW G (ad 2) ads se)) <;> (try rw [e_0]) <;> rfl⟩ (Nat.le_refl _) (Nat.le_refl _) dX7_trust_26)
  · obtain ⟨x_11, hE, rfl⟩ := hp
    have e_x : (if (x_X7_checkNumber a se.2.2.2.2.2.2.2.2.1) = (0 : Int32) then (0 : Int32) else (1 : Int32)) = (1 : Int32) := if_neg x_11
    exact zxout B hex hlk hce hcv hcl hW ⟨by show ¬ (if (x_X7_checkNumber a se.2.2.2.2.2.2.2.2.1) = (0 : Int32) then (0 : Int32) else (1 : Int32)) = (0 : Int32); rw [e_x]; decide, by show _ = zExn (if (x_X7_checkNumber a se.2.2.2.2.2.2.2.2.1) = (0 : Int32) then (0 : Int32) else (1 : Int32)); rw [e_x, hE, x1_X7_checkNumber x_11], rfl⟩ (Nat.le_of_ble_eq_true rfl) (Nat.le_of_ble_eq_true rfl)
theorem x1_X7_trust {se_8 : Int32} {a : Int32} (h : ¬ x_X7_trust se_8 a = (0 : Int32)) : x_X7_trust se_8 a = (1 : Int32) := by
  unfold x_X7_trust at h ⊢
  (repeat' split at h) <;> (repeat' split) <;> simp_all
theorem xb_X7_trust {se_8 : Int32} {a : Int32} : x_X7_trust se_8 a = (0 : Int32) ∨ x_X7_trust se_8 a = (1 : Int32) := by
  unfold x_X7_trust
  (repeat' split) <;> simp
def r_X7_stateOf (se_4 : Nat → Int32) (se_5 : Nat → Int32) (se_8 : Int32) (a : Int32) : Int32 := (if (x_X7_checkNumber a se_8) = (0 : Int32) then (r_X4_sign se_4 se_5 a) else (0 : Int32))
def x_X7_stateOf (se_8 : Int32) (a : Int32) : Int32 := (if (x_X7_checkNumber a se_8) = (0 : Int32) then (0 : Int32) else (1 : Int32))
abbrev po_X7_stateOf (G : zG) (h0 : Nat) (ad0 : Nat → Nat) (sw : zSw) (ad : Nat → Nat) (wo : zWor) (ads : Nat → Nat) (se : zSens) (a : Int32) (ns : Nat) : Option Value → va_W → Prop := fun r u => (x_X7_stateOf se.2.2.2.2.2.2.2.2.1 a) = (0 : Int32) ∧ r = some (.int (r_X7_stateOf se.2.2.2.2.1 se.2.2.2.2.2.1 se.2.2.2.2.2.2.2.2.1 a)) ∧ u = swW G h0 ad0 sw ++ (worW G (ad0 0) ad wo ++ (sensW G (ad 2) ads se))
abbrev px_X7_stateOf (G : zG) (h0 : Nat) (ad0 : Nat → Nat) (sw : zSw) (ad : Nat → Nat) (wo : zWor) (ads : Nat → Nat) (se : zSens) (a : Int32) (ns : Nat) : String → va_W → Prop := fun E u => ¬ (x_X7_stateOf se.2.2.2.2.2.2.2.2.1 a) = (0 : Int32) ∧ E = zExn (x_X7_stateOf se.2.2.2.2.2.2.2.2.1 a) ∧ u = swW G h0 ad0 sw ++ (worW G (ad0 0) ad wo ++ (sensW G (ad 2) ads se))
set_option maxHeartbeats 4000000 in
set_option maxRecDepth 100000 in
theorem c_X7_stateOf (l : Launch) (G : zG) (h0 : Nat) (ad0 : Nat → Nat) (sw : zSw) (ad : Nat → Nat) (wo : zWor) (ads : Nat → Nat) (se : zSens) (a : Int32) (ns : Nat) (hst : l.stackTraces = false) (hcs : se.2.2.2.2.2.2.2.2.1 = nI ns) (hns : ns ≤ 10) : zX l yX7_stateOf cX7_stateOf 2 (some .char) 7 1 6 G [.ref h0, .int a] (swW G h0 ad0 sw ++ (worW G (ad0 0) ad wo ++ (sensW G (ad 2) ads se))) (po_X7_stateOf G h0 ad0 sw ad wo ads se a ns) (px_X7_stateOf G h0 ad0 sw ad wo ads se a ns) := by
  refine zX.of RX7 rfl (by decide) (Nat.le_of_ble_eq_true rfl) ?_
  intro p e s m args below meth c A ls B hr hlk hnm hex hW hl
  have hx := B.x
  have hb := B.b
  have hl : lv_has ls 2 [(0, .ref h0), (1, .int a)] := hl
  refine lv_iload_n hx hb dX7_stateOf_0 rfl (lv_at hl 1 rfl) ?_
  refine lv_aload_n hx hb dX7_stateOf_1 rfl (lv_at hl 0 rfl) ?_
  refine zget B hW 0 rfl lf_X7_10 rfl dX7_stateOf_2 ?_
  refine zget B hW 2 rfl lf_X7_74 rfl dX7_stateOf_5 ?_
  refine zget B hW 3 rfl lf_X7_78 rfl dX7_stateOf_8 ?_
  refine zxS (w1 := []) (wc := []) (w2 := swW G h0 ad0 sw ++ (worW G (ad0 0) ad wo ++ (sensW G (ad 2) ads se))) (As := [.int a, .int se.2.2.2.2.2.2.2.2.1]) B (hW.eq rfl) (c_X7_checkNumber l G a se.2.2.2.2.2.2.2.2.1 (hst)) yd_X7_checkNumber ml_X7_87 rfl hl.1 rfl (Nat.le_of_ble_eq_true rfl) ⟨Nat.le_of_ble_eq_true rfl, Nat.le_of_ble_eq_true rfl⟩ ⟨(Nat.le_of_ble_eq_true rfl), (Nat.le_of_ble_eq_true rfl)⟩ dX7_stateOf_11 (fun v u H locs hp hW => ?_) (fun E_ q_ ce_ u H locs hp hW hce hcv hcl => ?_)
  · obtain ⟨x_11, rfl, rfl⟩ := hp
    have hW := hW.eq (w' := swW G h0 ad0 sw ++ (worW G (ad0 0) ad wo ++ (sensW G (ad 2) ads se))) rfl
    refine lv_aload_n hx hb dX7_stateOf_14 rfl (lv_at hl 0 rfl) ?_
    refine zget B hW 0 rfl lf_X7_10 rfl dX7_stateOf_15 ?_
    refine zget B hW 2 rfl lf_X7_74 rfl dX7_stateOf_18 ?_
    refine lv_iload_n hx hb dX7_stateOf_21 rfl (lv_at hl 1 rfl) ?_
    refine zcV (w1 := swW G h0 ad0 sw ++ (worW G (ad0 0) ad wo)) (wc := sensW G (ad 2) ads se) (w2 := []) (As := [.int a]) B (hW.eq rfl) (c_X4_sign l G (ad 2) ads se a (znum hcs hns (by decide) x_11)) yd_X4_sign ml_X7_93 0 rfl rfl rfl rfl hl.1 rfl (Nat.le_of_ble_eq_true rfl) ⟨Nat.le_of_ble_eq_true rfl, Nat.le_of_ble_eq_true rfl⟩ ⟨(Nat.le_of_ble_eq_true rfl), (Nat.le_of_ble_eq_true rfl)⟩ dX7_stateOf_22 (fun v u H locs hp hW => ?_)
    obtain ⟨rfl, rfl⟩ := hp
    have hW := hW.eq (w' := swW G h0 ad0 sw ++ (worW G (ad0 0) ad wo ++ (sensW G (ad 2) ads se))) rfl
    have e_0 : (if (x_X7_checkNumber a se.2.2.2.2.2.2.2.2.1) = (0 : Int32) then (r_X4_sign se.2.2.2.2.1 se.2.2.2.2.2.1 a) else (0 : Int32)) = (r_X4_sign se.2.2.2.2.1 se.2.2.2.2.2.1 a) := if_pos x_11
    exact vx_ret (zzret B hr hlk (by unfold r_X4_sign; (repeat' split) <;> rfl) hW ⟨(if_pos x_11), by show _ = some (Value.int (if (x_X7_checkNumber a se.2.2.2.2.2.2.2.2.1) = (0 : Int32) then (r_X4_sign se.2.2.2.2.1 se.2.2.2.2.2.1 a) else (0 : Int32))) <;> (try rw [e_0]) <;> rfl, by show _ = swW G h0 ad0 sw ++ (worW G (ad0 0) ad wo ++ (sensW G (ad 2) ads se)) <;> (try rw [e_0]) <;> rfl⟩ (Nat.le_refl _) (Nat.le_refl _) dX7_stateOf_25)
  · obtain ⟨x_11, hE, rfl⟩ := hp
    have e_x : (if (x_X7_checkNumber a se.2.2.2.2.2.2.2.2.1) = (0 : Int32) then (0 : Int32) else (1 : Int32)) = (1 : Int32) := if_neg x_11
    exact zxout B hex hlk hce hcv hcl hW ⟨by show ¬ (if (x_X7_checkNumber a se.2.2.2.2.2.2.2.2.1) = (0 : Int32) then (0 : Int32) else (1 : Int32)) = (0 : Int32); rw [e_x]; decide, by show _ = zExn (if (x_X7_checkNumber a se.2.2.2.2.2.2.2.2.1) = (0 : Int32) then (0 : Int32) else (1 : Int32)); rw [e_x, hE, x1_X7_checkNumber x_11], rfl⟩ (Nat.le_of_ble_eq_true rfl) (Nat.le_of_ble_eq_true rfl)
theorem x1_X7_stateOf {se_8 : Int32} {a : Int32} (h : ¬ x_X7_stateOf se_8 a = (0 : Int32)) : x_X7_stateOf se_8 a = (1 : Int32) := by
  unfold x_X7_stateOf at h ⊢
  (repeat' split at h) <;> (repeat' split) <;> simp_all
theorem xb_X7_stateOf {se_8 : Int32} {a : Int32} : x_X7_stateOf se_8 a = (0 : Int32) ∨ x_X7_stateOf se_8 a = (1 : Int32) := by
  unfold x_X7_stateOf
  (repeat' split) <;> simp
def r_X7_judged (se_1 : Nat → Int32) (se_2 : Nat → Int32) (se_3 : Nat → Int32) (se_4 : Nat → Int32) (se_8 : Int32) (a : Int32) (ns : Nat) : Int32 := (if (x_X7_checkNumber a se_8) = (0 : Int32) then (if (r_X4_meanAround se_1 se_2 se_3 se_4 a ns) = (-1 : Int32) then (0 : Int32) else (r_X4_meanAround se_1 se_2 se_3 se_4 a ns)) else (0 : Int32))
def x_X7_judged (se_1 : Nat → Int32) (se_2 : Nat → Int32) (se_3 : Nat → Int32) (se_4 : Nat → Int32) (se_8 : Int32) (a : Int32) (ns : Nat) : Int32 := (if (x_X7_checkNumber a se_8) = (0 : Int32) then (if (r_X4_meanAround se_1 se_2 se_3 se_4 a ns) = (-1 : Int32) then (4 : Int32) else (0 : Int32)) else (1 : Int32))
abbrev po_X7_judged (G : zG) (h0 : Nat) (ad0 : Nat → Nat) (sw : zSw) (ad : Nat → Nat) (wo : zWor) (ads : Nat → Nat) (se : zSens) (a : Int32) (ns : Nat) : Option Value → va_W → Prop := fun r u => (x_X7_judged se.2.1 se.2.2.1 se.2.2.2.1 se.2.2.2.2.1 se.2.2.2.2.2.2.2.2.1 a ns) = (0 : Int32) ∧ r = some (.int (r_X7_judged se.2.1 se.2.2.1 se.2.2.2.1 se.2.2.2.2.1 se.2.2.2.2.2.2.2.2.1 a ns)) ∧ u = swW G h0 ad0 sw ++ (worW G (ad0 0) ad wo ++ (sensW G (ad 2) ads se))
abbrev px_X7_judged (G : zG) (h0 : Nat) (ad0 : Nat → Nat) (sw : zSw) (ad : Nat → Nat) (wo : zWor) (ads : Nat → Nat) (se : zSens) (a : Int32) (ns : Nat) : String → va_W → Prop := fun E u => ¬ (x_X7_judged se.2.1 se.2.2.1 se.2.2.2.1 se.2.2.2.2.1 se.2.2.2.2.2.2.2.2.1 a ns) = (0 : Int32) ∧ E = zExn (x_X7_judged se.2.1 se.2.2.1 se.2.2.2.1 se.2.2.2.2.1 se.2.2.2.2.2.2.2.2.1 a ns) ∧ u = swW G h0 ad0 sw ++ (worW G (ad0 0) ad wo ++ (sensW G (ad 2) ads se))
set_option maxHeartbeats 4000000 in
set_option maxRecDepth 100000 in
theorem c_X7_judged (l : Launch) (G : zG) (h0 : Nat) (ad0 : Nat → Nat) (sw : zSw) (ad : Nat → Nat) (wo : zWor) (ads : Nat → Nat) (se : zSens) (a : Int32) (ns : Nat) (hst : l.stackTraces = false) (hcs : se.2.2.2.2.2.2.2.2.1 = nI ns) (hns : ns ≤ 10) : zX l yX7_judged cX7_judged 3 (some .int) 7 2 12 G [.ref h0, .int a] (swW G h0 ad0 sw ++ (worW G (ad0 0) ad wo ++ (sensW G (ad 2) ads se))) (po_X7_judged G h0 ad0 sw ad wo ads se a ns) (px_X7_judged G h0 ad0 sw ad wo ads se a ns) := by
  refine zX.of RX7 rfl (by decide) (Nat.le_of_ble_eq_true rfl) ?_
  intro p e s m args below meth c A ls B hr hlk hnm hex hW hl
  have hx := B.x
  have hb := B.b
  have hl : lv_has ls 3 [(0, .ref h0), (1, .int a)] := hl
  refine lv_iload_n hx hb dX7_judged_0 rfl (lv_at hl 1 rfl) ?_
  refine lv_aload_n hx hb dX7_judged_1 rfl (lv_at hl 0 rfl) ?_
  refine zget B hW 0 rfl lf_X7_10 rfl dX7_judged_2 ?_
  refine zget B hW 2 rfl lf_X7_74 rfl dX7_judged_5 ?_
  refine zget B hW 3 rfl lf_X7_78 rfl dX7_judged_8 ?_
  refine zxS (w1 := []) (wc := []) (w2 := swW G h0 ad0 sw ++ (worW G (ad0 0) ad wo ++ (sensW G (ad 2) ads se))) (As := [.int a, .int se.2.2.2.2.2.2.2.2.1]) B (hW.eq rfl) (c_X7_checkNumber l G a se.2.2.2.2.2.2.2.2.1 (hst)) yd_X7_checkNumber ml_X7_87 rfl hl.1 rfl (Nat.le_of_ble_eq_true rfl) ⟨Nat.le_of_ble_eq_true rfl, Nat.le_of_ble_eq_true rfl⟩ ⟨(Nat.le_of_ble_eq_true rfl), (Nat.le_of_ble_eq_true rfl)⟩ dX7_judged_11 (fun v u H locs hp hW => ?_) (fun E_ q_ ce_ u H locs hp hW hce hcv hcl => ?_)
  · obtain ⟨x_11, rfl, rfl⟩ := hp
    have hW := hW.eq (w' := swW G h0 ad0 sw ++ (worW G (ad0 0) ad wo ++ (sensW G (ad 2) ads se))) rfl
    refine lv_aload_n hx hb dX7_judged_14 rfl (lv_at hl 0 rfl) ?_
    refine zget B hW 0 rfl lf_X7_10 rfl dX7_judged_15 ?_
    refine zget B hW 2 rfl lf_X7_74 rfl dX7_judged_18 ?_
    refine lv_iload_n hx hb dX7_judged_21 rfl (lv_at hl 1 rfl) ?_
    refine zcV (w1 := swW G h0 ad0 sw ++ (worW G (ad0 0) ad wo)) (wc := sensW G (ad 2) ads se) (w2 := []) (As := [.int a]) B (hW.eq rfl) (c_X4_meanAround l G (ad 2) ads se a ns (hcs) (hns) (znum hcs hns (by decide) x_11)) yd_X4_meanAround ml_X7_97 0 rfl rfl rfl rfl hl.1 rfl (Nat.le_of_ble_eq_true rfl) ⟨Nat.le_of_ble_eq_true rfl, Nat.le_of_ble_eq_true rfl⟩ ⟨(Nat.le_of_ble_eq_true rfl), (Nat.le_of_ble_eq_true rfl)⟩ dX7_judged_22 (fun v u H locs hp hW => ?_)
    obtain ⟨rfl, rfl⟩ := hp
    have hW := hW.eq (w' := swW G h0 ad0 sw ++ (worW G (ad0 0) ad wo ++ (sensW G (ad 2) ads se))) rfl
    refine lv_istore_n hx hb dX7_judged_25 rfl hl (by decide) rfl (fun ls hl => ?_)
    refine lv_iload_n hx hb dX7_judged_26 rfl (lv_at hl 0 rfl) ?_
    refine lv_iconst (v := (-1 : Int32)) hx hb dX7_judged_27 (by decide) ?_
    refine lv_icmp_ne (tgt := 41) hx hb dX7_judged_28 (by decide) (fun c_28 => ?_) (fun c_28 => ?_)
    · refine lv_iload_n hx hb dX7_judged_41 rfl (lv_at hl 0 rfl) ?_
      have e_0 : (if (x_X7_checkNumber a se.2.2.2.2.2.2.2.2.1) = (0 : Int32) then (if (r_X4_meanAround se.2.1 se.2.2.1 se.2.2.2.1 se.2.2.2.2.1 a ns) = (-1 : Int32) then (0 : Int32) else (r_X4_meanAround se.2.1 se.2.2.1 se.2.2.2.1 se.2.2.2.2.1 a ns)) else (0 : Int32)) = (r_X4_meanAround se.2.1 se.2.2.1 se.2.2.2.1 se.2.2.2.2.1 a ns) := (if_pos x_11).trans (if_neg c_28)
      exact vx_ret (ziret B hr hlk hW ⟨((if_pos x_11).trans (if_neg c_28)), by show _ = some (Value.int (if (x_X7_checkNumber a se.2.2.2.2.2.2.2.2.1) = (0 : Int32) then (if (r_X4_meanAround se.2.1 se.2.2.1 se.2.2.2.1 se.2.2.2.2.1 a ns) = (-1 : Int32) then (0 : Int32) else (r_X4_meanAround se.2.1 se.2.2.1 se.2.2.2.1 se.2.2.2.2.1 a ns)) else (0 : Int32))) <;> (try rw [e_0]) <;> rfl, by show _ = swW G h0 ad0 sw ++ (worW G (ad0 0) ad wo ++ (sensW G (ad 2) ads se)) <;> (try rw [e_0]) <;> rfl⟩ (Nat.le_of_ble_eq_true rfl) (Nat.le_of_ble_eq_true rfl) dX7_judged_42)
    · have e_x : (if (x_X7_checkNumber a se.2.2.2.2.2.2.2.2.1) = (0 : Int32) then (if (r_X4_meanAround se.2.1 se.2.2.1 se.2.2.2.1 se.2.2.2.2.1 a ns) = (-1 : Int32) then (4 : Int32) else (0 : Int32)) else (1 : Int32)) = (4 : Int32) := (if_pos x_11).trans (if_pos c_28)
      exact zthrow B hst hex hlk thr_X7_101 hW ⟨by show ¬ (if (x_X7_checkNumber a se.2.2.2.2.2.2.2.2.1) = (0 : Int32) then (if (r_X4_meanAround se.2.1 se.2.2.1 se.2.2.2.1 se.2.2.2.2.1 a ns) = (-1 : Int32) then (4 : Int32) else (0 : Int32)) else (1 : Int32)) = (0 : Int32); rw [e_x]; decide, by show _ = zExn (if (x_X7_checkNumber a se.2.2.2.2.2.2.2.2.1) = (0 : Int32) then (if (r_X4_meanAround se.2.1 se.2.2.1 se.2.2.2.1 se.2.2.2.2.1 a ns) = (-1 : Int32) then (4 : Int32) else (0 : Int32)) else (1 : Int32)); rw [e_x]; rfl, rfl⟩ hl.1 dX7_judged_31 dX7_judged_34 dX7_judged_35 dX7_judged_37 dX7_judged_40 (Nat.le_of_ble_eq_true rfl) (Nat.le_of_ble_eq_true rfl) (Nat.le_of_ble_eq_true rfl) (Nat.le_of_ble_eq_true rfl) (Nat.le_of_ble_eq_true rfl) (Nat.le_of_ble_eq_true rfl)
  · obtain ⟨x_11, hE, rfl⟩ := hp
    have e_x : (if (x_X7_checkNumber a se.2.2.2.2.2.2.2.2.1) = (0 : Int32) then (if (r_X4_meanAround se.2.1 se.2.2.1 se.2.2.2.1 se.2.2.2.2.1 a ns) = (-1 : Int32) then (4 : Int32) else (0 : Int32)) else (1 : Int32)) = (1 : Int32) := if_neg x_11
    exact zxout B hex hlk hce hcv hcl hW ⟨by show ¬ (if (x_X7_checkNumber a se.2.2.2.2.2.2.2.2.1) = (0 : Int32) then (if (r_X4_meanAround se.2.1 se.2.2.1 se.2.2.2.1 se.2.2.2.2.1 a ns) = (-1 : Int32) then (4 : Int32) else (0 : Int32)) else (1 : Int32)) = (0 : Int32); rw [e_x]; decide, by show _ = zExn (if (x_X7_checkNumber a se.2.2.2.2.2.2.2.2.1) = (0 : Int32) then (if (r_X4_meanAround se.2.1 se.2.2.1 se.2.2.2.1 se.2.2.2.2.1 a ns) = (-1 : Int32) then (4 : Int32) else (0 : Int32)) else (1 : Int32)); rw [e_x, hE, x1_X7_checkNumber x_11], rfl⟩ (Nat.le_of_ble_eq_true rfl) (Nat.le_of_ble_eq_true rfl)
theorem xb_X7_judged {se_1 : Nat → Int32} {se_2 : Nat → Int32} {se_3 : Nat → Int32} {se_4 : Nat → Int32} {se_8 : Int32} {a : Int32} {ns : Nat} : x_X7_judged se_1 se_2 se_3 se_4 se_8 a ns = (0 : Int32) ∨ x_X7_judged se_1 se_2 se_3 se_4 se_8 a ns = (1 : Int32) ∨ x_X7_judged se_1 se_2 se_3 se_4 se_8 a ns = (4 : Int32) := by
  unfold x_X7_judged
  (repeat' split) <;> simp
def r_X7_isOpen (sc_0 : Nat → Int32) (sc_3 : Int32) (a : Int32) : Int32 := (if (x_X7_checkNumber a sc_3) = (0 : Int32) then (sc_0 a.toNatClampNeg) else (0 : Int32))
def x_X7_isOpen (sc_3 : Int32) (a : Int32) : Int32 := (if (x_X7_checkNumber a sc_3) = (0 : Int32) then (0 : Int32) else (1 : Int32))
abbrev po_X7_isOpen (G : zG) (h0 : Nat) (ad0 : Nat → Nat) (sw : zSw) (ad : Nat → Nat) (wo : zWor) (adc : Nat → Nat) (sc : zScho) (a : Int32) (nc : Nat) : Option Value → va_W → Prop := fun r u => (x_X7_isOpen sc.2.2.2.1 a) = (0 : Int32) ∧ r = some (.int (r_X7_isOpen sc.1 sc.2.2.2.1 a)) ∧ u = swW G h0 ad0 sw ++ (worW G (ad0 0) ad wo ++ (schW G (ad 4) adc sc))
abbrev px_X7_isOpen (G : zG) (h0 : Nat) (ad0 : Nat → Nat) (sw : zSw) (ad : Nat → Nat) (wo : zWor) (adc : Nat → Nat) (sc : zScho) (a : Int32) (nc : Nat) : String → va_W → Prop := fun E u => ¬ (x_X7_isOpen sc.2.2.2.1 a) = (0 : Int32) ∧ E = zExn (x_X7_isOpen sc.2.2.2.1 a) ∧ u = swW G h0 ad0 sw ++ (worW G (ad0 0) ad wo ++ (schW G (ad 4) adc sc))
set_option maxHeartbeats 4000000 in
set_option maxRecDepth 100000 in
theorem c_X7_isOpen (l : Launch) (G : zG) (h0 : Nat) (ad0 : Nat → Nat) (sw : zSw) (ad : Nat → Nat) (wo : zWor) (adc : Nat → Nat) (sc : zScho) (a : Int32) (nc : Nat) (hst : l.stackTraces = false) (hcc : sc.2.2.2.1 = nI nc) (hnc : nc ≤ 6) (hbo : zBo sc.1) : zX l yX7_isOpen cX7_isOpen 2 (some .boolean) 7 1 6 G [.ref h0, .int a] (swW G h0 ad0 sw ++ (worW G (ad0 0) ad wo ++ (schW G (ad 4) adc sc))) (po_X7_isOpen G h0 ad0 sw ad wo adc sc a nc) (px_X7_isOpen G h0 ad0 sw ad wo adc sc a nc) := by
  refine zX.of RX7 rfl (by decide) (Nat.le_of_ble_eq_true rfl) ?_
  intro p e s m args below meth c A ls B hr hlk hnm hex hW hl
  have hx := B.x
  have hb := B.b
  have hl : lv_has ls 2 [(0, .ref h0), (1, .int a)] := hl
  refine lv_iload_n hx hb dX7_isOpen_0 rfl (lv_at hl 1 rfl) ?_
  refine lv_aload_n hx hb dX7_isOpen_1 rfl (lv_at hl 0 rfl) ?_
  refine zget B hW 0 rfl lf_X7_10 rfl dX7_isOpen_2 ?_
  refine zget B hW 2 rfl lf_X7_110 rfl dX7_isOpen_5 ?_
  refine zget B hW 3 rfl lf_X7_114 rfl dX7_isOpen_8 ?_
  refine zxS (w1 := []) (wc := []) (w2 := swW G h0 ad0 sw ++ (worW G (ad0 0) ad wo ++ (schW G (ad 4) adc sc))) (As := [.int a, .int sc.2.2.2.1]) B (hW.eq rfl) (c_X7_checkNumber l G a sc.2.2.2.1 (hst)) yd_X7_checkNumber ml_X7_87 rfl hl.1 rfl (Nat.le_of_ble_eq_true rfl) ⟨Nat.le_of_ble_eq_true rfl, Nat.le_of_ble_eq_true rfl⟩ ⟨(Nat.le_of_ble_eq_true rfl), (Nat.le_of_ble_eq_true rfl)⟩ dX7_isOpen_11 (fun v u H locs hp hW => ?_) (fun E_ q_ ce_ u H locs hp hW hce hcv hcl => ?_)
  · obtain ⟨x_11, rfl, rfl⟩ := hp
    have hW := hW.eq (w' := swW G h0 ad0 sw ++ (worW G (ad0 0) ad wo ++ (schW G (ad 4) adc sc))) rfl
    refine lv_aload_n hx hb dX7_isOpen_14 rfl (lv_at hl 0 rfl) ?_
    refine zget B hW 0 rfl lf_X7_10 rfl dX7_isOpen_15 ?_
    refine zget B hW 2 rfl lf_X7_110 rfl dX7_isOpen_18 ?_
    refine zget B hW 3 rfl lf_X7_117 rfl dX7_isOpen_21 ?_
    refine lv_iload_n hx hb dX7_isOpen_24 rfl (lv_at hl 1 rfl) ?_
    refine zzald B hW 4 rfl (znum hcc hnc (by decide) x_11) dX7_isOpen_25 ?_
    have e_0 : (if (x_X7_checkNumber a sc.2.2.2.1) = (0 : Int32) then (sc.1 a.toNatClampNeg) else (0 : Int32)) = (sc.1 a.toNatClampNeg) := if_pos x_11
    exact vx_ret (zzret B hr hlk (by show Value.int (vp_nar .boolean _) = _; rw [hbo]) hW ⟨(if_pos x_11), by show _ = some (Value.int (if (x_X7_checkNumber a sc.2.2.2.1) = (0 : Int32) then (sc.1 a.toNatClampNeg) else (0 : Int32))) <;> (try rw [e_0]) <;> rfl, by show _ = swW G h0 ad0 sw ++ (worW G (ad0 0) ad wo ++ (schW G (ad 4) adc sc)) <;> (try rw [e_0]) <;> rfl⟩ (Nat.le_refl _) (Nat.le_refl _) dX7_isOpen_26)
  · obtain ⟨x_11, hE, rfl⟩ := hp
    have e_x : (if (x_X7_checkNumber a sc.2.2.2.1) = (0 : Int32) then (0 : Int32) else (1 : Int32)) = (1 : Int32) := if_neg x_11
    exact zxout B hex hlk hce hcv hcl hW ⟨by show ¬ (if (x_X7_checkNumber a sc.2.2.2.1) = (0 : Int32) then (0 : Int32) else (1 : Int32)) = (0 : Int32); rw [e_x]; decide, by show _ = zExn (if (x_X7_checkNumber a sc.2.2.2.1) = (0 : Int32) then (0 : Int32) else (1 : Int32)); rw [e_x, hE, x1_X7_checkNumber x_11], rfl⟩ (Nat.le_of_ble_eq_true rfl) (Nat.le_of_ble_eq_true rfl)
theorem x1_X7_isOpen {sc_3 : Int32} {a : Int32} (h : ¬ x_X7_isOpen sc_3 a = (0 : Int32)) : x_X7_isOpen sc_3 a = (1 : Int32) := by
  unfold x_X7_isOpen at h ⊢
  (repeat' split at h) <;> (repeat' split) <;> simp_all
theorem xb_X7_isOpen {sc_3 : Int32} {a : Int32} : x_X7_isOpen sc_3 a = (0 : Int32) ∨ x_X7_isOpen sc_3 a = (1 : Int32) := by
  unfold x_X7_isOpen
  (repeat' split) <;> simp
def r_X7_isWarned (su_0 : Nat → Int32) (su_5 : Int32) (a : Int32) : Int32 := (if (x_X7_checkNumber a su_5) = (0 : Int32) then (su_0 a.toNatClampNeg) else (0 : Int32))
def x_X7_isWarned (su_5 : Int32) (a : Int32) : Int32 := (if (x_X7_checkNumber a su_5) = (0 : Int32) then (0 : Int32) else (1 : Int32))
abbrev po_X7_isWarned (G : zG) (h0 : Nat) (ad0 : Nat → Nat) (sw : zSw) (ad : Nat → Nat) (wo : zWor) (adu : Nat → Nat) (su : zSubs) (a : Int32) (nu : Nat) : Option Value → va_W → Prop := fun r u => (x_X7_isWarned su.2.2.2.2.2.1 a) = (0 : Int32) ∧ r = some (.int (r_X7_isWarned su.1 su.2.2.2.2.2.1 a)) ∧ u = swW G h0 ad0 sw ++ (worW G (ad0 0) ad wo ++ (subW G (ad 3) adu su))
abbrev px_X7_isWarned (G : zG) (h0 : Nat) (ad0 : Nat → Nat) (sw : zSw) (ad : Nat → Nat) (wo : zWor) (adu : Nat → Nat) (su : zSubs) (a : Int32) (nu : Nat) : String → va_W → Prop := fun E u => ¬ (x_X7_isWarned su.2.2.2.2.2.1 a) = (0 : Int32) ∧ E = zExn (x_X7_isWarned su.2.2.2.2.2.1 a) ∧ u = swW G h0 ad0 sw ++ (worW G (ad0 0) ad wo ++ (subW G (ad 3) adu su))
set_option maxHeartbeats 4000000 in
set_option maxRecDepth 100000 in
theorem c_X7_isWarned (l : Launch) (G : zG) (h0 : Nat) (ad0 : Nat → Nat) (sw : zSw) (ad : Nat → Nat) (wo : zWor) (adu : Nat → Nat) (su : zSubs) (a : Int32) (nu : Nat) (hst : l.stackTraces = false) (hcu : su.2.2.2.2.2.1 = nI nu) (hnu : nu ≤ 12) (hbo : zBo su.1) : zX l yX7_isWarned cX7_isWarned 2 (some .boolean) 7 1 6 G [.ref h0, .int a] (swW G h0 ad0 sw ++ (worW G (ad0 0) ad wo ++ (subW G (ad 3) adu su))) (po_X7_isWarned G h0 ad0 sw ad wo adu su a nu) (px_X7_isWarned G h0 ad0 sw ad wo adu su a nu) := by
  refine zX.of RX7 rfl (by decide) (Nat.le_of_ble_eq_true rfl) ?_
  intro p e s m args below meth c A ls B hr hlk hnm hex hW hl
  have hx := B.x
  have hb := B.b
  have hl : lv_has ls 2 [(0, .ref h0), (1, .int a)] := hl
  refine lv_iload_n hx hb dX7_isWarned_0 rfl (lv_at hl 1 rfl) ?_
  refine lv_aload_n hx hb dX7_isWarned_1 rfl (lv_at hl 0 rfl) ?_
  refine zget B hW 0 rfl lf_X7_10 rfl dX7_isWarned_2 ?_
  refine zget B hW 2 rfl lf_X7_103 rfl dX7_isWarned_5 ?_
  refine zget B hW 3 rfl lf_X7_107 rfl dX7_isWarned_8 ?_
  refine zxS (w1 := []) (wc := []) (w2 := swW G h0 ad0 sw ++ (worW G (ad0 0) ad wo ++ (subW G (ad 3) adu su))) (As := [.int a, .int su.2.2.2.2.2.1]) B (hW.eq rfl) (c_X7_checkNumber l G a su.2.2.2.2.2.1 (hst)) yd_X7_checkNumber ml_X7_87 rfl hl.1 rfl (Nat.le_of_ble_eq_true rfl) ⟨Nat.le_of_ble_eq_true rfl, Nat.le_of_ble_eq_true rfl⟩ ⟨(Nat.le_of_ble_eq_true rfl), (Nat.le_of_ble_eq_true rfl)⟩ dX7_isWarned_11 (fun v u H locs hp hW => ?_) (fun E_ q_ ce_ u H locs hp hW hce hcv hcl => ?_)
  · obtain ⟨x_11, rfl, rfl⟩ := hp
    have hW := hW.eq (w' := swW G h0 ad0 sw ++ (worW G (ad0 0) ad wo ++ (subW G (ad 3) adu su))) rfl
    refine lv_aload_n hx hb dX7_isWarned_14 rfl (lv_at hl 0 rfl) ?_
    refine zget B hW 0 rfl lf_X7_10 rfl dX7_isWarned_15 ?_
    refine zget B hW 2 rfl lf_X7_103 rfl dX7_isWarned_18 ?_
    refine zget B hW 3 rfl lf_X7_120 rfl dX7_isWarned_21 ?_
    refine lv_iload_n hx hb dX7_isWarned_24 rfl (lv_at hl 1 rfl) ?_
    refine zzald B hW 4 rfl (znum hcu hnu (by decide) x_11) dX7_isWarned_25 ?_
    have e_0 : (if (x_X7_checkNumber a su.2.2.2.2.2.1) = (0 : Int32) then (su.1 a.toNatClampNeg) else (0 : Int32)) = (su.1 a.toNatClampNeg) := if_pos x_11
    exact vx_ret (zzret B hr hlk (by show Value.int (vp_nar .boolean _) = _; rw [hbo]) hW ⟨(if_pos x_11), by show _ = some (Value.int (if (x_X7_checkNumber a su.2.2.2.2.2.1) = (0 : Int32) then (su.1 a.toNatClampNeg) else (0 : Int32))) <;> (try rw [e_0]) <;> rfl, by show _ = swW G h0 ad0 sw ++ (worW G (ad0 0) ad wo ++ (subW G (ad 3) adu su)) <;> (try rw [e_0]) <;> rfl⟩ (Nat.le_refl _) (Nat.le_refl _) dX7_isWarned_26)
  · obtain ⟨x_11, hE, rfl⟩ := hp
    have e_x : (if (x_X7_checkNumber a su.2.2.2.2.2.1) = (0 : Int32) then (0 : Int32) else (1 : Int32)) = (1 : Int32) := if_neg x_11
    exact zxout B hex hlk hce hcv hcl hW ⟨by show ¬ (if (x_X7_checkNumber a su.2.2.2.2.2.1) = (0 : Int32) then (0 : Int32) else (1 : Int32)) = (0 : Int32); rw [e_x]; decide, by show _ = zExn (if (x_X7_checkNumber a su.2.2.2.2.2.1) = (0 : Int32) then (0 : Int32) else (1 : Int32)); rw [e_x, hE, x1_X7_checkNumber x_11], rfl⟩ (Nat.le_of_ble_eq_true rfl) (Nat.le_of_ble_eq_true rfl)
theorem x1_X7_isWarned {su_5 : Int32} {a : Int32} (h : ¬ x_X7_isWarned su_5 a = (0 : Int32)) : x_X7_isWarned su_5 a = (1 : Int32) := by
  unfold x_X7_isWarned at h ⊢
  (repeat' split at h) <;> (repeat' split) <;> simp_all
theorem xb_X7_isWarned {su_5 : Int32} {a : Int32} : x_X7_isWarned su_5 a = (0 : Int32) ∨ x_X7_isWarned su_5 a = (1 : Int32) := by
  unfold x_X7_isWarned
  (repeat' split) <;> simp
def r_X7_fuel (la_0 : Nat → Int32) (a : Int32) (b : Int32) : Int32 := (if (x_X7_placeOf a b) = (0 : Int32) then (la_0 (r_X7_placeOf a b).toNatClampNeg) else (0 : Int32))
def x_X7_fuel (a : Int32) (b : Int32) : Int32 := (if (x_X7_placeOf a b) = (0 : Int32) then (0 : Int32) else (1 : Int32))
abbrev po_X7_fuel (G : zG) (h0 : Nat) (ad0 : Nat → Nat) (sw : zSw) (ad : Nat → Nat) (wo : zWor) (adl : Nat → Nat) (la : zLand) (a : Int32) (b : Int32) : Option Value → va_W → Prop := fun r u => (x_X7_fuel a b) = (0 : Int32) ∧ r = some (.int (r_X7_fuel la.1 a b)) ∧ u = swW G h0 ad0 sw ++ (worW G (ad0 0) ad wo ++ (landW G (ad 0) adl la))
abbrev px_X7_fuel (G : zG) (h0 : Nat) (ad0 : Nat → Nat) (sw : zSw) (ad : Nat → Nat) (wo : zWor) (adl : Nat → Nat) (la : zLand) (a : Int32) (b : Int32) : String → va_W → Prop := fun E u => ¬ (x_X7_fuel a b) = (0 : Int32) ∧ E = zExn (x_X7_fuel a b) ∧ u = swW G h0 ad0 sw ++ (worW G (ad0 0) ad wo ++ (landW G (ad 0) adl la))
set_option maxHeartbeats 4000000 in
set_option maxRecDepth 100000 in
theorem c_X7_fuel (l : Launch) (G : zG) (h0 : Nat) (ad0 : Nat → Nat) (sw : zSw) (ad : Nat → Nat) (wo : zWor) (adl : Nat → Nat) (la : zLand) (a : Int32) (b : Int32) (hst : l.stackTraces = false) : zX l yX7_fuel cX7_fuel 3 (some .int) 7 1 6 G [.ref h0, .int a, .int b] (swW G h0 ad0 sw ++ (worW G (ad0 0) ad wo ++ (landW G (ad 0) adl la))) (po_X7_fuel G h0 ad0 sw ad wo adl la a b) (px_X7_fuel G h0 ad0 sw ad wo adl la a b) := by
  refine zX.of RX7 rfl (by decide) (Nat.le_of_ble_eq_true rfl) ?_
  intro p e s m args below meth c A ls B hr hlk hnm hex hW hl
  have hx := B.x
  have hb := B.b
  have hl : lv_has ls 3 [(0, .ref h0), (1, .int a), (2, .int b)] := hl
  refine lv_aload_n hx hb dX7_fuel_0 rfl (lv_at hl 0 rfl) ?_
  refine zget B hW 0 rfl lf_X7_10 rfl dX7_fuel_1 ?_
  refine zget B hW 2 rfl lf_X7_48 rfl dX7_fuel_4 ?_
  refine zget B hW 3 rfl lf_X7_52 rfl dX7_fuel_7 ?_
  refine lv_iload_n hx hb dX7_fuel_10 rfl (lv_at hl 1 rfl) ?_
  refine lv_iload_n hx hb dX7_fuel_11 rfl (lv_at hl 2 rfl) ?_
  refine zxS (w1 := []) (wc := []) (w2 := swW G h0 ad0 sw ++ (worW G (ad0 0) ad wo ++ (landW G (ad 0) adl la))) (As := [.int a, .int b]) B (hW.eq rfl) (c_X7_placeOf l G a b (hst)) yd_X7_placeOf ml_X7_32 rfl hl.1 rfl (Nat.le_of_ble_eq_true rfl) ⟨Nat.le_of_ble_eq_true rfl, Nat.le_of_ble_eq_true rfl⟩ ⟨(Nat.le_of_ble_eq_true rfl), (Nat.le_of_ble_eq_true rfl)⟩ dX7_fuel_12 (fun v u H locs hp hW => ?_) (fun E_ q_ ce_ u H locs hp hW hce hcv hcl => ?_)
  · obtain ⟨x_12, rfl, rfl⟩ := hp
    have hW := hW.eq (w' := swW G h0 ad0 sw ++ (worW G (ad0 0) ad wo ++ (landW G (ad 0) adl la))) rfl
    refine ziald B hW 4 rfl (zplace x_12) dX7_fuel_15 ?_
    have e_0 : (if (x_X7_placeOf a b) = (0 : Int32) then (la.1 (r_X7_placeOf a b).toNatClampNeg) else (0 : Int32)) = (la.1 (r_X7_placeOf a b).toNatClampNeg) := if_pos x_12
    exact vx_ret (ziret B hr hlk hW ⟨(if_pos x_12), by show _ = some (Value.int (if (x_X7_placeOf a b) = (0 : Int32) then (la.1 (r_X7_placeOf a b).toNatClampNeg) else (0 : Int32))) <;> (try rw [e_0]) <;> rfl, by show _ = swW G h0 ad0 sw ++ (worW G (ad0 0) ad wo ++ (landW G (ad 0) adl la)) <;> (try rw [e_0]) <;> rfl⟩ (Nat.le_refl _) (Nat.le_refl _) dX7_fuel_16)
  · obtain ⟨x_12, hE, rfl⟩ := hp
    have e_x : (if (x_X7_placeOf a b) = (0 : Int32) then (0 : Int32) else (1 : Int32)) = (1 : Int32) := if_neg x_12
    exact zxout B hex hlk hce hcv hcl hW ⟨by show ¬ (if (x_X7_placeOf a b) = (0 : Int32) then (0 : Int32) else (1 : Int32)) = (0 : Int32); rw [e_x]; decide, by show _ = zExn (if (x_X7_placeOf a b) = (0 : Int32) then (0 : Int32) else (1 : Int32)); rw [e_x, hE, x1_X7_placeOf x_12], rfl⟩ (Nat.le_of_ble_eq_true rfl) (Nat.le_of_ble_eq_true rfl)
theorem x1_X7_fuel {a : Int32} {b : Int32} (h : ¬ x_X7_fuel a b = (0 : Int32)) : x_X7_fuel a b = (1 : Int32) := by
  unfold x_X7_fuel at h ⊢
  (repeat' split at h) <;> (repeat' split) <;> simp_all
theorem xb_X7_fuel {a : Int32} {b : Int32} : x_X7_fuel a b = (0 : Int32) ∨ x_X7_fuel a b = (1 : Int32) := by
  unfold x_X7_fuel
  (repeat' split) <;> simp
def r_X7_fire (la_1 : Nat → Int32) (a : Int32) (b : Int32) : Int32 := (if (x_X7_placeOf a b) = (0 : Int32) then (la_1 (r_X7_placeOf a b).toNatClampNeg) else (0 : Int32))
def x_X7_fire (a : Int32) (b : Int32) : Int32 := (if (x_X7_placeOf a b) = (0 : Int32) then (0 : Int32) else (1 : Int32))
abbrev po_X7_fire (G : zG) (h0 : Nat) (ad0 : Nat → Nat) (sw : zSw) (ad : Nat → Nat) (wo : zWor) (adl : Nat → Nat) (la : zLand) (a : Int32) (b : Int32) : Option Value → va_W → Prop := fun r u => (x_X7_fire a b) = (0 : Int32) ∧ r = some (.int (r_X7_fire la.2.1 a b)) ∧ u = swW G h0 ad0 sw ++ (worW G (ad0 0) ad wo ++ (landW G (ad 0) adl la))
abbrev px_X7_fire (G : zG) (h0 : Nat) (ad0 : Nat → Nat) (sw : zSw) (ad : Nat → Nat) (wo : zWor) (adl : Nat → Nat) (la : zLand) (a : Int32) (b : Int32) : String → va_W → Prop := fun E u => ¬ (x_X7_fire a b) = (0 : Int32) ∧ E = zExn (x_X7_fire a b) ∧ u = swW G h0 ad0 sw ++ (worW G (ad0 0) ad wo ++ (landW G (ad 0) adl la))
set_option maxHeartbeats 4000000 in
set_option maxRecDepth 100000 in
theorem c_X7_fire (l : Launch) (G : zG) (h0 : Nat) (ad0 : Nat → Nat) (sw : zSw) (ad : Nat → Nat) (wo : zWor) (adl : Nat → Nat) (la : zLand) (a : Int32) (b : Int32) (hst : l.stackTraces = false) : zX l yX7_fire cX7_fire 3 (some .int) 7 1 6 G [.ref h0, .int a, .int b] (swW G h0 ad0 sw ++ (worW G (ad0 0) ad wo ++ (landW G (ad 0) adl la))) (po_X7_fire G h0 ad0 sw ad wo adl la a b) (px_X7_fire G h0 ad0 sw ad wo adl la a b) := by
  refine zX.of RX7 rfl (by decide) (Nat.le_of_ble_eq_true rfl) ?_
  intro p e s m args below meth c A ls B hr hlk hnm hex hW hl
  have hx := B.x
  have hb := B.b
  have hl : lv_has ls 3 [(0, .ref h0), (1, .int a), (2, .int b)] := hl
  refine lv_aload_n hx hb dX7_fire_0 rfl (lv_at hl 0 rfl) ?_
  refine zget B hW 0 rfl lf_X7_10 rfl dX7_fire_1 ?_
  refine zget B hW 2 rfl lf_X7_48 rfl dX7_fire_4 ?_
  refine zget B hW 3 rfl lf_X7_69 rfl dX7_fire_7 ?_
  refine lv_iload_n hx hb dX7_fire_10 rfl (lv_at hl 1 rfl) ?_
  refine lv_iload_n hx hb dX7_fire_11 rfl (lv_at hl 2 rfl) ?_
  refine zxS (w1 := []) (wc := []) (w2 := swW G h0 ad0 sw ++ (worW G (ad0 0) ad wo ++ (landW G (ad 0) adl la))) (As := [.int a, .int b]) B (hW.eq rfl) (c_X7_placeOf l G a b (hst)) yd_X7_placeOf ml_X7_32 rfl hl.1 rfl (Nat.le_of_ble_eq_true rfl) ⟨Nat.le_of_ble_eq_true rfl, Nat.le_of_ble_eq_true rfl⟩ ⟨(Nat.le_of_ble_eq_true rfl), (Nat.le_of_ble_eq_true rfl)⟩ dX7_fire_12 (fun v u H locs hp hW => ?_) (fun E_ q_ ce_ u H locs hp hW hce hcv hcl => ?_)
  · obtain ⟨x_12, rfl, rfl⟩ := hp
    have hW := hW.eq (w' := swW G h0 ad0 sw ++ (worW G (ad0 0) ad wo ++ (landW G (ad 0) adl la))) rfl
    refine ziald B hW 5 rfl (zplace x_12) dX7_fire_15 ?_
    have e_0 : (if (x_X7_placeOf a b) = (0 : Int32) then (la.2.1 (r_X7_placeOf a b).toNatClampNeg) else (0 : Int32)) = (la.2.1 (r_X7_placeOf a b).toNatClampNeg) := if_pos x_12
    exact vx_ret (ziret B hr hlk hW ⟨(if_pos x_12), by show _ = some (Value.int (if (x_X7_placeOf a b) = (0 : Int32) then (la.2.1 (r_X7_placeOf a b).toNatClampNeg) else (0 : Int32))) <;> (try rw [e_0]) <;> rfl, by show _ = swW G h0 ad0 sw ++ (worW G (ad0 0) ad wo ++ (landW G (ad 0) adl la)) <;> (try rw [e_0]) <;> rfl⟩ (Nat.le_refl _) (Nat.le_refl _) dX7_fire_16)
  · obtain ⟨x_12, hE, rfl⟩ := hp
    have e_x : (if (x_X7_placeOf a b) = (0 : Int32) then (0 : Int32) else (1 : Int32)) = (1 : Int32) := if_neg x_12
    exact zxout B hex hlk hce hcv hcl hW ⟨by show ¬ (if (x_X7_placeOf a b) = (0 : Int32) then (0 : Int32) else (1 : Int32)) = (0 : Int32); rw [e_x]; decide, by show _ = zExn (if (x_X7_placeOf a b) = (0 : Int32) then (0 : Int32) else (1 : Int32)); rw [e_x, hE, x1_X7_placeOf x_12], rfl⟩ (Nat.le_of_ble_eq_true rfl) (Nat.le_of_ble_eq_true rfl)
theorem x1_X7_fire {a : Int32} {b : Int32} (h : ¬ x_X7_fire a b = (0 : Int32)) : x_X7_fire a b = (1 : Int32) := by
  unfold x_X7_fire at h ⊢
  (repeat' split at h) <;> (repeat' split) <;> simp_all
theorem xb_X7_fire {a : Int32} {b : Int32} : x_X7_fire a b = (0 : Int32) ∨ x_X7_fire a b = (1 : Int32) := by
  unfold x_X7_fire
  (repeat' split) <;> simp
def r_X7_smoke (la_2 : Nat → Int32) (a : Int32) (b : Int32) : Int32 := (if (x_X7_placeOf a b) = (0 : Int32) then (la_2 (r_X7_placeOf a b).toNatClampNeg) else (0 : Int32))
def x_X7_smoke (a : Int32) (b : Int32) : Int32 := (if (x_X7_placeOf a b) = (0 : Int32) then (0 : Int32) else (1 : Int32))
abbrev po_X7_smoke (G : zG) (h0 : Nat) (ad0 : Nat → Nat) (sw : zSw) (ad : Nat → Nat) (wo : zWor) (adl : Nat → Nat) (la : zLand) (a : Int32) (b : Int32) : Option Value → va_W → Prop := fun r u => (x_X7_smoke a b) = (0 : Int32) ∧ r = some (.int (r_X7_smoke la.2.2.1 a b)) ∧ u = swW G h0 ad0 sw ++ (worW G (ad0 0) ad wo ++ (landW G (ad 0) adl la))
abbrev px_X7_smoke (G : zG) (h0 : Nat) (ad0 : Nat → Nat) (sw : zSw) (ad : Nat → Nat) (wo : zWor) (adl : Nat → Nat) (la : zLand) (a : Int32) (b : Int32) : String → va_W → Prop := fun E u => ¬ (x_X7_smoke a b) = (0 : Int32) ∧ E = zExn (x_X7_smoke a b) ∧ u = swW G h0 ad0 sw ++ (worW G (ad0 0) ad wo ++ (landW G (ad 0) adl la))
set_option maxHeartbeats 4000000 in
set_option maxRecDepth 100000 in
theorem c_X7_smoke (l : Launch) (G : zG) (h0 : Nat) (ad0 : Nat → Nat) (sw : zSw) (ad : Nat → Nat) (wo : zWor) (adl : Nat → Nat) (la : zLand) (a : Int32) (b : Int32) (hst : l.stackTraces = false) : zX l yX7_smoke cX7_smoke 3 (some .int) 7 1 6 G [.ref h0, .int a, .int b] (swW G h0 ad0 sw ++ (worW G (ad0 0) ad wo ++ (landW G (ad 0) adl la))) (po_X7_smoke G h0 ad0 sw ad wo adl la a b) (px_X7_smoke G h0 ad0 sw ad wo adl la a b) := by
  refine zX.of RX7 rfl (by decide) (Nat.le_of_ble_eq_true rfl) ?_
  intro p e s m args below meth c A ls B hr hlk hnm hex hW hl
  have hx := B.x
  have hb := B.b
  have hl : lv_has ls 3 [(0, .ref h0), (1, .int a), (2, .int b)] := hl
  refine lv_aload_n hx hb dX7_smoke_0 rfl (lv_at hl 0 rfl) ?_
  refine zget B hW 0 rfl lf_X7_10 rfl dX7_smoke_1 ?_
  refine zget B hW 2 rfl lf_X7_48 rfl dX7_smoke_4 ?_
  refine zget B hW 3 rfl lf_X7_131 rfl dX7_smoke_7 ?_
  refine lv_iload_n hx hb dX7_smoke_10 rfl (lv_at hl 1 rfl) ?_
  refine lv_iload_n hx hb dX7_smoke_11 rfl (lv_at hl 2 rfl) ?_
  refine zxS (w1 := []) (wc := []) (w2 := swW G h0 ad0 sw ++ (worW G (ad0 0) ad wo ++ (landW G (ad 0) adl la))) (As := [.int a, .int b]) B (hW.eq rfl) (c_X7_placeOf l G a b (hst)) yd_X7_placeOf ml_X7_32 rfl hl.1 rfl (Nat.le_of_ble_eq_true rfl) ⟨Nat.le_of_ble_eq_true rfl, Nat.le_of_ble_eq_true rfl⟩ ⟨(Nat.le_of_ble_eq_true rfl), (Nat.le_of_ble_eq_true rfl)⟩ dX7_smoke_12 (fun v u H locs hp hW => ?_) (fun E_ q_ ce_ u H locs hp hW hce hcv hcl => ?_)
  · obtain ⟨x_12, rfl, rfl⟩ := hp
    have hW := hW.eq (w' := swW G h0 ad0 sw ++ (worW G (ad0 0) ad wo ++ (landW G (ad 0) adl la))) rfl
    refine ziald B hW 6 rfl (zplace x_12) dX7_smoke_15 ?_
    have e_0 : (if (x_X7_placeOf a b) = (0 : Int32) then (la.2.2.1 (r_X7_placeOf a b).toNatClampNeg) else (0 : Int32)) = (la.2.2.1 (r_X7_placeOf a b).toNatClampNeg) := if_pos x_12
    exact vx_ret (ziret B hr hlk hW ⟨(if_pos x_12), by show _ = some (Value.int (if (x_X7_placeOf a b) = (0 : Int32) then (la.2.2.1 (r_X7_placeOf a b).toNatClampNeg) else (0 : Int32))) <;> (try rw [e_0]) <;> rfl, by show _ = swW G h0 ad0 sw ++ (worW G (ad0 0) ad wo ++ (landW G (ad 0) adl la)) <;> (try rw [e_0]) <;> rfl⟩ (Nat.le_refl _) (Nat.le_refl _) dX7_smoke_16)
  · obtain ⟨x_12, hE, rfl⟩ := hp
    have e_x : (if (x_X7_placeOf a b) = (0 : Int32) then (0 : Int32) else (1 : Int32)) = (1 : Int32) := if_neg x_12
    exact zxout B hex hlk hce hcv hcl hW ⟨by show ¬ (if (x_X7_placeOf a b) = (0 : Int32) then (0 : Int32) else (1 : Int32)) = (0 : Int32); rw [e_x]; decide, by show _ = zExn (if (x_X7_placeOf a b) = (0 : Int32) then (0 : Int32) else (1 : Int32)); rw [e_x, hE, x1_X7_placeOf x_12], rfl⟩ (Nat.le_of_ble_eq_true rfl) (Nat.le_of_ble_eq_true rfl)
theorem x1_X7_smoke {a : Int32} {b : Int32} (h : ¬ x_X7_smoke a b = (0 : Int32)) : x_X7_smoke a b = (1 : Int32) := by
  unfold x_X7_smoke at h ⊢
  (repeat' split at h) <;> (repeat' split) <;> simp_all
theorem xb_X7_smoke {a : Int32} {b : Int32} : x_X7_smoke a b = (0 : Int32) ∨ x_X7_smoke a b = (1 : Int32) := by
  unfold x_X7_smoke
  (repeat' split) <;> simp
def r_X7_hasLine (la_3 : Nat → Int32) (a : Int32) (b : Int32) : Int32 := (if (x_X7_placeOf a b) = (0 : Int32) then (la_3 (r_X7_placeOf a b).toNatClampNeg) else (0 : Int32))
def x_X7_hasLine (a : Int32) (b : Int32) : Int32 := (if (x_X7_placeOf a b) = (0 : Int32) then (0 : Int32) else (1 : Int32))
abbrev po_X7_hasLine (G : zG) (h0 : Nat) (ad0 : Nat → Nat) (sw : zSw) (ad : Nat → Nat) (wo : zWor) (adl : Nat → Nat) (la : zLand) (a : Int32) (b : Int32) : Option Value → va_W → Prop := fun r u => (x_X7_hasLine a b) = (0 : Int32) ∧ r = some (.int (r_X7_hasLine la.2.2.2.1 a b)) ∧ u = swW G h0 ad0 sw ++ (worW G (ad0 0) ad wo ++ (landW G (ad 0) adl la))
abbrev px_X7_hasLine (G : zG) (h0 : Nat) (ad0 : Nat → Nat) (sw : zSw) (ad : Nat → Nat) (wo : zWor) (adl : Nat → Nat) (la : zLand) (a : Int32) (b : Int32) : String → va_W → Prop := fun E u => ¬ (x_X7_hasLine a b) = (0 : Int32) ∧ E = zExn (x_X7_hasLine a b) ∧ u = swW G h0 ad0 sw ++ (worW G (ad0 0) ad wo ++ (landW G (ad 0) adl la))
set_option maxHeartbeats 4000000 in
set_option maxRecDepth 100000 in
theorem c_X7_hasLine (l : Launch) (G : zG) (h0 : Nat) (ad0 : Nat → Nat) (sw : zSw) (ad : Nat → Nat) (wo : zWor) (adl : Nat → Nat) (la : zLand) (a : Int32) (b : Int32) (hst : l.stackTraces = false) (hbo : zBo la.2.2.2.1) : zX l yX7_hasLine cX7_hasLine 3 (some .boolean) 7 1 6 G [.ref h0, .int a, .int b] (swW G h0 ad0 sw ++ (worW G (ad0 0) ad wo ++ (landW G (ad 0) adl la))) (po_X7_hasLine G h0 ad0 sw ad wo adl la a b) (px_X7_hasLine G h0 ad0 sw ad wo adl la a b) := by
  refine zX.of RX7 rfl (by decide) (Nat.le_of_ble_eq_true rfl) ?_
  intro p e s m args below meth c A ls B hr hlk hnm hex hW hl
  have hx := B.x
  have hb := B.b
  have hl : lv_has ls 3 [(0, .ref h0), (1, .int a), (2, .int b)] := hl
  refine lv_aload_n hx hb dX7_hasLine_0 rfl (lv_at hl 0 rfl) ?_
  refine zget B hW 0 rfl lf_X7_10 rfl dX7_hasLine_1 ?_
  refine zget B hW 2 rfl lf_X7_48 rfl dX7_hasLine_4 ?_
  refine zget B hW 3 rfl lf_X7_58 rfl dX7_hasLine_7 ?_
  refine lv_iload_n hx hb dX7_hasLine_10 rfl (lv_at hl 1 rfl) ?_
  refine lv_iload_n hx hb dX7_hasLine_11 rfl (lv_at hl 2 rfl) ?_
  refine zxS (w1 := []) (wc := []) (w2 := swW G h0 ad0 sw ++ (worW G (ad0 0) ad wo ++ (landW G (ad 0) adl la))) (As := [.int a, .int b]) B (hW.eq rfl) (c_X7_placeOf l G a b (hst)) yd_X7_placeOf ml_X7_32 rfl hl.1 rfl (Nat.le_of_ble_eq_true rfl) ⟨Nat.le_of_ble_eq_true rfl, Nat.le_of_ble_eq_true rfl⟩ ⟨(Nat.le_of_ble_eq_true rfl), (Nat.le_of_ble_eq_true rfl)⟩ dX7_hasLine_12 (fun v u H locs hp hW => ?_) (fun E_ q_ ce_ u H locs hp hW hce hcv hcl => ?_)
  · obtain ⟨x_12, rfl, rfl⟩ := hp
    have hW := hW.eq (w' := swW G h0 ad0 sw ++ (worW G (ad0 0) ad wo ++ (landW G (ad 0) adl la))) rfl
    refine zzald B hW 7 rfl (zplace x_12) dX7_hasLine_15 ?_
    have e_0 : (if (x_X7_placeOf a b) = (0 : Int32) then (la.2.2.2.1 (r_X7_placeOf a b).toNatClampNeg) else (0 : Int32)) = (la.2.2.2.1 (r_X7_placeOf a b).toNatClampNeg) := if_pos x_12
    exact vx_ret (zzret B hr hlk (by show Value.int (vp_nar .boolean _) = _; rw [hbo]) hW ⟨(if_pos x_12), by show _ = some (Value.int (if (x_X7_placeOf a b) = (0 : Int32) then (la.2.2.2.1 (r_X7_placeOf a b).toNatClampNeg) else (0 : Int32))) <;> (try rw [e_0]) <;> rfl, by show _ = swW G h0 ad0 sw ++ (worW G (ad0 0) ad wo ++ (landW G (ad 0) adl la)) <;> (try rw [e_0]) <;> rfl⟩ (Nat.le_refl _) (Nat.le_refl _) dX7_hasLine_16)
  · obtain ⟨x_12, hE, rfl⟩ := hp
    have e_x : (if (x_X7_placeOf a b) = (0 : Int32) then (0 : Int32) else (1 : Int32)) = (1 : Int32) := if_neg x_12
    exact zxout B hex hlk hce hcv hcl hW ⟨by show ¬ (if (x_X7_placeOf a b) = (0 : Int32) then (0 : Int32) else (1 : Int32)) = (0 : Int32); rw [e_x]; decide, by show _ = zExn (if (x_X7_placeOf a b) = (0 : Int32) then (0 : Int32) else (1 : Int32)); rw [e_x, hE, x1_X7_placeOf x_12], rfl⟩ (Nat.le_of_ble_eq_true rfl) (Nat.le_of_ble_eq_true rfl)
theorem x1_X7_hasLine {a : Int32} {b : Int32} (h : ¬ x_X7_hasLine a b = (0 : Int32)) : x_X7_hasLine a b = (1 : Int32) := by
  unfold x_X7_hasLine at h ⊢
  (repeat' split at h) <;> (repeat' split) <;> simp_all
theorem xb_X7_hasLine {a : Int32} {b : Int32} : x_X7_hasLine a b = (0 : Int32) ∨ x_X7_hasLine a b = (1 : Int32) := by
  unfold x_X7_hasLine
  (repeat' split) <;> simp
def r_X7_left (la_4 : Nat → Int32) (a : Int32) : Int32 := (if (x_X7_checkRange a (0 : Int32) (2 : Int32)) = (0 : Int32) then (la_4 a.toNatClampNeg) else (0 : Int32))
def x_X7_left (a : Int32) : Int32 := (if (x_X7_checkRange a (0 : Int32) (2 : Int32)) = (0 : Int32) then (0 : Int32) else (2 : Int32))
abbrev po_X7_left (G : zG) (h0 : Nat) (ad0 : Nat → Nat) (sw : zSw) (ad : Nat → Nat) (wo : zWor) (adl : Nat → Nat) (la : zLand) (a : Int32) : Option Value → va_W → Prop := fun r u => (x_X7_left a) = (0 : Int32) ∧ r = some (.int (r_X7_left la.2.2.2.2.1 a)) ∧ u = swW G h0 ad0 sw ++ (worW G (ad0 0) ad wo ++ (landW G (ad 0) adl la))
abbrev px_X7_left (G : zG) (h0 : Nat) (ad0 : Nat → Nat) (sw : zSw) (ad : Nat → Nat) (wo : zWor) (adl : Nat → Nat) (la : zLand) (a : Int32) : String → va_W → Prop := fun E u => ¬ (x_X7_left a) = (0 : Int32) ∧ E = zExn (x_X7_left a) ∧ u = swW G h0 ad0 sw ++ (worW G (ad0 0) ad wo ++ (landW G (ad 0) adl la))
set_option maxHeartbeats 4000000 in
set_option maxRecDepth 100000 in
theorem c_X7_left (l : Launch) (G : zG) (h0 : Nat) (ad0 : Nat → Nat) (sw : zSw) (ad : Nat → Nat) (wo : zWor) (adl : Nat → Nat) (la : zLand) (a : Int32) (hst : l.stackTraces = false) : zX l yX7_left cX7_left 2 (some .int) 7 1 6 G [.ref h0, .int a] (swW G h0 ad0 sw ++ (worW G (ad0 0) ad wo ++ (landW G (ad 0) adl la))) (po_X7_left G h0 ad0 sw ad wo adl la a) (px_X7_left G h0 ad0 sw ad wo adl la a) := by
  refine zX.of RX7 rfl (by decide) (Nat.le_of_ble_eq_true rfl) ?_
  intro p e s m args below meth c A ls B hr hlk hnm hex hW hl
  have hx := B.x
  have hb := B.b
  have hl : lv_has ls 2 [(0, .ref h0), (1, .int a)] := hl
  refine lv_iload_n hx hb dX7_left_0 rfl (lv_at hl 1 rfl) ?_
  refine lv_iconst (v := (0 : Int32)) hx hb dX7_left_1 (by decide) ?_
  refine lv_iconst (v := (2 : Int32)) hx hb dX7_left_2 (by decide) ?_
  refine zxS (w1 := []) (wc := []) (w2 := swW G h0 ad0 sw ++ (worW G (ad0 0) ad wo ++ (landW G (ad 0) adl la))) (As := [.int a, .int (0 : Int32), .int (2 : Int32)]) B (hW.eq rfl) (c_X7_checkRange l G a (0 : Int32) (2 : Int32) (hst)) yd_X7_checkRange ml_X7_36 rfl hl.1 rfl (Nat.le_of_ble_eq_true rfl) ⟨Nat.le_of_ble_eq_true rfl, Nat.le_of_ble_eq_true rfl⟩ ⟨(Nat.le_of_ble_eq_true rfl), (Nat.le_of_ble_eq_true rfl)⟩ dX7_left_3 (fun v u H locs hp hW => ?_) (fun E_ q_ ce_ u H locs hp hW hce hcv hcl => ?_)
  · obtain ⟨x_3, rfl, rfl⟩ := hp
    have hW := hW.eq (w' := swW G h0 ad0 sw ++ (worW G (ad0 0) ad wo ++ (landW G (ad 0) adl la))) rfl
    refine lv_aload_n hx hb dX7_left_6 rfl (lv_at hl 0 rfl) ?_
    refine zget B hW 0 rfl lf_X7_10 rfl dX7_left_7 ?_
    refine zget B hW 2 rfl lf_X7_48 rfl dX7_left_10 ?_
    refine zget B hW 3 rfl lf_X7_134 rfl dX7_left_13 ?_
    refine lv_iload_n hx hb dX7_left_16 rfl (lv_at hl 1 rfl) ?_
    refine ziald B hW 8 rfl (zrng (k := 2) rfl ⟨by decide, by decide⟩ x_3) dX7_left_17 ?_
    have e_0 : (if (x_X7_checkRange a (0 : Int32) (2 : Int32)) = (0 : Int32) then (la.2.2.2.2.1 a.toNatClampNeg) else (0 : Int32)) = (la.2.2.2.2.1 a.toNatClampNeg) := if_pos x_3
    exact vx_ret (ziret B hr hlk hW ⟨(if_pos x_3), by show _ = some (Value.int (if (x_X7_checkRange a (0 : Int32) (2 : Int32)) = (0 : Int32) then (la.2.2.2.2.1 a.toNatClampNeg) else (0 : Int32))) <;> (try rw [e_0]) <;> rfl, by show _ = swW G h0 ad0 sw ++ (worW G (ad0 0) ad wo ++ (landW G (ad 0) adl la)) <;> (try rw [e_0]) <;> rfl⟩ (Nat.le_refl _) (Nat.le_refl _) dX7_left_18)
  · obtain ⟨x_3, hE, rfl⟩ := hp
    have e_x : (if (x_X7_checkRange a (0 : Int32) (2 : Int32)) = (0 : Int32) then (0 : Int32) else (2 : Int32)) = (2 : Int32) := if_neg x_3
    exact zxout B hex hlk hce hcv hcl hW ⟨by show ¬ (if (x_X7_checkRange a (0 : Int32) (2 : Int32)) = (0 : Int32) then (0 : Int32) else (2 : Int32)) = (0 : Int32); rw [e_x]; decide, by show _ = zExn (if (x_X7_checkRange a (0 : Int32) (2 : Int32)) = (0 : Int32) then (0 : Int32) else (2 : Int32)); rw [e_x, hE, x1_X7_checkRange x_3], rfl⟩ (Nat.le_of_ble_eq_true rfl) (Nat.le_of_ble_eq_true rfl)
theorem x1_X7_left {a : Int32} (h : ¬ x_X7_left a = (0 : Int32)) : x_X7_left a = (2 : Int32) := by
  unfold x_X7_left at h ⊢
  (repeat' split at h) <;> (repeat' split) <;> simp_all
theorem xb_X7_left {a : Int32} : x_X7_left a = (0 : Int32) ∨ x_X7_left a = (2 : Int32) := by
  unfold x_X7_left
  (repeat' split) <;> simp
def r_X7_hour (wo_0 : Int32) : Int32 := wo_0
abbrev po_X7_hour (G : zG) (h0 : Nat) (ad0 : Nat → Nat) (sw : zSw) (ad : Nat → Nat) (wo : zWor) : Option Value → va_W → Prop := fun r u => r = some (.int (r_X7_hour wo)) ∧ u = swW G h0 ad0 sw ++ (worW G (ad0 0) ad wo)
set_option maxHeartbeats 4000000 in
set_option maxRecDepth 100000 in
theorem c_X7_hour (l : Launch) (G : zG) (h0 : Nat) (ad0 : Nat → Nat) (sw : zSw) (ad : Nat → Nat) (wo : zWor) : zC l yX7_hour cX7_hour 1 (some .int) 0 0 0 G [.ref h0] (swW G h0 ad0 sw ++ (worW G (ad0 0) ad wo)) (po_X7_hour G h0 ad0 sw ad wo) := by
  refine zC.of RX7 rfl (by decide) (Nat.le_of_ble_eq_true rfl) ?_
  intro p e s m args below meth c A ls B hr hlk hnm hW hl
  have hx := B.x
  have hb := B.b
  have hl : lv_has ls 1 [(0, .ref h0)] := hl
  refine lv_aload_n hx hb dX7_hour_0 rfl (lv_at hl 0 rfl) ?_
  refine zget B hW 0 rfl lf_X7_10 rfl dX7_hour_1 ?_
  refine zget B hW 2 rfl lf_X7_123 rfl dX7_hour_4 ?_
  exact ziret B hr hlk hW ⟨rfl, rfl⟩ (Nat.le_refl _) (Nat.le_refl _) dX7_hour_7
def r_X7_warnings (su_9 : Nat) : Int32 := (nI su_9)
abbrev po_X7_warnings (G : zG) (h0 : Nat) (ad0 : Nat → Nat) (sw : zSw) (ad : Nat → Nat) (wo : zWor) (adu : Nat → Nat) (su : zSubs) : Option Value → va_W → Prop := fun r u => r = some (.int (r_X7_warnings su.2.2.2.2.2.2.2.2.2.1)) ∧ u = swW G h0 ad0 sw ++ (worW G (ad0 0) ad wo ++ (subW G (ad 3) adu su))
set_option maxHeartbeats 4000000 in
set_option maxRecDepth 100000 in
theorem c_X7_warnings (l : Launch) (G : zG) (h0 : Nat) (ad0 : Nat → Nat) (sw : zSw) (ad : Nat → Nat) (wo : zWor) (adu : Nat → Nat) (su : zSubs) : zC l yX7_warnings cX7_warnings 1 (some .int) 0 0 0 G [.ref h0] (swW G h0 ad0 sw ++ (worW G (ad0 0) ad wo ++ (subW G (ad 3) adu su))) (po_X7_warnings G h0 ad0 sw ad wo adu su) := by
  refine zC.of RX7 rfl (by decide) (Nat.le_of_ble_eq_true rfl) ?_
  intro p e s m args below meth c A ls B hr hlk hnm hW hl
  have hx := B.x
  have hb := B.b
  have hl : lv_has ls 1 [(0, .ref h0)] := hl
  refine lv_aload_n hx hb dX7_warnings_0 rfl (lv_at hl 0 rfl) ?_
  refine zget B hW 0 rfl lf_X7_10 rfl dX7_warnings_1 ?_
  refine zget B hW 2 rfl lf_X7_103 rfl dX7_warnings_4 ?_
  refine zget B hW 3 rfl lf_X7_153 rfl dX7_warnings_7 ?_
  exact ziret B hr hlk hW ⟨rfl, rfl⟩ (Nat.le_refl _) (Nat.le_refl _) dX7_warnings_10
def r_X7_closings (sc_4 : Int32) : Int32 := sc_4
abbrev po_X7_closings (G : zG) (h0 : Nat) (ad0 : Nat → Nat) (sw : zSw) (ad : Nat → Nat) (wo : zWor) (adc : Nat → Nat) (sc : zScho) : Option Value → va_W → Prop := fun r u => r = some (.int (r_X7_closings sc.2.2.2.2)) ∧ u = swW G h0 ad0 sw ++ (worW G (ad0 0) ad wo ++ (schW G (ad 4) adc sc))
set_option maxHeartbeats 4000000 in
set_option maxRecDepth 100000 in
theorem c_X7_closings (l : Launch) (G : zG) (h0 : Nat) (ad0 : Nat → Nat) (sw : zSw) (ad : Nat → Nat) (wo : zWor) (adc : Nat → Nat) (sc : zScho) : zC l yX7_closings cX7_closings 1 (some .int) 0 0 0 G [.ref h0] (swW G h0 ad0 sw ++ (worW G (ad0 0) ad wo ++ (schW G (ad 4) adc sc))) (po_X7_closings G h0 ad0 sw ad wo adc sc) := by
  refine zC.of RX7 rfl (by decide) (Nat.le_of_ble_eq_true rfl) ?_
  intro p e s m args below meth c A ls B hr hlk hnm hW hl
  have hx := B.x
  have hb := B.b
  have hl : lv_has ls 1 [(0, .ref h0)] := hl
  refine lv_aload_n hx hb dX7_closings_0 rfl (lv_at hl 0 rfl) ?_
  refine zget B hW 0 rfl lf_X7_10 rfl dX7_closings_1 ?_
  refine zget B hW 2 rfl lf_X7_110 rfl dX7_closings_4 ?_
  refine zget B hW 3 rfl lf_X7_165 rfl dX7_closings_7 ?_
  exact ziret B hr hlk hW ⟨rfl, rfl⟩ (Nat.le_refl _) (Nat.le_refl _) dX7_closings_10
def r_X7_made (la_11 : Int64) : Int64 := la_11
abbrev po_X7_made (G : zG) (h0 : Nat) (ad0 : Nat → Nat) (sw : zSw) (ad : Nat → Nat) (wo : zWor) (adl : Nat → Nat) (la : zLand) : Option Value → va_W → Prop := fun r u => r = some (.long (r_X7_made la.2.2.2.2.2.2.2.2.2.2.2.1)) ∧ u = swW G h0 ad0 sw ++ (worW G (ad0 0) ad wo ++ (landW G (ad 0) adl la))
set_option maxHeartbeats 4000000 in
set_option maxRecDepth 100000 in
theorem c_X7_made (l : Launch) (G : zG) (h0 : Nat) (ad0 : Nat → Nat) (sw : zSw) (ad : Nat → Nat) (wo : zWor) (adl : Nat → Nat) (la : zLand) : zC l yX7_made cX7_made 1 (some .long) 0 0 0 G [.ref h0] (swW G h0 ad0 sw ++ (worW G (ad0 0) ad wo ++ (landW G (ad 0) adl la))) (po_X7_made G h0 ad0 sw ad wo adl la) := by
  refine zC.of RX7 rfl (by decide) (Nat.le_of_ble_eq_true rfl) ?_
  intro p e s m args below meth c A ls B hr hlk hnm hW hl
  have hx := B.x
  have hb := B.b
  have hl : lv_has ls 1 [(0, .ref h0)] := hl
  refine lv_aload_n hx hb dX7_made_0 rfl (lv_at hl 0 rfl) ?_
  refine zget B hW 0 rfl lf_X7_10 rfl dX7_made_1 ?_
  refine zget B hW 2 rfl lf_X7_48 rfl dX7_made_4 ?_
  refine zget B hW 3 rfl lf_X7_168 rfl dX7_made_7 ?_
  exact zlret B hr hlk hW ⟨rfl, rfl⟩ (Nat.le_refl _) (Nat.le_refl _) dX7_made_10
def r_X7_blown (la_12 : Int64) : Int64 := la_12
abbrev po_X7_blown (G : zG) (h0 : Nat) (ad0 : Nat → Nat) (sw : zSw) (ad : Nat → Nat) (wo : zWor) (adl : Nat → Nat) (la : zLand) : Option Value → va_W → Prop := fun r u => r = some (.long (r_X7_blown la.2.2.2.2.2.2.2.2.2.2.2.2.1)) ∧ u = swW G h0 ad0 sw ++ (worW G (ad0 0) ad wo ++ (landW G (ad 0) adl la))
set_option maxHeartbeats 4000000 in
set_option maxRecDepth 100000 in
theorem c_X7_blown (l : Launch) (G : zG) (h0 : Nat) (ad0 : Nat → Nat) (sw : zSw) (ad : Nat → Nat) (wo : zWor) (adl : Nat → Nat) (la : zLand) : zC l yX7_blown cX7_blown 1 (some .long) 0 0 0 G [.ref h0] (swW G h0 ad0 sw ++ (worW G (ad0 0) ad wo ++ (landW G (ad 0) adl la))) (po_X7_blown G h0 ad0 sw ad wo adl la) := by
  refine zC.of RX7 rfl (by decide) (Nat.le_of_ble_eq_true rfl) ?_
  intro p e s m args below meth c A ls B hr hlk hnm hW hl
  have hx := B.x
  have hb := B.b
  have hl : lv_has ls 1 [(0, .ref h0)] := hl
  refine lv_aload_n hx hb dX7_blown_0 rfl (lv_at hl 0 rfl) ?_
  refine zget B hW 0 rfl lf_X7_10 rfl dX7_blown_1 ?_
  refine zget B hW 2 rfl lf_X7_48 rfl dX7_blown_4 ?_
  refine zget B hW 3 rfl lf_X7_172 rfl dX7_blown_7 ?_
  exact zlret B hr hlk hW ⟨rfl, rfl⟩ (Nat.le_refl _) (Nat.le_refl _) dX7_blown_10
def r_X7_settled (la_13 : Int64) : Int64 := la_13
abbrev po_X7_settled (G : zG) (h0 : Nat) (ad0 : Nat → Nat) (sw : zSw) (ad : Nat → Nat) (wo : zWor) (adl : Nat → Nat) (la : zLand) : Option Value → va_W → Prop := fun r u => r = some (.long (r_X7_settled la.2.2.2.2.2.2.2.2.2.2.2.2.2)) ∧ u = swW G h0 ad0 sw ++ (worW G (ad0 0) ad wo ++ (landW G (ad 0) adl la))
set_option maxHeartbeats 4000000 in
set_option maxRecDepth 100000 in
theorem c_X7_settled (l : Launch) (G : zG) (h0 : Nat) (ad0 : Nat → Nat) (sw : zSw) (ad : Nat → Nat) (wo : zWor) (adl : Nat → Nat) (la : zLand) : zC l yX7_settled cX7_settled 1 (some .long) 0 0 0 G [.ref h0] (swW G h0 ad0 sw ++ (worW G (ad0 0) ad wo ++ (landW G (ad 0) adl la))) (po_X7_settled G h0 ad0 sw ad wo adl la) := by
  refine zC.of RX7 rfl (by decide) (Nat.le_of_ble_eq_true rfl) ?_
  intro p e s m args below meth c A ls B hr hlk hnm hW hl
  have hx := B.x
  have hb := B.b
  have hl : lv_has ls 1 [(0, .ref h0)] := hl
  refine lv_aload_n hx hb dX7_settled_0 rfl (lv_at hl 0 rfl) ?_
  refine zget B hW 0 rfl lf_X7_10 rfl dX7_settled_1 ?_
  refine zget B hW 2 rfl lf_X7_48 rfl dX7_settled_4 ?_
  refine zget B hW 3 rfl lf_X7_175 rfl dX7_settled_7 ?_
  exact zlret B hr hlk hW ⟨rfl, rfl⟩ (Nat.le_refl _) (Nat.le_refl _) dX7_settled_10
def r_X7_mended (se_9 : Int64) : Int64 := se_9
abbrev po_X7_mended (G : zG) (h0 : Nat) (ad0 : Nat → Nat) (sw : zSw) (ad : Nat → Nat) (wo : zWor) (ads : Nat → Nat) (se : zSens) : Option Value → va_W → Prop := fun r u => r = some (.long (r_X7_mended se.2.2.2.2.2.2.2.2.2)) ∧ u = swW G h0 ad0 sw ++ (worW G (ad0 0) ad wo ++ (sensW G (ad 2) ads se))
set_option maxHeartbeats 4000000 in
set_option maxRecDepth 100000 in
theorem c_X7_mended (l : Launch) (G : zG) (h0 : Nat) (ad0 : Nat → Nat) (sw : zSw) (ad : Nat → Nat) (wo : zWor) (ads : Nat → Nat) (se : zSens) : zC l yX7_mended cX7_mended 1 (some .long) 0 0 0 G [.ref h0] (swW G h0 ad0 sw ++ (worW G (ad0 0) ad wo ++ (sensW G (ad 2) ads se))) (po_X7_mended G h0 ad0 sw ad wo ads se) := by
  refine zC.of RX7 rfl (by decide) (Nat.le_of_ble_eq_true rfl) ?_
  intro p e s m args below meth c A ls B hr hlk hnm hW hl
  have hx := B.x
  have hb := B.b
  have hl : lv_has ls 1 [(0, .ref h0)] := hl
  refine lv_aload_n hx hb dX7_mended_0 rfl (lv_at hl 0 rfl) ?_
  refine zget B hW 0 rfl lf_X7_10 rfl dX7_mended_1 ?_
  refine zget B hW 2 rfl lf_X7_74 rfl dX7_mended_4 ?_
  refine zget B hW 3 rfl lf_X7_178 rfl dX7_mended_7 ?_
  exact zlret B hr hlk hW ⟨rfl, rfl⟩ (Nat.le_refl _) (Nat.le_refl _) dX7_mended_10
def r_X7_warnedAt (su_6 : Nat → Int32) (su_9 : Nat) (a : Int32) : Int32 := (if (x_X7_checkNumber a (nI su_9)) = (0 : Int32) then (su_6 a.toNatClampNeg) else (0 : Int32))
def x_X7_warnedAt (su_9 : Nat) (a : Int32) : Int32 := (if (x_X7_checkNumber a (nI su_9)) = (0 : Int32) then (0 : Int32) else (1 : Int32))
abbrev po_X7_warnedAt (G : zG) (h0 : Nat) (ad0 : Nat → Nat) (sw : zSw) (ad : Nat → Nat) (wo : zWor) (adu : Nat → Nat) (su : zSubs) (a : Int32) : Option Value → va_W → Prop := fun r u => (x_X7_warnedAt su.2.2.2.2.2.2.2.2.2.1 a) = (0 : Int32) ∧ r = some (.int (r_X7_warnedAt su.2.2.2.2.2.2.1 su.2.2.2.2.2.2.2.2.2.1 a)) ∧ u = swW G h0 ad0 sw ++ (worW G (ad0 0) ad wo ++ (subW G (ad 3) adu su))
abbrev px_X7_warnedAt (G : zG) (h0 : Nat) (ad0 : Nat → Nat) (sw : zSw) (ad : Nat → Nat) (wo : zWor) (adu : Nat → Nat) (su : zSubs) (a : Int32) : String → va_W → Prop := fun E u => ¬ (x_X7_warnedAt su.2.2.2.2.2.2.2.2.2.1 a) = (0 : Int32) ∧ E = zExn (x_X7_warnedAt su.2.2.2.2.2.2.2.2.2.1 a) ∧ u = swW G h0 ad0 sw ++ (worW G (ad0 0) ad wo ++ (subW G (ad 3) adu su))
set_option maxHeartbeats 4000000 in
set_option maxRecDepth 100000 in
theorem c_X7_warnedAt (l : Launch) (G : zG) (h0 : Nat) (ad0 : Nat → Nat) (sw : zSw) (ad : Nat → Nat) (wo : zWor) (adu : Nat → Nat) (su : zSubs) (a : Int32) (hst : l.stackTraces = false) (hC : zCap su.2.2.2.2.2.2.2.2.2.1 su.2.2.2.2.2.2.2.2.2.2.1 su.2.2.2.2.2.2.2.2.2.2.2.1 su.2.2.2.2.2.2.2.2.2.2.2.2) (h31 : su.2.2.2.2.2.2.2.2.2.2.1 ≤ 60000000) : zX l yX7_warnedAt cX7_warnedAt 2 (some .int) 7 1 6 G [.ref h0, .int a] (swW G h0 ad0 sw ++ (worW G (ad0 0) ad wo ++ (subW G (ad 3) adu su))) (po_X7_warnedAt G h0 ad0 sw ad wo adu su a) (px_X7_warnedAt G h0 ad0 sw ad wo adu su a) := by
  refine zX.of RX7 rfl (by decide) (Nat.le_of_ble_eq_true rfl) ?_
  intro p e s m args below meth c A ls B hr hlk hnm hex hW hl
  have hx := B.x
  have hb := B.b
  have hl : lv_has ls 2 [(0, .ref h0), (1, .int a)] := hl
  refine lv_iload_n hx hb dX7_warnedAt_0 rfl (lv_at hl 1 rfl) ?_
  refine lv_aload_n hx hb dX7_warnedAt_1 rfl (lv_at hl 0 rfl) ?_
  refine zget B hW 0 rfl lf_X7_10 rfl dX7_warnedAt_2 ?_
  refine zget B hW 2 rfl lf_X7_103 rfl dX7_warnedAt_5 ?_
  refine zget B hW 3 rfl lf_X7_153 rfl dX7_warnedAt_8 ?_
  refine zxS (w1 := []) (wc := []) (w2 := swW G h0 ad0 sw ++ (worW G (ad0 0) ad wo ++ (subW G (ad 3) adu su))) (As := [.int a, .int (nI su.2.2.2.2.2.2.2.2.2.1)]) B (hW.eq rfl) (c_X7_checkNumber l G a (nI su.2.2.2.2.2.2.2.2.2.1) (hst)) yd_X7_checkNumber ml_X7_87 rfl hl.1 rfl (Nat.le_of_ble_eq_true rfl) ⟨Nat.le_of_ble_eq_true rfl, Nat.le_of_ble_eq_true rfl⟩ ⟨(Nat.le_of_ble_eq_true rfl), (Nat.le_of_ble_eq_true rfl)⟩ dX7_warnedAt_11 (fun v u H locs hp hW => ?_) (fun E_ q_ ce_ u H locs hp hW hce hcv hcl => ?_)
  · obtain ⟨x_11, rfl, rfl⟩ := hp
    have hW := hW.eq (w' := swW G h0 ad0 sw ++ (worW G (ad0 0) ad wo ++ (subW G (ad 3) adu su))) rfl
    refine lv_aload_n hx hb dX7_warnedAt_14 rfl (lv_at hl 0 rfl) ?_
    refine zget B hW 0 rfl lf_X7_10 rfl dX7_warnedAt_15 ?_
    refine zget B hW 2 rfl lf_X7_103 rfl dX7_warnedAt_18 ?_
    refine zget B hW 3 rfl lf_X7_156 rfl dX7_warnedAt_21 ?_
    refine lv_iload_n hx hb dX7_warnedAt_24 rfl (lv_at hl 1 rfl) ?_
    refine ziald B hW 9 rfl (znum rfl (by have := hC.1; have := hC.2.1; have := hC.2.2.1; omega) (by have := hC.1; have := hC.2.1; omega) x_11) dX7_warnedAt_25 ?_
    have e_0 : (if (x_X7_checkNumber a (nI su.2.2.2.2.2.2.2.2.2.1)) = (0 : Int32) then (su.2.2.2.2.2.2.1 a.toNatClampNeg) else (0 : Int32)) = (su.2.2.2.2.2.2.1 a.toNatClampNeg) := if_pos x_11
    exact vx_ret (ziret B hr hlk hW ⟨(if_pos x_11), by show _ = some (Value.int (if (x_X7_checkNumber a (nI su.2.2.2.2.2.2.2.2.2.1)) = (0 : Int32) then (su.2.2.2.2.2.2.1 a.toNatClampNeg) else (0 : Int32))) <;> (try rw [e_0]) <;> rfl, by show _ = swW G h0 ad0 sw ++ (worW G (ad0 0) ad wo ++ (subW G (ad 3) adu su)) <;> (try rw [e_0]) <;> rfl⟩ (Nat.le_refl _) (Nat.le_refl _) dX7_warnedAt_26)
  · obtain ⟨x_11, hE, rfl⟩ := hp
    have e_x : (if (x_X7_checkNumber a (nI su.2.2.2.2.2.2.2.2.2.1)) = (0 : Int32) then (0 : Int32) else (1 : Int32)) = (1 : Int32) := if_neg x_11
    exact zxout B hex hlk hce hcv hcl hW ⟨by show ¬ (if (x_X7_checkNumber a (nI su.2.2.2.2.2.2.2.2.2.1)) = (0 : Int32) then (0 : Int32) else (1 : Int32)) = (0 : Int32); rw [e_x]; decide, by show _ = zExn (if (x_X7_checkNumber a (nI su.2.2.2.2.2.2.2.2.2.1)) = (0 : Int32) then (0 : Int32) else (1 : Int32)); rw [e_x, hE, x1_X7_checkNumber x_11], rfl⟩ (Nat.le_of_ble_eq_true rfl) (Nat.le_of_ble_eq_true rfl)
theorem x1_X7_warnedAt {su_9 : Nat} {a : Int32} (h : ¬ x_X7_warnedAt su_9 a = (0 : Int32)) : x_X7_warnedAt su_9 a = (1 : Int32) := by
  unfold x_X7_warnedAt at h ⊢
  (repeat' split at h) <;> (repeat' split) <;> simp_all
theorem xb_X7_warnedAt {su_9 : Nat} {a : Int32} : x_X7_warnedAt su_9 a = (0 : Int32) ∨ x_X7_warnedAt su_9 a = (1 : Int32) := by
  unfold x_X7_warnedAt
  (repeat' split) <;> simp
def r_X7_warnedWhom (su_7 : Nat → Int32) (su_9 : Nat) (a : Int32) : Int32 := (if (x_X7_checkNumber a (nI su_9)) = (0 : Int32) then (su_7 a.toNatClampNeg) else (0 : Int32))
def x_X7_warnedWhom (su_9 : Nat) (a : Int32) : Int32 := (if (x_X7_checkNumber a (nI su_9)) = (0 : Int32) then (0 : Int32) else (1 : Int32))
abbrev po_X7_warnedWhom (G : zG) (h0 : Nat) (ad0 : Nat → Nat) (sw : zSw) (ad : Nat → Nat) (wo : zWor) (adu : Nat → Nat) (su : zSubs) (a : Int32) : Option Value → va_W → Prop := fun r u => (x_X7_warnedWhom su.2.2.2.2.2.2.2.2.2.1 a) = (0 : Int32) ∧ r = some (.int (r_X7_warnedWhom su.2.2.2.2.2.2.2.1 su.2.2.2.2.2.2.2.2.2.1 a)) ∧ u = swW G h0 ad0 sw ++ (worW G (ad0 0) ad wo ++ (subW G (ad 3) adu su))
abbrev px_X7_warnedWhom (G : zG) (h0 : Nat) (ad0 : Nat → Nat) (sw : zSw) (ad : Nat → Nat) (wo : zWor) (adu : Nat → Nat) (su : zSubs) (a : Int32) : String → va_W → Prop := fun E u => ¬ (x_X7_warnedWhom su.2.2.2.2.2.2.2.2.2.1 a) = (0 : Int32) ∧ E = zExn (x_X7_warnedWhom su.2.2.2.2.2.2.2.2.2.1 a) ∧ u = swW G h0 ad0 sw ++ (worW G (ad0 0) ad wo ++ (subW G (ad 3) adu su))
set_option maxHeartbeats 4000000 in
set_option maxRecDepth 100000 in
theorem c_X7_warnedWhom (l : Launch) (G : zG) (h0 : Nat) (ad0 : Nat → Nat) (sw : zSw) (ad : Nat → Nat) (wo : zWor) (adu : Nat → Nat) (su : zSubs) (a : Int32) (hst : l.stackTraces = false) (hC : zCap su.2.2.2.2.2.2.2.2.2.1 su.2.2.2.2.2.2.2.2.2.2.1 su.2.2.2.2.2.2.2.2.2.2.2.1 su.2.2.2.2.2.2.2.2.2.2.2.2) (h31 : su.2.2.2.2.2.2.2.2.2.2.1 ≤ 60000000) : zX l yX7_warnedWhom cX7_warnedWhom 2 (some .int) 7 1 6 G [.ref h0, .int a] (swW G h0 ad0 sw ++ (worW G (ad0 0) ad wo ++ (subW G (ad 3) adu su))) (po_X7_warnedWhom G h0 ad0 sw ad wo adu su a) (px_X7_warnedWhom G h0 ad0 sw ad wo adu su a) := by
  refine zX.of RX7 rfl (by decide) (Nat.le_of_ble_eq_true rfl) ?_
  intro p e s m args below meth c A ls B hr hlk hnm hex hW hl
  have hx := B.x
  have hb := B.b
  have hl : lv_has ls 2 [(0, .ref h0), (1, .int a)] := hl
  refine lv_iload_n hx hb dX7_warnedWhom_0 rfl (lv_at hl 1 rfl) ?_
  refine lv_aload_n hx hb dX7_warnedWhom_1 rfl (lv_at hl 0 rfl) ?_
  refine zget B hW 0 rfl lf_X7_10 rfl dX7_warnedWhom_2 ?_
  refine zget B hW 2 rfl lf_X7_103 rfl dX7_warnedWhom_5 ?_
  refine zget B hW 3 rfl lf_X7_153 rfl dX7_warnedWhom_8 ?_
  refine zxS (w1 := []) (wc := []) (w2 := swW G h0 ad0 sw ++ (worW G (ad0 0) ad wo ++ (subW G (ad 3) adu su))) (As := [.int a, .int (nI su.2.2.2.2.2.2.2.2.2.1)]) B (hW.eq rfl) (c_X7_checkNumber l G a (nI su.2.2.2.2.2.2.2.2.2.1) (hst)) yd_X7_checkNumber ml_X7_87 rfl hl.1 rfl (Nat.le_of_ble_eq_true rfl) ⟨Nat.le_of_ble_eq_true rfl, Nat.le_of_ble_eq_true rfl⟩ ⟨(Nat.le_of_ble_eq_true rfl), (Nat.le_of_ble_eq_true rfl)⟩ dX7_warnedWhom_11 (fun v u H locs hp hW => ?_) (fun E_ q_ ce_ u H locs hp hW hce hcv hcl => ?_)
  · obtain ⟨x_11, rfl, rfl⟩ := hp
    have hW := hW.eq (w' := swW G h0 ad0 sw ++ (worW G (ad0 0) ad wo ++ (subW G (ad 3) adu su))) rfl
    refine lv_aload_n hx hb dX7_warnedWhom_14 rfl (lv_at hl 0 rfl) ?_
    refine zget B hW 0 rfl lf_X7_10 rfl dX7_warnedWhom_15 ?_
    refine zget B hW 2 rfl lf_X7_103 rfl dX7_warnedWhom_18 ?_
    refine zget B hW 3 rfl lf_X7_159 rfl dX7_warnedWhom_21 ?_
    refine lv_iload_n hx hb dX7_warnedWhom_24 rfl (lv_at hl 1 rfl) ?_
    refine ziald B hW 10 rfl (znum rfl (by have := hC.1; have := hC.2.1; have := hC.2.2.1; omega) (by have := hC.1; have := hC.2.1; omega) x_11) dX7_warnedWhom_25 ?_
    have e_0 : (if (x_X7_checkNumber a (nI su.2.2.2.2.2.2.2.2.2.1)) = (0 : Int32) then (su.2.2.2.2.2.2.2.1 a.toNatClampNeg) else (0 : Int32)) = (su.2.2.2.2.2.2.2.1 a.toNatClampNeg) := if_pos x_11
    exact vx_ret (ziret B hr hlk hW ⟨(if_pos x_11), by show _ = some (Value.int (if (x_X7_checkNumber a (nI su.2.2.2.2.2.2.2.2.2.1)) = (0 : Int32) then (su.2.2.2.2.2.2.2.1 a.toNatClampNeg) else (0 : Int32))) <;> (try rw [e_0]) <;> rfl, by show _ = swW G h0 ad0 sw ++ (worW G (ad0 0) ad wo ++ (subW G (ad 3) adu su)) <;> (try rw [e_0]) <;> rfl⟩ (Nat.le_refl _) (Nat.le_refl _) dX7_warnedWhom_26)
  · obtain ⟨x_11, hE, rfl⟩ := hp
    have e_x : (if (x_X7_checkNumber a (nI su.2.2.2.2.2.2.2.2.2.1)) = (0 : Int32) then (0 : Int32) else (1 : Int32)) = (1 : Int32) := if_neg x_11
    exact zxout B hex hlk hce hcv hcl hW ⟨by show ¬ (if (x_X7_checkNumber a (nI su.2.2.2.2.2.2.2.2.2.1)) = (0 : Int32) then (0 : Int32) else (1 : Int32)) = (0 : Int32); rw [e_x]; decide, by show _ = zExn (if (x_X7_checkNumber a (nI su.2.2.2.2.2.2.2.2.2.1)) = (0 : Int32) then (0 : Int32) else (1 : Int32)); rw [e_x, hE, x1_X7_checkNumber x_11], rfl⟩ (Nat.le_of_ble_eq_true rfl) (Nat.le_of_ble_eq_true rfl)
theorem x1_X7_warnedWhom {su_9 : Nat} {a : Int32} (h : ¬ x_X7_warnedWhom su_9 a = (0 : Int32)) : x_X7_warnedWhom su_9 a = (1 : Int32) := by
  unfold x_X7_warnedWhom at h ⊢
  (repeat' split at h) <;> (repeat' split) <;> simp_all
theorem xb_X7_warnedWhom {su_9 : Nat} {a : Int32} : x_X7_warnedWhom su_9 a = (0 : Int32) ∨ x_X7_warnedWhom su_9 a = (1 : Int32) := by
  unfold x_X7_warnedWhom
  (repeat' split) <;> simp
def r_X7_warnedBy (su_8 : Nat → Int32) (su_9 : Nat) (a : Int32) : Int32 := (if (x_X7_checkNumber a (nI su_9)) = (0 : Int32) then (su_8 a.toNatClampNeg) else (0 : Int32))
def x_X7_warnedBy (su_9 : Nat) (a : Int32) : Int32 := (if (x_X7_checkNumber a (nI su_9)) = (0 : Int32) then (0 : Int32) else (1 : Int32))
abbrev po_X7_warnedBy (G : zG) (h0 : Nat) (ad0 : Nat → Nat) (sw : zSw) (ad : Nat → Nat) (wo : zWor) (adu : Nat → Nat) (su : zSubs) (a : Int32) : Option Value → va_W → Prop := fun r u => (x_X7_warnedBy su.2.2.2.2.2.2.2.2.2.1 a) = (0 : Int32) ∧ r = some (.int (r_X7_warnedBy su.2.2.2.2.2.2.2.2.1 su.2.2.2.2.2.2.2.2.2.1 a)) ∧ u = swW G h0 ad0 sw ++ (worW G (ad0 0) ad wo ++ (subW G (ad 3) adu su))
abbrev px_X7_warnedBy (G : zG) (h0 : Nat) (ad0 : Nat → Nat) (sw : zSw) (ad : Nat → Nat) (wo : zWor) (adu : Nat → Nat) (su : zSubs) (a : Int32) : String → va_W → Prop := fun E u => ¬ (x_X7_warnedBy su.2.2.2.2.2.2.2.2.2.1 a) = (0 : Int32) ∧ E = zExn (x_X7_warnedBy su.2.2.2.2.2.2.2.2.2.1 a) ∧ u = swW G h0 ad0 sw ++ (worW G (ad0 0) ad wo ++ (subW G (ad 3) adu su))
set_option maxHeartbeats 4000000 in
set_option maxRecDepth 100000 in
theorem c_X7_warnedBy (l : Launch) (G : zG) (h0 : Nat) (ad0 : Nat → Nat) (sw : zSw) (ad : Nat → Nat) (wo : zWor) (adu : Nat → Nat) (su : zSubs) (a : Int32) (hst : l.stackTraces = false) (hC : zCap su.2.2.2.2.2.2.2.2.2.1 su.2.2.2.2.2.2.2.2.2.2.1 su.2.2.2.2.2.2.2.2.2.2.2.1 su.2.2.2.2.2.2.2.2.2.2.2.2) (h31 : su.2.2.2.2.2.2.2.2.2.2.1 ≤ 60000000) : zX l yX7_warnedBy cX7_warnedBy 2 (some .int) 7 1 6 G [.ref h0, .int a] (swW G h0 ad0 sw ++ (worW G (ad0 0) ad wo ++ (subW G (ad 3) adu su))) (po_X7_warnedBy G h0 ad0 sw ad wo adu su a) (px_X7_warnedBy G h0 ad0 sw ad wo adu su a) := by
  refine zX.of RX7 rfl (by decide) (Nat.le_of_ble_eq_true rfl) ?_
  intro p e s m args below meth c A ls B hr hlk hnm hex hW hl
  have hx := B.x
  have hb := B.b
  have hl : lv_has ls 2 [(0, .ref h0), (1, .int a)] := hl
  refine lv_iload_n hx hb dX7_warnedBy_0 rfl (lv_at hl 1 rfl) ?_
  refine lv_aload_n hx hb dX7_warnedBy_1 rfl (lv_at hl 0 rfl) ?_
  refine zget B hW 0 rfl lf_X7_10 rfl dX7_warnedBy_2 ?_
  refine zget B hW 2 rfl lf_X7_103 rfl dX7_warnedBy_5 ?_
  refine zget B hW 3 rfl lf_X7_153 rfl dX7_warnedBy_8 ?_
  refine zxS (w1 := []) (wc := []) (w2 := swW G h0 ad0 sw ++ (worW G (ad0 0) ad wo ++ (subW G (ad 3) adu su))) (As := [.int a, .int (nI su.2.2.2.2.2.2.2.2.2.1)]) B (hW.eq rfl) (c_X7_checkNumber l G a (nI su.2.2.2.2.2.2.2.2.2.1) (hst)) yd_X7_checkNumber ml_X7_87 rfl hl.1 rfl (Nat.le_of_ble_eq_true rfl) ⟨Nat.le_of_ble_eq_true rfl, Nat.le_of_ble_eq_true rfl⟩ ⟨(Nat.le_of_ble_eq_true rfl), (Nat.le_of_ble_eq_true rfl)⟩ dX7_warnedBy_11 (fun v u H locs hp hW => ?_) (fun E_ q_ ce_ u H locs hp hW hce hcv hcl => ?_)
  · obtain ⟨x_11, rfl, rfl⟩ := hp
    have hW := hW.eq (w' := swW G h0 ad0 sw ++ (worW G (ad0 0) ad wo ++ (subW G (ad 3) adu su))) rfl
    refine lv_aload_n hx hb dX7_warnedBy_14 rfl (lv_at hl 0 rfl) ?_
    refine zget B hW 0 rfl lf_X7_10 rfl dX7_warnedBy_15 ?_
    refine zget B hW 2 rfl lf_X7_103 rfl dX7_warnedBy_18 ?_
    refine zget B hW 3 rfl lf_X7_162 rfl dX7_warnedBy_21 ?_
    refine lv_iload_n hx hb dX7_warnedBy_24 rfl (lv_at hl 1 rfl) ?_
    refine ziald B hW 11 rfl (znum rfl (by have := hC.1; have := hC.2.1; have := hC.2.2.1; omega) (by have := hC.1; have := hC.2.1; omega) x_11) dX7_warnedBy_25 ?_
    have e_0 : (if (x_X7_checkNumber a (nI su.2.2.2.2.2.2.2.2.2.1)) = (0 : Int32) then (su.2.2.2.2.2.2.2.2.1 a.toNatClampNeg) else (0 : Int32)) = (su.2.2.2.2.2.2.2.2.1 a.toNatClampNeg) := if_pos x_11
    exact vx_ret (ziret B hr hlk hW ⟨(if_pos x_11), by show _ = some (Value.int (if (x_X7_checkNumber a (nI su.2.2.2.2.2.2.2.2.2.1)) = (0 : Int32) then (su.2.2.2.2.2.2.2.2.1 a.toNatClampNeg) else (0 : Int32))) <;> (try rw [e_0]) <;> rfl, by show _ = swW G h0 ad0 sw ++ (worW G (ad0 0) ad wo ++ (subW G (ad 3) adu su)) <;> (try rw [e_0]) <;> rfl⟩ (Nat.le_refl _) (Nat.le_refl _) dX7_warnedBy_26)
  · obtain ⟨x_11, hE, rfl⟩ := hp
    have e_x : (if (x_X7_checkNumber a (nI su.2.2.2.2.2.2.2.2.2.1)) = (0 : Int32) then (0 : Int32) else (1 : Int32)) = (1 : Int32) := if_neg x_11
    exact zxout B hex hlk hce hcv hcl hW ⟨by show ¬ (if (x_X7_checkNumber a (nI su.2.2.2.2.2.2.2.2.2.1)) = (0 : Int32) then (0 : Int32) else (1 : Int32)) = (0 : Int32); rw [e_x]; decide, by show _ = zExn (if (x_X7_checkNumber a (nI su.2.2.2.2.2.2.2.2.2.1)) = (0 : Int32) then (0 : Int32) else (1 : Int32)); rw [e_x, hE, x1_X7_checkNumber x_11], rfl⟩ (Nat.le_of_ble_eq_true rfl) (Nat.le_of_ble_eq_true rfl)
theorem x1_X7_warnedBy {su_9 : Nat} {a : Int32} (h : ¬ x_X7_warnedBy su_9 a = (0 : Int32)) : x_X7_warnedBy su_9 a = (1 : Int32) := by
  unfold x_X7_warnedBy at h ⊢
  (repeat' split at h) <;> (repeat' split) <;> simp_all
theorem xb_X7_warnedBy {su_9 : Nat} {a : Int32} : x_X7_warnedBy su_9 a = (0 : Int32) ∨ x_X7_warnedBy su_9 a = (1 : Int32) := by
  unfold x_X7_warnedBy
  (repeat' split) <;> simp
def r_X7_trustShare (se_4 : Nat → Int32) (se_8 : Int32) (ns : Nat) : UInt32 := (if se_8 = (0 : Int32) then FP.fconst0 else (FP.fdiv (FP.i2f (r_X4_counting se_4 ns)) (FP.i2f se_8)))
def x_X7_trustShare (se_8 : Int32) : Int32 := (if se_8 = (0 : Int32) then (5 : Int32) else (0 : Int32))
abbrev po_X7_trustShare (G : zG) (h0 : Nat) (ad0 : Nat → Nat) (sw : zSw) (ad : Nat → Nat) (wo : zWor) (ads : Nat → Nat) (se : zSens) (ns : Nat) : Option Value → va_W → Prop := fun r u => (x_X7_trustShare se.2.2.2.2.2.2.2.2.1) = (0 : Int32) ∧ r = some (.float (r_X7_trustShare se.2.2.2.2.1 se.2.2.2.2.2.2.2.2.1 ns)) ∧ u = swW G h0 ad0 sw ++ (worW G (ad0 0) ad wo ++ (sensW G (ad 2) ads se))
abbrev px_X7_trustShare (G : zG) (h0 : Nat) (ad0 : Nat → Nat) (sw : zSw) (ad : Nat → Nat) (wo : zWor) (ads : Nat → Nat) (se : zSens) (ns : Nat) : String → va_W → Prop := fun E u => ¬ (x_X7_trustShare se.2.2.2.2.2.2.2.2.1) = (0 : Int32) ∧ E = zExn (x_X7_trustShare se.2.2.2.2.2.2.2.2.1) ∧ u = swW G h0 ad0 sw ++ (worW G (ad0 0) ad wo ++ (sensW G (ad 2) ads se))
set_option maxHeartbeats 4000000 in
set_option maxRecDepth 100000 in
theorem c_X7_trustShare (l : Launch) (G : zG) (h0 : Nat) (ad0 : Nat → Nat) (sw : zSw) (ad : Nat → Nat) (wo : zWor) (ads : Nat → Nat) (se : zSens) (ns : Nat) (hst : l.stackTraces = false) (hcs : se.2.2.2.2.2.2.2.2.1 = nI ns) (hns : ns ≤ 10) (hf : se.2.2.2.2.2.2.2.2.1 = (0 : Int32) ∨ vf_n32 (FP.fdiv (FP.i2f (r_X4_counting se.2.2.2.2.1 ns)) (FP.i2f se.2.2.2.2.2.2.2.2.1))) : zX l yX7_trustShare cX7_trustShare 1 (some .float) 7 1 6 G [.ref h0] (swW G h0 ad0 sw ++ (worW G (ad0 0) ad wo ++ (sensW G (ad 2) ads se))) (po_X7_trustShare G h0 ad0 sw ad wo ads se ns) (px_X7_trustShare G h0 ad0 sw ad wo ads se ns) := by
  refine zX.of RX7 rfl (by decide) (Nat.le_of_ble_eq_true rfl) ?_
  intro p e s m args below meth c A ls B hr hlk hnm hex hW hl
  have hx := B.x
  have hb := B.b
  have hl : lv_has ls 1 [(0, .ref h0)] := hl
  refine lv_aload_n hx hb dX7_trustShare_0 rfl (lv_at hl 0 rfl) ?_
  refine zget B hW 0 rfl lf_X7_10 rfl dX7_trustShare_1 ?_
  refine zget B hW 2 rfl lf_X7_74 rfl dX7_trustShare_4 ?_
  refine zget B hW 3 rfl lf_X7_78 rfl dX7_trustShare_7 ?_
  refine lv_if_ne (tgt := 23) hx hb dX7_trustShare_10 (by decide) (fun c_10 => ?_) (fun c_10 => ?_)
  · refine lv_aload_n hx hb dX7_trustShare_23 rfl (lv_at hl 0 rfl) ?_
    refine zget B hW 0 rfl lf_X7_10 rfl dX7_trustShare_24 ?_
    refine zget B hW 2 rfl lf_X7_74 rfl dX7_trustShare_27 ?_
    refine zcV (w1 := swW G h0 ad0 sw ++ (worW G (ad0 0) ad wo)) (wc := sensW G (ad 2) ads se) (w2 := []) (As := []) B (hW.eq rfl) (c_X4_counting l G (ad 2) ads se ns (hcs) (hns)) yd_X4_counting ml_X7_186 0 rfl rfl rfl rfl hl.1 rfl (Nat.le_of_ble_eq_true rfl) ⟨Nat.le_of_ble_eq_true rfl, Nat.le_of_ble_eq_true rfl⟩ ⟨(Nat.le_of_ble_eq_true rfl), (Nat.le_of_ble_eq_true rfl)⟩ dX7_trustShare_30 (fun v u H locs hp hW => ?_)
    obtain ⟨rfl, rfl⟩ := hp
    have hW := hW.eq (w' := swW G h0 ad0 sw ++ (worW G (ad0 0) ad wo ++ (sensW G (ad 2) ads se))) rfl
    refine lv_i2f hx hb dX7_trustShare_33 ?_
    refine lv_aload_n hx hb dX7_trustShare_34 rfl (lv_at hl 0 rfl) ?_
    refine zget B hW 0 rfl lf_X7_10 rfl dX7_trustShare_35 ?_
    refine zget B hW 2 rfl lf_X7_74 rfl dX7_trustShare_38 ?_
    refine zget B hW 3 rfl lf_X7_78 rfl dX7_trustShare_41 ?_
    refine lv_i2f hx hb dX7_trustShare_44 ?_
    refine lv_fdiv hx hb dX7_trustShare_45 (hf.resolve_left c_10) ?_
    have e_0 : (if se.2.2.2.2.2.2.2.2.1 = (0 : Int32) then FP.fconst0 else (FP.fdiv (FP.i2f (r_X4_counting se.2.2.2.2.1 ns)) (FP.i2f se.2.2.2.2.2.2.2.2.1))) = (FP.fdiv (FP.i2f (r_X4_counting se.2.2.2.2.1 ns)) (FP.i2f se.2.2.2.2.2.2.2.2.1)) := if_neg c_10
    exact vx_ret (zfret B hr hlk hW ⟨(if_neg c_10), by show _ = some (Value.float (if se.2.2.2.2.2.2.2.2.1 = (0 : Int32) then FP.fconst0 else (FP.fdiv (FP.i2f (r_X4_counting se.2.2.2.2.1 ns)) (FP.i2f se.2.2.2.2.2.2.2.2.1)))) <;> (try rw [e_0]) <;> rfl, by show _ = swW G h0 ad0 sw ++ (worW G (ad0 0) ad wo ++ (sensW G (ad 2) ads se)) <;> (try rw [e_0]) <;> rfl⟩ (Nat.le_of_ble_eq_true rfl) (Nat.le_of_ble_eq_true rfl) dX7_trustShare_46)
  · have e_x : (if se.2.2.2.2.2.2.2.2.1 = (0 : Int32) then (5 : Int32) else (0 : Int32)) = (5 : Int32) := if_pos c_10
    exact zthrow B hst hex hlk thr_X7_183 hW ⟨by show ¬ (if se.2.2.2.2.2.2.2.2.1 = (0 : Int32) then (5 : Int32) else (0 : Int32)) = (0 : Int32); rw [e_x]; decide, by show _ = zExn (if se.2.2.2.2.2.2.2.2.1 = (0 : Int32) then (5 : Int32) else (0 : Int32)); rw [e_x]; rfl, rfl⟩ hl.1 dX7_trustShare_13 dX7_trustShare_16 dX7_trustShare_17 dX7_trustShare_19 dX7_trustShare_22 (Nat.le_of_ble_eq_true rfl) (Nat.le_of_ble_eq_true rfl) (Nat.le_of_ble_eq_true rfl) (Nat.le_of_ble_eq_true rfl) (Nat.le_of_ble_eq_true rfl) (Nat.le_of_ble_eq_true rfl)
theorem x1_X7_trustShare {se_8 : Int32} (h : ¬ x_X7_trustShare se_8 = (0 : Int32)) : x_X7_trustShare se_8 = (5 : Int32) := by
  unfold x_X7_trustShare at h ⊢
  (repeat' split at h) <;> (repeat' split) <;> simp_all
theorem xb_X7_trustShare {se_8 : Int32} : x_X7_trustShare se_8 = (0 : Int32) ∨ x_X7_trustShare se_8 = (5 : Int32) := by
  unfold x_X7_trustShare
  (repeat' split) <;> simp
def r_X7_meanSmoke (la_2 : Nat → Int32) : UInt64 := (FP.ddiv (FP.l2d (r_X1_smokeInAll la_2)) (4631952216750555136 : UInt64))
abbrev po_X7_meanSmoke (G : zG) (h0 : Nat) (ad0 : Nat → Nat) (sw : zSw) (ad : Nat → Nat) (wo : zWor) (adl : Nat → Nat) (la : zLand) : Option Value → va_W → Prop := fun r u => r = some (.double (r_X7_meanSmoke la.2.2.1)) ∧ u = swW G h0 ad0 sw ++ (worW G (ad0 0) ad wo ++ (landW G (ad 0) adl la))
set_option maxHeartbeats 4000000 in
set_option maxRecDepth 100000 in
theorem c_X7_meanSmoke (l : Launch) (G : zG) (h0 : Nat) (ad0 : Nat → Nat) (sw : zSw) (ad : Nat → Nat) (wo : zWor) (adl : Nat → Nat) (la : zLand) (hf : vf_n64 (FP.ddiv (FP.l2d (r_X1_smokeInAll la.2.2.1)) 4631952216750555136)) : zC l yX7_meanSmoke cX7_meanSmoke 1 (some .double) 1 0 0 G [.ref h0] (swW G h0 ad0 sw ++ (worW G (ad0 0) ad wo ++ (landW G (ad 0) adl la))) (po_X7_meanSmoke G h0 ad0 sw ad wo adl la) := by
  refine zC.of RX7 rfl (by decide) (Nat.le_of_ble_eq_true rfl) ?_
  intro p e s m args below meth c A ls B hr hlk hnm hW hl
  have hx := B.x
  have hb := B.b
  have hl : lv_has ls 1 [(0, .ref h0)] := hl
  refine lv_aload_n hx hb dX7_meanSmoke_0 rfl (lv_at hl 0 rfl) ?_
  refine zget B hW 0 rfl lf_X7_10 rfl dX7_meanSmoke_1 ?_
  refine zget B hW 2 rfl lf_X7_48 rfl dX7_meanSmoke_4 ?_
  refine zcV (w1 := swW G h0 ad0 sw ++ (worW G (ad0 0) ad wo)) (wc := landW G (ad 0) adl la) (w2 := []) (As := []) B (hW.eq rfl) (c_X1_smokeInAll l G (ad 0) adl la) yd_X1_smokeInAll ml_X7_190 0 rfl rfl rfl rfl hl.1 rfl (Nat.le_of_ble_eq_true rfl) ⟨Nat.le_of_ble_eq_true rfl, Nat.le_of_ble_eq_true rfl⟩ ⟨(Nat.le_of_ble_eq_true rfl), (Nat.le_of_ble_eq_true rfl)⟩ dX7_meanSmoke_7 (fun v u H locs hp hW => ?_)
  obtain ⟨rfl, rfl⟩ := hp
  have hW := hW.eq (w' := swW G h0 ad0 sw ++ (worW G (ad0 0) ad wo ++ (landW G (ad 0) adl la))) rfl
  refine lv_l2d hx hb dX7_meanSmoke_10 ?_
  refine lv_ldc2d hx hb B.o (B.ts _ kn_X7_194) dX7_meanSmoke_11 ?_
  refine lv_ddiv hx hb dX7_meanSmoke_14 (hf) ?_
  exact zdret B hr hlk hW ⟨rfl, rfl⟩ (Nat.le_refl _) (Nat.le_refl _) dX7_meanSmoke_15
def r_X7_isKept (la_2 : Nat → Int32) (la_11 : Int64) (la_12 : Int64) (la_13 : Int64) (se_9 : Int64) : Int32 := (if (lg_cmp (r_X1_smokeInAll la_2) ((((r_X7_made la_11) + (r_X7_mended se_9)) - (r_X7_blown la_12)) - (r_X7_settled la_13))) = (0 : Int32) then (1 : Int32) else (0 : Int32))
abbrev po_X7_isKept (G : zG) (h0 : Nat) (ad0 : Nat → Nat) (sw : zSw) (ad : Nat → Nat) (wo : zWor) (adl : Nat → Nat) (la : zLand) (ads : Nat → Nat) (se : zSens) : Option Value → va_W → Prop := fun r u => r = some (.int (r_X7_isKept la.2.2.1 la.2.2.2.2.2.2.2.2.2.2.2.1 la.2.2.2.2.2.2.2.2.2.2.2.2.1 la.2.2.2.2.2.2.2.2.2.2.2.2.2 se.2.2.2.2.2.2.2.2.2)) ∧ u = swW G h0 ad0 sw ++ (worW G (ad0 0) ad wo ++ (landW G (ad 0) adl la ++ (sensW G (ad 2) ads se)))
set_option maxHeartbeats 4000000 in
set_option maxRecDepth 100000 in
theorem c_X7_isKept (l : Launch) (G : zG) (h0 : Nat) (ad0 : Nat → Nat) (sw : zSw) (ad : Nat → Nat) (wo : zWor) (adl : Nat → Nat) (la : zLand) (ads : Nat → Nat) (se : zSens) : zC l yX7_isKept cX7_isKept 1 (some .boolean) 1 0 0 G [.ref h0] (swW G h0 ad0 sw ++ (worW G (ad0 0) ad wo ++ (landW G (ad 0) adl la ++ (sensW G (ad 2) ads se)))) (po_X7_isKept G h0 ad0 sw ad wo adl la ads se) := by
  refine zC.of RX7 rfl (by decide) (Nat.le_of_ble_eq_true rfl) ?_
  intro p e s m args below meth c A ls B hr hlk hnm hW hl
  have hx := B.x
  have hb := B.b
  have hl : lv_has ls 1 [(0, .ref h0)] := hl
  refine lv_aload_n hx hb dX7_isKept_0 rfl (lv_at hl 0 rfl) ?_
  refine zget B hW 0 rfl lf_X7_10 rfl dX7_isKept_1 ?_
  refine zget B hW 2 rfl lf_X7_48 rfl dX7_isKept_4 ?_
  refine zcV (w1 := swW G h0 ad0 sw ++ (worW G (ad0 0) ad wo)) (wc := landW G (ad 0) adl la) (w2 := sensW G (ad 2) ads se) (As := []) B (hW.eq rfl) (c_X1_smokeInAll l G (ad 0) adl la) yd_X1_smokeInAll ml_X7_190 0 rfl rfl rfl rfl hl.1 rfl (Nat.le_of_ble_eq_true rfl) ⟨Nat.le_of_ble_eq_true rfl, Nat.le_of_ble_eq_true rfl⟩ ⟨(Nat.le_of_ble_eq_true rfl), (Nat.le_of_ble_eq_true rfl)⟩ dX7_isKept_7 (fun v u H locs hp hW => ?_)
  obtain ⟨rfl, rfl⟩ := hp
  have hW := hW.eq (w' := swW G h0 ad0 sw ++ (worW G (ad0 0) ad wo ++ (landW G (ad 0) adl la ++ (sensW G (ad 2) ads se)))) rfl
  refine lv_aload_n hx hb dX7_isKept_10 rfl (lv_at hl 0 rfl) ?_
  refine zcV (w1 := []) (wc := swW G h0 ad0 sw ++ (worW G (ad0 0) ad wo ++ (landW G (ad 0) adl la))) (w2 := sensW G (ad 2) ads se) (As := []) B (hW.eq rfl) (c_X7_made l G h0 ad0 sw ad wo adl la) yd_X7_made ml_X7_196 0 rfl rfl rfl rfl hl.1 rfl (Nat.le_of_ble_eq_true rfl) ⟨Nat.le_of_ble_eq_true rfl, Nat.le_of_ble_eq_true rfl⟩ ⟨(Nat.le_of_ble_eq_true rfl), (Nat.le_of_ble_eq_true rfl)⟩ dX7_isKept_11 (fun v u H locs hp hW => ?_)
  obtain ⟨rfl, rfl⟩ := hp
  have hW := hW.eq (w' := swW G h0 ad0 sw ++ (worW G (ad0 0) ad wo ++ (landW G (ad 0) adl la ++ (sensW G (ad 2) ads se)))) rfl
  refine lv_aload_n hx hb dX7_isKept_14 rfl (lv_at hl 0 rfl) ?_
  have hW := hW.sub (w' := swW G h0 ad0 sw ++ (worW G (ad0 0) ad wo ++ (sensW G (ad 2) ads se ++ (landW G (ad 0) adl la)))) [0, 1, 2, 11, 12, 13, 14, 15, 16, 17, 18, 19, 3, 4, 5, 6, 7, 8, 9, 10] rfl rfl
  refine zcV (w1 := []) (wc := swW G h0 ad0 sw ++ (worW G (ad0 0) ad wo ++ (sensW G (ad 2) ads se))) (w2 := landW G (ad 0) adl la) (As := []) B (hW.eq rfl) (c_X7_mended l G h0 ad0 sw ad wo ads se) yd_X7_mended ml_X7_199 0 rfl rfl rfl rfl hl.1 rfl (Nat.le_of_ble_eq_true rfl) ⟨Nat.le_of_ble_eq_true rfl, Nat.le_of_ble_eq_true rfl⟩ ⟨(Nat.le_of_ble_eq_true rfl), (Nat.le_of_ble_eq_true rfl)⟩ dX7_isKept_15 (fun v u H locs hp hW => ?_)
  obtain ⟨rfl, rfl⟩ := hp
  have hW := hW.eq (w' := swW G h0 ad0 sw ++ (worW G (ad0 0) ad wo ++ (sensW G (ad 2) ads se ++ (landW G (ad 0) adl la)))) rfl
  refine lv_ladd hx hb dX7_isKept_18 ?_
  refine lv_aload_n hx hb dX7_isKept_19 rfl (lv_at hl 0 rfl) ?_
  have hW := hW.sub (w' := swW G h0 ad0 sw ++ (worW G (ad0 0) ad wo ++ (landW G (ad 0) adl la ++ (sensW G (ad 2) ads se)))) [0, 1, 2, 12, 13, 14, 15, 16, 17, 18, 19, 3, 4, 5, 6, 7, 8, 9, 10, 11] rfl rfl
  refine zcV (w1 := []) (wc := swW G h0 ad0 sw ++ (worW G (ad0 0) ad wo ++ (landW G (ad 0) adl la))) (w2 := sensW G (ad 2) ads se) (As := []) B (hW.eq rfl) (c_X7_blown l G h0 ad0 sw ad wo adl la) yd_X7_blown ml_X7_202 0 rfl rfl rfl rfl hl.1 rfl (Nat.le_of_ble_eq_true rfl) ⟨Nat.le_of_ble_eq_true rfl, Nat.le_of_ble_eq_true rfl⟩ ⟨(Nat.le_of_ble_eq_true rfl), (Nat.le_of_ble_eq_true rfl)⟩ dX7_isKept_20 (fun v u H locs hp hW => ?_)
  obtain ⟨rfl, rfl⟩ := hp
  have hW := hW.eq (w' := swW G h0 ad0 sw ++ (worW G (ad0 0) ad wo ++ (landW G (ad 0) adl la ++ (sensW G (ad 2) ads se)))) rfl
  refine lv_lsub hx hb dX7_isKept_23 ?_
  refine lv_aload_n hx hb dX7_isKept_24 rfl (lv_at hl 0 rfl) ?_
  refine zcV (w1 := []) (wc := swW G h0 ad0 sw ++ (worW G (ad0 0) ad wo ++ (landW G (ad 0) adl la))) (w2 := sensW G (ad 2) ads se) (As := []) B (hW.eq rfl) (c_X7_settled l G h0 ad0 sw ad wo adl la) yd_X7_settled ml_X7_205 0 rfl rfl rfl rfl hl.1 rfl (Nat.le_of_ble_eq_true rfl) ⟨Nat.le_of_ble_eq_true rfl, Nat.le_of_ble_eq_true rfl⟩ ⟨(Nat.le_of_ble_eq_true rfl), (Nat.le_of_ble_eq_true rfl)⟩ dX7_isKept_25 (fun v u H locs hp hW => ?_)
  obtain ⟨rfl, rfl⟩ := hp
  have hW := hW.eq (w' := swW G h0 ad0 sw ++ (worW G (ad0 0) ad wo ++ (landW G (ad 0) adl la ++ (sensW G (ad 2) ads se)))) rfl
  refine lv_lsub hx hb dX7_isKept_28 ?_
  refine W.lcmp hx hb dX7_isKept_29 ?_
  have J_1 : ∀ (H : Heap) (locs : List Loc) (ls : Array Slot), zW G A s.heap H locs (swW G h0 ad0 sw ++ (worW G (ad0 0) ad wo ++ (landW G (ad 0) adl la ++ (sensW G (ad 2) ads se)))) → lv_has ls 1 [] → W p l e (zRm 1 0 0) s m args below meth c H locs 0 0 (MQ below (zQ G A (po_X7_isKept G h0 ad0 sw ad wo adl la ads se)) args s 0 0 A) (F0 m 38 ls [.int (if (lg_cmp (r_X1_smokeInAll la.2.2.1) ((((r_X7_made la.2.2.2.2.2.2.2.2.2.2.2.1) + (r_X7_mended se.2.2.2.2.2.2.2.2.2)) - (r_X7_blown la.2.2.2.2.2.2.2.2.2.2.2.2.1)) - (r_X7_settled la.2.2.2.2.2.2.2.2.2.2.2.2.2))) = (0 : Int32) then (1 : Int32) else (0 : Int32))]) := by
    intro H locs ls hW hl
    exact zzret B hr hlk (by (repeat' split) <;> rfl) hW ⟨rfl, rfl⟩ (Nat.le_refl _) (Nat.le_refl _) dX7_isKept_38
  refine lv_if_ne (tgt := 37) hx hb dX7_isKept_30 (by decide) (fun c_30 => ?_) (fun c_30 => ?_)
  · refine lv_iconst (v := (0 : Int32)) hx hb dX7_isKept_37 (by decide) ?_
    have e_0 : (if (lg_cmp (r_X1_smokeInAll la.2.2.1) ((((r_X7_made la.2.2.2.2.2.2.2.2.2.2.2.1) + (r_X7_mended se.2.2.2.2.2.2.2.2.2)) - (r_X7_blown la.2.2.2.2.2.2.2.2.2.2.2.2.1)) - (r_X7_settled la.2.2.2.2.2.2.2.2.2.2.2.2.2))) = (0 : Int32) then (1 : Int32) else (0 : Int32)) = (0 : Int32) := if_neg c_30
    refine W.eq (g2 := F0 m 38 ls [.int (if (lg_cmp (r_X1_smokeInAll la.2.2.1) ((((r_X7_made la.2.2.2.2.2.2.2.2.2.2.2.1) + (r_X7_mended se.2.2.2.2.2.2.2.2.2)) - (r_X7_blown la.2.2.2.2.2.2.2.2.2.2.2.2.1)) - (r_X7_settled la.2.2.2.2.2.2.2.2.2.2.2.2.2))) = (0 : Int32) then (1 : Int32) else (0 : Int32))]) (by (try rw [e_0]) <;> rfl) ?_
    exact J_1 _ _ _ (hW.eq (by (try rw [e_0]) <;> rfl)) (by (try rw [e_0]) <;> exact lv_sub hl [] rfl)
  · refine lv_iconst (v := (1 : Int32)) hx hb dX7_isKept_33 (by decide) ?_
    refine lv_goto (tgt := 38) hx hb dX7_isKept_34 (by decide) ?_
    have e_0 : (if (lg_cmp (r_X1_smokeInAll la.2.2.1) ((((r_X7_made la.2.2.2.2.2.2.2.2.2.2.2.1) + (r_X7_mended se.2.2.2.2.2.2.2.2.2)) - (r_X7_blown la.2.2.2.2.2.2.2.2.2.2.2.2.1)) - (r_X7_settled la.2.2.2.2.2.2.2.2.2.2.2.2.2))) = (0 : Int32) then (1 : Int32) else (0 : Int32)) = (1 : Int32) := if_pos c_30
    refine W.eq (g2 := F0 m 38 ls [.int (if (lg_cmp (r_X1_smokeInAll la.2.2.1) ((((r_X7_made la.2.2.2.2.2.2.2.2.2.2.2.1) + (r_X7_mended se.2.2.2.2.2.2.2.2.2)) - (r_X7_blown la.2.2.2.2.2.2.2.2.2.2.2.2.1)) - (r_X7_settled la.2.2.2.2.2.2.2.2.2.2.2.2.2))) = (0 : Int32) then (1 : Int32) else (0 : Int32))]) (by (try rw [e_0]) <;> rfl) ?_
    exact J_1 _ _ _ (hW.eq (by (try rw [e_0]) <;> rfl)) (by (try rw [e_0]) <;> exact lv_sub hl [] rfl)
