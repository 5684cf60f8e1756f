def g_X12_setFuel_md_0 (a : Int32) (b : Int32) (f : Int32) : Int32 := (g_X12_isWrong_md_0 (if (r_X12_isCell a b) = (0 : Int32) then (1 : Int32) else (if (r_X12_isBetween f (0 : Int32) (99 : Int32)) = (0 : Int32) then (2 : Int32) else (0 : Int32))))
def f_X12_setFuel_md (md : zMd) (ml : zMl) (a : Int32) (b : Int32) (f : Int32) : zMd := (g_X12_setFuel_md_0 a b f, md.2.1, md.2.2.1, md.2.2.2)
def g_X12_setFuel_ml_0 (ml_0 : Nat → Int32) (a : Int32) (b : Int32) (f : Int32) : Nat → Int32 := (if (r_X12_isWrong (if (r_X12_isCell a b) = (0 : Int32) then (1 : Int32) else (if (r_X12_isBetween f (0 : Int32) (99 : Int32)) = (0 : Int32) then (2 : Int32) else (0 : Int32)))) = (0 : Int32) then (upd ml_0 (r_X12_at a b).toNatClampNeg f) else ml_0)
def f_X12_setFuel_ml (md : zMd) (ml : zMl) (a : Int32) (b : Int32) (f : Int32) : zMl := (g_X12_setFuel_ml_0 ml.1 a b f, ml.2.1, ml.2.2.1, ml.2.2.2.1, ml.2.2.2.2.1, ml.2.2.2.2.2.1, ml.2.2.2.2.2.2.1, ml.2.2.2.2.2.2.2.1, ml.2.2.2.2.2.2.2.2.1, ml.2.2.2.2.2.2.2.2.2.1, ml.2.2.2.2.2.2.2.2.2.2.1, ml.2.2.2.2.2.2.2.2.2.2.2.1, ml.2.2.2.2.2.2.2.2.2.2.2.2)
def r_X12_setFuel (ml_0 : Nat → Int32) (a : Int32) (b : Int32) (f : Int32) : Int32 := (if (r_X12_isWrong (if (r_X12_isCell a b) = (0 : Int32) then (1 : Int32) else (if (r_X12_isBetween f (0 : Int32) (99 : Int32)) = (0 : Int32) then (2 : Int32) else (0 : Int32)))) = (0 : Int32) then (ml_0 (r_X12_at a b).toNatClampNeg) else (0 : Int32))
abbrev po_X12_setFuel (G : zG) (h : Nat) (ad : Nat → Nat) (md : zMd) (adm : Nat → Nat) (ml : zMl) (a : Int32) (b : Int32) (f : Int32) : Option Value → va_W → Prop := fun r u => r = some (.int (r_X12_setFuel ml.1 a b f)) ∧ u = mdW G h ad (f_X12_setFuel_md md ml a b f) ++ (mlW G (ad 0) adm (f_X12_setFuel_ml md ml a b f))
set_option maxHeartbeats 4000000 in
set_option maxRecDepth 100000 in
theorem c_X12_setFuel (l : Launch) (G : zG) (h : Nat) (ad : Nat → Nat) (md : zMd) (adm : Nat → Nat) (ml : zMl) (a : Int32) (b : Int32) (f : Int32) : zC l yX12_setFuel cX12_setFuel 5 (some .int) 3 0 0 G [.ref h, .int a, .int b, .int f] (mdW G h ad md ++ (mlW G (ad 0) adm ml)) (po_X12_setFuel G h ad md adm ml a b f) := by
  refine zC.of RX12 rfl (by decide) (Nat.le_of_ble_eq_true rfl) ?_
  intro p e s m args below meth c A ls B hr hlk hnm hW hl
  have hx := B.x
  have hb := B.b
  have hl : lv_has ls 5 [(0, .ref h), (1, .int a), (2, .int b), (3, .int f)] := hl
  refine lv_aload_n hx hb dX12_setFuel_0 rfl (lv_at hl 0 rfl) ?_
  refine lv_iload_n hx hb dX12_setFuel_1 rfl (lv_at hl 1 rfl) ?_
  refine lv_iload_n hx hb dX12_setFuel_2 rfl (lv_at hl 2 rfl) ?_
  refine zcS (w1 := []) (wc := []) (w2 := mdW G h ad md ++ (mlW G (ad 0) adm ml)) (As := [.int a, .int b]) B (hW.eq rfl) (c_X12_isCell l G a b) yd_X12_isCell ml_X12_40 rfl hl.1 rfl (Nat.le_of_ble_eq_true rfl) ⟨Nat.le_of_ble_eq_true rfl, Nat.le_of_ble_eq_true rfl⟩ ⟨(Nat.le_of_ble_eq_true rfl), (Nat.le_of_ble_eq_true rfl)⟩ dX12_setFuel_3 (fun v u H locs hp hW => ?_)
  obtain ⟨rfl, rfl⟩ := hp
  have hW := hW.eq (w' := mdW G h ad md ++ (mlW G (ad 0) adm ml)) rfl
  have J_1 : ∀ (H : Heap) (locs : List Loc) (ls : Array Slot), zW G A s.heap H locs (mdW G h ad md ++ (mlW G (ad 0) adm ml)) → lv_has ls 5 [(0, .ref h), (1, .int a), (2, .int b), (3, .int f)] → W p l e (zRm 3 0 0) s m args below meth c H locs 0 0 (MQ below (zQ G A (po_X12_setFuel G h ad md adm ml a b f)) args s 0 0 A) (F0 m 28 ls [.int (if (r_X12_isCell a b) = (0 : Int32) then (1 : Int32) else (if (r_X12_isBetween f (0 : Int32) (99 : Int32)) = (0 : Int32) then (2 : Int32) else (0 : Int32))), .ref h]) := by
    intro H locs ls hW hl
    refine zcV (w1 := []) (wc := mdW G h ad md) (w2 := mlW G (ad 0) adm ml) (As := [.int (if (r_X12_isCell a b) = (0 : Int32) then (1 : Int32) else (if (r_X12_isBetween f (0 : Int32) (99 : Int32)) = (0 : Int32) then (2 : Int32) else (0 : Int32)))]) B (hW.eq rfl) (c_X12_isWrong l G h ad md (if (r_X12_isCell a b) = (0 : Int32) then (1 : Int32) else (if (r_X12_isBetween f (0 : Int32) (99 : Int32)) = (0 : Int32) then (2 : Int32) else (0 : Int32)))) yd_X12_isWrong ml_X12_44 0 rfl rfl rfl rfl hl.1 rfl (Nat.le_of_ble_eq_true rfl) ⟨Nat.le_of_ble_eq_true rfl, Nat.le_of_ble_eq_true rfl⟩ ⟨(Nat.le_of_ble_eq_true rfl), (Nat.le_of_ble_eq_true rfl)⟩ dX12_setFuel_28 (fun v u H locs hp hW => ?_)
    obtain ⟨rfl, rfl⟩ := hp
    have hW := hW.eq (w' := mdW G h ad ((g_X12_isWrong_md_0 (if (r_X12_isCell a b) = (0 : Int32) then (1 : Int32) else (if (r_X12_isBetween f (0 : Int32) (99 : Int32)) = (0 : Int32) then (2 : Int32) else (0 : Int32)))), md.2.1, md.2.2.1, md.2.2.2) ++ (mlW G (ad 0) adm ml)) rfl
    refine lv_if_eq (tgt := 36) hx hb dX12_setFuel_31 (by decide) (fun c_31 => ?_) (fun c_31 => ?_)
    · refine lv_aload_n hx hb dX12_setFuel_36 rfl (lv_at hl 0 rfl) ?_
      refine zget B hW 0 rfl lf_X12_10 rfl dX12_setFuel_37 ?_
      refine zgetN B hW 1 rfl lf_X12_48 rfl dX12_setFuel_40 ?_
      refine lv_iload_n hx hb dX12_setFuel_43 rfl (lv_at hl 1 rfl) ?_
      refine lv_iload_n hx hb dX12_setFuel_44 rfl (lv_at hl 2 rfl) ?_
      refine zcS (w1 := []) (wc := []) (w2 := mdW G h ad ((g_X12_isWrong_md_0 (if (r_X12_isCell a b) = (0 : Int32) then (1 : Int32) else (if (r_X12_isBetween f (0 : Int32) (99 : Int32)) = (0 : Int32) then (2 : Int32) else (0 : Int32)))), md.2.1, md.2.2.1, md.2.2.2) ++ (mlW G (ad 0) adm ml)) (As := [.int a, .int b]) B (hW.eq rfl) (c_X12_at l G a b) yd_X12_at ml_X12_52 rfl hl.1 rfl (Nat.le_of_ble_eq_true rfl) ⟨Nat.le_of_ble_eq_true rfl, Nat.le_of_ble_eq_true rfl⟩ ⟨(Nat.le_of_ble_eq_true rfl), (Nat.le_of_ble_eq_true rfl)⟩ dX12_setFuel_45 (fun v u H locs hp hW => ?_)
      obtain ⟨rfl, rfl⟩ := hp
      have hW := hW.eq (w' := mdW G h ad ((g_X12_isWrong_md_0 (if (r_X12_isCell a b) = (0 : Int32) then (1 : Int32) else (if (r_X12_isBetween f (0 : Int32) (99 : Int32)) = (0 : Int32) then (2 : Int32) else (0 : Int32)))), md.2.1, md.2.2.1, md.2.2.2) ++ (mlW G (ad 0) adm ml)) rfl
      refine ziald B hW 2 rfl (zmcell_ix (zmw2 (k := 1) c_31 (by decide)).1) dX12_setFuel_48 ?_
      refine lv_istore hx hb dX12_setFuel_49 hl (by decide) rfl (fun ls hl => ?_)
      refine lv_aload_n hx hb dX12_setFuel_51 rfl (lv_at hl 1 rfl) ?_
      refine zget B hW 0 rfl lf_X12_10 rfl dX12_setFuel_52 ?_
      refine zgetN B hW 1 rfl lf_X12_48 rfl dX12_setFuel_55 ?_
      refine lv_iload_n hx hb dX12_setFuel_58 rfl (lv_at hl 2 rfl) ?_
      refine lv_iload_n hx hb dX12_setFuel_59 rfl (lv_at hl 3 rfl) ?_
      refine zcS (w1 := []) (wc := []) (w2 := mdW G h ad ((g_X12_isWrong_md_0 (if (r_X12_isCell a b) = (0 : Int32) then (1 : Int32) else (if (r_X12_isBetween f (0 : Int32) (99 : Int32)) = (0 : Int32) then (2 : Int32) else (0 : Int32)))), md.2.1, md.2.2.1, md.2.2.2) ++ (mlW G (ad 0) adm ml)) (As := [.int a, .int b]) B (hW.eq rfl) (c_X12_at l G a b) yd_X12_at ml_X12_52 rfl hl.1 rfl (Nat.le_of_ble_eq_true rfl) ⟨Nat.le_of_ble_eq_true rfl, Nat.le_of_ble_eq_true rfl⟩ ⟨(Nat.le_of_ble_eq_true rfl), (Nat.le_of_ble_eq_true rfl)⟩ dX12_setFuel_60 (fun v u H locs hp hW => ?_)
      obtain ⟨rfl, rfl⟩ := hp
      have hW := hW.eq (w' := mdW G h ad ((g_X12_isWrong_md_0 (if (r_X12_isCell a b) = (0 : Int32) then (1 : Int32) else (if (r_X12_isBetween f (0 : Int32) (99 : Int32)) = (0 : Int32) then (2 : Int32) else (0 : Int32)))), md.2.1, md.2.2.1, md.2.2.2) ++ (mlW G (ad 0) adm ml)) rfl
      refine lv_iload_n hx hb dX12_setFuel_63 rfl (lv_at hl 4 rfl) ?_
      refine ziast B hW 2 rfl (zmcell_ix (zmw2 (k := 1) c_31 (by decide)).1) dX12_setFuel_64 (fun H locs hW => ?_)
      refine lv_iload hx hb dX12_setFuel_65 (lv_at hl 0 rfl) ?_
      have e_0 : (if (r_X12_isWrong (if (r_X12_isCell a b) = (0 : Int32) then (1 : Int32) else (if (r_X12_isBetween f (0 : Int32) (99 : Int32)) = (0 : Int32) then (2 : Int32) else (0 : Int32)))) = (0 : Int32) then (ml.1 (r_X12_at a b).toNatClampNeg) else (0 : Int32)) = (ml.1 (r_X12_at a b).toNatClampNeg) := if_pos c_31
      have e_1 : (if (r_X12_isWrong (if (r_X12_isCell a b) = (0 : Int32) then (1 : Int32) else (if (r_X12_isBetween f (0 : Int32) (99 : Int32)) = (0 : Int32) then (2 : Int32) else (0 : Int32)))) = (0 : Int32) then (upd ml.1 (r_X12_at a b).toNatClampNeg f) else ml.1) = (upd ml.1 (r_X12_at a b).toNatClampNeg f) := if_pos c_31
      exact ziret B hr hlk hW ⟨by show _ = some (Value.int (if (r_X12_isWrong (if (r_X12_isCell a b) = (0 : Int32) then (1 : Int32) else (if (r_X12_isBetween f (0 : Int32) (99 : Int32)) = (0 : Int32) then (2 : Int32) else (0 : Int32)))) = (0 : Int32) then (ml.1 (r_X12_at a b).toNatClampNeg) else (0 : Int32))) <;> (try rw [e_0]) <;> (try rw [e_1]) <;> rfl, by show _ = mdW G h ad ((g_X12_isWrong_md_0 (if (r_X12_isCell a b) = (0 : Int32) then (1 : Int32) else (if (r_X12_isBetween f (0 : Int32) (99 : Int32)) = (0 : Int32) then (2 : Int32) else (0 : Int32)))), md.2.1, md.2.2.1, md.2.2.2) ++ (mlW G (ad 0) adm ((if (r_X12_isWrong (if (r_X12_isCell a b) = (0 : Int32) then (1 : Int32) else (if (r_X12_isBetween f (0 : Int32) (99 : Int32)) = (0 : Int32) then (2 : Int32) else (0 : Int32)))) = (0 : Int32) then (upd ml.1 (r_X12_at a b).toNatClampNeg f) else ml.1), ml.2.1, ml.2.2.1, ml.2.2.2.1, ml.2.2.2.2.1, ml.2.2.2.2.2.1, ml.2.2.2.2.2.2.1, ml.2.2.2.2.2.2.2.1, ml.2.2.2.2.2.2.2.2.1, ml.2.2.2.2.2.2.2.2.2.1, ml.2.2.2.2.2.2.2.2.2.2.1, ml.2.2.2.2.2.2.2.2.2.2.2.1, ml.2.2.2.2.2.2.2.2.2.2.2.2)) <;> (try rw [e_0]) <;> (try rw [e_1]) <;> rfl⟩ (Nat.le_refl _) (Nat.le_refl _) dX12_setFuel_67
    · refine lv_iconst (v := (0 : Int32)) hx hb dX12_setFuel_34 (by decide) ?_
      have e_0 : (if (r_X12_isWrong (if (r_X12_isCell a b) = (0 : Int32) then (1 : Int32) else (if (r_X12_isBetween f (0 : Int32) (99 : Int32)) = (0 : Int32) then (2 : Int32) else (0 : Int32)))) = (0 : Int32) then (ml.1 (r_X12_at a b).toNatClampNeg) else (0 : Int32)) = (0 : Int32) := if_neg c_31
      have e_1 : (if (r_X12_isWrong (if (r_X12_isCell a b) = (0 : Int32) then (1 : Int32) else (if (r_X12_isBetween f (0 : Int32) (99 : Int32)) = (0 : Int32) then (2 : Int32) else (0 : Int32)))) = (0 : Int32) then (upd ml.1 (r_X12_at a b).toNatClampNeg f) else ml.1) = ml.1 := if_neg c_31
      exact ziret B hr hlk hW ⟨by show _ = some (Value.int (if (r_X12_isWrong (if (r_X12_isCell a b) = (0 : Int32) then (1 : Int32) else (if (r_X12_isBetween f (0 : Int32) (99 : Int32)) = (0 : Int32) then (2 : Int32) else (0 : Int32)))) = (0 : Int32) then (ml.1 (r_X12_at a b).toNatClampNeg) else (0 : Int32))) <;> (try rw [e_0]) <;> (try rw [e_1]) <;> rfl, by show _ = mdW G h ad ((g_X12_isWrong_md_0 (if (r_X12_isCell a b) = (0 : Int32) then (1 : Int32) else (if (r_X12_isBetween f (0 : Int32) (99 : Int32)) = (0 : Int32) then (2 : Int32) else (0 : Int32)))), md.2.1, md.2.2.1, md.2.2.2) ++ (mlW G (ad 0) adm ((if (r_X12_isWrong (if (r_X12_isCell a b) = (0 : Int32) then (1 : Int32) else (if (r_X12_isBetween f (0 : Int32) (99 : Int32)) = (0 : Int32) then (2 : Int32) else (0 : Int32)))) = (0 : Int32) then (upd ml.1 (r_X12_at a b).toNatClampNeg f) else ml.1), ml.2.1, ml.2.2.1, ml.2.2.2.1, ml.2.2.2.2.1, ml.2.2.2.2.2.1, ml.2.2.2.2.2.2.1, ml.2.2.2.2.2.2.2.1, ml.2.2.2.2.2.2.2.2.1, ml.2.2.2.2.2.2.2.2.2.1, ml.2.2.2.2.2.2.2.2.2.2.1, ml.2.2.2.2.2.2.2.2.2.2.2.1, ml.2.2.2.2.2.2.2.2.2.2.2.2)) <;> (try rw [e_0]) <;> (try rw [e_1]) <;> rfl⟩ (Nat.le_refl _) (Nat.le_refl _) dX12_setFuel_35
  refine lv_if_ne (tgt := 13) hx hb dX12_setFuel_6 (by decide) (fun c_6 => ?_) (fun c_6 => ?_)
  · refine lv_iload_n hx hb dX12_setFuel_13 rfl (lv_at hl 3 rfl) ?_
    refine lv_iconst (v := (0 : Int32)) hx hb dX12_setFuel_14 (by decide) ?_
    refine lv_bipush (v := (99 : Int32)) hx hb dX12_setFuel_15 (by decide) ?_
    refine zcS (w1 := []) (wc := []) (w2 := mdW G h ad md ++ (mlW G (ad 0) adm ml)) (As := [.int f, .int (0 : Int32), .int (99 : Int32)]) B (hW.eq rfl) (c_X12_isBetween l G f (0 : Int32) (99 : Int32)) yd_X12_isBetween ml_X12_36 rfl hl.1 rfl (Nat.le_of_ble_eq_true rfl) ⟨Nat.le_of_ble_eq_true rfl, Nat.le_of_ble_eq_true rfl⟩ ⟨(Nat.le_of_ble_eq_true rfl), (Nat.le_of_ble_eq_true rfl)⟩ dX12_setFuel_17 (fun v u H locs hp hW => ?_)
    obtain ⟨rfl, rfl⟩ := hp
    have hW := hW.eq (w' := mdW G h ad md ++ (mlW G (ad 0) adm ml)) rfl
    refine lv_if_ne (tgt := 27) hx hb dX12_setFuel_20 (by decide) (fun c_20 => ?_) (fun c_20 => ?_)
    · refine lv_iconst (v := (0 : Int32)) hx hb dX12_setFuel_27 (by decide) ?_
      have e_0 : (if (r_X12_isCell a b) = (0 : Int32) then (1 : Int32) else (if (r_X12_isBetween f (0 : Int32) (99 : Int32)) = (0 : Int32) then (2 : Int32) else (0 : Int32))) = (0 : Int32) := (if_neg c_6).trans (if_neg c_20)
      refine W.eq (g2 := F0 m 28 ls [.int (if (r_X12_isCell a b) = (0 : Int32) then (1 : Int32) else (if (r_X12_isBetween f (0 : Int32) (99 : Int32)) = (0 : Int32) then (2 : Int32) else (0 : Int32))), .ref h]) (by (try rw [e_0]) <;> rfl) ?_
      exact J_1 _ _ _ (hW.eq (by (try rw [e_0]) <;> rfl)) (by (try rw [e_0]) <;> exact lv_sub hl [0, 1, 2, 3] rfl)
    · refine lv_iconst (v := (2 : Int32)) hx hb dX12_setFuel_23 (by decide) ?_
      refine lv_goto (tgt := 28) hx hb dX12_setFuel_24 (by decide) ?_
      have e_0 : (if (r_X12_isCell a b) = (0 : Int32) then (1 : Int32) else (if (r_X12_isBetween f (0 : Int32) (99 : Int32)) = (0 : Int32) then (2 : Int32) else (0 : Int32))) = (2 : Int32) := (if_neg c_6).trans (if_pos c_20)
      refine W.eq (g2 := F0 m 28 ls [.int (if (r_X12_isCell a b) = (0 : Int32) then (1 : Int32) else (if (r_X12_isBetween f (0 : Int32) (99 : Int32)) = (0 : Int32) then (2 : Int32) else (0 : Int32))), .ref h]) (by (try rw [e_0]) <;> rfl) ?_
      exact J_1 _ _ _ (hW.eq (by (try rw [e_0]) <;> rfl)) (by (try rw [e_0]) <;> exact lv_sub hl [0, 1, 2, 3] rfl)
  · refine lv_iconst (v := (1 : Int32)) hx hb dX12_setFuel_9 (by decide) ?_
    refine lv_goto (tgt := 28) hx hb dX12_setFuel_10 (by decide) ?_
    have e_0 : (if (r_X12_isCell a b) = (0 : Int32) then (1 : Int32) else (if (r_X12_isBetween f (0 : Int32) (99 : Int32)) = (0 : Int32) then (2 : Int32) else (0 : Int32))) = (1 : Int32) := if_pos c_6
    refine W.eq (g2 := F0 m 28 ls [.int (if (r_X12_isCell a b) = (0 : Int32) then (1 : Int32) else (if (r_X12_isBetween f (0 : Int32) (99 : Int32)) = (0 : Int32) then (2 : Int32) else (0 : Int32))), .ref h]) (by (try rw [e_0]) <;> rfl) ?_
    exact J_1 _ _ _ (hW.eq (by (try rw [e_0]) <;> rfl)) (by (try rw [e_0]) <;> exact lv_sub hl [0, 1, 2, 3] rfl)
def g_X12_light_md_0 (ml_0 : Nat → Int32) (ml_5 : Nat → Int32) (a : Int32) (b : Int32) (f : Int32) : Int32 := (g_X12_isWrong_md_0 (if (r_X12_isCell a b) = (0 : Int32) then (1 : Int32) else (if (r_X12_isBetween f (1 : Int32) (9 : Int32)) = (0 : Int32) then (2 : Int32) else (if (ml_0 (r_X12_at a b).toNatClampNeg) = (0 : Int32) then (3 : Int32) else (if (ml_5 (r_X12_at a b).toNatClampNeg) = (0 : Int32) then (0 : Int32) else (3 : Int32))))))
def f_X12_light_md (md : zMd) (ml : zMl) (a : Int32) (b : Int32) (f : Int32) : zMd := (g_X12_light_md_0 ml.1 ml.2.2.2.2.2.1 a b f, md.2.1, md.2.2.1, md.2.2.2)
def g_X12_light_ml_3 (ml_0 : Nat → Int32) (ml_3 : Nat → Int32) (ml_5 : Nat → Int32) (a : Int32) (b : Int32) (f : Int32) : Nat → Int32 := (if (r_X12_isWrong (if (r_X12_isCell a b) = (0 : Int32) then (1 : Int32) else (if (r_X12_isBetween f (1 : Int32) (9 : Int32)) = (0 : Int32) then (2 : Int32) else (if (ml_0 (r_X12_at a b).toNatClampNeg) = (0 : Int32) then (3 : Int32) else (if (ml_5 (r_X12_at a b).toNatClampNeg) = (0 : Int32) then (0 : Int32) else (3 : Int32)))))) = (0 : Int32) then (if (if f ≤ (ml_3 (r_X12_at a b).toNatClampNeg) then (0 : Int32) else (1 : Int32)) = (0 : Int32) then ml_3 else (upd ml_3 (r_X12_at a b).toNatClampNeg f)) else ml_3)
def f_X12_light_ml (md : zMd) (ml : zMl) (a : Int32) (b : Int32) (f : Int32) : zMl := (ml.1, ml.2.1, ml.2.2.1, g_X12_light_ml_3 ml.1 ml.2.2.2.1 ml.2.2.2.2.2.1 a b f, ml.2.2.2.2.1, ml.2.2.2.2.2.1, ml.2.2.2.2.2.2.1, ml.2.2.2.2.2.2.2.1, ml.2.2.2.2.2.2.2.2.1, ml.2.2.2.2.2.2.2.2.2.1, ml.2.2.2.2.2.2.2.2.2.2.1, ml.2.2.2.2.2.2.2.2.2.2.2.1, ml.2.2.2.2.2.2.2.2.2.2.2.2)
def r_X12_light (ml_0 : Nat → Int32) (ml_3 : Nat → Int32) (ml_5 : Nat → Int32) (a : Int32) (b : Int32) (f : Int32) : Int32 := (if (r_X12_isWrong (if (r_X12_isCell a b) = (0 : Int32) then (1 : Int32) else (if (r_X12_isBetween f (1 : Int32) (9 : Int32)) = (0 : Int32) then (2 : Int32) else (if (ml_0 (r_X12_at a b).toNatClampNeg) = (0 : Int32) then (3 : Int32) else (if (ml_5 (r_X12_at a b).toNatClampNeg) = (0 : Int32) then (0 : Int32) else (3 : Int32)))))) = (0 : Int32) then (if f ≤ (ml_3 (r_X12_at a b).toNatClampNeg) then (0 : Int32) else (1 : Int32)) else (0 : Int32))
abbrev po_X12_light (G : zG) (h : Nat) (ad : Nat → Nat) (md : zMd) (adm : Nat → Nat) (ml : zMl) (a : Int32) (b : Int32) (f : Int32) : Option Value → va_W → Prop := fun r u => r = some (.int (r_X12_light ml.1 ml.2.2.2.1 ml.2.2.2.2.2.1 a b f)) ∧ u = mdW G h ad (f_X12_light_md md ml a b f) ++ (mlW G (ad 0) adm (f_X12_light_ml md ml a b f))
set_option maxHeartbeats 4000000 in
set_option maxRecDepth 100000 in
theorem c_X12_light (l : Launch) (G : zG) (h : Nat) (ad : Nat → Nat) (md : zMd) (adm : Nat → Nat) (ml : zMl) (a : Int32) (b : Int32) (f : Int32) : zC l yX12_light cX12_light 5 (some .boolean) 3 0 0 G [.ref h, .int a, .int b, .int f] (mdW G h ad md ++ (mlW G (ad 0) adm ml)) (po_X12_light G h ad md adm ml a b f) := by
  refine zC.of RX12 rfl (by decide) (Nat.le_of_ble_eq_true rfl) ?_
  intro p e s m args below meth c A ls B hr hlk hnm hW hl
  have hx := B.x
  have hb := B.b
  have hl : lv_has ls 5 [(0, .ref h), (1, .int a), (2, .int b), (3, .int f)] := hl
  refine lv_aload_n hx hb dX12_light_0 rfl (lv_at hl 0 rfl) ?_
  refine lv_iload_n hx hb dX12_light_1 rfl (lv_at hl 1 rfl) ?_
  refine lv_iload_n hx hb dX12_light_2 rfl (lv_at hl 2 rfl) ?_
  refine zcS (w1 := []) (wc := []) (w2 := mdW G h ad md ++ (mlW G (ad 0) adm ml)) (As := [.int a, .int b]) B (hW.eq rfl) (c_X12_isCell l G a b) yd_X12_isCell ml_X12_40 rfl hl.1 rfl (Nat.le_of_ble_eq_true rfl) ⟨Nat.le_of_ble_eq_true rfl, Nat.le_of_ble_eq_true rfl⟩ ⟨(Nat.le_of_ble_eq_true rfl), (Nat.le_of_ble_eq_true rfl)⟩ dX12_light_3 (fun v u H locs hp hW => ?_)
  obtain ⟨rfl, rfl⟩ := hp
  have hW := hW.eq (w' := mdW G h ad md ++ (mlW G (ad 0) adm ml)) rfl
  have J_1 : ∀ (H : Heap) (locs : List Loc) (ls : Array Slot), zW G A s.heap H locs (mdW G h ad md ++ (mlW G (ad 0) adm ml)) → lv_has ls 5 [(0, .ref h), (1, .int a), (2, .int b), (3, .int f)] → W p l e (zRm 3 0 0) s m args below meth c H locs 0 0 (MQ below (zQ G A (po_X12_light G h ad md adm ml a b f)) args s 0 0 A) (F0 m 64 ls [.int (if (r_X12_isCell a b) = (0 : Int32) then (1 : Int32) else (if (r_X12_isBetween f (1 : Int32) (9 : Int32)) = (0 : Int32) then (2 : Int32) else (if (ml.1 (r_X12_at a b).toNatClampNeg) = (0 : Int32) then (3 : Int32) else (if (ml.2.2.2.2.2.1 (r_X12_at a b).toNatClampNeg) = (0 : Int32) then (0 : Int32) else (3 : Int32))))), .ref h]) := by
    intro H locs ls hW hl
    refine zcV (w1 := []) (wc := mdW G h ad md) (w2 := mlW G (ad 0) adm ml) (As := [.int (if (r_X12_isCell a b) = (0 : Int32) then (1 : Int32) else (if (r_X12_isBetween f (1 : Int32) (9 : Int32)) = (0 : Int32) then (2 : Int32) else (if (ml.1 (r_X12_at a b).toNatClampNeg) = (0 : Int32) then (3 : Int32) else (if (ml.2.2.2.2.2.1 (r_X12_at a b).toNatClampNeg) = (0 : Int32) then (0 : Int32) else (3 : Int32)))))]) B (hW.eq rfl) (c_X12_isWrong l G h ad md (if (r_X12_isCell a b) = (0 : Int32) then (1 : Int32) else (if (r_X12_isBetween f (1 : Int32) (9 : Int32)) = (0 : Int32) then (2 : Int32) else (if (ml.1 (r_X12_at a b).toNatClampNeg) = (0 : Int32) then (3 : Int32) else (if (ml.2.2.2.2.2.1 (r_X12_at a b).toNatClampNeg) = (0 : Int32) then (0 : Int32) else (3 : Int32)))))) yd_X12_isWrong ml_X12_44 0 rfl rfl rfl rfl hl.1 rfl (Nat.le_of_ble_eq_true rfl) ⟨Nat.le_of_ble_eq_true rfl, Nat.le_of_ble_eq_true rfl⟩ ⟨(Nat.le_of_ble_eq_true rfl), (Nat.le_of_ble_eq_true rfl)⟩ dX12_light_64 (fun v u H locs hp hW => ?_)
    obtain ⟨rfl, rfl⟩ := hp
    have hW := hW.eq (w' := mdW G h ad ((g_X12_isWrong_md_0 (if (r_X12_isCell a b) = (0 : Int32) then (1 : Int32) else (if (r_X12_isBetween f (1 : Int32) (9 : Int32)) = (0 : Int32) then (2 : Int32) else (if (ml.1 (r_X12_at a b).toNatClampNeg) = (0 : Int32) then (3 : Int32) else (if (ml.2.2.2.2.2.1 (r_X12_at a b).toNatClampNeg) = (0 : Int32) then (0 : Int32) else (3 : Int32)))))), md.2.1, md.2.2.1, md.2.2.2) ++ (mlW G (ad 0) adm ml)) rfl
    refine lv_if_eq (tgt := 72) hx hb dX12_light_67 (by decide) (fun c_67 => ?_) (fun c_67 => ?_)
    · refine lv_iload_n hx hb dX12_light_72 rfl (lv_at hl 3 rfl) ?_
      refine lv_aload_n hx hb dX12_light_73 rfl (lv_at hl 0 rfl) ?_
      refine zget B hW 0 rfl lf_X12_10 rfl dX12_light_74 ?_
      refine zgetN B hW 1 rfl lf_X12_60 rfl dX12_light_77 ?_
      refine lv_iload_n hx hb dX12_light_80 rfl (lv_at hl 1 rfl) ?_
      refine lv_iload_n hx hb dX12_light_81 rfl (lv_at hl 2 rfl) ?_
      refine zcS (w1 := []) (wc := []) (w2 := mdW G h ad ((g_X12_isWrong_md_0 (if (r_X12_isCell a b) = (0 : Int32) then (1 : Int32) else (if (r_X12_isBetween f (1 : Int32) (9 : Int32)) = (0 : Int32) then (2 : Int32) else (if (ml.1 (r_X12_at a b).toNatClampNeg) = (0 : Int32) then (3 : Int32) else (if (ml.2.2.2.2.2.1 (r_X12_at a b).toNatClampNeg) = (0 : Int32) then (0 : Int32) else (3 : Int32)))))), md.2.1, md.2.2.1, md.2.2.2) ++ (mlW G (ad 0) adm ml)) (As := [.int a, .int b]) B (hW.eq rfl) (c_X12_at l G a b) yd_X12_at ml_X12_52 rfl hl.1 rfl (Nat.le_of_ble_eq_true rfl) ⟨Nat.le_of_ble_eq_true rfl, Nat.le_of_ble_eq_true rfl⟩ ⟨(Nat.le_of_ble_eq_true rfl), (Nat.le_of_ble_eq_true rfl)⟩ dX12_light_82 (fun v u H locs hp hW => ?_)
      obtain ⟨rfl, rfl⟩ := hp
      have hW := hW.eq (w' := mdW G h ad ((g_X12_isWrong_md_0 (if (r_X12_isCell a b) = (0 : Int32) then (1 : Int32) else (if (r_X12_isBetween f (1 : Int32) (9 : Int32)) = (0 : Int32) then (2 : Int32) else (if (ml.1 (r_X12_at a b).toNatClampNeg) = (0 : Int32) then (3 : Int32) else (if (ml.2.2.2.2.2.1 (r_X12_at a b).toNatClampNeg) = (0 : Int32) then (0 : Int32) else (3 : Int32)))))), md.2.1, md.2.2.1, md.2.2.2) ++ (mlW G (ad 0) adm ml)) rfl
      refine ziald B hW 5 rfl (zmcell_ix (zmw2 (k := 1) c_67 (by decide)).1) dX12_light_85 ?_
      have J_2 : ∀ (H : Heap) (locs : List Loc) (ls : Array Slot), zW G A s.heap H locs (mdW G h ad ((g_X12_isWrong_md_0 (if (r_X12_isCell a b) = (0 : Int32) then (1 : Int32) else (if (r_X12_isBetween f (1 : Int32) (9 : Int32)) = (0 : Int32) then (2 : Int32) else (if (ml.1 (r_X12_at a b).toNatClampNeg) = (0 : Int32) then (3 : Int32) else (if (ml.2.2.2.2.2.1 (r_X12_at a b).toNatClampNeg) = (0 : Int32) then (0 : Int32) else (3 : Int32)))))), md.2.1, md.2.2.1, md.2.2.2) ++ (mlW G (ad 0) adm ml)) → lv_has ls 5 [(0, .ref h), (1, .int a), (2, .int b), (3, .int f)] → W p l e (zRm 3 0 0) s m args below meth c H locs 0 0 (MQ below (zQ G A (po_X12_light G h ad md adm ml a b f)) args s 0 0 A) (F0 m 94 ls [.int (if f ≤ (ml.2.2.2.1 (r_X12_at a b).toNatClampNeg) then (0 : Int32) else (1 : Int32))]) := by
        intro H locs ls hW hl
        refine lv_istore hx hb dX12_light_94 hl (by decide) rfl (fun ls hl => ?_)
        refine lv_iload hx hb dX12_light_96 (lv_at hl 0 rfl) ?_
        have J_3 : ∀ (H : Heap) (locs : List Loc) (ls : Array Slot), zW G A s.heap H locs (mdW G h ad ((g_X12_isWrong_md_0 (if (r_X12_isCell a b) = (0 : Int32) then (1 : Int32) else (if (r_X12_isBetween f (1 : Int32) (9 : Int32)) = (0 : Int32) then (2 : Int32) else (if (ml.1 (r_X12_at a b).toNatClampNeg) = (0 : Int32) then (3 : Int32) else (if (ml.2.2.2.2.2.1 (r_X12_at a b).toNatClampNeg) = (0 : Int32) then (0 : Int32) else (3 : Int32)))))), md.2.1, md.2.2.1, md.2.2.2) ++ (mlW G (ad 0) adm (ml.1, ml.2.1, ml.2.2.1, (if (if f ≤ (ml.2.2.2.1 (r_X12_at a b).toNatClampNeg) then (0 : Int32) else (1 : Int32)) = (0 : Int32) then ml.2.2.2.1 else (upd ml.2.2.2.1 (r_X12_at a b).toNatClampNeg f)), ml.2.2.2.2.1, ml.2.2.2.2.2.1, ml.2.2.2.2.2.2.1, ml.2.2.2.2.2.2.2.1, ml.2.2.2.2.2.2.2.2.1, ml.2.2.2.2.2.2.2.2.2.1, ml.2.2.2.2.2.2.2.2.2.2.1, ml.2.2.2.2.2.2.2.2.2.2.2.1, ml.2.2.2.2.2.2.2.2.2.2.2.2))) → lv_has ls 5 [(4, .int (if f ≤ (ml.2.2.2.1 (r_X12_at a b).toNatClampNeg) then (0 : Int32) else (1 : Int32)))] → W p l e (zRm 3 0 0) s m args below meth c H locs 0 0 (MQ below (zQ G A (po_X12_light G h ad md adm ml a b f)) args s 0 0 A) (F0 m 115 ls []) := by
          intro H locs ls hW hl
          refine lv_iload hx hb dX12_light_115 (lv_at hl 0 rfl) ?_
          have e_0 : (if (r_X12_isWrong (if (r_X12_isCell a b) = (0 : Int32) then (1 : Int32) else (if (r_X12_isBetween f (1 : Int32) (9 : Int32)) = (0 : Int32) then (2 : Int32) else (if (ml.1 (r_X12_at a b).toNatClampNeg) = (0 : Int32) then (3 : Int32) else (if (ml.2.2.2.2.2.1 (r_X12_at a b).toNatClampNeg) = (0 : Int32) then (0 : Int32) else (3 : Int32)))))) = (0 : Int32) then (if f ≤ (ml.2.2.2.1 (r_X12_at a b).toNatClampNeg) then (0 : Int32) else (1 : Int32)) else (0 : Int32)) = (if f ≤ (ml.2.2.2.1 (r_X12_at a b).toNatClampNeg) then (0 : Int32) else (1 : Int32)) := if_pos c_67
          have e_1 : (if (r_X12_isWrong (if (r_X12_isCell a b) = (0 : Int32) then (1 : Int32) else (if (r_X12_isBetween f (1 : Int32) (9 : Int32)) = (0 : Int32) then (2 : Int32) else (if (ml.1 (r_X12_at a b).toNatClampNeg) = (0 : Int32) then (3 : Int32) else (if (ml.2.2.2.2.2.1 (r_X12_at a b).toNatClampNeg) = (0 : Int32) then (0 : Int32) else (3 : Int32)))))) = (0 : Int32) then (if (if f ≤ (ml.2.2.2.1 (r_X12_at a b).toNatClampNeg) then (0 : Int32) else (1 : Int32)) = (0 : Int32) then ml.2.2.2.1 else (upd ml.2.2.2.1 (r_X12_at a b).toNatClampNeg f)) else ml.2.2.2.1) = (if (if f ≤ (ml.2.2.2.1 (r_X12_at a b).toNatClampNeg) then (0 : Int32) else (1 : Int32)) = (0 : Int32) then ml.2.2.2.1 else (upd ml.2.2.2.1 (r_X12_at a b).toNatClampNeg f)) := if_pos c_67
          exact zzret B hr hlk (by (repeat' split) <;> rfl) hW ⟨by show _ = some (Value.int (if (r_X12_isWrong (if (r_X12_isCell a b) = (0 : Int32) then (1 : Int32) else (if (r_X12_isBetween f (1 : Int32) (9 : Int32)) = (0 : Int32) then (2 : Int32) else (if (ml.1 (r_X12_at a b).toNatClampNeg) = (0 : Int32) then (3 : Int32) else (if (ml.2.2.2.2.2.1 (r_X12_at a b).toNatClampNeg) = (0 : Int32) then (0 : Int32) else (3 : Int32)))))) = (0 : Int32) then (if f ≤ (ml.2.2.2.1 (r_X12_at a b).toNatClampNeg) then (0 : Int32) else (1 : Int32)) else (0 : Int32))) <;> (try rw [e_0]) <;> (try rw [e_1]) <;> rfl, by show _ = mdW G h ad ((g_X12_isWrong_md_0 (if (r_X12_isCell a b) = (0 : Int32) then (1 : Int32) else (if (r_X12_isBetween f (1 : Int32) (9 : Int32)) = (0 : Int32) then (2 : Int32) else (if (ml.1 (r_X12_at a b).toNatClampNeg) = (0 : Int32) then (3 : Int32) else (if (ml.2.2.2.2.2.1 (r_X12_at a b).toNatClampNeg) = (0 : Int32) then (0 : Int32) else (3 : Int32)))))), md.2.1, md.2.2.1, md.2.2.2) ++ (mlW G (ad 0) adm (ml.1, ml.2.1, ml.2.2.1, (if (r_X12_isWrong (if (r_X12_isCell a b) = (0 : Int32) then (1 : Int32) else (if (r_X12_isBetween f (1 : Int32) (9 : Int32)) = (0 : Int32) then (2 : Int32) else (if (ml.1 (r_X12_at a b).toNatClampNeg) = (0 : Int32) then (3 : Int32) else (if (ml.2.2.2.2.2.1 (r_X12_at a b).toNatClampNeg) = (0 : Int32) then (0 : Int32) else (3 : Int32)))))) = (0 : Int32) then (if (if f ≤ (ml.2.2.2.1 (r_X12_at a b).toNatClampNeg) then (0 : Int32) else (1 : Int32)) = (0 : Int32) then ml.2.2.2.1 else (upd ml.2.2.2.1 (r_X12_at a b).toNatClampNeg f)) else ml.2.2.2.1), ml.2.2.2.2.1, ml.2.2.2.2.2.1, ml.2.2.2.2.2.2.1, ml.2.2.2.2.2.2.2.1, ml.2.2.2.2.2.2.2.2.1, ml.2.2.2.2.2.2.2.2.2.1, ml.2.2.2.2.2.2.2.2.2.2.1, ml.2.2.2.2.2.2.2.2.2.2.2.1, ml.2.2.2.2.2.2.2.2.2.2.2.2)) <;> (try rw [e_0]) <;> (try rw [e_1]) <;> rfl⟩ (Nat.le_refl _) (Nat.le_refl _) dX12_light_117
        refine lv_if_eq (tgt := 115) hx hb dX12_light_98 (by decide) (fun c_98 => ?_) (fun c_98 => ?_)
        · have e_0 : (if (if f ≤ (ml.2.2.2.1 (r_X12_at a b).toNatClampNeg) then (0 : Int32) else (1 : Int32)) = (0 : Int32) then ml.2.2.2.1 else (upd ml.2.2.2.1 (r_X12_at a b).toNatClampNeg f)) = ml.2.2.2.1 := if_pos c_98
          exact J_3 _ _ _ (hW.eq (by (try rw [e_0]) <;> rfl)) (by (try rw [e_0]) <;> exact lv_sub hl [0] rfl)
        · refine lv_aload_n hx hb dX12_light_101 rfl (lv_at hl 1 rfl) ?_
          refine zget B hW 0 rfl lf_X12_10 rfl dX12_light_102 ?_
          refine zgetN B hW 1 rfl lf_X12_60 rfl dX12_light_105 ?_
          refine lv_iload_n hx hb dX12_light_108 rfl (lv_at hl 2 rfl) ?_
          refine lv_iload_n hx hb dX12_light_109 rfl (lv_at hl 3 rfl) ?_
          refine zcS (w1 := []) (wc := []) (w2 := mdW G h ad ((g_X12_isWrong_md_0 (if (r_X12_isCell a b) = (0 : Int32) then (1 : Int32) else (if (r_X12_isBetween f (1 : Int32) (9 : Int32)) = (0 : Int32) then (2 : Int32) else (if (ml.1 (r_X12_at a b).toNatClampNeg) = (0 : Int32) then (3 : Int32) else (if (ml.2.2.2.2.2.1 (r_X12_at a b).toNatClampNeg) = (0 : Int32) then (0 : Int32) else (3 : Int32)))))), md.2.1, md.2.2.1, md.2.2.2) ++ (mlW G (ad 0) adm ml)) (As := [.int a, .int b]) B (hW.eq rfl) (c_X12_at l G a b) yd_X12_at ml_X12_52 rfl hl.1 rfl (Nat.le_of_ble_eq_true rfl) ⟨Nat.le_of_ble_eq_true rfl, Nat.le_of_ble_eq_true rfl⟩ ⟨(Nat.le_of_ble_eq_true rfl), (Nat.le_of_ble_eq_true rfl)⟩ dX12_light_110 (fun v u H locs hp hW => ?_)
          obtain ⟨rfl, rfl⟩ := hp
          have hW := hW.eq (w' := mdW G h ad ((g_X12_isWrong_md_0 (if (r_X12_isCell a b) = (0 : Int32) then (1 : Int32) else (if (r_X12_isBetween f (1 : Int32) (9 : Int32)) = (0 : Int32) then (2 : Int32) else (if (ml.1 (r_X12_at a b).toNatClampNeg) = (0 : Int32) then (3 : Int32) else (if (ml.2.2.2.2.2.1 (r_X12_at a b).toNatClampNeg) = (0 : Int32) then (0 : Int32) else (3 : Int32)))))), md.2.1, md.2.2.1, md.2.2.2) ++ (mlW G (ad 0) adm ml)) rfl
          refine lv_iload_n hx hb dX12_light_113 rfl (lv_at hl 4 rfl) ?_
          refine ziast B hW 5 rfl (zmcell_ix (zmw2 (k := 1) c_67 (by decide)).1) dX12_light_114 (fun H locs hW => ?_)
          have e_0 : (if (if f ≤ (ml.2.2.2.1 (r_X12_at a b).toNatClampNeg) then (0 : Int32) else (1 : Int32)) = (0 : Int32) then ml.2.2.2.1 else (upd ml.2.2.2.1 (r_X12_at a b).toNatClampNeg f)) = (upd ml.2.2.2.1 (r_X12_at a b).toNatClampNeg f) := if_neg c_98
          exact J_3 _ _ _ (hW.eq (by (try rw [e_0]) <;> rfl)) (by (try rw [e_0]) <;> exact lv_sub hl [0] rfl)
      refine lv_icmp_le (tgt := 93) hx hb dX12_light_86 (by decide) (fun c_86 => ?_) (fun c_86 => ?_)
      · refine lv_iconst (v := (0 : Int32)) hx hb dX12_light_93 (by decide) ?_
        have e_0 : (if f ≤ (ml.2.2.2.1 (r_X12_at a b).toNatClampNeg) then (0 : Int32) else (1 : Int32)) = (0 : Int32) := if_pos c_86
        refine W.eq (g2 := F0 m 94 ls [.int (if f ≤ (ml.2.2.2.1 (r_X12_at a b).toNatClampNeg) then (0 : Int32) else (1 : Int32))]) (by (try rw [e_0]) <;> rfl) ?_
        exact J_2 _ _ _ (hW.eq (by (try rw [e_0]) <;> rfl)) (by (try rw [e_0]) <;> exact lv_sub hl [0, 1, 2, 3] rfl)
      · refine lv_iconst (v := (1 : Int32)) hx hb dX12_light_89 (by decide) ?_
        refine lv_goto (tgt := 94) hx hb dX12_light_90 (by decide) ?_
        have e_0 : (if f ≤ (ml.2.2.2.1 (r_X12_at a b).toNatClampNeg) then (0 : Int32) else (1 : Int32)) = (1 : Int32) := if_neg c_86
        refine W.eq (g2 := F0 m 94 ls [.int (if f ≤ (ml.2.2.2.1 (r_X12_at a b).toNatClampNeg) then (0 : Int32) else (1 : Int32))]) (by (try rw [e_0]) <;> rfl) ?_
        exact J_2 _ _ _ (hW.eq (by (try rw [e_0]) <;> rfl)) (by (try rw [e_0]) <;> exact lv_sub hl [0, 1, 2, 3] rfl)
    · refine lv_iconst (v := (0 : Int32)) hx hb dX12_light_70 (by decide) ?_
      have e_0 : (if (r_X12_isWrong (if (r_X12_isCell a b) = (0 : Int32) then (1 : Int32) else (if (r_X12_isBetween f (1 : Int32) (9 : Int32)) = (0 : Int32) then (2 : Int32) else (if (ml.1 (r_X12_at a b).toNatClampNeg) = (0 : Int32) then (3 : Int32) else (if (ml.2.2.2.2.2.1 (r_X12_at a b).toNatClampNeg) = (0 : Int32) then (0 : Int32) else (3 : Int32)))))) = (0 : Int32) then (if f ≤ (ml.2.2.2.1 (r_X12_at a b).toNatClampNeg) then (0 : Int32) else (1 : Int32)) else (0 : Int32)) = (0 : Int32) := if_neg c_67
      have e_1 : (if (r_X12_isWrong (if (r_X12_isCell a b) = (0 : Int32) then (1 : Int32) else (if (r_X12_isBetween f (1 : Int32) (9 : Int32)) = (0 : Int32) then (2 : Int32) else (if (ml.1 (r_X12_at a b).toNatClampNeg) = (0 : Int32) then (3 : Int32) else (if (ml.2.2.2.2.2.1 (r_X12_at a b).toNatClampNeg) = (0 : Int32) then (0 : Int32) else (3 : Int32)))))) = (0 : Int32) then (if (if f ≤ (ml.2.2.2.1 (r_X12_at a b).toNatClampNeg) then (0 : Int32) else (1 : Int32)) = (0 : Int32) then ml.2.2.2.1 else (upd ml.2.2.2.1 (r_X12_at a b).toNatClampNeg f)) else ml.2.2.2.1) = ml.2.2.2.1 := if_neg c_67
      exact zzret B hr hlk (by (repeat' split) <;> rfl) hW ⟨by show _ = some (Value.int (if (r_X12_isWrong (if (r_X12_isCell a b) = (0 : Int32) then (1 : Int32) else (if (r_X12_isBetween f (1 : Int32) (9 : Int32)) = (0 : Int32) then (2 : Int32) else (if (ml.1 (r_X12_at a b).toNatClampNeg) = (0 : Int32) then (3 : Int32) else (if (ml.2.2.2.2.2.1 (r_X12_at a b).toNatClampNeg) = (0 : Int32) then (0 : Int32) else (3 : Int32)))))) = (0 : Int32) then (if f ≤ (ml.2.2.2.1 (r_X12_at a b).toNatClampNeg) then (0 : Int32) else (1 : Int32)) else (0 : Int32))) <;> (try rw [e_0]) <;> (try rw [e_1]) <;> rfl, by show _ = mdW G h ad ((g_X12_isWrong_md_0 (if (r_X12_isCell a b) = (0 : Int32) then (1 : Int32) else (if (r_X12_isBetween f (1 : Int32) (9 : Int32)) = (0 : Int32) then (2 : Int32) else (if (ml.1 (r_X12_at a b).toNatClampNeg) = (0 : Int32) then (3 : Int32) else (if (ml.2.2.2.2.2.1 (r_X12_at a b).toNatClampNeg) = (0 : Int32) then (0 : Int32) else (3 : Int32)))))), md.2.1, md.2.2.1, md.2.2.2) ++ (mlW G (ad 0) adm (ml.1, ml.2.1, ml.2.2.1, (if (r_X12_isWrong (if (r_X12_isCell a b) = (0 : Int32) then (1 : Int32) else (if (r_X12_isBetween f (1 : Int32) (9 : Int32)) = (0 : Int32) then (2 : Int32) else (if (ml.1 (r_X12_at a b).toNatClampNeg) = (0 : Int32) then (3 : Int32) else (if (ml.2.2.2.2.2.1 (r_X12_at a b).toNatClampNeg) = (0 : Int32) then (0 : Int32) else (3 : Int32)))))) = (0 : Int32) then (if (if f ≤ (ml.2.2.2.1 (r_X12_at a b).toNatClampNeg) then (0 : Int32) else (1 : Int32)) = (0 : Int32) then ml.2.2.2.1 else (upd ml.2.2.2.1 (r_X12_at a b).toNatClampNeg f)) else ml.2.2.2.1), ml.2.2.2.2.1, ml.2.2.2.2.2.1, ml.2.2.2.2.2.2.1, ml.2.2.2.2.2.2.2.1, ml.2.2.2.2.2.2.2.2.1, ml.2.2.2.2.2.2.2.2.2.1, ml.2.2.2.2.2.2.2.2.2.2.1, ml.2.2.2.2.2.2.2.2.2.2.2.1, ml.2.2.2.2.2.2.2.2.2.2.2.2)) <;> (try rw [e_0]) <;> (try rw [e_1]) <;> rfl⟩ (Nat.le_refl _) (Nat.le_refl _) dX12_light_71
  refine lv_if_ne (tgt := 13) hx hb dX12_light_6 (by decide) (fun c_6 => ?_) (fun c_6 => ?_)
  · refine lv_iload_n hx hb dX12_light_13 rfl (lv_at hl 3 rfl) ?_
    refine lv_iconst (v := (1 : Int32)) hx hb dX12_light_14 (by decide) ?_
    refine lv_bipush (v := (9 : Int32)) hx hb dX12_light_15 (by decide) ?_
    refine zcS (w1 := []) (wc := []) (w2 := mdW G h ad md ++ (mlW G (ad 0) adm ml)) (As := [.int f, .int (1 : Int32), .int (9 : Int32)]) B (hW.eq rfl) (c_X12_isBetween l G f (1 : Int32) (9 : Int32)) yd_X12_isBetween ml_X12_36 rfl hl.1 rfl (Nat.le_of_ble_eq_true rfl) ⟨Nat.le_of_ble_eq_true rfl, Nat.le_of_ble_eq_true rfl⟩ ⟨(Nat.le_of_ble_eq_true rfl), (Nat.le_of_ble_eq_true rfl)⟩ dX12_light_17 (fun v u H locs hp hW => ?_)
    obtain ⟨rfl, rfl⟩ := hp
    have hW := hW.eq (w' := mdW G h ad md ++ (mlW G (ad 0) adm ml)) rfl
    refine lv_if_ne (tgt := 27) hx hb dX12_light_20 (by decide) (fun c_20 => ?_) (fun c_20 => ?_)
    · refine lv_aload_n hx hb dX12_light_27 rfl (lv_at hl 0 rfl) ?_
      refine zget B hW 0 rfl lf_X12_10 rfl dX12_light_28 ?_
      refine zgetN B hW 1 rfl lf_X12_48 rfl dX12_light_31 ?_
      refine lv_iload_n hx hb dX12_light_34 rfl (lv_at hl 1 rfl) ?_
      refine lv_iload_n hx hb dX12_light_35 rfl (lv_at hl 2 rfl) ?_
      refine zcS (w1 := []) (wc := []) (w2 := mdW G h ad md ++ (mlW G (ad 0) adm ml)) (As := [.int a, .int b]) B (hW.eq rfl) (c_X12_at l G a b) yd_X12_at ml_X12_52 rfl hl.1 rfl (Nat.le_of_ble_eq_true rfl) ⟨Nat.le_of_ble_eq_true rfl, Nat.le_of_ble_eq_true rfl⟩ ⟨(Nat.le_of_ble_eq_true rfl), (Nat.le_of_ble_eq_true rfl)⟩ dX12_light_36 (fun v u H locs hp hW => ?_)
      obtain ⟨rfl, rfl⟩ := hp
      have hW := hW.eq (w' := mdW G h ad md ++ (mlW G (ad 0) adm ml)) rfl
      refine ziald B hW 2 rfl (zmcell_ix c_6) dX12_light_39 ?_
      refine lv_if_eq (tgt := 59) hx hb dX12_light_40 (by decide) (fun c_40 => ?_) (fun c_40 => ?_)
      · refine lv_iconst (v := (3 : Int32)) hx hb dX12_light_59 (by decide) ?_
        refine lv_goto (tgt := 64) hx hb dX12_light_60 (by decide) ?_
        have e_0 : (if (r_X12_isCell a b) = (0 : Int32) then (1 : Int32) else (if (r_X12_isBetween f (1 : Int32) (9 : Int32)) = (0 : Int32) then (2 : Int32) else (if (ml.1 (r_X12_at a b).toNatClampNeg) = (0 : Int32) then (3 : Int32) else (if (ml.2.2.2.2.2.1 (r_X12_at a b).toNatClampNeg) = (0 : Int32) then (0 : Int32) else (3 : Int32))))) = (3 : Int32) := (if_neg c_6).trans ((if_neg c_20).trans (if_pos c_40))
        refine W.eq (g2 := F0 m 64 ls [.int (if (r_X12_isCell a b) = (0 : Int32) then (1 : Int32) else (if (r_X12_isBetween f (1 : Int32) (9 : Int32)) = (0 : Int32) then (2 : Int32) else (if (ml.1 (r_X12_at a b).toNatClampNeg) = (0 : Int32) then (3 : Int32) else (if (ml.2.2.2.2.2.1 (r_X12_at a b).toNatClampNeg) = (0 : Int32) then (0 : Int32) else (3 : Int32))))), .ref h]) (by (try rw [e_0]) <;> rfl) ?_
        exact J_1 _ _ _ (hW.eq (by (try rw [e_0]) <;> rfl)) (by (try rw [e_0]) <;> exact lv_sub hl [0, 1, 2, 3] rfl)
      · refine lv_aload_n hx hb dX12_light_43 rfl (lv_at hl 0 rfl) ?_
        refine zget B hW 0 rfl lf_X12_10 rfl dX12_light_44 ?_
        refine zgetN B hW 1 rfl lf_X12_56 rfl dX12_light_47 ?_
        refine lv_iload_n hx hb dX12_light_50 rfl (lv_at hl 1 rfl) ?_
        refine lv_iload_n hx hb dX12_light_51 rfl (lv_at hl 2 rfl) ?_
        refine zcS (w1 := []) (wc := []) (w2 := mdW G h ad md ++ (mlW G (ad 0) adm ml)) (As := [.int a, .int b]) B (hW.eq rfl) (c_X12_at l G a b) yd_X12_at ml_X12_52 rfl hl.1 rfl (Nat.le_of_ble_eq_true rfl) ⟨Nat.le_of_ble_eq_true rfl, Nat.le_of_ble_eq_true rfl⟩ ⟨(Nat.le_of_ble_eq_true rfl), (Nat.le_of_ble_eq_true rfl)⟩ dX12_light_52 (fun v u H locs hp hW => ?_)
        obtain ⟨rfl, rfl⟩ := hp
        have hW := hW.eq (w' := mdW G h ad md ++ (mlW G (ad 0) adm ml)) rfl
        refine zzald B hW 7 rfl (zmcell_ix c_6) dX12_light_55 ?_
        refine lv_if_eq (tgt := 63) hx hb dX12_light_56 (by decide) (fun c_56 => ?_) (fun c_56 => ?_)
        · refine lv_iconst (v := (0 : Int32)) hx hb dX12_light_63 (by decide) ?_
          have e_0 : (if (r_X12_isCell a b) = (0 : Int32) then (1 : Int32) else (if (r_X12_isBetween f (1 : Int32) (9 : Int32)) = (0 : Int32) then (2 : Int32) else (if (ml.1 (r_X12_at a b).toNatClampNeg) = (0 : Int32) then (3 : Int32) else (if (ml.2.2.2.2.2.1 (r_X12_at a b).toNatClampNeg) = (0 : Int32) then (0 : Int32) else (3 : Int32))))) = (0 : Int32) := (if_neg c_6).trans ((if_neg c_20).trans ((if_neg c_40).trans (if_pos c_56)))
          refine W.eq (g2 := F0 m 64 ls [.int (if (r_X12_isCell a b) = (0 : Int32) then (1 : Int32) else (if (r_X12_isBetween f (1 : Int32) (9 : Int32)) = (0 : Int32) then (2 : Int32) else (if (ml.1 (r_X12_at a b).toNatClampNeg) = (0 : Int32) then (3 : Int32) else (if (ml.2.2.2.2.2.1 (r_X12_at a b).toNatClampNeg) = (0 : Int32) then (0 : Int32) else (3 : Int32))))), .ref h]) (by (try rw [e_0]) <;> rfl) ?_
          exact J_1 _ _ _ (hW.eq (by (try rw [e_0]) <;> rfl)) (by (try rw [e_0]) <;> exact lv_sub hl [0, 1, 2, 3] rfl)
        · refine lv_iconst (v := (3 : Int32)) hx hb dX12_light_59 (by decide) ?_
          refine lv_goto (tgt := 64) hx hb dX12_light_60 (by decide) ?_
          have e_0 : (if (r_X12_isCell a b) = (0 : Int32) then (1 : Int32) else (if (r_X12_isBetween f (1 : Int32) (9 : Int32)) = (0 : Int32) then (2 : Int32) else (if (ml.1 (r_X12_at a b).toNatClampNeg) = (0 : Int32) then (3 : Int32) else (if (ml.2.2.2.2.2.1 (r_X12_at a b).toNatClampNeg) = (0 : Int32) then (0 : Int32) else (3 : Int32))))) = (3 : Int32) := (if_neg c_6).trans ((if_neg c_20).trans ((if_neg c_40).trans (if_neg c_56)))
          refine W.eq (g2 := F0 m 64 ls [.int (if (r_X12_isCell a b) = (0 : Int32) then (1 : Int32) else (if (r_X12_isBetween f (1 : Int32) (9 : Int32)) = (0 : Int32) then (2 : Int32) else (if (ml.1 (r_X12_at a b).toNatClampNeg) = (0 : Int32) then (3 : Int32) else (if (ml.2.2.2.2.2.1 (r_X12_at a b).toNatClampNeg) = (0 : Int32) then (0 : Int32) else (3 : Int32))))), .ref h]) (by (try rw [e_0]) <;> rfl) ?_
          exact J_1 _ _ _ (hW.eq (by (try rw [e_0]) <;> rfl)) (by (try rw [e_0]) <;> exact lv_sub hl [0, 1, 2, 3] rfl)
    · refine lv_iconst (v := (2 : Int32)) hx hb dX12_light_23 (by decide) ?_
      refine lv_goto (tgt := 64) hx hb dX12_light_24 (by decide) ?_
      have e_0 : (if (r_X12_isCell a b) = (0 : Int32) then (1 : Int32) else (if (r_X12_isBetween f (1 : Int32) (9 : Int32)) = (0 : Int32) then (2 : Int32) else (if (ml.1 (r_X12_at a b).toNatClampNeg) = (0 : Int32) then (3 : Int32) else (if (ml.2.2.2.2.2.1 (r_X12_at a b).toNatClampNeg) = (0 : Int32) then (0 : Int32) else (3 : Int32))))) = (2 : Int32) := (if_neg c_6).trans (if_pos c_20)
      refine W.eq (g2 := F0 m 64 ls [.int (if (r_X12_isCell a b) = (0 : Int32) then (1 : Int32) else (if (r_X12_isBetween f (1 : Int32) (9 : Int32)) = (0 : Int32) then (2 : Int32) else (if (ml.1 (r_X12_at a b).toNatClampNeg) = (0 : Int32) then (3 : Int32) else (if (ml.2.2.2.2.2.1 (r_X12_at a b).toNatClampNeg) = (0 : Int32) then (0 : Int32) else (3 : Int32))))), .ref h]) (by (try rw [e_0]) <;> rfl) ?_
      exact J_1 _ _ _ (hW.eq (by (try rw [e_0]) <;> rfl)) (by (try rw [e_0]) <;> exact lv_sub hl [0, 1, 2, 3] rfl)
  · refine lv_iconst (v := (1 : Int32)) hx hb dX12_light_9 (by decide) ?_
    refine lv_goto (tgt := 64) hx hb dX12_light_10 (by decide) ?_
    have e_0 : (if (r_X12_isCell a b) = (0 : Int32) then (1 : Int32) else (if (r_X12_isBetween f (1 : Int32) (9 : Int32)) = (0 : Int32) then (2 : Int32) else (if (ml.1 (r_X12_at a b).toNatClampNeg) = (0 : Int32) then (3 : Int32) else (if (ml.2.2.2.2.2.1 (r_X12_at a b).toNatClampNeg) = (0 : Int32) then (0 : Int32) else (3 : Int32))))) = (1 : Int32) := if_pos c_6
    refine W.eq (g2 := F0 m 64 ls [.int (if (r_X12_isCell a b) = (0 : Int32) then (1 : Int32) else (if (r_X12_isBetween f (1 : Int32) (9 : Int32)) = (0 : Int32) then (2 : Int32) else (if (ml.1 (r_X12_at a b).toNatClampNeg) = (0 : Int32) then (3 : Int32) else (if (ml.2.2.2.2.2.1 (r_X12_at a b).toNatClampNeg) = (0 : Int32) then (0 : Int32) else (3 : Int32))))), .ref h]) (by (try rw [e_0]) <;> rfl) ?_
    exact J_1 _ _ _ (hW.eq (by (try rw [e_0]) <;> rfl)) (by (try rw [e_0]) <;> exact lv_sub hl [0, 1, 2, 3] rfl)
def g_X12_setWind_md_0 (a : Int32) (b : Int32) (f : Int32) : Int32 := (g_X12_isWrong_md_0 (if (if (r_X12_isBetween a (-1 : Int32) (1 : Int32)) = (0 : Int32) then (0 : Int32) else (if (r_X12_isBetween b (-1 : Int32) (1 : Int32)) = (0 : Int32) then (0 : Int32) else (if (r_X12_isBetween f (0 : Int32) (if a = (0 : Int32) then (if b = (0 : Int32) then (0 : Int32) else (4 : Int32)) else (4 : Int32))) = (0 : Int32) then (0 : Int32) else (1 : Int32)))) = (0 : Int32) then (1 : Int32) else (0 : Int32)))
def f_X12_setWind_md (md : zMd) (ml : zMl) (a : Int32) (b : Int32) (f : Int32) : zMd := (g_X12_setWind_md_0 a b f, md.2.1, md.2.2.1, md.2.2.2)
def g_X12_setWind_ml_6 (ml_6 : Int32) (a : Int32) (b : Int32) (f : Int32) : Int32 := (if (r_X12_isWrong (if (if (r_X12_isBetween a (-1 : Int32) (1 : Int32)) = (0 : Int32) then (0 : Int32) else (if (r_X12_isBetween b (-1 : Int32) (1 : Int32)) = (0 : Int32) then (0 : Int32) else (if (r_X12_isBetween f (0 : Int32) (if a = (0 : Int32) then (if b = (0 : Int32) then (0 : Int32) else (4 : Int32)) else (4 : Int32))) = (0 : Int32) then (0 : Int32) else (1 : Int32)))) = (0 : Int32) then (1 : Int32) else (0 : Int32))) = (0 : Int32) then a else ml_6)
def g_X12_setWind_ml_7 (ml_7 : Int32) (a : Int32) (b : Int32) (f : Int32) : Int32 := (if (r_X12_isWrong (if (if (r_X12_isBetween a (-1 : Int32) (1 : Int32)) = (0 : Int32) then (0 : Int32) else (if (r_X12_isBetween b (-1 : Int32) (1 : Int32)) = (0 : Int32) then (0 : Int32) else (if (r_X12_isBetween f (0 : Int32) (if a = (0 : Int32) then (if b = (0 : Int32) then (0 : Int32) else (4 : Int32)) else (4 : Int32))) = (0 : Int32) then (0 : Int32) else (1 : Int32)))) = (0 : Int32) then (1 : Int32) else (0 : Int32))) = (0 : Int32) then b else ml_7)
def g_X12_setWind_ml_8 (ml_8 : Int32) (a : Int32) (b : Int32) (f : Int32) : Int32 := (if (r_X12_isWrong (if (if (r_X12_isBetween a (-1 : Int32) (1 : Int32)) = (0 : Int32) then (0 : Int32) else (if (r_X12_isBetween b (-1 : Int32) (1 : Int32)) = (0 : Int32) then (0 : Int32) else (if (r_X12_isBetween f (0 : Int32) (if a = (0 : Int32) then (if b = (0 : Int32) then (0 : Int32) else (4 : Int32)) else (4 : Int32))) = (0 : Int32) then (0 : Int32) else (1 : Int32)))) = (0 : Int32) then (1 : Int32) else (0 : Int32))) = (0 : Int32) then f else ml_8)
def f_X12_setWind_ml (md : zMd) (ml : zMl) (a : Int32) (b : Int32) (f : Int32) : zMl := (ml.1, ml.2.1, ml.2.2.1, ml.2.2.2.1, ml.2.2.2.2.1, ml.2.2.2.2.2.1, g_X12_setWind_ml_6 ml.2.2.2.2.2.2.1 a b f, g_X12_setWind_ml_7 ml.2.2.2.2.2.2.2.1 a b f, g_X12_setWind_ml_8 ml.2.2.2.2.2.2.2.2.1 a b f, ml.2.2.2.2.2.2.2.2.2.1, ml.2.2.2.2.2.2.2.2.2.2.1, ml.2.2.2.2.2.2.2.2.2.2.2.1, ml.2.2.2.2.2.2.2.2.2.2.2.2)
def r_X12_setWind (ml_8 : Int32) (a : Int32) (b : Int32) (f : Int32) : Int32 := (if (r_X12_isWrong (if (if (r_X12_isBetween a (-1 : Int32) (1 : Int32)) = (0 : Int32) then (0 : Int32) else (if (r_X12_isBetween b (-1 : Int32) (1 : Int32)) = (0 : Int32) then (0 : Int32) else (if (r_X12_isBetween f (0 : Int32) (if a = (0 : Int32) then (if b = (0 : Int32) then (0 : Int32) else (4 : Int32)) else (4 : Int32))) = (0 : Int32) then (0 : Int32) else (1 : Int32)))) = (0 : Int32) then (1 : Int32) else (0 : Int32))) = (0 : Int32) then ml_8 else (0 : Int32))
abbrev po_X12_setWind (G : zG) (h : Nat) (ad : Nat → Nat) (md : zMd) (adm : Nat → Nat) (ml : zMl) (a : Int32) (b : Int32) (f : Int32) : Option Value → va_W → Prop := fun r u => r = some (.int (r_X12_setWind ml.2.2.2.2.2.2.2.2.1 a b f)) ∧ u = mdW G h ad (f_X12_setWind_md md ml a b f) ++ (mlW G (ad 0) adm (f_X12_setWind_ml md ml a b f))
set_option maxHeartbeats 4000000 in
set_option maxRecDepth 100000 in
theorem c_X12_setWind (l : Launch) (G : zG) (h : Nat) (ad : Nat → Nat) (md : zMd) (adm : Nat → Nat) (ml : zMl) (a : Int32) (b : Int32) (f : Int32) : zC l yX12_setWind cX12_setWind 6 (some .int) 3 0 0 G [.ref h, .int a, .int b, .int f] (mdW G h ad md ++ (mlW G (ad 0) adm ml)) (po_X12_setWind G h ad md adm ml a b f) := by
  refine zC.of RX12 rfl (by decide) (Nat.le_of_ble_eq_true rfl) ?_
  intro p e s m args below meth c A ls B hr hlk hnm hW hl
  have hx := B.x
  have hb := B.b
  have hl : lv_has ls 6 [(0, .ref h), (1, .int a), (2, .int b), (3, .int f)] := hl
  refine lv_iload_n hx hb dX12_setWind_0 rfl (lv_at hl 1 rfl) ?_
  refine lv_iconst (v := (-1 : Int32)) hx hb dX12_setWind_1 (by decide) ?_
  refine lv_iconst (v := (1 : Int32)) hx hb dX12_setWind_2 (by decide) ?_
  refine zcS (w1 := []) (wc := []) (w2 := mdW G h ad md ++ (mlW G (ad 0) adm ml)) (As := [.int a, .int (-1 : Int32), .int (1 : Int32)]) B (hW.eq rfl) (c_X12_isBetween l G a (-1 : Int32) (1 : Int32)) yd_X12_isBetween ml_X12_36 rfl hl.1 rfl (Nat.le_of_ble_eq_true rfl) ⟨Nat.le_of_ble_eq_true rfl, Nat.le_of_ble_eq_true rfl⟩ ⟨(Nat.le_of_ble_eq_true rfl), (Nat.le_of_ble_eq_true rfl)⟩ dX12_setWind_3 (fun v u H locs hp hW => ?_)
  obtain ⟨rfl, rfl⟩ := hp
  have hW := hW.eq (w' := mdW G h ad md ++ (mlW G (ad 0) adm ml)) rfl
  have J_1 : ∀ (H : Heap) (locs : List Loc) (ls : Array Slot), zW G A s.heap H locs (mdW G h ad md ++ (mlW G (ad 0) adm ml)) → lv_has ls 6 [(0, .ref h), (1, .int a), (2, .int b), (3, .int f)] → W p l e (zRm 3 0 0) s m args below meth c H locs 0 0 (MQ below (zQ G A (po_X12_setWind G h ad md adm ml a b f)) args s 0 0 A) (F0 m 44 ls [.int (if (r_X12_isBetween a (-1 : Int32) (1 : Int32)) = (0 : Int32) then (0 : Int32) else (if (r_X12_isBetween b (-1 : Int32) (1 : Int32)) = (0 : Int32) then (0 : Int32) else (if (r_X12_isBetween f (0 : Int32) (if a = (0 : Int32) then (if b = (0 : Int32) then (0 : Int32) else (4 : Int32)) else (4 : Int32))) = (0 : Int32) then (0 : Int32) else (1 : Int32))))]) := by
    intro H locs ls hW hl
    refine lv_istore hx hb dX12_setWind_44 hl (by decide) rfl (fun ls hl => ?_)
    refine lv_aload_n hx hb dX12_setWind_46 rfl (lv_at hl 1 rfl) ?_
    refine lv_iload hx hb dX12_setWind_47 (lv_at hl 0 rfl) ?_
    have J_2 : ∀ (H : Heap) (locs : List Loc) (ls : Array Slot), zW G A s.heap H locs (mdW G h ad md ++ (mlW G (ad 0) adm ml)) → lv_has ls 6 [(0, .ref h), (1, .int a), (2, .int b), (3, .int f)] → W p l e (zRm 3 0 0) s m args below meth c H locs 0 0 (MQ below (zQ G A (po_X12_setWind G h ad md adm ml a b f)) args s 0 0 A) (F0 m 57 ls [.int (if (if (r_X12_isBetween a (-1 : Int32) (1 : Int32)) = (0 : Int32) then (0 : Int32) else (if (r_X12_isBetween b (-1 : Int32) (1 : Int32)) = (0 : Int32) then (0 : Int32) else (if (r_X12_isBetween f (0 : Int32) (if a = (0 : Int32) then (if b = (0 : Int32) then (0 : Int32) else (4 : Int32)) else (4 : Int32))) = (0 : Int32) then (0 : Int32) else (1 : Int32)))) = (0 : Int32) then (1 : Int32) else (0 : Int32)), .ref h]) := by
      intro H locs ls hW hl
      refine zcV (w1 := []) (wc := mdW G h ad md) (w2 := mlW G (ad 0) adm ml) (As := [.int (if (if (r_X12_isBetween a (-1 : Int32) (1 : Int32)) = (0 : Int32) then (0 : Int32) else (if (r_X12_isBetween b (-1 : Int32) (1 : Int32)) = (0 : Int32) then (0 : Int32) else (if (r_X12_isBetween f (0 : Int32) (if a = (0 : Int32) then (if b = (0 : Int32) then (0 : Int32) else (4 : Int32)) else (4 : Int32))) = (0 : Int32) then (0 : Int32) else (1 : Int32)))) = (0 : Int32) then (1 : Int32) else (0 : Int32))]) B (hW.eq rfl) (c_X12_isWrong l G h ad md (if (if (r_X12_isBetween a (-1 : Int32) (1 : Int32)) = (0 : Int32) then (0 : Int32) else (if (r_X12_isBetween b (-1 : Int32) (1 : Int32)) = (0 : Int32) then (0 : Int32) else (if (r_X12_isBetween f (0 : Int32) (if a = (0 : Int32) then (if b = (0 : Int32) then (0 : Int32) else (4 : Int32)) else (4 : Int32))) = (0 : Int32) then (0 : Int32) else (1 : Int32)))) = (0 : Int32) then (1 : Int32) else (0 : Int32))) yd_X12_isWrong ml_X12_44 0 rfl rfl rfl rfl hl.1 rfl (Nat.le_of_ble_eq_true rfl) ⟨Nat.le_of_ble_eq_true rfl, Nat.le_of_ble_eq_true rfl⟩ ⟨(Nat.le_of_ble_eq_true rfl), (Nat.le_of_ble_eq_true rfl)⟩ dX12_setWind_57 (fun v u H locs hp hW => ?_)
      obtain ⟨rfl, rfl⟩ := hp
      have hW := hW.eq (w' := mdW G h ad ((g_X12_isWrong_md_0 (if (if (r_X12_isBetween a (-1 : Int32) (1 : Int32)) = (0 : Int32) then (0 : Int32) else (if (r_X12_isBetween b (-1 : Int32) (1 : Int32)) = (0 : Int32) then (0 : Int32) else (if (r_X12_isBetween f (0 : Int32) (if a = (0 : Int32) then (if b = (0 : Int32) then (0 : Int32) else (4 : Int32)) else (4 : Int32))) = (0 : Int32) then (0 : Int32) else (1 : Int32)))) = (0 : Int32) then (1 : Int32) else (0 : Int32))), md.2.1, md.2.2.1, md.2.2.2) ++ (mlW G (ad 0) adm ml)) rfl
      refine lv_if_eq (tgt := 65) hx hb dX12_setWind_60 (by decide) (fun c_60 => ?_) (fun c_60 => ?_)
      · refine lv_aload_n hx hb dX12_setWind_65 rfl (lv_at hl 0 rfl) ?_
        refine zget B hW 0 rfl lf_X12_10 rfl dX12_setWind_66 ?_
        refine zgetN B hW 1 rfl lf_X12_63 rfl dX12_setWind_69 ?_
        refine lv_istore hx hb dX12_setWind_72 hl (by decide) rfl (fun ls hl => ?_)
        refine lv_aload_n hx hb dX12_setWind_74 rfl (lv_at hl 1 rfl) ?_
        refine zget B hW 0 rfl lf_X12_10 rfl dX12_setWind_75 ?_
        refine lv_iload_n hx hb dX12_setWind_78 rfl (lv_at hl 2 rfl) ?_
        refine zputN B hW 1 rfl lf_X12_66 ft_X8_6 rfl rfl (Nat.le_of_ble_eq_true rfl) dX12_setWind_79 (fun H locs hW => ?_)
        refine lv_aload_n hx hb dX12_setWind_82 rfl (lv_at hl 1 rfl) ?_
        refine zget B hW 0 rfl lf_X12_10 rfl dX12_setWind_83 ?_
        refine lv_iload_n hx hb dX12_setWind_86 rfl (lv_at hl 3 rfl) ?_
        refine zputN B hW 1 rfl lf_X12_69 ft_X8_7 rfl rfl (Nat.le_of_ble_eq_true rfl) dX12_setWind_87 (fun H locs hW => ?_)
        refine lv_aload_n hx hb dX12_setWind_90 rfl (lv_at hl 1 rfl) ?_
        refine zget B hW 0 rfl lf_X12_10 rfl dX12_setWind_91 ?_
        refine lv_iload_n hx hb dX12_setWind_94 rfl (lv_at hl 4 rfl) ?_
        refine zputN B hW 1 rfl lf_X12_63 ft_X8_8 rfl rfl (Nat.le_of_ble_eq_true rfl) dX12_setWind_95 (fun H locs hW => ?_)
        refine lv_iload hx hb dX12_setWind_98 (lv_at hl 0 rfl) ?_
        have e_0 : (if (r_X12_isWrong (if (if (r_X12_isBetween a (-1 : Int32) (1 : Int32)) = (0 : Int32) then (0 : Int32) else (if (r_X12_isBetween b (-1 : Int32) (1 : Int32)) = (0 : Int32) then (0 : Int32) else (if (r_X12_isBetween f (0 : Int32) (if a = (0 : Int32) then (if b = (0 : Int32) then (0 : Int32) else (4 : Int32)) else (4 : Int32))) = (0 : Int32) then (0 : Int32) else (1 : Int32)))) = (0 : Int32) then (1 : Int32) else (0 : Int32))) = (0 : Int32) then ml.2.2.2.2.2.2.2.2.1 else (0 : Int32)) = ml.2.2.2.2.2.2.2.2.1 := if_pos c_60
        have e_1 : (if (r_X12_isWrong (if (if (r_X12_isBetween a (-1 : Int32) (1 : Int32)) = (0 : Int32) then (0 : Int32) else (if (r_X12_isBetween b (-1 : Int32) (1 : Int32)) = (0 : Int32) then (0 : Int32) else (if (r_X12_isBetween f (0 : Int32) (if a = (0 : Int32) then (if b = (0 : Int32) then (0 : Int32) else (4 : Int32)) else (4 : Int32))) = (0 : Int32) then (0 : Int32) else (1 : Int32)))) = (0 : Int32) then (1 : Int32) else (0 : Int32))) = (0 : Int32) then a else ml.2.2.2.2.2.2.1) = a := if_pos c_60
        have e_2 : (if (r_X12_isWrong (if (if (r_X12_isBetween a (-1 : Int32) (1 : Int32)) = (0 : Int32) then (0 : Int32) else (if (r_X12_isBetween b (-1 : Int32) (1 : Int32)) = (0 : Int32) then (0 : Int32) else (if (r_X12_isBetween f (0 : Int32) (if a = (0 : Int32) then (if b = (0 : Int32) then (0 : Int32) else (4 : Int32)) else (4 : Int32))) = (0 : Int32) then (0 : Int32) else (1 : Int32)))) = (0 : Int32) then (1 : Int32) else (0 : Int32))) = (0 : Int32) then b else ml.2.2.2.2.2.2.2.1) = b := if_pos c_60
        have e_3 : (if (r_X12_isWrong (if (if (r_X12_isBetween a (-1 : Int32) (1 : Int32)) = (0 : Int32) then (0 : Int32) else (if (r_X12_isBetween b (-1 : Int32) (1 : Int32)) = (0 : Int32) then (0 : Int32) else (if (r_X12_isBetween f (0 : Int32) (if a = (0 : Int32) then (if b = (0 : Int32) then (0 : Int32) else (4 : Int32)) else (4 : Int32))) = (0 : Int32) then (0 : Int32) else (1 : Int32)))) = (0 : Int32) then (1 : Int32) else (0 : Int32))) = (0 : Int32) then f else ml.2.2.2.2.2.2.2.2.1) = f := if_pos c_60
        exact ziret B hr hlk hW ⟨by show _ = some (Value.int (if (r_X12_isWrong (if (if (r_X12_isBetween a (-1 : Int32) (1 : Int32)) = (0 : Int32) then (0 : Int32) else (if (r_X12_isBetween b (-1 : Int32) (1 : Int32)) = (0 : Int32) then (0 : Int32) else (if (r_X12_isBetween f (0 : Int32) (if a = (0 : Int32) then (if b = (0 : Int32) then (0 : Int32) else (4 : Int32)) else (4 : Int32))) = (0 : Int32) then (0 : Int32) else (1 : Int32)))) = (0 : Int32) then (1 : Int32) else (0 : Int32))) = (0 : Int32) then ml.2.2.2.2.2.2.2.2.1 else (0 : Int32))) <;> (try rw [e_0]) <;> (try rw [e_1]) <;> (try rw [e_2]) <;> (try rw [e_3]) <;> rfl, by show _ = mdW G h ad ((g_X12_isWrong_md_0 (if (if (r_X12_isBetween a (-1 : Int32) (1 : Int32)) = (0 : Int32) then (0 : Int32) else (if (r_X12_isBetween b (-1 : Int32) (1 : Int32)) = (0 : Int32) then (0 : Int32) else (if (r_X12_isBetween f (0 : Int32) (if a = (0 : Int32) then (if b = (0 : Int32) then (0 : Int32) else (4 : Int32)) else (4 : Int32))) = (0 : Int32) then (0 : Int32) else (1 : Int32)))) = (0 : Int32) then (1 : Int32) else (0 : Int32))), md.2.1, md.2.2.1, md.2.2.2) ++ (mlW G (ad 0) adm (ml.1, ml.2.1, ml.2.2.1, ml.2.2.2.1, ml.2.2.2.2.1, ml.2.2.2.2.2.1, (if (r_X12_isWrong (if (if (r_X12_isBetween a (-1 : Int32) (1 : Int32)) = (0 : Int32) then (0 : Int32) else (if (r_X12_isBetween b (-1 : Int32) (1 : Int32)) = (0 : Int32) then (0 : Int32) else (if (r_X12_isBetween f (0 : Int32) (if a = (0 : Int32) then (if b = (0 : Int32) then (0 : Int32) else (4 : Int32)) else (4 : Int32))) = (0 : Int32) then (0 : Int32) else (1 : Int32)))) = (0 : Int32) then (1 : Int32) else (0 : Int32))) = (0 : Int32) then a else ml.2.2.2.2.2.2.1), (if (r_X12_isWrong (if (if (r_X12_isBetween a (-1 : Int32) (1 : Int32)) = (0 : Int32) then (0 : Int32) else (if (r_X12_isBetween b (-1 : Int32) (1 : Int32)) = (0 : Int32) then (0 : Int32) else (if (r_X12_isBetween f (0 : Int32) (if a = (0 : Int32) then (if b = (0 : Int32) then (0 : Int32) else (4 : Int32)) else (4 : Int32))) = (0 : Int32) then (0 : Int32) else (1 : Int32)))) = (0 : Int32) then (1 : Int32) else (0 : Int32))) = (0 : Int32) then b else ml.2.2.2.2.2.2.2.1), (if (r_X12_isWrong (if (if (r_X12_isBetween a (-1 : Int32) (1 : Int32)) = (0 : Int32) then (0 : Int32) else (if (r_X12_isBetween b (-1 : Int32) (1 : Int32)) = (0 : Int32) then (0 : Int32) else (if (r_X12_isBetween f (0 : Int32) (if a = (0 : Int32) then (if b = (0 : Int32) then (0 : Int32) else (4 : Int32)) else (4 : Int32))) = (0 : Int32) then (0 : Int32) else (1 : Int32)))) = (0 : Int32) then (1 : Int32) else (0 : Int32))) = (0 : Int32) then f else ml.2.2.2.2.2.2.2.2.1), ml.2.2.2.2.2.2.2.2.2.1, ml.2.2.2.2.2.2.2.2.2.2.1, ml.2.2.2.2.2.2.2.2.2.2.2.1, ml.2.2.2.2.2.2.2.2.2.2.2.2)) <;> (try rw [e_0]) <;> (try rw [e_1]) <;> (try rw [e_2]) <;> (try rw [e_3]) <;> rfl⟩ (Nat.le_refl _) (Nat.le_refl _) dX12_setWind_100
      · refine lv_iconst (v := (0 : Int32)) hx hb dX12_setWind_63 (by decide) ?_
        have e_0 : (if (r_X12_isWrong (if (if (r_X12_isBetween a (-1 : Int32) (1 : Int32)) = (0 : Int32) then (0 : Int32) else (if (r_X12_isBetween b (-1 : Int32) (1 : Int32)) = (0 : Int32) then (0 : Int32) else (if (r_X12_isBetween f (0 : Int32) (if a = (0 : Int32) then (if b = (0 : Int32) then (0 : Int32) else (4 : Int32)) else (4 : Int32))) = (0 : Int32) then (0 : Int32) else (1 : Int32)))) = (0 : Int32) then (1 : Int32) else (0 : Int32))) = (0 : Int32) then ml.2.2.2.2.2.2.2.2.1 else (0 : Int32)) = (0 : Int32) := if_neg c_60
        have e_1 : (if (r_X12_isWrong (if (if (r_X12_isBetween a (-1 : Int32) (1 : Int32)) = (0 : Int32) then (0 : Int32) else (if (r_X12_isBetween b (-1 : Int32) (1 : Int32)) = (0 : Int32) then (0 : Int32) else (if (r_X12_isBetween f (0 : Int32) (if a = (0 : Int32) then (if b = (0 : Int32) then (0 : Int32) else (4 : Int32)) else (4 : Int32))) = (0 : Int32) then (0 : Int32) else (1 : Int32)))) = (0 : Int32) then (1 : Int32) else (0 : Int32))) = (0 : Int32) then a else ml.2.2.2.2.2.2.1) = ml.2.2.2.2.2.2.1 := if_neg c_60
        have e_2 : (if (r_X12_isWrong (if (if (r_X12_isBetween a (-1 : Int32) (1 : Int32)) = (0 : Int32) then (0 : Int32) else (if (r_X12_isBetween b (-1 : Int32) (1 : Int32)) = (0 : Int32) then (0 : Int32) else (if (r_X12_isBetween f (0 : Int32) (if a = (0 : Int32) then (if b = (0 : Int32) then (0 : Int32) else (4 : Int32)) else (4 : Int32))) = (0 : Int32) then (0 : Int32) else (1 : Int32)))) = (0 : Int32) then (1 : Int32) else (0 : Int32))) = (0 : Int32) then b else ml.2.2.2.2.2.2.2.1) = ml.2.2.2.2.2.2.2.1 := if_neg c_60
        have e_3 : (if (r_X12_isWrong (if (if (r_X12_isBetween a (-1 : Int32) (1 : Int32)) = (0 : Int32) then (0 : Int32) else (if (r_X12_isBetween b (-1 : Int32) (1 : Int32)) = (0 : Int32) then (0 : Int32) else (if (r_X12_isBetween f (0 : Int32) (if a = (0 : Int32) then (if b = (0 : Int32) then (0 : Int32) else (4 : Int32)) else (4 : Int32))) = (0 : Int32) then (0 : Int32) else (1 : Int32)))) = (0 : Int32) then (1 : Int32) else (0 : Int32))) = (0 : Int32) then f else ml.2.2.2.2.2.2.2.2.1) = ml.2.2.2.2.2.2.2.2.1 := if_neg c_60
        exact ziret B hr hlk hW ⟨by show _ = some (Value.int (if (r_X12_isWrong (if (if (r_X12_isBetween a (-1 : Int32) (1 : Int32)) = (0 : Int32) then (0 : Int32) else (if (r_X12_isBetween b (-1 : Int32) (1 : Int32)) = (0 : Int32) then (0 : Int32) else (if (r_X12_isBetween f (0 : Int32) (if a = (0 : Int32) then (if b = (0 : Int32) then (0 : Int32) else (4 : Int32)) else (4 : Int32))) = (0 : Int32) then (0 : Int32) else (1 : Int32)))) = (0 : Int32) then (1 : Int32) else (0 : Int32))) = (0 : Int32) then ml.2.2.2.2.2.2.2.2.1 else (0 : Int32))) <;> (try rw [e_0]) <;> (try rw [e_1]) <;> (try rw [e_2]) <;> (try rw [e_3]) <;> rfl, by show _ = mdW G h ad ((g_X12_isWrong_md_0 (if (if (r_X12_isBetween a (-1 : Int32) (1 : Int32)) = (0 : Int32) then (0 : Int32) else (if (r_X12_isBetween b (-1 : Int32) (1 : Int32)) = (0 : Int32) then (0 : Int32) else (if (r_X12_isBetween f (0 : Int32) (if a = (0 : Int32) then (if b = (0 : Int32) then (0 : Int32) else (4 : Int32)) else (4 : Int32))) = (0 : Int32) then (0 : Int32) else (1 : Int32)))) = (0 : Int32) then (1 : Int32) else (0 : Int32))), md.2.1, md.2.2.1, md.2.2.2) ++ (mlW G (ad 0) adm (ml.1, ml.2.1, ml.2.2.1, ml.2.2.2.1, ml.2.2.2.2.1, ml.2.2.2.2.2.1, (if (r_X12_isWrong (if (if (r_X12_isBetween a (-1 : Int32) (1 : Int32)) = (0 : Int32) then (0 : Int32) else (if (r_X12_isBetween b (-1 : Int32) (1 : Int32)) = (0 : Int32) then (0 : Int32) else (if (r_X12_isBetween f (0 : Int32) (if a = (0 : Int32) then (if b = (0 : Int32) then (0 : Int32) else (4 : Int32)) else (4 : Int32))) = (0 : Int32) then (0 : Int32) else (1 : Int32)))) = (0 : Int32) then (1 : Int32) else (0 : Int32))) = (0 : Int32) then a else ml.2.2.2.2.2.2.1), (if (r_X12_isWrong (if (if (r_X12_isBetween a (-1 : Int32) (1 : Int32)) = (0 : Int32) then (0 : Int32) else (if (r_X12_isBetween b (-1 : Int32) (1 : Int32)) = (0 : Int32) then (0 : Int32) else (if (r_X12_isBetween f (0 : Int32) (if a = (0 : Int32) then (if b = (0 : Int32) then (0 : Int32) else (4 : Int32)) else (4 : Int32))) = (0 : Int32) then (0 : Int32) else (1 : Int32)))) = (0 : Int32) then (1 : Int32) else (0 : Int32))) = (0 : Int32) then b else ml.2.2.2.2.2.2.2.1), (if (r_X12_isWrong (if (if (r_X12_isBetween a (-1 : Int32) (1 : Int32)) = (0 : Int32) then (0 : Int32) else (if (r_X12_isBetween b (-1 : Int32) (1 : Int32)) = (0 : Int32) then (0 : Int32) else (if (r_X12_isBetween f (0 : Int32) (if a = (0 : Int32) then (if b = (0 : Int32) then (0 : Int32) else (4 : Int32)) else (4 : Int32))) = (0 : Int32) then (0 : Int32) else (1 : Int32)))) = (0 : Int32) then (1 : Int32) else (0 : Int32))) = (0 : Int32) then f else ml.2.2.2.2.2.2.2.2.1), ml.2.2.2.2.2.2.2.2.2.1, ml.2.2.2.2.2.2.2.2.2.2.1, ml.2.2.2.2.2.2.2.2.2.2.2.1, ml.2.2.2.2.2.2.2.2.2.2.2.2)) <;> (try rw [e_0]) <;> (try rw [e_1]) <;> (try rw [e_2]) <;> (try rw [e_3]) <;> rfl⟩ (Nat.le_refl _) (Nat.le_refl _) dX12_setWind_64
    refine lv_if_eq (tgt := 56) hx hb dX12_setWind_49 (by decide) (fun c_49 => ?_) (fun c_49 => ?_)
    · refine lv_iconst (v := (1 : Int32)) hx hb dX12_setWind_56 (by decide) ?_
      have e_0 : (if (if (r_X12_isBetween a (-1 : Int32) (1 : Int32)) = (0 : Int32) then (0 : Int32) else (if (r_X12_isBetween b (-1 : Int32) (1 : Int32)) = (0 : Int32) then (0 : Int32) else (if (r_X12_isBetween f (0 : Int32) (if a = (0 : Int32) then (if b = (0 : Int32) then (0 : Int32) else (4 : Int32)) else (4 : Int32))) = (0 : Int32) then (0 : Int32) else (1 : Int32)))) = (0 : Int32) then (1 : Int32) else (0 : Int32)) = (1 : Int32) := if_pos c_49
      refine W.eq (g2 := F0 m 57 ls [.int (if (if (r_X12_isBetween a (-1 : Int32) (1 : Int32)) = (0 : Int32) then (0 : Int32) else (if (r_X12_isBetween b (-1 : Int32) (1 : Int32)) = (0 : Int32) then (0 : Int32) else (if (r_X12_isBetween f (0 : Int32) (if a = (0 : Int32) then (if b = (0 : Int32) then (0 : Int32) else (4 : Int32)) else (4 : Int32))) = (0 : Int32) then (0 : Int32) else (1 : Int32)))) = (0 : Int32) then (1 : Int32) else (0 : Int32)), .ref h]) (by (try rw [e_0]) <;> rfl) ?_
      exact J_2 _ _ _ (hW.eq (by (try rw [e_0]) <;> rfl)) (by (try rw [e_0]) <;> exact lv_sub hl [1, 2, 3, 4] rfl)
    · refine lv_iconst (v := (0 : Int32)) hx hb dX12_setWind_52 (by decide) ?_
      refine lv_goto (tgt := 57) hx hb dX12_setWind_53 (by decide) ?_
      have e_0 : (if (if (r_X12_isBetween a (-1 : Int32) (1 : Int32)) = (0 : Int32) then (0 : Int32) else (if (r_X12_isBetween b (-1 : Int32) (1 : Int32)) = (0 : Int32) then (0 : Int32) else (if (r_X12_isBetween f (0 : Int32) (if a = (0 : Int32) then (if b = (0 : Int32) then (0 : Int32) else (4 : Int32)) else (4 : Int32))) = (0 : Int32) then (0 : Int32) else (1 : Int32)))) = (0 : Int32) then (1 : Int32) else (0 : Int32)) = (0 : Int32) := if_neg c_49
      refine W.eq (g2 := F0 m 57 ls [.int (if (if (r_X12_isBetween a (-1 : Int32) (1 : Int32)) = (0 : Int32) then (0 : Int32) else (if (r_X12_isBetween b (-1 : Int32) (1 : Int32)) = (0 : Int32) then (0 : Int32) else (if (r_X12_isBetween f (0 : Int32) (if a = (0 : Int32) then (if b = (0 : Int32) then (0 : Int32) else (4 : Int32)) else (4 : Int32))) = (0 : Int32) then (0 : Int32) else (1 : Int32)))) = (0 : Int32) then (1 : Int32) else (0 : Int32)), .ref h]) (by (try rw [e_0]) <;> rfl) ?_
      exact J_2 _ _ _ (hW.eq (by (try rw [e_0]) <;> rfl)) (by (try rw [e_0]) <;> exact lv_sub hl [1, 2, 3, 4] rfl)
  refine lv_if_eq (tgt := 43) hx hb dX12_setWind_6 (by decide) (fun c_6 => ?_) (fun c_6 => ?_)
  · refine lv_iconst (v := (0 : Int32)) hx hb dX12_setWind_43 (by decide) ?_
    have e_0 : (if (r_X12_isBetween a (-1 : Int32) (1 : Int32)) = (0 : Int32) then (0 : Int32) else (if (r_X12_isBetween b (-1 : Int32) (1 : Int32)) = (0 : Int32) then (0 : Int32) else (if (r_X12_isBetween f (0 : Int32) (if a = (0 : Int32) then (if b = (0 : Int32) then (0 : Int32) else (4 : Int32)) else (4 : Int32))) = (0 : Int32) then (0 : Int32) else (1 : Int32)))) = (0 : Int32) := if_pos c_6
    refine W.eq (g2 := F0 m 44 ls [.int (if (r_X12_isBetween a (-1 : Int32) (1 : Int32)) = (0 : Int32) then (0 : Int32) else (if (r_X12_isBetween b (-1 : Int32) (1 : Int32)) = (0 : Int32) then (0 : Int32) else (if (r_X12_isBetween f (0 : Int32) (if a = (0 : Int32) then (if b = (0 : Int32) then (0 : Int32) else (4 : Int32)) else (4 : Int32))) = (0 : Int32) then (0 : Int32) else (1 : Int32))))]) (by (try rw [e_0]) <;> rfl) ?_
    exact J_1 _ _ _ (hW.eq (by (try rw [e_0]) <;> rfl)) (by (try rw [e_0]) <;> exact lv_sub hl [0, 1, 2, 3] rfl)
  · refine lv_iload_n hx hb dX12_setWind_9 rfl (lv_at hl 2 rfl) ?_
    refine lv_iconst (v := (-1 : Int32)) hx hb dX12_setWind_10 (by decide) ?_
    refine lv_iconst (v := (1 : Int32)) hx hb dX12_setWind_11 (by decide) ?_
    refine zcS (w1 := []) (wc := []) (w2 := mdW G h ad md ++ (mlW G (ad 0) adm ml)) (As := [.int b, .int (-1 : Int32), .int (1 : Int32)]) B (hW.eq rfl) (c_X12_isBetween l G b (-1 : Int32) (1 : Int32)) yd_X12_isBetween ml_X12_36 rfl hl.1 rfl (Nat.le_of_ble_eq_true rfl) ⟨Nat.le_of_ble_eq_true rfl, Nat.le_of_ble_eq_true rfl⟩ ⟨(Nat.le_of_ble_eq_true rfl), (Nat.le_of_ble_eq_true rfl)⟩ dX12_setWind_12 (fun v u H locs hp hW => ?_)
    obtain ⟨rfl, rfl⟩ := hp
    have hW := hW.eq (w' := mdW G h ad md ++ (mlW G (ad 0) adm ml)) rfl
    refine lv_if_eq (tgt := 43) hx hb dX12_setWind_15 (by decide) (fun c_15 => ?_) (fun c_15 => ?_)
    · refine lv_iconst (v := (0 : Int32)) hx hb dX12_setWind_43 (by decide) ?_
      have e_0 : (if (r_X12_isBetween a (-1 : Int32) (1 : Int32)) = (0 : Int32) then (0 : Int32) else (if (r_X12_isBetween b (-1 : Int32) (1 : Int32)) = (0 : Int32) then (0 : Int32) else (if (r_X12_isBetween f (0 : Int32) (if a = (0 : Int32) then (if b = (0 : Int32) then (0 : Int32) else (4 : Int32)) else (4 : Int32))) = (0 : Int32) then (0 : Int32) else (1 : Int32)))) = (0 : Int32) := (if_neg c_6).trans (if_pos c_15)
      refine W.eq (g2 := F0 m 44 ls [.int (if (r_X12_isBetween a (-1 : Int32) (1 : Int32)) = (0 : Int32) then (0 : Int32) else (if (r_X12_isBetween b (-1 : Int32) (1 : Int32)) = (0 : Int32) then (0 : Int32) else (if (r_X12_isBetween f (0 : Int32) (if a = (0 : Int32) then (if b = (0 : Int32) then (0 : Int32) else (4 : Int32)) else (4 : Int32))) = (0 : Int32) then (0 : Int32) else (1 : Int32))))]) (by (try rw [e_0]) <;> rfl) ?_
      exact J_1 _ _ _ (hW.eq (by (try rw [e_0]) <;> rfl)) (by (try rw [e_0]) <;> exact lv_sub hl [0, 1, 2, 3] rfl)
    · refine lv_iload_n hx hb dX12_setWind_18 rfl (lv_at hl 3 rfl) ?_
      refine lv_iconst (v := (0 : Int32)) hx hb dX12_setWind_19 (by decide) ?_
      refine lv_iload_n hx hb dX12_setWind_20 rfl (lv_at hl 1 rfl) ?_
      have J_3 : ∀ (H : Heap) (locs : List Loc) (ls : Array Slot), zW G A s.heap H locs (mdW G h ad md ++ (mlW G (ad 0) adm ml)) → lv_has ls 6 [(0, .ref h), (1, .int a), (2, .int b), (3, .int f)] → W p l e (zRm 3 0 0) s m args below meth c H locs 0 0 (MQ below (zQ G A (po_X12_setWind G h ad md adm ml a b f)) args s 0 0 A) (F0 m 33 ls [.int (if a = (0 : Int32) then (if b = (0 : Int32) then (0 : Int32) else (4 : Int32)) else (4 : Int32)), .int (0 : Int32), .int f]) := by
        intro H locs ls hW hl
        refine zcS (w1 := []) (wc := []) (w2 := mdW G h ad md ++ (mlW G (ad 0) adm ml)) (As := [.int f, .int (0 : Int32), .int (if a = (0 : Int32) then (if b = (0 : Int32) then (0 : Int32) else (4 : Int32)) else (4 : Int32))]) B (hW.eq rfl) (c_X12_isBetween l G f (0 : Int32) (if a = (0 : Int32) then (if b = (0 : Int32) then (0 : Int32) else (4 : Int32)) else (4 : Int32))) yd_X12_isBetween ml_X12_36 rfl hl.1 rfl (Nat.le_of_ble_eq_true rfl) ⟨Nat.le_of_ble_eq_true rfl, Nat.le_of_ble_eq_true rfl⟩ ⟨(Nat.le_of_ble_eq_true rfl), (Nat.le_of_ble_eq_true rfl)⟩ dX12_setWind_33 (fun v u H locs hp hW => ?_)
        obtain ⟨rfl, rfl⟩ := hp
        have hW := hW.eq (w' := mdW G h ad md ++ (mlW G (ad 0) adm ml)) rfl
        refine lv_if_eq (tgt := 43) hx hb dX12_setWind_36 (by decide) (fun c_36 => ?_) (fun c_36 => ?_)
        · refine lv_iconst (v := (0 : Int32)) hx hb dX12_setWind_43 (by decide) ?_
          have e_0 : (if (r_X12_isBetween a (-1 : Int32) (1 : Int32)) = (0 : Int32) then (0 : Int32) else (if (r_X12_isBetween b (-1 : Int32) (1 : Int32)) = (0 : Int32) then (0 : Int32) else (if (r_X12_isBetween f (0 : Int32) (if a = (0 : Int32) then (if b = (0 : Int32) then (0 : Int32) else (4 : Int32)) else (4 : Int32))) = (0 : Int32) then (0 : Int32) else (1 : Int32)))) = (0 : Int32) := (if_neg c_6).trans ((if_neg c_15).trans (if_pos c_36))
          refine W.eq (g2 := F0 m 44 ls [.int (if (r_X12_isBetween a (-1 : Int32) (1 : Int32)) = (0 : Int32) then (0 : Int32) else (if (r_X12_isBetween b (-1 : Int32) (1 : Int32)) = (0 : Int32) then (0 : Int32) else (if (r_X12_isBetween f (0 : Int32) (if a = (0 : Int32) then (if b = (0 : Int32) then (0 : Int32) else (4 : Int32)) else (4 : Int32))) = (0 : Int32) then (0 : Int32) else (1 : Int32))))]) (by (try rw [e_0]) <;> rfl) ?_
          exact J_1 _ _ _ (hW.eq (by (try rw [e_0]) <;> rfl)) (by (try rw [e_0]) <;> exact lv_sub hl [0, 1, 2, 3] rfl)
        · refine lv_iconst (v := (1 : Int32)) hx hb dX12_setWind_39 (by decide) ?_
          refine lv_goto (tgt := 44) hx hb dX12_setWind_40 (by decide) ?_
          have e_0 : (if (r_X12_isBetween a (-1 : Int32) (1 : Int32)) = (0 : Int32) then (0 : Int32) else (if (r_X12_isBetween b (-1 : Int32) (1 : Int32)) = (0 : Int32) then (0 : Int32) else (if (r_X12_isBetween f (0 : Int32) (if a = (0 : Int32) then (if b = (0 : Int32) then (0 : Int32) else (4 : Int32)) else (4 : Int32))) = (0 : Int32) then (0 : Int32) else (1 : Int32)))) = (1 : Int32) := (if_neg c_6).trans ((if_neg c_15).trans (if_neg c_36))
          refine W.eq (g2 := F0 m 44 ls [.int (if (r_X12_isBetween a (-1 : Int32) (1 : Int32)) = (0 : Int32) then (0 : Int32) else (if (r_X12_isBetween b (-1 : Int32) (1 : Int32)) = (0 : Int32) then (0 : Int32) else (if (r_X12_isBetween f (0 : Int32) (if a = (0 : Int32) then (if b = (0 : Int32) then (0 : Int32) else (4 : Int32)) else (4 : Int32))) = (0 : Int32) then (0 : Int32) else (1 : Int32))))]) (by (try rw [e_0]) <;> rfl) ?_
          exact J_1 _ _ _ (hW.eq (by (try rw [e_0]) <;> rfl)) (by (try rw [e_0]) <;> exact lv_sub hl [0, 1, 2, 3] rfl)
      refine lv_if_ne (tgt := 32) hx hb dX12_setWind_21 (by decide) (fun c_21 => ?_) (fun c_21 => ?_)
      · refine lv_iconst (v := (4 : Int32)) hx hb dX12_setWind_32 (by decide) ?_
        have e_0 : (if a = (0 : Int32) then (if b = (0 : Int32) then (0 : Int32) else (4 : Int32)) else (4 : Int32)) = (4 : Int32) := if_neg c_21
        refine W.eq (g2 := F0 m 33 ls [.int (if a = (0 : Int32) then (if b = (0 : Int32) then (0 : Int32) else (4 : Int32)) else (4 : Int32)), .int (0 : Int32), .int f]) (by (try rw [e_0]) <;> rfl) ?_
        exact J_3 _ _ _ (hW.eq (by (try rw [e_0]) <;> rfl)) (by (try rw [e_0]) <;> exact lv_sub hl [0, 1, 2, 3] rfl)
      · refine lv_iload_n hx hb dX12_setWind_24 rfl (lv_at hl 2 rfl) ?_
        refine lv_if_ne (tgt := 32) hx hb dX12_setWind_25 (by decide) (fun c_25 => ?_) (fun c_25 => ?_)
        · refine lv_iconst (v := (4 : Int32)) hx hb dX12_setWind_32 (by decide) ?_
          have e_0 : (if a = (0 : Int32) then (if b = (0 : Int32) then (0 : Int32) else (4 : Int32)) else (4 : Int32)) = (4 : Int32) := (if_pos c_21).trans (if_neg c_25)
          refine W.eq (g2 := F0 m 33 ls [.int (if a = (0 : Int32) then (if b = (0 : Int32) then (0 : Int32) else (4 : Int32)) else (4 : Int32)), .int (0 : Int32), .int f]) (by (try rw [e_0]) <;> rfl) ?_
          exact J_3 _ _ _ (hW.eq (by (try rw [e_0]) <;> rfl)) (by (try rw [e_0]) <;> exact lv_sub hl [0, 1, 2, 3] rfl)
        · refine lv_iconst (v := (0 : Int32)) hx hb dX12_setWind_28 (by decide) ?_
          refine lv_goto (tgt := 33) hx hb dX12_setWind_29 (by decide) ?_
          have e_0 : (if a = (0 : Int32) then (if b = (0 : Int32) then (0 : Int32) else (4 : Int32)) else (4 : Int32)) = (0 : Int32) := (if_pos c_21).trans (if_pos c_25)
          refine W.eq (g2 := F0 m 33 ls [.int (if a = (0 : Int32) then (if b = (0 : Int32) then (0 : Int32) else (4 : Int32)) else (4 : Int32)), .int (0 : Int32), .int f]) (by (try rw [e_0]) <;> rfl) ?_
          exact J_3 _ _ _ (hW.eq (by (try rw [e_0]) <;> rfl)) (by (try rw [e_0]) <;> exact lv_sub hl [0, 1, 2, 3] rfl)
def g_X12_setRain_md_0 (a : Int32) : Int32 := (g_X12_isWrong_md_0 (if (r_X12_isBetween a (0 : Int32) (9 : Int32)) = (0 : Int32) then (1 : Int32) else (0 : Int32)))
def f_X12_setRain_md (md : zMd) (ml : zMl) (a : Int32) : zMd := (g_X12_setRain_md_0 a, md.2.1, md.2.2.1, md.2.2.2)
def g_X12_setRain_ml_9 (ml_9 : Int32) (a : Int32) : Int32 := (if (r_X12_isWrong (if (r_X12_isBetween a (0 : Int32) (9 : Int32)) = (0 : Int32) then (1 : Int32) else (0 : Int32))) = (0 : Int32) then a else ml_9)
def f_X12_setRain_ml (md : zMd) (ml : zMl) (a : Int32) : zMl := (ml.1, ml.2.1, ml.2.2.1, ml.2.2.2.1, ml.2.2.2.2.1, ml.2.2.2.2.2.1, ml.2.2.2.2.2.2.1, ml.2.2.2.2.2.2.2.1, ml.2.2.2.2.2.2.2.2.1, g_X12_setRain_ml_9 ml.2.2.2.2.2.2.2.2.2.1 a, ml.2.2.2.2.2.2.2.2.2.2.1, ml.2.2.2.2.2.2.2.2.2.2.2.1, ml.2.2.2.2.2.2.2.2.2.2.2.2)
def r_X12_setRain (ml_9 : Int32) (a : Int32) : Int32 := (if (r_X12_isWrong (if (r_X12_isBetween a (0 : Int32) (9 : Int32)) = (0 : Int32) then (1 : Int32) else (0 : Int32))) = (0 : Int32) then ml_9 else (0 : Int32))
abbrev po_X12_setRain (G : zG) (h : Nat) (ad : Nat → Nat) (md : zMd) (adm : Nat → Nat) (ml : zMl) (a : Int32) : Option Value → va_W → Prop := fun r u => r = some (.int (r_X12_setRain ml.2.2.2.2.2.2.2.2.2.1 a)) ∧ u = mdW G h ad (f_X12_setRain_md md ml a) ++ (mlW G (ad 0) adm (f_X12_setRain_ml md ml a))
set_option maxHeartbeats 4000000 in
set_option maxRecDepth 100000 in
theorem c_X12_setRain (l : Launch) (G : zG) (h : Nat) (ad : Nat → Nat) (md : zMd) (adm : Nat → Nat) (ml : zMl) (a : Int32) : zC l yX12_setRain cX12_setRain 3 (some .int) 3 0 0 G [.ref h, .int a] (mdW G h ad md ++ (mlW G (ad 0) adm ml)) (po_X12_setRain G h ad md adm ml a) := by
  refine zC.of RX12 rfl (by decide) (Nat.le_of_ble_eq_true rfl) ?_
  intro p e s m args below meth c A ls B hr hlk hnm hW hl
  have hx := B.x
  have hb := B.b
  have hl : lv_has ls 3 [(0, .ref h), (1, .int a)] := hl
  refine lv_aload_n hx hb dX12_setRain_0 rfl (lv_at hl 0 rfl) ?_
  refine lv_iload_n hx hb dX12_setRain_1 rfl (lv_at hl 1 rfl) ?_
  refine lv_iconst (v := (0 : Int32)) hx hb dX12_setRain_2 (by decide) ?_
  refine lv_bipush (v := (9 : Int32)) hx hb dX12_setRain_3 (by decide) ?_
  refine zcS (w1 := []) (wc := []) (w2 := mdW G h ad md ++ (mlW G (ad 0) adm ml)) (As := [.int a, .int (0 : Int32), .int (9 : Int32)]) B (hW.eq rfl) (c_X12_isBetween l G a (0 : Int32) (9 : Int32)) yd_X12_isBetween ml_X12_36 rfl hl.1 rfl (Nat.le_of_ble_eq_true rfl) ⟨Nat.le_of_ble_eq_true rfl, Nat.le_of_ble_eq_true rfl⟩ ⟨(Nat.le_of_ble_eq_true rfl), (Nat.le_of_ble_eq_true rfl)⟩ dX12_setRain_5 (fun v u H locs hp hW => ?_)
  obtain ⟨rfl, rfl⟩ := hp
  have hW := hW.eq (w' := mdW G h ad md ++ (mlW G (ad 0) adm ml)) rfl
  have J_1 : ∀ (H : Heap) (locs : List Loc) (ls : Array Slot), zW G A s.heap H locs (mdW G h ad md ++ (mlW G (ad 0) adm ml)) → lv_has ls 3 [(0, .ref h), (1, .int a)] → W p l e (zRm 3 0 0) s m args below meth c H locs 0 0 (MQ below (zQ G A (po_X12_setRain G h ad md adm ml a)) args s 0 0 A) (F0 m 16 ls [.int (if (r_X12_isBetween a (0 : Int32) (9 : Int32)) = (0 : Int32) then (1 : Int32) else (0 : Int32)), .ref h]) := by
    intro H locs ls hW hl
    refine zcV (w1 := []) (wc := mdW G h ad md) (w2 := mlW G (ad 0) adm ml) (As := [.int (if (r_X12_isBetween a (0 : Int32) (9 : Int32)) = (0 : Int32) then (1 : Int32) else (0 : Int32))]) B (hW.eq rfl) (c_X12_isWrong l G h ad md (if (r_X12_isBetween a (0 : Int32) (9 : Int32)) = (0 : Int32) then (1 : Int32) else (0 : Int32))) yd_X12_isWrong ml_X12_44 0 rfl rfl rfl rfl hl.1 rfl (Nat.le_of_ble_eq_true rfl) ⟨Nat.le_of_ble_eq_true rfl, Nat.le_of_ble_eq_true rfl⟩ ⟨(Nat.le_of_ble_eq_true rfl), (Nat.le_of_ble_eq_true rfl)⟩ dX12_setRain_16 (fun v u H locs hp hW => ?_)
    obtain ⟨rfl, rfl⟩ := hp
    have hW := hW.eq (w' := mdW G h ad ((g_X12_isWrong_md_0 (if (r_X12_isBetween a (0 : Int32) (9 : Int32)) = (0 : Int32) then (1 : Int32) else (0 : Int32))), md.2.1, md.2.2.1, md.2.2.2) ++ (mlW G (ad 0) adm ml)) rfl
    refine lv_if_eq (tgt := 24) hx hb dX12_setRain_19 (by decide) (fun c_19 => ?_) (fun c_19 => ?_)
    · refine lv_aload_n hx hb dX12_setRain_24 rfl (lv_at hl 0 rfl) ?_
      refine zget B hW 0 rfl lf_X12_10 rfl dX12_setRain_25 ?_
      refine zgetN B hW 1 rfl lf_X12_72 rfl dX12_setRain_28 ?_
      refine lv_istore_n hx hb dX12_setRain_31 rfl hl (by decide) rfl (fun ls hl => ?_)
      refine lv_aload_n hx hb dX12_setRain_32 rfl (lv_at hl 1 rfl) ?_
      refine zget B hW 0 rfl lf_X12_10 rfl dX12_setRain_33 ?_
      refine lv_iload_n hx hb dX12_setRain_36 rfl (lv_at hl 2 rfl) ?_
      refine zputN B hW 1 rfl lf_X12_72 ft_X8_9 rfl rfl (Nat.le_of_ble_eq_true rfl) dX12_setRain_37 (fun H locs hW => ?_)
      refine lv_iload_n hx hb dX12_setRain_40 rfl (lv_at hl 0 rfl) ?_
      have e_0 : (if (r_X12_isWrong (if (r_X12_isBetween a (0 : Int32) (9 : Int32)) = (0 : Int32) then (1 : Int32) else (0 : Int32))) = (0 : Int32) then ml.2.2.2.2.2.2.2.2.2.1 else (0 : Int32)) = ml.2.2.2.2.2.2.2.2.2.1 := if_pos c_19
      have e_1 : (if (r_X12_isWrong (if (r_X12_isBetween a (0 : Int32) (9 : Int32)) = (0 : Int32) then (1 : Int32) else (0 : Int32))) = (0 : Int32) then a else ml.2.2.2.2.2.2.2.2.2.1) = a := if_pos c_19
      exact ziret B hr hlk hW ⟨by show _ = some (Value.int (if (r_X12_isWrong (if (r_X12_isBetween a (0 : Int32) (9 : Int32)) = (0 : Int32) then (1 : Int32) else (0 : Int32))) = (0 : Int32) then ml.2.2.2.2.2.2.2.2.2.1 else (0 : Int32))) <;> (try rw [e_0]) <;> (try rw [e_1]) <;> rfl, by show _ = mdW G h ad ((g_X12_isWrong_md_0 (if (r_X12_isBetween a (0 : Int32) (9 : Int32)) = (0 : Int32) then (1 : Int32) else (0 : Int32))), md.2.1, md.2.2.1, md.2.2.2) ++ (mlW G (ad 0) adm (ml.1, ml.2.1, ml.2.2.1, ml.2.2.2.1, ml.2.2.2.2.1, ml.2.2.2.2.2.1, ml.2.2.2.2.2.2.1, ml.2.2.2.2.2.2.2.1, ml.2.2.2.2.2.2.2.2.1, (if (r_X12_isWrong (if (r_X12_isBetween a (0 : Int32) (9 : Int32)) = (0 : Int32) then (1 : Int32) else (0 : Int32))) = (0 : Int32) then a else ml.2.2.2.2.2.2.2.2.2.1), ml.2.2.2.2.2.2.2.2.2.2.1, ml.2.2.2.2.2.2.2.2.2.2.2.1, ml.2.2.2.2.2.2.2.2.2.2.2.2)) <;> (try rw [e_0]) <;> (try rw [e_1]) <;> rfl⟩ (Nat.le_refl _) (Nat.le_refl _) dX12_setRain_41
    · refine lv_iconst (v := (0 : Int32)) hx hb dX12_setRain_22 (by decide) ?_
      have e_0 : (if (r_X12_isWrong (if (r_X12_isBetween a (0 : Int32) (9 : Int32)) = (0 : Int32) then (1 : Int32) else (0 : Int32))) = (0 : Int32) then ml.2.2.2.2.2.2.2.2.2.1 else (0 : Int32)) = (0 : Int32) := if_neg c_19
      have e_1 : (if (r_X12_isWrong (if (r_X12_isBetween a (0 : Int32) (9 : Int32)) = (0 : Int32) then (1 : Int32) else (0 : Int32))) = (0 : Int32) then a else ml.2.2.2.2.2.2.2.2.2.1) = ml.2.2.2.2.2.2.2.2.2.1 := if_neg c_19
      exact ziret B hr hlk hW ⟨by show _ = some (Value.int (if (r_X12_isWrong (if (r_X12_isBetween a (0 : Int32) (9 : Int32)) = (0 : Int32) then (1 : Int32) else (0 : Int32))) = (0 : Int32) then ml.2.2.2.2.2.2.2.2.2.1 else (0 : Int32))) <;> (try rw [e_0]) <;> (try rw [e_1]) <;> rfl, by show _ = mdW G h ad ((g_X12_isWrong_md_0 (if (r_X12_isBetween a (0 : Int32) (9 : Int32)) = (0 : Int32) then (1 : Int32) else (0 : Int32))), md.2.1, md.2.2.1, md.2.2.2) ++ (mlW G (ad 0) adm (ml.1, ml.2.1, ml.2.2.1, ml.2.2.2.1, ml.2.2.2.2.1, ml.2.2.2.2.2.1, ml.2.2.2.2.2.2.1, ml.2.2.2.2.2.2.2.1, ml.2.2.2.2.2.2.2.2.1, (if (r_X12_isWrong (if (r_X12_isBetween a (0 : Int32) (9 : Int32)) = (0 : Int32) then (1 : Int32) else (0 : Int32))) = (0 : Int32) then a else ml.2.2.2.2.2.2.2.2.2.1), ml.2.2.2.2.2.2.2.2.2.2.1, ml.2.2.2.2.2.2.2.2.2.2.2.1, ml.2.2.2.2.2.2.2.2.2.2.2.2)) <;> (try rw [e_0]) <;> (try rw [e_1]) <;> rfl⟩ (Nat.le_refl _) (Nat.le_refl _) dX12_setRain_23
  refine lv_if_eq (tgt := 15) hx hb dX12_setRain_8 (by decide) (fun c_8 => ?_) (fun c_8 => ?_)
  · refine lv_iconst (v := (1 : Int32)) hx hb dX12_setRain_15 (by decide) ?_
    have e_0 : (if (r_X12_isBetween a (0 : Int32) (9 : Int32)) = (0 : Int32) then (1 : Int32) else (0 : Int32)) = (1 : Int32) := if_pos c_8
    refine W.eq (g2 := F0 m 16 ls [.int (if (r_X12_isBetween a (0 : Int32) (9 : Int32)) = (0 : Int32) then (1 : Int32) else (0 : Int32)), .ref h]) (by (try rw [e_0]) <;> rfl) ?_
    exact J_1 _ _ _ (hW.eq (by (try rw [e_0]) <;> rfl)) (by (try rw [e_0]) <;> exact lv_sub hl [0, 1] rfl)
  · refine lv_iconst (v := (0 : Int32)) hx hb dX12_setRain_11 (by decide) ?_
    refine lv_goto (tgt := 16) hx hb dX12_setRain_12 (by decide) ?_
    have e_0 : (if (r_X12_isBetween a (0 : Int32) (9 : Int32)) = (0 : Int32) then (1 : Int32) else (0 : Int32)) = (0 : Int32) := if_neg c_8
    refine W.eq (g2 := F0 m 16 ls [.int (if (r_X12_isBetween a (0 : Int32) (9 : Int32)) = (0 : Int32) then (1 : Int32) else (0 : Int32)), .ref h]) (by (try rw [e_0]) <;> rfl) ?_
    exact J_1 _ _ _ (hW.eq (by (try rw [e_0]) <;> rfl)) (by (try rw [e_0]) <;> exact lv_sub hl [0, 1] rfl)
def g_X12_digLine_md_0 (ml_3 : Nat → Int32) (ml_5 : Nat → Int32) (a : Int32) (b : Int32) (f : Int32) : Int32 := (g_X12_isWrong_md_0 (if (r_X12_isCell a b) = (0 : Int32) then (1 : Int32) else (if (r_X12_isCrew f) = (0 : Int32) then (2 : Int32) else (if (ml_5 (r_X12_at a b).toNatClampNeg) = (0 : Int32) then (if (ml_3 (r_X12_at a b).toNatClampNeg) ≤ (4 : Int32) then (0 : Int32) else (3 : Int32)) else (3 : Int32)))))
def f_X12_digLine_md (md : zMd) (ml : zMl) (a : Int32) (b : Int32) (f : Int32) : zMd := (g_X12_digLine_md_0 ml.2.2.2.1 ml.2.2.2.2.2.1 a b f, md.2.1, md.2.2.1, md.2.2.2)
def g_X12_digLine_ml_1 (ml_0 : Nat → Int32) (ml_1 : Nat → Int32) (ml_3 : Nat → Int32) (ml_5 : Nat → Int32) (a : Int32) (b : Int32) (f : Int32) : Nat → Int32 := (if (r_X12_isWrong (if (r_X12_isCell a b) = (0 : Int32) then (1 : Int32) else (if (r_X12_isCrew f) = (0 : Int32) then (2 : Int32) else (if (ml_5 (r_X12_at a b).toNatClampNeg) = (0 : Int32) then (if (ml_3 (r_X12_at a b).toNatClampNeg) ≤ (4 : Int32) then (0 : Int32) else (3 : Int32)) else (3 : Int32))))) = (0 : Int32) then (upd ml_1 f.toNatClampNeg ((2 : Int32) + ((ml_0 (r_X12_at a b).toNatClampNeg) / (20 : Int32)))) else ml_1)
def g_X12_digLine_ml_2 (ml_2 : Nat → Int32) (ml_3 : Nat → Int32) (ml_5 : Nat → Int32) (a : Int32) (b : Int32) (f : Int32) : Nat → Int32 := (if (r_X12_isWrong (if (r_X12_isCell a b) = (0 : Int32) then (1 : Int32) else (if (r_X12_isCrew f) = (0 : Int32) then (2 : Int32) else (if (ml_5 (r_X12_at a b).toNatClampNeg) = (0 : Int32) then (if (ml_3 (r_X12_at a b).toNatClampNeg) ≤ (4 : Int32) then (0 : Int32) else (3 : Int32)) else (3 : Int32))))) = (0 : Int32) then (upd ml_2 f.toNatClampNeg (r_X12_at a b)) else ml_2)
def f_X12_digLine_ml (md : zMd) (ml : zMl) (a : Int32) (b : Int32) (f : Int32) : zMl := (ml.1, g_X12_digLine_ml_1 ml.1 ml.2.1 ml.2.2.2.1 ml.2.2.2.2.2.1 a b f, g_X12_digLine_ml_2 ml.2.2.1 ml.2.2.2.1 ml.2.2.2.2.2.1 a b f, ml.2.2.2.1, ml.2.2.2.2.1, ml.2.2.2.2.2.1, ml.2.2.2.2.2.2.1, ml.2.2.2.2.2.2.2.1, ml.2.2.2.2.2.2.2.2.1, ml.2.2.2.2.2.2.2.2.2.1, ml.2.2.2.2.2.2.2.2.2.2.1, ml.2.2.2.2.2.2.2.2.2.2.2.1, ml.2.2.2.2.2.2.2.2.2.2.2.2)
def r_X12_digLine (ml_0 : Nat → Int32) (ml_1 : Nat → Int32) (ml_3 : Nat → Int32) (ml_5 : Nat → Int32) (a : Int32) (b : Int32) (f : Int32) : Int32 := (if (r_X12_isWrong (if (r_X12_isCell a b) = (0 : Int32) then (1 : Int32) else (if (r_X12_isCrew f) = (0 : Int32) then (2 : Int32) else (if (ml_5 (r_X12_at a b).toNatClampNeg) = (0 : Int32) then (if (ml_3 (r_X12_at a b).toNatClampNeg) ≤ (4 : Int32) then (0 : Int32) else (3 : Int32)) else (3 : Int32))))) = (0 : Int32) then ((upd ml_1 f.toNatClampNeg ((2 : Int32) + ((ml_0 (r_X12_at a b).toNatClampNeg) / (20 : Int32)))) f.toNatClampNeg) else (0 : Int32))
abbrev po_X12_digLine (G : zG) (h : Nat) (ad : Nat → Nat) (md : zMd) (adm : Nat → Nat) (ml : zMl) (a : Int32) (b : Int32) (f : Int32) : Option Value → va_W → Prop := fun r u => r = some (.int (r_X12_digLine ml.1 ml.2.1 ml.2.2.2.1 ml.2.2.2.2.2.1 a b f)) ∧ u = mdW G h ad (f_X12_digLine_md md ml a b f) ++ (mlW G (ad 0) adm (f_X12_digLine_ml md ml a b f))
set_option maxHeartbeats 4000000 in
set_option maxRecDepth 100000 in
theorem c_X12_digLine (l : Launch) (G : zG) (h : Nat) (ad : Nat → Nat) (md : zMd) (adm : Nat → Nat) (ml : zMl) (a : Int32) (b : Int32) (f : Int32) : zC l yX12_digLine cX12_digLine 4 (some .int) 3 0 0 G [.ref h, .int a, .int b, .int f] (mdW G h ad md ++ (mlW G (ad 0) adm ml)) (po_X12_digLine G h ad md adm ml a b f) := by
  refine zC.of RX12 rfl (by decide) (Nat.le_of_ble_eq_true rfl) ?_
  intro p e s m args below meth c A ls B hr hlk hnm hW hl
  have hx := B.x
  have hb := B.b
  have hl : lv_has ls 4 [(0, .ref h), (1, .int a), (2, .int b), (3, .int f)] := hl
  refine lv_aload_n hx hb dX12_digLine_0 rfl (lv_at hl 0 rfl) ?_
  refine lv_iload_n hx hb dX12_digLine_1 rfl (lv_at hl 1 rfl) ?_
  refine lv_iload_n hx hb dX12_digLine_2 rfl (lv_at hl 2 rfl) ?_
  refine zcS (w1 := []) (wc := []) (w2 := mdW G h ad md ++ (mlW G (ad 0) adm ml)) (As := [.int a, .int b]) B (hW.eq rfl) (c_X12_isCell l G a b) yd_X12_isCell ml_X12_40 rfl hl.1 rfl (Nat.le_of_ble_eq_true rfl) ⟨Nat.le_of_ble_eq_true rfl, Nat.le_of_ble_eq_true rfl⟩ ⟨(Nat.le_of_ble_eq_true rfl), (Nat.le_of_ble_eq_true rfl)⟩ dX12_digLine_3 (fun v u H locs hp hW => ?_)
  obtain ⟨rfl, rfl⟩ := hp
  have hW := hW.eq (w' := mdW G h ad md ++ (mlW G (ad 0) adm ml)) rfl
  have J_1 : ∀ (H : Heap) (locs : List Loc) (ls : Array Slot), zW G A s.heap H locs (mdW G h ad md ++ (mlW G (ad 0) adm ml)) → lv_has ls 4 [(0, .ref h), (1, .int a), (2, .int b), (3, .int f)] → W p l e (zRm 3 0 0) s m args below meth c H locs 0 0 (MQ below (zQ G A (po_X12_digLine G h ad md adm ml a b f)) args s 0 0 A) (F0 m 62 ls [.int (if (r_X12_isCell a b) = (0 : Int32) then (1 : Int32) else (if (r_X12_isCrew f) = (0 : Int32) then (2 : Int32) else (if (ml.2.2.2.2.2.1 (r_X12_at a b).toNatClampNeg) = (0 : Int32) then (if (ml.2.2.2.1 (r_X12_at a b).toNatClampNeg) ≤ (4 : Int32) then (0 : Int32) else (3 : Int32)) else (3 : Int32)))), .ref h]) := by
    intro H locs ls hW hl
    refine zcV (w1 := []) (wc := mdW G h ad md) (w2 := mlW G (ad 0) adm ml) (As := [.int (if (r_X12_isCell a b) = (0 : Int32) then (1 : Int32) else (if (r_X12_isCrew f) = (0 : Int32) then (2 : Int32) else (if (ml.2.2.2.2.2.1 (r_X12_at a b).toNatClampNeg) = (0 : Int32) then (if (ml.2.2.2.1 (r_X12_at a b).toNatClampNeg) ≤ (4 : Int32) then (0 : Int32) else (3 : Int32)) else (3 : Int32))))]) B (hW.eq rfl) (c_X12_isWrong l G h ad md (if (r_X12_isCell a b) = (0 : Int32) then (1 : Int32) else (if (r_X12_isCrew f) = (0 : Int32) then (2 : Int32) else (if (ml.2.2.2.2.2.1 (r_X12_at a b).toNatClampNeg) = (0 : Int32) then (if (ml.2.2.2.1 (r_X12_at a b).toNatClampNeg) ≤ (4 : Int32) then (0 : Int32) else (3 : Int32)) else (3 : Int32))))) yd_X12_isWrong ml_X12_44 0 rfl rfl rfl rfl hl.1 rfl (Nat.le_of_ble_eq_true rfl) ⟨Nat.le_of_ble_eq_true rfl, Nat.le_of_ble_eq_true rfl⟩ ⟨(Nat.le_of_ble_eq_true rfl), (Nat.le_of_ble_eq_true rfl)⟩ dX12_digLine_62 (fun v u H locs hp hW => ?_)
    obtain ⟨rfl, rfl⟩ := hp
    have hW := hW.eq (w' := mdW G h ad ((g_X12_isWrong_md_0 (if (r_X12_isCell a b) = (0 : Int32) then (1 : Int32) else (if (r_X12_isCrew f) = (0 : Int32) then (2 : Int32) else (if (ml.2.2.2.2.2.1 (r_X12_at a b).toNatClampNeg) = (0 : Int32) then (if (ml.2.2.2.1 (r_X12_at a b).toNatClampNeg) ≤ (4 : Int32) then (0 : Int32) else (3 : Int32)) else (3 : Int32))))), md.2.1, md.2.2.1, md.2.2.2) ++ (mlW G (ad 0) adm ml)) rfl
    refine lv_if_eq (tgt := 70) hx hb dX12_digLine_65 (by decide) (fun c_65 => ?_) (fun c_65 => ?_)
    · refine lv_aload_n hx hb dX12_digLine_70 rfl (lv_at hl 0 rfl) ?_
      refine zget B hW 0 rfl lf_X12_10 rfl dX12_digLine_71 ?_
      refine zgetN B hW 1 rfl lf_X12_78 rfl dX12_digLine_74 ?_
      refine lv_iload_n hx hb dX12_digLine_77 rfl (lv_at hl 3 rfl) ?_
      refine lv_iload_n hx hb dX12_digLine_78 rfl (lv_at hl 1 rfl) ?_
      refine lv_iload_n hx hb dX12_digLine_79 rfl (lv_at hl 2 rfl) ?_
      refine zcS (w1 := []) (wc := []) (w2 := mdW G h ad ((g_X12_isWrong_md_0 (if (r_X12_isCell a b) = (0 : Int32) then (1 : Int32) else (if (r_X12_isCrew f) = (0 : Int32) then (2 : Int32) else (if (ml.2.2.2.2.2.1 (r_X12_at a b).toNatClampNeg) = (0 : Int32) then (if (ml.2.2.2.1 (r_X12_at a b).toNatClampNeg) ≤ (4 : Int32) then (0 : Int32) else (3 : Int32)) else (3 : Int32))))), md.2.1, md.2.2.1, md.2.2.2) ++ (mlW G (ad 0) adm ml)) (As := [.int a, .int b]) B (hW.eq rfl) (c_X12_at l G a b) yd_X12_at ml_X12_52 rfl hl.1 rfl (Nat.le_of_ble_eq_true rfl) ⟨Nat.le_of_ble_eq_true rfl, Nat.le_of_ble_eq_true rfl⟩ ⟨(Nat.le_of_ble_eq_true rfl), (Nat.le_of_ble_eq_true rfl)⟩ dX12_digLine_80 (fun v u H locs hp hW => ?_)
      obtain ⟨rfl, rfl⟩ := hp
      have hW := hW.eq (w' := mdW G h ad ((g_X12_isWrong_md_0 (if (r_X12_isCell a b) = (0 : Int32) then (1 : Int32) else (if (r_X12_isCrew f) = (0 : Int32) then (2 : Int32) else (if (ml.2.2.2.2.2.1 (r_X12_at a b).toNatClampNeg) = (0 : Int32) then (if (ml.2.2.2.1 (r_X12_at a b).toNatClampNeg) ≤ (4 : Int32) then (0 : Int32) else (3 : Int32)) else (3 : Int32))))), md.2.1, md.2.2.1, md.2.2.2) ++ (mlW G (ad 0) adm ml)) rfl
      refine ziast B hW 4 rfl (zmcrew (zmw2 (k := 2) (zmw2 (k := 1) c_65 (by decide)).2 (by decide)).1) dX12_digLine_83 (fun H locs hW => ?_)
      refine lv_aload_n hx hb dX12_digLine_84 rfl (lv_at hl 0 rfl) ?_
      refine zget B hW 0 rfl lf_X12_10 rfl dX12_digLine_85 ?_
      refine zgetN B hW 1 rfl lf_X12_81 rfl dX12_digLine_88 ?_
      refine lv_iload_n hx hb dX12_digLine_91 rfl (lv_at hl 3 rfl) ?_
      refine lv_iconst (v := (2 : Int32)) hx hb dX12_digLine_92 (by decide) ?_
      refine lv_aload_n hx hb dX12_digLine_93 rfl (lv_at hl 0 rfl) ?_
      refine zget B hW 0 rfl lf_X12_10 rfl dX12_digLine_94 ?_
      refine zgetN B hW 1 rfl lf_X12_48 rfl dX12_digLine_97 ?_
      refine lv_iload_n hx hb dX12_digLine_100 rfl (lv_at hl 1 rfl) ?_
      refine lv_iload_n hx hb dX12_digLine_101 rfl (lv_at hl 2 rfl) ?_
      refine zcS (w1 := []) (wc := []) (w2 := mdW G h ad ((g_X12_isWrong_md_0 (if (r_X12_isCell a b) = (0 : Int32) then (1 : Int32) else (if (r_X12_isCrew f) = (0 : Int32) then (2 : Int32) else (if (ml.2.2.2.2.2.1 (r_X12_at a b).toNatClampNeg) = (0 : Int32) then (if (ml.2.2.2.1 (r_X12_at a b).toNatClampNeg) ≤ (4 : Int32) then (0 : Int32) else (3 : Int32)) else (3 : Int32))))), md.2.1, md.2.2.1, md.2.2.2) ++ (mlW G (ad 0) adm (ml.1, ml.2.1, (upd ml.2.2.1 f.toNatClampNeg (r_X12_at a b)), ml.2.2.2.1, ml.2.2.2.2.1, ml.2.2.2.2.2.1, ml.2.2.2.2.2.2.1, ml.2.2.2.2.2.2.2.1, ml.2.2.2.2.2.2.2.2.1, ml.2.2.2.2.2.2.2.2.2.1, ml.2.2.2.2.2.2.2.2.2.2.1, ml.2.2.2.2.2.2.2.2.2.2.2.1, ml.2.2.2.2.2.2.2.2.2.2.2.2))) (As := [.int a, .int b]) B (hW.eq rfl) (c_X12_at l G a b) yd_X12_at ml_X12_52 rfl hl.1 rfl (Nat.le_of_ble_eq_true rfl) ⟨Nat.le_of_ble_eq_true rfl, Nat.le_of_ble_eq_true rfl⟩ ⟨(Nat.le_of_ble_eq_true rfl), (Nat.le_of_ble_eq_true rfl)⟩ dX12_digLine_102 (fun v u H locs hp hW => ?_)
      obtain ⟨rfl, rfl⟩ := hp
      have hW := hW.eq (w' := mdW G h ad ((g_X12_isWrong_md_0 (if (r_X12_isCell a b) = (0 : Int32) then (1 : Int32) else (if (r_X12_isCrew f) = (0 : Int32) then (2 : Int32) else (if (ml.2.2.2.2.2.1 (r_X12_at a b).toNatClampNeg) = (0 : Int32) then (if (ml.2.2.2.1 (r_X12_at a b).toNatClampNeg) ≤ (4 : Int32) then (0 : Int32) else (3 : Int32)) else (3 : Int32))))), md.2.1, md.2.2.1, md.2.2.2) ++ (mlW G (ad 0) adm (ml.1, ml.2.1, (upd ml.2.2.1 f.toNatClampNeg (r_X12_at a b)), ml.2.2.2.1, ml.2.2.2.2.1, ml.2.2.2.2.2.1, ml.2.2.2.2.2.2.1, ml.2.2.2.2.2.2.2.1, ml.2.2.2.2.2.2.2.2.1, ml.2.2.2.2.2.2.2.2.2.1, ml.2.2.2.2.2.2.2.2.2.2.1, ml.2.2.2.2.2.2.2.2.2.2.2.1, ml.2.2.2.2.2.2.2.2.2.2.2.2))) rfl
      refine ziald B hW 2 rfl (zmcell_ix (zmw2 (k := 1) c_65 (by decide)).1) dX12_digLine_105 ?_
      refine lv_bipush (v := (20 : Int32)) hx hb dX12_digLine_106 (by decide) ?_
      refine lv_idiv hx hb dX12_digLine_108 (by decide) ?_
      refine lv_iadd hx hb dX12_digLine_109 ?_
      refine ziast B hW 3 rfl (zmcrew (zmw2 (k := 2) (zmw2 (k := 1) c_65 (by decide)).2 (by decide)).1) dX12_digLine_110 (fun H locs hW => ?_)
      refine lv_aload_n hx hb dX12_digLine_111 rfl (lv_at hl 0 rfl) ?_
      refine zget B hW 0 rfl lf_X12_10 rfl dX12_digLine_112 ?_
      refine zgetN B hW 1 rfl lf_X12_81 rfl dX12_digLine_115 ?_
      refine lv_iload_n hx hb dX12_digLine_118 rfl (lv_at hl 3 rfl) ?_
      refine ziald B hW 3 rfl (zmcrew (zmw2 (k := 2) (zmw2 (k := 1) c_65 (by decide)).2 (by decide)).1) dX12_digLine_119 ?_
      have e_0 : (if (r_X12_isWrong (if (r_X12_isCell a b) = (0 : Int32) then (1 : Int32) else (if (r_X12_isCrew f) = (0 : Int32) then (2 : Int32) else (if (ml.2.2.2.2.2.1 (r_X12_at a b).toNatClampNeg) = (0 : Int32) then (if (ml.2.2.2.1 (r_X12_at a b).toNatClampNeg) ≤ (4 : Int32) then (0 : Int32) else (3 : Int32)) else (3 : Int32))))) = (0 : Int32) then ((upd ml.2.1 f.toNatClampNeg ((2 : Int32) + ((ml.1 (r_X12_at a b).toNatClampNeg) / (20 : Int32)))) f.toNatClampNeg) else (0 : Int32)) = ((upd ml.2.1 f.toNatClampNeg ((2 : Int32) + ((ml.1 (r_X12_at a b).toNatClampNeg) / (20 : Int32)))) f.toNatClampNeg) := if_pos c_65
      have e_1 : (if (r_X12_isWrong (if (r_X12_isCell a b) = (0 : Int32) then (1 : Int32) else (if (r_X12_isCrew f) = (0 : Int32) then (2 : Int32) else (if (ml.2.2.2.2.2.1 (r_X12_at a b).toNatClampNeg) = (0 : Int32) then (if (ml.2.2.2.1 (r_X12_at a b).toNatClampNeg) ≤ (4 : Int32) then (0 : Int32) else (3 : Int32)) else (3 : Int32))))) = (0 : Int32) then (upd ml.2.1 f.toNatClampNeg ((2 : Int32) + ((ml.1 (r_X12_at a b).toNatClampNeg) / (20 : Int32)))) else ml.2.1) = (upd ml.2.1 f.toNatClampNeg ((2 : Int32) + ((ml.1 (r_X12_at a b).toNatClampNeg) / (20 : Int32)))) := if_pos c_65
      have e_2 : (if (r_X12_isWrong (if (r_X12_isCell a b) = (0 : Int32) then (1 : Int32) else (if (r_X12_isCrew f) = (0 : Int32) then (2 : Int32) else (if (ml.2.2.2.2.2.1 (r_X12_at a b).toNatClampNeg) = (0 : Int32) then (if (ml.2.2.2.1 (r_X12_at a b).toNatClampNeg) ≤ (4 : Int32) then (0 : Int32) else (3 : Int32)) else (3 : Int32))))) = (0 : Int32) then (upd ml.2.2.1 f.toNatClampNeg (r_X12_at a b)) else ml.2.2.1) = (upd ml.2.2.1 f.toNatClampNeg (r_X12_at a b)) := if_pos c_65
      exact ziret B hr hlk hW ⟨by show _ = some (Value.int (if (r_X12_isWrong (if (r_X12_isCell a b) = (0 : Int32) then (1 : Int32) else (if (r_X12_isCrew f) = (0 : Int32) then (2 : Int32) else (if (ml.2.2.2.2.2.1 (r_X12_at a b).toNatClampNeg) = (0 : Int32) then (if (ml.2.2.2.1 (r_X12_at a b).toNatClampNeg) ≤ (4 : Int32) then (0 : Int32) else (3 : Int32)) else (3 : Int32))))) = (0 : Int32) then ((upd ml.2.1 f.toNatClampNeg ((2 : Int32) + ((ml.1 (r_X12_at a b).toNatClampNeg) / (20 : Int32)))) f.toNatClampNeg) else (0 : Int32))) <;> (try rw [e_0]) <;> (try rw [e_1]) <;> (try rw [e_2]) <;> rfl, by show _ = mdW G h ad ((g_X12_isWrong_md_0 (if (r_X12_isCell a b) = (0 : Int32) then (1 : Int32) else (if (r_X12_isCrew f) = (0 : Int32) then (2 : Int32) else (if (ml.2.2.2.2.2.1 (r_X12_at a b).toNatClampNeg) = (0 : Int32) then (if (ml.2.2.2.1 (r_X12_at a b).toNatClampNeg) ≤ (4 : Int32) then (0 : Int32) else (3 : Int32)) else (3 : Int32))))), md.2.1, md.2.2.1, md.2.2.2) ++ (mlW G (ad 0) adm (ml.1, (if (r_X12_isWrong (if (r_X12_isCell a b) = (0 : Int32) then (1 : Int32) else (if (r_X12_isCrew f) = (0 : Int32) then (2 : Int32) else (if (ml.2.2.2.2.2.1 (r_X12_at a b).toNatClampNeg) = (0 : Int32) then (if (ml.2.2.2.1 (r_X12_at a b).toNatClampNeg) ≤ (4 : Int32) then (0 : Int32) else (3 : Int32)) else (3 : Int32))))) = (0 : Int32) then (upd ml.2.1 f.toNatClampNeg ((2 : Int32) + ((ml.1 (r_X12_at a b).toNatClampNeg) / (20 : Int32)))) else ml.2.1), (if (r_X12_isWrong (if (r_X12_isCell a b) = (0 : Int32) then (1 : Int32) else (if (r_X12_isCrew f) = (0 : Int32) then (2 : Int32) else (if (ml.2.2.2.2.2.1 (r_X12_at a b).toNatClampNeg) = (0 : Int32) then (if (ml.2.2.2.1 (r_X12_at a b).toNatClampNeg) ≤ (4 : Int32) then (0 : Int32) else (3 : Int32)) else (3 : Int32))))) = (0 : Int32) then (upd ml.2.2.1 f.toNatClampNeg (r_X12_at a b)) else ml.2.2.1), ml.2.2.2.1, ml.2.2.2.2.1, ml.2.2.2.2.2.1, ml.2.2.2.2.2.2.1, ml.2.2.2.2.2.2.2.1, ml.2.2.2.2.2.2.2.2.1, ml.2.2.2.2.2.2.2.2.2.1, ml.2.2.2.2.2.2.2.2.2.2.1, ml.2.2.2.2.2.2.2.2.2.2.2.1, ml.2.2.2.2.2.2.2.2.2.2.2.2)) <;> (try rw [e_0]) <;> (try rw [e_1]) <;> (try rw [e_2]) <;> rfl⟩ (Nat.le_refl _) (Nat.le_refl _) dX12_digLine_120
    · refine lv_iconst (v := (0 : Int32)) hx hb dX12_digLine_68 (by decide) ?_
      have e_0 : (if (r_X12_isWrong (if (r_X12_isCell a b) = (0 : Int32) then (1 : Int32) else (if (r_X12_isCrew f) = (0 : Int32) then (2 : Int32) else (if (ml.2.2.2.2.2.1 (r_X12_at a b).toNatClampNeg) = (0 : Int32) then (if (ml.2.2.2.1 (r_X12_at a b).toNatClampNeg) ≤ (4 : Int32) then (0 : Int32) else (3 : Int32)) else (3 : Int32))))) = (0 : Int32) then ((upd ml.2.1 f.toNatClampNeg ((2 : Int32) + ((ml.1 (r_X12_at a b).toNatClampNeg) / (20 : Int32)))) f.toNatClampNeg) else (0 : Int32)) = (0 : Int32) := if_neg c_65
      have e_1 : (if (r_X12_isWrong (if (r_X12_isCell a b) = (0 : Int32) then (1 : Int32) else (if (r_X12_isCrew f) = (0 : Int32) then (2 : Int32) else (if (ml.2.2.2.2.2.1 (r_X12_at a b).toNatClampNeg) = (0 : Int32) then (if (ml.2.2.2.1 (r_X12_at a b).toNatClampNeg) ≤ (4 : Int32) then (0 : Int32) else (3 : Int32)) else (3 : Int32))))) = (0 : Int32) then (upd ml.2.1 f.toNatClampNeg ((2 : Int32) + ((ml.1 (r_X12_at a b).toNatClampNeg) / (20 : Int32)))) else ml.2.1) = ml.2.1 := if_neg c_65
      have e_2 : (if (r_X12_isWrong (if (r_X12_isCell a b) = (0 : Int32) then (1 : Int32) else (if (r_X12_isCrew f) = (0 : Int32) then (2 : Int32) else (if (ml.2.2.2.2.2.1 (r_X12_at a b).toNatClampNeg) = (0 : Int32) then (if (ml.2.2.2.1 (r_X12_at a b).toNatClampNeg) ≤ (4 : Int32) then (0 : Int32) else (3 : Int32)) else (3 : Int32))))) = (0 : Int32) then (upd ml.2.2.1 f.toNatClampNeg (r_X12_at a b)) else ml.2.2.1) = ml.2.2.1 := if_neg c_65
      exact ziret B hr hlk hW ⟨by show _ = some (Value.int (if (r_X12_isWrong (if (r_X12_isCell a b) = (0 : Int32) then (1 : Int32) else (if (r_X12_isCrew f) = (0 : Int32) then (2 : Int32) else (if (ml.2.2.2.2.2.1 (r_X12_at a b).toNatClampNeg) = (0 : Int32) then (if (ml.2.2.2.1 (r_X12_at a b).toNatClampNeg) ≤ (4 : Int32) then (0 : Int32) else (3 : Int32)) else (3 : Int32))))) = (0 : Int32) then ((upd ml.2.1 f.toNatClampNeg ((2 : Int32) + ((ml.1 (r_X12_at a b).toNatClampNeg) / (20 : Int32)))) f.toNatClampNeg) else (0 : Int32))) <;> (try rw [e_0]) <;> (try rw [e_1]) <;> (try rw [e_2]) <;> rfl, by show _ = mdW G h ad ((g_X12_isWrong_md_0 (if (r_X12_isCell a b) = (0 : Int32) then (1 : Int32) else (if (r_X12_isCrew f) = (0 : Int32) then (2 : Int32) else (if (ml.2.2.2.2.2.1 (r_X12_at a b).toNatClampNeg) = (0 : Int32) then (if (ml.2.2.2.1 (r_X12_at a b).toNatClampNeg) ≤ (4 : Int32) then (0 : Int32) else (3 : Int32)) else (3 : Int32))))), md.2.1, md.2.2.1, md.2.2.2) ++ (mlW G (ad 0) adm (ml.1, (if (r_X12_isWrong (if (r_X12_isCell a b) = (0 : Int32) then (1 : Int32) else (if (r_X12_isCrew f) = (0 : Int32) then (2 : Int32) else (if (ml.2.2.2.2.2.1 (r_X12_at a b).toNatClampNeg) = (0 : Int32) then (if (ml.2.2.2.1 (r_X12_at a b).toNatClampNeg) ≤ (4 : Int32) then (0 : Int32) else (3 : Int32)) else (3 : Int32))))) = (0 : Int32) then (upd ml.2.1 f.toNatClampNeg ((2 : Int32) + ((ml.1 (r_X12_at a b).toNatClampNeg) / (20 : Int32)))) else ml.2.1), (if (r_X12_isWrong (if (r_X12_isCell a b) = (0 : Int32) then (1 : Int32) else (if (r_X12_isCrew f) = (0 : Int32) then (2 : Int32) else (if (ml.2.2.2.2.2.1 (r_X12_at a b).toNatClampNeg) = (0 : Int32) then (if (ml.2.2.2.1 (r_X12_at a b).toNatClampNeg) ≤ (4 : Int32) then (0 : Int32) else (3 : Int32)) else (3 : Int32))))) = (0 : Int32) then (upd ml.2.2.1 f.toNatClampNeg (r_X12_at a b)) else ml.2.2.1), ml.2.2.2.1, ml.2.2.2.2.1, ml.2.2.2.2.2.1, ml.2.2.2.2.2.2.1, ml.2.2.2.2.2.2.2.1, ml.2.2.2.2.2.2.2.2.1, ml.2.2.2.2.2.2.2.2.2.1, ml.2.2.2.2.2.2.2.2.2.2.1, ml.2.2.2.2.2.2.2.2.2.2.2.1, ml.2.2.2.2.2.2.2.2.2.2.2.2)) <;> (try rw [e_0]) <;> (try rw [e_1]) <;> (try rw [e_2]) <;> rfl⟩ (Nat.le_refl _) (Nat.le_refl _) dX12_digLine_69
  refine lv_if_ne (tgt := 13) hx hb dX12_digLine_6 (by decide) (fun c_6 => ?_) (fun c_6 => ?_)
  · refine lv_iload_n hx hb dX12_digLine_13 rfl (lv_at hl 3 rfl) ?_
    refine zcS (w1 := []) (wc := []) (w2 := mdW G h ad md ++ (mlW G (ad 0) adm ml)) (As := [.int f]) B (hW.eq rfl) (c_X12_isCrew l G f) yd_X12_isCrew ml_X12_75 rfl hl.1 rfl (Nat.le_of_ble_eq_true rfl) ⟨Nat.le_of_ble_eq_true rfl, Nat.le_of_ble_eq_true rfl⟩ ⟨(Nat.le_of_ble_eq_true rfl), (Nat.le_of_ble_eq_true rfl)⟩ dX12_digLine_14 (fun v u H locs hp hW => ?_)
    obtain ⟨rfl, rfl⟩ := hp
    have hW := hW.eq (w' := mdW G h ad md ++ (mlW G (ad 0) adm ml)) rfl
    refine lv_if_ne (tgt := 24) hx hb dX12_digLine_17 (by decide) (fun c_17 => ?_) (fun c_17 => ?_)
    · refine lv_aload_n hx hb dX12_digLine_24 rfl (lv_at hl 0 rfl) ?_
      refine zget B hW 0 rfl lf_X12_10 rfl dX12_digLine_25 ?_
      refine zgetN B hW 1 rfl lf_X12_56 rfl dX12_digLine_28 ?_
      refine lv_iload_n hx hb dX12_digLine_31 rfl (lv_at hl 1 rfl) ?_
      refine lv_iload_n hx hb dX12_digLine_32 rfl (lv_at hl 2 rfl) ?_
      refine zcS (w1 := []) (wc := []) (w2 := mdW G h ad md ++ (mlW G (ad 0) adm ml)) (As := [.int a, .int b]) B (hW.eq rfl) (c_X12_at l G a b) yd_X12_at ml_X12_52 rfl hl.1 rfl (Nat.le_of_ble_eq_true rfl) ⟨Nat.le_of_ble_eq_true rfl, Nat.le_of_ble_eq_true rfl⟩ ⟨(Nat.le_of_ble_eq_true rfl), (Nat.le_of_ble_eq_true rfl)⟩ dX12_digLine_33 (fun v u H locs hp hW => ?_)
      obtain ⟨rfl, rfl⟩ := hp
      have hW := hW.eq (w' := mdW G h ad md ++ (mlW G (ad 0) adm ml)) rfl
      refine zzald B hW 7 rfl (zmcell_ix c_6) dX12_digLine_36 ?_
      refine lv_if_ne (tgt := 57) hx hb dX12_digLine_37 (by decide) (fun c_37 => ?_) (fun c_37 => ?_)
      · refine lv_iconst (v := (3 : Int32)) hx hb dX12_digLine_57 (by decide) ?_
        refine lv_goto (tgt := 62) hx hb dX12_digLine_58 (by decide) ?_
        have e_0 : (if (r_X12_isCell a b) = (0 : Int32) then (1 : Int32) else (if (r_X12_isCrew f) = (0 : Int32) then (2 : Int32) else (if (ml.2.2.2.2.2.1 (r_X12_at a b).toNatClampNeg) = (0 : Int32) then (if (ml.2.2.2.1 (r_X12_at a b).toNatClampNeg) ≤ (4 : Int32) then (0 : Int32) else (3 : Int32)) else (3 : Int32)))) = (3 : Int32) := (if_neg c_6).trans ((if_neg c_17).trans (if_neg c_37))
        refine W.eq (g2 := F0 m 62 ls [.int (if (r_X12_isCell a b) = (0 : Int32) then (1 : Int32) else (if (r_X12_isCrew f) = (0 : Int32) then (2 : Int32) else (if (ml.2.2.2.2.2.1 (r_X12_at a b).toNatClampNeg) = (0 : Int32) then (if (ml.2.2.2.1 (r_X12_at a b).toNatClampNeg) ≤ (4 : Int32) then (0 : Int32) else (3 : Int32)) else (3 : Int32)))), .ref h]) (by (try rw [e_0]) <;> rfl) ?_
        exact J_1 _ _ _ (hW.eq (by (try rw [e_0]) <;> rfl)) (by (try rw [e_0]) <;> exact lv_sub hl [0, 1, 2, 3] rfl)
      · refine lv_aload_n hx hb dX12_digLine_40 rfl (lv_at hl 0 rfl) ?_
        refine zget B hW 0 rfl lf_X12_10 rfl dX12_digLine_41 ?_
        refine zgetN B hW 1 rfl lf_X12_60 rfl dX12_digLine_44 ?_
        refine lv_iload_n hx hb dX12_digLine_47 rfl (lv_at hl 1 rfl) ?_
        refine lv_iload_n hx hb dX12_digLine_48 rfl (lv_at hl 2 rfl) ?_
        refine zcS (w1 := []) (wc := []) (w2 := mdW G h ad md ++ (mlW G (ad 0) adm ml)) (As := [.int a, .int b]) B (hW.eq rfl) (c_X12_at l G a b) yd_X12_at ml_X12_52 rfl hl.1 rfl (Nat.le_of_ble_eq_true rfl) ⟨Nat.le_of_ble_eq_true rfl, Nat.le_of_ble_eq_true rfl⟩ ⟨(Nat.le_of_ble_eq_true rfl), (Nat.le_of_ble_eq_true rfl)⟩ dX12_digLine_49 (fun v u H locs hp hW => ?_)
        obtain ⟨rfl, rfl⟩ := hp
        have hW := hW.eq (w' := mdW G h ad md ++ (mlW G (ad 0) adm ml)) rfl
        refine ziald B hW 5 rfl (zmcell_ix c_6) dX12_digLine_52 ?_
        refine lv_iconst (v := (4 : Int32)) hx hb dX12_digLine_53 (by decide) ?_
        refine lv_icmp_le (tgt := 61) hx hb dX12_digLine_54 (by decide) (fun c_54 => ?_) (fun c_54 => ?_)
        · refine lv_iconst (v := (0 : Int32)) hx hb dX12_digLine_61 (by decide) ?_
          have e_0 : (if (r_X12_isCell a b) = (0 : Int32) then (1 : Int32) else (if (r_X12_isCrew f) = (0 : Int32) then (2 : Int32) else (if (ml.2.2.2.2.2.1 (r_X12_at a b).toNatClampNeg) = (0 : Int32) then (if (ml.2.2.2.1 (r_X12_at a b).toNatClampNeg) ≤ (4 : Int32) then (0 : Int32) else (3 : Int32)) else (3 : Int32)))) = (0 : Int32) := (if_neg c_6).trans ((if_neg c_17).trans ((if_pos c_37).trans (if_pos c_54)))
          refine W.eq (g2 := F0 m 62 ls [.int (if (r_X12_isCell a b) = (0 : Int32) then (1 : Int32) else (if (r_X12_isCrew f) = (0 : Int32) then (2 : Int32) else (if (ml.2.2.2.2.2.1 (r_X12_at a b).toNatClampNeg) = (0 : Int32) then (if (ml.2.2.2.1 (r_X12_at a b).toNatClampNeg) ≤ (4 : Int32) then (0 : Int32) else (3 : Int32)) else (3 : Int32)))), .ref h]) (by (try rw [e_0]) <;> rfl) ?_
          exact J_1 _ _ _ (hW.eq (by (try rw [e_0]) <;> rfl)) (by (try rw [e_0]) <;> exact lv_sub hl [0, 1, 2, 3] rfl)
        · refine lv_iconst (v := (3 : Int32)) hx hb dX12_digLine_57 (by decide) ?_
          refine lv_goto (tgt := 62) hx hb dX12_digLine_58 (by decide) ?_
          have e_0 : (if (r_X12_isCell a b) = (0 : Int32) then (1 : Int32) else (if (r_X12_isCrew f) = (0 : Int32) then (2 : Int32) else (if (ml.2.2.2.2.2.1 (r_X12_at a b).toNatClampNeg) = (0 : Int32) then (if (ml.2.2.2.1 (r_X12_at a b).toNatClampNeg) ≤ (4 : Int32) then (0 : Int32) else (3 : Int32)) else (3 : Int32)))) = (3 : Int32) := (if_neg c_6).trans ((if_neg c_17).trans ((if_pos c_37).trans (if_neg c_54)))
          refine W.eq (g2 := F0 m 62 ls [.int (if (r_X12_isCell a b) = (0 : Int32) then (1 : Int32) else (if (r_X12_isCrew f) = (0 : Int32) then (2 : Int32) else (if (ml.2.2.2.2.2.1 (r_X12_at a b).toNatClampNeg) = (0 : Int32) then (if (ml.2.2.2.1 (r_X12_at a b).toNatClampNeg) ≤ (4 : Int32) then (0 : Int32) else (3 : Int32)) else (3 : Int32)))), .ref h]) (by (try rw [e_0]) <;> rfl) ?_
          exact J_1 _ _ _ (hW.eq (by (try rw [e_0]) <;> rfl)) (by (try rw [e_0]) <;> exact lv_sub hl [0, 1, 2, 3] rfl)
    · refine lv_iconst (v := (2 : Int32)) hx hb dX12_digLine_20 (by decide) ?_
      refine lv_goto (tgt := 62) hx hb dX12_digLine_21 (by decide) ?_
      have e_0 : (if (r_X12_isCell a b) = (0 : Int32) then (1 : Int32) else (if (r_X12_isCrew f) = (0 : Int32) then (2 : Int32) else (if (ml.2.2.2.2.2.1 (r_X12_at a b).toNatClampNeg) = (0 : Int32) then (if (ml.2.2.2.1 (r_X12_at a b).toNatClampNeg) ≤ (4 : Int32) then (0 : Int32) else (3 : Int32)) else (3 : Int32)))) = (2 : Int32) := (if_neg c_6).trans (if_pos c_17)
      refine W.eq (g2 := F0 m 62 ls [.int (if (r_X12_isCell a b) = (0 : Int32) then (1 : Int32) else (if (r_X12_isCrew f) = (0 : Int32) then (2 : Int32) else (if (ml.2.2.2.2.2.1 (r_X12_at a b).toNatClampNeg) = (0 : Int32) then (if (ml.2.2.2.1 (r_X12_at a b).toNatClampNeg) ≤ (4 : Int32) then (0 : Int32) else (3 : Int32)) else (3 : Int32)))), .ref h]) (by (try rw [e_0]) <;> rfl) ?_
      exact J_1 _ _ _ (hW.eq (by (try rw [e_0]) <;> rfl)) (by (try rw [e_0]) <;> exact lv_sub hl [0, 1, 2, 3] rfl)
  · refine lv_iconst (v := (1 : Int32)) hx hb dX12_digLine_9 (by decide) ?_
    refine lv_goto (tgt := 62) hx hb dX12_digLine_10 (by decide) ?_
    have e_0 : (if (r_X12_isCell a b) = (0 : Int32) then (1 : Int32) else (if (r_X12_isCrew f) = (0 : Int32) then (2 : Int32) else (if (ml.2.2.2.2.2.1 (r_X12_at a b).toNatClampNeg) = (0 : Int32) then (if (ml.2.2.2.1 (r_X12_at a b).toNatClampNeg) ≤ (4 : Int32) then (0 : Int32) else (3 : Int32)) else (3 : Int32)))) = (1 : Int32) := if_pos c_6
    refine W.eq (g2 := F0 m 62 ls [.int (if (r_X12_isCell a b) = (0 : Int32) then (1 : Int32) else (if (r_X12_isCrew f) = (0 : Int32) then (2 : Int32) else (if (ml.2.2.2.2.2.1 (r_X12_at a b).toNatClampNeg) = (0 : Int32) then (if (ml.2.2.2.1 (r_X12_at a b).toNatClampNeg) ≤ (4 : Int32) then (0 : Int32) else (3 : Int32)) else (3 : Int32)))), .ref h]) (by (try rw [e_0]) <;> rfl) ?_
    exact J_1 _ _ _ (hW.eq (by (try rw [e_0]) <;> rfl)) (by (try rw [e_0]) <;> exact lv_sub hl [0, 1, 2, 3] rfl)
def g_X12_left_md_0 (a : Int32) : Int32 := (g_X12_isWrong_md_0 (if (r_X12_isCrew a) = (0 : Int32) then (1 : Int32) else (0 : Int32)))
def f_X12_left_md (md : zMd) (ml : zMl) (a : Int32) : zMd := (g_X12_left_md_0 a, md.2.1, md.2.2.1, md.2.2.2)
def r_X12_left (ml_1 : Nat → Int32) (a : Int32) : Int32 := (if (r_X12_isWrong (if (r_X12_isCrew a) = (0 : Int32) then (1 : Int32) else (0 : Int32))) = (0 : Int32) then (ml_1 a.toNatClampNeg) else (0 : Int32))
abbrev po_X12_left (G : zG) (h : Nat) (ad : Nat → Nat) (md : zMd) (adm : Nat → Nat) (ml : zMl) (a : Int32) : Option Value → va_W → Prop := fun r u => r = some (.int (r_X12_left ml.2.1 a)) ∧ u = mdW G h ad (f_X12_left_md md ml a) ++ (mlW G (ad 0) adm ml)
set_option maxHeartbeats 4000000 in
set_option maxRecDepth 100000 in
theorem c_X12_left (l : Launch) (G : zG) (h : Nat) (ad : Nat → Nat) (md : zMd) (adm : Nat → Nat) (ml : zMl) (a : Int32) : zC l yX12_left cX12_left 2 (some .int) 3 0 0 G [.ref h, .int a] (mdW G h ad md ++ (mlW G (ad 0) adm ml)) (po_X12_left G h ad md adm ml a) := by
  refine zC.of RX12 rfl (by decide) (Nat.le_of_ble_eq_true rfl) ?_
  intro p e s m args below meth c A ls B hr hlk hnm hW hl
  have hx := B.x
  have hb := B.b
  have hl : lv_has ls 2 [(0, .ref h), (1, .int a)] := hl
  refine lv_aload_n hx hb dX12_left_0 rfl (lv_at hl 0 rfl) ?_
  refine lv_iload_n hx hb dX12_left_1 rfl (lv_at hl 1 rfl) ?_
  refine zcS (w1 := []) (wc := []) (w2 := mdW G h ad md ++ (mlW G (ad 0) adm ml)) (As := [.int a]) B (hW.eq rfl) (c_X12_isCrew l G a) yd_X12_isCrew ml_X12_75 rfl hl.1 rfl (Nat.le_of_ble_eq_true rfl) ⟨Nat.le_of_ble_eq_true rfl, Nat.le_of_ble_eq_true rfl⟩ ⟨(Nat.le_of_ble_eq_true rfl), (Nat.le_of_ble_eq_true rfl)⟩ dX12_left_2 (fun v u H locs hp hW => ?_)
  obtain ⟨rfl, rfl⟩ := hp
  have hW := hW.eq (w' := mdW G h ad md ++ (mlW G (ad 0) adm ml)) rfl
  have J_1 : ∀ (H : Heap) (locs : List Loc) (ls : Array Slot), zW G A s.heap H locs (mdW G h ad md ++ (mlW G (ad 0) adm ml)) → lv_has ls 2 [(0, .ref h), (1, .int a)] → W p l e (zRm 3 0 0) s m args below meth c H locs 0 0 (MQ below (zQ G A (po_X12_left G h ad md adm ml a)) args s 0 0 A) (F0 m 13 ls [.int (if (r_X12_isCrew a) = (0 : Int32) then (1 : Int32) else (0 : Int32)), .ref h]) := by
    intro H locs ls hW hl
    refine zcV (w1 := []) (wc := mdW G h ad md) (w2 := mlW G (ad 0) adm ml) (As := [.int (if (r_X12_isCrew a) = (0 : Int32) then (1 : Int32) else (0 : Int32))]) B (hW.eq rfl) (c_X12_isWrong l G h ad md (if (r_X12_isCrew a) = (0 : Int32) then (1 : Int32) else (0 : Int32))) yd_X12_isWrong ml_X12_44 0 rfl rfl rfl rfl hl.1 rfl (Nat.le_of_ble_eq_true rfl) ⟨Nat.le_of_ble_eq_true rfl, Nat.le_of_ble_eq_true rfl⟩ ⟨(Nat.le_of_ble_eq_true rfl), (Nat.le_of_ble_eq_true rfl)⟩ dX12_left_13 (fun v u H locs hp hW => ?_)
    obtain ⟨rfl, rfl⟩ := hp
    have hW := hW.eq (w' := mdW G h ad ((g_X12_isWrong_md_0 (if (r_X12_isCrew a) = (0 : Int32) then (1 : Int32) else (0 : Int32))), md.2.1, md.2.2.1, md.2.2.2) ++ (mlW G (ad 0) adm ml)) rfl
    have J_2 : ∀ (H : Heap) (locs : List Loc) (ls : Array Slot), zW G A s.heap H locs (mdW G h ad ((g_X12_isWrong_md_0 (if (r_X12_isCrew a) = (0 : Int32) then (1 : Int32) else (0 : Int32))), md.2.1, md.2.2.1, md.2.2.2) ++ (mlW G (ad 0) adm ml)) → lv_has ls 2 [] → W p l e (zRm 3 0 0) s m args below meth c H locs 0 0 (MQ below (zQ G A (po_X12_left G h ad md adm ml a)) args s 0 0 A) (F0 m 32 ls [.int (if (r_X12_isWrong (if (r_X12_isCrew a) = (0 : Int32) then (1 : Int32) else (0 : Int32))) = (0 : Int32) then (ml.2.1 a.toNatClampNeg) else (0 : Int32))]) := by
      intro H locs ls hW hl
      exact ziret B hr hlk hW ⟨rfl, rfl⟩ (Nat.le_refl _) (Nat.le_refl _) dX12_left_32
    refine lv_if_eq (tgt := 23) hx hb dX12_left_16 (by decide) (fun c_16 => ?_) (fun c_16 => ?_)
    · refine lv_aload_n hx hb dX12_left_23 rfl (lv_at hl 0 rfl) ?_
      refine zget B hW 0 rfl lf_X12_10 rfl dX12_left_24 ?_
      refine zgetN B hW 1 rfl lf_X12_81 rfl dX12_left_27 ?_
      refine lv_iload_n hx hb dX12_left_30 rfl (lv_at hl 1 rfl) ?_
      refine ziald B hW 3 rfl (zmcrew (zmw2 (k := 1) c_16 (by decide)).1) dX12_left_31 ?_
      have e_0 : (if (r_X12_isWrong (if (r_X12_isCrew a) = (0 : Int32) then (1 : Int32) else (0 : Int32))) = (0 : Int32) then (ml.2.1 a.toNatClampNeg) else (0 : Int32)) = (ml.2.1 a.toNatClampNeg) := if_pos c_16
      refine W.eq (g2 := F0 m 32 ls [.int (if (r_X12_isWrong (if (r_X12_isCrew a) = (0 : Int32) then (1 : Int32) else (0 : Int32))) = (0 : Int32) then (ml.2.1 a.toNatClampNeg) else (0 : Int32))]) (by (try rw [e_0]) <;> rfl) ?_
      exact J_2 _ _ _ (hW.eq (by (try rw [e_0]) <;> rfl)) (by (try rw [e_0]) <;> exact lv_sub hl [] rfl)
    · refine lv_iconst (v := (0 : Int32)) hx hb dX12_left_19 (by decide) ?_
      refine lv_goto (tgt := 32) hx hb dX12_left_20 (by decide) ?_
      have e_0 : (if (r_X12_isWrong (if (r_X12_isCrew a) = (0 : Int32) then (1 : Int32) else (0 : Int32))) = (0 : Int32) then (ml.2.1 a.toNatClampNeg) else (0 : Int32)) = (0 : Int32) := if_neg c_16
      refine W.eq (g2 := F0 m 32 ls [.int (if (r_X12_isWrong (if (r_X12_isCrew a) = (0 : Int32) then (1 : Int32) else (0 : Int32))) = (0 : Int32) then (ml.2.1 a.toNatClampNeg) else (0 : Int32))]) (by (try rw [e_0]) <;> rfl) ?_
      exact J_2 _ _ _ (hW.eq (by (try rw [e_0]) <;> rfl)) (by (try rw [e_0]) <;> exact lv_sub hl [] rfl)
  refine lv_if_eq (tgt := 12) hx hb dX12_left_5 (by decide) (fun c_5 => ?_) (fun c_5 => ?_)
  · refine lv_iconst (v := (1 : Int32)) hx hb dX12_left_12 (by decide) ?_
    have e_0 : (if (r_X12_isCrew a) = (0 : Int32) then (1 : Int32) else (0 : Int32)) = (1 : Int32) := if_pos c_5
    refine W.eq (g2 := F0 m 13 ls [.int (if (r_X12_isCrew a) = (0 : Int32) then (1 : Int32) else (0 : Int32)), .ref h]) (by (try rw [e_0]) <;> rfl) ?_
    exact J_1 _ _ _ (hW.eq (by (try rw [e_0]) <;> rfl)) (by (try rw [e_0]) <;> exact lv_sub hl [0, 1] rfl)
  · refine lv_iconst (v := (0 : Int32)) hx hb dX12_left_8 (by decide) ?_
    refine lv_goto (tgt := 13) hx hb dX12_left_9 (by decide) ?_
    have e_0 : (if (r_X12_isCrew a) = (0 : Int32) then (1 : Int32) else (0 : Int32)) = (0 : Int32) := if_neg c_5
    refine W.eq (g2 := F0 m 13 ls [.int (if (r_X12_isCrew a) = (0 : Int32) then (1 : Int32) else (0 : Int32)), .ref h]) (by (try rw [e_0]) <;> rfl) ?_
    exact J_1 _ _ _ (hW.eq (by (try rw [e_0]) <;> rfl)) (by (try rw [e_0]) <;> exact lv_sub hl [0, 1] rfl)
def g_X12_fuel_md_0 (a : Int32) (b : Int32) : Int32 := (g_X12_isNoCell_md_0 a b)
def f_X12_fuel_md (md : zMd) (ml : zMl) (a : Int32) (b : Int32) : zMd := (g_X12_fuel_md_0 a b, md.2.1, md.2.2.1, md.2.2.2)
def r_X12_fuel (ml_0 : Nat → Int32) (a : Int32) (b : Int32) : Int32 := (if (r_X12_isNoCell a b) = (0 : Int32) then (ml_0 (r_X12_at a b).toNatClampNeg) else (0 : Int32))
abbrev po_X12_fuel (G : zG) (h : Nat) (ad : Nat → Nat) (md : zMd) (adm : Nat → Nat) (ml : zMl) (a : Int32) (b : Int32) : Option Value → va_W → Prop := fun r u => r = some (.int (r_X12_fuel ml.1 a b)) ∧ u = mdW G h ad (f_X12_fuel_md md ml a b) ++ (mlW G (ad 0) adm ml)
set_option maxHeartbeats 4000000 in
set_option maxRecDepth 100000 in
theorem c_X12_fuel (l : Launch) (G : zG) (h : Nat) (ad : Nat → Nat) (md : zMd) (adm : Nat → Nat) (ml : zMl) (a : Int32) (b : Int32) : zC l yX12_fuel cX12_fuel 3 (some .int) 3 0 0 G [.ref h, .int a, .int b] (mdW G h ad md ++ (mlW G (ad 0) adm ml)) (po_X12_fuel G h ad md adm ml a b) := by
  refine zC.of RX12 rfl (by decide) (Nat.le_of_ble_eq_true rfl) ?_
  intro p e s m args below meth c A ls B hr hlk hnm hW hl
  have hx := B.x
  have hb := B.b
  have hl : lv_has ls 3 [(0, .ref h), (1, .int a), (2, .int b)] := hl
  refine lv_aload_n hx hb dX12_fuel_0 rfl (lv_at hl 0 rfl) ?_
  refine lv_iload_n hx hb dX12_fuel_1 rfl (lv_at hl 1 rfl) ?_
  refine lv_iload_n hx hb dX12_fuel_2 rfl (lv_at hl 2 rfl) ?_
  refine zcV (w1 := []) (wc := mdW G h ad md) (w2 := mlW G (ad 0) adm ml) (As := [.int a, .int b]) B (hW.eq rfl) (c_X12_isNoCell l G h ad md a b) yd_X12_isNoCell ml_X12_218 0 rfl rfl rfl rfl hl.1 rfl (Nat.le_of_ble_eq_true rfl) ⟨Nat.le_of_ble_eq_true rfl, Nat.le_of_ble_eq_true rfl⟩ ⟨(Nat.le_of_ble_eq_true rfl), (Nat.le_of_ble_eq_true rfl)⟩ dX12_fuel_3 (fun v u H locs hp hW => ?_)
  obtain ⟨rfl, rfl⟩ := hp
  have hW := hW.eq (w' := mdW G h ad ((g_X12_isNoCell_md_0 a b), md.2.1, md.2.2.1, md.2.2.2) ++ (mlW G (ad 0) adm ml)) rfl
  have J_1 : ∀ (H : Heap) (locs : List Loc) (ls : Array Slot), zW G A s.heap H locs (mdW G h ad ((g_X12_isNoCell_md_0 a b), md.2.1, md.2.2.1, md.2.2.2) ++ (mlW G (ad 0) adm ml)) → lv_has ls 3 [] → W p l e (zRm 3 0 0) s m args below meth c H locs 0 0 (MQ below (zQ G A (po_X12_fuel G h ad md adm ml a b)) args s 0 0 A) (F0 m 26 ls [.int (if (r_X12_isNoCell a b) = (0 : Int32) then (ml.1 (r_X12_at a b).toNatClampNeg) else (0 : Int32))]) := by
    intro H locs ls hW hl
    exact ziret B hr hlk hW ⟨rfl, rfl⟩ (Nat.le_refl _) (Nat.le_refl _) dX12_fuel_26
  refine lv_if_eq (tgt := 13) hx hb dX12_fuel_6 (by decide) (fun c_6 => ?_) (fun c_6 => ?_)
  · refine lv_aload_n hx hb dX12_fuel_13 rfl (lv_at hl 0 rfl) ?_
    refine zget B hW 0 rfl lf_X12_10 rfl dX12_fuel_14 ?_
    refine zgetN B hW 1 rfl lf_X12_48 rfl dX12_fuel_17 ?_
    refine lv_iload_n hx hb dX12_fuel_20 rfl (lv_at hl 1 rfl) ?_
    refine lv_iload_n hx hb dX12_fuel_21 rfl (lv_at hl 2 rfl) ?_
    refine zcS (w1 := []) (wc := []) (w2 := mdW G h ad ((g_X12_isNoCell_md_0 a b), md.2.1, md.2.2.1, md.2.2.2) ++ (mlW G (ad 0) adm ml)) (As := [.int a, .int b]) B (hW.eq rfl) (c_X12_at l G a b) yd_X12_at ml_X12_52 rfl hl.1 rfl (Nat.le_of_ble_eq_true rfl) ⟨Nat.le_of_ble_eq_true rfl, Nat.le_of_ble_eq_true rfl⟩ ⟨(Nat.le_of_ble_eq_true rfl), (Nat.le_of_ble_eq_true rfl)⟩ dX12_fuel_22 (fun v u H locs hp hW => ?_)
    obtain ⟨rfl, rfl⟩ := hp
    have hW := hW.eq (w' := mdW G h ad ((g_X12_isNoCell_md_0 a b), md.2.1, md.2.2.1, md.2.2.2) ++ (mlW G (ad 0) adm ml)) rfl
    refine ziald B hW 2 rfl (zmcell_ix (zmw2 (k := 1) c_6 (by decide)).1) dX12_fuel_25 ?_
    have e_0 : (if (r_X12_isNoCell a b) = (0 : Int32) then (ml.1 (r_X12_at a b).toNatClampNeg) else (0 : Int32)) = (ml.1 (r_X12_at a b).toNatClampNeg) := if_pos c_6
    refine W.eq (g2 := F0 m 26 ls [.int (if (r_X12_isNoCell a b) = (0 : Int32) then (ml.1 (r_X12_at a b).toNatClampNeg) else (0 : Int32))]) (by (try rw [e_0]) <;> rfl) ?_
    exact J_1 _ _ _ (hW.eq (by (try rw [e_0]) <;> rfl)) (by (try rw [e_0]) <;> exact lv_sub hl [] rfl)
  · refine lv_iconst (v := (0 : Int32)) hx hb dX12_fuel_9 (by decide) ?_
    refine lv_goto (tgt := 26) hx hb dX12_fuel_10 (by decide) ?_
    have e_0 : (if (r_X12_isNoCell a b) = (0 : Int32) then (ml.1 (r_X12_at a b).toNatClampNeg) else (0 : Int32)) = (0 : Int32) := if_neg c_6
    refine W.eq (g2 := F0 m 26 ls [.int (if (r_X12_isNoCell a b) = (0 : Int32) then (ml.1 (r_X12_at a b).toNatClampNeg) else (0 : Int32))]) (by (try rw [e_0]) <;> rfl) ?_
    exact J_1 _ _ _ (hW.eq (by (try rw [e_0]) <;> rfl)) (by (try rw [e_0]) <;> exact lv_sub hl [] rfl)
def g_X12_fire_md_0 (a : Int32) (b : Int32) : Int32 := (g_X12_isNoCell_md_0 a b)
def f_X12_fire_md (md : zMd) (ml : zMl) (a : Int32) (b : Int32) : zMd := (g_X12_fire_md_0 a b, md.2.1, md.2.2.1, md.2.2.2)
def r_X12_fire (ml_3 : Nat → Int32) (a : Int32) (b : Int32) : Int32 := (if (r_X12_isNoCell a b) = (0 : Int32) then (ml_3 (r_X12_at a b).toNatClampNeg) else (0 : Int32))
abbrev po_X12_fire (G : zG) (h : Nat) (ad : Nat → Nat) (md : zMd) (adm : Nat → Nat) (ml : zMl) (a : Int32) (b : Int32) : Option Value → va_W → Prop := fun r u => r = some (.int (r_X12_fire ml.2.2.2.1 a b)) ∧ u = mdW G h ad (f_X12_fire_md md ml a b) ++ (mlW G (ad 0) adm ml)
set_option maxHeartbeats 4000000 in
set_option maxRecDepth 100000 in
theorem c_X12_fire (l : Launch) (G : zG) (h : Nat) (ad : Nat → Nat) (md : zMd) (adm : Nat → Nat) (ml : zMl) (a : Int32) (b : Int32) : zC l yX12_fire cX12_fire 3 (some .int) 3 0 0 G [.ref h, .int a, .int b] (mdW G h ad md ++ (mlW G (ad 0) adm ml)) (po_X12_fire G h ad md adm ml a b) := by
  refine zC.of RX12 rfl (by decide) (Nat.le_of_ble_eq_true rfl) ?_
  intro p e s m args below meth c A ls B hr hlk hnm hW hl
  have hx := B.x
  have hb := B.b
  have hl : lv_has ls 3 [(0, .ref h), (1, .int a), (2, .int b)] := hl
  refine lv_aload_n hx hb dX12_fire_0 rfl (lv_at hl 0 rfl) ?_
  refine lv_iload_n hx hb dX12_fire_1 rfl (lv_at hl 1 rfl) ?_
  refine lv_iload_n hx hb dX12_fire_2 rfl (lv_at hl 2 rfl) ?_
  refine zcV (w1 := []) (wc := mdW G h ad md) (w2 := mlW G (ad 0) adm ml) (As := [.int a, .int b]) B (hW.eq rfl) (c_X12_isNoCell l G h ad md a b) yd_X12_isNoCell ml_X12_218 0 rfl rfl rfl rfl hl.1 rfl (Nat.le_of_ble_eq_true rfl) ⟨Nat.le_of_ble_eq_true rfl, Nat.le_of_ble_eq_true rfl⟩ ⟨(Nat.le_of_ble_eq_true rfl), (Nat.le_of_ble_eq_true rfl)⟩ dX12_fire_3 (fun v u H locs hp hW => ?_)
  obtain ⟨rfl, rfl⟩ := hp
  have hW := hW.eq (w' := mdW G h ad ((g_X12_isNoCell_md_0 a b), md.2.1, md.2.2.1, md.2.2.2) ++ (mlW G (ad 0) adm ml)) rfl
  have J_1 : ∀ (H : Heap) (locs : List Loc) (ls : Array Slot), zW G A s.heap H locs (mdW G h ad ((g_X12_isNoCell_md_0 a b), md.2.1, md.2.2.1, md.2.2.2) ++ (mlW G (ad 0) adm ml)) → lv_has ls 3 [] → W p l e (zRm 3 0 0) s m args below meth c H locs 0 0 (MQ below (zQ G A (po_X12_fire G h ad md adm ml a b)) args s 0 0 A) (F0 m 26 ls [.int (if (r_X12_isNoCell a b) = (0 : Int32) then (ml.2.2.2.1 (r_X12_at a b).toNatClampNeg) else (0 : Int32))]) := by
    intro H locs ls hW hl
    exact ziret B hr hlk hW ⟨rfl, rfl⟩ (Nat.le_refl _) (Nat.le_refl _) dX12_fire_26
  refine lv_if_eq (tgt := 13) hx hb dX12_fire_6 (by decide) (fun c_6 => ?_) (fun c_6 => ?_)
  · refine lv_aload_n hx hb dX12_fire_13 rfl (lv_at hl 0 rfl) ?_
    refine zget B hW 0 rfl lf_X12_10 rfl dX12_fire_14 ?_
    refine zgetN B hW 1 rfl lf_X12_60 rfl dX12_fire_17 ?_
    refine lv_iload_n hx hb dX12_fire_20 rfl (lv_at hl 1 rfl) ?_
    refine lv_iload_n hx hb dX12_fire_21 rfl (lv_at hl 2 rfl) ?_
    refine zcS (w1 := []) (wc := []) (w2 := mdW G h ad ((g_X12_isNoCell_md_0 a b), md.2.1, md.2.2.1, md.2.2.2) ++ (mlW G (ad 0) adm ml)) (As := [.int a, .int b]) B (hW.eq rfl) (c_X12_at l G a b) yd_X12_at ml_X12_52 rfl hl.1 rfl (Nat.le_of_ble_eq_true rfl) ⟨Nat.le_of_ble_eq_true rfl, Nat.le_of_ble_eq_true rfl⟩ ⟨(Nat.le_of_ble_eq_true rfl), (Nat.le_of_ble_eq_true rfl)⟩ dX12_fire_22 (fun v u H locs hp hW => ?_)
    obtain ⟨rfl, rfl⟩ := hp
    have hW := hW.eq (w' := mdW G h ad ((g_X12_isNoCell_md_0 a b), md.2.1, md.2.2.1, md.2.2.2) ++ (mlW G (ad 0) adm ml)) rfl
    refine ziald B hW 5 rfl (zmcell_ix (zmw2 (k := 1) c_6 (by decide)).1) dX12_fire_25 ?_
    have e_0 : (if (r_X12_isNoCell a b) = (0 : Int32) then (ml.2.2.2.1 (r_X12_at a b).toNatClampNeg) else (0 : Int32)) = (ml.2.2.2.1 (r_X12_at a b).toNatClampNeg) := if_pos c_6
    refine W.eq (g2 := F0 m 26 ls [.int (if (r_X12_isNoCell a b) = (0 : Int32) then (ml.2.2.2.1 (r_X12_at a b).toNatClampNeg) else (0 : Int32))]) (by (try rw [e_0]) <;> rfl) ?_
    exact J_1 _ _ _ (hW.eq (by (try rw [e_0]) <;> rfl)) (by (try rw [e_0]) <;> exact lv_sub hl [] rfl)
  · refine lv_iconst (v := (0 : Int32)) hx hb dX12_fire_9 (by decide) ?_
    refine lv_goto (tgt := 26) hx hb dX12_fire_10 (by decide) ?_
    have e_0 : (if (r_X12_isNoCell a b) = (0 : Int32) then (ml.2.2.2.1 (r_X12_at a b).toNatClampNeg) else (0 : Int32)) = (0 : Int32) := if_neg c_6
    refine W.eq (g2 := F0 m 26 ls [.int (if (r_X12_isNoCell a b) = (0 : Int32) then (ml.2.2.2.1 (r_X12_at a b).toNatClampNeg) else (0 : Int32))]) (by (try rw [e_0]) <;> rfl) ?_
    exact J_1 _ _ _ (hW.eq (by (try rw [e_0]) <;> rfl)) (by (try rw [e_0]) <;> exact lv_sub hl [] rfl)
def g_X12_smoke_md_0 (a : Int32) (b : Int32) : Int32 := (g_X12_isNoCell_md_0 a b)
def f_X12_smoke_md (md : zMd) (ml : zMl) (a : Int32) (b : Int32) : zMd := (g_X12_smoke_md_0 a b, md.2.1, md.2.2.1, md.2.2.2)
def r_X12_smoke (ml_4 : Nat → Int32) (a : Int32) (b : Int32) : Int32 := (if (r_X12_isNoCell a b) = (0 : Int32) then (ml_4 (r_X12_at a b).toNatClampNeg) else (0 : Int32))
abbrev po_X12_smoke (G : zG) (h : Nat) (ad : Nat → Nat) (md : zMd) (adm : Nat → Nat) (ml : zMl) (a : Int32) (b : Int32) : Option Value → va_W → Prop := fun r u => r = some (.int (r_X12_smoke ml.2.2.2.2.1 a b)) ∧ u = mdW G h ad (f_X12_smoke_md md ml a b) ++ (mlW G (ad 0) adm ml)
set_option maxHeartbeats 4000000 in
set_option maxRecDepth 100000 in
theorem c_X12_smoke (l : Launch) (G : zG) (h : Nat) (ad : Nat → Nat) (md : zMd) (adm : Nat → Nat) (ml : zMl) (a : Int32) (b : Int32) : zC l yX12_smoke cX12_smoke 3 (some .int) 3 0 0 G [.ref h, .int a, .int b] (mdW G h ad md ++ (mlW G (ad 0) adm ml)) (po_X12_smoke G h ad md adm ml a b) := by
  refine zC.of RX12 rfl (by decide) (Nat.le_of_ble_eq_true rfl) ?_
  intro p e s m args below meth c A ls B hr hlk hnm hW hl
  have hx := B.x
  have hb := B.b
  have hl : lv_has ls 3 [(0, .ref h), (1, .int a), (2, .int b)] := hl
  refine lv_aload_n hx hb dX12_smoke_0 rfl (lv_at hl 0 rfl) ?_
  refine lv_iload_n hx hb dX12_smoke_1 rfl (lv_at hl 1 rfl) ?_
  refine lv_iload_n hx hb dX12_smoke_2 rfl (lv_at hl 2 rfl) ?_
  refine zcV (w1 := []) (wc := mdW G h ad md) (w2 := mlW G (ad 0) adm ml) (As := [.int a, .int b]) B (hW.eq rfl) (c_X12_isNoCell l G h ad md a b) yd_X12_isNoCell ml_X12_218 0 rfl rfl rfl rfl hl.1 rfl (Nat.le_of_ble_eq_true rfl) ⟨Nat.le_of_ble_eq_true rfl, Nat.le_of_ble_eq_true rfl⟩ ⟨(Nat.le_of_ble_eq_true rfl), (Nat.le_of_ble_eq_true rfl)⟩ dX12_smoke_3 (fun v u H locs hp hW => ?_)
  obtain ⟨rfl, rfl⟩ := hp
  have hW := hW.eq (w' := mdW G h ad ((g_X12_isNoCell_md_0 a b), md.2.1, md.2.2.1, md.2.2.2) ++ (mlW G (ad 0) adm ml)) rfl
  have J_1 : ∀ (H : Heap) (locs : List Loc) (ls : Array Slot), zW G A s.heap H locs (mdW G h ad ((g_X12_isNoCell_md_0 a b), md.2.1, md.2.2.1, md.2.2.2) ++ (mlW G (ad 0) adm ml)) → lv_has ls 3 [] → W p l e (zRm 3 0 0) s m args below meth c H locs 0 0 (MQ below (zQ G A (po_X12_smoke G h ad md adm ml a b)) args s 0 0 A) (F0 m 26 ls [.int (if (r_X12_isNoCell a b) = (0 : Int32) then (ml.2.2.2.2.1 (r_X12_at a b).toNatClampNeg) else (0 : Int32))]) := by
    intro H locs ls hW hl
    exact ziret B hr hlk hW ⟨rfl, rfl⟩ (Nat.le_refl _) (Nat.le_refl _) dX12_smoke_26
  refine lv_if_eq (tgt := 13) hx hb dX12_smoke_6 (by decide) (fun c_6 => ?_) (fun c_6 => ?_)
  · refine lv_aload_n hx hb dX12_smoke_13 rfl (lv_at hl 0 rfl) ?_
    refine zget B hW 0 rfl lf_X12_10 rfl dX12_smoke_14 ?_
    refine zgetN B hW 1 rfl lf_X12_165 rfl dX12_smoke_17 ?_
    refine lv_iload_n hx hb dX12_smoke_20 rfl (lv_at hl 1 rfl) ?_
    refine lv_iload_n hx hb dX12_smoke_21 rfl (lv_at hl 2 rfl) ?_
    refine zcS (w1 := []) (wc := []) (w2 := mdW G h ad ((g_X12_isNoCell_md_0 a b), md.2.1, md.2.2.1, md.2.2.2) ++ (mlW G (ad 0) adm ml)) (As := [.int a, .int b]) B (hW.eq rfl) (c_X12_at l G a b) yd_X12_at ml_X12_52 rfl hl.1 rfl (Nat.le_of_ble_eq_true rfl) ⟨Nat.le_of_ble_eq_true rfl, Nat.le_of_ble_eq_true rfl⟩ ⟨(Nat.le_of_ble_eq_true rfl), (Nat.le_of_ble_eq_true rfl)⟩ dX12_smoke_22 (fun v u H locs hp hW => ?_)
    obtain ⟨rfl, rfl⟩ := hp
    have hW := hW.eq (w' := mdW G h ad ((g_X12_isNoCell_md_0 a b), md.2.1, md.2.2.1, md.2.2.2) ++ (mlW G (ad 0) adm ml)) rfl
    refine ziald B hW 6 rfl (zmcell_ix (zmw2 (k := 1) c_6 (by decide)).1) dX12_smoke_25 ?_
    have e_0 : (if (r_X12_isNoCell a b) = (0 : Int32) then (ml.2.2.2.2.1 (r_X12_at a b).toNatClampNeg) else (0 : Int32)) = (ml.2.2.2.2.1 (r_X12_at a b).toNatClampNeg) := if_pos c_6
    refine W.eq (g2 := F0 m 26 ls [.int (if (r_X12_isNoCell a b) = (0 : Int32) then (ml.2.2.2.2.1 (r_X12_at a b).toNatClampNeg) else (0 : Int32))]) (by (try rw [e_0]) <;> rfl) ?_
    exact J_1 _ _ _ (hW.eq (by (try rw [e_0]) <;> rfl)) (by (try rw [e_0]) <;> exact lv_sub hl [] rfl)
  · refine lv_iconst (v := (0 : Int32)) hx hb dX12_smoke_9 (by decide) ?_
    refine lv_goto (tgt := 26) hx hb dX12_smoke_10 (by decide) ?_
    have e_0 : (if (r_X12_isNoCell a b) = (0 : Int32) then (ml.2.2.2.2.1 (r_X12_at a b).toNatClampNeg) else (0 : Int32)) = (0 : Int32) := if_neg c_6
    refine W.eq (g2 := F0 m 26 ls [.int (if (r_X12_isNoCell a b) = (0 : Int32) then (ml.2.2.2.2.1 (r_X12_at a b).toNatClampNeg) else (0 : Int32))]) (by (try rw [e_0]) <;> rfl) ?_
    exact J_1 _ _ _ (hW.eq (by (try rw [e_0]) <;> rfl)) (by (try rw [e_0]) <;> exact lv_sub hl [] rfl)
def g_X12_hasLine_md_0 (a : Int32) (b : Int32) : Int32 := (g_X12_isNoCell_md_0 a b)
def f_X12_hasLine_md (md : zMd) (ml : zMl) (a : Int32) (b : Int32) : zMd := (g_X12_hasLine_md_0 a b, md.2.1, md.2.2.1, md.2.2.2)
def r_X12_hasLine (ml_5 : Nat → Int32) (a : Int32) (b : Int32) : Int32 := (if (r_X12_isNoCell a b) = (0 : Int32) then (if (ml_5 (r_X12_at a b).toNatClampNeg) = (0 : Int32) then (0 : Int32) else (1 : Int32)) else (0 : Int32))
abbrev po_X12_hasLine (G : zG) (h : Nat) (ad : Nat → Nat) (md : zMd) (adm : Nat → Nat) (ml : zMl) (a : Int32) (b : Int32) : Option Value → va_W → Prop := fun r u => r = some (.int (r_X12_hasLine ml.2.2.2.2.2.1 a b)) ∧ u = mdW G h ad (f_X12_hasLine_md md ml a b) ++ (mlW G (ad 0) adm ml)
set_option maxHeartbeats 4000000 in
set_option maxRecDepth 100000 in
theorem c_X12_hasLine (l : Launch) (G : zG) (h : Nat) (ad : Nat → Nat) (md : zMd) (adm : Nat → Nat) (ml : zMl) (a : Int32) (b : Int32) : zC l yX12_hasLine cX12_hasLine 3 (some .boolean) 3 0 0 G [.ref h, .int a, .int b] (mdW G h ad md ++ (mlW G (ad 0) adm ml)) (po_X12_hasLine G h ad md adm ml a b) := by
  refine zC.of RX12 rfl (by decide) (Nat.le_of_ble_eq_true rfl) ?_
  intro p e s m args below meth c A ls B hr hlk hnm hW hl
  have hx := B.x
  have hb := B.b
  have hl : lv_has ls 3 [(0, .ref h), (1, .int a), (2, .int b)] := hl
  refine lv_aload_n hx hb dX12_hasLine_0 rfl (lv_at hl 0 rfl) ?_
  refine lv_iload_n hx hb dX12_hasLine_1 rfl (lv_at hl 1 rfl) ?_
  refine lv_iload_n hx hb dX12_hasLine_2 rfl (lv_at hl 2 rfl) ?_
  refine zcV (w1 := []) (wc := mdW G h ad md) (w2 := mlW G (ad 0) adm ml) (As := [.int a, .int b]) B (hW.eq rfl) (c_X12_isNoCell l G h ad md a b) yd_X12_isNoCell ml_X12_218 0 rfl rfl rfl rfl hl.1 rfl (Nat.le_of_ble_eq_true rfl) ⟨Nat.le_of_ble_eq_true rfl, Nat.le_of_ble_eq_true rfl⟩ ⟨(Nat.le_of_ble_eq_true rfl), (Nat.le_of_ble_eq_true rfl)⟩ dX12_hasLine_3 (fun v u H locs hp hW => ?_)
  obtain ⟨rfl, rfl⟩ := hp
  have hW := hW.eq (w' := mdW G h ad ((g_X12_isNoCell_md_0 a b), md.2.1, md.2.2.1, md.2.2.2) ++ (mlW G (ad 0) adm ml)) rfl
  have J_1 : ∀ (H : Heap) (locs : List Loc) (ls : Array Slot), zW G A s.heap H locs (mdW G h ad ((g_X12_isNoCell_md_0 a b), md.2.1, md.2.2.1, md.2.2.2) ++ (mlW G (ad 0) adm ml)) → lv_has ls 3 [] → W p l e (zRm 3 0 0) s m args below meth c H locs 0 0 (MQ below (zQ G A (po_X12_hasLine G h ad md adm ml a b)) args s 0 0 A) (F0 m 30 ls [.int (if (r_X12_isNoCell a b) = (0 : Int32) then (if (ml.2.2.2.2.2.1 (r_X12_at a b).toNatClampNeg) = (0 : Int32) then (0 : Int32) else (1 : Int32)) else (0 : Int32))]) := by
    intro H locs ls hW hl
    exact zzret B hr hlk (by (repeat' split) <;> rfl) hW ⟨rfl, rfl⟩ (Nat.le_refl _) (Nat.le_refl _) dX12_hasLine_30
  refine lv_if_ne (tgt := 29) hx hb dX12_hasLine_6 (by decide) (fun c_6 => ?_) (fun c_6 => ?_)
  · refine lv_iconst (v := (0 : Int32)) hx hb dX12_hasLine_29 (by decide) ?_
    have e_0 : (if (r_X12_isNoCell a b) = (0 : Int32) then (if (ml.2.2.2.2.2.1 (r_X12_at a b).toNatClampNeg) = (0 : Int32) then (0 : Int32) else (1 : Int32)) else (0 : Int32)) = (0 : Int32) := if_neg c_6
    refine W.eq (g2 := F0 m 30 ls [.int (if (r_X12_isNoCell a b) = (0 : Int32) then (if (ml.2.2.2.2.2.1 (r_X12_at a b).toNatClampNeg) = (0 : Int32) then (0 : Int32) else (1 : Int32)) else (0 : Int32))]) (by (try rw [e_0]) <;> rfl) ?_
    exact J_1 _ _ _ (hW.eq (by (try rw [e_0]) <;> rfl)) (by (try rw [e_0]) <;> exact lv_sub hl [] rfl)
  · refine lv_aload_n hx hb dX12_hasLine_9 rfl (lv_at hl 0 rfl) ?_
    refine zget B hW 0 rfl lf_X12_10 rfl dX12_hasLine_10 ?_
    refine zgetN B hW 1 rfl lf_X12_56 rfl dX12_hasLine_13 ?_
    refine lv_iload_n hx hb dX12_hasLine_16 rfl (lv_at hl 1 rfl) ?_
    refine lv_iload_n hx hb dX12_hasLine_17 rfl (lv_at hl 2 rfl) ?_
    refine zcS (w1 := []) (wc := []) (w2 := mdW G h ad ((g_X12_isNoCell_md_0 a b), md.2.1, md.2.2.1, md.2.2.2) ++ (mlW G (ad 0) adm ml)) (As := [.int a, .int b]) B (hW.eq rfl) (c_X12_at l G a b) yd_X12_at ml_X12_52 rfl hl.1 rfl (Nat.le_of_ble_eq_true rfl) ⟨Nat.le_of_ble_eq_true rfl, Nat.le_of_ble_eq_true rfl⟩ ⟨(Nat.le_of_ble_eq_true rfl), (Nat.le_of_ble_eq_true rfl)⟩ dX12_hasLine_18 (fun v u H locs hp hW => ?_)
    obtain ⟨rfl, rfl⟩ := hp
    have hW := hW.eq (w' := mdW G h ad ((g_X12_isNoCell_md_0 a b), md.2.1, md.2.2.1, md.2.2.2) ++ (mlW G (ad 0) adm ml)) rfl
    refine zzald B hW 7 rfl (zmcell_ix (zmw2 (k := 1) c_6 (by decide)).1) dX12_hasLine_21 ?_
    refine lv_if_eq (tgt := 29) hx hb dX12_hasLine_22 (by decide) (fun c_22 => ?_) (fun c_22 => ?_)
    · refine lv_iconst (v := (0 : Int32)) hx hb dX12_hasLine_29 (by decide) ?_
      have e_0 : (if (r_X12_isNoCell a b) = (0 : Int32) then (if (ml.2.2.2.2.2.1 (r_X12_at a b).toNatClampNeg) = (0 : Int32) then (0 : Int32) else (1 : Int32)) else (0 : Int32)) = (0 : Int32) := (if_pos c_6).trans (if_pos c_22)
      refine W.eq (g2 := F0 m 30 ls [.int (if (r_X12_isNoCell a b) = (0 : Int32) then (if (ml.2.2.2.2.2.1 (r_X12_at a b).toNatClampNeg) = (0 : Int32) then (0 : Int32) else (1 : Int32)) else (0 : Int32))]) (by (try rw [e_0]) <;> rfl) ?_
      exact J_1 _ _ _ (hW.eq (by (try rw [e_0]) <;> rfl)) (by (try rw [e_0]) <;> exact lv_sub hl [] rfl)
    · refine lv_iconst (v := (1 : Int32)) hx hb dX12_hasLine_25 (by decide) ?_
      refine lv_goto (tgt := 30) hx hb dX12_hasLine_26 (by decide) ?_
      have e_0 : (if (r_X12_isNoCell a b) = (0 : Int32) then (if (ml.2.2.2.2.2.1 (r_X12_at a b).toNatClampNeg) = (0 : Int32) then (0 : Int32) else (1 : Int32)) else (0 : Int32)) = (1 : Int32) := (if_pos c_6).trans (if_neg c_22)
      refine W.eq (g2 := F0 m 30 ls [.int (if (r_X12_isNoCell a b) = (0 : Int32) then (if (ml.2.2.2.2.2.1 (r_X12_at a b).toNatClampNeg) = (0 : Int32) then (0 : Int32) else (1 : Int32)) else (0 : Int32))]) (by (try rw [e_0]) <;> rfl) ?_
      exact J_1 _ _ _ (hW.eq (by (try rw [e_0]) <;> rfl)) (by (try rw [e_0]) <;> exact lv_sub hl [] rfl)
def g_X12_hour_md_0 : Int32 := (0 : Int32)
def f_X12_hour_md (md : zMd) : zMd := (g_X12_hour_md_0, md.2.1, md.2.2.1, md.2.2.2)
def r_X12_hour (md_1 : Int32) : Int32 := md_1
abbrev po_X12_hour (G : zG) (h : Nat) (ad : Nat → Nat) (md : zMd) : Option Value → va_W → Prop := fun r u => r = some (.int (r_X12_hour md.2.1)) ∧ u = mdW G h ad (f_X12_hour_md md)
set_option maxHeartbeats 4000000 in
set_option maxRecDepth 100000 in
theorem c_X12_hour (l : Launch) (G : zG) (h : Nat) (ad : Nat → Nat) (md : zMd) : zC l yX12_hour cX12_hour 1 (some .int) 3 0 0 G [.ref h] (mdW G h ad md) (po_X12_hour G h ad md) := by
  refine zC.of RX12 rfl (by decide) (Nat.le_of_ble_eq_true rfl) ?_
  intro p e s m args below meth c A ls B hr hlk hnm hW hl
  have hx := B.x
  have hb := B.b
  have hl : lv_has ls 1 [(0, .ref h)] := hl
  refine lv_aload_n hx hb dX12_hour_0 rfl (lv_at hl 0 rfl) ?_
  refine lv_iconst (v := (0 : Int32)) hx hb dX12_hour_1 (by decide) ?_
  refine zput B hW 0 rfl lf_X12_32 ft_X12_0 rfl rfl (Nat.le_of_ble_eq_true rfl) dX12_hour_2 (fun H locs hW => ?_)
  refine lv_aload_n hx hb dX12_hour_5 rfl (lv_at hl 0 rfl) ?_
  refine zget B hW 0 rfl lf_X12_191 rfl dX12_hour_6 ?_
  exact ziret B hr hlk hW ⟨rfl, rfl⟩ (Nat.le_refl _) (Nat.le_refl _) dX12_hour_9
def g_X12_warnings_md_0 : Int32 := (0 : Int32)
def f_X12_warnings_md (md : zMd) (l4 : zAL) (wa : zMw) (r4 : zRn) : zMd := (g_X12_warnings_md_0, md.2.1, md.2.2.1, md.2.2.2)
def r_X12_warnings (wa_0 : Nat) : Int32 := (r_Jx4a65c_size_8abf5 (nI wa_0))
abbrev po_X12_warnings (G : zG) (h : Nat) (ad : Nat → Nat) (md : zMd) (ad4 : Nat → Nat) (l4 : zAL) (a4 : Nat → Nat) (wa : zMw) (q4 : Nat) (r4 : zRn) : Option Value → va_W → Prop := fun r u => r = some (.int (r_X12_warnings wa.1)) ∧ u = mdW G h ad (f_X12_warnings_md md l4 wa r4) ++ (alW G (ad 4) ad4 (l4.1, (zLv G r4 q4), (nI wa.1)) ++ (mwW G 0 a4 (wa.1, wa.2.1, wa.2.2.1, wa.2.2.2) ++ (rwW G q4 a4 (wa.1, r4))))
set_option maxHeartbeats 4000000 in
set_option maxRecDepth 100000 in
theorem c_X12_warnings (l : Launch) (G : zG) (h : Nat) (ad : Nat → Nat) (md : zMd) (ad4 : Nat → Nat) (l4 : zAL) (a4 : Nat → Nat) (wa : zMw) (q4 : Nat) (r4 : zRn) (hk_l4 : zLk wa.1 r4) : zC l yX12_warnings cX12_warnings 1 (some .int) 3 0 0 G [.ref h] (mdW G h ad md ++ (alW G (ad 4) ad4 (l4.1, (zLv G r4 q4), (nI wa.1)) ++ (mwW G 0 a4 wa ++ (rwW G q4 a4 (wa.1, r4))))) (po_X12_warnings G h ad md ad4 l4 a4 wa q4 r4) := by
  refine zC.of RX12 rfl (by decide) (Nat.le_of_ble_eq_true rfl) ?_
  intro p e s m args below meth c A ls B hr hlk hnm hW hl
  have hx := B.x
  have hb := B.b
  have hl : lv_has ls 1 [(0, .ref h)] := hl
  refine lv_aload_n hx hb dX12_warnings_0 rfl (lv_at hl 0 rfl) ?_
  refine lv_iconst (v := (0 : Int32)) hx hb dX12_warnings_1 (by decide) ?_
  refine zput B hW 0 rfl lf_X12_32 ft_X12_0 rfl rfl (Nat.le_of_ble_eq_true rfl) dX12_warnings_2 (fun H locs hW => ?_)
  refine lv_aload_n hx hb dX12_warnings_5 rfl (lv_at hl 0 rfl) ?_
  refine zget B hW 0 rfl lf_X12_29 rfl dX12_warnings_6 ?_
  refine zcF (w1 := mdW G h ad ((0 : Int32), md.2.1, md.2.2.1, md.2.2.2)) (wc := alW G (ad 4) ad4 (l4.1, (zLv G r4 q4), (nI wa.1))) (w2 := mwW G 0 a4 wa ++ (rwW G q4 a4 (wa.1, r4))) (As := []) B (hW.eq (by (try simp only [List.append_assoc, List.nil_append, List.append_nil, List.cons_append]) <;> rfl)) (c_Jx4a65c_size_8abf5 l G (ad 4) ad4 (l4.1, (zLv G r4 q4), (nI wa.1))) yf_Jx4a65c_size_8abf5 ml_X12_84 0 rfl rfl rfl rfl hl.1 rfl (Nat.le_of_ble_eq_true rfl) ⟨Nat.le_of_ble_eq_true rfl, Nat.le_of_ble_eq_true rfl⟩ ⟨(Nat.le_of_ble_eq_true rfl), (Nat.le_of_ble_eq_true rfl)⟩ dX12_warnings_9 (fun v u H locs hp hW => ?_)
  obtain ⟨rfl, rfl⟩ := hp
  have hW := hW.eq (w' := mdW G h ad ((0 : Int32), md.2.1, md.2.2.1, md.2.2.2) ++ (alW G (ad 4) ad4 (l4.1, (zLv G r4 q4), (nI wa.1)) ++ (mwW G 0 a4 wa ++ (rwW G q4 a4 (wa.1, r4))))) (by (try simp only [List.append_assoc, List.nil_append, List.append_nil, List.cons_append]) <;> rfl)
  exact ziret B hr hlk hW ⟨rfl, rfl⟩ (Nat.le_refl _) (Nat.le_refl _) dX12_warnings_14
def g_X12_closings_md_0 : Int32 := (0 : Int32)
def f_X12_closings_md (md : zMd) : zMd := (g_X12_closings_md_0, md.2.1, md.2.2.1, md.2.2.2)
def r_X12_closings (md_3 : Int32) : Int32 := md_3
abbrev po_X12_closings (G : zG) (h : Nat) (ad : Nat → Nat) (md : zMd) : Option Value → va_W → Prop := fun r u => r = some (.int (r_X12_closings md.2.2.2)) ∧ u = mdW G h ad (f_X12_closings_md md)
set_option maxHeartbeats 4000000 in
set_option maxRecDepth 100000 in
theorem c_X12_closings (l : Launch) (G : zG) (h : Nat) (ad : Nat → Nat) (md : zMd) : zC l yX12_closings cX12_closings 1 (some .int) 3 0 0 G [.ref h] (mdW G h ad md) (po_X12_closings G h ad md) := by
  refine zC.of RX12 rfl (by decide) (Nat.le_of_ble_eq_true rfl) ?_
  intro p e s m args below meth c A ls B hr hlk hnm hW hl
  have hx := B.x
  have hb := B.b
  have hl : lv_has ls 1 [(0, .ref h)] := hl
  refine lv_aload_n hx hb dX12_closings_0 rfl (lv_at hl 0 rfl) ?_
  refine lv_iconst (v := (0 : Int32)) hx hb dX12_closings_1 (by decide) ?_
  refine zput B hW 0 rfl lf_X12_32 ft_X12_0 rfl rfl (Nat.le_of_ble_eq_true rfl) dX12_closings_2 (fun H locs hW => ?_)
  refine lv_aload_n hx hb dX12_closings_5 rfl (lv_at hl 0 rfl) ?_
  refine zget B hW 0 rfl lf_X12_202 rfl dX12_closings_6 ?_
  exact ziret B hr hlk hW ⟨rfl, rfl⟩ (Nat.le_refl _) (Nat.le_refl _) dX12_closings_9
def g_X12_made_md_0 : Int32 := (0 : Int32)
def f_X12_made_md (md : zMd) (ml : zMl) : zMd := (g_X12_made_md_0, md.2.1, md.2.2.1, md.2.2.2)
def r_X12_made (ml_10 : Int64) : Int64 := ml_10
abbrev po_X12_made (G : zG) (h : Nat) (ad : Nat → Nat) (md : zMd) (adm : Nat → Nat) (ml : zMl) : Option Value → va_W → Prop := fun r u => r = some (.long (r_X12_made ml.2.2.2.2.2.2.2.2.2.2.1)) ∧ u = mdW G h ad (f_X12_made_md md ml) ++ (mlW G (ad 0) adm ml)
set_option maxHeartbeats 4000000 in
set_option maxRecDepth 100000 in
theorem c_X12_made (l : Launch) (G : zG) (h : Nat) (ad : Nat → Nat) (md : zMd) (adm : Nat → Nat) (ml : zMl) : zC l yX12_made cX12_made 1 (some .long) 3 0 0 G [.ref h] (mdW G h ad md ++ (mlW G (ad 0) adm ml)) (po_X12_made G h ad md adm ml) := by
  refine zC.of RX12 rfl (by decide) (Nat.le_of_ble_eq_true rfl) ?_
  intro p e s m args below meth c A ls B hr hlk hnm hW hl
  have hx := B.x
  have hb := B.b
  have hl : lv_has ls 1 [(0, .ref h)] := hl
  refine lv_aload_n hx hb dX12_made_0 rfl (lv_at hl 0 rfl) ?_
  refine lv_iconst (v := (0 : Int32)) hx hb dX12_made_1 (by decide) ?_
  refine zput B hW 0 rfl lf_X12_32 ft_X12_0 rfl rfl (Nat.le_of_ble_eq_true rfl) dX12_made_2 (fun H locs hW => ?_)
  refine lv_aload_n hx hb dX12_made_5 rfl (lv_at hl 0 rfl) ?_
  refine zget B hW 0 rfl lf_X12_10 rfl dX12_made_6 ?_
  refine zgetN B hW 1 rfl lf_X12_228 rfl dX12_made_9 ?_
  exact zlret B hr hlk hW ⟨rfl, rfl⟩ (Nat.le_refl _) (Nat.le_refl _) dX12_made_12
def g_X12_blown_md_0 : Int32 := (0 : Int32)
def f_X12_blown_md (md : zMd) (ml : zMl) : zMd := (g_X12_blown_md_0, md.2.1, md.2.2.1, md.2.2.2)
def r_X12_blown (ml_11 : Int64) : Int64 := ml_11
abbrev po_X12_blown (G : zG) (h : Nat) (ad : Nat → Nat) (md : zMd) (adm : Nat → Nat) (ml : zMl) : Option Value → va_W → Prop := fun r u => r = some (.long (r_X12_blown ml.2.2.2.2.2.2.2.2.2.2.2.1)) ∧ u = mdW G h ad (f_X12_blown_md md ml) ++ (mlW G (ad 0) adm ml)
set_option maxHeartbeats 4000000 in
set_option maxRecDepth 100000 in
theorem c_X12_blown (l : Launch) (G : zG) (h : Nat) (ad : Nat → Nat) (md : zMd) (adm : Nat → Nat) (ml : zMl) : zC l yX12_blown cX12_blown 1 (some .long) 3 0 0 G [.ref h] (mdW G h ad md ++ (mlW G (ad 0) adm ml)) (po_X12_blown G h ad md adm ml) := by
  refine zC.of RX12 rfl (by decide) (Nat.le_of_ble_eq_true rfl) ?_
  intro p e s m args below meth c A ls B hr hlk hnm hW hl
  have hx := B.x
  have hb := B.b
  have hl : lv_has ls 1 [(0, .ref h)] := hl
  refine lv_aload_n hx hb dX12_blown_0 rfl (lv_at hl 0 rfl) ?_
  refine lv_iconst (v := (0 : Int32)) hx hb dX12_blown_1 (by decide) ?_
  refine zput B hW 0 rfl lf_X12_32 ft_X12_0 rfl rfl (Nat.le_of_ble_eq_true rfl) dX12_blown_2 (fun H locs hW => ?_)
  refine lv_aload_n hx hb dX12_blown_5 rfl (lv_at hl 0 rfl) ?_
  refine zget B hW 0 rfl lf_X12_10 rfl dX12_blown_6 ?_
  refine zgetN B hW 1 rfl lf_X12_231 rfl dX12_blown_9 ?_
  exact zlret B hr hlk hW ⟨rfl, rfl⟩ (Nat.le_refl _) (Nat.le_refl _) dX12_blown_12
def g_X12_settled_md_0 : Int32 := (0 : Int32)
def f_X12_settled_md (md : zMd) (ml : zMl) : zMd := (g_X12_settled_md_0, md.2.1, md.2.2.1, md.2.2.2)
def r_X12_settled (ml_12 : Int64) : Int64 := ml_12
abbrev po_X12_settled (G : zG) (h : Nat) (ad : Nat → Nat) (md : zMd) (adm : Nat → Nat) (ml : zMl) : Option Value → va_W → Prop := fun r u => r = some (.long (r_X12_settled ml.2.2.2.2.2.2.2.2.2.2.2.2)) ∧ u = mdW G h ad (f_X12_settled_md md ml) ++ (mlW G (ad 0) adm ml)
set_option maxHeartbeats 4000000 in
set_option maxRecDepth 100000 in
theorem c_X12_settled (l : Launch) (G : zG) (h : Nat) (ad : Nat → Nat) (md : zMd) (adm : Nat → Nat) (ml : zMl) : zC l yX12_settled cX12_settled 1 (some .long) 3 0 0 G [.ref h] (mdW G h ad md ++ (mlW G (ad 0) adm ml)) (po_X12_settled G h ad md adm ml) := by
  refine zC.of RX12 rfl (by decide) (Nat.le_of_ble_eq_true rfl) ?_
  intro p e s m args below meth c A ls B hr hlk hnm hW hl
  have hx := B.x
  have hb := B.b
  have hl : lv_has ls 1 [(0, .ref h)] := hl
  refine lv_aload_n hx hb dX12_settled_0 rfl (lv_at hl 0 rfl) ?_
  refine lv_iconst (v := (0 : Int32)) hx hb dX12_settled_1 (by decide) ?_
  refine zput B hW 0 rfl lf_X12_32 ft_X12_0 rfl rfl (Nat.le_of_ble_eq_true rfl) dX12_settled_2 (fun H locs hW => ?_)
  refine lv_aload_n hx hb dX12_settled_5 rfl (lv_at hl 0 rfl) ?_
  refine zget B hW 0 rfl lf_X12_10 rfl dX12_settled_6 ?_
  refine zgetN B hW 1 rfl lf_X12_234 rfl dX12_settled_9 ?_
  exact zlret B hr hlk hW ⟨rfl, rfl⟩ (Nat.le_refl _) (Nat.le_refl _) dX12_settled_12
def g_X12_mended_md_0 : Int32 := (0 : Int32)
def f_X12_mended_md (md : zMd) : zMd := (g_X12_mended_md_0, md.2.1, md.2.2.1, md.2.2.2)
def r_X12_mended (md_2 : Int64) : Int64 := md_2
abbrev po_X12_mended (G : zG) (h : Nat) (ad : Nat → Nat) (md : zMd) : Option Value → va_W → Prop := fun r u => r = some (.long (r_X12_mended md.2.2.1)) ∧ u = mdW G h ad (f_X12_mended_md md)
set_option maxHeartbeats 4000000 in
set_option maxRecDepth 100000 in
theorem c_X12_mended (l : Launch) (G : zG) (h : Nat) (ad : Nat → Nat) (md : zMd) : zC l yX12_mended cX12_mended 1 (some .long) 3 0 0 G [.ref h] (mdW G h ad md) (po_X12_mended G h ad md) := by
  refine zC.of RX12 rfl (by decide) (Nat.le_of_ble_eq_true rfl) ?_
  intro p e s m args below meth c A ls B hr hlk hnm hW hl
  have hx := B.x
  have hb := B.b
  have hl : lv_has ls 1 [(0, .ref h)] := hl
  refine lv_aload_n hx hb dX12_mended_0 rfl (lv_at hl 0 rfl) ?_
  refine lv_iconst (v := (0 : Int32)) hx hb dX12_mended_1 (by decide) ?_
  refine zput B hW 0 rfl lf_X12_32 ft_X12_0 rfl rfl (Nat.le_of_ble_eq_true rfl) dX12_mended_2 (fun H locs hW => ?_)
  refine lv_aload_n hx hb dX12_mended_5 rfl (lv_at hl 0 rfl) ?_
  refine zget B hW 0 rfl lf_X12_168 rfl dX12_mended_6 ?_
  exact zlret B hr hlk hW ⟨rfl, rfl⟩ (Nat.le_refl _) (Nat.le_refl _) dX12_mended_9
def g_X12_isKept_md_0 : Int32 := (0 : Int32)
def f_X12_isKept_md (md : zMd) : zMd := (g_X12_isKept_md_0, md.2.1, md.2.2.1, md.2.2.2)
def r_X12_isKept : Int32 := (1 : Int32)
abbrev po_X12_isKept (G : zG) (h : Nat) (ad : Nat → Nat) (md : zMd) : Option Value → va_W → Prop := fun r u => r = some (.int (r_X12_isKept)) ∧ u = mdW G h ad (f_X12_isKept_md md)
set_option maxHeartbeats 4000000 in
set_option maxRecDepth 100000 in
theorem c_X12_isKept (l : Launch) (G : zG) (h : Nat) (ad : Nat → Nat) (md : zMd) : zC l yX12_isKept cX12_isKept 1 (some .boolean) 3 0 0 G [.ref h] (mdW G h ad md) (po_X12_isKept G h ad md) := by
  refine zC.of RX12 rfl (by decide) (Nat.le_of_ble_eq_true rfl) ?_
  intro p e s m args below meth c A ls B hr hlk hnm hW hl
  have hx := B.x
  have hb := B.b
  have hl : lv_has ls 1 [(0, .ref h)] := hl
  refine lv_aload_n hx hb dX12_isKept_0 rfl (lv_at hl 0 rfl) ?_
  refine lv_iconst (v := (0 : Int32)) hx hb dX12_isKept_1 (by decide) ?_
  refine zput B hW 0 rfl lf_X12_32 ft_X12_0 rfl rfl (Nat.le_of_ble_eq_true rfl) dX12_isKept_2 (fun H locs hW => ?_)
  refine lv_iconst (v := (1 : Int32)) hx hb dX12_isKept_5 (by decide) ?_
  exact zzret B hr hlk (by (repeat' split) <;> rfl) hW ⟨rfl, rfl⟩ (Nat.le_refl _) (Nat.le_refl _) dX12_isKept_6
def g_X12_isSame_md_0 : Int32 := (0 : Int32)
def f_X12_isSame_md (md : zMd) : zMd := (g_X12_isSame_md_0, md.2.1, md.2.2.1, md.2.2.2)
def r_X12_isSame : Int32 := (1 : Int32)
abbrev po_X12_isSame (G : zG) (h : Nat) (ad : Nat → Nat) (md : zMd) : Option Value → va_W → Prop := fun r u => r = some (.int (r_X12_isSame)) ∧ u = mdW G h ad (f_X12_isSame_md md)
set_option maxHeartbeats 4000000 in
set_option maxRecDepth 100000 in
theorem c_X12_isSame (l : Launch) (G : zG) (h : Nat) (ad : Nat → Nat) (md : zMd) : zC l yX12_isSame cX12_isSame 1 (some .boolean) 3 0 0 G [.ref h] (mdW G h ad md) (po_X12_isSame G h ad md) := by
  refine zC.of RX12 rfl (by decide) (Nat.le_of_ble_eq_true rfl) ?_
  intro p e s m args below meth c A ls B hr hlk hnm hW hl
  have hx := B.x
  have hb := B.b
  have hl : lv_has ls 1 [(0, .ref h)] := hl
  refine lv_aload_n hx hb dX12_isSame_0 rfl (lv_at hl 0 rfl) ?_
  refine lv_iconst (v := (0 : Int32)) hx hb dX12_isSame_1 (by decide) ?_
  refine zput B hW 0 rfl lf_X12_32 ft_X12_0 rfl rfl (Nat.le_of_ble_eq_true rfl) dX12_isSame_2 (fun H locs hW => ?_)
  refine lv_iconst (v := (1 : Int32)) hx hb dX12_isSame_5 (by decide) ?_
  exact zzret B hr hlk (by (repeat' split) <;> rfl) hW ⟨rfl, rfl⟩ (Nat.le_refl _) (Nat.le_refl _) dX12_isSame_6
def st_X12_meanSmoke_22 (q_ml_4 : Nat → Int32) (i_22 : Nat) (y : Int64) : Int64 := (y + (q_ml_4 i_22).toInt64)
def lp_X12_meanSmoke_22 (q_ml_4 : Nat → Int32) (y0 : Int64) : Nat → Int64
  | 0 => y0
  | n0 + 1 => st_X12_meanSmoke_22 q_ml_4 n0 (lp_X12_meanSmoke_22 q_ml_4 y0 n0)
termination_by n0 => n0
theorem lp_X12_meanSmoke_22_0 (q_ml_4 : Nat → Int32) (y0 : Int64) : lp_X12_meanSmoke_22 q_ml_4 y0 0 = y0 := by rw [lp_X12_meanSmoke_22]
theorem lp_X12_meanSmoke_22_s (q_ml_4 : Nat → Int32) (y0 : Int64) (n0 : Nat) : lp_X12_meanSmoke_22 q_ml_4 y0 (n0 + 1) = st_X12_meanSmoke_22 q_ml_4 n0 (lp_X12_meanSmoke_22 q_ml_4 y0 n0) := by rw [lp_X12_meanSmoke_22]
def g_X12_meanSmoke_md_0 : Int32 := (0 : Int32)
def f_X12_meanSmoke_md (md : zMd) (ml : zMl) : zMd := (g_X12_meanSmoke_md_0, md.2.1, md.2.2.1, md.2.2.2)
def r_X12_meanSmoke (ml_4 : Nat → Int32) : UInt64 := (FP.ddiv (FP.l2d (lp_X12_meanSmoke_22 ml_4 (0 : Int64) 48)) (4631952216750555136 : UInt64))
abbrev po_X12_meanSmoke (G : zG) (h : Nat) (ad : Nat → Nat) (md : zMd) (adm : Nat → Nat) (ml : zMl) : Option Value → va_W → Prop := fun r u => r = some (.double (r_X12_meanSmoke ml.2.2.2.2.1)) ∧ u = mdW G h ad (f_X12_meanSmoke_md md ml) ++ (mlW G (ad 0) adm ml)
set_option maxHeartbeats 4000000 in
set_option maxRecDepth 100000 in
theorem c_X12_meanSmoke (l : Launch) (G : zG) (h : Nat) (ad : Nat → Nat) (md : zMd) (adm : Nat → Nat) (ml : zMl) (hf : vf_n64 (FP.ddiv (FP.l2d (lp_X12_meanSmoke_22 ml.2.2.2.2.1 (0 : Int64) 48)) 4631952216750555136)) : zC l yX12_meanSmoke cX12_meanSmoke 7 (some .double) 3 0 0 G [.ref h] (mdW G h ad md ++ (mlW G (ad 0) adm ml)) (po_X12_meanSmoke G h ad md adm ml) := by
  refine zC.of RX12 rfl (by decide) (Nat.le_of_ble_eq_true rfl) ?_
  intro p e s m args below meth c A ls B hr hlk hnm hW hl
  have hx := B.x
  have hb := B.b
  have hl : lv_has ls 7 [(0, .ref h)] := hl
  refine lv_aload_n hx hb dX12_meanSmoke_0 rfl (lv_at hl 0 rfl) ?_
  refine lv_iconst (v := (0 : Int32)) hx hb dX12_meanSmoke_1 (by decide) ?_
  refine zput B hW 0 rfl lf_X12_32 ft_X12_0 rfl rfl (Nat.le_of_ble_eq_true rfl) dX12_meanSmoke_2 (fun H locs hW => ?_)
  refine lv_lconst (v := (0 : Int64)) hx hb dX12_meanSmoke_5 (by decide) ?_
  refine lv_lstore_n hx hb dX12_meanSmoke_6 rfl hl (by decide) rfl (fun ls hl => ?_)
  refine lv_aload_n hx hb dX12_meanSmoke_7 rfl (lv_at hl 1 rfl) ?_
  refine zget B hW 0 rfl lf_X12_10 rfl dX12_meanSmoke_8 ?_
  refine zgetN B hW 1 rfl lf_X12_165 rfl dX12_meanSmoke_11 ?_
  refine lv_astore_n hx hb dX12_meanSmoke_14 rfl hl (by decide) rfl (fun ls hl => ?_)
  refine lv_aload_n hx hb dX12_meanSmoke_15 rfl (lv_at hl 0 rfl) ?_
  refine zalen B hW 6 0 rfl rfl dX12_meanSmoke_16 ?_
  refine lv_istore hx hb dX12_meanSmoke_17 hl (by decide) rfl (fun ls hl => ?_)
  refine lv_iconst (v := (0 : Int32)) hx hb dX12_meanSmoke_19 (by decide) ?_
  refine lv_istore hx hb dX12_meanSmoke_20 hl (by decide) rfl (fun ls hl => ?_)
  have L_1 : ∀ i_22 : Nat, i_22 ≤ 48 → ∀ (H : Heap) (locs : List Loc) (ls : Array Slot), zW G A s.heap H locs (mdW G h ad ((0 : Int32), md.2.1, md.2.2.1, md.2.2.2) ++ (mlW G (ad 0) adm ml)) → lv_has ls 7 [(1, .long (lp_X12_meanSmoke_22 ml.2.2.2.2.1 (0 : Int64) i_22)), (3, .ref (adm 4)), (4, .int (nI 48)), (5, .int (nI i_22))] → W p l e (zRm 3 0 0) s m args below meth c H locs 0 0 (MQ below (zQ G A (po_X12_meanSmoke G h ad md adm ml)) args s 0 0 A) (F0 m 22 ls []) := by
    refine zloop 48 ?_ ?_
    · intro H locs ls hW hl
      have hl : lv_has ls 7 [(1, .long (lp_X12_meanSmoke_22 ml.2.2.2.2.1 (0 : Int64) 48)), (3, .ref (adm 4)), (4, .int (nI 48)), (5, .int (48 : Int32))] := hl
      refine lv_iload hx hb dX12_meanSmoke_22 (lv_at hl 3 rfl) ?_
      refine lv_iload hx hb dX12_meanSmoke_24 (lv_at hl 2 rfl) ?_
      refine lv_icmp_ge (tgt := 47) hx hb dX12_meanSmoke_26 (by decide) (fun c_26 => ?_) (fun c_26 => absurd (zge (by decide)) c_26)
      refine lv_lload_n hx hb dX12_meanSmoke_47 rfl (lv_at hl 0 rfl) ?_
      refine lv_l2d hx hb dX12_meanSmoke_48 ?_
      refine lv_ldc2d hx hb B.o (B.ts _ kn_X12_240) dX12_meanSmoke_49 ?_
      refine lv_ddiv hx hb dX12_meanSmoke_52 (hf) ?_
      exact zdret B hr hlk hW ⟨rfl, rfl⟩ (Nat.le_refl _) (Nat.le_refl _) dX12_meanSmoke_53
    · intro i_22 hi_22 ih H locs ls hW hl
      refine lv_iload hx hb dX12_meanSmoke_22 (lv_at hl 3 rfl) ?_
      refine lv_iload hx hb dX12_meanSmoke_24 (lv_at hl 2 rfl) ?_
      refine lv_icmp_ge (tgt := 47) hx hb dX12_meanSmoke_26 (by decide) (fun c_26 => absurd c_26 (znle (by decide) hi_22 (by decide))) (fun c_26 => ?_)
      refine lv_aload_n hx hb dX12_meanSmoke_29 rfl (lv_at hl 1 rfl) ?_
      refine lv_iload hx hb dX12_meanSmoke_30 (lv_at hl 3 rfl) ?_
      refine zialdN B hW 6 rfl i_22 rfl (by omega) (by decide) dX12_meanSmoke_32 ?_
      refine lv_istore hx hb dX12_meanSmoke_33 hl (by decide) rfl (fun ls hl => ?_)
      refine lv_lload_n hx hb dX12_meanSmoke_35 rfl (lv_at hl 1 rfl) ?_
      refine lv_iload hx hb dX12_meanSmoke_36 (lv_at hl 0 rfl) ?_
      refine lv_i2l hx hb dX12_meanSmoke_38 rfl ?_
      refine lv_ladd hx hb dX12_meanSmoke_39 ?_
      refine lv_lstore_n hx hb dX12_meanSmoke_40 rfl hl (by decide) rfl (fun ls hl => ?_)
      refine lv_iinc (v := (nI (i_22 + 1))) hx hb dX12_meanSmoke_41 hl (k := 4) rfl (nI_1 _) (by decide) rfl (fun ls hl => ?_)
      refine lv_goto (tgt := 22) hx hb dX12_meanSmoke_44 (by decide) ?_
      exact ih _ _ _ (hW.eq rfl) (by rw [lp_X12_meanSmoke_22_s]; exact lv_sub hl [1, 3, 4, 0] rfl)
  exact L_1 0 (Nat.zero_le _) _ _ _ (hW.eq rfl) (by rw [lp_X12_meanSmoke_22_0]; exact lv_sub hl [3, 2, 1, 0] rfl)
