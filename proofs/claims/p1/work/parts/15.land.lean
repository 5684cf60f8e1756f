abbrev zLand : Type := (Nat → Int32) × (Nat → Int32) × (Nat → Int32) × (Nat → Int32) × (Nat → Int32) × (Nat → Int32) × (Nat → Int32) × Int32 × Int32 × Int32 × Int32 × Int64 × Int64 × Int64
def landW (G : zG) (h : Nat) (ad : Nat → Nat) (x : zLand) : va_W := [(h, .inr (5, [.ref (ad 0), .ref (ad 1), .ref (ad 2), .ref (ad 3), .ref (ad 4), .ref (ad 5), .ref (ad 6), .int x.2.2.2.2.2.2.2.1, .int x.2.2.2.2.2.2.2.2.1, .int x.2.2.2.2.2.2.2.2.2.1, .int x.2.2.2.2.2.2.2.2.2.2.1, .long x.2.2.2.2.2.2.2.2.2.2.2.1, .long x.2.2.2.2.2.2.2.2.2.2.2.2.1, .long x.2.2.2.2.2.2.2.2.2.2.2.2.2])), (ad 0, .inl (G.2.1 0, 48, .inl x.1)), (ad 1, .inl (G.2.1 0, 48, .inl x.2.1)), (ad 2, .inl (G.2.1 0, 48, .inl x.2.2.1)), (ad 3, .inl (G.2.1 1, 48, .inl x.2.2.2.1)), (ad 4, .inl (G.2.1 0, 3, .inl x.2.2.2.2.1)), (ad 5, .inl (G.2.1 0, 3, .inl x.2.2.2.2.2.1)), (ad 6, .inl (G.2.1 0, 48, .inl x.2.2.2.2.2.2.1))]
def r_X7_isCell (a : Int32) (b : Int32) : Int32 := (if a < (0 : Int32) then (0 : Int32) else (if (8 : Int32) ≤ a then (0 : Int32) else (if b < (0 : Int32) then (0 : Int32) else (if (6 : Int32) ≤ b then (0 : Int32) else (1 : Int32)))))
abbrev po_X7_isCell (G : zG)  (a : Int32) (b : Int32) : Option Value → va_W → Prop := fun r u => r = some (.int (r_X7_isCell a b)) ∧ u = []
set_option maxHeartbeats 4000000 in
set_option maxRecDepth 100000 in
theorem c_X7_isCell (l : Launch) (G : zG)  (a : Int32) (b : Int32) : zC l yX7_isCell cX7_isCell 2 (some .boolean) 0 0 0 G [.int a, .int b] ([]) (po_X7_isCell G a b) := by
  refine zC.of RX7 rfl (by decide) (Nat.le_of_ble_eq_true rfl) ?_
  intro p e s m args below meth c A ls B hr hlk hnm hW hl
  have hx := B.x
  have hb := B.b
  have hl : lv_has ls 2 [(0, .int a), (1, .int b)] := hl
  refine lv_iload_n hx hb dX7_isCell_0 rfl (lv_at hl 0 rfl) ?_
  have J_1 : ∀ (H : Heap) (locs : List Loc) (ls : Array Slot), zW G A s.heap H locs ([]) → lv_has ls 2 [] → W p l e (zRm 0 0 0) s m args below meth c H locs 0 0 (MQ below (zQ G A (po_X7_isCell G a b)) args s 0 0 A) (F0 m 25 ls [.int (if a < (0 : Int32) then (0 : Int32) else (if (8 : Int32) ≤ a then (0 : Int32) else (if b < (0 : Int32) then (0 : Int32) else (if (6 : Int32) ≤ b then (0 : Int32) else (1 : Int32)))))]) := by
    intro H locs ls hW hl
    exact zzret B hr hlk (by (repeat' split) <;> rfl) hW ⟨rfl, rfl⟩ (Nat.le_refl _) (Nat.le_refl _) dX7_isCell_25
  refine lv_if_lt (tgt := 24) hx hb dX7_isCell_1 (by decide) (fun c_1 => ?_) (fun c_1 => ?_)
  · refine lv_iconst (v := (0 : Int32)) hx hb dX7_isCell_24 (by decide) ?_
    have e_0 : (if a < (0 : Int32) then (0 : Int32) else (if (8 : Int32) ≤ a then (0 : Int32) else (if b < (0 : Int32) then (0 : Int32) else (if (6 : Int32) ≤ b then (0 : Int32) else (1 : Int32))))) = (0 : Int32) := if_pos c_1
    refine W.eq (g2 := F0 m 25 ls [.int (if a < (0 : Int32) then (0 : Int32) else (if (8 : Int32) ≤ a then (0 : Int32) else (if b < (0 : Int32) then (0 : Int32) else (if (6 : Int32) ≤ b then (0 : Int32) else (1 : Int32)))))]) (by (try rw [e_0]) <;> rfl) ?_
    exact J_1 _ _ _ (hW.eq (by (try rw [e_0]) <;> rfl)) (by (try rw [e_0]) <;> exact lv_sub hl [] rfl)
  · refine lv_iload_n hx hb dX7_isCell_4 rfl (lv_at hl 0 rfl) ?_
    refine lv_bipush (v := (8 : Int32)) hx hb dX7_isCell_5 (by decide) ?_
    refine lv_icmp_ge (tgt := 24) hx hb dX7_isCell_7 (by decide) (fun c_7 => ?_) (fun c_7 => ?_)
    · refine lv_iconst (v := (0 : Int32)) hx hb dX7_isCell_24 (by decide) ?_
      have e_0 : (if a < (0 : Int32) then (0 : Int32) else (if (8 : Int32) ≤ a then (0 : Int32) else (if b < (0 : Int32) then (0 : Int32) else (if (6 : Int32) ≤ b then (0 : Int32) else (1 : Int32))))) = (0 : Int32) := (if_neg c_1).trans (if_pos c_7)
      refine W.eq (g2 := F0 m 25 ls [.int (if a < (0 : Int32) then (0 : Int32) else (if (8 : Int32) ≤ a then (0 : Int32) else (if b < (0 : Int32) then (0 : Int32) else (if (6 : Int32) ≤ b then (0 : Int32) else (1 : Int32)))))]) (by (try rw [e_0]) <;> rfl) ?_
      exact J_1 _ _ _ (hW.eq (by (try rw [e_0]) <;> rfl)) (by (try rw [e_0]) <;> exact lv_sub hl [] rfl)
    · refine lv_iload_n hx hb dX7_isCell_10 rfl (lv_at hl 1 rfl) ?_
      refine lv_if_lt (tgt := 24) hx hb dX7_isCell_11 (by decide) (fun c_11 => ?_) (fun c_11 => ?_)
      · refine lv_iconst (v := (0 : Int32)) hx hb dX7_isCell_24 (by decide) ?_
        have e_0 : (if a < (0 : Int32) then (0 : Int32) else (if (8 : Int32) ≤ a then (0 : Int32) else (if b < (0 : Int32) then (0 : Int32) else (if (6 : Int32) ≤ b then (0 : Int32) else (1 : Int32))))) = (0 : Int32) := (if_neg c_1).trans ((if_neg c_7).trans (if_pos c_11))
        refine W.eq (g2 := F0 m 25 ls [.int (if a < (0 : Int32) then (0 : Int32) else (if (8 : Int32) ≤ a then (0 : Int32) else (if b < (0 : Int32) then (0 : Int32) else (if (6 : Int32) ≤ b then (0 : Int32) else (1 : Int32)))))]) (by (try rw [e_0]) <;> rfl) ?_
        exact J_1 _ _ _ (hW.eq (by (try rw [e_0]) <;> rfl)) (by (try rw [e_0]) <;> exact lv_sub hl [] rfl)
      · refine lv_iload_n hx hb dX7_isCell_14 rfl (lv_at hl 1 rfl) ?_
        refine lv_bipush (v := (6 : Int32)) hx hb dX7_isCell_15 (by decide) ?_
        refine lv_icmp_ge (tgt := 24) hx hb dX7_isCell_17 (by decide) (fun c_17 => ?_) (fun c_17 => ?_)
        · refine lv_iconst (v := (0 : Int32)) hx hb dX7_isCell_24 (by decide) ?_
          have e_0 : (if a < (0 : Int32) then (0 : Int32) else (if (8 : Int32) ≤ a then (0 : Int32) else (if b < (0 : Int32) then (0 : Int32) else (if (6 : Int32) ≤ b then (0 : Int32) else (1 : Int32))))) = (0 : Int32) := (if_neg c_1).trans ((if_neg c_7).trans ((if_neg c_11).trans (if_pos c_17)))
          refine W.eq (g2 := F0 m 25 ls [.int (if a < (0 : Int32) then (0 : Int32) else (if (8 : Int32) ≤ a then (0 : Int32) else (if b < (0 : Int32) then (0 : Int32) else (if (6 : Int32) ≤ b then (0 : Int32) else (1 : Int32)))))]) (by (try rw [e_0]) <;> rfl) ?_
          exact J_1 _ _ _ (hW.eq (by (try rw [e_0]) <;> rfl)) (by (try rw [e_0]) <;> exact lv_sub hl [] rfl)
        · refine lv_iconst (v := (1 : Int32)) hx hb dX7_isCell_20 (by decide) ?_
          refine lv_goto (tgt := 25) hx hb dX7_isCell_21 (by decide) ?_
          have e_0 : (if a < (0 : Int32) then (0 : Int32) else (if (8 : Int32) ≤ a then (0 : Int32) else (if b < (0 : Int32) then (0 : Int32) else (if (6 : Int32) ≤ b then (0 : Int32) else (1 : Int32))))) = (1 : Int32) := (if_neg c_1).trans ((if_neg c_7).trans ((if_neg c_11).trans (if_neg c_17)))
          refine W.eq (g2 := F0 m 25 ls [.int (if a < (0 : Int32) then (0 : Int32) else (if (8 : Int32) ≤ a then (0 : Int32) else (if b < (0 : Int32) then (0 : Int32) else (if (6 : Int32) ≤ b then (0 : Int32) else (1 : Int32)))))]) (by (try rw [e_0]) <;> rfl) ?_
          exact J_1 _ _ _ (hW.eq (by (try rw [e_0]) <;> rfl)) (by (try rw [e_0]) <;> exact lv_sub hl [] rfl)
def f_X1_changeRain_x (x : zLand) (a : Int32) : zLand := (x.1, x.2.1, x.2.2.1, x.2.2.2.1, x.2.2.2.2.1, x.2.2.2.2.2.1, x.2.2.2.2.2.2.1, x.2.2.2.2.2.2.2.1, x.2.2.2.2.2.2.2.2.1, x.2.2.2.2.2.2.2.2.2.1, a, x.2.2.2.2.2.2.2.2.2.2.2.1, x.2.2.2.2.2.2.2.2.2.2.2.2.1, x.2.2.2.2.2.2.2.2.2.2.2.2.2)
def r_X1_changeRain (x : zLand) (a : Int32) : Int32 := x.2.2.2.2.2.2.2.2.2.2.1
abbrev po_X1_changeRain (G : zG) (h : Nat) (ad : Nat → Nat) (x : zLand) (a : Int32) : Option Value → va_W → Prop := fun r u => r = some (.int (r_X1_changeRain x a)) ∧ u = landW G h ad (f_X1_changeRain_x x a)
set_option maxHeartbeats 4000000 in
set_option maxRecDepth 100000 in
theorem c_X1_changeRain (l : Launch) (G : zG) (h : Nat) (ad : Nat → Nat) (x : zLand) (a : Int32) : zC l yX1_changeRain cX1_changeRain 3 (some .int) 0 0 0 G [.ref h, .int a] (landW G h ad x) (po_X1_changeRain G h ad x a) := by
  refine zC.of RX1 rfl (by decide) (Nat.le_of_ble_eq_true rfl) ?_
  intro p e s m args below meth c A ls B hr hlk hnm hW hl
  have hx := B.x
  have hb := B.b
  have hl : lv_has ls 3 [(0, .ref h), (1, .int a)] := hl
  refine lv_aload_n hx hb dX1_changeRain_0 rfl (lv_at hl 0 rfl) ?_
  refine zget B hW 0 rfl lf_X1_44 rfl dX1_changeRain_1 ?_
  refine lv_istore_n hx hb dX1_changeRain_4 rfl hl (by decide) rfl (fun ls hl => ?_)
  refine lv_aload_n hx hb dX1_changeRain_5 rfl (lv_at hl 1 rfl) ?_
  refine lv_iload_n hx hb dX1_changeRain_6 rfl (lv_at hl 2 rfl) ?_
  refine zput B hW 0 rfl lf_X1_44 ft_X1_10 rfl rfl (Nat.le_of_ble_eq_true rfl) dX1_changeRain_7 (fun H locs hW => ?_)
  refine lv_iload_n hx hb dX1_changeRain_10 rfl (lv_at hl 0 rfl) ?_
  exact ziret B hr hlk hW ⟨rfl, rfl⟩ (Nat.le_refl _) (Nat.le_refl _) dX1_changeRain_11
def f_X1_turnWind_x (x : zLand) (a : Int32) (b : Int32) (d : Int32) : zLand := (x.1, x.2.1, x.2.2.1, x.2.2.2.1, x.2.2.2.2.1, x.2.2.2.2.2.1, x.2.2.2.2.2.2.1, a, b, d, x.2.2.2.2.2.2.2.2.2.2.1, x.2.2.2.2.2.2.2.2.2.2.2.1, x.2.2.2.2.2.2.2.2.2.2.2.2.1, x.2.2.2.2.2.2.2.2.2.2.2.2.2)
def r_X1_turnWind (x : zLand) (a : Int32) (b : Int32) (d : Int32) : Int32 := x.2.2.2.2.2.2.2.2.2.1
abbrev po_X1_turnWind (G : zG) (h : Nat) (ad : Nat → Nat) (x : zLand) (a : Int32) (b : Int32) (d : Int32) : Option Value → va_W → Prop := fun r u => r = some (.int (r_X1_turnWind x a b d)) ∧ u = landW G h ad (f_X1_turnWind_x x a b d)
set_option maxHeartbeats 4000000 in
set_option maxRecDepth 100000 in
theorem c_X1_turnWind (l : Launch) (G : zG) (h : Nat) (ad : Nat → Nat) (x : zLand) (a : Int32) (b : Int32) (d : Int32) : zC l yX1_turnWind cX1_turnWind 5 (some .int) 0 0 0 G [.ref h, .int a, .int b, .int d] (landW G h ad x) (po_X1_turnWind G h ad x a b d) := by
  refine zC.of RX1 rfl (by decide) (Nat.le_of_ble_eq_true rfl) ?_
  intro p e s m args below meth c A ls B hr hlk hnm hW hl
  have hx := B.x
  have hb := B.b
  have hl : lv_has ls 5 [(0, .ref h), (1, .int a), (2, .int b), (3, .int d)] := hl
  refine lv_aload_n hx hb dX1_turnWind_0 rfl (lv_at hl 0 rfl) ?_
  refine zget B hW 0 rfl lf_X1_41 rfl dX1_turnWind_1 ?_
  refine lv_istore hx hb dX1_turnWind_4 hl (by decide) rfl (fun ls hl => ?_)
  refine lv_aload_n hx hb dX1_turnWind_6 rfl (lv_at hl 1 rfl) ?_
  refine lv_iload_n hx hb dX1_turnWind_7 rfl (lv_at hl 2 rfl) ?_
  refine zput B hW 0 rfl lf_X1_34 ft_X1_7 rfl rfl (Nat.le_of_ble_eq_true rfl) dX1_turnWind_8 (fun H locs hW => ?_)
  refine lv_aload_n hx hb dX1_turnWind_11 rfl (lv_at hl 1 rfl) ?_
  refine lv_iload_n hx hb dX1_turnWind_12 rfl (lv_at hl 3 rfl) ?_
  refine zput B hW 0 rfl lf_X1_38 ft_X1_8 rfl rfl (Nat.le_of_ble_eq_true rfl) dX1_turnWind_13 (fun H locs hW => ?_)
  refine lv_aload_n hx hb dX1_turnWind_16 rfl (lv_at hl 1 rfl) ?_
  refine lv_iload_n hx hb dX1_turnWind_17 rfl (lv_at hl 4 rfl) ?_
  refine zput B hW 0 rfl lf_X1_41 ft_X1_9 rfl rfl (Nat.le_of_ble_eq_true rfl) dX1_turnWind_18 (fun H locs hW => ?_)
  refine lv_iload hx hb dX1_turnWind_21 (lv_at hl 0 rfl) ?_
  exact ziret B hr hlk hW ⟨rfl, rfl⟩ (Nat.le_refl _) (Nat.le_refl _) dX1_turnWind_23
def f_X1_replaceFuel_x (x : zLand) (a : Int32) (b : Int32) : zLand := ((upd x.1 a.toNatClampNeg b), x.2.1, x.2.2.1, x.2.2.2.1, x.2.2.2.2.1, x.2.2.2.2.2.1, x.2.2.2.2.2.2.1, x.2.2.2.2.2.2.2.1, x.2.2.2.2.2.2.2.2.1, x.2.2.2.2.2.2.2.2.2.1, x.2.2.2.2.2.2.2.2.2.2.1, x.2.2.2.2.2.2.2.2.2.2.2.1, x.2.2.2.2.2.2.2.2.2.2.2.2.1, x.2.2.2.2.2.2.2.2.2.2.2.2.2)
def r_X1_replaceFuel (x : zLand) (a : Int32) (b : Int32) : Int32 := (x.1 a.toNatClampNeg)
abbrev po_X1_replaceFuel (G : zG) (h : Nat) (ad : Nat → Nat) (x : zLand) (a : Int32) (b : Int32) : Option Value → va_W → Prop := fun r u => r = some (.int (r_X1_replaceFuel x a b)) ∧ u = landW G h ad (f_X1_replaceFuel_x x a b)
set_option maxHeartbeats 4000000 in
set_option maxRecDepth 100000 in
theorem c_X1_replaceFuel (l : Launch) (G : zG) (h : Nat) (ad : Nat → Nat) (x : zLand) (a : Int32) (b : Int32) (hp : vp_in a 48) : zC l yX1_replaceFuel cX1_replaceFuel 4 (some .int) 0 0 0 G [.ref h, .int a, .int b] (landW G h ad x) (po_X1_replaceFuel G h ad x a b) := by
  refine zC.of RX1 rfl (by decide) (Nat.le_of_ble_eq_true rfl) ?_
  intro p e s m args below meth c A ls B hr hlk hnm hW hl
  have hx := B.x
  have hb := B.b
  have hl : lv_has ls 4 [(0, .ref h), (1, .int a), (2, .int b)] := hl
  refine lv_aload_n hx hb dX1_replaceFuel_0 rfl (lv_at hl 0 rfl) ?_
  refine zget B hW 0 rfl lf_X1_9 rfl dX1_replaceFuel_1 ?_
  refine lv_iload_n hx hb dX1_replaceFuel_4 rfl (lv_at hl 1 rfl) ?_
  refine ziald B hW 1 rfl (hp) dX1_replaceFuel_5 ?_
  refine lv_istore_n hx hb dX1_replaceFuel_6 rfl hl (by decide) rfl (fun ls hl => ?_)
  refine lv_aload_n hx hb dX1_replaceFuel_7 rfl (lv_at hl 1 rfl) ?_
  refine zget B hW 0 rfl lf_X1_9 rfl dX1_replaceFuel_8 ?_
  refine lv_iload_n hx hb dX1_replaceFuel_11 rfl (lv_at hl 2 rfl) ?_
  refine lv_iload_n hx hb dX1_replaceFuel_12 rfl (lv_at hl 3 rfl) ?_
  refine ziast B hW 1 rfl (hp) dX1_replaceFuel_13 (fun H locs hW => ?_)
  refine lv_iload_n hx hb dX1_replaceFuel_14 rfl (lv_at hl 0 rfl) ?_
  exact ziret B hr hlk hW ⟨rfl, rfl⟩ (Nat.le_refl _) (Nat.le_refl _) dX1_replaceFuel_15
def f_X1_kindle_x (x : zLand) (a : Int32) (b : Int32) : zLand := (x.1, (if b ≤ (x.2.1 a.toNatClampNeg) then x.2.1 else (upd x.2.1 a.toNatClampNeg b)), x.2.2.1, x.2.2.2.1, x.2.2.2.2.1, x.2.2.2.2.2.1, x.2.2.2.2.2.2.1, x.2.2.2.2.2.2.2.1, x.2.2.2.2.2.2.2.2.1, x.2.2.2.2.2.2.2.2.2.1, x.2.2.2.2.2.2.2.2.2.2.1, x.2.2.2.2.2.2.2.2.2.2.2.1, x.2.2.2.2.2.2.2.2.2.2.2.2.1, x.2.2.2.2.2.2.2.2.2.2.2.2.2)
def r_X1_kindle (x : zLand) (a : Int32) (b : Int32) : Int32 := (if ((if b ≤ (x.2.1 a.toNatClampNeg) then x.2.1 else (upd x.2.1 a.toNatClampNeg b)) a.toNatClampNeg) = b then (1 : Int32) else (0 : Int32))
abbrev po_X1_kindle (G : zG) (h : Nat) (ad : Nat → Nat) (x : zLand) (a : Int32) (b : Int32) : Option Value → va_W → Prop := fun r u => r = some (.int (r_X1_kindle x a b)) ∧ u = landW G h ad (f_X1_kindle_x x a b)
set_option maxHeartbeats 4000000 in
set_option maxRecDepth 100000 in
theorem c_X1_kindle (l : Launch) (G : zG) (h : Nat) (ad : Nat → Nat) (x : zLand) (a : Int32) (b : Int32) (hp : vp_in a 48) : zC l yX1_kindle cX1_kindle 3 (some .int) 0 0 0 G [.ref h, .int a, .int b] (landW G h ad x) (po_X1_kindle G h ad x a b) := by
  refine zC.of RX1 rfl (by decide) (Nat.le_of_ble_eq_true rfl) ?_
  intro p e s m args below meth c A ls B hr hlk hnm hW hl
  have hx := B.x
  have hb := B.b
  have hl : lv_has ls 3 [(0, .ref h), (1, .int a), (2, .int b)] := hl
  refine lv_iload_n hx hb dX1_kindle_0 rfl (lv_at hl 2 rfl) ?_
  refine lv_aload_n hx hb dX1_kindle_1 rfl (lv_at hl 0 rfl) ?_
  refine zget B hW 0 rfl lf_X1_15 rfl dX1_kindle_2 ?_
  refine lv_iload_n hx hb dX1_kindle_5 rfl (lv_at hl 1 rfl) ?_
  refine ziald B hW 2 rfl (hp) dX1_kindle_6 ?_
  have J_1 : ∀ (H : Heap) (locs : List Loc) (ls : Array Slot), zW G A s.heap H locs (landW G h ad (x.1, (if b ≤ (x.2.1 a.toNatClampNeg) then x.2.1 else (upd x.2.1 a.toNatClampNeg b)), x.2.2.1, x.2.2.2.1, x.2.2.2.2.1, x.2.2.2.2.2.1, x.2.2.2.2.2.2.1, x.2.2.2.2.2.2.2.1, x.2.2.2.2.2.2.2.2.1, x.2.2.2.2.2.2.2.2.2.1, x.2.2.2.2.2.2.2.2.2.2.1, x.2.2.2.2.2.2.2.2.2.2.2.1, x.2.2.2.2.2.2.2.2.2.2.2.2.1, x.2.2.2.2.2.2.2.2.2.2.2.2.2)) → lv_has ls 3 [(0, .ref h), (1, .int a), (2, .int b)] → W p l e (zRm 0 0 0) s m args below meth c H locs 0 0 (MQ below (zQ G A (po_X1_kindle G h ad x a b)) args s 0 0 A) (F0 m 17 ls []) := by
    intro H locs ls hW hl
    refine lv_aload_n hx hb dX1_kindle_17 rfl (lv_at hl 0 rfl) ?_
    refine zget B hW 0 rfl lf_X1_15 rfl dX1_kindle_18 ?_
    refine lv_iload_n hx hb dX1_kindle_21 rfl (lv_at hl 1 rfl) ?_
    refine ziald B hW 2 rfl (hp) dX1_kindle_22 ?_
    refine lv_iload_n hx hb dX1_kindle_23 rfl (lv_at hl 2 rfl) ?_
    have J_2 : ∀ (H : Heap) (locs : List Loc) (ls : Array Slot), zW G A s.heap H locs (landW G h ad (x.1, (if b ≤ (x.2.1 a.toNatClampNeg) then x.2.1 else (upd x.2.1 a.toNatClampNeg b)), x.2.2.1, x.2.2.2.1, x.2.2.2.2.1, x.2.2.2.2.2.1, x.2.2.2.2.2.2.1, x.2.2.2.2.2.2.2.1, x.2.2.2.2.2.2.2.2.1, x.2.2.2.2.2.2.2.2.2.1, x.2.2.2.2.2.2.2.2.2.2.1, x.2.2.2.2.2.2.2.2.2.2.2.1, x.2.2.2.2.2.2.2.2.2.2.2.2.1, x.2.2.2.2.2.2.2.2.2.2.2.2.2)) → lv_has ls 3 [] → W p l e (zRm 0 0 0) s m args below meth c H locs 0 0 (MQ below (zQ G A (po_X1_kindle G h ad x a b)) args s 0 0 A) (F0 m 32 ls [.int (if ((if b ≤ (x.2.1 a.toNatClampNeg) then x.2.1 else (upd x.2.1 a.toNatClampNeg b)) a.toNatClampNeg) = b then (1 : Int32) else (0 : Int32))]) := by
      intro H locs ls hW hl
      exact ziret B hr hlk hW ⟨rfl, rfl⟩ (Nat.le_refl _) (Nat.le_refl _) dX1_kindle_32
    refine lv_icmp_ne (tgt := 31) hx hb dX1_kindle_24 (by decide) (fun c_24 => ?_) (fun c_24 => ?_)
    · refine lv_iconst (v := (0 : Int32)) hx hb dX1_kindle_31 (by decide) ?_
      have e_0 : (if ((if b ≤ (x.2.1 a.toNatClampNeg) then x.2.1 else (upd x.2.1 a.toNatClampNeg b)) a.toNatClampNeg) = b then (1 : Int32) else (0 : Int32)) = (0 : Int32) := if_neg c_24
      refine W.eq (g2 := F0 m 32 ls [.int (if ((if b ≤ (x.2.1 a.toNatClampNeg) then x.2.1 else (upd x.2.1 a.toNatClampNeg b)) a.toNatClampNeg) = b then (1 : Int32) else (0 : Int32))]) (by (try rw [e_0]) <;> rfl) ?_
      exact J_2 _ _ _ (hW.eq (by (try rw [e_0]) <;> rfl)) (by (try rw [e_0]) <;> exact lv_sub hl [] rfl)
    · refine lv_iconst (v := (1 : Int32)) hx hb dX1_kindle_27 (by decide) ?_
      refine lv_goto (tgt := 32) hx hb dX1_kindle_28 (by decide) ?_
      have e_0 : (if ((if b ≤ (x.2.1 a.toNatClampNeg) then x.2.1 else (upd x.2.1 a.toNatClampNeg b)) a.toNatClampNeg) = b then (1 : Int32) else (0 : Int32)) = (1 : Int32) := if_pos c_24
      refine W.eq (g2 := F0 m 32 ls [.int (if ((if b ≤ (x.2.1 a.toNatClampNeg) then x.2.1 else (upd x.2.1 a.toNatClampNeg b)) a.toNatClampNeg) = b then (1 : Int32) else (0 : Int32))]) (by (try rw [e_0]) <;> rfl) ?_
      exact J_2 _ _ _ (hW.eq (by (try rw [e_0]) <;> rfl)) (by (try rw [e_0]) <;> exact lv_sub hl [] rfl)
  refine lv_icmp_le (tgt := 17) hx hb dX1_kindle_7 (by decide) (fun c_7 => ?_) (fun c_7 => ?_)
  · have e_0 : (if b ≤ (x.2.1 a.toNatClampNeg) then x.2.1 else (upd x.2.1 a.toNatClampNeg b)) = x.2.1 := if_pos c_7
    exact J_1 _ _ _ (hW.eq (by (try rw [e_0]) <;> rfl)) (by (try rw [e_0]) <;> exact lv_sub hl [0, 1, 2] rfl)
  · refine lv_aload_n hx hb dX1_kindle_10 rfl (lv_at hl 0 rfl) ?_
    refine zget B hW 0 rfl lf_X1_15 rfl dX1_kindle_11 ?_
    refine lv_iload_n hx hb dX1_kindle_14 rfl (lv_at hl 1 rfl) ?_
    refine lv_iload_n hx hb dX1_kindle_15 rfl (lv_at hl 2 rfl) ?_
    refine ziast B hW 2 rfl (hp) dX1_kindle_16 (fun H locs hW => ?_)
    have e_0 : (if b ≤ (x.2.1 a.toNatClampNeg) then x.2.1 else (upd x.2.1 a.toNatClampNeg b)) = (upd x.2.1 a.toNatClampNeg b) := if_neg c_7
    exact J_1 _ _ _ (hW.eq (by (try rw [e_0]) <;> rfl)) (by (try rw [e_0]) <;> exact lv_sub hl [0, 1, 2] rfl)
def f_X1_sendCrew_x (x : zLand) (a : Int32) (b : Int32) : zLand := (x.1, x.2.1, x.2.2.1, x.2.2.2.1, (upd x.2.2.2.2.1 b.toNatClampNeg ((2 : Int32) + ((x.1 a.toNatClampNeg) / (20 : Int32)))), (upd x.2.2.2.2.2.1 b.toNatClampNeg a), x.2.2.2.2.2.2.1, x.2.2.2.2.2.2.2.1, x.2.2.2.2.2.2.2.2.1, x.2.2.2.2.2.2.2.2.2.1, x.2.2.2.2.2.2.2.2.2.2.1, x.2.2.2.2.2.2.2.2.2.2.2.1, x.2.2.2.2.2.2.2.2.2.2.2.2.1, x.2.2.2.2.2.2.2.2.2.2.2.2.2)
def r_X1_sendCrew (x : zLand) (a : Int32) (b : Int32) : Int32 := ((upd x.2.2.2.2.1 b.toNatClampNeg ((2 : Int32) + ((x.1 a.toNatClampNeg) / (20 : Int32)))) b.toNatClampNeg)
abbrev po_X1_sendCrew (G : zG) (h : Nat) (ad : Nat → Nat) (x : zLand) (a : Int32) (b : Int32) : Option Value → va_W → Prop := fun r u => r = some (.int (r_X1_sendCrew x a b)) ∧ u = landW G h ad (f_X1_sendCrew_x x a b)
set_option maxHeartbeats 4000000 in
set_option maxRecDepth 100000 in
theorem c_X1_sendCrew (l : Launch) (G : zG) (h : Nat) (ad : Nat → Nat) (x : zLand) (a : Int32) (b : Int32) (hp : vp_in a 48) (hc : vp_in b 3) : zC l yX1_sendCrew cX1_sendCrew 3 (some .int) 0 0 0 G [.ref h, .int a, .int b] (landW G h ad x) (po_X1_sendCrew G h ad x a b) := by
  refine zC.of RX1 rfl (by decide) (Nat.le_of_ble_eq_true rfl) ?_
  intro p e s m args below meth c A ls B hr hlk hnm hW hl
  have hx := B.x
  have hb := B.b
  have hl : lv_has ls 3 [(0, .ref h), (1, .int a), (2, .int b)] := hl
  refine lv_aload_n hx hb dX1_sendCrew_0 rfl (lv_at hl 0 rfl) ?_
  refine zget B hW 0 rfl lf_X1_28 rfl dX1_sendCrew_1 ?_
  refine lv_iload_n hx hb dX1_sendCrew_4 rfl (lv_at hl 2 rfl) ?_
  refine lv_iload_n hx hb dX1_sendCrew_5 rfl (lv_at hl 1 rfl) ?_
  refine ziast B hW 6 rfl (hc) dX1_sendCrew_6 (fun H locs hW => ?_)
  refine lv_aload_n hx hb dX1_sendCrew_7 rfl (lv_at hl 0 rfl) ?_
  refine zget B hW 0 rfl lf_X1_25 rfl dX1_sendCrew_8 ?_
  refine lv_iload_n hx hb dX1_sendCrew_11 rfl (lv_at hl 2 rfl) ?_
  refine lv_iconst (v := (2 : Int32)) hx hb dX1_sendCrew_12 (by decide) ?_
  refine lv_aload_n hx hb dX1_sendCrew_13 rfl (lv_at hl 0 rfl) ?_
  refine zget B hW 0 rfl lf_X1_9 rfl dX1_sendCrew_14 ?_
  refine lv_iload_n hx hb dX1_sendCrew_17 rfl (lv_at hl 1 rfl) ?_
  refine ziald B hW 1 rfl (hp) dX1_sendCrew_18 ?_
  refine lv_bipush (v := (20 : Int32)) hx hb dX1_sendCrew_19 (by decide) ?_
  refine lv_idiv hx hb dX1_sendCrew_21 (by decide) ?_
  refine lv_iadd hx hb dX1_sendCrew_22 ?_
  refine ziast B hW 5 rfl (hc) dX1_sendCrew_23 (fun H locs hW => ?_)
  refine lv_aload_n hx hb dX1_sendCrew_24 rfl (lv_at hl 0 rfl) ?_
  refine zget B hW 0 rfl lf_X1_25 rfl dX1_sendCrew_25 ?_
  refine lv_iload_n hx hb dX1_sendCrew_28 rfl (lv_at hl 2 rfl) ?_
  refine ziald B hW 5 rfl (hc) dX1_sendCrew_29 ?_
  exact ziret B hr hlk hW ⟨rfl, rfl⟩ (Nat.le_refl _) (Nat.le_refl _) dX1_sendCrew_30
def st_X1_smokeInAll_4 (x : zLand) (i_4 : Nat) (y : Int64) : Int64 := (y + (x.2.2.1 i_4).toInt64)
def lp_X1_smokeInAll_4 (x : zLand) (y0 : Int64) : Nat → Int64
  | 0 => y0
  | n + 1 => st_X1_smokeInAll_4 x n (lp_X1_smokeInAll_4 x y0 n)
def r_X1_smokeInAll (x : zLand) : Int64 := (lp_X1_smokeInAll_4 x (0 : Int64) 48)
abbrev po_X1_smokeInAll (G : zG) (h : Nat) (ad : Nat → Nat) (x : zLand) : Option Value → va_W → Prop := fun r u => r = some (.long (r_X1_smokeInAll x)) ∧ u = landW G h ad x
set_option maxHeartbeats 4000000 in
set_option maxRecDepth 100000 in
theorem c_X1_smokeInAll (l : Launch) (G : zG) (h : Nat) (ad : Nat → Nat) (x : zLand) : zC l yX1_smokeInAll cX1_smokeInAll 4 (some .long) 0 0 0 G [.ref h] (landW G h ad x) (po_X1_smokeInAll G h ad x) := by
  refine zC.of RX1 rfl (by decide) (Nat.le_of_ble_eq_true rfl) ?_
  intro p e s m args below meth c A ls B hr hlk hnm hW hl
  have hx := B.x
  have hb := B.b
  have hl : lv_has ls 4 [(0, .ref h)] := hl
  refine lv_lconst (v := (0 : Int64)) hx hb dX1_smokeInAll_0 (by decide) ?_
  refine lv_lstore_n hx hb dX1_smokeInAll_1 rfl hl (by decide) rfl (fun ls hl => ?_)
  refine lv_iconst (v := (0 : Int32)) hx hb dX1_smokeInAll_2 (by decide) ?_
  refine lv_istore_n hx hb dX1_smokeInAll_3 rfl hl (by decide) rfl (fun ls hl => ?_)
  have L_1 : ∀ i_4 : Nat, i_4 ≤ 48 → ∀ (H : Heap) (locs : List Loc) (ls : Array Slot), zW G A s.heap H locs (landW G h ad x) → lv_has ls 4 [(0, .ref h), (1, .long (lp_X1_smokeInAll_4 x (0 : Int64) i_4)), (3, .int (nI i_4))] → W p l e (zRm 0 0 0) s m args below meth c H locs 0 0 (MQ below (zQ G A (po_X1_smokeInAll G h ad x)) args s 0 0 A) (F0 m 4 ls []) := by
    refine zloop 48 ?_ ?_
    · intro H locs ls hW hl
      have hl : lv_has ls 4 [(0, .ref h), (1, .long (lp_X1_smokeInAll_4 x (0 : Int64) 48)), (3, .int (48 : Int32))] := hl
      refine lv_iload_n hx hb dX1_smokeInAll_4 rfl (lv_at hl 2 rfl) ?_
      refine lv_bipush (v := (48 : Int32)) hx hb dX1_smokeInAll_5 (by decide) ?_
      refine lv_icmp_ge (tgt := 26) hx hb dX1_smokeInAll_7 (by decide) (fun c_7 => ?_) (fun c_7 => absurd (zge (by decide)) c_7)
      refine lv_lload_n hx hb dX1_smokeInAll_26 rfl (lv_at hl 1 rfl) ?_
      exact zlret B hr hlk hW ⟨rfl, rfl⟩ (Nat.le_refl _) (Nat.le_refl _) dX1_smokeInAll_27
    · intro i_4 hi_4 ih H locs ls hW hl
      refine lv_iload_n hx hb dX1_smokeInAll_4 rfl (lv_at hl 2 rfl) ?_
      refine lv_bipush (v := (48 : Int32)) hx hb dX1_smokeInAll_5 (by decide) ?_
      refine lv_icmp_ge (tgt := 26) hx hb dX1_smokeInAll_7 (by decide) (fun c_7 => absurd c_7 (znle (by decide) hi_4 (by decide))) (fun c_7 => ?_)
      refine lv_lload_n hx hb dX1_smokeInAll_10 rfl (lv_at hl 1 rfl) ?_
      refine lv_aload_n hx hb dX1_smokeInAll_11 rfl (lv_at hl 0 rfl) ?_
      refine zget B hW 0 rfl lf_X1_18 rfl dX1_smokeInAll_12 ?_
      refine lv_iload_n hx hb dX1_smokeInAll_15 rfl (lv_at hl 2 rfl) ?_
      refine zialdN B hW 3 rfl i_4 rfl (by omega) (by decide) dX1_smokeInAll_16 ?_
      refine lv_i2l hx hb dX1_smokeInAll_17 rfl ?_
      refine lv_ladd hx hb dX1_smokeInAll_18 ?_
      refine lv_lstore_n hx hb dX1_smokeInAll_19 rfl hl (by decide) rfl (fun ls hl => ?_)
      refine lv_iinc (v := (nI (i_4 + 1))) hx hb dX1_smokeInAll_20 hl (k := 2) rfl (nI_1 _) (by decide) rfl (fun ls hl => ?_)
      refine lv_goto (tgt := 4) hx hb dX1_smokeInAll_23 (by decide) ?_
      exact ih _ _ _ (hW.eq rfl) (lv_sub hl [2, 1, 0] rfl)
  exact L_1 0 (Nat.zero_le _) _ _ _ (hW.eq rfl) (lv_sub hl [2, 1, 0] rfl)
def st_X1_dig_2 (x : zLand) (i_2 : Nat) (y : (Nat → Int32) × (Nat → Int32) × (Nat → Int32)) : (Nat → Int32) × (Nat → Int32) × (Nat → Int32) := ((if (y.2.2 i_2) ≤ (0 : Int32) then y.1 else (if ((upd y.2.2 i_2 ((y.2.2 i_2) - (1 : Int32))) i_2) = (0 : Int32) then (upd y.1 (x.2.2.2.2.2.1 i_2).toNatClampNeg (0 : Int32)) else y.1)), (if (y.2.2 i_2) ≤ (0 : Int32) then y.2.1 else (if ((upd y.2.2 i_2 ((y.2.2 i_2) - (1 : Int32))) i_2) = (0 : Int32) then (upd y.2.1 (x.2.2.2.2.2.1 i_2).toNatClampNeg (1 : Int32)) else y.2.1)), (if (y.2.2 i_2) ≤ (0 : Int32) then y.2.2 else (upd y.2.2 i_2 ((y.2.2 i_2) - (1 : Int32)))))
def lp_X1_dig_2 (x : zLand) (y0 : (Nat → Int32) × (Nat → Int32) × (Nat → Int32)) : Nat → (Nat → Int32) × (Nat → Int32) × (Nat → Int32)
  | 0 => y0
  | n + 1 => st_X1_dig_2 x n (lp_X1_dig_2 x y0 n)
def f_X1_dig_x (x : zLand) : zLand := (x.1, (lp_X1_dig_2 x (x.2.1, x.2.2.2.1, x.2.2.2.2.1) 3).1, x.2.2.1, (lp_X1_dig_2 x (x.2.1, x.2.2.2.1, x.2.2.2.2.1) 3).2.1, (lp_X1_dig_2 x (x.2.1, x.2.2.2.1, x.2.2.2.2.1) 3).2.2, x.2.2.2.2.2.1, x.2.2.2.2.2.2.1, x.2.2.2.2.2.2.2.1, x.2.2.2.2.2.2.2.2.1, x.2.2.2.2.2.2.2.2.2.1, x.2.2.2.2.2.2.2.2.2.2.1, x.2.2.2.2.2.2.2.2.2.2.2.1, x.2.2.2.2.2.2.2.2.2.2.2.2.1, x.2.2.2.2.2.2.2.2.2.2.2.2.2)
abbrev po_X1_dig (G : zG) (h : Nat) (ad : Nat → Nat) (x : zLand) : Option Value → va_W → Prop := fun r u => r = none ∧ u = landW G h ad (f_X1_dig_x x)
set_option maxHeartbeats 4000000 in
set_option maxRecDepth 100000 in
theorem c_X1_dig (l : Launch) (G : zG) (h : Nat) (ad : Nat → Nat) (x : zLand) (hq : ∀ k, k < 3 → vp_in (x.2.2.2.2.2.1 k) 48) : zC l yX1_dig cX1_dig 2 none 0 0 0 G [.ref h] (landW G h ad x) (po_X1_dig G h ad x) := by
  refine zC.of RX1 rfl (by decide) (Nat.le_of_ble_eq_true rfl) ?_
  intro p e s m args below meth c A ls B hr hlk hnm hW hl
  have hx := B.x
  have hb := B.b
  have hl : lv_has ls 2 [(0, .ref h)] := hl
  refine lv_iconst (v := (0 : Int32)) hx hb dX1_dig_0 (by decide) ?_
  refine lv_istore_n hx hb dX1_dig_1 rfl hl (by decide) rfl (fun ls hl => ?_)
  have L_1 : ∀ i_2 : Nat, i_2 ≤ 3 → ∀ (H : Heap) (locs : List Loc) (ls : Array Slot), zW G A s.heap H locs (landW G h ad (x.1, (lp_X1_dig_2 x (x.2.1, x.2.2.2.1, x.2.2.2.2.1) i_2).1, x.2.2.1, (lp_X1_dig_2 x (x.2.1, x.2.2.2.1, x.2.2.2.2.1) i_2).2.1, (lp_X1_dig_2 x (x.2.1, x.2.2.2.1, x.2.2.2.2.1) i_2).2.2, x.2.2.2.2.2.1, x.2.2.2.2.2.2.1, x.2.2.2.2.2.2.2.1, x.2.2.2.2.2.2.2.2.1, x.2.2.2.2.2.2.2.2.2.1, x.2.2.2.2.2.2.2.2.2.2.1, x.2.2.2.2.2.2.2.2.2.2.2.1, x.2.2.2.2.2.2.2.2.2.2.2.2.1, x.2.2.2.2.2.2.2.2.2.2.2.2.2)) → lv_has ls 2 [(0, .ref h), (1, .int (nI i_2))] → W p l e (zRm 0 0 0) s m args below meth c H locs 0 0 (MQ below (zQ G A (po_X1_dig G h ad x)) args s 0 0 A) (F0 m 2 ls []) := by
    refine zloop 3 ?_ ?_
    · intro H locs ls hW hl
      have hl : lv_has ls 2 [(0, .ref h), (1, .int (3 : Int32))] := hl
      refine lv_iload_n hx hb dX1_dig_2 rfl (lv_at hl 1 rfl) ?_
      refine lv_iconst (v := (3 : Int32)) hx hb dX1_dig_3 (by decide) ?_
      refine lv_icmp_ge (tgt := 65) hx hb dX1_dig_4 (by decide) (fun c_4 => ?_) (fun c_4 => absurd (zge (by decide)) c_4)
      exact zvret B hr hlk hW ⟨rfl, rfl⟩ (Nat.le_refl _) (Nat.le_refl _) dX1_dig_65
    · intro i_2 hi_2 ih H locs ls hW hl
      refine lv_iload_n hx hb dX1_dig_2 rfl (lv_at hl 1 rfl) ?_
      refine lv_iconst (v := (3 : Int32)) hx hb dX1_dig_3 (by decide) ?_
      refine lv_icmp_ge (tgt := 65) hx hb dX1_dig_4 (by decide) (fun c_4 => absurd c_4 (znle (by decide) hi_2 (by decide))) (fun c_4 => ?_)
      refine lv_aload_n hx hb dX1_dig_7 rfl (lv_at hl 0 rfl) ?_
      refine zget B hW 0 rfl lf_X1_25 rfl dX1_dig_8 ?_
      refine lv_iload_n hx hb dX1_dig_11 rfl (lv_at hl 1 rfl) ?_
      refine zialdN B hW 5 rfl i_2 rfl (by omega) (by decide) dX1_dig_12 ?_
      have J_2 : ∀ (H : Heap) (locs : List Loc) (ls : Array Slot), zW G A s.heap H locs (landW G h ad (x.1, (if (((lp_X1_dig_2 x (x.2.1, x.2.2.2.1, x.2.2.2.2.1) i_2).2.2) i_2) ≤ (0 : Int32) then (lp_X1_dig_2 x (x.2.1, x.2.2.2.1, x.2.2.2.2.1) i_2).1 else (if ((upd ((lp_X1_dig_2 x (x.2.1, x.2.2.2.1, x.2.2.2.2.1) i_2).2.2) i_2 ((((lp_X1_dig_2 x (x.2.1, x.2.2.2.1, x.2.2.2.2.1) i_2).2.2) i_2) - (1 : Int32))) i_2) = (0 : Int32) then (upd ((lp_X1_dig_2 x (x.2.1, x.2.2.2.1, x.2.2.2.2.1) i_2).1) (x.2.2.2.2.2.1 i_2).toNatClampNeg (0 : Int32)) else (lp_X1_dig_2 x (x.2.1, x.2.2.2.1, x.2.2.2.2.1) i_2).1)), x.2.2.1, (if (((lp_X1_dig_2 x (x.2.1, x.2.2.2.1, x.2.2.2.2.1) i_2).2.2) i_2) ≤ (0 : Int32) then (lp_X1_dig_2 x (x.2.1, x.2.2.2.1, x.2.2.2.2.1) i_2).2.1 else (if ((upd ((lp_X1_dig_2 x (x.2.1, x.2.2.2.1, x.2.2.2.2.1) i_2).2.2) i_2 ((((lp_X1_dig_2 x (x.2.1, x.2.2.2.1, x.2.2.2.2.1) i_2).2.2) i_2) - (1 : Int32))) i_2) = (0 : Int32) then (upd ((lp_X1_dig_2 x (x.2.1, x.2.2.2.1, x.2.2.2.2.1) i_2).2.1) (x.2.2.2.2.2.1 i_2).toNatClampNeg (1 : Int32)) else (lp_X1_dig_2 x (x.2.1, x.2.2.2.1, x.2.2.2.2.1) i_2).2.1)), (if (((lp_X1_dig_2 x (x.2.1, x.2.2.2.1, x.2.2.2.2.1) i_2).2.2) i_2) ≤ (0 : Int32) then (lp_X1_dig_2 x (x.2.1, x.2.2.2.1, x.2.2.2.2.1) i_2).2.2 else (upd ((lp_X1_dig_2 x (x.2.1, x.2.2.2.1, x.2.2.2.2.1) i_2).2.2) i_2 ((((lp_X1_dig_2 x (x.2.1, x.2.2.2.1, x.2.2.2.2.1) i_2).2.2) i_2) - (1 : Int32)))), x.2.2.2.2.2.1, x.2.2.2.2.2.2.1, x.2.2.2.2.2.2.2.1, x.2.2.2.2.2.2.2.2.1, x.2.2.2.2.2.2.2.2.2.1, x.2.2.2.2.2.2.2.2.2.2.1, x.2.2.2.2.2.2.2.2.2.2.2.1, x.2.2.2.2.2.2.2.2.2.2.2.2.1, x.2.2.2.2.2.2.2.2.2.2.2.2.2)) → lv_has ls 2 [(0, .ref h), (1, .int (nI i_2))] → W p l e (zRm 0 0 0) s m args below meth c H locs 0 0 (MQ below (zQ G A (po_X1_dig G h ad x)) args s 0 0 A) (F0 m 59 ls []) := by
        intro H locs ls hW hl
        refine lv_iinc (v := (nI (i_2 + 1))) hx hb dX1_dig_59 hl (k := 1) rfl (nI_1 _) (by decide) rfl (fun ls hl => ?_)
        refine lv_goto (tgt := 2) hx hb dX1_dig_62 (by decide) ?_
        exact ih _ _ _ (hW.eq rfl) (lv_sub hl [1, 0] rfl)
      refine lv_if_le (tgt := 59) hx hb dX1_dig_13 (by decide) (fun c_13 => ?_) (fun c_13 => ?_)
      · have e_0 : (if (((lp_X1_dig_2 x (x.2.1, x.2.2.2.1, x.2.2.2.2.1) i_2).2.2) i_2) ≤ (0 : Int32) then (lp_X1_dig_2 x (x.2.1, x.2.2.2.1, x.2.2.2.2.1) i_2).1 else (if ((upd ((lp_X1_dig_2 x (x.2.1, x.2.2.2.1, x.2.2.2.2.1) i_2).2.2) i_2 ((((lp_X1_dig_2 x (x.2.1, x.2.2.2.1, x.2.2.2.2.1) i_2).2.2) i_2) - (1 : Int32))) i_2) = (0 : Int32) then (upd ((lp_X1_dig_2 x (x.2.1, x.2.2.2.1, x.2.2.2.2.1) i_2).1) (x.2.2.2.2.2.1 i_2).toNatClampNeg (0 : Int32)) else (lp_X1_dig_2 x (x.2.1, x.2.2.2.1, x.2.2.2.2.1) i_2).1)) = (lp_X1_dig_2 x (x.2.1, x.2.2.2.1, x.2.2.2.2.1) i_2).1 := if_pos c_13
        have e_1 : (if (((lp_X1_dig_2 x (x.2.1, x.2.2.2.1, x.2.2.2.2.1) i_2).2.2) i_2) ≤ (0 : Int32) then (lp_X1_dig_2 x (x.2.1, x.2.2.2.1, x.2.2.2.2.1) i_2).2.1 else (if ((upd ((lp_X1_dig_2 x (x.2.1, x.2.2.2.1, x.2.2.2.2.1) i_2).2.2) i_2 ((((lp_X1_dig_2 x (x.2.1, x.2.2.2.1, x.2.2.2.2.1) i_2).2.2) i_2) - (1 : Int32))) i_2) = (0 : Int32) then (upd ((lp_X1_dig_2 x (x.2.1, x.2.2.2.1, x.2.2.2.2.1) i_2).2.1) (x.2.2.2.2.2.1 i_2).toNatClampNeg (1 : Int32)) else (lp_X1_dig_2 x (x.2.1, x.2.2.2.1, x.2.2.2.2.1) i_2).2.1)) = (lp_X1_dig_2 x (x.2.1, x.2.2.2.1, x.2.2.2.2.1) i_2).2.1 := if_pos c_13
        have e_2 : (if (((lp_X1_dig_2 x (x.2.1, x.2.2.2.1, x.2.2.2.2.1) i_2).2.2) i_2) ≤ (0 : Int32) then (lp_X1_dig_2 x (x.2.1, x.2.2.2.1, x.2.2.2.2.1) i_2).2.2 else (upd ((lp_X1_dig_2 x (x.2.1, x.2.2.2.1, x.2.2.2.2.1) i_2).2.2) i_2 ((((lp_X1_dig_2 x (x.2.1, x.2.2.2.1, x.2.2.2.2.1) i_2).2.2) i_2) - (1 : Int32)))) = (lp_X1_dig_2 x (x.2.1, x.2.2.2.1, x.2.2.2.2.1) i_2).2.2 := if_pos c_13
        exact J_2 _ _ _ (hW.eq (by (try rw [e_0]) <;> (try rw [e_1]) <;> (try rw [e_2]) <;> rfl)) (by (try rw [e_0]) <;> (try rw [e_1]) <;> (try rw [e_2]) <;> exact lv_sub hl [0, 1] rfl)
      · refine lv_aload_n hx hb dX1_dig_16 rfl (lv_at hl 0 rfl) ?_
        refine zget B hW 0 rfl lf_X1_25 rfl dX1_dig_17 ?_
        refine lv_iload_n hx hb dX1_dig_20 rfl (lv_at hl 1 rfl) ?_
        refine lv_dup2_11 hx hb dX1_dig_21 rfl rfl ?_
        refine zialdN B hW 5 rfl i_2 rfl (by omega) (by decide) dX1_dig_22 ?_
        refine lv_iconst (v := (1 : Int32)) hx hb dX1_dig_23 (by decide) ?_
        refine lv_isub hx hb dX1_dig_24 ?_
        refine ziastN B hW 5 rfl i_2 rfl (by omega) (by decide) dX1_dig_25 (fun H locs hW => ?_)
        refine lv_aload_n hx hb dX1_dig_26 rfl (lv_at hl 0 rfl) ?_
        refine zget B hW 0 rfl lf_X1_25 rfl dX1_dig_27 ?_
        refine lv_iload_n hx hb dX1_dig_30 rfl (lv_at hl 1 rfl) ?_
        refine zialdN B hW 5 rfl i_2 rfl (by omega) (by decide) dX1_dig_31 ?_
        refine lv_if_ne (tgt := 59) hx hb dX1_dig_32 (by decide) (fun c_32 => ?_) (fun c_32 => ?_)
        · have e_0 : (if (((lp_X1_dig_2 x (x.2.1, x.2.2.2.1, x.2.2.2.2.1) i_2).2.2) i_2) ≤ (0 : Int32) then (lp_X1_dig_2 x (x.2.1, x.2.2.2.1, x.2.2.2.2.1) i_2).1 else (if ((upd ((lp_X1_dig_2 x (x.2.1, x.2.2.2.1, x.2.2.2.2.1) i_2).2.2) i_2 ((((lp_X1_dig_2 x (x.2.1, x.2.2.2.1, x.2.2.2.2.1) i_2).2.2) i_2) - (1 : Int32))) i_2) = (0 : Int32) then (upd ((lp_X1_dig_2 x (x.2.1, x.2.2.2.1, x.2.2.2.2.1) i_2).1) (x.2.2.2.2.2.1 i_2).toNatClampNeg (0 : Int32)) else (lp_X1_dig_2 x (x.2.1, x.2.2.2.1, x.2.2.2.2.1) i_2).1)) = (lp_X1_dig_2 x (x.2.1, x.2.2.2.1, x.2.2.2.2.1) i_2).1 := (if_neg c_13).trans (if_neg c_32)
          have e_1 : (if (((lp_X1_dig_2 x (x.2.1, x.2.2.2.1, x.2.2.2.2.1) i_2).2.2) i_2) ≤ (0 : Int32) then (lp_X1_dig_2 x (x.2.1, x.2.2.2.1, x.2.2.2.2.1) i_2).2.1 else (if ((upd ((lp_X1_dig_2 x (x.2.1, x.2.2.2.1, x.2.2.2.2.1) i_2).2.2) i_2 ((((lp_X1_dig_2 x (x.2.1, x.2.2.2.1, x.2.2.2.2.1) i_2).2.2) i_2) - (1 : Int32))) i_2) = (0 : Int32) then (upd ((lp_X1_dig_2 x (x.2.1, x.2.2.2.1, x.2.2.2.2.1) i_2).2.1) (x.2.2.2.2.2.1 i_2).toNatClampNeg (1 : Int32)) else (lp_X1_dig_2 x (x.2.1, x.2.2.2.1, x.2.2.2.2.1) i_2).2.1)) = (lp_X1_dig_2 x (x.2.1, x.2.2.2.1, x.2.2.2.2.1) i_2).2.1 := (if_neg c_13).trans (if_neg c_32)
          have e_2 : (if (((lp_X1_dig_2 x (x.2.1, x.2.2.2.1, x.2.2.2.2.1) i_2).2.2) i_2) ≤ (0 : Int32) then (lp_X1_dig_2 x (x.2.1, x.2.2.2.1, x.2.2.2.2.1) i_2).2.2 else (upd ((lp_X1_dig_2 x (x.2.1, x.2.2.2.1, x.2.2.2.2.1) i_2).2.2) i_2 ((((lp_X1_dig_2 x (x.2.1, x.2.2.2.1, x.2.2.2.2.1) i_2).2.2) i_2) - (1 : Int32)))) = (upd ((lp_X1_dig_2 x (x.2.1, x.2.2.2.1, x.2.2.2.2.1) i_2).2.2) i_2 ((((lp_X1_dig_2 x (x.2.1, x.2.2.2.1, x.2.2.2.2.1) i_2).2.2) i_2) - (1 : Int32))) := if_neg c_13
          exact J_2 _ _ _ (hW.eq (by (try rw [e_0]) <;> (try rw [e_1]) <;> (try rw [e_2]) <;> rfl)) (by (try rw [e_0]) <;> (try rw [e_1]) <;> (try rw [e_2]) <;> exact lv_sub hl [0, 1] rfl)
        · refine lv_aload_n hx hb dX1_dig_35 rfl (lv_at hl 0 rfl) ?_
          refine zget B hW 0 rfl lf_X1_21 rfl dX1_dig_36 ?_
          refine lv_aload_n hx hb dX1_dig_39 rfl (lv_at hl 0 rfl) ?_
          refine zget B hW 0 rfl lf_X1_28 rfl dX1_dig_40 ?_
          refine lv_iload_n hx hb dX1_dig_43 rfl (lv_at hl 1 rfl) ?_
          refine zialdN B hW 6 rfl i_2 rfl (by omega) (by decide) dX1_dig_44 ?_
          refine lv_iconst (v := (1 : Int32)) hx hb dX1_dig_45 (by decide) ?_
          refine zzast B hW 4 rfl (by decide) (hq _ hi_2) dX1_dig_46 (fun H locs hW => ?_)
          refine lv_aload_n hx hb dX1_dig_47 rfl (lv_at hl 0 rfl) ?_
          refine zget B hW 0 rfl lf_X1_15 rfl dX1_dig_48 ?_
          refine lv_aload_n hx hb dX1_dig_51 rfl (lv_at hl 0 rfl) ?_
          refine zget B hW 0 rfl lf_X1_28 rfl dX1_dig_52 ?_
          refine lv_iload_n hx hb dX1_dig_55 rfl (lv_at hl 1 rfl) ?_
          refine zialdN B hW 6 rfl i_2 rfl (by omega) (by decide) dX1_dig_56 ?_
          refine lv_iconst (v := (0 : Int32)) hx hb dX1_dig_57 (by decide) ?_
          refine ziast B hW 2 rfl (hq _ hi_2) dX1_dig_58 (fun H locs hW => ?_)
          have e_0 : (if (((lp_X1_dig_2 x (x.2.1, x.2.2.2.1, x.2.2.2.2.1) i_2).2.2) i_2) ≤ (0 : Int32) then (lp_X1_dig_2 x (x.2.1, x.2.2.2.1, x.2.2.2.2.1) i_2).1 else (if ((upd ((lp_X1_dig_2 x (x.2.1, x.2.2.2.1, x.2.2.2.2.1) i_2).2.2) i_2 ((((lp_X1_dig_2 x (x.2.1, x.2.2.2.1, x.2.2.2.2.1) i_2).2.2) i_2) - (1 : Int32))) i_2) = (0 : Int32) then (upd ((lp_X1_dig_2 x (x.2.1, x.2.2.2.1, x.2.2.2.2.1) i_2).1) (x.2.2.2.2.2.1 i_2).toNatClampNeg (0 : Int32)) else (lp_X1_dig_2 x (x.2.1, x.2.2.2.1, x.2.2.2.2.1) i_2).1)) = (upd ((lp_X1_dig_2 x (x.2.1, x.2.2.2.1, x.2.2.2.2.1) i_2).1) (x.2.2.2.2.2.1 i_2).toNatClampNeg (0 : Int32)) := (if_neg c_13).trans (if_pos c_32)
          have e_1 : (if (((lp_X1_dig_2 x (x.2.1, x.2.2.2.1, x.2.2.2.2.1) i_2).2.2) i_2) ≤ (0 : Int32) then (lp_X1_dig_2 x (x.2.1, x.2.2.2.1, x.2.2.2.2.1) i_2).2.1 else (if ((upd ((lp_X1_dig_2 x (x.2.1, x.2.2.2.1, x.2.2.2.2.1) i_2).2.2) i_2 ((((lp_X1_dig_2 x (x.2.1, x.2.2.2.1, x.2.2.2.2.1) i_2).2.2) i_2) - (1 : Int32))) i_2) = (0 : Int32) then (upd ((lp_X1_dig_2 x (x.2.1, x.2.2.2.1, x.2.2.2.2.1) i_2).2.1) (x.2.2.2.2.2.1 i_2).toNatClampNeg (1 : Int32)) else (lp_X1_dig_2 x (x.2.1, x.2.2.2.1, x.2.2.2.2.1) i_2).2.1)) = (upd ((lp_X1_dig_2 x (x.2.1, x.2.2.2.1, x.2.2.2.2.1) i_2).2.1) (x.2.2.2.2.2.1 i_2).toNatClampNeg (1 : Int32)) := (if_neg c_13).trans (if_pos c_32)
          have e_2 : (if (((lp_X1_dig_2 x (x.2.1, x.2.2.2.1, x.2.2.2.2.1) i_2).2.2) i_2) ≤ (0 : Int32) then (lp_X1_dig_2 x (x.2.1, x.2.2.2.1, x.2.2.2.2.1) i_2).2.2 else (upd ((lp_X1_dig_2 x (x.2.1, x.2.2.2.1, x.2.2.2.2.1) i_2).2.2) i_2 ((((lp_X1_dig_2 x (x.2.1, x.2.2.2.1, x.2.2.2.2.1) i_2).2.2) i_2) - (1 : Int32)))) = (upd ((lp_X1_dig_2 x (x.2.1, x.2.2.2.1, x.2.2.2.2.1) i_2).2.2) i_2 ((((lp_X1_dig_2 x (x.2.1, x.2.2.2.1, x.2.2.2.2.1) i_2).2.2) i_2) - (1 : Int32))) := if_neg c_13
          exact J_2 _ _ _ (hW.eq (by (try rw [e_0]) <;> (try rw [e_1]) <;> (try rw [e_2]) <;> rfl)) (by (try rw [e_0]) <;> (try rw [e_1]) <;> (try rw [e_2]) <;> exact lv_sub hl [0, 1] rfl)
  exact L_1 0 (Nat.zero_le _) _ _ _ (hW.eq rfl) (lv_sub hl [1, 0] rfl)
def st_X1_burn_9 (x : zLand) (i_9 : Nat) (y : (Nat → Int32) × (Nat → Int32) × (Nat → Int32) × Int64) : (Nat → Int32) × (Nat → Int32) × (Nat → Int32) × Int64 := ((upd y.1 i_9 ((y.1 i_9) - (if (y.1 i_9) ≤ (y.2.1 i_9) then (y.1 i_9) else (y.2.1 i_9)))), (upd y.2.1 i_9 (if ((upd y.1 i_9 ((y.1 i_9) - (if (y.1 i_9) ≤ (y.2.1 i_9) then (y.1 i_9) else (y.2.1 i_9)))) i_9) = (0 : Int32) then (0 : Int32) else (if (x.2.2.2.2.2.2.2.2.2.2.1 / (3 : Int32)) ≤ (y.2.1 i_9) then ((y.2.1 i_9) - (x.2.2.2.2.2.2.2.2.2.2.1 / (3 : Int32))) else (0 : Int32)))), (upd y.2.2.1 i_9 ((y.2.2.1 i_9) + ((if (y.1 i_9) ≤ (y.2.1 i_9) then (y.1 i_9) else (y.2.1 i_9)) * (10 : Int32)))), (y.2.2.2 + ((if (y.1 i_9) ≤ (y.2.1 i_9) then (y.1 i_9) else (y.2.1 i_9)) * (10 : Int32)).toInt64))
def lp_X1_burn_9 (x : zLand) (y0 : (Nat → Int32) × (Nat → Int32) × (Nat → Int32) × Int64) : Nat → (Nat → Int32) × (Nat → Int32) × (Nat → Int32) × Int64
  | 0 => y0
  | n + 1 => st_X1_burn_9 x n (lp_X1_burn_9 x y0 n)
def f_X1_burn_x (x : zLand) : zLand := ((lp_X1_burn_9 x (x.1, x.2.1, x.2.2.1, x.2.2.2.2.2.2.2.2.2.2.2.1) 48).1, (lp_X1_burn_9 x (x.1, x.2.1, x.2.2.1, x.2.2.2.2.2.2.2.2.2.2.2.1) 48).2.1, (lp_X1_burn_9 x (x.1, x.2.1, x.2.2.1, x.2.2.2.2.2.2.2.2.2.2.2.1) 48).2.2.1, x.2.2.2.1, x.2.2.2.2.1, x.2.2.2.2.2.1, x.2.2.2.2.2.2.1, x.2.2.2.2.2.2.2.1, x.2.2.2.2.2.2.2.2.1, x.2.2.2.2.2.2.2.2.2.1, x.2.2.2.2.2.2.2.2.2.2.1, (lp_X1_burn_9 x (x.1, x.2.1, x.2.2.1, x.2.2.2.2.2.2.2.2.2.2.2.1) 48).2.2.2, x.2.2.2.2.2.2.2.2.2.2.2.2.1, x.2.2.2.2.2.2.2.2.2.2.2.2.2)
abbrev po_X1_burn (G : zG) (h : Nat) (ad : Nat → Nat) (x : zLand) : Option Value → va_W → Prop := fun r u => r = none ∧ u = landW G h ad (f_X1_burn_x x)
set_option maxHeartbeats 4000000 in
set_option maxRecDepth 100000 in
theorem c_X1_burn (l : Launch) (G : zG) (h : Nat) (ad : Nat → Nat) (x : zLand) : zC l yX1_burn cX1_burn 4 none 0 0 0 G [.ref h] (landW G h ad x) (po_X1_burn G h ad x) := by
  refine zC.of RX1 rfl (by decide) (Nat.le_of_ble_eq_true rfl) ?_
  intro p e s m args below meth c A ls B hr hlk hnm hW hl
  have hx := B.x
  have hb := B.b
  have hl : lv_has ls 4 [(0, .ref h)] := hl
  refine lv_aload_n hx hb dX1_burn_0 rfl (lv_at hl 0 rfl) ?_
  refine zget B hW 0 rfl lf_X1_44 rfl dX1_burn_1 ?_
  refine lv_iconst (v := (3 : Int32)) hx hb dX1_burn_4 (by decide) ?_
  refine lv_idiv hx hb dX1_burn_5 (by decide) ?_
  refine lv_istore_n hx hb dX1_burn_6 rfl hl (by decide) rfl (fun ls hl => ?_)
  refine lv_iconst (v := (0 : Int32)) hx hb dX1_burn_7 (by decide) ?_
  refine lv_istore_n hx hb dX1_burn_8 rfl hl (by decide) rfl (fun ls hl => ?_)
  have L_1 : ∀ i_9 : Nat, i_9 ≤ 48 → ∀ (H : Heap) (locs : List Loc) (ls : Array Slot), zW G A s.heap H locs (landW G h ad ((lp_X1_burn_9 x (x.1, x.2.1, x.2.2.1, x.2.2.2.2.2.2.2.2.2.2.2.1) i_9).1, (lp_X1_burn_9 x (x.1, x.2.1, x.2.2.1, x.2.2.2.2.2.2.2.2.2.2.2.1) i_9).2.1, (lp_X1_burn_9 x (x.1, x.2.1, x.2.2.1, x.2.2.2.2.2.2.2.2.2.2.2.1) i_9).2.2.1, x.2.2.2.1, x.2.2.2.2.1, x.2.2.2.2.2.1, x.2.2.2.2.2.2.1, x.2.2.2.2.2.2.2.1, x.2.2.2.2.2.2.2.2.1, x.2.2.2.2.2.2.2.2.2.1, x.2.2.2.2.2.2.2.2.2.2.1, (lp_X1_burn_9 x (x.1, x.2.1, x.2.2.1, x.2.2.2.2.2.2.2.2.2.2.2.1) i_9).2.2.2, x.2.2.2.2.2.2.2.2.2.2.2.2.1, x.2.2.2.2.2.2.2.2.2.2.2.2.2)) → lv_has ls 4 [(0, .ref h), (1, .int (x.2.2.2.2.2.2.2.2.2.2.1 / (3 : Int32))), (2, .int (nI i_9))] → W p l e (zRm 0 0 0) s m args below meth c H locs 0 0 (MQ below (zQ G A (po_X1_burn G h ad x)) args s 0 0 A) (F0 m 9 ls []) := by
    refine zloop 48 ?_ ?_
    · intro H locs ls hW hl
      have hl : lv_has ls 4 [(0, .ref h), (1, .int (x.2.2.2.2.2.2.2.2.2.2.1 / (3 : Int32))), (2, .int (48 : Int32))] := hl
      refine lv_iload_n hx hb dX1_burn_9 rfl (lv_at hl 2 rfl) ?_
      refine lv_bipush (v := (48 : Int32)) hx hb dX1_burn_10 (by decide) ?_
      refine lv_icmp_ge (tgt := 126) hx hb dX1_burn_12 (by decide) (fun c_12 => ?_) (fun c_12 => absurd (zge (by decide)) c_12)
      exact zvret B hr hlk hW ⟨rfl, rfl⟩ (Nat.le_refl _) (Nat.le_refl _) dX1_burn_126
    · intro i_9 hi_9 ih H locs ls hW hl
      refine lv_iload_n hx hb dX1_burn_9 rfl (lv_at hl 2 rfl) ?_
      refine lv_bipush (v := (48 : Int32)) hx hb dX1_burn_10 (by decide) ?_
      refine lv_icmp_ge (tgt := 126) hx hb dX1_burn_12 (by decide) (fun c_12 => absurd c_12 (znle (by decide) hi_9 (by decide))) (fun c_12 => ?_)
      refine lv_aload_n hx hb dX1_burn_15 rfl (lv_at hl 0 rfl) ?_
      refine zget B hW 0 rfl lf_X1_15 rfl dX1_burn_16 ?_
      refine lv_iload_n hx hb dX1_burn_19 rfl (lv_at hl 2 rfl) ?_
      refine zialdN B hW 2 rfl i_9 rfl (by omega) (by decide) dX1_burn_20 ?_
      refine lv_aload_n hx hb dX1_burn_21 rfl (lv_at hl 0 rfl) ?_
      refine zget B hW 0 rfl lf_X1_9 rfl dX1_burn_22 ?_
      refine lv_iload_n hx hb dX1_burn_25 rfl (lv_at hl 2 rfl) ?_
      refine zialdN B hW 1 rfl i_9 rfl (by omega) (by decide) dX1_burn_26 ?_
      have J_2 : ∀ (H : Heap) (locs : List Loc) (ls : Array Slot), zW G A s.heap H locs (landW G h ad ((lp_X1_burn_9 x (x.1, x.2.1, x.2.2.1, x.2.2.2.2.2.2.2.2.2.2.2.1) i_9).1, (lp_X1_burn_9 x (x.1, x.2.1, x.2.2.1, x.2.2.2.2.2.2.2.2.2.2.2.1) i_9).2.1, (lp_X1_burn_9 x (x.1, x.2.1, x.2.2.1, x.2.2.2.2.2.2.2.2.2.2.2.1) i_9).2.2.1, x.2.2.2.1, x.2.2.2.2.1, x.2.2.2.2.2.1, x.2.2.2.2.2.2.1, x.2.2.2.2.2.2.2.1, x.2.2.2.2.2.2.2.2.1, x.2.2.2.2.2.2.2.2.2.1, x.2.2.2.2.2.2.2.2.2.2.1, (lp_X1_burn_9 x (x.1, x.2.1, x.2.2.1, x.2.2.2.2.2.2.2.2.2.2.2.1) i_9).2.2.2, x.2.2.2.2.2.2.2.2.2.2.2.2.1, x.2.2.2.2.2.2.2.2.2.2.2.2.2)) → lv_has ls 4 [(0, .ref h), (1, .int (x.2.2.2.2.2.2.2.2.2.2.1 / (3 : Int32))), (2, .int (nI i_9))] → W p l e (zRm 0 0 0) s m args below meth c H locs 0 0 (MQ below (zQ G A (po_X1_burn G h ad x)) args s 0 0 A) (F0 m 45 ls [.int (if (((lp_X1_burn_9 x (x.1, x.2.1, x.2.2.1, x.2.2.2.2.2.2.2.2.2.2.2.1) i_9).1) i_9) ≤ (((lp_X1_burn_9 x (x.1, x.2.1, x.2.2.1, x.2.2.2.2.2.2.2.2.2.2.2.1) i_9).2.1) i_9) then (((lp_X1_burn_9 x (x.1, x.2.1, x.2.2.1, x.2.2.2.2.2.2.2.2.2.2.2.1) i_9).1) i_9) else (((lp_X1_burn_9 x (x.1, x.2.1, x.2.2.1, x.2.2.2.2.2.2.2.2.2.2.2.1) i_9).2.1) i_9))]) := by
        intro H locs ls hW hl
        refine lv_istore_n hx hb dX1_burn_45 rfl hl (by decide) rfl (fun ls hl => ?_)
        refine lv_aload_n hx hb dX1_burn_46 rfl (lv_at hl 1 rfl) ?_
        refine zget B hW 0 rfl lf_X1_9 rfl dX1_burn_47 ?_
        refine lv_iload_n hx hb dX1_burn_50 rfl (lv_at hl 3 rfl) ?_
        refine lv_dup2_11 hx hb dX1_burn_51 rfl rfl ?_
        refine zialdN B hW 1 rfl i_9 rfl (by omega) (by decide) dX1_burn_52 ?_
        refine lv_iload_n hx hb dX1_burn_53 rfl (lv_at hl 0 rfl) ?_
        refine lv_isub hx hb dX1_burn_54 ?_
        refine ziastN B hW 1 rfl i_9 rfl (by omega) (by decide) dX1_burn_55 (fun H locs hW => ?_)
        refine lv_aload_n hx hb dX1_burn_56 rfl (lv_at hl 1 rfl) ?_
        refine zget B hW 0 rfl lf_X1_18 rfl dX1_burn_57 ?_
        refine lv_iload_n hx hb dX1_burn_60 rfl (lv_at hl 3 rfl) ?_
        refine lv_dup2_11 hx hb dX1_burn_61 rfl rfl ?_
        refine zialdN B hW 3 rfl i_9 rfl (by omega) (by decide) dX1_burn_62 ?_
        refine lv_iload_n hx hb dX1_burn_63 rfl (lv_at hl 0 rfl) ?_
        refine lv_bipush (v := (10 : Int32)) hx hb dX1_burn_64 (by decide) ?_
        refine lv_imul hx hb dX1_burn_66 ?_
        refine lv_iadd hx hb dX1_burn_67 ?_
        refine ziastN B hW 3 rfl i_9 rfl (by omega) (by decide) dX1_burn_68 (fun H locs hW => ?_)
        refine lv_aload_n hx hb dX1_burn_69 rfl (lv_at hl 1 rfl) ?_
        refine lv_dup hx hb dX1_burn_70 rfl ?_
        refine zget B hW 0 rfl lf_X1_47 rfl dX1_burn_71 ?_
        refine lv_iload_n hx hb dX1_burn_74 rfl (lv_at hl 0 rfl) ?_
        refine lv_bipush (v := (10 : Int32)) hx hb dX1_burn_75 (by decide) ?_
        refine lv_imul hx hb dX1_burn_77 ?_
        refine lv_i2l hx hb dX1_burn_78 rfl ?_
        refine lv_ladd hx hb dX1_burn_79 ?_
        refine zput B hW 0 rfl lf_X1_47 ft_X1_11 rfl rfl (Nat.le_of_ble_eq_true rfl) dX1_burn_80 (fun H locs hW => ?_)
        refine lv_aload_n hx hb dX1_burn_83 rfl (lv_at hl 1 rfl) ?_
        refine zget B hW 0 rfl lf_X1_15 rfl dX1_burn_84 ?_
        refine lv_iload_n hx hb dX1_burn_87 rfl (lv_at hl 3 rfl) ?_
        refine lv_aload_n hx hb dX1_burn_88 rfl (lv_at hl 1 rfl) ?_
        refine zget B hW 0 rfl lf_X1_9 rfl dX1_burn_89 ?_
        refine lv_iload_n hx hb dX1_burn_92 rfl (lv_at hl 3 rfl) ?_
        refine zialdN B hW 1 rfl i_9 rfl (by omega) (by decide) dX1_burn_93 ?_
        have J_3 : ∀ (H : Heap) (locs : List Loc) (ls : Array Slot), zW G A s.heap H locs (landW G h ad ((upd ((lp_X1_burn_9 x (x.1, x.2.1, x.2.2.1, x.2.2.2.2.2.2.2.2.2.2.2.1) i_9).1) i_9 ((((lp_X1_burn_9 x (x.1, x.2.1, x.2.2.1, x.2.2.2.2.2.2.2.2.2.2.2.1) i_9).1) i_9) - (if (((lp_X1_burn_9 x (x.1, x.2.1, x.2.2.1, x.2.2.2.2.2.2.2.2.2.2.2.1) i_9).1) i_9) ≤ (((lp_X1_burn_9 x (x.1, x.2.1, x.2.2.1, x.2.2.2.2.2.2.2.2.2.2.2.1) i_9).2.1) i_9) then (((lp_X1_burn_9 x (x.1, x.2.1, x.2.2.1, x.2.2.2.2.2.2.2.2.2.2.2.1) i_9).1) i_9) else (((lp_X1_burn_9 x (x.1, x.2.1, x.2.2.1, x.2.2.2.2.2.2.2.2.2.2.2.1) i_9).2.1) i_9)))), (lp_X1_burn_9 x (x.1, x.2.1, x.2.2.1, x.2.2.2.2.2.2.2.2.2.2.2.1) i_9).2.1, (upd ((lp_X1_burn_9 x (x.1, x.2.1, x.2.2.1, x.2.2.2.2.2.2.2.2.2.2.2.1) i_9).2.2.1) i_9 ((((lp_X1_burn_9 x (x.1, x.2.1, x.2.2.1, x.2.2.2.2.2.2.2.2.2.2.2.1) i_9).2.2.1) i_9) + ((if (((lp_X1_burn_9 x (x.1, x.2.1, x.2.2.1, x.2.2.2.2.2.2.2.2.2.2.2.1) i_9).1) i_9) ≤ (((lp_X1_burn_9 x (x.1, x.2.1, x.2.2.1, x.2.2.2.2.2.2.2.2.2.2.2.1) i_9).2.1) i_9) then (((lp_X1_burn_9 x (x.1, x.2.1, x.2.2.1, x.2.2.2.2.2.2.2.2.2.2.2.1) i_9).1) i_9) else (((lp_X1_burn_9 x (x.1, x.2.1, x.2.2.1, x.2.2.2.2.2.2.2.2.2.2.2.1) i_9).2.1) i_9)) * (10 : Int32)))), x.2.2.2.1, x.2.2.2.2.1, x.2.2.2.2.2.1, x.2.2.2.2.2.2.1, x.2.2.2.2.2.2.2.1, x.2.2.2.2.2.2.2.2.1, x.2.2.2.2.2.2.2.2.2.1, x.2.2.2.2.2.2.2.2.2.2.1, ((lp_X1_burn_9 x (x.1, x.2.1, x.2.2.1, x.2.2.2.2.2.2.2.2.2.2.2.1) i_9).2.2.2 + ((if (((lp_X1_burn_9 x (x.1, x.2.1, x.2.2.1, x.2.2.2.2.2.2.2.2.2.2.2.1) i_9).1) i_9) ≤ (((lp_X1_burn_9 x (x.1, x.2.1, x.2.2.1, x.2.2.2.2.2.2.2.2.2.2.2.1) i_9).2.1) i_9) then (((lp_X1_burn_9 x (x.1, x.2.1, x.2.2.1, x.2.2.2.2.2.2.2.2.2.2.2.1) i_9).1) i_9) else (((lp_X1_burn_9 x (x.1, x.2.1, x.2.2.1, x.2.2.2.2.2.2.2.2.2.2.2.1) i_9).2.1) i_9)) * (10 : Int32)).toInt64), x.2.2.2.2.2.2.2.2.2.2.2.2.1, x.2.2.2.2.2.2.2.2.2.2.2.2.2)) → lv_has ls 4 [(0, .ref h), (1, .int (x.2.2.2.2.2.2.2.2.2.2.1 / (3 : Int32))), (2, .int (nI i_9))] → W p l e (zRm 0 0 0) s m args below meth c H locs 0 0 (MQ below (zQ G A (po_X1_burn G h ad x)) args s 0 0 A) (F0 m 119 ls [.int (if ((upd ((lp_X1_burn_9 x (x.1, x.2.1, x.2.2.1, x.2.2.2.2.2.2.2.2.2.2.2.1) i_9).1) i_9 ((((lp_X1_burn_9 x (x.1, x.2.1, x.2.2.1, x.2.2.2.2.2.2.2.2.2.2.2.1) i_9).1) i_9) - (if (((lp_X1_burn_9 x (x.1, x.2.1, x.2.2.1, x.2.2.2.2.2.2.2.2.2.2.2.1) i_9).1) i_9) ≤ (((lp_X1_burn_9 x (x.1, x.2.1, x.2.2.1, x.2.2.2.2.2.2.2.2.2.2.2.1) i_9).2.1) i_9) then (((lp_X1_burn_9 x (x.1, x.2.1, x.2.2.1, x.2.2.2.2.2.2.2.2.2.2.2.1) i_9).1) i_9) else (((lp_X1_burn_9 x (x.1, x.2.1, x.2.2.1, x.2.2.2.2.2.2.2.2.2.2.2.1) i_9).2.1) i_9)))) i_9) = (0 : Int32) then (0 : Int32) else (if (x.2.2.2.2.2.2.2.2.2.2.1 / (3 : Int32)) ≤ (((lp_X1_burn_9 x (x.1, x.2.1, x.2.2.1, x.2.2.2.2.2.2.2.2.2.2.2.1) i_9).2.1) i_9) then ((((lp_X1_burn_9 x (x.1, x.2.1, x.2.2.1, x.2.2.2.2.2.2.2.2.2.2.2.1) i_9).2.1) i_9) - (x.2.2.2.2.2.2.2.2.2.2.1 / (3 : Int32))) else (0 : Int32))), .int (nI i_9), .ref (ad 1)]) := by
          intro H locs ls hW hl
          refine ziastN B hW 2 rfl i_9 rfl (by omega) (by decide) dX1_burn_119 (fun H locs hW => ?_)
          refine lv_iinc (v := (nI (i_9 + 1))) hx hb dX1_burn_120 hl (k := 2) rfl (nI_1 _) (by decide) rfl (fun ls hl => ?_)
          refine lv_goto (tgt := 9) hx hb dX1_burn_123 (by decide) ?_
          exact ih _ _ _ (hW.eq rfl) (lv_sub hl [1, 2, 0] rfl)
        refine lv_if_eq (tgt := 107) hx hb dX1_burn_94 (by decide) (fun c_94 => ?_) (fun c_94 => ?_)
        · refine lv_iconst (v := (0 : Int32)) hx hb dX1_burn_107 (by decide) ?_
          refine lv_goto (tgt := 119) hx hb dX1_burn_108 (by decide) ?_
          have e_0 : (if ((upd ((lp_X1_burn_9 x (x.1, x.2.1, x.2.2.1, x.2.2.2.2.2.2.2.2.2.2.2.1) i_9).1) i_9 ((((lp_X1_burn_9 x (x.1, x.2.1, x.2.2.1, x.2.2.2.2.2.2.2.2.2.2.2.1) i_9).1) i_9) - (if (((lp_X1_burn_9 x (x.1, x.2.1, x.2.2.1, x.2.2.2.2.2.2.2.2.2.2.2.1) i_9).1) i_9) ≤ (((lp_X1_burn_9 x (x.1, x.2.1, x.2.2.1, x.2.2.2.2.2.2.2.2.2.2.2.1) i_9).2.1) i_9) then (((lp_X1_burn_9 x (x.1, x.2.1, x.2.2.1, x.2.2.2.2.2.2.2.2.2.2.2.1) i_9).1) i_9) else (((lp_X1_burn_9 x (x.1, x.2.1, x.2.2.1, x.2.2.2.2.2.2.2.2.2.2.2.1) i_9).2.1) i_9)))) i_9) = (0 : Int32) then (0 : Int32) else (if (x.2.2.2.2.2.2.2.2.2.2.1 / (3 : Int32)) ≤ (((lp_X1_burn_9 x (x.1, x.2.1, x.2.2.1, x.2.2.2.2.2.2.2.2.2.2.2.1) i_9).2.1) i_9) then ((((lp_X1_burn_9 x (x.1, x.2.1, x.2.2.1, x.2.2.2.2.2.2.2.2.2.2.2.1) i_9).2.1) i_9) - (x.2.2.2.2.2.2.2.2.2.2.1 / (3 : Int32))) else (0 : Int32))) = (0 : Int32) := if_pos c_94
          refine W.eq (g2 := F0 m 119 ls [.int (if ((upd ((lp_X1_burn_9 x (x.1, x.2.1, x.2.2.1, x.2.2.2.2.2.2.2.2.2.2.2.1) i_9).1) i_9 ((((lp_X1_burn_9 x (x.1, x.2.1, x.2.2.1, x.2.2.2.2.2.2.2.2.2.2.2.1) i_9).1) i_9) - (if (((lp_X1_burn_9 x (x.1, x.2.1, x.2.2.1, x.2.2.2.2.2.2.2.2.2.2.2.1) i_9).1) i_9) ≤ (((lp_X1_burn_9 x (x.1, x.2.1, x.2.2.1, x.2.2.2.2.2.2.2.2.2.2.2.1) i_9).2.1) i_9) then (((lp_X1_burn_9 x (x.1, x.2.1, x.2.2.1, x.2.2.2.2.2.2.2.2.2.2.2.1) i_9).1) i_9) else (((lp_X1_burn_9 x (x.1, x.2.1, x.2.2.1, x.2.2.2.2.2.2.2.2.2.2.2.1) i_9).2.1) i_9)))) i_9) = (0 : Int32) then (0 : Int32) else (if (x.2.2.2.2.2.2.2.2.2.2.1 / (3 : Int32)) ≤ (((lp_X1_burn_9 x (x.1, x.2.1, x.2.2.1, x.2.2.2.2.2.2.2.2.2.2.2.1) i_9).2.1) i_9) then ((((lp_X1_burn_9 x (x.1, x.2.1, x.2.2.1, x.2.2.2.2.2.2.2.2.2.2.2.1) i_9).2.1) i_9) - (x.2.2.2.2.2.2.2.2.2.2.1 / (3 : Int32))) else (0 : Int32))), .int (nI i_9), .ref (ad 1)]) (by (try rw [e_0]) <;> rfl) ?_
          exact J_3 _ _ _ (hW.eq (by (try rw [e_0]) <;> rfl)) (by (try rw [e_0]) <;> exact lv_sub hl [1, 2, 3] rfl)
        · refine lv_aload_n hx hb dX1_burn_97 rfl (lv_at hl 1 rfl) ?_
          refine zget B hW 0 rfl lf_X1_15 rfl dX1_burn_98 ?_
          refine lv_iload_n hx hb dX1_burn_101 rfl (lv_at hl 3 rfl) ?_
          refine zialdN B hW 2 rfl i_9 rfl (by omega) (by decide) dX1_burn_102 ?_
          refine lv_iload_n hx hb dX1_burn_103 rfl (lv_at hl 2 rfl) ?_
          refine lv_icmp_ge (tgt := 111) hx hb dX1_burn_104 (by decide) (fun c_104 => ?_) (fun c_104 => ?_)
          · refine lv_aload_n hx hb dX1_burn_111 rfl (lv_at hl 1 rfl) ?_
            refine zget B hW 0 rfl lf_X1_15 rfl dX1_burn_112 ?_
            refine lv_iload_n hx hb dX1_burn_115 rfl (lv_at hl 3 rfl) ?_
            refine zialdN B hW 2 rfl i_9 rfl (by omega) (by decide) dX1_burn_116 ?_
            refine lv_iload_n hx hb dX1_burn_117 rfl (lv_at hl 2 rfl) ?_
            refine lv_isub hx hb dX1_burn_118 ?_
            have e_0 : (if ((upd ((lp_X1_burn_9 x (x.1, x.2.1, x.2.2.1, x.2.2.2.2.2.2.2.2.2.2.2.1) i_9).1) i_9 ((((lp_X1_burn_9 x (x.1, x.2.1, x.2.2.1, x.2.2.2.2.2.2.2.2.2.2.2.1) i_9).1) i_9) - (if (((lp_X1_burn_9 x (x.1, x.2.1, x.2.2.1, x.2.2.2.2.2.2.2.2.2.2.2.1) i_9).1) i_9) ≤ (((lp_X1_burn_9 x (x.1, x.2.1, x.2.2.1, x.2.2.2.2.2.2.2.2.2.2.2.1) i_9).2.1) i_9) then (((lp_X1_burn_9 x (x.1, x.2.1, x.2.2.1, x.2.2.2.2.2.2.2.2.2.2.2.1) i_9).1) i_9) else (((lp_X1_burn_9 x (x.1, x.2.1, x.2.2.1, x.2.2.2.2.2.2.2.2.2.2.2.1) i_9).2.1) i_9)))) i_9) = (0 : Int32) then (0 : Int32) else (if (x.2.2.2.2.2.2.2.2.2.2.1 / (3 : Int32)) ≤ (((lp_X1_burn_9 x (x.1, x.2.1, x.2.2.1, x.2.2.2.2.2.2.2.2.2.2.2.1) i_9).2.1) i_9) then ((((lp_X1_burn_9 x (x.1, x.2.1, x.2.2.1, x.2.2.2.2.2.2.2.2.2.2.2.1) i_9).2.1) i_9) - (x.2.2.2.2.2.2.2.2.2.2.1 / (3 : Int32))) else (0 : Int32))) = ((((lp_X1_burn_9 x (x.1, x.2.1, x.2.2.1, x.2.2.2.2.2.2.2.2.2.2.2.1) i_9).2.1) i_9) - (x.2.2.2.2.2.2.2.2.2.2.1 / (3 : Int32))) := (if_neg c_94).trans (if_pos c_104)
            refine W.eq (g2 := F0 m 119 ls [.int (if ((upd ((lp_X1_burn_9 x (x.1, x.2.1, x.2.2.1, x.2.2.2.2.2.2.2.2.2.2.2.1) i_9).1) i_9 ((((lp_X1_burn_9 x (x.1, x.2.1, x.2.2.1, x.2.2.2.2.2.2.2.2.2.2.2.1) i_9).1) i_9) - (if (((lp_X1_burn_9 x (x.1, x.2.1, x.2.2.1, x.2.2.2.2.2.2.2.2.2.2.2.1) i_9).1) i_9) ≤ (((lp_X1_burn_9 x (x.1, x.2.1, x.2.2.1, x.2.2.2.2.2.2.2.2.2.2.2.1) i_9).2.1) i_9) then (((lp_X1_burn_9 x (x.1, x.2.1, x.2.2.1, x.2.2.2.2.2.2.2.2.2.2.2.1) i_9).1) i_9) else (((lp_X1_burn_9 x (x.1, x.2.1, x.2.2.1, x.2.2.2.2.2.2.2.2.2.2.2.1) i_9).2.1) i_9)))) i_9) = (0 : Int32) then (0 : Int32) else (if (x.2.2.2.2.2.2.2.2.2.2.1 / (3 : Int32)) ≤ (((lp_X1_burn_9 x (x.1, x.2.1, x.2.2.1, x.2.2.2.2.2.2.2.2.2.2.2.1) i_9).2.1) i_9) then ((((lp_X1_burn_9 x (x.1, x.2.1, x.2.2.1, x.2.2.2.2.2.2.2.2.2.2.2.1) i_9).2.1) i_9) - (x.2.2.2.2.2.2.2.2.2.2.1 / (3 : Int32))) else (0 : Int32))), .int (nI i_9), .ref (ad 1)]) (by (try rw [e_0]) <;> rfl) ?_
            exact J_3 _ _ _ (hW.eq (by (try rw [e_0]) <;> rfl)) (by (try rw [e_0]) <;> exact lv_sub hl [1, 2, 3] rfl)
          · refine lv_iconst (v := (0 : Int32)) hx hb dX1_burn_107 (by decide) ?_
            refine lv_goto (tgt := 119) hx hb dX1_burn_108 (by decide) ?_
            have e_0 : (if ((upd ((lp_X1_burn_9 x (x.1, x.2.1, x.2.2.1, x.2.2.2.2.2.2.2.2.2.2.2.1) i_9).1) i_9 ((((lp_X1_burn_9 x (x.1, x.2.1, x.2.2.1, x.2.2.2.2.2.2.2.2.2.2.2.1) i_9).1) i_9) - (if (((lp_X1_burn_9 x (x.1, x.2.1, x.2.2.1, x.2.2.2.2.2.2.2.2.2.2.2.1) i_9).1) i_9) ≤ (((lp_X1_burn_9 x (x.1, x.2.1, x.2.2.1, x.2.2.2.2.2.2.2.2.2.2.2.1) i_9).2.1) i_9) then (((lp_X1_burn_9 x (x.1, x.2.1, x.2.2.1, x.2.2.2.2.2.2.2.2.2.2.2.1) i_9).1) i_9) else (((lp_X1_burn_9 x (x.1, x.2.1, x.2.2.1, x.2.2.2.2.2.2.2.2.2.2.2.1) i_9).2.1) i_9)))) i_9) = (0 : Int32) then (0 : Int32) else (if (x.2.2.2.2.2.2.2.2.2.2.1 / (3 : Int32)) ≤ (((lp_X1_burn_9 x (x.1, x.2.1, x.2.2.1, x.2.2.2.2.2.2.2.2.2.2.2.1) i_9).2.1) i_9) then ((((lp_X1_burn_9 x (x.1, x.2.1, x.2.2.1, x.2.2.2.2.2.2.2.2.2.2.2.1) i_9).2.1) i_9) - (x.2.2.2.2.2.2.2.2.2.2.1 / (3 : Int32))) else (0 : Int32))) = (0 : Int32) := (if_neg c_94).trans (if_neg c_104)
            refine W.eq (g2 := F0 m 119 ls [.int (if ((upd ((lp_X1_burn_9 x (x.1, x.2.1, x.2.2.1, x.2.2.2.2.2.2.2.2.2.2.2.1) i_9).1) i_9 ((((lp_X1_burn_9 x (x.1, x.2.1, x.2.2.1, x.2.2.2.2.2.2.2.2.2.2.2.1) i_9).1) i_9) - (if (((lp_X1_burn_9 x (x.1, x.2.1, x.2.2.1, x.2.2.2.2.2.2.2.2.2.2.2.1) i_9).1) i_9) ≤ (((lp_X1_burn_9 x (x.1, x.2.1, x.2.2.1, x.2.2.2.2.2.2.2.2.2.2.2.1) i_9).2.1) i_9) then (((lp_X1_burn_9 x (x.1, x.2.1, x.2.2.1, x.2.2.2.2.2.2.2.2.2.2.2.1) i_9).1) i_9) else (((lp_X1_burn_9 x (x.1, x.2.1, x.2.2.1, x.2.2.2.2.2.2.2.2.2.2.2.1) i_9).2.1) i_9)))) i_9) = (0 : Int32) then (0 : Int32) else (if (x.2.2.2.2.2.2.2.2.2.2.1 / (3 : Int32)) ≤ (((lp_X1_burn_9 x (x.1, x.2.1, x.2.2.1, x.2.2.2.2.2.2.2.2.2.2.2.1) i_9).2.1) i_9) then ((((lp_X1_burn_9 x (x.1, x.2.1, x.2.2.1, x.2.2.2.2.2.2.2.2.2.2.2.1) i_9).2.1) i_9) - (x.2.2.2.2.2.2.2.2.2.2.1 / (3 : Int32))) else (0 : Int32))), .int (nI i_9), .ref (ad 1)]) (by (try rw [e_0]) <;> rfl) ?_
            exact J_3 _ _ _ (hW.eq (by (try rw [e_0]) <;> rfl)) (by (try rw [e_0]) <;> exact lv_sub hl [1, 2, 3] rfl)
      refine lv_icmp_ge (tgt := 39) hx hb dX1_burn_27 (by decide) (fun c_27 => ?_) (fun c_27 => ?_)
      · refine lv_aload_n hx hb dX1_burn_39 rfl (lv_at hl 0 rfl) ?_
        refine zget B hW 0 rfl lf_X1_9 rfl dX1_burn_40 ?_
        refine lv_iload_n hx hb dX1_burn_43 rfl (lv_at hl 2 rfl) ?_
        refine zialdN B hW 1 rfl i_9 rfl (by omega) (by decide) dX1_burn_44 ?_
        have e_0 : (if (((lp_X1_burn_9 x (x.1, x.2.1, x.2.2.1, x.2.2.2.2.2.2.2.2.2.2.2.1) i_9).1) i_9) ≤ (((lp_X1_burn_9 x (x.1, x.2.1, x.2.2.1, x.2.2.2.2.2.2.2.2.2.2.2.1) i_9).2.1) i_9) then (((lp_X1_burn_9 x (x.1, x.2.1, x.2.2.1, x.2.2.2.2.2.2.2.2.2.2.2.1) i_9).1) i_9) else (((lp_X1_burn_9 x (x.1, x.2.1, x.2.2.1, x.2.2.2.2.2.2.2.2.2.2.2.1) i_9).2.1) i_9)) = (((lp_X1_burn_9 x (x.1, x.2.1, x.2.2.1, x.2.2.2.2.2.2.2.2.2.2.2.1) i_9).1) i_9) := if_pos c_27
        refine W.eq (g2 := F0 m 45 ls [.int (if (((lp_X1_burn_9 x (x.1, x.2.1, x.2.2.1, x.2.2.2.2.2.2.2.2.2.2.2.1) i_9).1) i_9) ≤ (((lp_X1_burn_9 x (x.1, x.2.1, x.2.2.1, x.2.2.2.2.2.2.2.2.2.2.2.1) i_9).2.1) i_9) then (((lp_X1_burn_9 x (x.1, x.2.1, x.2.2.1, x.2.2.2.2.2.2.2.2.2.2.2.1) i_9).1) i_9) else (((lp_X1_burn_9 x (x.1, x.2.1, x.2.2.1, x.2.2.2.2.2.2.2.2.2.2.2.1) i_9).2.1) i_9))]) (by (try rw [e_0]) <;> rfl) ?_
        exact J_2 _ _ _ (hW.eq (by (try rw [e_0]) <;> rfl)) (by (try rw [e_0]) <;> exact lv_sub hl [0, 1, 2] rfl)
      · refine lv_aload_n hx hb dX1_burn_30 rfl (lv_at hl 0 rfl) ?_
        refine zget B hW 0 rfl lf_X1_15 rfl dX1_burn_31 ?_
        refine lv_iload_n hx hb dX1_burn_34 rfl (lv_at hl 2 rfl) ?_
        refine zialdN B hW 2 rfl i_9 rfl (by omega) (by decide) dX1_burn_35 ?_
        refine lv_goto (tgt := 45) hx hb dX1_burn_36 (by decide) ?_
        have e_0 : (if (((lp_X1_burn_9 x (x.1, x.2.1, x.2.2.1, x.2.2.2.2.2.2.2.2.2.2.2.1) i_9).1) i_9) ≤ (((lp_X1_burn_9 x (x.1, x.2.1, x.2.2.1, x.2.2.2.2.2.2.2.2.2.2.2.1) i_9).2.1) i_9) then (((lp_X1_burn_9 x (x.1, x.2.1, x.2.2.1, x.2.2.2.2.2.2.2.2.2.2.2.1) i_9).1) i_9) else (((lp_X1_burn_9 x (x.1, x.2.1, x.2.2.1, x.2.2.2.2.2.2.2.2.2.2.2.1) i_9).2.1) i_9)) = (((lp_X1_burn_9 x (x.1, x.2.1, x.2.2.1, x.2.2.2.2.2.2.2.2.2.2.2.1) i_9).2.1) i_9) := if_neg c_27
        refine W.eq (g2 := F0 m 45 ls [.int (if (((lp_X1_burn_9 x (x.1, x.2.1, x.2.2.1, x.2.2.2.2.2.2.2.2.2.2.2.1) i_9).1) i_9) ≤ (((lp_X1_burn_9 x (x.1, x.2.1, x.2.2.1, x.2.2.2.2.2.2.2.2.2.2.2.1) i_9).2.1) i_9) then (((lp_X1_burn_9 x (x.1, x.2.1, x.2.2.1, x.2.2.2.2.2.2.2.2.2.2.2.1) i_9).1) i_9) else (((lp_X1_burn_9 x (x.1, x.2.1, x.2.2.1, x.2.2.2.2.2.2.2.2.2.2.2.1) i_9).2.1) i_9))]) (by (try rw [e_0]) <;> rfl) ?_
        exact J_2 _ _ _ (hW.eq (by (try rw [e_0]) <;> rfl)) (by (try rw [e_0]) <;> exact lv_sub hl [0, 1, 2] rfl)
  exact L_1 0 (Nat.zero_le _) _ _ _ (hW.eq rfl) (lv_sub hl [2, 1, 0] rfl)
def st_X1_settle_2 (x : zLand) (i_2 : Nat) (y : (Nat → Int32) × Int64) : (Nat → Int32) × Int64 := ((upd y.1 i_2 ((y.1 i_2) - (((y.1 i_2) * (x.2.2.2.2.2.2.2.2.2.2.1 + (1 : Int32))) / (20 : Int32)))), (y.2 + (((y.1 i_2) * (x.2.2.2.2.2.2.2.2.2.2.1 + (1 : Int32))) / (20 : Int32)).toInt64))
def lp_X1_settle_2 (x : zLand) (y0 : (Nat → Int32) × Int64) : Nat → (Nat → Int32) × Int64
  | 0 => y0
  | n + 1 => st_X1_settle_2 x n (lp_X1_settle_2 x y0 n)
def f_X1_settle_x (x : zLand) : zLand := (x.1, x.2.1, (lp_X1_settle_2 x (x.2.2.1, x.2.2.2.2.2.2.2.2.2.2.2.2.2) 48).1, x.2.2.2.1, x.2.2.2.2.1, x.2.2.2.2.2.1, x.2.2.2.2.2.2.1, x.2.2.2.2.2.2.2.1, x.2.2.2.2.2.2.2.2.1, x.2.2.2.2.2.2.2.2.2.1, x.2.2.2.2.2.2.2.2.2.2.1, x.2.2.2.2.2.2.2.2.2.2.2.1, x.2.2.2.2.2.2.2.2.2.2.2.2.1, (lp_X1_settle_2 x (x.2.2.1, x.2.2.2.2.2.2.2.2.2.2.2.2.2) 48).2)
abbrev po_X1_settle (G : zG) (h : Nat) (ad : Nat → Nat) (x : zLand) : Option Value → va_W → Prop := fun r u => r = none ∧ u = landW G h ad (f_X1_settle_x x)
set_option maxHeartbeats 4000000 in
set_option maxRecDepth 100000 in
theorem c_X1_settle (l : Launch) (G : zG) (h : Nat) (ad : Nat → Nat) (x : zLand) : zC l yX1_settle cX1_settle 3 none 0 0 0 G [.ref h] (landW G h ad x) (po_X1_settle G h ad x) := by
  refine zC.of RX1 rfl (by decide) (Nat.le_of_ble_eq_true rfl) ?_
  intro p e s m args below meth c A ls B hr hlk hnm hW hl
  have hx := B.x
  have hb := B.b
  have hl : lv_has ls 3 [(0, .ref h)] := hl
  refine lv_iconst (v := (0 : Int32)) hx hb dX1_settle_0 (by decide) ?_
  refine lv_istore_n hx hb dX1_settle_1 rfl hl (by decide) rfl (fun ls hl => ?_)
  have L_1 : ∀ i_2 : Nat, i_2 ≤ 48 → ∀ (H : Heap) (locs : List Loc) (ls : Array Slot), zW G A s.heap H locs (landW G h ad (x.1, x.2.1, (lp_X1_settle_2 x (x.2.2.1, x.2.2.2.2.2.2.2.2.2.2.2.2.2) i_2).1, x.2.2.2.1, x.2.2.2.2.1, x.2.2.2.2.2.1, x.2.2.2.2.2.2.1, x.2.2.2.2.2.2.2.1, x.2.2.2.2.2.2.2.2.1, x.2.2.2.2.2.2.2.2.2.1, x.2.2.2.2.2.2.2.2.2.2.1, x.2.2.2.2.2.2.2.2.2.2.2.1, x.2.2.2.2.2.2.2.2.2.2.2.2.1, (lp_X1_settle_2 x (x.2.2.1, x.2.2.2.2.2.2.2.2.2.2.2.2.2) i_2).2)) → lv_has ls 3 [(0, .ref h), (1, .int (nI i_2))] → W p l e (zRm 0 0 0) s m args below meth c H locs 0 0 (MQ below (zQ G A (po_X1_settle G h ad x)) args s 0 0 A) (F0 m 2 ls []) := by
    refine zloop 48 ?_ ?_
    · intro H locs ls hW hl
      have hl : lv_has ls 3 [(0, .ref h), (1, .int (48 : Int32))] := hl
      refine lv_iload_n hx hb dX1_settle_2 rfl (lv_at hl 1 rfl) ?_
      refine lv_bipush (v := (48 : Int32)) hx hb dX1_settle_3 (by decide) ?_
      refine lv_icmp_ge (tgt := 52) hx hb dX1_settle_5 (by decide) (fun c_5 => ?_) (fun c_5 => absurd (zge (by decide)) c_5)
      exact zvret B hr hlk hW ⟨rfl, rfl⟩ (Nat.le_refl _) (Nat.le_refl _) dX1_settle_52
    · intro i_2 hi_2 ih H locs ls hW hl
      refine lv_iload_n hx hb dX1_settle_2 rfl (lv_at hl 1 rfl) ?_
      refine lv_bipush (v := (48 : Int32)) hx hb dX1_settle_3 (by decide) ?_
      refine lv_icmp_ge (tgt := 52) hx hb dX1_settle_5 (by decide) (fun c_5 => absurd c_5 (znle (by decide) hi_2 (by decide))) (fun c_5 => ?_)
      refine lv_aload_n hx hb dX1_settle_8 rfl (lv_at hl 0 rfl) ?_
      refine zget B hW 0 rfl lf_X1_18 rfl dX1_settle_9 ?_
      refine lv_iload_n hx hb dX1_settle_12 rfl (lv_at hl 1 rfl) ?_
      refine zialdN B hW 3 rfl i_2 rfl (by omega) (by decide) dX1_settle_13 ?_
      refine lv_aload_n hx hb dX1_settle_14 rfl (lv_at hl 0 rfl) ?_
      refine zget B hW 0 rfl lf_X1_44 rfl dX1_settle_15 ?_
      refine lv_iconst (v := (1 : Int32)) hx hb dX1_settle_18 (by decide) ?_
      refine lv_iadd hx hb dX1_settle_19 ?_
      refine lv_imul hx hb dX1_settle_20 ?_
      refine lv_bipush (v := (20 : Int32)) hx hb dX1_settle_21 (by decide) ?_
      refine lv_idiv hx hb dX1_settle_23 (by decide) ?_
      refine lv_istore_n hx hb dX1_settle_24 rfl hl (by decide) rfl (fun ls hl => ?_)
      refine lv_aload_n hx hb dX1_settle_25 rfl (lv_at hl 1 rfl) ?_
      refine zget B hW 0 rfl lf_X1_18 rfl dX1_settle_26 ?_
      refine lv_iload_n hx hb dX1_settle_29 rfl (lv_at hl 2 rfl) ?_
      refine lv_dup2_11 hx hb dX1_settle_30 rfl rfl ?_
      refine zialdN B hW 3 rfl i_2 rfl (by omega) (by decide) dX1_settle_31 ?_
      refine lv_iload_n hx hb dX1_settle_32 rfl (lv_at hl 0 rfl) ?_
      refine lv_isub hx hb dX1_settle_33 ?_
      refine ziastN B hW 3 rfl i_2 rfl (by omega) (by decide) dX1_settle_34 (fun H locs hW => ?_)
      refine lv_aload_n hx hb dX1_settle_35 rfl (lv_at hl 1 rfl) ?_
      refine lv_dup hx hb dX1_settle_36 rfl ?_
      refine zget B hW 0 rfl lf_X1_54 rfl dX1_settle_37 ?_
      refine lv_iload_n hx hb dX1_settle_40 rfl (lv_at hl 0 rfl) ?_
      refine lv_i2l hx hb dX1_settle_41 rfl ?_
      refine lv_ladd hx hb dX1_settle_42 ?_
      refine zput B hW 0 rfl lf_X1_54 ft_X1_13 rfl rfl (Nat.le_of_ble_eq_true rfl) dX1_settle_43 (fun H locs hW => ?_)
      refine lv_iinc (v := (nI (i_2 + 1))) hx hb dX1_settle_46 hl (k := 2) rfl (nI_1 _) (by decide) rfl (fun ls hl => ?_)
      refine lv_goto (tgt := 2) hx hb dX1_settle_49 (by decide) ?_
      exact ih _ _ _ (hW.eq rfl) (lv_sub hl [2, 0] rfl)
  exact L_1 0 (Nat.zero_le _) _ _ _ (hW.eq rfl) (lv_sub hl [1, 0] rfl)
