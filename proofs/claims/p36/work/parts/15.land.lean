abbrev zLand : Type := (Nat → Int32) × (Nat → Int32) × (Nat → Int32) × (Nat → Int32) × (Nat → Int32) × (Nat → Int32) × (Nat → Int32) × Int32 × Int32 × Int32 × Int32 × Int64 × Int64 × Int64
def landW (G : zG) (h : Nat) (ad : Nat → Nat) (x : zLand) : va_W := [(h, .inr (5, [.ref (ad 0), .ref (ad 1), .ref (ad 2), .ref (ad 3), .ref (ad 4), .ref (ad 5), .ref (ad 6), .int x.2.2.2.2.2.2.2.1, .int x.2.2.2.2.2.2.2.2.1, .int x.2.2.2.2.2.2.2.2.2.1, .int x.2.2.2.2.2.2.2.2.2.2.1, .long x.2.2.2.2.2.2.2.2.2.2.2.1, .long x.2.2.2.2.2.2.2.2.2.2.2.2.1, .long x.2.2.2.2.2.2.2.2.2.2.2.2.2])), (ad 0, .inl (G.2.1 0, 48, .inl x.1)), (ad 1, .inl (G.2.1 0, 48, .inl x.2.1)), (ad 2, .inl (G.2.1 0, 48, .inl x.2.2.1)), (ad 3, .inl (G.2.1 1, 48, .inl x.2.2.2.1)), (ad 4, .inl (G.2.1 0, 3, .inl x.2.2.2.2.1)), (ad 5, .inl (G.2.1 0, 3, .inl x.2.2.2.2.2.1)), (ad 6, .inl (G.2.1 0, 48, .inl x.2.2.2.2.2.2.1))]
def r_X7_isCell (a : Int32) (b : Int32) : Int32 := (if a < (0 : Int32) then (0 : Int32) else (if (8 : Int32) ≤ a then (0 : Int32) else (if b < (0 : Int32) then (0 : Int32) else (if (6 : Int32) ≤ b then (0 : Int32) else (1 : Int32)))))
abbrev po_X7_isCell (G : zG)  (a : Int32) (b : Int32) : Option Value → va_W → Prop := fun r u => r = some (.int (r_X7_isCell a b)) ∧ u = []
set_option maxHeartbeats 4000000 in
set_option maxRecDepth 100000 in
theorem c_X7_isCell (l : Launch) (G : zG)  (a : Int32) (b : Int32) : zC l yX7_isCell cX7_isCell 2 (some .boolean) 0 0 0 G [.int a, .int b] ([]) (po_X7_isCell G a b) := by
  refine zC.of RX7 rfl (by decide) (Nat.le_of_ble_eq_true rfl) ?_
  intro p e s m args below meth c A ls B hr hlk hnm hW hl
  have hx := B.x
  have hb := B.b
  have hl : lv_has ls 2 [(0, .int a), (1, .int b)] := hl
  refine lv_iload_n hx hb dX7_isCell_0 rfl (lv_at hl 0 rfl) ?_
  have J_1 : ∀ (H : Heap) (locs : List Loc) (ls : Array Slot), zW G A s.heap H locs ([]) → lv_has ls 2 [] → W p l e (zRm 0 0 0) s m args below meth c H locs 0 0 (MQ below (zQ G A (po_X7_isCell G a b)) args s 0 0 A) (F0 m 25 ls [.int (if a < (0 : Int32) then (0 : Int32) else (if (8 : Int32) ≤ a then (0 : Int32) else (if b < (0 : Int32) then (0 : Int32) else (if (6 : Int32) ≤ b then (0 : Int32) else (1 : Int32)))))]) := by
    intro H locs ls hW hl
    exact zzret B hr hlk (by (repeat' split) <;> rfl) hW ⟨rfl, rfl⟩ (Nat.le_refl _) (Nat.le_refl _) dX7_isCell_25
  refine lv_if_lt (tgt := 24) hx hb dX7_isCell_1 (by decide) (fun c_1 => ?_) (fun c_1 => ?_)
  · refine lv_iconst (v := (0 : Int32)) hx hb dX7_isCell_24 (by decide) ?_
    have e_0 : (if a < (0 : Int32) then (0 : Int32) else (if (8 : Int32) ≤ a then (0 : Int32) else (if b < (0 : Int32) then (0 : Int32) else (if (6 : Int32) ≤ b then (0 : Int32) else (1 : Int32))))) = (0 : Int32) := if_pos c_1
    refine W.eq (g2 := F0 m 25 ls [.int (if a < (0 : Int32) then (0 : Int32) else (if (8 : Int32) ≤ a then (0 : Int32) else (if b < (0 : Int32) then (0 : Int32) else (if (6 : Int32) ≤ b then (0 : Int32) else (1 : Int32)))))]) (by (try rw [e_0]) <;> rfl) ?_
    exact J_1 _ _ _ (hW.eq (by (try rw [e_0]) <;> rfl)) (by (try rw [e_0]) <;> exact lv_sub hl [] rfl)
  · refine lv_iload_n hx hb dX7_isCell_4 rfl (lv_at hl 0 rfl) ?_
    refine lv_bipush (v := (8 : Int32)) hx hb dX7_isCell_5 (by decide) ?_
    refine lv_icmp_ge (tgt := 24) hx hb dX7_isCell_7 (by decide) (fun c_7 => ?_) (fun c_7 => ?_)
    · refine lv_iconst (v := (0 : Int32)) hx hb dX7_isCell_24 (by decide) ?_
      have e_0 : (if a < (0 : Int32) then (0 : Int32) else (if (8 : Int32) ≤ a then (0 : Int32) else (if b < (0 : Int32) then (0 : Int32) else (if (6 : Int32) ≤ b then (0 : Int32) else (1 : Int32))))) = (0 : Int32) := (if_neg c_1).trans (if_pos c_7)
      refine W.eq (g2 := F0 m 25 ls [.int (if a < (0 : Int32) then (0 : Int32) else (if (8 : Int32) ≤ a then (0 : Int32) else (if b < (0 : Int32) then (0 : Int32) else (if (6 : Int32) ≤ b then (0 : Int32) else (1 : Int32)))))]) (by (try rw [e_0]) <;> rfl) ?_
      exact J_1 _ _ _ (hW.eq (by (try rw [e_0]) <;> rfl)) (by (try rw [e_0]) <;> exact lv_sub hl [] rfl)
    · refine lv_iload_n hx hb dX7_isCell_10 rfl (lv_at hl 1 rfl) ?_
      refine lv_if_lt (tgt := 24) hx hb dX7_isCell_11 (by decide) (fun c_11 => ?_) (fun c_11 => ?_)
      · refine lv_iconst (v := (0 : Int32)) hx hb dX7_isCell_24 (by decide) ?_
        have e_0 : (if a < (0 : Int32) then (0 : Int32) else (if (8 : Int32) ≤ a then (0 : Int32) else (if b < (0 : Int32) then (0 : Int32) else (if (6 : Int32) ≤ b then (0 : Int32) else (1 : Int32))))) = (0 : Int32) := (if_neg c_1).trans ((if_neg c_7).trans (if_pos c_11))
        refine W.eq (g2 := F0 m 25 ls [.int (if a < (0 : Int32) then (0 : Int32) else (if (8 : Int32) ≤ a then (0 : Int32) else (if b < (0 : Int32) then (0 : Int32) else (if (6 : Int32) ≤ b then (0 : Int32) else (1 : Int32)))))]) (by (try rw [e_0]) <;> rfl) ?_
        exact J_1 _ _ _ (hW.eq (by (try rw [e_0]) <;> rfl)) (by (try rw [e_0]) <;> exact lv_sub hl [] rfl)
      · refine lv_iload_n hx hb dX7_isCell_14 rfl (lv_at hl 1 rfl) ?_
        refine lv_bipush (v := (6 : Int32)) hx hb dX7_isCell_15 (by decide) ?_
        refine lv_icmp_ge (tgt := 24) hx hb dX7_isCell_17 (by decide) (fun c_17 => ?_) (fun c_17 => ?_)
        · refine lv_iconst (v := (0 : Int32)) hx hb dX7_isCell_24 (by decide) ?_
          have e_0 : (if a < (0 : Int32) then (0 : Int32) else (if (8 : Int32) ≤ a then (0 : Int32) else (if b < (0 : Int32) then (0 : Int32) else (if (6 : Int32) ≤ b then (0 : Int32) else (1 : Int32))))) = (0 : Int32) := (if_neg c_1).trans ((if_neg c_7).trans ((if_neg c_11).trans (if_pos c_17)))
          refine W.eq (g2 := F0 m 25 ls [.int (if a < (0 : Int32) then (0 : Int32) else (if (8 : Int32) ≤ a then (0 : Int32) else (if b < (0 : Int32) then (0 : Int32) else (if (6 : Int32) ≤ b then (0 : Int32) else (1 : Int32)))))]) (by (try rw [e_0]) <;> rfl) ?_
          exact J_1 _ _ _ (hW.eq (by (try rw [e_0]) <;> rfl)) (by (try rw [e_0]) <;> exact lv_sub hl [] rfl)
        · refine lv_iconst (v := (1 : Int32)) hx hb dX7_isCell_20 (by decide) ?_
          refine lv_goto (tgt := 25) hx hb dX7_isCell_21 (by decide) ?_
          have e_0 : (if a < (0 : Int32) then (0 : Int32) else (if (8 : Int32) ≤ a then (0 : Int32) else (if b < (0 : Int32) then (0 : Int32) else (if (6 : Int32) ≤ b then (0 : Int32) else (1 : Int32))))) = (1 : Int32) := (if_neg c_1).trans ((if_neg c_7).trans ((if_neg c_11).trans (if_neg c_17)))
          refine W.eq (g2 := F0 m 25 ls [.int (if a < (0 : Int32) then (0 : Int32) else (if (8 : Int32) ≤ a then (0 : Int32) else (if b < (0 : Int32) then (0 : Int32) else (if (6 : Int32) ≤ b then (0 : Int32) else (1 : Int32)))))]) (by (try rw [e_0]) <;> rfl) ?_
          exact J_1 _ _ _ (hW.eq (by (try rw [e_0]) <;> rfl)) (by (try rw [e_0]) <;> exact lv_sub hl [] rfl)
def g_X1_changeRain_x_10 (a : Int32) : Int32 := a
def f_X1_changeRain_x (x : zLand) (a : Int32) : zLand := (x.1, x.2.1, x.2.2.1, x.2.2.2.1, x.2.2.2.2.1, x.2.2.2.2.2.1, x.2.2.2.2.2.2.1, x.2.2.2.2.2.2.2.1, x.2.2.2.2.2.2.2.2.1, x.2.2.2.2.2.2.2.2.2.1, g_X1_changeRain_x_10 a, x.2.2.2.2.2.2.2.2.2.2.2.1, x.2.2.2.2.2.2.2.2.2.2.2.2.1, x.2.2.2.2.2.2.2.2.2.2.2.2.2)
def r_X1_changeRain (x_10 : Int32) : Int32 := x_10
abbrev po_X1_changeRain (G : zG) (h : Nat) (ad : Nat → Nat) (x : zLand) (a : Int32) : Option Value → va_W → Prop := fun r u => r = some (.int (r_X1_changeRain x.2.2.2.2.2.2.2.2.2.2.1)) ∧ u = landW G h ad (f_X1_changeRain_x x a)
set_option maxHeartbeats 4000000 in
set_option maxRecDepth 100000 in
theorem c_X1_changeRain (l : Launch) (G : zG) (h : Nat) (ad : Nat → Nat) (x : zLand) (a : Int32) : zC l yX1_changeRain cX1_changeRain 3 (some .int) 0 0 0 G [.ref h, .int a] (landW G h ad x) (po_X1_changeRain G h ad x a) := by
  refine zC.of RX1 rfl (by decide) (Nat.le_of_ble_eq_true rfl) ?_
  intro p e s m args below meth c A ls B hr hlk hnm hW hl
  have hx := B.x
  have hb := B.b
  have hl : lv_has ls 3 [(0, .ref h), (1, .int a)] := hl
  refine lv_aload_n hx hb dX1_changeRain_0 rfl (lv_at hl 0 rfl) ?_
  refine zget B hW 0 rfl lf_X1_44 rfl dX1_changeRain_1 ?_
  refine lv_istore_n hx hb dX1_changeRain_4 rfl hl (by decide) rfl (fun ls hl => ?_)
  refine lv_aload_n hx hb dX1_changeRain_5 rfl (lv_at hl 1 rfl) ?_
  refine lv_iload_n hx hb dX1_changeRain_6 rfl (lv_at hl 2 rfl) ?_
  refine zput B hW 0 rfl lf_X1_44 ft_X1_10 rfl rfl (Nat.le_of_ble_eq_true rfl) dX1_changeRain_7 (fun H locs hW => ?_)
  refine lv_iload_n hx hb dX1_changeRain_10 rfl (lv_at hl 0 rfl) ?_
  exact ziret B hr hlk hW ⟨rfl, rfl⟩ (Nat.le_refl _) (Nat.le_refl _) dX1_changeRain_11
def g_X1_turnWind_x_7 (a : Int32) : Int32 := a
def g_X1_turnWind_x_8 (b : Int32) : Int32 := b
def g_X1_turnWind_x_9 (d : Int32) : Int32 := d
def f_X1_turnWind_x (x : zLand) (a : Int32) (b : Int32) (d : Int32) : zLand := (x.1, x.2.1, x.2.2.1, x.2.2.2.1, x.2.2.2.2.1, x.2.2.2.2.2.1, x.2.2.2.2.2.2.1, g_X1_turnWind_x_7 a, g_X1_turnWind_x_8 b, g_X1_turnWind_x_9 d, x.2.2.2.2.2.2.2.2.2.2.1, x.2.2.2.2.2.2.2.2.2.2.2.1, x.2.2.2.2.2.2.2.2.2.2.2.2.1, x.2.2.2.2.2.2.2.2.2.2.2.2.2)
def r_X1_turnWind (x_9 : Int32) : Int32 := x_9
abbrev po_X1_turnWind (G : zG) (h : Nat) (ad : Nat → Nat) (x : zLand) (a : Int32) (b : Int32) (d : Int32) : Option Value → va_W → Prop := fun r u => r = some (.int (r_X1_turnWind x.2.2.2.2.2.2.2.2.2.1)) ∧ u = landW G h ad (f_X1_turnWind_x x a b d)
set_option maxHeartbeats 4000000 in
set_option maxRecDepth 100000 in
theorem c_X1_turnWind (l : Launch) (G : zG) (h : Nat) (ad : Nat → Nat) (x : zLand) (a : Int32) (b : Int32) (d : Int32) : zC l yX1_turnWind cX1_turnWind 5 (some .int) 0 0 0 G [.ref h, .int a, .int b, .int d] (landW G h ad x) (po_X1_turnWind G h ad x a b d) := by
  refine zC.of RX1 rfl (by decide) (Nat.le_of_ble_eq_true rfl) ?_
  intro p e s m args below meth c A ls B hr hlk hnm hW hl
  have hx := B.x
  have hb := B.b
  have hl : lv_has ls 5 [(0, .ref h), (1, .int a), (2, .int b), (3, .int d)] := hl
  refine lv_aload_n hx hb dX1_turnWind_0 rfl (lv_at hl 0 rfl) ?_
  refine zget B hW 0 rfl lf_X1_41 rfl dX1_turnWind_1 ?_
  refine lv_istore hx hb dX1_turnWind_4 hl (by decide) rfl (fun ls hl => ?_)
  refine lv_aload_n hx hb dX1_turnWind_6 rfl (lv_at hl 1 rfl) ?_
  refine lv_iload_n hx hb dX1_turnWind_7 rfl (lv_at hl 2 rfl) ?_
  refine zput B hW 0 rfl lf_X1_34 ft_X1_7 rfl rfl (Nat.le_of_ble_eq_true rfl) dX1_turnWind_8 (fun H locs hW => ?_)
  refine lv_aload_n hx hb dX1_turnWind_11 rfl (lv_at hl 1 rfl) ?_
  refine lv_iload_n hx hb dX1_turnWind_12 rfl (lv_at hl 3 rfl) ?_
  refine zput B hW 0 rfl lf_X1_38 ft_X1_8 rfl rfl (Nat.le_of_ble_eq_true rfl) dX1_turnWind_13 (fun H locs hW => ?_)
  refine lv_aload_n hx hb dX1_turnWind_16 rfl (lv_at hl 1 rfl) ?_
  refine lv_iload_n hx hb dX1_turnWind_17 rfl (lv_at hl 4 rfl) ?_
  refine zput B hW 0 rfl lf_X1_41 ft_X1_9 rfl rfl (Nat.le_of_ble_eq_true rfl) dX1_turnWind_18 (fun H locs hW => ?_)
  refine lv_iload hx hb dX1_turnWind_21 (lv_at hl 0 rfl) ?_
  exact ziret B hr hlk hW ⟨rfl, rfl⟩ (Nat.le_refl _) (Nat.le_refl _) dX1_turnWind_23
def g_X1_replaceFuel_x_0 (x_0 : Nat → Int32) (a : Int32) (b : Int32) : Nat → Int32 := (upd x_0 a.toNatClampNeg b)
def f_X1_replaceFuel_x (x : zLand) (a : Int32) (b : Int32) : zLand := (g_X1_replaceFuel_x_0 x.1 a b, x.2.1, x.2.2.1, x.2.2.2.1, x.2.2.2.2.1, x.2.2.2.2.2.1, x.2.2.2.2.2.2.1, x.2.2.2.2.2.2.2.1, x.2.2.2.2.2.2.2.2.1, x.2.2.2.2.2.2.2.2.2.1, x.2.2.2.2.2.2.2.2.2.2.1, x.2.2.2.2.2.2.2.2.2.2.2.1, x.2.2.2.2.2.2.2.2.2.2.2.2.1, x.2.2.2.2.2.2.2.2.2.2.2.2.2)
def r_X1_replaceFuel (x_0 : Nat → Int32) (a : Int32) : Int32 := (x_0 a.toNatClampNeg)
abbrev po_X1_replaceFuel (G : zG) (h : Nat) (ad : Nat → Nat) (x : zLand) (a : Int32) (b : Int32) : Option Value → va_W → Prop := fun r u => r = some (.int (r_X1_replaceFuel x.1 a)) ∧ u = landW G h ad (f_X1_replaceFuel_x x a b)
set_option maxHeartbeats 4000000 in
set_option maxRecDepth 100000 in
theorem c_X1_replaceFuel (l : Launch) (G : zG) (h : Nat) (ad : Nat → Nat) (x : zLand) (a : Int32) (b : Int32) (hp : vp_in a 48) : zC l yX1_replaceFuel cX1_replaceFuel 4 (some .int) 0 0 0 G [.ref h, .int a, .int b] (landW G h ad x) (po_X1_replaceFuel G h ad x a b) := by
  refine zC.of RX1 rfl (by decide) (Nat.le_of_ble_eq_true rfl) ?_
  intro p e s m args below meth c A ls B hr hlk hnm hW hl
  have hx := B.x
  have hb := B.b
  have hl : lv_has ls 4 [(0, .ref h), (1, .int a), (2, .int b)] := hl
  refine lv_aload_n hx hb dX1_replaceFuel_0 rfl (lv_at hl 0 rfl) ?_
  refine zget B hW 0 rfl lf_X1_9 rfl dX1_replaceFuel_1 ?_
  refine lv_iload_n hx hb dX1_replaceFuel_4 rfl (lv_at hl 1 rfl) ?_
  refine ziald B hW 1 rfl (hp) dX1_replaceFuel_5 ?_
  refine lv_istore_n hx hb dX1_replaceFuel_6 rfl hl (by decide) rfl (fun ls hl => ?_)
  refine lv_aload_n hx hb dX1_replaceFuel_7 rfl (lv_at hl 1 rfl) ?_
  refine zget B hW 0 rfl lf_X1_9 rfl dX1_replaceFuel_8 ?_
  refine lv_iload_n hx hb dX1_replaceFuel_11 rfl (lv_at hl 2 rfl) ?_
  refine lv_iload_n hx hb dX1_replaceFuel_12 rfl (lv_at hl 3 rfl) ?_
  refine ziast B hW 1 rfl (hp) dX1_replaceFuel_13 (fun H locs hW => ?_)
  refine lv_iload_n hx hb dX1_replaceFuel_14 rfl (lv_at hl 0 rfl) ?_
  exact ziret B hr hlk hW ⟨rfl, rfl⟩ (Nat.le_refl _) (Nat.le_refl _) dX1_replaceFuel_15
def g_X1_kindle_x_1 (x_1 : Nat → Int32) (a : Int32) (b : Int32) : Nat → Int32 := (if b ≤ (x_1 a.toNatClampNeg) then x_1 else (upd x_1 a.toNatClampNeg b))
def f_X1_kindle_x (x : zLand) (a : Int32) (b : Int32) : zLand := (x.1, g_X1_kindle_x_1 x.2.1 a b, x.2.2.1, x.2.2.2.1, x.2.2.2.2.1, x.2.2.2.2.2.1, x.2.2.2.2.2.2.1, x.2.2.2.2.2.2.2.1, x.2.2.2.2.2.2.2.2.1, x.2.2.2.2.2.2.2.2.2.1, x.2.2.2.2.2.2.2.2.2.2.1, x.2.2.2.2.2.2.2.2.2.2.2.1, x.2.2.2.2.2.2.2.2.2.2.2.2.1, x.2.2.2.2.2.2.2.2.2.2.2.2.2)
def r_X1_kindle (x_1 : Nat → Int32) (a : Int32) (b : Int32) : Int32 := (if ((if b ≤ (x_1 a.toNatClampNeg) then x_1 else (upd x_1 a.toNatClampNeg b)) a.toNatClampNeg) = b then (1 : Int32) else (0 : Int32))
abbrev po_X1_kindle (G : zG) (h : Nat) (ad : Nat → Nat) (x : zLand) (a : Int32) (b : Int32) : Option Value → va_W → Prop := fun r u => r = some (.int (r_X1_kindle x.2.1 a b)) ∧ u = landW G h ad (f_X1_kindle_x x a b)
set_option maxHeartbeats 4000000 in
set_option maxRecDepth 100000 in
theorem c_X1_kindle (l : Launch) (G : zG) (h : Nat) (ad : Nat → Nat) (x : zLand) (a : Int32) (b : Int32) (hp : vp_in a 48) : zC l yX1_kindle cX1_kindle 3 (some .int) 0 0 0 G [.ref h, .int a, .int b] (landW G h ad x) (po_X1_kindle G h ad x a b) := by
  refine zC.of RX1 rfl (by decide) (Nat.le_of_ble_eq_true rfl) ?_
  intro p e s m args below meth c A ls B hr hlk hnm hW hl
  have hx := B.x
  have hb := B.b
  have hl : lv_has ls 3 [(0, .ref h), (1, .int a), (2, .int b)] := hl
  refine lv_iload_n hx hb dX1_kindle_0 rfl (lv_at hl 2 rfl) ?_
  refine lv_aload_n hx hb dX1_kindle_1 rfl (lv_at hl 0 rfl) ?_
  refine zget B hW 0 rfl lf_X1_15 rfl dX1_kindle_2 ?_
  refine lv_iload_n hx hb dX1_kindle_5 rfl (lv_at hl 1 rfl) ?_
  refine ziald B hW 2 rfl (hp) dX1_kindle_6 ?_
  have J_1 : ∀ (H : Heap) (locs : List Loc) (ls : Array Slot), zW G A s.heap H locs (landW G h ad (x.1, (if b ≤ (x.2.1 a.toNatClampNeg) then x.2.1 else (upd x.2.1 a.toNatClampNeg b)), x.2.2.1, x.2.2.2.1, x.2.2.2.2.1, x.2.2.2.2.2.1, x.2.2.2.2.2.2.1, x.2.2.2.2.2.2.2.1, x.2.2.2.2.2.2.2.2.1, x.2.2.2.2.2.2.2.2.2.1, x.2.2.2.2.2.2.2.2.2.2.1, x.2.2.2.2.2.2.2.2.2.2.2.1, x.2.2.2.2.2.2.2.2.2.2.2.2.1, x.2.2.2.2.2.2.2.2.2.2.2.2.2)) → lv_has ls 3 [(0, .ref h), (1, .int a), (2, .int b)] → W p l e (zRm 0 0 0) s m args below meth c H locs 0 0 (MQ below (zQ G A (po_X1_kindle G h ad x a b)) args s 0 0 A) (F0 m 17 ls []) := by
    intro H locs ls hW hl
    refine lv_aload_n hx hb dX1_kindle_17 rfl (lv_at hl 0 rfl) ?_
    refine zget B hW 0 rfl lf_X1_15 rfl dX1_kindle_18 ?_
    refine lv_iload_n hx hb dX1_kindle_21 rfl (lv_at hl 1 rfl) ?_
    refine ziald B hW 2 rfl (hp) dX1_kindle_22 ?_
    refine lv_iload_n hx hb dX1_kindle_23 rfl (lv_at hl 2 rfl) ?_
    have J_2 : ∀ (H : Heap) (locs : List Loc) (ls : Array Slot), zW G A s.heap H locs (landW G h ad (x.1, (if b ≤ (x.2.1 a.toNatClampNeg) then x.2.1 else (upd x.2.1 a.toNatClampNeg b)), x.2.2.1, x.2.2.2.1, x.2.2.2.2.1, x.2.2.2.2.2.1, x.2.2.2.2.2.2.1, x.2.2.2.2.2.2.2.1, x.2.2.2.2.2.2.2.2.1, x.2.2.2.2.2.2.2.2.2.1, x.2.2.2.2.2.2.2.2.2.2.1, x.2.2.2.2.2.2.2.2.2.2.2.1, x.2.2.2.2.2.2.2.2.2.2.2.2.1, x.2.2.2.2.2.2.2.2.2.2.2.2.2)) → lv_has ls 3 [] → W p l e (zRm 0 0 0) s m args below meth c H locs 0 0 (MQ below (zQ G A (po_X1_kindle G h ad x a b)) args s 0 0 A) (F0 m 32 ls [.int (if ((if b ≤ (x.2.1 a.toNatClampNeg) then x.2.1 else (upd x.2.1 a.toNatClampNeg b)) a.toNatClampNeg) = b then (1 : Int32) else (0 : Int32))]) := by
      intro H locs ls hW hl
      exact ziret B hr hlk hW ⟨rfl, rfl⟩ (Nat.le_refl _) (Nat.le_refl _) dX1_kindle_32
    refine lv_icmp_ne (tgt := 31) hx hb dX1_kindle_24 (by decide) (fun c_24 => ?_) (fun c_24 => ?_)
    · refine lv_iconst (v := (0 : Int32)) hx hb dX1_kindle_31 (by decide) ?_
      have e_0 : (if ((if b ≤ (x.2.1 a.toNatClampNeg) then x.2.1 else (upd x.2.1 a.toNatClampNeg b)) a.toNatClampNeg) = b then (1 : Int32) else (0 : Int32)) = (0 : Int32) := if_neg c_24
      refine W.eq (g2 := F0 m 32 ls [.int (if ((if b ≤ (x.2.1 a.toNatClampNeg) then x.2.1 else (upd x.2.1 a.toNatClampNeg b)) a.toNatClampNeg) = b then (1 : Int32) else (0 : Int32))]) (by (try rw [e_0]) <;> rfl) ?_
      exact J_2 _ _ _ (hW.eq (by (try rw [e_0]) <;> rfl)) (by (try rw [e_0]) <;> exact lv_sub hl [] rfl)
    · refine lv_iconst (v := (1 : Int32)) hx hb dX1_kindle_27 (by decide) ?_
      refine lv_goto (tgt := 32) hx hb dX1_kindle_28 (by decide) ?_
      have e_0 : (if ((if b ≤ (x.2.1 a.toNatClampNeg) then x.2.1 else (upd x.2.1 a.toNatClampNeg b)) a.toNatClampNeg) = b then (1 : Int32) else (0 : Int32)) = (1 : Int32) := if_pos c_24
      refine W.eq (g2 := F0 m 32 ls [.int (if ((if b ≤ (x.2.1 a.toNatClampNeg) then x.2.1 else (upd x.2.1 a.toNatClampNeg b)) a.toNatClampNeg) = b then (1 : Int32) else (0 : Int32))]) (by (try rw [e_0]) <;> rfl) ?_
      exact J_2 _ _ _ (hW.eq (by (try rw [e_0]) <;> rfl)) (by (try rw [e_0]) <;> exact lv_sub hl [] rfl)
  refine lv_icmp_le (tgt := 17) hx hb dX1_kindle_7 (by decide) (fun c_7 => ?_) (fun c_7 => ?_)
  · have e_0 : (if b ≤ (x.2.1 a.toNatClampNeg) then x.2.1 else (upd x.2.1 a.toNatClampNeg b)) = x.2.1 := if_pos c_7
    exact J_1 _ _ _ (hW.eq (by (try rw [e_0]) <;> rfl)) (by (try rw [e_0]) <;> exact lv_sub hl [0, 1, 2] rfl)
  · refine lv_aload_n hx hb dX1_kindle_10 rfl (lv_at hl 0 rfl) ?_
    refine zget B hW 0 rfl lf_X1_15 rfl dX1_kindle_11 ?_
    refine lv_iload_n hx hb dX1_kindle_14 rfl (lv_at hl 1 rfl) ?_
    refine lv_iload_n hx hb dX1_kindle_15 rfl (lv_at hl 2 rfl) ?_
    refine ziast B hW 2 rfl (hp) dX1_kindle_16 (fun H locs hW => ?_)
    have e_0 : (if b ≤ (x.2.1 a.toNatClampNeg) then x.2.1 else (upd x.2.1 a.toNatClampNeg b)) = (upd x.2.1 a.toNatClampNeg b) := if_neg c_7
    exact J_1 _ _ _ (hW.eq (by (try rw [e_0]) <;> rfl)) (by (try rw [e_0]) <;> exact lv_sub hl [0, 1, 2] rfl)
def g_X1_sendCrew_x_4 (x_0 : Nat → Int32) (x_4 : Nat → Int32) (a : Int32) (b : Int32) : Nat → Int32 := (upd x_4 b.toNatClampNeg ((2 : Int32) + ((x_0 a.toNatClampNeg) / (20 : Int32))))
def g_X1_sendCrew_x_5 (x_5 : Nat → Int32) (a : Int32) (b : Int32) : Nat → Int32 := (upd x_5 b.toNatClampNeg a)
def f_X1_sendCrew_x (x : zLand) (a : Int32) (b : Int32) : zLand := (x.1, x.2.1, x.2.2.1, x.2.2.2.1, g_X1_sendCrew_x_4 x.1 x.2.2.2.2.1 a b, g_X1_sendCrew_x_5 x.2.2.2.2.2.1 a b, x.2.2.2.2.2.2.1, x.2.2.2.2.2.2.2.1, x.2.2.2.2.2.2.2.2.1, x.2.2.2.2.2.2.2.2.2.1, x.2.2.2.2.2.2.2.2.2.2.1, x.2.2.2.2.2.2.2.2.2.2.2.1, x.2.2.2.2.2.2.2.2.2.2.2.2.1, x.2.2.2.2.2.2.2.2.2.2.2.2.2)
def r_X1_sendCrew (x_0 : Nat → Int32) (x_4 : Nat → Int32) (a : Int32) (b : Int32) : Int32 := ((upd x_4 b.toNatClampNeg ((2 : Int32) + ((x_0 a.toNatClampNeg) / (20 : Int32)))) b.toNatClampNeg)
abbrev po_X1_sendCrew (G : zG) (h : Nat) (ad : Nat → Nat) (x : zLand) (a : Int32) (b : Int32) : Option Value → va_W → Prop := fun r u => r = some (.int (r_X1_sendCrew x.1 x.2.2.2.2.1 a b)) ∧ u = landW G h ad (f_X1_sendCrew_x x a b)
set_option maxHeartbeats 4000000 in
set_option maxRecDepth 100000 in
theorem c_X1_sendCrew (l : Launch) (G : zG) (h : Nat) (ad : Nat → Nat) (x : zLand) (a : Int32) (b : Int32) (hp : vp_in a 48) (hc : vp_in b 3) : zC l yX1_sendCrew cX1_sendCrew 3 (some .int) 0 0 0 G [.ref h, .int a, .int b] (landW G h ad x) (po_X1_sendCrew G h ad x a b) := by
  refine zC.of RX1 rfl (by decide) (Nat.le_of_ble_eq_true rfl) ?_
  intro p e s m args below meth c A ls B hr hlk hnm hW hl
  have hx := B.x
  have hb := B.b
  have hl : lv_has ls 3 [(0, .ref h), (1, .int a), (2, .int b)] := hl
  refine lv_aload_n hx hb dX1_sendCrew_0 rfl (lv_at hl 0 rfl) ?_
  refine zget B hW 0 rfl lf_X1_28 rfl dX1_sendCrew_1 ?_
  refine lv_iload_n hx hb dX1_sendCrew_4 rfl (lv_at hl 2 rfl) ?_
  refine lv_iload_n hx hb dX1_sendCrew_5 rfl (lv_at hl 1 rfl) ?_
  refine ziast B hW 6 rfl (hc) dX1_sendCrew_6 (fun H locs hW => ?_)
  refine lv_aload_n hx hb dX1_sendCrew_7 rfl (lv_at hl 0 rfl) ?_
  refine zget B hW 0 rfl lf_X1_25 rfl dX1_sendCrew_8 ?_
  refine lv_iload_n hx hb dX1_sendCrew_11 rfl (lv_at hl 2 rfl) ?_
  refine lv_iconst (v := (2 : Int32)) hx hb dX1_sendCrew_12 (by decide) ?_
  refine lv_aload_n hx hb dX1_sendCrew_13 rfl (lv_at hl 0 rfl) ?_
  refine zget B hW 0 rfl lf_X1_9 rfl dX1_sendCrew_14 ?_
  refine lv_iload_n hx hb dX1_sendCrew_17 rfl (lv_at hl 1 rfl) ?_
  refine ziald B hW 1 rfl (hp) dX1_sendCrew_18 ?_
  refine lv_bipush (v := (20 : Int32)) hx hb dX1_sendCrew_19 (by decide) ?_
  refine lv_idiv hx hb dX1_sendCrew_21 (by decide) ?_
  refine lv_iadd hx hb dX1_sendCrew_22 ?_
  refine ziast B hW 5 rfl (hc) dX1_sendCrew_23 (fun H locs hW => ?_)
  refine lv_aload_n hx hb dX1_sendCrew_24 rfl (lv_at hl 0 rfl) ?_
  refine zget B hW 0 rfl lf_X1_25 rfl dX1_sendCrew_25 ?_
  refine lv_iload_n hx hb dX1_sendCrew_28 rfl (lv_at hl 2 rfl) ?_
  refine ziald B hW 5 rfl (hc) dX1_sendCrew_29 ?_
  exact ziret B hr hlk hW ⟨rfl, rfl⟩ (Nat.le_refl _) (Nat.le_refl _) dX1_sendCrew_30
def st_X1_smokeInAll_4 (q_x_2 : Nat → Int32) (i_4 : Nat) (y : Int64) : Int64 := (y + (q_x_2 i_4).toInt64)
def lp_X1_smokeInAll_4 (q_x_2 : Nat → Int32) (y0 : Int64) : Nat → Int64
  | 0 => y0
  | n0 + 1 => st_X1_smokeInAll_4 q_x_2 n0 (lp_X1_smokeInAll_4 q_x_2 y0 n0)
termination_by n0 => n0
theorem lp_X1_smokeInAll_4_0 (q_x_2 : Nat → Int32) (y0 : Int64) : lp_X1_smokeInAll_4 q_x_2 y0 0 = y0 := by rw [lp_X1_smokeInAll_4]
theorem lp_X1_smokeInAll_4_s (q_x_2 : Nat → Int32) (y0 : Int64) (n0 : Nat) : lp_X1_smokeInAll_4 q_x_2 y0 (n0 + 1) = st_X1_smokeInAll_4 q_x_2 n0 (lp_X1_smokeInAll_4 q_x_2 y0 n0) := by rw [lp_X1_smokeInAll_4]
def r_X1_smokeInAll (x_2 : Nat → Int32) : Int64 := (lp_X1_smokeInAll_4 x_2 (0 : Int64) 48)
abbrev po_X1_smokeInAll (G : zG) (h : Nat) (ad : Nat → Nat) (x : zLand) : Option Value → va_W → Prop := fun r u => r = some (.long (r_X1_smokeInAll x.2.2.1)) ∧ u = landW G h ad x
set_option maxHeartbeats 4000000 in
set_option maxRecDepth 100000 in
theorem c_X1_smokeInAll (l : Launch) (G : zG) (h : Nat) (ad : Nat → Nat) (x : zLand) : zC l yX1_smokeInAll cX1_smokeInAll 4 (some .long) 0 0 0 G [.ref h] (landW G h ad x) (po_X1_smokeInAll G h ad x) := by
  refine zC.of RX1 rfl (by decide) (Nat.le_of_ble_eq_true rfl) ?_
  intro p e s m args below meth c A ls B hr hlk hnm hW hl
  have hx := B.x
  have hb := B.b
  have hl : lv_has ls 4 [(0, .ref h)] := hl
  refine lv_lconst (v := (0 : Int64)) hx hb dX1_smokeInAll_0 (by decide) ?_
  refine lv_lstore_n hx hb dX1_smokeInAll_1 rfl hl (by decide) rfl (fun ls hl => ?_)
  refine lv_iconst (v := (0 : Int32)) hx hb dX1_smokeInAll_2 (by decide) ?_
  refine lv_istore_n hx hb dX1_smokeInAll_3 rfl hl (by decide) rfl (fun ls hl => ?_)
  have L_1 : ∀ i_4 : Nat, i_4 ≤ 48 → ∀ (H : Heap) (locs : List Loc) (ls : Array Slot), zW G A s.heap H locs (landW G h ad x) → lv_has ls 4 [(0, .ref h), (1, .long (lp_X1_smokeInAll_4 x.2.2.1 (0 : Int64) i_4)), (3, .int (nI i_4))] → W p l e (zRm 0 0 0) s m args below meth c H locs 0 0 (MQ below (zQ G A (po_X1_smokeInAll G h ad x)) args s 0 0 A) (F0 m 4 ls []) := by
    refine zloop 48 ?_ ?_
    · intro H locs ls hW hl
      have hl : lv_has ls 4 [(0, .ref h), (1, .long (lp_X1_smokeInAll_4 x.2.2.1 (0 : Int64) 48)), (3, .int (48 : Int32))] := hl
      refine lv_iload_n hx hb dX1_smokeInAll_4 rfl (lv_at hl 2 rfl) ?_
      refine lv_bipush (v := (48 : Int32)) hx hb dX1_smokeInAll_5 (by decide) ?_
      refine lv_icmp_ge (tgt := 26) hx hb dX1_smokeInAll_7 (by decide) (fun c_7 => ?_) (fun c_7 => absurd (zge (by decide)) c_7)
      refine lv_lload_n hx hb dX1_smokeInAll_26 rfl (lv_at hl 1 rfl) ?_
      exact zlret B hr hlk hW ⟨rfl, rfl⟩ (Nat.le_refl _) (Nat.le_refl _) dX1_smokeInAll_27
    · intro i_4 hi_4 ih H locs ls hW hl
      refine lv_iload_n hx hb dX1_smokeInAll_4 rfl (lv_at hl 2 rfl) ?_
      refine lv_bipush (v := (48 : Int32)) hx hb dX1_smokeInAll_5 (by decide) ?_
      refine lv_icmp_ge (tgt := 26) hx hb dX1_smokeInAll_7 (by decide) (fun c_7 => absurd c_7 (znle (by decide) hi_4 (by decide))) (fun c_7 => ?_)
      refine lv_lload_n hx hb dX1_smokeInAll_10 rfl (lv_at hl 1 rfl) ?_
      refine lv_aload_n hx hb dX1_smokeInAll_11 rfl (lv_at hl 0 rfl) ?_
      refine zget B hW 0 rfl lf_X1_18 rfl dX1_smokeInAll_12 ?_
      refine lv_iload_n hx hb dX1_smokeInAll_15 rfl (lv_at hl 2 rfl) ?_
      refine zialdN B hW 3 rfl i_4 rfl (by omega) (by decide) dX1_smokeInAll_16 ?_
      refine lv_i2l hx hb dX1_smokeInAll_17 rfl ?_
      refine lv_ladd hx hb dX1_smokeInAll_18 ?_
      refine lv_lstore_n hx hb dX1_smokeInAll_19 rfl hl (by decide) rfl (fun ls hl => ?_)
      refine lv_iinc (v := (nI (i_4 + 1))) hx hb dX1_smokeInAll_20 hl (k := 2) rfl (nI_1 _) (by decide) rfl (fun ls hl => ?_)
      refine lv_goto (tgt := 4) hx hb dX1_smokeInAll_23 (by decide) ?_
      exact ih _ _ _ (hW.eq rfl) (by rw [lp_X1_smokeInAll_4_s]; exact lv_sub hl [2, 1, 0] rfl)
  exact L_1 0 (Nat.zero_le _) _ _ _ (hW.eq rfl) (by rw [lp_X1_smokeInAll_4_0]; exact lv_sub hl [2, 1, 0] rfl)
def st_X1_dig_2 (q_x_5 : Nat → Int32) (i_2 : Nat) (y : (Nat → Int32) × (Nat → Int32) × (Nat → Int32)) : (Nat → Int32) × (Nat → Int32) × (Nat → Int32) := ((if (y.2.2 i_2) ≤ (0 : Int32) then y.1 else (if ((upd y.2.2 i_2 ((y.2.2 i_2) - (1 : Int32))) i_2) = (0 : Int32) then (upd y.1 (q_x_5 i_2).toNatClampNeg (0 : Int32)) else y.1)), (if (y.2.2 i_2) ≤ (0 : Int32) then y.2.1 else (if ((upd y.2.2 i_2 ((y.2.2 i_2) - (1 : Int32))) i_2) = (0 : Int32) then (upd y.2.1 (q_x_5 i_2).toNatClampNeg (1 : Int32)) else y.2.1)), (if (y.2.2 i_2) ≤ (0 : Int32) then y.2.2 else (upd y.2.2 i_2 ((y.2.2 i_2) - (1 : Int32)))))
def lp_X1_dig_2 (q_x_5 : Nat → Int32) (y0 : (Nat → Int32) × (Nat → Int32) × (Nat → Int32)) : Nat → (Nat → Int32) × (Nat → Int32) × (Nat → Int32)
  | 0 => y0
  | n0 + 1 => st_X1_dig_2 q_x_5 n0 (lp_X1_dig_2 q_x_5 y0 n0)
termination_by n0 => n0
theorem lp_X1_dig_2_0 (q_x_5 : Nat → Int32) (y0 : (Nat → Int32) × (Nat → Int32) × (Nat → Int32)) : lp_X1_dig_2 q_x_5 y0 0 = y0 := by rw [lp_X1_dig_2]
theorem lp_X1_dig_2_s (q_x_5 : Nat → Int32) (y0 : (Nat → Int32) × (Nat → Int32) × (Nat → Int32)) (n0 : Nat) : lp_X1_dig_2 q_x_5 y0 (n0 + 1) = st_X1_dig_2 q_x_5 n0 (lp_X1_dig_2 q_x_5 y0 n0) := by rw [lp_X1_dig_2]
def g_X1_dig_x_1 (x_1 : Nat → Int32) (x_3 : Nat → Int32) (x_4 : Nat → Int32) (x_5 : Nat → Int32) : Nat → Int32 := (lp_X1_dig_2 x_5 (x_1, x_3, x_4) 3).1
def g_X1_dig_x_3 (x_1 : Nat → Int32) (x_3 : Nat → Int32) (x_4 : Nat → Int32) (x_5 : Nat → Int32) : Nat → Int32 := (lp_X1_dig_2 x_5 (x_1, x_3, x_4) 3).2.1
def g_X1_dig_x_4 (x_1 : Nat → Int32) (x_3 : Nat → Int32) (x_4 : Nat → Int32) (x_5 : Nat → Int32) : Nat → Int32 := (lp_X1_dig_2 x_5 (x_1, x_3, x_4) 3).2.2
def f_X1_dig_x (x : zLand) : zLand := (x.1, g_X1_dig_x_1 x.2.1 x.2.2.2.1 x.2.2.2.2.1 x.2.2.2.2.2.1, x.2.2.1, g_X1_dig_x_3 x.2.1 x.2.2.2.1 x.2.2.2.2.1 x.2.2.2.2.2.1, g_X1_dig_x_4 x.2.1 x.2.2.2.1 x.2.2.2.2.1 x.2.2.2.2.2.1, x.2.2.2.2.2.1, x.2.2.2.2.2.2.1, x.2.2.2.2.2.2.2.1, x.2.2.2.2.2.2.2.2.1, x.2.2.2.2.2.2.2.2.2.1, x.2.2.2.2.2.2.2.2.2.2.1, x.2.2.2.2.2.2.2.2.2.2.2.1, x.2.2.2.2.2.2.2.2.2.2.2.2.1, x.2.2.2.2.2.2.2.2.2.2.2.2.2)
abbrev po_X1_dig (G : zG) (h : Nat) (ad : Nat → Nat) (x : zLand) : Option Value → va_W → Prop := fun r u => r = none ∧ u = landW G h ad (f_X1_dig_x x)
set_option maxHeartbeats 4000000 in
set_option maxRecDepth 100000 in
theorem c_X1_dig (l : Launch) (G : zG) (h : Nat) (ad : Nat → Nat) (x : zLand) (hq : ∀ k, k < 3 → vp_in (x.2.2.2.2.2.1 k) 48) : zC l yX1_dig cX1_dig 2 none 0 0 0 G [.ref h] (landW G h ad x) (po_X1_dig G h ad x) := by
  refine zC.of RX1 rfl (by decide) (Nat.le_of_ble_eq_true rfl) ?_
  intro p e s m args below meth c A ls B hr hlk hnm hW hl
  have hx := B.x
  have hb := B.b
  have hl : lv_has ls 2 [(0, .ref h)] := hl
  refine lv_iconst (v := (0 : Int32)) hx hb dX1_dig_0 (by decide) ?_
  refine lv_istore_n hx hb dX1_dig_1 rfl hl (by decide) rfl (fun ls hl => ?_)
  have L_1 : ∀ i_2 : Nat, i_2 ≤ 3 → ∀ (H : Heap) (locs : List Loc) (ls : Array Slot), zW G A s.heap H locs (landW G h ad (x.1, (lp_X1_dig_2 x.2.2.2.2.2.1 (x.2.1, x.2.2.2.1, x.2.2.2.2.1) i_2).1, x.2.2.1, (lp_X1_dig_2 x.2.2.2.2.2.1 (x.2.1, x.2.2.2.1, x.2.2.2.2.1) i_2).2.1, (lp_X1_dig_2 x.2.2.2.2.2.1 (x.2.1, x.2.2.2.1, x.2.2.2.2.1) i_2).2.2, x.2.2.2.2.2.1, x.2.2.2.2.2.2.1, x.2.2.2.2.2.2.2.1, x.2.2.2.2.2.2.2.2.1, x.2.2.2.2.2.2.2.2.2.1, x.2.2.2.2.2.2.2.2.2.2.1, x.2.2.2.2.2.2.2.2.2.2.2.1, x.2.2.2.2.2.2.2.2.2.2.2.2.1, x.2.2.2.2.2.2.2.2.2.2.2.2.2)) → lv_has ls 2 [(0, .ref h), (1, .int (nI i_2))] → W p l e (zRm 0 0 0) s m args below meth c H locs 0 0 (MQ below (zQ G A (po_X1_dig G h ad x)) args s 0 0 A) (F0 m 2 ls []) := by
    refine zloop 3 ?_ ?_
    · intro H locs ls hW hl
      have hl : lv_has ls 2 [(0, .ref h), (1, .int (3 : Int32))] := hl
      refine lv_iload_n hx hb dX1_dig_2 rfl (lv_at hl 1 rfl) ?_
      refine lv_iconst (v := (3 : Int32)) hx hb dX1_dig_3 (by decide) ?_
      refine lv_icmp_ge (tgt := 65) hx hb dX1_dig_4 (by decide) (fun c_4 => ?_) (fun c_4 => absurd (zge (by decide)) c_4)
      exact zvret B hr hlk hW ⟨rfl, rfl⟩ (Nat.le_refl _) (Nat.le_refl _) dX1_dig_65
    · intro i_2 hi_2 ih H locs ls hW hl
      refine lv_iload_n hx hb dX1_dig_2 rfl (lv_at hl 1 rfl) ?_
      refine lv_iconst (v := (3 : Int32)) hx hb dX1_dig_3 (by decide) ?_
      refine lv_icmp_ge (tgt := 65) hx hb dX1_dig_4 (by decide) (fun c_4 => absurd c_4 (znle (by decide) hi_2 (by decide))) (fun c_4 => ?_)
      refine lv_aload_n hx hb dX1_dig_7 rfl (lv_at hl 0 rfl) ?_
      refine zget B hW 0 rfl lf_X1_25 rfl dX1_dig_8 ?_
      refine lv_iload_n hx hb dX1_dig_11 rfl (lv_at hl 1 rfl) ?_
      refine zialdN B hW 5 rfl i_2 rfl (by omega) (by decide) dX1_dig_12 ?_
      have J_2 : ∀ (H : Heap) (locs : List Loc) (ls : Array Slot), zW G A s.heap H locs (landW G h ad (x.1, (if (((lp_X1_dig_2 x.2.2.2.2.2.1 (x.2.1, x.2.2.2.1, x.2.2.2.2.1) i_2).2.2) i_2) ≤ (0 : Int32) then (lp_X1_dig_2 x.2.2.2.2.2.1 (x.2.1, x.2.2.2.1, x.2.2.2.2.1) i_2).1 else (if ((upd ((lp_X1_dig_2 x.2.2.2.2.2.1 (x.2.1, x.2.2.2.1, x.2.2.2.2.1) i_2).2.2) i_2 ((((lp_X1_dig_2 x.2.2.2.2.2.1 (x.2.1, x.2.2.2.1, x.2.2.2.2.1) i_2).2.2) i_2) - (1 : Int32))) i_2) = (0 : Int32) then (upd ((lp_X1_dig_2 x.2.2.2.2.2.1 (x.2.1, x.2.2.2.1, x.2.2.2.2.1) i_2).1) (x.2.2.2.2.2.1 i_2).toNatClampNeg (0 : Int32)) else (lp_X1_dig_2 x.2.2.2.2.2.1 (x.2.1, x.2.2.2.1, x.2.2.2.2.1) i_2).1)), x.2.2.1, (if (((lp_X1_dig_2 x.2.2.2.2.2.1 (x.2.1, x.2.2.2.1, x.2.2.2.2.1) i_2).2.2) i_2) ≤ (0 : Int32) then (lp_X1_dig_2 x.2.2.2.2.2.1 (x.2.1, x.2.2.2.1, x.2.2.2.2.1) i_2).2.1 else (if ((upd ((lp_X1_dig_2 x.2.2.2.2.2.1 (x.2.1, x.2.2.2.1, x.2.2.2.2.1) i_2).2.2) i_2 ((((lp_X1_dig_2 x.2.2.2.2.2.1 (x.2.1, x.2.2.2.1, x.2.2.2.2.1) i_2).2.2) i_2) - (1 : Int32))) i_2) = (0 : Int32) then (upd ((lp_X1_dig_2 x.2.2.2.2.2.1 (x.2.1, x.2.2.2.1, x.2.2.2.2.1) i_2).2.1) (x.2.2.2.2.2.1 i_2).toNatClampNeg (1 : Int32)) else (lp_X1_dig_2 x.2.2.2.2.2.1 (x.2.1, x.2.2.2.1, x.2.2.2.2.1) i_2).2.1)), (if (((lp_X1_dig_2 x.2.2.2.2.2.1 (x.2.1, x.2.2.2.1, x.2.2.2.2.1) i_2).2.2) i_2) ≤ (0 : Int32) then (lp_X1_dig_2 x.2.2.2.2.2.1 (x.2.1, x.2.2.2.1, x.2.2.2.2.1) i_2).2.2 else (upd ((lp_X1_dig_2 x.2.2.2.2.2.1 (x.2.1, x.2.2.2.1, x.2.2.2.2.1) i_2).2.2) i_2 ((((lp_X1_dig_2 x.2.2.2.2.2.1 (x.2.1, x.2.2.2.1, x.2.2.2.2.1) i_2).2.2) i_2) - (1 : Int32)))), x.2.2.2.2.2.1, x.2.2.2.2.2.2.1, x.2.2.2.2.2.2.2.1, x.2.2.2.2.2.2.2.2.1, x.2.2.2.2.2.2.2.2.2.1, x.2.2.2.2.2.2.2.2.2.2.1, x.2.2.2.2.2.2.2.2.2.2.2.1, x.2.2.2.2.2.2.2.2.2.2.2.2.1, x.2.2.2.2.2.2.2.2.2.2.2.2.2)) → lv_has ls 2 [(0, .ref h), (1, .int (nI i_2))] → W p l e (zRm 0 0 0) s m args below meth c H locs 0 0 (MQ below (zQ G A (po_X1_dig G h ad x)) args s 0 0 A) (F0 m 59 ls []) := by
        intro H locs ls hW hl
        refine lv_iinc (v := (nI (i_2 + 1))) hx hb dX1_dig_59 hl (k := 1) rfl (nI_1 _) (by decide) rfl (fun ls hl => ?_)
        refine lv_goto (tgt := 2) hx hb dX1_dig_62 (by decide) ?_
        exact ih _ _ _ (hW.eq (by rw [lp_X1_dig_2_s] <;> rfl)) (lv_sub hl [1, 0] rfl)
      refine lv_if_le (tgt := 59) hx hb dX1_dig_13 (by decide) (fun c_13 => ?_) (fun c_13 => ?_)
      · have e_0 : (if (((lp_X1_dig_2 x.2.2.2.2.2.1 (x.2.1, x.2.2.2.1, x.2.2.2.2.1) i_2).2.2) i_2) ≤ (0 : Int32) then (lp_X1_dig_2 x.2.2.2.2.2.1 (x.2.1, x.2.2.2.1, x.2.2.2.2.1) i_2).1 else (if ((upd ((lp_X1_dig_2 x.2.2.2.2.2.1 (x.2.1, x.2.2.2.1, x.2.2.2.2.1) i_2).2.2) i_2 ((((lp_X1_dig_2 x.2.2.2.2.2.1 (x.2.1, x.2.2.2.1, x.2.2.2.2.1) i_2).2.2) i_2) - (1 : Int32))) i_2) = (0 : Int32) then (upd ((lp_X1_dig_2 x.2.2.2.2.2.1 (x.2.1, x.2.2.2.1, x.2.2.2.2.1) i_2).1) (x.2.2.2.2.2.1 i_2).toNatClampNeg (0 : Int32)) else (lp_X1_dig_2 x.2.2.2.2.2.1 (x.2.1, x.2.2.2.1, x.2.2.2.2.1) i_2).1)) = (lp_X1_dig_2 x.2.2.2.2.2.1 (x.2.1, x.2.2.2.1, x.2.2.2.2.1) i_2).1 := if_pos c_13
        have e_1 : (if (((lp_X1_dig_2 x.2.2.2.2.2.1 (x.2.1, x.2.2.2.1, x.2.2.2.2.1) i_2).2.2) i_2) ≤ (0 : Int32) then (lp_X1_dig_2 x.2.2.2.2.2.1 (x.2.1, x.2.2.2.1, x.2.2.2.2.1) i_2).2.1 else (if ((upd ((lp_X1_dig_2 x.2.2.2.2.2.1 (x.2.1, x.2.2.2.1, x.2.2.2.2.1) i_2).2.2) i_2 ((((lp_X1_dig_2 x.2.2.2.2.2.1 (x.2.1, x.2.2.2.1, x.2.2.2.2.1) i_2).2.2) i_2) - (1 : Int32))) i_2) = (0 : Int32) then (upd ((lp_X1_dig_2 x.2.2.2.2.2.1 (x.2.1, x.2.2.2.1, x.2.2.2.2.1) i_2).2.1) (x.2.2.2.2.2.1 i_2).toNatClampNeg (1 : Int32)) else (lp_X1_dig_2 x.2.2.2.2.2.1 (x.2.1, x.2.2.2.1, x.2.2.2.2.1) i_2).2.1)) = (lp_X1_dig_2 x.2.2.2.2.2.1 (x.2.1, x.2.2.2.1, x.2.2.2.2.1) i_2).2.1 := if_pos c_13
        have e_2 : (if (((lp_X1_dig_2 x.2.2.2.2.2.1 (x.2.1, x.2.2.2.1, x.2.2.2.2.1) i_2).2.2) i_2) ≤ (0 : Int32) then (lp_X1_dig_2 x.2.2.2.2.2.1 (x.2.1, x.2.2.2.1, x.2.2.2.2.1) i_2).2.2 else (upd ((lp_X1_dig_2 x.2.2.2.2.2.1 (x.2.1, x.2.2.2.1, x.2.2.2.2.1) i_2).2.2) i_2 ((((lp_X1_dig_2 x.2.2.2.2.2.1 (x.2.1, x.2.2.2.1, x.2.2.2.2.1) i_2).2.2) i_2) - (1 : Int32)))) = (lp_X1_dig_2 x.2.2.2.2.2.1 (x.2.1, x.2.2.2.1, x.2.2.2.2.1) i_2).2.2 := if_pos c_13
        exact J_2 _ _ _ (hW.eq (by (try rw [e_0]) <;> (try rw [e_1]) <;> (try rw [e_2]) <;> rfl)) (by (try rw [e_0]) <;> (try rw [e_1]) <;> (try rw [e_2]) <;> exact lv_sub hl [0, 1] rfl)
      · refine lv_aload_n hx hb dX1_dig_16 rfl (lv_at hl 0 rfl) ?_
        refine zget B hW 0 rfl lf_X1_25 rfl dX1_dig_17 ?_
        refine lv_iload_n hx hb dX1_dig_20 rfl (lv_at hl 1 rfl) ?_
        refine lv_dup2_11 hx hb dX1_dig_21 rfl rfl ?_
        refine zialdN B hW 5 rfl i_2 rfl (by omega) (by decide) dX1_dig_22 ?_
        refine lv_iconst (v := (1 : Int32)) hx hb dX1_dig_23 (by decide) ?_
        refine lv_isub hx hb dX1_dig_24 ?_
        refine ziastN B hW 5 rfl i_2 rfl (by omega) (by decide) dX1_dig_25 (fun H locs hW => ?_)
        refine lv_aload_n hx hb dX1_dig_26 rfl (lv_at hl 0 rfl) ?_
        refine zget B hW 0 rfl lf_X1_25 rfl dX1_dig_27 ?_
        refine lv_iload_n hx hb dX1_dig_30 rfl (lv_at hl 1 rfl) ?_
        refine zialdN B hW 5 rfl i_2 rfl (by omega) (by decide) dX1_dig_31 ?_
        refine lv_if_ne (tgt := 59) hx hb dX1_dig_32 (by decide) (fun c_32 => ?_) (fun c_32 => ?_)
        · have e_0 : (if (((lp_X1_dig_2 x.2.2.2.2.2.1 (x.2.1, x.2.2.2.1, x.2.2.2.2.1) i_2).2.2) i_2) ≤ (0 : Int32) then (lp_X1_dig_2 x.2.2.2.2.2.1 (x.2.1, x.2.2.2.1, x.2.2.2.2.1) i_2).1 else (if ((upd ((lp_X1_dig_2 x.2.2.2.2.2.1 (x.2.1, x.2.2.2.1, x.2.2.2.2.1) i_2).2.2) i_2 ((((lp_X1_dig_2 x.2.2.2.2.2.1 (x.2.1, x.2.2.2.1, x.2.2.2.2.1) i_2).2.2) i_2) - (1 : Int32))) i_2) = (0 : Int32) then (upd ((lp_X1_dig_2 x.2.2.2.2.2.1 (x.2.1, x.2.2.2.1, x.2.2.2.2.1) i_2).1) (x.2.2.2.2.2.1 i_2).toNatClampNeg (0 : Int32)) else (lp_X1_dig_2 x.2.2.2.2.2.1 (x.2.1, x.2.2.2.1, x.2.2.2.2.1) i_2).1)) = (lp_X1_dig_2 x.2.2.2.2.2.1 (x.2.1, x.2.2.2.1, x.2.2.2.2.1) i_2).1 := (if_neg c_13).trans (if_neg c_32)
          have e_1 : (if (((lp_X1_dig_2 x.2.2.2.2.2.1 (x.2.1, x.2.2.2.1, x.2.2.2.2.1) i_2).2.2) i_2) ≤ (0 : Int32) then (lp_X1_dig_2 x.2.2.2.2.2.1 (x.2.1, x.2.2.2.1, x.2.2.2.2.1) i_2).2.1 else (if ((upd ((lp_X1_dig_2 x.2.2.2.2.2.1 (x.2.1, x.2.2.2.1, x.2.2.2.2.1) i_2).2.2) i_2 ((((lp_X1_dig_2 x.2.2.2.2.2.1 (x.2.1, x.2.2.2.1, x.2.2.2.2.1) i_2).2.2) i_2) - (1 : Int32))) i_2) = (0 : Int32) then (upd ((lp_X1_dig_2 x.2.2.2.2.2.1 (x.2.1, x.2.2.2.1, x.2.2.2.2.1) i_2).2.1) (x.2.2.2.2.2.1 i_2).toNatClampNeg (1 : Int32)) else (lp_X1_dig_2 x.2.2.2.2.2.1 (x.2.1, x.2.2.2.1, x.2.2.2.2.1) i_2).2.1)) = (lp_X1_dig_2 x.2.2.2.2.2.1 (x.2.1, x.2.2.2.1, x.2.2.2.2.1) i_2).2.1 := (if_neg c_13).trans (if_neg c_32)
          have e_2 : (if (((lp_X1_dig_2 x.2.2.2.2.2.1 (x.2.1, x.2.2.2.1, x.2.2.2.2.1) i_2).2.2) i_2) ≤ (0 : Int32) then (lp_X1_dig_2 x.2.2.2.2.2.1 (x.2.1, x.2.2.2.1, x.2.2.2.2.1) i_2).2.2 else (upd ((lp_X1_dig_2 x.2.2.2.2.2.1 (x.2.1, x.2.2.2.1, x.2.2.2.2.1) i_2).2.2) i_2 ((((lp_X1_dig_2 x.2.2.2.2.2.1 (x.2.1, x.2.2.2.1, x.2.2.2.2.1) i_2).2.2) i_2) - (1 : Int32)))) = (upd ((lp_X1_dig_2 x.2.2.2.2.2.1 (x.2.1, x.2.2.2.1, x.2.2.2.2.1) i_2).2.2) i_2 ((((lp_X1_dig_2 x.2.2.2.2.2.1 (x.2.1, x.2.2.2.1, x.2.2.2.2.1) i_2).2.2) i_2) - (1 : Int32))) := if_neg c_13
          exact J_2 _ _ _ (hW.eq (by (try rw [e_0]) <;> (try rw [e_1]) <;> (try rw [e_2]) <;> rfl)) (by (try rw [e_0]) <;> (try rw [e_1]) <;> (try rw [e_2]) <;> exact lv_sub hl [0, 1] rfl)
        · refine lv_aload_n hx hb dX1_dig_35 rfl (lv_at hl 0 rfl) ?_
          refine zget B hW 0 rfl lf_X1_21 rfl dX1_dig_36 ?_
          refine lv_aload_n hx hb dX1_dig_39 rfl (lv_at hl 0 rfl) ?_
          refine zget B hW 0 rfl lf_X1_28 rfl dX1_dig_40 ?_
          refine lv_iload_n hx hb dX1_dig_43 rfl (lv_at hl 1 rfl) ?_
          refine zialdN B hW 6 rfl i_2 rfl (by omega) (by decide) dX1_dig_44 ?_
          refine lv_iconst (v := (1 : Int32)) hx hb dX1_dig_45 (by decide) ?_
          refine zzast B hW 4 rfl (by first | decide | ((repeat' split) <;> rfl)) (hq _ hi_2) dX1_dig_46 (fun H locs hW => ?_)
          refine lv_aload_n hx hb dX1_dig_47 rfl (lv_at hl 0 rfl) ?_
          refine zget B hW 0 rfl lf_X1_15 rfl dX1_dig_48 ?_
          refine lv_aload_n hx hb dX1_dig_51 rfl (lv_at hl 0 rfl) ?_
          refine zget B hW 0 rfl lf_X1_28 rfl dX1_dig_52 ?_
          refine lv_iload_n hx hb dX1_dig_55 rfl (lv_at hl 1 rfl) ?_
          refine zialdN B hW 6 rfl i_2 rfl (by omega) (by decide) dX1_dig_56 ?_
          refine lv_iconst (v := (0 : Int32)) hx hb dX1_dig_57 (by decide) ?_
          refine ziast B hW 2 rfl (hq _ hi_2) dX1_dig_58 (fun H locs hW => ?_)
          have e_0 : (if (((lp_X1_dig_2 x.2.2.2.2.2.1 (x.2.1, x.2.2.2.1, x.2.2.2.2.1) i_2).2.2) i_2) ≤ (0 : Int32) then (lp_X1_dig_2 x.2.2.2.2.2.1 (x.2.1, x.2.2.2.1, x.2.2.2.2.1) i_2).1 else (if ((upd ((lp_X1_dig_2 x.2.2.2.2.2.1 (x.2.1, x.2.2.2.1, x.2.2.2.2.1) i_2).2.2) i_2 ((((lp_X1_dig_2 x.2.2.2.2.2.1 (x.2.1, x.2.2.2.1, x.2.2.2.2.1) i_2).2.2) i_2) - (1 : Int32))) i_2) = (0 : Int32) then (upd ((lp_X1_dig_2 x.2.2.2.2.2.1 (x.2.1, x.2.2.2.1, x.2.2.2.2.1) i_2).1) (x.2.2.2.2.2.1 i_2).toNatClampNeg (0 : Int32)) else (lp_X1_dig_2 x.2.2.2.2.2.1 (x.2.1, x.2.2.2.1, x.2.2.2.2.1) i_2).1)) = (upd ((lp_X1_dig_2 x.2.2.2.2.2.1 (x.2.1, x.2.2.2.1, x.2.2.2.2.1) i_2).1) (x.2.2.2.2.2.1 i_2).toNatClampNeg (0 : Int32)) := (if_neg c_13).trans (if_pos c_32)
          have e_1 : (if (((lp_X1_dig_2 x.2.2.2.2.2.1 (x.2.1, x.2.2.2.1, x.2.2.2.2.1) i_2).2.2) i_2) ≤ (0 : Int32) then (lp_X1_dig_2 x.2.2.2.2.2.1 (x.2.1, x.2.2.2.1, x.2.2.2.2.1) i_2).2.1 else (if ((upd ((lp_X1_dig_2 x.2.2.2.2.2.1 (x.2.1, x.2.2.2.1, x.2.2.2.2.1) i_2).2.2) i_2 ((((lp_X1_dig_2 x.2.2.2.2.2.1 (x.2.1, x.2.2.2.1, x.2.2.2.2.1) i_2).2.2) i_2) - (1 : Int32))) i_2) = (0 : Int32) then (upd ((lp_X1_dig_2 x.2.2.2.2.2.1 (x.2.1, x.2.2.2.1, x.2.2.2.2.1) i_2).2.1) (x.2.2.2.2.2.1 i_2).toNatClampNeg (1 : Int32)) else (lp_X1_dig_2 x.2.2.2.2.2.1 (x.2.1, x.2.2.2.1, x.2.2.2.2.1) i_2).2.1)) = (upd ((lp_X1_dig_2 x.2.2.2.2.2.1 (x.2.1, x.2.2.2.1, x.2.2.2.2.1) i_2).2.1) (x.2.2.2.2.2.1 i_2).toNatClampNeg (1 : Int32)) := (if_neg c_13).trans (if_pos c_32)
          have e_2 : (if (((lp_X1_dig_2 x.2.2.2.2.2.1 (x.2.1, x.2.2.2.1, x.2.2.2.2.1) i_2).2.2) i_2) ≤ (0 : Int32) then (lp_X1_dig_2 x.2.2.2.2.2.1 (x.2.1, x.2.2.2.1, x.2.2.2.2.1) i_2).2.2 else (upd ((lp_X1_dig_2 x.2.2.2.2.2.1 (x.2.1, x.2.2.2.1, x.2.2.2.2.1) i_2).2.2) i_2 ((((lp_X1_dig_2 x.2.2.2.2.2.1 (x.2.1, x.2.2.2.1, x.2.2.2.2.1) i_2).2.2) i_2) - (1 : Int32)))) = (upd ((lp_X1_dig_2 x.2.2.2.2.2.1 (x.2.1, x.2.2.2.1, x.2.2.2.2.1) i_2).2.2) i_2 ((((lp_X1_dig_2 x.2.2.2.2.2.1 (x.2.1, x.2.2.2.1, x.2.2.2.2.1) i_2).2.2) i_2) - (1 : Int32))) := if_neg c_13
          exact J_2 _ _ _ (hW.eq (by (try rw [e_0]) <;> (try rw [e_1]) <;> (try rw [e_2]) <;> rfl)) (by (try rw [e_0]) <;> (try rw [e_1]) <;> (try rw [e_2]) <;> exact lv_sub hl [0, 1] rfl)
  exact L_1 0 (Nat.zero_le _) _ _ _ (hW.eq (by rw [lp_X1_dig_2_0] <;> rfl)) (lv_sub hl [1, 0] rfl)
def st_X1_burn_9 (v_1 : Int32) (i_9 : Nat) (y : (Nat → Int32) × (Nat → Int32) × (Nat → Int32) × Int64) : (Nat → Int32) × (Nat → Int32) × (Nat → Int32) × Int64 := ((upd y.1 i_9 ((y.1 i_9) - (if (y.1 i_9) ≤ (y.2.1 i_9) then (y.1 i_9) else (y.2.1 i_9)))), (upd y.2.1 i_9 (if ((upd y.1 i_9 ((y.1 i_9) - (if (y.1 i_9) ≤ (y.2.1 i_9) then (y.1 i_9) else (y.2.1 i_9)))) i_9) = (0 : Int32) then (0 : Int32) else (if v_1 ≤ (y.2.1 i_9) then ((y.2.1 i_9) - v_1) else (0 : Int32)))), (upd y.2.2.1 i_9 ((y.2.2.1 i_9) + ((if (y.1 i_9) ≤ (y.2.1 i_9) then (y.1 i_9) else (y.2.1 i_9)) * (10 : Int32)))), (y.2.2.2 + ((if (y.1 i_9) ≤ (y.2.1 i_9) then (y.1 i_9) else (y.2.1 i_9)) * (10 : Int32)).toInt64))
def lp_X1_burn_9 (v_1 : Int32) (y0 : (Nat → Int32) × (Nat → Int32) × (Nat → Int32) × Int64) : Nat → (Nat → Int32) × (Nat → Int32) × (Nat → Int32) × Int64
  | 0 => y0
  | n0 + 1 => st_X1_burn_9 v_1 n0 (lp_X1_burn_9 v_1 y0 n0)
termination_by n0 => n0
theorem lp_X1_burn_9_0 (v_1 : Int32) (y0 : (Nat → Int32) × (Nat → Int32) × (Nat → Int32) × Int64) : lp_X1_burn_9 v_1 y0 0 = y0 := by rw [lp_X1_burn_9]
theorem lp_X1_burn_9_s (v_1 : Int32) (y0 : (Nat → Int32) × (Nat → Int32) × (Nat → Int32) × Int64) (n0 : Nat) : lp_X1_burn_9 v_1 y0 (n0 + 1) = st_X1_burn_9 v_1 n0 (lp_X1_burn_9 v_1 y0 n0) := by rw [lp_X1_burn_9]
def g_X1_burn_x_0 (x_0 : Nat → Int32) (x_1 : Nat → Int32) (x_2 : Nat → Int32) (x_10 : Int32) (x_11 : Int64) : Nat → Int32 := (lp_X1_burn_9 (x_10 / (3 : Int32)) (x_0, x_1, x_2, x_11) 48).1
def g_X1_burn_x_1 (x_0 : Nat → Int32) (x_1 : Nat → Int32) (x_2 : Nat → Int32) (x_10 : Int32) (x_11 : Int64) : Nat → Int32 := (lp_X1_burn_9 (x_10 / (3 : Int32)) (x_0, x_1, x_2, x_11) 48).2.1
def g_X1_burn_x_2 (x_0 : Nat → Int32) (x_1 : Nat → Int32) (x_2 : Nat → Int32) (x_10 : Int32) (x_11 : Int64) : Nat → Int32 := (lp_X1_burn_9 (x_10 / (3 : Int32)) (x_0, x_1, x_2, x_11) 48).2.2.1
def g_X1_burn_x_11 (x_0 : Nat → Int32) (x_1 : Nat → Int32) (x_2 : Nat → Int32) (x_10 : Int32) (x_11 : Int64) : Int64 := (lp_X1_burn_9 (x_10 / (3 : Int32)) (x_0, x_1, x_2, x_11) 48).2.2.2
def f_X1_burn_x (x : zLand) : zLand := (g_X1_burn_x_0 x.1 x.2.1 x.2.2.1 x.2.2.2.2.2.2.2.2.2.2.1 x.2.2.2.2.2.2.2.2.2.2.2.1, g_X1_burn_x_1 x.1 x.2.1 x.2.2.1 x.2.2.2.2.2.2.2.2.2.2.1 x.2.2.2.2.2.2.2.2.2.2.2.1, g_X1_burn_x_2 x.1 x.2.1 x.2.2.1 x.2.2.2.2.2.2.2.2.2.2.1 x.2.2.2.2.2.2.2.2.2.2.2.1, x.2.2.2.1, x.2.2.2.2.1, x.2.2.2.2.2.1, x.2.2.2.2.2.2.1, x.2.2.2.2.2.2.2.1, x.2.2.2.2.2.2.2.2.1, x.2.2.2.2.2.2.2.2.2.1, x.2.2.2.2.2.2.2.2.2.2.1, g_X1_burn_x_11 x.1 x.2.1 x.2.2.1 x.2.2.2.2.2.2.2.2.2.2.1 x.2.2.2.2.2.2.2.2.2.2.2.1, x.2.2.2.2.2.2.2.2.2.2.2.2.1, x.2.2.2.2.2.2.2.2.2.2.2.2.2)
abbrev po_X1_burn (G : zG) (h : Nat) (ad : Nat → Nat) (x : zLand) : Option Value → va_W → Prop := fun r u => r = none ∧ u = landW G h ad (f_X1_burn_x x)
set_option maxHeartbeats 4000000 in
set_option maxRecDepth 100000 in
theorem c_X1_burn (l : Launch) (G : zG) (h : Nat) (ad : Nat → Nat) (x : zLand) : zC l yX1_burn cX1_burn 4 none 0 0 0 G [.ref h] (landW G h ad x) (po_X1_burn G h ad x) := by
  refine zC.of RX1 rfl (by decide) (Nat.le_of_ble_eq_true rfl) ?_
  intro p e s m args below meth c A ls B hr hlk hnm hW hl
  have hx := B.x
  have hb := B.b
  have hl : lv_has ls 4 [(0, .ref h)] := hl
  refine lv_aload_n hx hb dX1_burn_0 rfl (lv_at hl 0 rfl) ?_
  refine zget B hW 0 rfl lf_X1_44 rfl dX1_burn_1 ?_
  refine lv_iconst (v := (3 : Int32)) hx hb dX1_burn_4 (by decide) ?_
  refine lv_idiv hx hb dX1_burn_5 (by decide) ?_
  refine lv_istore_n hx hb dX1_burn_6 rfl hl (by decide) rfl (fun ls hl => ?_)
  refine lv_iconst (v := (0 : Int32)) hx hb dX1_burn_7 (by decide) ?_
  refine lv_istore_n hx hb dX1_burn_8 rfl hl (by decide) rfl (fun ls hl => ?_)
  have L_1 : ∀ i_9 : Nat, i_9 ≤ 48 → ∀ (H : Heap) (locs : List Loc) (ls : Array Slot), zW G A s.heap H locs (landW G h ad ((lp_X1_burn_9 (x.2.2.2.2.2.2.2.2.2.2.1 / (3 : Int32)) (x.1, x.2.1, x.2.2.1, x.2.2.2.2.2.2.2.2.2.2.2.1) i_9).1, (lp_X1_burn_9 (x.2.2.2.2.2.2.2.2.2.2.1 / (3 : Int32)) (x.1, x.2.1, x.2.2.1, x.2.2.2.2.2.2.2.2.2.2.2.1) i_9).2.1, (lp_X1_burn_9 (x.2.2.2.2.2.2.2.2.2.2.1 / (3 : Int32)) (x.1, x.2.1, x.2.2.1, x.2.2.2.2.2.2.2.2.2.2.2.1) i_9).2.2.1, x.2.2.2.1, x.2.2.2.2.1, x.2.2.2.2.2.1, x.2.2.2.2.2.2.1, x.2.2.2.2.2.2.2.1, x.2.2.2.2.2.2.2.2.1, x.2.2.2.2.2.2.2.2.2.1, x.2.2.2.2.2.2.2.2.2.2.1, (lp_X1_burn_9 (x.2.2.2.2.2.2.2.2.2.2.1 / (3 : Int32)) (x.1, x.2.1, x.2.2.1, x.2.2.2.2.2.2.2.2.2.2.2.1) i_9).2.2.2, x.2.2.2.2.2.2.2.2.2.2.2.2.1, x.2.2.2.2.2.2.2.2.2.2.2.2.2)) → lv_has ls 4 [(0, .ref h), (1, .int (x.2.2.2.2.2.2.2.2.2.2.1 / (3 : Int32))), (2, .int (nI i_9))] → W p l e (zRm 0 0 0) s m args below meth c H locs 0 0 (MQ below (zQ G A (po_X1_burn G h ad x)) args s 0 0 A) (F0 m 9 ls []) := by
    refine zloop 48 ?_ ?_
    · intro H locs ls hW hl
      have hl : lv_has ls 4 [(0, .ref h), (1, .int (x.2.2.2.2.2.2.2.2.2.2.1 / (3 : Int32))), (2, .int (48 : Int32))] := hl
      refine lv_iload_n hx hb dX1_burn_9 rfl (lv_at hl 2 rfl) ?_
      refine lv_bipush (v := (48 : Int32)) hx hb dX1_burn_10 (by decide) ?_
      refine lv_icmp_ge (tgt := 126) hx hb dX1_burn_12 (by decide) (fun c_12 => ?_) (fun c_12 => absurd (zge (by decide)) c_12)
      exact zvret B hr hlk hW ⟨rfl, rfl⟩ (Nat.le_refl _) (Nat.le_refl _) dX1_burn_126
    · intro i_9 hi_9 ih H locs ls hW hl
      refine lv_iload_n hx hb dX1_burn_9 rfl (lv_at hl 2 rfl) ?_
      refine lv_bipush (v := (48 : Int32)) hx hb dX1_burn_10 (by decide) ?_
      refine lv_icmp_ge (tgt := 126) hx hb dX1_burn_12 (by decide) (fun c_12 => absurd c_12 (znle (by decide) hi_9 (by decide))) (fun c_12 => ?_)
      refine lv_aload_n hx hb dX1_burn_15 rfl (lv_at hl 0 rfl) ?_
      refine zget B hW 0 rfl lf_X1_15 rfl dX1_burn_16 ?_
      refine lv_iload_n hx hb dX1_burn_19 rfl (lv_at hl 2 rfl) ?_
      refine zialdN B hW 2 rfl i_9 rfl (by omega) (by decide) dX1_burn_20 ?_
      refine lv_aload_n hx hb dX1_burn_21 rfl (lv_at hl 0 rfl) ?_
      refine zget B hW 0 rfl lf_X1_9 rfl dX1_burn_22 ?_
      refine lv_iload_n hx hb dX1_burn_25 rfl (lv_at hl 2 rfl) ?_
      refine zialdN B hW 1 rfl i_9 rfl (by omega) (by decide) dX1_burn_26 ?_
      have J_2 : ∀ (H : Heap) (locs : List Loc) (ls : Array Slot), zW G A s.heap H locs (landW G h ad ((lp_X1_burn_9 (x.2.2.2.2.2.2.2.2.2.2.1 / (3 : Int32)) (x.1, x.2.1, x.2.2.1, x.2.2.2.2.2.2.2.2.2.2.2.1) i_9).1, (lp_X1_burn_9 (x.2.2.2.2.2.2.2.2.2.2.1 / (3 : Int32)) (x.1, x.2.1, x.2.2.1, x.2.2.2.2.2.2.2.2.2.2.2.1) i_9).2.1, (lp_X1_burn_9 (x.2.2.2.2.2.2.2.2.2.2.1 / (3 : Int32)) (x.1, x.2.1, x.2.2.1, x.2.2.2.2.2.2.2.2.2.2.2.1) i_9).2.2.1, x.2.2.2.1, x.2.2.2.2.1, x.2.2.2.2.2.1, x.2.2.2.2.2.2.1, x.2.2.2.2.2.2.2.1, x.2.2.2.2.2.2.2.2.1, x.2.2.2.2.2.2.2.2.2.1, x.2.2.2.2.2.2.2.2.2.2.1, (lp_X1_burn_9 (x.2.2.2.2.2.2.2.2.2.2.1 / (3 : Int32)) (x.1, x.2.1, x.2.2.1, x.2.2.2.2.2.2.2.2.2.2.2.1) i_9).2.2.2, x.2.2.2.2.2.2.2.2.2.2.2.2.1, x.2.2.2.2.2.2.2.2.2.2.2.2.2)) → lv_has ls 4 [(0, .ref h), (1, .int (x.2.2.2.2.2.2.2.2.2.2.1 / (3 : Int32))), (2, .int (nI i_9))] → W p l e (zRm 0 0 0) s m args below meth c H locs 0 0 (MQ below (zQ G A (po_X1_burn G h ad x)) args s 0 0 A) (F0 m 45 ls [.int (if (((lp_X1_burn_9 (x.2.2.2.2.2.2.2.2.2.2.1 / (3 : Int32)) (x.1, x.2.1, x.2.2.1, x.2.2.2.2.2.2.2.2.2.2.2.1) i_9).1) i_9) ≤ (((lp_X1_burn_9 (x.2.2.2.2.2.2.2.2.2.2.1 / (3 : Int32)) (x.1, x.2.1, x.2.2.1, x.2.2.2.2.2.2.2.2.2.2.2.1) i_9).2.1) i_9) then (((lp_X1_burn_9 (x.2.2.2.2.2.2.2.2.2.2.1 / (3 : Int32)) (x.1, x.2.1, x.2.2.1, x.2.2.2.2.2.2.2.2.2.2.2.1) i_9).1) i_9) else (((lp_X1_burn_9 (x.2.2.2.2.2.2.2.2.2.2.1 / (3 : Int32)) (x.1, x.2.1, x.2.2.1, x.2.2.2.2.2.2.2.2.2.2.2.1) i_9).2.1) i_9))]) := by
        intro H locs ls hW hl
        refine lv_istore_n hx hb dX1_burn_45 rfl hl (by decide) rfl (fun ls hl => ?_)
        refine lv_aload_n hx hb dX1_burn_46 rfl (lv_at hl 1 rfl) ?_
        refine zget B hW 0 rfl lf_X1_9 rfl dX1_burn_47 ?_
        refine lv_iload_n hx hb dX1_burn_50 rfl (lv_at hl 3 rfl) ?_
        refine lv_dup2_11 hx hb dX1_burn_51 rfl rfl ?_
        refine zialdN B hW 1 rfl i_9 rfl (by omega) (by decide) dX1_burn_52 ?_
        refine lv_iload_n hx hb dX1_burn_53 rfl (lv_at hl 0 rfl) ?_
        refine lv_isub hx hb dX1_burn_54 ?_
        refine ziastN B hW 1 rfl i_9 rfl (by omega) (by decide) dX1_burn_55 (fun H locs hW => ?_)
        refine lv_aload_n hx hb dX1_burn_56 rfl (lv_at hl 1 rfl) ?_
        refine zget B hW 0 rfl lf_X1_18 rfl dX1_burn_57 ?_
        refine lv_iload_n hx hb dX1_burn_60 rfl (lv_at hl 3 rfl) ?_
        refine lv_dup2_11 hx hb dX1_burn_61 rfl rfl ?_
        refine zialdN B hW 3 rfl i_9 rfl (by omega) (by decide) dX1_burn_62 ?_
        refine lv_iload_n hx hb dX1_burn_63 rfl (lv_at hl 0 rfl) ?_
        refine lv_bipush (v := (10 : Int32)) hx hb dX1_burn_64 (by decide) ?_
        refine lv_imul hx hb dX1_burn_66 ?_
        refine lv_iadd hx hb dX1_burn_67 ?_
        refine ziastN B hW 3 rfl i_9 rfl (by omega) (by decide) dX1_burn_68 (fun H locs hW => ?_)
        refine lv_aload_n hx hb dX1_burn_69 rfl (lv_at hl 1 rfl) ?_
        refine lv_dup hx hb dX1_burn_70 rfl ?_
        refine zget B hW 0 rfl lf_X1_47 rfl dX1_burn_71 ?_
        refine lv_iload_n hx hb dX1_burn_74 rfl (lv_at hl 0 rfl) ?_
        refine lv_bipush (v := (10 : Int32)) hx hb dX1_burn_75 (by decide) ?_
        refine lv_imul hx hb dX1_burn_77 ?_
        refine lv_i2l hx hb dX1_burn_78 rfl ?_
        refine lv_ladd hx hb dX1_burn_79 ?_
        refine zput B hW 0 rfl lf_X1_47 ft_X1_11 rfl rfl (Nat.le_of_ble_eq_true rfl) dX1_burn_80 (fun H locs hW => ?_)
        refine lv_aload_n hx hb dX1_burn_83 rfl (lv_at hl 1 rfl) ?_
        refine zget B hW 0 rfl lf_X1_15 rfl dX1_burn_84 ?_
        refine lv_iload_n hx hb dX1_burn_87 rfl (lv_at hl 3 rfl) ?_
        refine lv_aload_n hx hb dX1_burn_88 rfl (lv_at hl 1 rfl) ?_
        refine zget B hW 0 rfl lf_X1_9 rfl dX1_burn_89 ?_
        refine lv_iload_n hx hb dX1_burn_92 rfl (lv_at hl 3 rfl) ?_
        refine zialdN B hW 1 rfl i_9 rfl (by omega) (by decide) dX1_burn_93 ?_
        have J_3 : ∀ (H : Heap) (locs : List Loc) (ls : Array Slot), zW G A s.heap H locs (landW G h ad ((upd ((lp_X1_burn_9 (x.2.2.2.2.2.2.2.2.2.2.1 / (3 : Int32)) (x.1, x.2.1, x.2.2.1, x.2.2.2.2.2.2.2.2.2.2.2.1) i_9).1) i_9 ((((lp_X1_burn_9 (x.2.2.2.2.2.2.2.2.2.2.1 / (3 : Int32)) (x.1, x.2.1, x.2.2.1, x.2.2.2.2.2.2.2.2.2.2.2.1) i_9).1) i_9) - (if (((lp_X1_burn_9 (x.2.2.2.2.2.2.2.2.2.2.1 / (3 : Int32)) (x.1, x.2.1, x.2.2.1, x.2.2.2.2.2.2.2.2.2.2.2.1) i_9).1) i_9) ≤ (((lp_X1_burn_9 (x.2.2.2.2.2.2.2.2.2.2.1 / (3 : Int32)) (x.1, x.2.1, x.2.2.1, x.2.2.2.2.2.2.2.2.2.2.2.1) i_9).2.1) i_9) then (((lp_X1_burn_9 (x.2.2.2.2.2.2.2.2.2.2.1 / (3 : Int32)) (x.1, x.2.1, x.2.2.1, x.2.2.2.2.2.2.2.2.2.2.2.1) i_9).1) i_9) else (((lp_X1_burn_9 (x.2.2.2.2.2.2.2.2.2.2.1 / (3 : Int32)) (x.1, x.2.1, x.2.2.1, x.2.2.2.2.2.2.2.2.2.2.2.1) i_9).2.1) i_9)))), (lp_X1_burn_9 (x.2.2.2.2.2.2.2.2.2.2.1 / (3 : Int32)) (x.1, x.2.1, x.2.2.1, x.2.2.2.2.2.2.2.2.2.2.2.1) i_9).2.1, (upd ((lp_X1_burn_9 (x.2.2.2.2.2.2.2.2.2.2.1 / (3 : Int32)) (x.1, x.2.1, x.2.2.1, x.2.2.2.2.2.2.2.2.2.2.2.1) i_9).2.2.1) i_9 ((((lp_X1_burn_9 (x.2.2.2.2.2.2.2.2.2.2.1 / (3 : Int32)) (x.1, x.2.1, x.2.2.1, x.2.2.2.2.2.2.2.2.2.2.2.1) i_9).2.2.1) i_9) + ((if (((lp_X1_burn_9 (x.2.2.2.2.2.2.2.2.2.2.1 / (3 : Int32)) (x.1, x.2.1, x.2.2.1, x.2.2.2.2.2.2.2.2.2.2.2.1) i_9).1) i_9) ≤ (((lp_X1_burn_9 (x.2.2.2.2.2.2.2.2.2.2.1 / (3 : Int32)) (x.1, x.2.1, x.2.2.1, x.2.2.2.2.2.2.2.2.2.2.2.1) i_9).2.1) i_9) then (((lp_X1_burn_9 (x.2.2.2.2.2.2.2.2.2.2.1 / (3 : Int32)) (x.1, x.2.1, x.2.2.1, x.2.2.2.2.2.2.2.2.2.2.2.1) i_9).1) i_9) else (((lp_X1_burn_9 (x.2.2.2.2.2.2.2.2.2.2.1 / (3 : Int32)) (x.1, x.2.1, x.2.2.1, x.2.2.2.2.2.2.2.2.2.2.2.1) i_9).2.1) i_9)) * (10 : Int32)))), x.2.2.2.1, x.2.2.2.2.1, x.2.2.2.2.2.1, x.2.2.2.2.2.2.1, x.2.2.2.2.2.2.2.1, x.2.2.2.2.2.2.2.2.1, x.2.2.2.2.2.2.2.2.2.1, x.2.2.2.2.2.2.2.2.2.2.1, ((lp_X1_burn_9 (x.2.2.2.2.2.2.2.2.2.2.1 / (3 : Int32)) (x.1, x.2.1, x.2.2.1, x.2.2.2.2.2.2.2.2.2.2.2.1) i_9).2.2.2 + ((if (((lp_X1_burn_9 (x.2.2.2.2.2.2.2.2.2.2.1 / (3 : Int32)) (x.1, x.2.1, x.2.2.1, x.2.2.2.2.2.2.2.2.2.2.2.1) i_9).1) i_9) ≤ (((lp_X1_burn_9 (x.2.2.2.2.2.2.2.2.2.2.1 / (3 : Int32)) (x.1, x.2.1, x.2.2.1, x.2.2.2.2.2.2.2.2.2.2.2.1) i_9).2.1) i_9) then (((lp_X1_burn_9 (x.2.2.2.2.2.2.2.2.2.2.1 / (3 : Int32)) (x.1, x.2.1, x.2.2.1, x.2.2.2.2.2.2.2.2.2.2.2.1) i_9).1) i_9) else (((lp_X1_burn_9 (x.2.2.2.2.2.2.2.2.2.2.1 / (3 : Int32)) (x.1, x.2.1, x.2.2.1, x.2.2.2.2.2.2.2.2.2.2.2.1) i_9).2.1) i_9)) * (10 : Int32)).toInt64), x.2.2.2.2.2.2.2.2.2.2.2.2.1, x.2.2.2.2.2.2.2.2.2.2.2.2.2)) → lv_has ls 4 [(0, .ref h), (1, .int (x.2.2.2.2.2.2.2.2.2.2.1 / (3 : Int32))), (2, .int (nI i_9))] → W p l e (zRm 0 0 0) s m args below meth c H locs 0 0 (MQ below (zQ G A (po_X1_burn G h ad x)) args s 0 0 A) (F0 m 119 ls [.int (if ((upd ((lp_X1_burn_9 (x.2.2.2.2.2.2.2.2.2.2.1 / (3 : Int32)) (x.1, x.2.1, x.2.2.1, x.2.2.2.2.2.2.2.2.2.2.2.1) i_9).1) i_9 ((((lp_X1_burn_9 (x.2.2.2.2.2.2.2.2.2.2.1 / (3 : Int32)) (x.1, x.2.1, x.2.2.1, x.2.2.2.2.2.2.2.2.2.2.2.1) i_9).1) i_9) - (if (((lp_X1_burn_9 (x.2.2.2.2.2.2.2.2.2.2.1 / (3 : Int32)) (x.1, x.2.1, x.2.2.1, x.2.2.2.2.2.2.2.2.2.2.2.1) i_9).1) i_9) ≤ (((lp_X1_burn_9 (x.2.2.2.2.2.2.2.2.2.2.1 / (3 : Int32)) (x.1, x.2.1, x.2.2.1, x.2.2.2.2.2.2.2.2.2.2.2.1) i_9).2.1) i_9) then (((lp_X1_burn_9 (x.2.2.2.2.2.2.2.2.2.2.1 / (3 : Int32)) (x.1, x.2.1, x.2.2.1, x.2.2.2.2.2.2.2.2.2.2.2.1) i_9).1) i_9) else (((lp_X1_burn_9 (x.2.2.2.2.2.2.2.2.2.2.1 / (3 : Int32)) (x.1, x.2.1, x.2.2.1, x.2.2.2.2.2.2.2.2.2.2.2.1) i_9).2.1) i_9)))) i_9) = (0 : Int32) then (0 : Int32) else (if (x.2.2.2.2.2.2.2.2.2.2.1 / (3 : Int32)) ≤ (((lp_X1_burn_9 (x.2.2.2.2.2.2.2.2.2.2.1 / (3 : Int32)) (x.1, x.2.1, x.2.2.1, x.2.2.2.2.2.2.2.2.2.2.2.1) i_9).2.1) i_9) then ((((lp_X1_burn_9 (x.2.2.2.2.2.2.2.2.2.2.1 / (3 : Int32)) (x.1, x.2.1, x.2.2.1, x.2.2.2.2.2.2.2.2.2.2.2.1) i_9).2.1) i_9) - (x.2.2.2.2.2.2.2.2.2.2.1 / (3 : Int32))) else (0 : Int32))), .int (nI i_9), .ref (ad 1)]) := by
          intro H locs ls hW hl
          refine ziastN B hW 2 rfl i_9 rfl (by omega) (by decide) dX1_burn_119 (fun H locs hW => ?_)
          refine lv_iinc (v := (nI (i_9 + 1))) hx hb dX1_burn_120 hl (k := 2) rfl (nI_1 _) (by decide) rfl (fun ls hl => ?_)
          refine lv_goto (tgt := 9) hx hb dX1_burn_123 (by decide) ?_
          exact ih _ _ _ (hW.eq (by rw [lp_X1_burn_9_s] <;> rfl)) (lv_sub hl [1, 2, 0] rfl)
        refine lv_if_eq (tgt := 107) hx hb dX1_burn_94 (by decide) (fun c_94 => ?_) (fun c_94 => ?_)
        · refine lv_iconst (v := (0 : Int32)) hx hb dX1_burn_107 (by decide) ?_
          refine lv_goto (tgt := 119) hx hb dX1_burn_108 (by decide) ?_
          have e_0 : (if ((upd ((lp_X1_burn_9 (x.2.2.2.2.2.2.2.2.2.2.1 / (3 : Int32)) (x.1, x.2.1, x.2.2.1, x.2.2.2.2.2.2.2.2.2.2.2.1) i_9).1) i_9 ((((lp_X1_burn_9 (x.2.2.2.2.2.2.2.2.2.2.1 / (3 : Int32)) (x.1, x.2.1, x.2.2.1, x.2.2.2.2.2.2.2.2.2.2.2.1) i_9).1) i_9) - (if (((lp_X1_burn_9 (x.2.2.2.2.2.2.2.2.2.2.1 / (3 : Int32)) (x.1, x.2.1, x.2.2.1, x.2.2.2.2.2.2.2.2.2.2.2.1) i_9).1) i_9) ≤ (((lp_X1_burn_9 (x.2.2.2.2.2.2.2.2.2.2.1 / (3 : Int32)) (x.1, x.2.1, x.2.2.1, x.2.2.2.2.2.2.2.2.2.2.2.1) i_9).2.1) i_9) then (((lp_X1_burn_9 (x.2.2.2.2.2.2.2.2.2.2.1 / (3 : Int32)) (x.1, x.2.1, x.2.2.1, x.2.2.2.2.2.2.2.2.2.2.2.1) i_9).1) i_9) else (((lp_X1_burn_9 (x.2.2.2.2.2.2.2.2.2.2.1 / (3 : Int32)) (x.1, x.2.1, x.2.2.1, x.2.2.2.2.2.2.2.2.2.2.2.1) i_9).2.1) i_9)))) i_9) = (0 : Int32) then (0 : Int32) else (if (x.2.2.2.2.2.2.2.2.2.2.1 / (3 : Int32)) ≤ (((lp_X1_burn_9 (x.2.2.2.2.2.2.2.2.2.2.1 / (3 : Int32)) (x.1, x.2.1, x.2.2.1, x.2.2.2.2.2.2.2.2.2.2.2.1) i_9).2.1) i_9) then ((((lp_X1_burn_9 (x.2.2.2.2.2.2.2.2.2.2.1 / (3 : Int32)) (x.1, x.2.1, x.2.2.1, x.2.2.2.2.2.2.2.2.2.2.2.1) i_9).2.1) i_9) - (x.2.2.2.2.2.2.2.2.2.2.1 / (3 : Int32))) else (0 : Int32))) = (0 : Int32) := if_pos c_94
          refine W.eq (g2 := F0 m 119 ls [.int (if ((upd ((lp_X1_burn_9 (x.2.2.2.2.2.2.2.2.2.2.1 / (3 : Int32)) (x.1, x.2.1, x.2.2.1, x.2.2.2.2.2.2.2.2.2.2.2.1) i_9).1) i_9 ((((lp_X1_burn_9 (x.2.2.2.2.2.2.2.2.2.2.1 / (3 : Int32)) (x.1, x.2.1, x.2.2.1, x.2.2.2.2.2.2.2.2.2.2.2.1) i_9).1) i_9) - (if (((lp_X1_burn_9 (x.2.2.2.2.2.2.2.2.2.2.1 / (3 : Int32)) (x.1, x.2.1, x.2.2.1, x.2.2.2.2.2.2.2.2.2.2.2.1) i_9).1) i_9) ≤ (((lp_X1_burn_9 (x.2.2.2.2.2.2.2.2.2.2.1 / (3 : Int32)) (x.1, x.2.1, x.2.2.1, x.2.2.2.2.2.2.2.2.2.2.2.1) i_9).2.1) i_9) then (((lp_X1_burn_9 (x.2.2.2.2.2.2.2.2.2.2.1 / (3 : Int32)) (x.1, x.2.1, x.2.2.1, x.2.2.2.2.2.2.2.2.2.2.2.1) i_9).1) i_9) else (((lp_X1_burn_9 (x.2.2.2.2.2.2.2.2.2.2.1 / (3 : Int32)) (x.1, x.2.1, x.2.2.1, x.2.2.2.2.2.2.2.2.2.2.2.1) i_9).2.1) i_9)))) i_9) = (0 : Int32) then (0 : Int32) else (if (x.2.2.2.2.2.2.2.2.2.2.1 / (3 : Int32)) ≤ (((lp_X1_burn_9 (x.2.2.2.2.2.2.2.2.2.2.1 / (3 : Int32)) (x.1, x.2.1, x.2.2.1, x.2.2.2.2.2.2.2.2.2.2.2.1) i_9).2.1) i_9) then ((((lp_X1_burn_9 (x.2.2.2.2.2.2.2.2.2.2.1 / (3 : Int32)) (x.1, x.2.1, x.2.2.1, x.2.2.2.2.2.2.2.2.2.2.2.1) i_9).2.1) i_9) - (x.2.2.2.2.2.2.2.2.2.2.1 / (3 : Int32))) else (0 : Int32))), .int (nI i_9), .ref (ad 1)]) (by (try rw [e_0]) <;> rfl) ?_
          exact J_3 _ _ _ (hW.eq (by (try rw [e_0]) <;> rfl)) (by (try rw [e_0]) <;> exact lv_sub hl [1, 2, 3] rfl)
        · refine lv_aload_n hx hb dX1_burn_97 rfl (lv_at hl 1 rfl) ?_
          refine zget B hW 0 rfl lf_X1_15 rfl dX1_burn_98 ?_
          refine lv_iload_n hx hb dX1_burn_101 rfl (lv_at hl 3 rfl) ?_
          refine zialdN B hW 2 rfl i_9 rfl (by omega) (by decide) dX1_burn_102 ?_
          refine lv_iload_n hx hb dX1_burn_103 rfl (lv_at hl 2 rfl) ?_
          refine lv_icmp_ge (tgt := 111) hx hb dX1_burn_104 (by decide) (fun c_104 => ?_) (fun c_104 => ?_)
          · refine lv_aload_n hx hb dX1_burn_111 rfl (lv_at hl 1 rfl) ?_
            refine zget B hW 0 rfl lf_X1_15 rfl dX1_burn_112 ?_
            refine lv_iload_n hx hb dX1_burn_115 rfl (lv_at hl 3 rfl) ?_
            refine zialdN B hW 2 rfl i_9 rfl (by omega) (by decide) dX1_burn_116 ?_
            refine lv_iload_n hx hb dX1_burn_117 rfl (lv_at hl 2 rfl) ?_
            refine lv_isub hx hb dX1_burn_118 ?_
            have e_0 : (if ((upd ((lp_X1_burn_9 (x.2.2.2.2.2.2.2.2.2.2.1 / (3 : Int32)) (x.1, x.2.1, x.2.2.1, x.2.2.2.2.2.2.2.2.2.2.2.1) i_9).1) i_9 ((((lp_X1_burn_9 (x.2.2.2.2.2.2.2.2.2.2.1 / (3 : Int32)) (x.1, x.2.1, x.2.2.1, x.2.2.2.2.2.2.2.2.2.2.2.1) i_9).1) i_9) - (if (((lp_X1_burn_9 (x.2.2.2.2.2.2.2.2.2.2.1 / (3 : Int32)) (x.1, x.2.1, x.2.2.1, x.2.2.2.2.2.2.2.2.2.2.2.1) i_9).1) i_9) ≤ (((lp_X1_burn_9 (x.2.2.2.2.2.2.2.2.2.2.1 / (3 : Int32)) (x.1, x.2.1, x.2.2.1, x.2.2.2.2.2.2.2.2.2.2.2.1) i_9).2.1) i_9) then (((lp_X1_burn_9 (x.2.2.2.2.2.2.2.2.2.2.1 / (3 : Int32)) (x.1, x.2.1, x.2.2.1, x.2.2.2.2.2.2.2.2.2.2.2.1) i_9).1) i_9) else (((lp_X1_burn_9 (x.2.2.2.2.2.2.2.2.2.2.1 / (3 : Int32)) (x.1, x.2.1, x.2.2.1, x.2.2.2.2.2.2.2.2.2.2.2.1) i_9).2.1) i_9)))) i_9) = (0 : Int32) then (0 : Int32) else (if (x.2.2.2.2.2.2.2.2.2.2.1 / (3 : Int32)) ≤ (((lp_X1_burn_9 (x.2.2.2.2.2.2.2.2.2.2.1 / (3 : Int32)) (x.1, x.2.1, x.2.2.1, x.2.2.2.2.2.2.2.2.2.2.2.1) i_9).2.1) i_9) then ((((lp_X1_burn_9 (x.2.2.2.2.2.2.2.2.2.2.1 / (3 : Int32)) (x.1, x.2.1, x.2.2.1, x.2.2.2.2.2.2.2.2.2.2.2.1) i_9).2.1) i_9) - (x.2.2.2.2.2.2.2.2.2.2.1 / (3 : Int32))) else (0 : Int32))) = ((((lp_X1_burn_9 (x.2.2.2.2.2.2.2.2.2.2.1 / (3 : Int32)) (x.1, x.2.1, x.2.2.1, x.2.2.2.2.2.2.2.2.2.2.2.1) i_9).2.1) i_9) - (x.2.2.2.2.2.2.2.2.2.2.1 / (3 : Int32))) := (if_neg c_94).trans (if_pos c_104)
            refine W.eq (g2 := F0 m 119 ls [.int (if ((upd ((lp_X1_burn_9 (x.2.2.2.2.2.2.2.2.2.2.1 / (3 : Int32)) (x.1, x.2.1, x.2.2.1, x.2.2.2.2.2.2.2.2.2.2.2.1) i_9).1) i_9 ((((lp_X1_burn_9 (x.2.2.2.2.2.2.2.2.2.2.1 / (3 : Int32)) (x.1, x.2.1, x.2.2.1, x.2.2.2.2.2.2.2.2.2.2.2.1) i_9).1) i_9) - (if (((lp_X1_burn_9 (x.2.2.2.2.2.2.2.2.2.2.1 / (3 : Int32)) (x.1, x.2.1, x.2.2.1, x.2.2.2.2.2.2.2.2.2.2.2.1) i_9).1) i_9) ≤ (((lp_X1_burn_9 (x.2.2.2.2.2.2.2.2.2.2.1 / (3 : Int32)) (x.1, x.2.1, x.2.2.1, x.2.2.2.2.2.2.2.2.2.2.2.1) i_9).2.1) i_9) then (((lp_X1_burn_9 (x.2.2.2.2.2.2.2.2.2.2.1 / (3 : Int32)) (x.1, x.2.1, x.2.2.1, x.2.2.2.2.2.2.2.2.2.2.2.1) i_9).1) i_9) else (((lp_X1_burn_9 (x.2.2.2.2.2.2.2.2.2.2.1 / (3 : Int32)) (x.1, x.2.1, x.2.2.1, x.2.2.2.2.2.2.2.2.2.2.2.1) i_9).2.1) i_9)))) i_9) = (0 : Int32) then (0 : Int32) else (if (x.2.2.2.2.2.2.2.2.2.2.1 / (3 : Int32)) ≤ (((lp_X1_burn_9 (x.2.2.2.2.2.2.2.2.2.2.1 / (3 : Int32)) (x.1, x.2.1, x.2.2.1, x.2.2.2.2.2.2.2.2.2.2.2.1) i_9).2.1) i_9) then ((((lp_X1_burn_9 (x.2.2.2.2.2.2.2.2.2.2.1 / (3 : Int32)) (x.1, x.2.1, x.2.2.1, x.2.2.2.2.2.2.2.2.2.2.2.1) i_9).2.1) i_9) - (x.2.2.2.2.2.2.2.2.2.2.1 / (3 : Int32))) else (0 : Int32))), .int (nI i_9), .ref (ad 1)]) (by (try rw [e_0]) <;> rfl) ?_
            exact J_3 _ _ _ (hW.eq (by (try rw [e_0]) <;> rfl)) (by (try rw [e_0]) <;> exact lv_sub hl [1, 2, 3] rfl)
          · refine lv_iconst (v := (0 : Int32)) hx hb dX1_burn_107 (by decide) ?_
            refine lv_goto (tgt := 119) hx hb dX1_burn_108 (by decide) ?_
            have e_0 : (if ((upd ((lp_X1_burn_9 (x.2.2.2.2.2.2.2.2.2.2.1 / (3 : Int32)) (x.1, x.2.1, x.2.2.1, x.2.2.2.2.2.2.2.2.2.2.2.1) i_9).1) i_9 ((((lp_X1_burn_9 (x.2.2.2.2.2.2.2.2.2.2.1 / (3 : Int32)) (x.1, x.2.1, x.2.2.1, x.2.2.2.2.2.2.2.2.2.2.2.1) i_9).1) i_9) - (if (((lp_X1_burn_9 (x.2.2.2.2.2.2.2.2.2.2.1 / (3 : Int32)) (x.1, x.2.1, x.2.2.1, x.2.2.2.2.2.2.2.2.2.2.2.1) i_9).1) i_9) ≤ (((lp_X1_burn_9 (x.2.2.2.2.2.2.2.2.2.2.1 / (3 : Int32)) (x.1, x.2.1, x.2.2.1, x.2.2.2.2.2.2.2.2.2.2.2.1) i_9).2.1) i_9) then (((lp_X1_burn_9 (x.2.2.2.2.2.2.2.2.2.2.1 / (3 : Int32)) (x.1, x.2.1, x.2.2.1, x.2.2.2.2.2.2.2.2.2.2.2.1) i_9).1) i_9) else (((lp_X1_burn_9 (x.2.2.2.2.2.2.2.2.2.2.1 / (3 : Int32)) (x.1, x.2.1, x.2.2.1, x.2.2.2.2.2.2.2.2.2.2.2.1) i_9).2.1) i_9)))) i_9) = (0 : Int32) then (0 : Int32) else (if (x.2.2.2.2.2.2.2.2.2.2.1 / (3 : Int32)) ≤ (((lp_X1_burn_9 (x.2.2.2.2.2.2.2.2.2.2.1 / (3 : Int32)) (x.1, x.2.1, x.2.2.1, x.2.2.2.2.2.2.2.2.2.2.2.1) i_9).2.1) i_9) then ((((lp_X1_burn_9 (x.2.2.2.2.2.2.2.2.2.2.1 / (3 : Int32)) (x.1, x.2.1, x.2.2.1, x.2.2.2.2.2.2.2.2.2.2.2.1) i_9).2.1) i_9) - (x.2.2.2.2.2.2.2.2.2.2.1 / (3 : Int32))) else (0 : Int32))) = (0 : Int32) := (if_neg c_94).trans (if_neg c_104)
            refine W.eq (g2 := F0 m 119 ls [.int (if ((upd ((lp_X1_burn_9 (x.2.2.2.2.2.2.2.2.2.2.1 / (3 : Int32)) (x.1, x.2.1, x.2.2.1, x.2.2.2.2.2.2.2.2.2.2.2.1) i_9).1) i_9 ((((lp_X1_burn_9 (x.2.2.2.2.2.2.2.2.2.2.1 / (3 : Int32)) (x.1, x.2.1, x.2.2.1, x.2.2.2.2.2.2.2.2.2.2.2.1) i_9).1) i_9) - (if (((lp_X1_burn_9 (x.2.2.2.2.2.2.2.2.2.2.1 / (3 : Int32)) (x.1, x.2.1, x.2.2.1, x.2.2.2.2.2.2.2.2.2.2.2.1) i_9).1) i_9) ≤ (((lp_X1_burn_9 (x.2.2.2.2.2.2.2.2.2.2.1 / (3 : Int32)) (x.1, x.2.1, x.2.2.1, x.2.2.2.2.2.2.2.2.2.2.2.1) i_9).2.1) i_9) then (((lp_X1_burn_9 (x.2.2.2.2.2.2.2.2.2.2.1 / (3 : Int32)) (x.1, x.2.1, x.2.2.1, x.2.2.2.2.2.2.2.2.2.2.2.1) i_9).1) i_9) else (((lp_X1_burn_9 (x.2.2.2.2.2.2.2.2.2.2.1 / (3 : Int32)) (x.1, x.2.1, x.2.2.1, x.2.2.2.2.2.2.2.2.2.2.2.1) i_9).2.1) i_9)))) i_9) = (0 : Int32) then (0 : Int32) else (if (x.2.2.2.2.2.2.2.2.2.2.1 / (3 : Int32)) ≤ (((lp_X1_burn_9 (x.2.2.2.2.2.2.2.2.2.2.1 / (3 : Int32)) (x.1, x.2.1, x.2.2.1, x.2.2.2.2.2.2.2.2.2.2.2.1) i_9).2.1) i_9) then ((((lp_X1_burn_9 (x.2.2.2.2.2.2.2.2.2.2.1 / (3 : Int32)) (x.1, x.2.1, x.2.2.1, x.2.2.2.2.2.2.2.2.2.2.2.1) i_9).2.1) i_9) - (x.2.2.2.2.2.2.2.2.2.2.1 / (3 : Int32))) else (0 : Int32))), .int (nI i_9), .ref (ad 1)]) (by (try rw [e_0]) <;> rfl) ?_
            exact J_3 _ _ _ (hW.eq (by (try rw [e_0]) <;> rfl)) (by (try rw [e_0]) <;> exact lv_sub hl [1, 2, 3] rfl)
      refine lv_icmp_ge (tgt := 39) hx hb dX1_burn_27 (by decide) (fun c_27 => ?_) (fun c_27 => ?_)
      · refine lv_aload_n hx hb dX1_burn_39 rfl (lv_at hl 0 rfl) ?_
        refine zget B hW 0 rfl lf_X1_9 rfl dX1_burn_40 ?_
        refine lv_iload_n hx hb dX1_burn_43 rfl (lv_at hl 2 rfl) ?_
        refine zialdN B hW 1 rfl i_9 rfl (by omega) (by decide) dX1_burn_44 ?_
        have e_0 : (if (((lp_X1_burn_9 (x.2.2.2.2.2.2.2.2.2.2.1 / (3 : Int32)) (x.1, x.2.1, x.2.2.1, x.2.2.2.2.2.2.2.2.2.2.2.1) i_9).1) i_9) ≤ (((lp_X1_burn_9 (x.2.2.2.2.2.2.2.2.2.2.1 / (3 : Int32)) (x.1, x.2.1, x.2.2.1, x.2.2.2.2.2.2.2.2.2.2.2.1) i_9).2.1) i_9) then (((lp_X1_burn_9 (x.2.2.2.2.2.2.2.2.2.2.1 / (3 : Int32)) (x.1, x.2.1, x.2.2.1, x.2.2.2.2.2.2.2.2.2.2.2.1) i_9).1) i_9) else (((lp_X1_burn_9 (x.2.2.2.2.2.2.2.2.2.2.1 / (3 : Int32)) (x.1, x.2.1, x.2.2.1, x.2.2.2.2.2.2.2.2.2.2.2.1) i_9).2.1) i_9)) = (((lp_X1_burn_9 (x.2.2.2.2.2.2.2.2.2.2.1 / (3 : Int32)) (x.1, x.2.1, x.2.2.1, x.2.2.2.2.2.2.2.2.2.2.2.1) i_9).1) i_9) := if_pos c_27
        refine W.eq (g2 := F0 m 45 ls [.int (if (((lp_X1_burn_9 (x.2.2.2.2.2.2.2.2.2.2.1 / (3 : Int32)) (x.1, x.2.1, x.2.2.1, x.2.2.2.2.2.2.2.2.2.2.2.1) i_9).1) i_9) ≤ (((lp_X1_burn_9 (x.2.2.2.2.2.2.2.2.2.2.1 / (3 : Int32)) (x.1, x.2.1, x.2.2.1, x.2.2.2.2.2.2.2.2.2.2.2.1) i_9).2.1) i_9) then (((lp_X1_burn_9 (x.2.2.2.2.2.2.2.2.2.2.1 / (3 : Int32)) (x.1, x.2.1, x.2.2.1, x.2.2.2.2.2.2.2.2.2.2.2.1) i_9).1) i_9) else (((lp_X1_burn_9 (x.2.2.2.2.2.2.2.2.2.2.1 / (3 : Int32)) (x.1, x.2.1, x.2.2.1, x.2.2.2.2.2.2.2.2.2.2.2.1) i_9).2.1) i_9))]) (by (try rw [e_0]) <;> rfl) ?_
        exact J_2 _ _ _ (hW.eq (by (try rw [e_0]) <;> rfl)) (by (try rw [e_0]) <;> exact lv_sub hl [0, 1, 2] rfl)
      · refine lv_aload_n hx hb dX1_burn_30 rfl (lv_at hl 0 rfl) ?_
        refine zget B hW 0 rfl lf_X1_15 rfl dX1_burn_31 ?_
        refine lv_iload_n hx hb dX1_burn_34 rfl (lv_at hl 2 rfl) ?_
        refine zialdN B hW 2 rfl i_9 rfl (by omega) (by decide) dX1_burn_35 ?_
        refine lv_goto (tgt := 45) hx hb dX1_burn_36 (by decide) ?_
        have e_0 : (if (((lp_X1_burn_9 (x.2.2.2.2.2.2.2.2.2.2.1 / (3 : Int32)) (x.1, x.2.1, x.2.2.1, x.2.2.2.2.2.2.2.2.2.2.2.1) i_9).1) i_9) ≤ (((lp_X1_burn_9 (x.2.2.2.2.2.2.2.2.2.2.1 / (3 : Int32)) (x.1, x.2.1, x.2.2.1, x.2.2.2.2.2.2.2.2.2.2.2.1) i_9).2.1) i_9) then (((lp_X1_burn_9 (x.2.2.2.2.2.2.2.2.2.2.1 / (3 : Int32)) (x.1, x.2.1, x.2.2.1, x.2.2.2.2.2.2.2.2.2.2.2.1) i_9).1) i_9) else (((lp_X1_burn_9 (x.2.2.2.2.2.2.2.2.2.2.1 / (3 : Int32)) (x.1, x.2.1, x.2.2.1, x.2.2.2.2.2.2.2.2.2.2.2.1) i_9).2.1) i_9)) = (((lp_X1_burn_9 (x.2.2.2.2.2.2.2.2.2.2.1 / (3 : Int32)) (x.1, x.2.1, x.2.2.1, x.2.2.2.2.2.2.2.2.2.2.2.1) i_9).2.1) i_9) := if_neg c_27
        refine W.eq (g2 := F0 m 45 ls [.int (if (((lp_X1_burn_9 (x.2.2.2.2.2.2.2.2.2.2.1 / (3 : Int32)) (x.1, x.2.1, x.2.2.1, x.2.2.2.2.2.2.2.2.2.2.2.1) i_9).1) i_9) ≤ (((lp_X1_burn_9 (x.2.2.2.2.2.2.2.2.2.2.1 / (3 : Int32)) (x.1, x.2.1, x.2.2.1, x.2.2.2.2.2.2.2.2.2.2.2.1) i_9).2.1) i_9) then (((lp_X1_burn_9 (x.2.2.2.2.2.2.2.2.2.2.1 / (3 : Int32)) (x.1, x.2.1, x.2.2.1, x.2.2.2.2.2.2.2.2.2.2.2.1) i_9).1) i_9) else (((lp_X1_burn_9 (x.2.2.2.2.2.2.2.2.2.2.1 / (3 : Int32)) (x.1, x.2.1, x.2.2.1, x.2.2.2.2.2.2.2.2.2.2.2.1) i_9).2.1) i_9))]) (by (try rw [e_0]) <;> rfl) ?_
        exact J_2 _ _ _ (hW.eq (by (try rw [e_0]) <;> rfl)) (by (try rw [e_0]) <;> exact lv_sub hl [0, 1, 2] rfl)
  exact L_1 0 (Nat.zero_le _) _ _ _ (hW.eq (by rw [lp_X1_burn_9_0] <;> rfl)) (lv_sub hl [2, 1, 0] rfl)
def st_X1_settle_2 (q_x_10 : Int32) (i_2 : Nat) (y : (Nat → Int32) × Int64) : (Nat → Int32) × Int64 := ((upd y.1 i_2 ((y.1 i_2) - (((y.1 i_2) * (q_x_10 + (1 : Int32))) / (20 : Int32)))), (y.2 + (((y.1 i_2) * (q_x_10 + (1 : Int32))) / (20 : Int32)).toInt64))
def lp_X1_settle_2 (q_x_10 : Int32) (y0 : (Nat → Int32) × Int64) : Nat → (Nat → Int32) × Int64
  | 0 => y0
  | n0 + 1 => st_X1_settle_2 q_x_10 n0 (lp_X1_settle_2 q_x_10 y0 n0)
termination_by n0 => n0
theorem lp_X1_settle_2_0 (q_x_10 : Int32) (y0 : (Nat → Int32) × Int64) : lp_X1_settle_2 q_x_10 y0 0 = y0 := by rw [lp_X1_settle_2]
theorem lp_X1_settle_2_s (q_x_10 : Int32) (y0 : (Nat → Int32) × Int64) (n0 : Nat) : lp_X1_settle_2 q_x_10 y0 (n0 + 1) = st_X1_settle_2 q_x_10 n0 (lp_X1_settle_2 q_x_10 y0 n0) := by rw [lp_X1_settle_2]
def g_X1_settle_x_2 (x_2 : Nat → Int32) (x_10 : Int32) (x_13 : Int64) : Nat → Int32 := (lp_X1_settle_2 x_10 (x_2, x_13) 48).1
def g_X1_settle_x_13 (x_2 : Nat → Int32) (x_10 : Int32) (x_13 : Int64) : Int64 := (lp_X1_settle_2 x_10 (x_2, x_13) 48).2
def f_X1_settle_x (x : zLand) : zLand := (x.1, x.2.1, g_X1_settle_x_2 x.2.2.1 x.2.2.2.2.2.2.2.2.2.2.1 x.2.2.2.2.2.2.2.2.2.2.2.2.2, x.2.2.2.1, x.2.2.2.2.1, x.2.2.2.2.2.1, x.2.2.2.2.2.2.1, x.2.2.2.2.2.2.2.1, x.2.2.2.2.2.2.2.2.1, x.2.2.2.2.2.2.2.2.2.1, x.2.2.2.2.2.2.2.2.2.2.1, x.2.2.2.2.2.2.2.2.2.2.2.1, x.2.2.2.2.2.2.2.2.2.2.2.2.1, g_X1_settle_x_13 x.2.2.1 x.2.2.2.2.2.2.2.2.2.2.1 x.2.2.2.2.2.2.2.2.2.2.2.2.2)
abbrev po_X1_settle (G : zG) (h : Nat) (ad : Nat → Nat) (x : zLand) : Option Value → va_W → Prop := fun r u => r = none ∧ u = landW G h ad (f_X1_settle_x x)
set_option maxHeartbeats 4000000 in
set_option maxRecDepth 100000 in
theorem c_X1_settle (l : Launch) (G : zG) (h : Nat) (ad : Nat → Nat) (x : zLand) : zC l yX1_settle cX1_settle 3 none 0 0 0 G [.ref h] (landW G h ad x) (po_X1_settle G h ad x) := by
  refine zC.of RX1 rfl (by decide) (Nat.le_of_ble_eq_true rfl) ?_
  intro p e s m args below meth c A ls B hr hlk hnm hW hl
  have hx := B.x
  have hb := B.b
  have hl : lv_has ls 3 [(0, .ref h)] := hl
  refine lv_iconst (v := (0 : Int32)) hx hb dX1_settle_0 (by decide) ?_
  refine lv_istore_n hx hb dX1_settle_1 rfl hl (by decide) rfl (fun ls hl => ?_)
  have L_1 : ∀ i_2 : Nat, i_2 ≤ 48 → ∀ (H : Heap) (locs : List Loc) (ls : Array Slot), zW G A s.heap H locs (landW G h ad (x.1, x.2.1, (lp_X1_settle_2 x.2.2.2.2.2.2.2.2.2.2.1 (x.2.2.1, x.2.2.2.2.2.2.2.2.2.2.2.2.2) i_2).1, x.2.2.2.1, x.2.2.2.2.1, x.2.2.2.2.2.1, x.2.2.2.2.2.2.1, x.2.2.2.2.2.2.2.1, x.2.2.2.2.2.2.2.2.1, x.2.2.2.2.2.2.2.2.2.1, x.2.2.2.2.2.2.2.2.2.2.1, x.2.2.2.2.2.2.2.2.2.2.2.1, x.2.2.2.2.2.2.2.2.2.2.2.2.1, (lp_X1_settle_2 x.2.2.2.2.2.2.2.2.2.2.1 (x.2.2.1, x.2.2.2.2.2.2.2.2.2.2.2.2.2) i_2).2)) → lv_has ls 3 [(0, .ref h), (1, .int (nI i_2))] → W p l e (zRm 0 0 0) s m args below meth c H locs 0 0 (MQ below (zQ G A (po_X1_settle G h ad x)) args s 0 0 A) (F0 m 2 ls []) := by
    refine zloop 48 ?_ ?_
    · intro H locs ls hW hl
      have hl : lv_has ls 3 [(0, .ref h), (1, .int (48 : Int32))] := hl
      refine lv_iload_n hx hb dX1_settle_2 rfl (lv_at hl 1 rfl) ?_
      refine lv_bipush (v := (48 : Int32)) hx hb dX1_settle_3 (by decide) ?_
      refine lv_icmp_ge (tgt := 52) hx hb dX1_settle_5 (by decide) (fun c_5 => ?_) (fun c_5 => absurd (zge (by decide)) c_5)
      exact zvret B hr hlk hW ⟨rfl, rfl⟩ (Nat.le_refl _) (Nat.le_refl _) dX1_settle_52
    · intro i_2 hi_2 ih H locs ls hW hl
      refine lv_iload_n hx hb dX1_settle_2 rfl (lv_at hl 1 rfl) ?_
      refine lv_bipush (v := (48 : Int32)) hx hb dX1_settle_3 (by decide) ?_
      refine lv_icmp_ge (tgt := 52) hx hb dX1_settle_5 (by decide) (fun c_5 => absurd c_5 (znle (by decide) hi_2 (by decide))) (fun c_5 => ?_)
      refine lv_aload_n hx hb dX1_settle_8 rfl (lv_at hl 0 rfl) ?_
      refine zget B hW 0 rfl lf_X1_18 rfl dX1_settle_9 ?_
      refine lv_iload_n hx hb dX1_settle_12 rfl (lv_at hl 1 rfl) ?_
      refine zialdN B hW 3 rfl i_2 rfl (by omega) (by decide) dX1_settle_13 ?_
      refine lv_aload_n hx hb dX1_settle_14 rfl (lv_at hl 0 rfl) ?_
      refine zget B hW 0 rfl lf_X1_44 rfl dX1_settle_15 ?_
      refine lv_iconst (v := (1 : Int32)) hx hb dX1_settle_18 (by decide) ?_
      refine lv_iadd hx hb dX1_settle_19 ?_
      refine lv_imul hx hb dX1_settle_20 ?_
      refine lv_bipush (v := (20 : Int32)) hx hb dX1_settle_21 (by decide) ?_
      refine lv_idiv hx hb dX1_settle_23 (by decide) ?_
      refine lv_istore_n hx hb dX1_settle_24 rfl hl (by decide) rfl (fun ls hl => ?_)
      refine lv_aload_n hx hb dX1_settle_25 rfl (lv_at hl 1 rfl) ?_
      refine zget B hW 0 rfl lf_X1_18 rfl dX1_settle_26 ?_
      refine lv_iload_n hx hb dX1_settle_29 rfl (lv_at hl 2 rfl) ?_
      refine lv_dup2_11 hx hb dX1_settle_30 rfl rfl ?_
      refine zialdN B hW 3 rfl i_2 rfl (by omega) (by decide) dX1_settle_31 ?_
      refine lv_iload_n hx hb dX1_settle_32 rfl (lv_at hl 0 rfl) ?_
      refine lv_isub hx hb dX1_settle_33 ?_
      refine ziastN B hW 3 rfl i_2 rfl (by omega) (by decide) dX1_settle_34 (fun H locs hW => ?_)
      refine lv_aload_n hx hb dX1_settle_35 rfl (lv_at hl 1 rfl) ?_
      refine lv_dup hx hb dX1_settle_36 rfl ?_
      refine zget B hW 0 rfl lf_X1_54 rfl dX1_settle_37 ?_
      refine lv_iload_n hx hb dX1_settle_40 rfl (lv_at hl 0 rfl) ?_
      refine lv_i2l hx hb dX1_settle_41 rfl ?_
      refine lv_ladd hx hb dX1_settle_42 ?_
      refine zput B hW 0 rfl lf_X1_54 ft_X1_13 rfl rfl (Nat.le_of_ble_eq_true rfl) dX1_settle_43 (fun H locs hW => ?_)
      refine lv_iinc (v := (nI (i_2 + 1))) hx hb dX1_settle_46 hl (k := 2) rfl (nI_1 _) (by decide) rfl (fun ls hl => ?_)
      refine lv_goto (tgt := 2) hx hb dX1_settle_49 (by decide) ?_
      exact ih _ _ _ (hW.eq (by rw [lp_X1_settle_2_s] <;> rfl)) (lv_sub hl [2, 0] rfl)
  exact L_1 0 (Nat.zero_le _) _ _ _ (hW.eq (by rw [lp_X1_settle_2_0] <;> rfl)) (lv_sub hl [1, 0] rfl)
theorem zcell {a b : Int32} (h : ¬ r_X7_isCell a b = (0 : Int32)) : ∃ i j : Nat, i < 8 ∧ j < 6 ∧ a = nI i ∧ b = nI j := by
  unfold r_X7_isCell at h
  rw [show (8 : Int32) = nI 8 from rfl, show (6 : Int32) = nI 6 from rfl] at h
  rcases pk_ix a (n := 8) (by decide) with h1 | h1 | ⟨i, hi, rfl⟩
  · exact absurd (if_pos h1) h
  · rw [if_neg (fun z => absurd (Int32.le_trans h1 (Int32.le_of_lt z)) (by decide)), if_pos h1] at h
    exact absurd rfl h
  · rcases pk_ix b (n := 6) (by decide) with h2 | h2 | ⟨j, hj, rfl⟩
    · rw [if_neg (nI_pos (by omega)), if_neg (nI_ge hi (by decide)), if_pos h2] at h
      exact absurd rfl h
    · rw [if_neg (nI_pos (by omega)), if_neg (nI_ge hi (by decide)), if_neg (fun z => absurd (Int32.le_trans h2 (Int32.le_of_lt z)) (by decide)), if_pos h2] at h
      exact absurd rfl h
    · exact ⟨i, j, hi, hj, rfl, rfl⟩
theorem zcell_ix {a b : Int32} (h : ¬ r_X7_isCell a b = (0 : Int32)) : vp_in ((b * (8 : Int32)) + a) 48 := by
  obtain ⟨i, j, hi, hj, rfl, rfl⟩ := zcell h
  rw [show (8 : Int32) = nI 8 from rfl, pk_mul, nI_add]
  exact vp_in_nI (by omega) (by decide)
def g_X1_tell_x_6 (x_6 : Nat → Int32) (a : Int32) (b : Int32) (d : Int32) : Nat → Int32 := (if (r_X7_isCell a b) = (0 : Int32) then x_6 else (if d ≤ (x_6 ((b * (8 : Int32)) + a).toNatClampNeg) then x_6 else (upd x_6 ((b * (8 : Int32)) + a).toNatClampNeg d)))
def f_X1_tell_x (x : zLand) (a : Int32) (b : Int32) (d : Int32) : zLand := (x.1, x.2.1, x.2.2.1, x.2.2.2.1, x.2.2.2.2.1, x.2.2.2.2.2.1, g_X1_tell_x_6 x.2.2.2.2.2.2.1 a b d, x.2.2.2.2.2.2.2.1, x.2.2.2.2.2.2.2.2.1, x.2.2.2.2.2.2.2.2.2.1, x.2.2.2.2.2.2.2.2.2.2.1, x.2.2.2.2.2.2.2.2.2.2.2.1, x.2.2.2.2.2.2.2.2.2.2.2.2.1, x.2.2.2.2.2.2.2.2.2.2.2.2.2)
abbrev po_X1_tell (G : zG) (h : Nat) (ad : Nat → Nat) (x : zLand) (a : Int32) (b : Int32) (d : Int32) : Option Value → va_W → Prop := fun r u => r = none ∧ u = landW G h ad (f_X1_tell_x x a b d)
set_option maxHeartbeats 4000000 in
set_option maxRecDepth 100000 in
theorem c_X1_tell (l : Launch) (G : zG) (h : Nat) (ad : Nat → Nat) (x : zLand) (a : Int32) (b : Int32) (d : Int32) : zC l yX1_tell cX1_tell 5 none 1 0 0 G [.ref h, .int a, .int b, .int d] (landW G h ad x) (po_X1_tell G h ad x a b d) := by
  refine zC.of RX1 rfl (by decide) (Nat.le_of_ble_eq_true rfl) ?_
  intro p e s m args below meth c A ls B hr hlk hnm hW hl
  have hx := B.x
  have hb := B.b
  have hl : lv_has ls 5 [(0, .ref h), (1, .int a), (2, .int b), (3, .int d)] := hl
  refine lv_iload_n hx hb dX1_tell_0 rfl (lv_at hl 1 rfl) ?_
  refine lv_iload_n hx hb dX1_tell_1 rfl (lv_at hl 2 rfl) ?_
  refine zcSN (w1 := []) (wc := []) (w2 := landW G h ad x) (As := [.int a, .int b]) B (hW.eq rfl) (c_X7_isCell l G a b) yd_X7_isCell ml_X1_88 rfl hl.1 rfl (Nat.le_of_ble_eq_true rfl) ⟨Nat.le_of_ble_eq_true rfl, Nat.le_of_ble_eq_true rfl⟩ ⟨(Nat.le_of_ble_eq_true rfl), (Nat.le_of_ble_eq_true rfl)⟩ dX1_tell_2 (fun v u H locs hp hW => ?_)
  obtain ⟨rfl, rfl⟩ := hp
  have hW := hW.eq (w' := landW G h ad x) rfl
  refine lv_if_ne (tgt := 9) hx hb dX1_tell_5 (by decide) (fun c_5 => ?_) (fun c_5 => ?_)
  · refine lv_iload_n hx hb dX1_tell_9 rfl (lv_at hl 2 rfl) ?_
    refine lv_bipush (v := (8 : Int32)) hx hb dX1_tell_10 (by decide) ?_
    refine lv_imul hx hb dX1_tell_12 ?_
    refine lv_iload_n hx hb dX1_tell_13 rfl (lv_at hl 1 rfl) ?_
    refine lv_iadd hx hb dX1_tell_14 ?_
    refine lv_istore hx hb dX1_tell_15 hl (by decide) rfl (fun ls hl => ?_)
    refine lv_aload_n hx hb dX1_tell_17 rfl (lv_at hl 1 rfl) ?_
    refine zget B hW 0 rfl lf_X1_31 rfl dX1_tell_18 ?_
    refine lv_iload hx hb dX1_tell_21 (lv_at hl 0 rfl) ?_
    refine ziald B hW 7 rfl (zcell_ix c_5) dX1_tell_23 ?_
    refine lv_iload_n hx hb dX1_tell_24 rfl (lv_at hl 4 rfl) ?_
    have J_1 : ∀ (H : Heap) (locs : List Loc) (ls : Array Slot), zW G A s.heap H locs (landW G h ad (x.1, x.2.1, x.2.2.1, x.2.2.2.1, x.2.2.2.2.1, x.2.2.2.2.2.1, (if d ≤ (x.2.2.2.2.2.2.1 ((b * (8 : Int32)) + a).toNatClampNeg) then x.2.2.2.2.2.2.1 else (upd x.2.2.2.2.2.2.1 ((b * (8 : Int32)) + a).toNatClampNeg d)), x.2.2.2.2.2.2.2.1, x.2.2.2.2.2.2.2.2.1, x.2.2.2.2.2.2.2.2.2.1, x.2.2.2.2.2.2.2.2.2.2.1, x.2.2.2.2.2.2.2.2.2.2.2.1, x.2.2.2.2.2.2.2.2.2.2.2.2.1, x.2.2.2.2.2.2.2.2.2.2.2.2.2)) → lv_has ls 5 [] → W p l e (zRm 1 0 0) s m args below meth c H locs 0 0 (MQ below (zQ G A (po_X1_tell G h ad x a b d)) args s 0 0 A) (F0 m 36 ls []) := by
      intro H locs ls hW hl
      have e_0 : (if (r_X7_isCell a b) = (0 : Int32) then x.2.2.2.2.2.2.1 else (if d ≤ (x.2.2.2.2.2.2.1 ((b * (8 : Int32)) + a).toNatClampNeg) then x.2.2.2.2.2.2.1 else (upd x.2.2.2.2.2.2.1 ((b * (8 : Int32)) + a).toNatClampNeg d))) = (if d ≤ (x.2.2.2.2.2.2.1 ((b * (8 : Int32)) + a).toNatClampNeg) then x.2.2.2.2.2.2.1 else (upd x.2.2.2.2.2.2.1 ((b * (8 : Int32)) + a).toNatClampNeg d)) := if_neg c_5
      exact zvret B hr hlk hW ⟨rfl, by show _ = landW G h ad (x.1, x.2.1, x.2.2.1, x.2.2.2.1, x.2.2.2.2.1, x.2.2.2.2.2.1, (if (r_X7_isCell a b) = (0 : Int32) then x.2.2.2.2.2.2.1 else (if d ≤ (x.2.2.2.2.2.2.1 ((b * (8 : Int32)) + a).toNatClampNeg) then x.2.2.2.2.2.2.1 else (upd x.2.2.2.2.2.2.1 ((b * (8 : Int32)) + a).toNatClampNeg d))), x.2.2.2.2.2.2.2.1, x.2.2.2.2.2.2.2.2.1, x.2.2.2.2.2.2.2.2.2.1, x.2.2.2.2.2.2.2.2.2.2.1, x.2.2.2.2.2.2.2.2.2.2.2.1, x.2.2.2.2.2.2.2.2.2.2.2.2.1, x.2.2.2.2.2.2.2.2.2.2.2.2.2) <;> (try rw [e_0]) <;> rfl⟩ (Nat.le_refl _) (Nat.le_refl _) dX1_tell_36
    refine lv_icmp_ge (tgt := 36) hx hb dX1_tell_25 (by decide) (fun c_25 => ?_) (fun c_25 => ?_)
    · have e_0 : (if d ≤ (x.2.2.2.2.2.2.1 ((b * (8 : Int32)) + a).toNatClampNeg) then x.2.2.2.2.2.2.1 else (upd x.2.2.2.2.2.2.1 ((b * (8 : Int32)) + a).toNatClampNeg d)) = x.2.2.2.2.2.2.1 := if_pos c_25
      exact J_1 _ _ _ (hW.eq (by (try rw [e_0]) <;> rfl)) (by (try rw [e_0]) <;> exact lv_sub hl [] rfl)
    · refine lv_aload_n hx hb dX1_tell_28 rfl (lv_at hl 1 rfl) ?_
      refine zget B hW 0 rfl lf_X1_31 rfl dX1_tell_29 ?_
      refine lv_iload hx hb dX1_tell_32 (lv_at hl 0 rfl) ?_
      refine lv_iload_n hx hb dX1_tell_34 rfl (lv_at hl 4 rfl) ?_
      refine ziast B hW 7 rfl (zcell_ix c_5) dX1_tell_35 (fun H locs hW => ?_)
      have e_0 : (if d ≤ (x.2.2.2.2.2.2.1 ((b * (8 : Int32)) + a).toNatClampNeg) then x.2.2.2.2.2.2.1 else (upd x.2.2.2.2.2.2.1 ((b * (8 : Int32)) + a).toNatClampNeg d)) = (upd x.2.2.2.2.2.2.1 ((b * (8 : Int32)) + a).toNatClampNeg d) := if_neg c_25
      exact J_1 _ _ _ (hW.eq (by (try rw [e_0]) <;> rfl)) (by (try rw [e_0]) <;> exact lv_sub hl [] rfl)
  · have e_0 : (if (r_X7_isCell a b) = (0 : Int32) then x.2.2.2.2.2.2.1 else (if d ≤ (x.2.2.2.2.2.2.1 ((b * (8 : Int32)) + a).toNatClampNeg) then x.2.2.2.2.2.2.1 else (upd x.2.2.2.2.2.2.1 ((b * (8 : Int32)) + a).toNatClampNeg d))) = x.2.2.2.2.2.2.1 := if_pos c_5
    exact zvret B hr hlk hW ⟨rfl, by show _ = landW G h ad (x.1, x.2.1, x.2.2.1, x.2.2.2.1, x.2.2.2.2.1, x.2.2.2.2.2.1, (if (r_X7_isCell a b) = (0 : Int32) then x.2.2.2.2.2.2.1 else (if d ≤ (x.2.2.2.2.2.2.1 ((b * (8 : Int32)) + a).toNatClampNeg) then x.2.2.2.2.2.2.1 else (upd x.2.2.2.2.2.2.1 ((b * (8 : Int32)) + a).toNatClampNeg d))), x.2.2.2.2.2.2.2.1, x.2.2.2.2.2.2.2.2.1, x.2.2.2.2.2.2.2.2.2.1, x.2.2.2.2.2.2.2.2.2.2.1, x.2.2.2.2.2.2.2.2.2.2.2.1, x.2.2.2.2.2.2.2.2.2.2.2.2.1, x.2.2.2.2.2.2.2.2.2.2.2.2.2) <;> (try rw [e_0]) <;> rfl⟩ (Nat.le_refl _) (Nat.le_refl _) dX1_tell_8
def st_X1_spread_10 (q_x_1 : Nat → Int32) (q_x_7 : Int32) (q_x_8 : Int32) (q_x_9 : Int32) (i_10 : Nat) (y : (Nat → Int32)) : (Nat → Int32) := (if (q_x_1 i_10) < (3 : Int32) then (if (q_x_1 i_10) < (5 : Int32) then y else (g_X1_tell_x_6 (g_X1_tell_x_6 (g_X1_tell_x_6 (g_X1_tell_x_6 y (((nI i_10) - (nI i_10) / (8 : Int32) * (8 : Int32)) - (1 : Int32)) ((nI i_10) / (8 : Int32)) (1 : Int32)) (((nI i_10) - (nI i_10) / (8 : Int32) * (8 : Int32)) + (1 : Int32)) ((nI i_10) / (8 : Int32)) (1 : Int32)) ((nI i_10) - (nI i_10) / (8 : Int32) * (8 : Int32)) (((nI i_10) / (8 : Int32)) - (1 : Int32)) (1 : Int32)) ((nI i_10) - (nI i_10) / (8 : Int32) * (8 : Int32)) (((nI i_10) / (8 : Int32)) + (1 : Int32)) (1 : Int32))) else (if q_x_9 ≤ (0 : Int32) then (if (q_x_1 i_10) < (5 : Int32) then y else (g_X1_tell_x_6 (g_X1_tell_x_6 (g_X1_tell_x_6 (g_X1_tell_x_6 y (((nI i_10) - (nI i_10) / (8 : Int32) * (8 : Int32)) - (1 : Int32)) ((nI i_10) / (8 : Int32)) (1 : Int32)) (((nI i_10) - (nI i_10) / (8 : Int32) * (8 : Int32)) + (1 : Int32)) ((nI i_10) / (8 : Int32)) (1 : Int32)) ((nI i_10) - (nI i_10) / (8 : Int32) * (8 : Int32)) (((nI i_10) / (8 : Int32)) - (1 : Int32)) (1 : Int32)) ((nI i_10) - (nI i_10) / (8 : Int32) * (8 : Int32)) (((nI i_10) / (8 : Int32)) + (1 : Int32)) (1 : Int32))) else (g_X1_tell_x_6 (if (q_x_1 i_10) < (5 : Int32) then y else (g_X1_tell_x_6 (g_X1_tell_x_6 (g_X1_tell_x_6 (g_X1_tell_x_6 y (((nI i_10) - (nI i_10) / (8 : Int32) * (8 : Int32)) - (1 : Int32)) ((nI i_10) / (8 : Int32)) (1 : Int32)) (((nI i_10) - (nI i_10) / (8 : Int32) * (8 : Int32)) + (1 : Int32)) ((nI i_10) / (8 : Int32)) (1 : Int32)) ((nI i_10) - (nI i_10) / (8 : Int32) * (8 : Int32)) (((nI i_10) / (8 : Int32)) - (1 : Int32)) (1 : Int32)) ((nI i_10) - (nI i_10) / (8 : Int32) * (8 : Int32)) (((nI i_10) / (8 : Int32)) + (1 : Int32)) (1 : Int32))) (((nI i_10) - (nI i_10) / (8 : Int32) * (8 : Int32)) + q_x_7) (((nI i_10) / (8 : Int32)) + q_x_8) (q_x_9 + (1 : Int32)))))
def lp_X1_spread_10 (q_x_1 : Nat → Int32) (q_x_7 : Int32) (q_x_8 : Int32) (q_x_9 : Int32) (y0 : (Nat → Int32)) : Nat → (Nat → Int32)
  | 0 => y0
  | n0 + 1 => st_X1_spread_10 q_x_1 q_x_7 q_x_8 q_x_9 n0 (lp_X1_spread_10 q_x_1 q_x_7 q_x_8 q_x_9 y0 n0)
termination_by n0 => n0
theorem lp_X1_spread_10_0 (q_x_1 : Nat → Int32) (q_x_7 : Int32) (q_x_8 : Int32) (q_x_9 : Int32) (y0 : (Nat → Int32)) : lp_X1_spread_10 q_x_1 q_x_7 q_x_8 q_x_9 y0 0 = y0 := by rw [lp_X1_spread_10]
theorem lp_X1_spread_10_s (q_x_1 : Nat → Int32) (q_x_7 : Int32) (q_x_8 : Int32) (q_x_9 : Int32) (y0 : (Nat → Int32)) (n0 : Nat) : lp_X1_spread_10 q_x_1 q_x_7 q_x_8 q_x_9 y0 (n0 + 1) = st_X1_spread_10 q_x_1 q_x_7 q_x_8 q_x_9 n0 (lp_X1_spread_10 q_x_1 q_x_7 q_x_8 q_x_9 y0 n0) := by rw [lp_X1_spread_10]
def st_X1_spread_119 (q_x_0 : Nat → Int32) (q_x_3 : Nat → Int32) (q_x_6 : Nat → Int32) (i_119 : Nat) (y : (Nat → Int32)) : (Nat → Int32) := (if (q_x_0 i_119) ≤ (0 : Int32) then y else (if (q_x_3 i_119) = (0 : Int32) then (if (q_x_6 i_119) ≤ (y i_119) then y else (upd y i_119 (q_x_6 i_119))) else y))
def lp_X1_spread_119 (q_x_0 : Nat → Int32) (q_x_3 : Nat → Int32) (q_x_6 : Nat → Int32) (y0 : (Nat → Int32)) : Nat → (Nat → Int32)
  | 0 => y0
  | n0 + 1 => st_X1_spread_119 q_x_0 q_x_3 q_x_6 n0 (lp_X1_spread_119 q_x_0 q_x_3 q_x_6 y0 n0)
termination_by n0 => n0
theorem lp_X1_spread_119_0 (q_x_0 : Nat → Int32) (q_x_3 : Nat → Int32) (q_x_6 : Nat → Int32) (y0 : (Nat → Int32)) : lp_X1_spread_119 q_x_0 q_x_3 q_x_6 y0 0 = y0 := by rw [lp_X1_spread_119]
theorem lp_X1_spread_119_s (q_x_0 : Nat → Int32) (q_x_3 : Nat → Int32) (q_x_6 : Nat → Int32) (y0 : (Nat → Int32)) (n0 : Nat) : lp_X1_spread_119 q_x_0 q_x_3 q_x_6 y0 (n0 + 1) = st_X1_spread_119 q_x_0 q_x_3 q_x_6 n0 (lp_X1_spread_119 q_x_0 q_x_3 q_x_6 y0 n0) := by rw [lp_X1_spread_119]
def g_X1_spread_x_1 (x_0 : Nat → Int32) (x_1 : Nat → Int32) (x_3 : Nat → Int32) (x_7 : Int32) (x_8 : Int32) (x_9 : Int32) : Nat → Int32 := (lp_X1_spread_119 x_0 x_3 (lp_X1_spread_10 x_1 x_7 x_8 x_9 (fun _ => (0 : Int32)) 48) x_1 48)
def g_X1_spread_x_6 (x_1 : Nat → Int32) (x_7 : Int32) (x_8 : Int32) (x_9 : Int32) : Nat → Int32 := (lp_X1_spread_10 x_1 x_7 x_8 x_9 (fun _ => (0 : Int32)) 48)
def f_X1_spread_x (x : zLand) : zLand := (x.1, g_X1_spread_x_1 x.1 x.2.1 x.2.2.2.1 x.2.2.2.2.2.2.2.1 x.2.2.2.2.2.2.2.2.1 x.2.2.2.2.2.2.2.2.2.1, x.2.2.1, x.2.2.2.1, x.2.2.2.2.1, x.2.2.2.2.2.1, g_X1_spread_x_6 x.2.1 x.2.2.2.2.2.2.2.1 x.2.2.2.2.2.2.2.2.1 x.2.2.2.2.2.2.2.2.2.1, x.2.2.2.2.2.2.2.1, x.2.2.2.2.2.2.2.2.1, x.2.2.2.2.2.2.2.2.2.1, x.2.2.2.2.2.2.2.2.2.2.1, x.2.2.2.2.2.2.2.2.2.2.2.1, x.2.2.2.2.2.2.2.2.2.2.2.2.1, x.2.2.2.2.2.2.2.2.2.2.2.2.2)
abbrev po_X1_spread (G : zG) (h : Nat) (ad : Nat → Nat) (x : zLand) : Option Value → va_W → Prop := fun r u => r = none ∧ u = landW G h ad (f_X1_spread_x x)
set_option maxHeartbeats 4000000 in
set_option maxRecDepth 100000 in
theorem c_X1_spread (l : Launch) (G : zG) (h : Nat) (ad : Nat → Nat) (x : zLand) : zC l yX1_spread cX1_spread 4 none 2 0 0 G [.ref h] (landW G h ad x) (po_X1_spread G h ad x) := by
  refine zC.of RX1 rfl (by decide) (Nat.le_of_ble_eq_true rfl) ?_
  intro p e s m args below meth c A ls B hr hlk hnm hW hl
  have hx := B.x
  have hb := B.b
  have hl : lv_has ls 4 [(0, .ref h)] := hl
  refine lv_aload_n hx hb dX1_spread_0 rfl (lv_at hl 0 rfl) ?_
  refine zget B hW 0 rfl lf_X1_31 rfl dX1_spread_1 ?_
  refine lv_iconst (v := (0 : Int32)) hx hb dX1_spread_4 (by decide) ?_
  refine zfill B hW hl.1 ml_X1_57 7 rfl (by decide) (Nat.le_of_ble_eq_true rfl) (Nat.le_of_ble_eq_true rfl) (Nat.le_of_ble_eq_true rfl) ⟨(Nat.le_of_ble_eq_true rfl), (Nat.le_of_ble_eq_true rfl)⟩ dX1_spread_5 (fun H locs hW => ?_)
  refine lv_iconst (v := (0 : Int32)) hx hb dX1_spread_8 (by decide) ?_
  refine lv_istore_n hx hb dX1_spread_9 rfl hl (by decide) rfl (fun ls hl => ?_)
  have L_1 : ∀ i_10 : Nat, i_10 ≤ 48 → ∀ (H : Heap) (locs : List Loc) (ls : Array Slot), zW G A s.heap H locs (landW G h ad (x.1, x.2.1, x.2.2.1, x.2.2.2.1, x.2.2.2.2.1, x.2.2.2.2.2.1, (lp_X1_spread_10 x.2.1 x.2.2.2.2.2.2.2.1 x.2.2.2.2.2.2.2.2.1 x.2.2.2.2.2.2.2.2.2.1 (fun _ => (0 : Int32)) i_10), x.2.2.2.2.2.2.2.1, x.2.2.2.2.2.2.2.2.1, x.2.2.2.2.2.2.2.2.2.1, x.2.2.2.2.2.2.2.2.2.2.1, x.2.2.2.2.2.2.2.2.2.2.2.1, x.2.2.2.2.2.2.2.2.2.2.2.2.1, x.2.2.2.2.2.2.2.2.2.2.2.2.2)) → lv_has ls 4 [(0, .ref h), (1, .int (nI i_10))] → W p l e (zRm 2 0 0) s m args below meth c H locs 0 0 (MQ below (zQ G A (po_X1_spread G h ad x)) args s 0 0 A) (F0 m 10 ls []) := by
    refine zloop 48 ?_ ?_
    · intro H locs ls hW hl
      have hl : lv_has ls 4 [(0, .ref h), (1, .int (48 : Int32))] := hl
      refine lv_iload_n hx hb dX1_spread_10 rfl (lv_at hl 1 rfl) ?_
      refine lv_bipush (v := (48 : Int32)) hx hb dX1_spread_11 (by decide) ?_
      refine lv_icmp_ge (tgt := 117) hx hb dX1_spread_13 (by decide) (fun c_13 => ?_) (fun c_13 => absurd (zge (by decide)) c_13)
      refine lv_iconst (v := (0 : Int32)) hx hb dX1_spread_117 (by decide) ?_
      refine lv_istore_n hx hb dX1_spread_118 rfl hl (by decide) rfl (fun ls hl => ?_)
      have L_2 : ∀ i_119 : Nat, i_119 ≤ 48 → ∀ (H : Heap) (locs : List Loc) (ls : Array Slot), zW G A s.heap H locs (landW G h ad (x.1, (lp_X1_spread_119 x.1 x.2.2.2.1 (lp_X1_spread_10 x.2.1 x.2.2.2.2.2.2.2.1 x.2.2.2.2.2.2.2.2.1 x.2.2.2.2.2.2.2.2.2.1 (fun _ => (0 : Int32)) 48) x.2.1 i_119), x.2.2.1, x.2.2.2.1, x.2.2.2.2.1, x.2.2.2.2.2.1, (lp_X1_spread_10 x.2.1 x.2.2.2.2.2.2.2.1 x.2.2.2.2.2.2.2.2.1 x.2.2.2.2.2.2.2.2.2.1 (fun _ => (0 : Int32)) 48), x.2.2.2.2.2.2.2.1, x.2.2.2.2.2.2.2.2.1, x.2.2.2.2.2.2.2.2.2.1, x.2.2.2.2.2.2.2.2.2.2.1, x.2.2.2.2.2.2.2.2.2.2.2.1, x.2.2.2.2.2.2.2.2.2.2.2.2.1, x.2.2.2.2.2.2.2.2.2.2.2.2.2)) → lv_has ls 4 [(0, .ref h), (1, .int (nI i_119))] → W p l e (zRm 2 0 0) s m args below meth c H locs 0 0 (MQ below (zQ G A (po_X1_spread G h ad x)) args s 0 0 A) (F0 m 119 ls []) := by
        refine zloop 48 ?_ ?_
        · intro H locs ls hW hl
          have hl : lv_has ls 4 [(0, .ref h), (1, .int (48 : Int32))] := hl
          refine lv_iload_n hx hb dX1_spread_119 rfl (lv_at hl 1 rfl) ?_
          refine lv_bipush (v := (48 : Int32)) hx hb dX1_spread_120 (by decide) ?_
          refine lv_icmp_ge (tgt := 176) hx hb dX1_spread_122 (by decide) (fun c_122 => ?_) (fun c_122 => absurd (zge (by decide)) c_122)
          exact zvret B hr hlk hW ⟨rfl, rfl⟩ (Nat.le_refl _) (Nat.le_refl _) dX1_spread_176
        · intro i_119 hi_119 ih H locs ls hW hl
          refine lv_iload_n hx hb dX1_spread_119 rfl (lv_at hl 1 rfl) ?_
          refine lv_bipush (v := (48 : Int32)) hx hb dX1_spread_120 (by decide) ?_
          refine lv_icmp_ge (tgt := 176) hx hb dX1_spread_122 (by decide) (fun c_122 => absurd c_122 (znle (by decide) hi_119 (by decide))) (fun c_122 => ?_)
          refine lv_aload_n hx hb dX1_spread_125 rfl (lv_at hl 0 rfl) ?_
          refine zget B hW 0 rfl lf_X1_9 rfl dX1_spread_126 ?_
          refine lv_iload_n hx hb dX1_spread_129 rfl (lv_at hl 1 rfl) ?_
          refine zialdN B hW 1 rfl i_119 rfl (by omega) (by decide) dX1_spread_130 ?_
          have J_3 : ∀ (H : Heap) (locs : List Loc) (ls : Array Slot), zW G A s.heap H locs (landW G h ad (x.1, (if (x.1 i_119) ≤ (0 : Int32) then (lp_X1_spread_119 x.1 x.2.2.2.1 (lp_X1_spread_10 x.2.1 x.2.2.2.2.2.2.2.1 x.2.2.2.2.2.2.2.2.1 x.2.2.2.2.2.2.2.2.2.1 (fun _ => (0 : Int32)) 48) x.2.1 i_119) else (if (x.2.2.2.1 i_119) = (0 : Int32) then (if ((lp_X1_spread_10 x.2.1 x.2.2.2.2.2.2.2.1 x.2.2.2.2.2.2.2.2.1 x.2.2.2.2.2.2.2.2.2.1 (fun _ => (0 : Int32)) 48) i_119) ≤ ((lp_X1_spread_119 x.1 x.2.2.2.1 (lp_X1_spread_10 x.2.1 x.2.2.2.2.2.2.2.1 x.2.2.2.2.2.2.2.2.1 x.2.2.2.2.2.2.2.2.2.1 (fun _ => (0 : Int32)) 48) x.2.1 i_119) i_119) then (lp_X1_spread_119 x.1 x.2.2.2.1 (lp_X1_spread_10 x.2.1 x.2.2.2.2.2.2.2.1 x.2.2.2.2.2.2.2.2.1 x.2.2.2.2.2.2.2.2.2.1 (fun _ => (0 : Int32)) 48) x.2.1 i_119) else (upd (lp_X1_spread_119 x.1 x.2.2.2.1 (lp_X1_spread_10 x.2.1 x.2.2.2.2.2.2.2.1 x.2.2.2.2.2.2.2.2.1 x.2.2.2.2.2.2.2.2.2.1 (fun _ => (0 : Int32)) 48) x.2.1 i_119) i_119 ((lp_X1_spread_10 x.2.1 x.2.2.2.2.2.2.2.1 x.2.2.2.2.2.2.2.2.1 x.2.2.2.2.2.2.2.2.2.1 (fun _ => (0 : Int32)) 48) i_119))) else (lp_X1_spread_119 x.1 x.2.2.2.1 (lp_X1_spread_10 x.2.1 x.2.2.2.2.2.2.2.1 x.2.2.2.2.2.2.2.2.1 x.2.2.2.2.2.2.2.2.2.1 (fun _ => (0 : Int32)) 48) x.2.1 i_119))), x.2.2.1, x.2.2.2.1, x.2.2.2.2.1, x.2.2.2.2.2.1, (lp_X1_spread_10 x.2.1 x.2.2.2.2.2.2.2.1 x.2.2.2.2.2.2.2.2.1 x.2.2.2.2.2.2.2.2.2.1 (fun _ => (0 : Int32)) 48), x.2.2.2.2.2.2.2.1, x.2.2.2.2.2.2.2.2.1, x.2.2.2.2.2.2.2.2.2.1, x.2.2.2.2.2.2.2.2.2.2.1, x.2.2.2.2.2.2.2.2.2.2.2.1, x.2.2.2.2.2.2.2.2.2.2.2.2.1, x.2.2.2.2.2.2.2.2.2.2.2.2.2)) → lv_has ls 4 [(0, .ref h), (1, .int (nI i_119))] → W p l e (zRm 2 0 0) s m args below meth c H locs 0 0 (MQ below (zQ G A (po_X1_spread G h ad x)) args s 0 0 A) (F0 m 170 ls []) := by
            intro H locs ls hW hl
            refine lv_iinc (v := (nI (i_119 + 1))) hx hb dX1_spread_170 hl (k := 1) rfl (nI_1 _) (by decide) rfl (fun ls hl => ?_)
            refine lv_goto (tgt := 119) hx hb dX1_spread_173 (by decide) ?_
            exact ih _ _ _ (hW.eq (by rw [lp_X1_spread_119_s] <;> rfl)) (lv_sub hl [1, 0] rfl)
          refine lv_if_le (tgt := 170) hx hb dX1_spread_131 (by decide) (fun c_131 => ?_) (fun c_131 => ?_)
          · have e_0 : (if (x.1 i_119) ≤ (0 : Int32) then (lp_X1_spread_119 x.1 x.2.2.2.1 (lp_X1_spread_10 x.2.1 x.2.2.2.2.2.2.2.1 x.2.2.2.2.2.2.2.2.1 x.2.2.2.2.2.2.2.2.2.1 (fun _ => (0 : Int32)) 48) x.2.1 i_119) else (if (x.2.2.2.1 i_119) = (0 : Int32) then (if ((lp_X1_spread_10 x.2.1 x.2.2.2.2.2.2.2.1 x.2.2.2.2.2.2.2.2.1 x.2.2.2.2.2.2.2.2.2.1 (fun _ => (0 : Int32)) 48) i_119) ≤ ((lp_X1_spread_119 x.1 x.2.2.2.1 (lp_X1_spread_10 x.2.1 x.2.2.2.2.2.2.2.1 x.2.2.2.2.2.2.2.2.1 x.2.2.2.2.2.2.2.2.2.1 (fun _ => (0 : Int32)) 48) x.2.1 i_119) i_119) then (lp_X1_spread_119 x.1 x.2.2.2.1 (lp_X1_spread_10 x.2.1 x.2.2.2.2.2.2.2.1 x.2.2.2.2.2.2.2.2.1 x.2.2.2.2.2.2.2.2.2.1 (fun _ => (0 : Int32)) 48) x.2.1 i_119) else (upd (lp_X1_spread_119 x.1 x.2.2.2.1 (lp_X1_spread_10 x.2.1 x.2.2.2.2.2.2.2.1 x.2.2.2.2.2.2.2.2.1 x.2.2.2.2.2.2.2.2.2.1 (fun _ => (0 : Int32)) 48) x.2.1 i_119) i_119 ((lp_X1_spread_10 x.2.1 x.2.2.2.2.2.2.2.1 x.2.2.2.2.2.2.2.2.1 x.2.2.2.2.2.2.2.2.2.1 (fun _ => (0 : Int32)) 48) i_119))) else (lp_X1_spread_119 x.1 x.2.2.2.1 (lp_X1_spread_10 x.2.1 x.2.2.2.2.2.2.2.1 x.2.2.2.2.2.2.2.2.1 x.2.2.2.2.2.2.2.2.2.1 (fun _ => (0 : Int32)) 48) x.2.1 i_119))) = (lp_X1_spread_119 x.1 x.2.2.2.1 (lp_X1_spread_10 x.2.1 x.2.2.2.2.2.2.2.1 x.2.2.2.2.2.2.2.2.1 x.2.2.2.2.2.2.2.2.2.1 (fun _ => (0 : Int32)) 48) x.2.1 i_119) := if_pos c_131
            exact J_3 _ _ _ (hW.eq (by (try rw [e_0]) <;> rfl)) (by (try rw [e_0]) <;> exact lv_sub hl [0, 1] rfl)
          · refine lv_aload_n hx hb dX1_spread_134 rfl (lv_at hl 0 rfl) ?_
            refine zget B hW 0 rfl lf_X1_21 rfl dX1_spread_135 ?_
            refine lv_iload_n hx hb dX1_spread_138 rfl (lv_at hl 1 rfl) ?_
            refine zzaldN B hW 4 rfl i_119 rfl (by omega) (by decide) dX1_spread_139 ?_
            refine lv_if_ne (tgt := 170) hx hb dX1_spread_140 (by decide) (fun c_140 => ?_) (fun c_140 => ?_)
            · have e_0 : (if (x.1 i_119) ≤ (0 : Int32) then (lp_X1_spread_119 x.1 x.2.2.2.1 (lp_X1_spread_10 x.2.1 x.2.2.2.2.2.2.2.1 x.2.2.2.2.2.2.2.2.1 x.2.2.2.2.2.2.2.2.2.1 (fun _ => (0 : Int32)) 48) x.2.1 i_119) else (if (x.2.2.2.1 i_119) = (0 : Int32) then (if ((lp_X1_spread_10 x.2.1 x.2.2.2.2.2.2.2.1 x.2.2.2.2.2.2.2.2.1 x.2.2.2.2.2.2.2.2.2.1 (fun _ => (0 : Int32)) 48) i_119) ≤ ((lp_X1_spread_119 x.1 x.2.2.2.1 (lp_X1_spread_10 x.2.1 x.2.2.2.2.2.2.2.1 x.2.2.2.2.2.2.2.2.1 x.2.2.2.2.2.2.2.2.2.1 (fun _ => (0 : Int32)) 48) x.2.1 i_119) i_119) then (lp_X1_spread_119 x.1 x.2.2.2.1 (lp_X1_spread_10 x.2.1 x.2.2.2.2.2.2.2.1 x.2.2.2.2.2.2.2.2.1 x.2.2.2.2.2.2.2.2.2.1 (fun _ => (0 : Int32)) 48) x.2.1 i_119) else (upd (lp_X1_spread_119 x.1 x.2.2.2.1 (lp_X1_spread_10 x.2.1 x.2.2.2.2.2.2.2.1 x.2.2.2.2.2.2.2.2.1 x.2.2.2.2.2.2.2.2.2.1 (fun _ => (0 : Int32)) 48) x.2.1 i_119) i_119 ((lp_X1_spread_10 x.2.1 x.2.2.2.2.2.2.2.1 x.2.2.2.2.2.2.2.2.1 x.2.2.2.2.2.2.2.2.2.1 (fun _ => (0 : Int32)) 48) i_119))) else (lp_X1_spread_119 x.1 x.2.2.2.1 (lp_X1_spread_10 x.2.1 x.2.2.2.2.2.2.2.1 x.2.2.2.2.2.2.2.2.1 x.2.2.2.2.2.2.2.2.2.1 (fun _ => (0 : Int32)) 48) x.2.1 i_119))) = (lp_X1_spread_119 x.1 x.2.2.2.1 (lp_X1_spread_10 x.2.1 x.2.2.2.2.2.2.2.1 x.2.2.2.2.2.2.2.2.1 x.2.2.2.2.2.2.2.2.2.1 (fun _ => (0 : Int32)) 48) x.2.1 i_119) := (if_neg c_131).trans (if_neg c_140)
              exact J_3 _ _ _ (hW.eq (by (try rw [e_0]) <;> rfl)) (by (try rw [e_0]) <;> exact lv_sub hl [0, 1] rfl)
            · refine lv_aload_n hx hb dX1_spread_143 rfl (lv_at hl 0 rfl) ?_
              refine zget B hW 0 rfl lf_X1_15 rfl dX1_spread_144 ?_
              refine lv_iload_n hx hb dX1_spread_147 rfl (lv_at hl 1 rfl) ?_
              refine zialdN B hW 2 rfl i_119 rfl (by omega) (by decide) dX1_spread_148 ?_
              refine lv_aload_n hx hb dX1_spread_149 rfl (lv_at hl 0 rfl) ?_
              refine zget B hW 0 rfl lf_X1_31 rfl dX1_spread_150 ?_
              refine lv_iload_n hx hb dX1_spread_153 rfl (lv_at hl 1 rfl) ?_
              refine zialdN B hW 7 rfl i_119 rfl (by omega) (by decide) dX1_spread_154 ?_
              refine lv_icmp_ge (tgt := 170) hx hb dX1_spread_155 (by decide) (fun c_155 => ?_) (fun c_155 => ?_)
              · have e_0 : (if (x.1 i_119) ≤ (0 : Int32) then (lp_X1_spread_119 x.1 x.2.2.2.1 (lp_X1_spread_10 x.2.1 x.2.2.2.2.2.2.2.1 x.2.2.2.2.2.2.2.2.1 x.2.2.2.2.2.2.2.2.2.1 (fun _ => (0 : Int32)) 48) x.2.1 i_119) else (if (x.2.2.2.1 i_119) = (0 : Int32) then (if ((lp_X1_spread_10 x.2.1 x.2.2.2.2.2.2.2.1 x.2.2.2.2.2.2.2.2.1 x.2.2.2.2.2.2.2.2.2.1 (fun _ => (0 : Int32)) 48) i_119) ≤ ((lp_X1_spread_119 x.1 x.2.2.2.1 (lp_X1_spread_10 x.2.1 x.2.2.2.2.2.2.2.1 x.2.2.2.2.2.2.2.2.1 x.2.2.2.2.2.2.2.2.2.1 (fun _ => (0 : Int32)) 48) x.2.1 i_119) i_119) then (lp_X1_spread_119 x.1 x.2.2.2.1 (lp_X1_spread_10 x.2.1 x.2.2.2.2.2.2.2.1 x.2.2.2.2.2.2.2.2.1 x.2.2.2.2.2.2.2.2.2.1 (fun _ => (0 : Int32)) 48) x.2.1 i_119) else (upd (lp_X1_spread_119 x.1 x.2.2.2.1 (lp_X1_spread_10 x.2.1 x.2.2.2.2.2.2.2.1 x.2.2.2.2.2.2.2.2.1 x.2.2.2.2.2.2.2.2.2.1 (fun _ => (0 : Int32)) 48) x.2.1 i_119) i_119 ((lp_X1_spread_10 x.2.1 x.2.2.2.2.2.2.2.1 x.2.2.2.2.2.2.2.2.1 x.2.2.2.2.2.2.2.2.2.1 (fun _ => (0 : Int32)) 48) i_119))) else (lp_X1_spread_119 x.1 x.2.2.2.1 (lp_X1_spread_10 x.2.1 x.2.2.2.2.2.2.2.1 x.2.2.2.2.2.2.2.2.1 x.2.2.2.2.2.2.2.2.2.1 (fun _ => (0 : Int32)) 48) x.2.1 i_119))) = (lp_X1_spread_119 x.1 x.2.2.2.1 (lp_X1_spread_10 x.2.1 x.2.2.2.2.2.2.2.1 x.2.2.2.2.2.2.2.2.1 x.2.2.2.2.2.2.2.2.2.1 (fun _ => (0 : Int32)) 48) x.2.1 i_119) := (if_neg c_131).trans ((if_pos c_140).trans (if_pos c_155))
                exact J_3 _ _ _ (hW.eq (by (try rw [e_0]) <;> rfl)) (by (try rw [e_0]) <;> exact lv_sub hl [0, 1] rfl)
              · refine lv_aload_n hx hb dX1_spread_158 rfl (lv_at hl 0 rfl) ?_
                refine zget B hW 0 rfl lf_X1_15 rfl dX1_spread_159 ?_
                refine lv_iload_n hx hb dX1_spread_162 rfl (lv_at hl 1 rfl) ?_
                refine lv_aload_n hx hb dX1_spread_163 rfl (lv_at hl 0 rfl) ?_
                refine zget B hW 0 rfl lf_X1_31 rfl dX1_spread_164 ?_
                refine lv_iload_n hx hb dX1_spread_167 rfl (lv_at hl 1 rfl) ?_
                refine zialdN B hW 7 rfl i_119 rfl (by omega) (by decide) dX1_spread_168 ?_
                refine ziastN B hW 2 rfl i_119 rfl (by omega) (by decide) dX1_spread_169 (fun H locs hW => ?_)
                have e_0 : (if (x.1 i_119) ≤ (0 : Int32) then (lp_X1_spread_119 x.1 x.2.2.2.1 (lp_X1_spread_10 x.2.1 x.2.2.2.2.2.2.2.1 x.2.2.2.2.2.2.2.2.1 x.2.2.2.2.2.2.2.2.2.1 (fun _ => (0 : Int32)) 48) x.2.1 i_119) else (if (x.2.2.2.1 i_119) = (0 : Int32) then (if ((lp_X1_spread_10 x.2.1 x.2.2.2.2.2.2.2.1 x.2.2.2.2.2.2.2.2.1 x.2.2.2.2.2.2.2.2.2.1 (fun _ => (0 : Int32)) 48) i_119) ≤ ((lp_X1_spread_119 x.1 x.2.2.2.1 (lp_X1_spread_10 x.2.1 x.2.2.2.2.2.2.2.1 x.2.2.2.2.2.2.2.2.1 x.2.2.2.2.2.2.2.2.2.1 (fun _ => (0 : Int32)) 48) x.2.1 i_119) i_119) then (lp_X1_spread_119 x.1 x.2.2.2.1 (lp_X1_spread_10 x.2.1 x.2.2.2.2.2.2.2.1 x.2.2.2.2.2.2.2.2.1 x.2.2.2.2.2.2.2.2.2.1 (fun _ => (0 : Int32)) 48) x.2.1 i_119) else (upd (lp_X1_spread_119 x.1 x.2.2.2.1 (lp_X1_spread_10 x.2.1 x.2.2.2.2.2.2.2.1 x.2.2.2.2.2.2.2.2.1 x.2.2.2.2.2.2.2.2.2.1 (fun _ => (0 : Int32)) 48) x.2.1 i_119) i_119 ((lp_X1_spread_10 x.2.1 x.2.2.2.2.2.2.2.1 x.2.2.2.2.2.2.2.2.1 x.2.2.2.2.2.2.2.2.2.1 (fun _ => (0 : Int32)) 48) i_119))) else (lp_X1_spread_119 x.1 x.2.2.2.1 (lp_X1_spread_10 x.2.1 x.2.2.2.2.2.2.2.1 x.2.2.2.2.2.2.2.2.1 x.2.2.2.2.2.2.2.2.2.1 (fun _ => (0 : Int32)) 48) x.2.1 i_119))) = (upd (lp_X1_spread_119 x.1 x.2.2.2.1 (lp_X1_spread_10 x.2.1 x.2.2.2.2.2.2.2.1 x.2.2.2.2.2.2.2.2.1 x.2.2.2.2.2.2.2.2.2.1 (fun _ => (0 : Int32)) 48) x.2.1 i_119) i_119 ((lp_X1_spread_10 x.2.1 x.2.2.2.2.2.2.2.1 x.2.2.2.2.2.2.2.2.1 x.2.2.2.2.2.2.2.2.2.1 (fun _ => (0 : Int32)) 48) i_119)) := (if_neg c_131).trans ((if_pos c_140).trans (if_neg c_155))
                exact J_3 _ _ _ (hW.eq (by (try rw [e_0]) <;> rfl)) (by (try rw [e_0]) <;> exact lv_sub hl [0, 1] rfl)
      exact L_2 0 (Nat.zero_le _) _ _ _ (hW.eq (by rw [lp_X1_spread_119_0] <;> rfl)) (lv_sub hl [1, 0] rfl)
    · intro i_10 hi_10 ih H locs ls hW hl
      refine lv_iload_n hx hb dX1_spread_10 rfl (lv_at hl 1 rfl) ?_
      refine lv_bipush (v := (48 : Int32)) hx hb dX1_spread_11 (by decide) ?_
      refine lv_icmp_ge (tgt := 117) hx hb dX1_spread_13 (by decide) (fun c_13 => absurd c_13 (znle (by decide) hi_10 (by decide))) (fun c_13 => ?_)
      refine lv_iload_n hx hb dX1_spread_16 rfl (lv_at hl 1 rfl) ?_
      refine lv_bipush (v := (8 : Int32)) hx hb dX1_spread_17 (by decide) ?_
      refine lv_irem hx hb dX1_spread_19 (by decide) ?_
      refine lv_istore_n hx hb dX1_spread_20 rfl hl (by decide) rfl (fun ls hl => ?_)
      refine lv_iload_n hx hb dX1_spread_21 rfl (lv_at hl 2 rfl) ?_
      refine lv_bipush (v := (8 : Int32)) hx hb dX1_spread_22 (by decide) ?_
      refine lv_idiv hx hb dX1_spread_24 (by decide) ?_
      refine lv_istore_n hx hb dX1_spread_25 rfl hl (by decide) rfl (fun ls hl => ?_)
      refine lv_aload_n hx hb dX1_spread_26 rfl (lv_at hl 2 rfl) ?_
      refine zget B hW 0 rfl lf_X1_15 rfl dX1_spread_27 ?_
      refine lv_iload_n hx hb dX1_spread_30 rfl (lv_at hl 3 rfl) ?_
      refine zialdN B hW 2 rfl i_10 rfl (by omega) (by decide) dX1_spread_31 ?_
      refine lv_iconst (v := (5 : Int32)) hx hb dX1_spread_32 (by decide) ?_
      have J_4 : ∀ (H : Heap) (locs : List Loc) (ls : Array Slot), zW G A s.heap H locs (landW G h ad (x.1, x.2.1, x.2.2.1, x.2.2.2.1, x.2.2.2.2.1, x.2.2.2.2.2.1, (if (x.2.1 i_10) < (5 : Int32) then (lp_X1_spread_10 x.2.1 x.2.2.2.2.2.2.2.1 x.2.2.2.2.2.2.2.2.1 x.2.2.2.2.2.2.2.2.2.1 (fun _ => (0 : Int32)) i_10) else (g_X1_tell_x_6 (g_X1_tell_x_6 (g_X1_tell_x_6 (g_X1_tell_x_6 (lp_X1_spread_10 x.2.1 x.2.2.2.2.2.2.2.1 x.2.2.2.2.2.2.2.2.1 x.2.2.2.2.2.2.2.2.2.1 (fun _ => (0 : Int32)) i_10) (((nI i_10) - (nI i_10) / (8 : Int32) * (8 : Int32)) - (1 : Int32)) ((nI i_10) / (8 : Int32)) (1 : Int32)) (((nI i_10) - (nI i_10) / (8 : Int32) * (8 : Int32)) + (1 : Int32)) ((nI i_10) / (8 : Int32)) (1 : Int32)) ((nI i_10) - (nI i_10) / (8 : Int32) * (8 : Int32)) (((nI i_10) / (8 : Int32)) - (1 : Int32)) (1 : Int32)) ((nI i_10) - (nI i_10) / (8 : Int32) * (8 : Int32)) (((nI i_10) / (8 : Int32)) + (1 : Int32)) (1 : Int32))), x.2.2.2.2.2.2.2.1, x.2.2.2.2.2.2.2.2.1, x.2.2.2.2.2.2.2.2.2.1, x.2.2.2.2.2.2.2.2.2.2.1, x.2.2.2.2.2.2.2.2.2.2.2.1, x.2.2.2.2.2.2.2.2.2.2.2.2.1, x.2.2.2.2.2.2.2.2.2.2.2.2.2)) → lv_has ls 4 [(0, .ref h), (1, .int (nI i_10)), (2, .int ((nI i_10) - (nI i_10) / (8 : Int32) * (8 : Int32))), (3, .int ((nI i_10) / (8 : Int32)))] → W p l e (zRm 2 0 0) s m args below meth c H locs 0 0 (MQ below (zQ G A (po_X1_spread G h ad x)) args s 0 0 A) (F0 m 72 ls []) := by
        intro H locs ls hW hl
        refine lv_aload_n hx hb dX1_spread_72 rfl (lv_at hl 0 rfl) ?_
        refine zget B hW 0 rfl lf_X1_15 rfl dX1_spread_73 ?_
        refine lv_iload_n hx hb dX1_spread_76 rfl (lv_at hl 1 rfl) ?_
        refine zialdN B hW 2 rfl i_10 rfl (by omega) (by decide) dX1_spread_77 ?_
        refine lv_iconst (v := (3 : Int32)) hx hb dX1_spread_78 (by decide) ?_
        have J_5 : ∀ (H : Heap) (locs : List Loc) (ls : Array Slot), zW G A s.heap H locs (landW G h ad (x.1, x.2.1, x.2.2.1, x.2.2.2.1, x.2.2.2.2.1, x.2.2.2.2.2.1, (if (x.2.1 i_10) < (3 : Int32) then (if (x.2.1 i_10) < (5 : Int32) then (lp_X1_spread_10 x.2.1 x.2.2.2.2.2.2.2.1 x.2.2.2.2.2.2.2.2.1 x.2.2.2.2.2.2.2.2.2.1 (fun _ => (0 : Int32)) i_10) else (g_X1_tell_x_6 (g_X1_tell_x_6 (g_X1_tell_x_6 (g_X1_tell_x_6 (lp_X1_spread_10 x.2.1 x.2.2.2.2.2.2.2.1 x.2.2.2.2.2.2.2.2.1 x.2.2.2.2.2.2.2.2.2.1 (fun _ => (0 : Int32)) i_10) (((nI i_10) - (nI i_10) / (8 : Int32) * (8 : Int32)) - (1 : Int32)) ((nI i_10) / (8 : Int32)) (1 : Int32)) (((nI i_10) - (nI i_10) / (8 : Int32) * (8 : Int32)) + (1 : Int32)) ((nI i_10) / (8 : Int32)) (1 : Int32)) ((nI i_10) - (nI i_10) / (8 : Int32) * (8 : Int32)) (((nI i_10) / (8 : Int32)) - (1 : Int32)) (1 : Int32)) ((nI i_10) - (nI i_10) / (8 : Int32) * (8 : Int32)) (((nI i_10) / (8 : Int32)) + (1 : Int32)) (1 : Int32))) else (if x.2.2.2.2.2.2.2.2.2.1 ≤ (0 : Int32) then (if (x.2.1 i_10) < (5 : Int32) then (lp_X1_spread_10 x.2.1 x.2.2.2.2.2.2.2.1 x.2.2.2.2.2.2.2.2.1 x.2.2.2.2.2.2.2.2.2.1 (fun _ => (0 : Int32)) i_10) else (g_X1_tell_x_6 (g_X1_tell_x_6 (g_X1_tell_x_6 (g_X1_tell_x_6 (lp_X1_spread_10 x.2.1 x.2.2.2.2.2.2.2.1 x.2.2.2.2.2.2.2.2.1 x.2.2.2.2.2.2.2.2.2.1 (fun _ => (0 : Int32)) i_10) (((nI i_10) - (nI i_10) / (8 : Int32) * (8 : Int32)) - (1 : Int32)) ((nI i_10) / (8 : Int32)) (1 : Int32)) (((nI i_10) - (nI i_10) / (8 : Int32) * (8 : Int32)) + (1 : Int32)) ((nI i_10) / (8 : Int32)) (1 : Int32)) ((nI i_10) - (nI i_10) / (8 : Int32) * (8 : Int32)) (((nI i_10) / (8 : Int32)) - (1 : Int32)) (1 : Int32)) ((nI i_10) - (nI i_10) / (8 : Int32) * (8 : Int32)) (((nI i_10) / (8 : Int32)) + (1 : Int32)) (1 : Int32))) else (g_X1_tell_x_6 (if (x.2.1 i_10) < (5 : Int32) then (lp_X1_spread_10 x.2.1 x.2.2.2.2.2.2.2.1 x.2.2.2.2.2.2.2.2.1 x.2.2.2.2.2.2.2.2.2.1 (fun _ => (0 : Int32)) i_10) else (g_X1_tell_x_6 (g_X1_tell_x_6 (g_X1_tell_x_6 (g_X1_tell_x_6 (lp_X1_spread_10 x.2.1 x.2.2.2.2.2.2.2.1 x.2.2.2.2.2.2.2.2.1 x.2.2.2.2.2.2.2.2.2.1 (fun _ => (0 : Int32)) i_10) (((nI i_10) - (nI i_10) / (8 : Int32) * (8 : Int32)) - (1 : Int32)) ((nI i_10) / (8 : Int32)) (1 : Int32)) (((nI i_10) - (nI i_10) / (8 : Int32) * (8 : Int32)) + (1 : Int32)) ((nI i_10) / (8 : Int32)) (1 : Int32)) ((nI i_10) - (nI i_10) / (8 : Int32) * (8 : Int32)) (((nI i_10) / (8 : Int32)) - (1 : Int32)) (1 : Int32)) ((nI i_10) - (nI i_10) / (8 : Int32) * (8 : Int32)) (((nI i_10) / (8 : Int32)) + (1 : Int32)) (1 : Int32))) (((nI i_10) - (nI i_10) / (8 : Int32) * (8 : Int32)) + x.2.2.2.2.2.2.2.1) (((nI i_10) / (8 : Int32)) + x.2.2.2.2.2.2.2.2.1) (x.2.2.2.2.2.2.2.2.2.1 + (1 : Int32))))), x.2.2.2.2.2.2.2.1, x.2.2.2.2.2.2.2.2.1, x.2.2.2.2.2.2.2.2.2.1, x.2.2.2.2.2.2.2.2.2.2.1, x.2.2.2.2.2.2.2.2.2.2.2.1, x.2.2.2.2.2.2.2.2.2.2.2.2.1, x.2.2.2.2.2.2.2.2.2.2.2.2.2)) → lv_has ls 4 [(0, .ref h), (1, .int (nI i_10))] → W p l e (zRm 2 0 0) s m args below meth c H locs 0 0 (MQ below (zQ G A (po_X1_spread G h ad x)) args s 0 0 A) (F0 m 111 ls []) := by
          intro H locs ls hW hl
          refine lv_iinc (v := (nI (i_10 + 1))) hx hb dX1_spread_111 hl (k := 1) rfl (nI_1 _) (by decide) rfl (fun ls hl => ?_)
          refine lv_goto (tgt := 10) hx hb dX1_spread_114 (by decide) ?_
          exact ih _ _ _ (hW.eq (by rw [lp_X1_spread_10_s] <;> rfl)) (lv_sub hl [1, 0] rfl)
        refine lv_icmp_lt (tgt := 111) hx hb dX1_spread_79 (by decide) (fun c_79 => ?_) (fun c_79 => ?_)
        · have e_0 : (if (x.2.1 i_10) < (3 : Int32) then (if (x.2.1 i_10) < (5 : Int32) then (lp_X1_spread_10 x.2.1 x.2.2.2.2.2.2.2.1 x.2.2.2.2.2.2.2.2.1 x.2.2.2.2.2.2.2.2.2.1 (fun _ => (0 : Int32)) i_10) else (g_X1_tell_x_6 (g_X1_tell_x_6 (g_X1_tell_x_6 (g_X1_tell_x_6 (lp_X1_spread_10 x.2.1 x.2.2.2.2.2.2.2.1 x.2.2.2.2.2.2.2.2.1 x.2.2.2.2.2.2.2.2.2.1 (fun _ => (0 : Int32)) i_10) (((nI i_10) - (nI i_10) / (8 : Int32) * (8 : Int32)) - (1 : Int32)) ((nI i_10) / (8 : Int32)) (1 : Int32)) (((nI i_10) - (nI i_10) / (8 : Int32) * (8 : Int32)) + (1 : Int32)) ((nI i_10) / (8 : Int32)) (1 : Int32)) ((nI i_10) - (nI i_10) / (8 : Int32) * (8 : Int32)) (((nI i_10) / (8 : Int32)) - (1 : Int32)) (1 : Int32)) ((nI i_10) - (nI i_10) / (8 : Int32) * (8 : Int32)) (((nI i_10) / (8 : Int32)) + (1 : Int32)) (1 : Int32))) else (if x.2.2.2.2.2.2.2.2.2.1 ≤ (0 : Int32) then (if (x.2.1 i_10) < (5 : Int32) then (lp_X1_spread_10 x.2.1 x.2.2.2.2.2.2.2.1 x.2.2.2.2.2.2.2.2.1 x.2.2.2.2.2.2.2.2.2.1 (fun _ => (0 : Int32)) i_10) else (g_X1_tell_x_6 (g_X1_tell_x_6 (g_X1_tell_x_6 (g_X1_tell_x_6 (lp_X1_spread_10 x.2.1 x.2.2.2.2.2.2.2.1 x.2.2.2.2.2.2.2.2.1 x.2.2.2.2.2.2.2.2.2.1 (fun _ => (0 : Int32)) i_10) (((nI i_10) - (nI i_10) / (8 : Int32) * (8 : Int32)) - (1 : Int32)) ((nI i_10) / (8 : Int32)) (1 : Int32)) (((nI i_10) - (nI i_10) / (8 : Int32) * (8 : Int32)) + (1 : Int32)) ((nI i_10) / (8 : Int32)) (1 : Int32)) ((nI i_10) - (nI i_10) / (8 : Int32) * (8 : Int32)) (((nI i_10) / (8 : Int32)) - (1 : Int32)) (1 : Int32)) ((nI i_10) - (nI i_10) / (8 : Int32) * (8 : Int32)) (((nI i_10) / (8 : Int32)) + (1 : Int32)) (1 : Int32))) else (g_X1_tell_x_6 (if (x.2.1 i_10) < (5 : Int32) then (lp_X1_spread_10 x.2.1 x.2.2.2.2.2.2.2.1 x.2.2.2.2.2.2.2.2.1 x.2.2.2.2.2.2.2.2.2.1 (fun _ => (0 : Int32)) i_10) else (g_X1_tell_x_6 (g_X1_tell_x_6 (g_X1_tell_x_6 (g_X1_tell_x_6 (lp_X1_spread_10 x.2.1 x.2.2.2.2.2.2.2.1 x.2.2.2.2.2.2.2.2.1 x.2.2.2.2.2.2.2.2.2.1 (fun _ => (0 : Int32)) i_10) (((nI i_10) - (nI i_10) / (8 : Int32) * (8 : Int32)) - (1 : Int32)) ((nI i_10) / (8 : Int32)) (1 : Int32)) (((nI i_10) - (nI i_10) / (8 : Int32) * (8 : Int32)) + (1 : Int32)) ((nI i_10) / (8 : Int32)) (1 : Int32)) ((nI i_10) - (nI i_10) / (8 : Int32) * (8 : Int32)) (((nI i_10) / (8 : Int32)) - (1 : Int32)) (1 : Int32)) ((nI i_10) - (nI i_10) / (8 : Int32) * (8 : Int32)) (((nI i_10) / (8 : Int32)) + (1 : Int32)) (1 : Int32))) (((nI i_10) - (nI i_10) / (8 : Int32) * (8 : Int32)) + x.2.2.2.2.2.2.2.1) (((nI i_10) / (8 : Int32)) + x.2.2.2.2.2.2.2.2.1) (x.2.2.2.2.2.2.2.2.2.1 + (1 : Int32))))) = (if (x.2.1 i_10) < (5 : Int32) then (lp_X1_spread_10 x.2.1 x.2.2.2.2.2.2.2.1 x.2.2.2.2.2.2.2.2.1 x.2.2.2.2.2.2.2.2.2.1 (fun _ => (0 : Int32)) i_10) else (g_X1_tell_x_6 (g_X1_tell_x_6 (g_X1_tell_x_6 (g_X1_tell_x_6 (lp_X1_spread_10 x.2.1 x.2.2.2.2.2.2.2.1 x.2.2.2.2.2.2.2.2.1 x.2.2.2.2.2.2.2.2.2.1 (fun _ => (0 : Int32)) i_10) (((nI i_10) - (nI i_10) / (8 : Int32) * (8 : Int32)) - (1 : Int32)) ((nI i_10) / (8 : Int32)) (1 : Int32)) (((nI i_10) - (nI i_10) / (8 : Int32) * (8 : Int32)) + (1 : Int32)) ((nI i_10) / (8 : Int32)) (1 : Int32)) ((nI i_10) - (nI i_10) / (8 : Int32) * (8 : Int32)) (((nI i_10) / (8 : Int32)) - (1 : Int32)) (1 : Int32)) ((nI i_10) - (nI i_10) / (8 : Int32) * (8 : Int32)) (((nI i_10) / (8 : Int32)) + (1 : Int32)) (1 : Int32))) := if_pos c_79
          exact J_5 _ _ _ (hW.eq (by (try rw [e_0]) <;> rfl)) (by (try rw [e_0]) <;> exact lv_sub hl [0, 1] rfl)
        · refine lv_aload_n hx hb dX1_spread_82 rfl (lv_at hl 0 rfl) ?_
          refine zget B hW 0 rfl lf_X1_41 rfl dX1_spread_83 ?_
          refine lv_if_le (tgt := 111) hx hb dX1_spread_86 (by decide) (fun c_86 => ?_) (fun c_86 => ?_)
          · have e_0 : (if (x.2.1 i_10) < (3 : Int32) then (if (x.2.1 i_10) < (5 : Int32) then (lp_X1_spread_10 x.2.1 x.2.2.2.2.2.2.2.1 x.2.2.2.2.2.2.2.2.1 x.2.2.2.2.2.2.2.2.2.1 (fun _ => (0 : Int32)) i_10) else (g_X1_tell_x_6 (g_X1_tell_x_6 (g_X1_tell_x_6 (g_X1_tell_x_6 (lp_X1_spread_10 x.2.1 x.2.2.2.2.2.2.2.1 x.2.2.2.2.2.2.2.2.1 x.2.2.2.2.2.2.2.2.2.1 (fun _ => (0 : Int32)) i_10) (((nI i_10) - (nI i_10) / (8 : Int32) * (8 : Int32)) - (1 : Int32)) ((nI i_10) / (8 : Int32)) (1 : Int32)) (((nI i_10) - (nI i_10) / (8 : Int32) * (8 : Int32)) + (1 : Int32)) ((nI i_10) / (8 : Int32)) (1 : Int32)) ((nI i_10) - (nI i_10) / (8 : Int32) * (8 : Int32)) (((nI i_10) / (8 : Int32)) - (1 : Int32)) (1 : Int32)) ((nI i_10) - (nI i_10) / (8 : Int32) * (8 : Int32)) (((nI i_10) / (8 : Int32)) + (1 : Int32)) (1 : Int32))) else (if x.2.2.2.2.2.2.2.2.2.1 ≤ (0 : Int32) then (if (x.2.1 i_10) < (5 : Int32) then (lp_X1_spread_10 x.2.1 x.2.2.2.2.2.2.2.1 x.2.2.2.2.2.2.2.2.1 x.2.2.2.2.2.2.2.2.2.1 (fun _ => (0 : Int32)) i_10) else (g_X1_tell_x_6 (g_X1_tell_x_6 (g_X1_tell_x_6 (g_X1_tell_x_6 (lp_X1_spread_10 x.2.1 x.2.2.2.2.2.2.2.1 x.2.2.2.2.2.2.2.2.1 x.2.2.2.2.2.2.2.2.2.1 (fun _ => (0 : Int32)) i_10) (((nI i_10) - (nI i_10) / (8 : Int32) * (8 : Int32)) - (1 : Int32)) ((nI i_10) / (8 : Int32)) (1 : Int32)) (((nI i_10) - (nI i_10) / (8 : Int32) * (8 : Int32)) + (1 : Int32)) ((nI i_10) / (8 : Int32)) (1 : Int32)) ((nI i_10) - (nI i_10) / (8 : Int32) * (8 : Int32)) (((nI i_10) / (8 : Int32)) - (1 : Int32)) (1 : Int32)) ((nI i_10) - (nI i_10) / (8 : Int32) * (8 : Int32)) (((nI i_10) / (8 : Int32)) + (1 : Int32)) (1 : Int32))) else (g_X1_tell_x_6 (if (x.2.1 i_10) < (5 : Int32) then (lp_X1_spread_10 x.2.1 x.2.2.2.2.2.2.2.1 x.2.2.2.2.2.2.2.2.1 x.2.2.2.2.2.2.2.2.2.1 (fun _ => (0 : Int32)) i_10) else (g_X1_tell_x_6 (g_X1_tell_x_6 (g_X1_tell_x_6 (g_X1_tell_x_6 (lp_X1_spread_10 x.2.1 x.2.2.2.2.2.2.2.1 x.2.2.2.2.2.2.2.2.1 x.2.2.2.2.2.2.2.2.2.1 (fun _ => (0 : Int32)) i_10) (((nI i_10) - (nI i_10) / (8 : Int32) * (8 : Int32)) - (1 : Int32)) ((nI i_10) / (8 : Int32)) (1 : Int32)) (((nI i_10) - (nI i_10) / (8 : Int32) * (8 : Int32)) + (1 : Int32)) ((nI i_10) / (8 : Int32)) (1 : Int32)) ((nI i_10) - (nI i_10) / (8 : Int32) * (8 : Int32)) (((nI i_10) / (8 : Int32)) - (1 : Int32)) (1 : Int32)) ((nI i_10) - (nI i_10) / (8 : Int32) * (8 : Int32)) (((nI i_10) / (8 : Int32)) + (1 : Int32)) (1 : Int32))) (((nI i_10) - (nI i_10) / (8 : Int32) * (8 : Int32)) + x.2.2.2.2.2.2.2.1) (((nI i_10) / (8 : Int32)) + x.2.2.2.2.2.2.2.2.1) (x.2.2.2.2.2.2.2.2.2.1 + (1 : Int32))))) = (if (x.2.1 i_10) < (5 : Int32) then (lp_X1_spread_10 x.2.1 x.2.2.2.2.2.2.2.1 x.2.2.2.2.2.2.2.2.1 x.2.2.2.2.2.2.2.2.2.1 (fun _ => (0 : Int32)) i_10) else (g_X1_tell_x_6 (g_X1_tell_x_6 (g_X1_tell_x_6 (g_X1_tell_x_6 (lp_X1_spread_10 x.2.1 x.2.2.2.2.2.2.2.1 x.2.2.2.2.2.2.2.2.1 x.2.2.2.2.2.2.2.2.2.1 (fun _ => (0 : Int32)) i_10) (((nI i_10) - (nI i_10) / (8 : Int32) * (8 : Int32)) - (1 : Int32)) ((nI i_10) / (8 : Int32)) (1 : Int32)) (((nI i_10) - (nI i_10) / (8 : Int32) * (8 : Int32)) + (1 : Int32)) ((nI i_10) / (8 : Int32)) (1 : Int32)) ((nI i_10) - (nI i_10) / (8 : Int32) * (8 : Int32)) (((nI i_10) / (8 : Int32)) - (1 : Int32)) (1 : Int32)) ((nI i_10) - (nI i_10) / (8 : Int32) * (8 : Int32)) (((nI i_10) / (8 : Int32)) + (1 : Int32)) (1 : Int32))) := (if_neg c_79).trans (if_pos c_86)
            exact J_5 _ _ _ (hW.eq (by (try rw [e_0]) <;> rfl)) (by (try rw [e_0]) <;> exact lv_sub hl [0, 1] rfl)
          · refine lv_aload_n hx hb dX1_spread_89 rfl (lv_at hl 0 rfl) ?_
            refine lv_iload_n hx hb dX1_spread_90 rfl (lv_at hl 2 rfl) ?_
            refine lv_aload_n hx hb dX1_spread_91 rfl (lv_at hl 0 rfl) ?_
            refine zget B hW 0 rfl lf_X1_34 rfl dX1_spread_92 ?_
            refine lv_iadd hx hb dX1_spread_95 ?_
            refine lv_iload_n hx hb dX1_spread_96 rfl (lv_at hl 3 rfl) ?_
            refine lv_aload_n hx hb dX1_spread_97 rfl (lv_at hl 0 rfl) ?_
            refine zget B hW 0 rfl lf_X1_38 rfl dX1_spread_98 ?_
            refine lv_iadd hx hb dX1_spread_101 ?_
            refine lv_aload_n hx hb dX1_spread_102 rfl (lv_at hl 0 rfl) ?_
            refine zget B hW 0 rfl lf_X1_41 rfl dX1_spread_103 ?_
            refine lv_iconst (v := (1 : Int32)) hx hb dX1_spread_106 (by decide) ?_
            refine lv_iadd hx hb dX1_spread_107 ?_
            refine zcV (w1 := []) (wc := landW G h ad (x.1, x.2.1, x.2.2.1, x.2.2.2.1, x.2.2.2.2.1, x.2.2.2.2.2.1, (if (x.2.1 i_10) < (5 : Int32) then (lp_X1_spread_10 x.2.1 x.2.2.2.2.2.2.2.1 x.2.2.2.2.2.2.2.2.1 x.2.2.2.2.2.2.2.2.2.1 (fun _ => (0 : Int32)) i_10) else (g_X1_tell_x_6 (g_X1_tell_x_6 (g_X1_tell_x_6 (g_X1_tell_x_6 (lp_X1_spread_10 x.2.1 x.2.2.2.2.2.2.2.1 x.2.2.2.2.2.2.2.2.1 x.2.2.2.2.2.2.2.2.2.1 (fun _ => (0 : Int32)) i_10) (((nI i_10) - (nI i_10) / (8 : Int32) * (8 : Int32)) - (1 : Int32)) ((nI i_10) / (8 : Int32)) (1 : Int32)) (((nI i_10) - (nI i_10) / (8 : Int32) * (8 : Int32)) + (1 : Int32)) ((nI i_10) / (8 : Int32)) (1 : Int32)) ((nI i_10) - (nI i_10) / (8 : Int32) * (8 : Int32)) (((nI i_10) / (8 : Int32)) - (1 : Int32)) (1 : Int32)) ((nI i_10) - (nI i_10) / (8 : Int32) * (8 : Int32)) (((nI i_10) / (8 : Int32)) + (1 : Int32)) (1 : Int32))), x.2.2.2.2.2.2.2.1, x.2.2.2.2.2.2.2.2.1, x.2.2.2.2.2.2.2.2.2.1, x.2.2.2.2.2.2.2.2.2.2.1, x.2.2.2.2.2.2.2.2.2.2.2.1, x.2.2.2.2.2.2.2.2.2.2.2.2.1, x.2.2.2.2.2.2.2.2.2.2.2.2.2)) (w2 := []) (As := [.int (((nI i_10) - (nI i_10) / (8 : Int32) * (8 : Int32)) + x.2.2.2.2.2.2.2.1), .int (((nI i_10) / (8 : Int32)) + x.2.2.2.2.2.2.2.2.1), .int (x.2.2.2.2.2.2.2.2.2.1 + (1 : Int32))]) B (hW.eq rfl) (c_X1_tell l G h ad (x.1, x.2.1, x.2.2.1, x.2.2.2.1, x.2.2.2.2.1, x.2.2.2.2.2.1, (if (x.2.1 i_10) < (5 : Int32) then (lp_X1_spread_10 x.2.1 x.2.2.2.2.2.2.2.1 x.2.2.2.2.2.2.2.2.1 x.2.2.2.2.2.2.2.2.2.1 (fun _ => (0 : Int32)) i_10) else (g_X1_tell_x_6 (g_X1_tell_x_6 (g_X1_tell_x_6 (g_X1_tell_x_6 (lp_X1_spread_10 x.2.1 x.2.2.2.2.2.2.2.1 x.2.2.2.2.2.2.2.2.1 x.2.2.2.2.2.2.2.2.2.1 (fun _ => (0 : Int32)) i_10) (((nI i_10) - (nI i_10) / (8 : Int32) * (8 : Int32)) - (1 : Int32)) ((nI i_10) / (8 : Int32)) (1 : Int32)) (((nI i_10) - (nI i_10) / (8 : Int32) * (8 : Int32)) + (1 : Int32)) ((nI i_10) / (8 : Int32)) (1 : Int32)) ((nI i_10) - (nI i_10) / (8 : Int32) * (8 : Int32)) (((nI i_10) / (8 : Int32)) - (1 : Int32)) (1 : Int32)) ((nI i_10) - (nI i_10) / (8 : Int32) * (8 : Int32)) (((nI i_10) / (8 : Int32)) + (1 : Int32)) (1 : Int32))), x.2.2.2.2.2.2.2.1, x.2.2.2.2.2.2.2.2.1, x.2.2.2.2.2.2.2.2.2.1, x.2.2.2.2.2.2.2.2.2.2.1, x.2.2.2.2.2.2.2.2.2.2.2.1, x.2.2.2.2.2.2.2.2.2.2.2.2.1, x.2.2.2.2.2.2.2.2.2.2.2.2.2) (((nI i_10) - (nI i_10) / (8 : Int32) * (8 : Int32)) + x.2.2.2.2.2.2.2.1) (((nI i_10) / (8 : Int32)) + x.2.2.2.2.2.2.2.2.1) (x.2.2.2.2.2.2.2.2.2.1 + (1 : Int32))) yd_X1_tell ml_X1_84 0 rfl rfl rfl rfl hl.1 rfl (Nat.le_of_ble_eq_true rfl) ⟨Nat.le_of_ble_eq_true rfl, Nat.le_of_ble_eq_true rfl⟩ ⟨(Nat.le_of_ble_eq_true rfl), (Nat.le_of_ble_eq_true rfl)⟩ dX1_spread_108 (fun v u H locs hp hW => ?_)
            obtain ⟨rfl, rfl⟩ := hp
            have hW := hW.eq (w' := landW G h ad (x.1, x.2.1, x.2.2.1, x.2.2.2.1, x.2.2.2.2.1, x.2.2.2.2.2.1, (g_X1_tell_x_6 (if (x.2.1 i_10) < (5 : Int32) then (lp_X1_spread_10 x.2.1 x.2.2.2.2.2.2.2.1 x.2.2.2.2.2.2.2.2.1 x.2.2.2.2.2.2.2.2.2.1 (fun _ => (0 : Int32)) i_10) else (g_X1_tell_x_6 (g_X1_tell_x_6 (g_X1_tell_x_6 (g_X1_tell_x_6 (lp_X1_spread_10 x.2.1 x.2.2.2.2.2.2.2.1 x.2.2.2.2.2.2.2.2.1 x.2.2.2.2.2.2.2.2.2.1 (fun _ => (0 : Int32)) i_10) (((nI i_10) - (nI i_10) / (8 : Int32) * (8 : Int32)) - (1 : Int32)) ((nI i_10) / (8 : Int32)) (1 : Int32)) (((nI i_10) - (nI i_10) / (8 : Int32) * (8 : Int32)) + (1 : Int32)) ((nI i_10) / (8 : Int32)) (1 : Int32)) ((nI i_10) - (nI i_10) / (8 : Int32) * (8 : Int32)) (((nI i_10) / (8 : Int32)) - (1 : Int32)) (1 : Int32)) ((nI i_10) - (nI i_10) / (8 : Int32) * (8 : Int32)) (((nI i_10) / (8 : Int32)) + (1 : Int32)) (1 : Int32))) (((nI i_10) - (nI i_10) / (8 : Int32) * (8 : Int32)) + x.2.2.2.2.2.2.2.1) (((nI i_10) / (8 : Int32)) + x.2.2.2.2.2.2.2.2.1) (x.2.2.2.2.2.2.2.2.2.1 + (1 : Int32))), x.2.2.2.2.2.2.2.1, x.2.2.2.2.2.2.2.2.1, x.2.2.2.2.2.2.2.2.2.1, x.2.2.2.2.2.2.2.2.2.2.1, x.2.2.2.2.2.2.2.2.2.2.2.1, x.2.2.2.2.2.2.2.2.2.2.2.2.1, x.2.2.2.2.2.2.2.2.2.2.2.2.2)) rfl
            have e_0 : (if (x.2.1 i_10) < (3 : Int32) then (if (x.2.1 i_10) < (5 : Int32) then (lp_X1_spread_10 x.2.1 x.2.2.2.2.2.2.2.1 x.2.2.2.2.2.2.2.2.1 x.2.2.2.2.2.2.2.2.2.1 (fun _ => (0 : Int32)) i_10) else (g_X1_tell_x_6 (g_X1_tell_x_6 (g_X1_tell_x_6 (g_X1_tell_x_6 (lp_X1_spread_10 x.2.1 x.2.2.2.2.2.2.2.1 x.2.2.2.2.2.2.2.2.1 x.2.2.2.2.2.2.2.2.2.1 (fun _ => (0 : Int32)) i_10) (((nI i_10) - (nI i_10) / (8 : Int32) * (8 : Int32)) - (1 : Int32)) ((nI i_10) / (8 : Int32)) (1 : Int32)) (((nI i_10) - (nI i_10) / (8 : Int32) * (8 : Int32)) + (1 : Int32)) ((nI i_10) / (8 : Int32)) (1 : Int32)) ((nI i_10) - (nI i_10) / (8 : Int32) * (8 : Int32)) (((nI i_10) / (8 : Int32)) - (1 : Int32)) (1 : Int32)) ((nI i_10) - (nI i_10) / (8 : Int32) * (8 : Int32)) (((nI i_10) / (8 : Int32)) + (1 : Int32)) (1 : Int32))) else (if x.2.2.2.2.2.2.2.2.2.1 ≤ (0 : Int32) then (if (x.2.1 i_10) < (5 : Int32) then (lp_X1_spread_10 x.2.1 x.2.2.2.2.2.2.2.1 x.2.2.2.2.2.2.2.2.1 x.2.2.2.2.2.2.2.2.2.1 (fun _ => (0 : Int32)) i_10) else (g_X1_tell_x_6 (g_X1_tell_x_6 (g_X1_tell_x_6 (g_X1_tell_x_6 (lp_X1_spread_10 x.2.1 x.2.2.2.2.2.2.2.1 x.2.2.2.2.2.2.2.2.1 x.2.2.2.2.2.2.2.2.2.1 (fun _ => (0 : Int32)) i_10) (((nI i_10) - (nI i_10) / (8 : Int32) * (8 : Int32)) - (1 : Int32)) ((nI i_10) / (8 : Int32)) (1 : Int32)) (((nI i_10) - (nI i_10) / (8 : Int32) * (8 : Int32)) + (1 : Int32)) ((nI i_10) / (8 : Int32)) (1 : Int32)) ((nI i_10) - (nI i_10) / (8 : Int32) * (8 : Int32)) (((nI i_10) / (8 : Int32)) - (1 : Int32)) (1 : Int32)) ((nI i_10) - (nI i_10) / (8 : Int32) * (8 : Int32)) (((nI i_10) / (8 : Int32)) + (1 : Int32)) (1 : Int32))) else (g_X1_tell_x_6 (if (x.2.1 i_10) < (5 : Int32) then (lp_X1_spread_10 x.2.1 x.2.2.2.2.2.2.2.1 x.2.2.2.2.2.2.2.2.1 x.2.2.2.2.2.2.2.2.2.1 (fun _ => (0 : Int32)) i_10) else (g_X1_tell_x_6 (g_X1_tell_x_6 (g_X1_tell_x_6 (g_X1_tell_x_6 (lp_X1_spread_10 x.2.1 x.2.2.2.2.2.2.2.1 x.2.2.2.2.2.2.2.2.1 x.2.2.2.2.2.2.2.2.2.1 (fun _ => (0 : Int32)) i_10) (((nI i_10) - (nI i_10) / (8 : Int32) * (8 : Int32)) - (1 : Int32)) ((nI i_10) / (8 : Int32)) (1 : Int32)) (((nI i_10) - (nI i_10) / (8 : Int32) * (8 : Int32)) + (1 : Int32)) ((nI i_10) / (8 : Int32)) (1 : Int32)) ((nI i_10) - (nI i_10) / (8 : Int32) * (8 : Int32)) (((nI i_10) / (8 : Int32)) - (1 : Int32)) (1 : Int32)) ((nI i_10) - (nI i_10) / (8 : Int32) * (8 : Int32)) (((nI i_10) / (8 : Int32)) + (1 : Int32)) (1 : Int32))) (((nI i_10) - (nI i_10) / (8 : Int32) * (8 : Int32)) + x.2.2.2.2.2.2.2.1) (((nI i_10) / (8 : Int32)) + x.2.2.2.2.2.2.2.2.1) (x.2.2.2.2.2.2.2.2.2.1 + (1 : Int32))))) = (g_X1_tell_x_6 (if (x.2.1 i_10) < (5 : Int32) then (lp_X1_spread_10 x.2.1 x.2.2.2.2.2.2.2.1 x.2.2.2.2.2.2.2.2.1 x.2.2.2.2.2.2.2.2.2.1 (fun _ => (0 : Int32)) i_10) else (g_X1_tell_x_6 (g_X1_tell_x_6 (g_X1_tell_x_6 (g_X1_tell_x_6 (lp_X1_spread_10 x.2.1 x.2.2.2.2.2.2.2.1 x.2.2.2.2.2.2.2.2.1 x.2.2.2.2.2.2.2.2.2.1 (fun _ => (0 : Int32)) i_10) (((nI i_10) - (nI i_10) / (8 : Int32) * (8 : Int32)) - (1 : Int32)) ((nI i_10) / (8 : Int32)) (1 : Int32)) (((nI i_10) - (nI i_10) / (8 : Int32) * (8 : Int32)) + (1 : Int32)) ((nI i_10) / (8 : Int32)) (1 : Int32)) ((nI i_10) - (nI i_10) / (8 : Int32) * (8 : Int32)) (((nI i_10) / (8 : Int32)) - (1 : Int32)) (1 : Int32)) ((nI i_10) - (nI i_10) / (8 : Int32) * (8 : Int32)) (((nI i_10) / (8 : Int32)) + (1 : Int32)) (1 : Int32))) (((nI i_10) - (nI i_10) / (8 : Int32) * (8 : Int32)) + x.2.2.2.2.2.2.2.1) (((nI i_10) / (8 : Int32)) + x.2.2.2.2.2.2.2.2.1) (x.2.2.2.2.2.2.2.2.2.1 + (1 : Int32))) := (if_neg c_79).trans (if_neg c_86)
            exact J_5 _ _ _ (hW.eq (by (try rw [e_0]) <;> rfl)) (by (try rw [e_0]) <;> exact lv_sub hl [0, 1] rfl)
      refine lv_icmp_lt (tgt := 72) hx hb dX1_spread_33 (by decide) (fun c_33 => ?_) (fun c_33 => ?_)
      · have e_0 : (if (x.2.1 i_10) < (5 : Int32) then (lp_X1_spread_10 x.2.1 x.2.2.2.2.2.2.2.1 x.2.2.2.2.2.2.2.2.1 x.2.2.2.2.2.2.2.2.2.1 (fun _ => (0 : Int32)) i_10) else (g_X1_tell_x_6 (g_X1_tell_x_6 (g_X1_tell_x_6 (g_X1_tell_x_6 (lp_X1_spread_10 x.2.1 x.2.2.2.2.2.2.2.1 x.2.2.2.2.2.2.2.2.1 x.2.2.2.2.2.2.2.2.2.1 (fun _ => (0 : Int32)) i_10) (((nI i_10) - (nI i_10) / (8 : Int32) * (8 : Int32)) - (1 : Int32)) ((nI i_10) / (8 : Int32)) (1 : Int32)) (((nI i_10) - (nI i_10) / (8 : Int32) * (8 : Int32)) + (1 : Int32)) ((nI i_10) / (8 : Int32)) (1 : Int32)) ((nI i_10) - (nI i_10) / (8 : Int32) * (8 : Int32)) (((nI i_10) / (8 : Int32)) - (1 : Int32)) (1 : Int32)) ((nI i_10) - (nI i_10) / (8 : Int32) * (8 : Int32)) (((nI i_10) / (8 : Int32)) + (1 : Int32)) (1 : Int32))) = (lp_X1_spread_10 x.2.1 x.2.2.2.2.2.2.2.1 x.2.2.2.2.2.2.2.2.1 x.2.2.2.2.2.2.2.2.2.1 (fun _ => (0 : Int32)) i_10) := if_pos c_33
        exact J_4 _ _ _ (hW.eq (by (try rw [e_0]) <;> rfl)) (by (try rw [e_0]) <;> exact lv_sub hl [2, 3, 1, 0] rfl)
      · refine lv_aload_n hx hb dX1_spread_36 rfl (lv_at hl 2 rfl) ?_
        refine lv_iload_n hx hb dX1_spread_37 rfl (lv_at hl 1 rfl) ?_
        refine lv_iconst (v := (1 : Int32)) hx hb dX1_spread_38 (by decide) ?_
        refine lv_isub hx hb dX1_spread_39 ?_
        refine lv_iload_n hx hb dX1_spread_40 rfl (lv_at hl 0 rfl) ?_
        refine lv_iconst (v := (1 : Int32)) hx hb dX1_spread_41 (by decide) ?_
        refine zcV (w1 := []) (wc := landW G h ad (x.1, x.2.1, x.2.2.1, x.2.2.2.1, x.2.2.2.2.1, x.2.2.2.2.2.1, (lp_X1_spread_10 x.2.1 x.2.2.2.2.2.2.2.1 x.2.2.2.2.2.2.2.2.1 x.2.2.2.2.2.2.2.2.2.1 (fun _ => (0 : Int32)) i_10), x.2.2.2.2.2.2.2.1, x.2.2.2.2.2.2.2.2.1, x.2.2.2.2.2.2.2.2.2.1, x.2.2.2.2.2.2.2.2.2.2.1, x.2.2.2.2.2.2.2.2.2.2.2.1, x.2.2.2.2.2.2.2.2.2.2.2.2.1, x.2.2.2.2.2.2.2.2.2.2.2.2.2)) (w2 := []) (As := [.int (((nI i_10) - (nI i_10) / (8 : Int32) * (8 : Int32)) - (1 : Int32)), .int ((nI i_10) / (8 : Int32)), .int (1 : Int32)]) B (hW.eq rfl) (c_X1_tell l G h ad (x.1, x.2.1, x.2.2.1, x.2.2.2.1, x.2.2.2.2.1, x.2.2.2.2.2.1, (lp_X1_spread_10 x.2.1 x.2.2.2.2.2.2.2.1 x.2.2.2.2.2.2.2.2.1 x.2.2.2.2.2.2.2.2.2.1 (fun _ => (0 : Int32)) i_10), x.2.2.2.2.2.2.2.1, x.2.2.2.2.2.2.2.2.1, x.2.2.2.2.2.2.2.2.2.1, x.2.2.2.2.2.2.2.2.2.2.1, x.2.2.2.2.2.2.2.2.2.2.2.1, x.2.2.2.2.2.2.2.2.2.2.2.2.1, x.2.2.2.2.2.2.2.2.2.2.2.2.2) (((nI i_10) - (nI i_10) / (8 : Int32) * (8 : Int32)) - (1 : Int32)) ((nI i_10) / (8 : Int32)) (1 : Int32)) yd_X1_tell ml_X1_84 0 rfl rfl rfl rfl hl.1 rfl (Nat.le_of_ble_eq_true rfl) ⟨Nat.le_of_ble_eq_true rfl, Nat.le_of_ble_eq_true rfl⟩ ⟨(Nat.le_of_ble_eq_true rfl), (Nat.le_of_ble_eq_true rfl)⟩ dX1_spread_42 (fun v u H locs hp hW => ?_)
        obtain ⟨rfl, rfl⟩ := hp
        have hW := hW.eq (w' := landW G h ad (x.1, x.2.1, x.2.2.1, x.2.2.2.1, x.2.2.2.2.1, x.2.2.2.2.2.1, (g_X1_tell_x_6 (lp_X1_spread_10 x.2.1 x.2.2.2.2.2.2.2.1 x.2.2.2.2.2.2.2.2.1 x.2.2.2.2.2.2.2.2.2.1 (fun _ => (0 : Int32)) i_10) (((nI i_10) - (nI i_10) / (8 : Int32) * (8 : Int32)) - (1 : Int32)) ((nI i_10) / (8 : Int32)) (1 : Int32)), x.2.2.2.2.2.2.2.1, x.2.2.2.2.2.2.2.2.1, x.2.2.2.2.2.2.2.2.2.1, x.2.2.2.2.2.2.2.2.2.2.1, x.2.2.2.2.2.2.2.2.2.2.2.1, x.2.2.2.2.2.2.2.2.2.2.2.2.1, x.2.2.2.2.2.2.2.2.2.2.2.2.2)) rfl
        refine lv_aload_n hx hb dX1_spread_45 rfl (lv_at hl 2 rfl) ?_
        refine lv_iload_n hx hb dX1_spread_46 rfl (lv_at hl 1 rfl) ?_
        refine lv_iconst (v := (1 : Int32)) hx hb dX1_spread_47 (by decide) ?_
        refine lv_iadd hx hb dX1_spread_48 ?_
        refine lv_iload_n hx hb dX1_spread_49 rfl (lv_at hl 0 rfl) ?_
        refine lv_iconst (v := (1 : Int32)) hx hb dX1_spread_50 (by decide) ?_
        refine zcV (w1 := []) (wc := landW G h ad (x.1, x.2.1, x.2.2.1, x.2.2.2.1, x.2.2.2.2.1, x.2.2.2.2.2.1, (g_X1_tell_x_6 (lp_X1_spread_10 x.2.1 x.2.2.2.2.2.2.2.1 x.2.2.2.2.2.2.2.2.1 x.2.2.2.2.2.2.2.2.2.1 (fun _ => (0 : Int32)) i_10) (((nI i_10) - (nI i_10) / (8 : Int32) * (8 : Int32)) - (1 : Int32)) ((nI i_10) / (8 : Int32)) (1 : Int32)), x.2.2.2.2.2.2.2.1, x.2.2.2.2.2.2.2.2.1, x.2.2.2.2.2.2.2.2.2.1, x.2.2.2.2.2.2.2.2.2.2.1, x.2.2.2.2.2.2.2.2.2.2.2.1, x.2.2.2.2.2.2.2.2.2.2.2.2.1, x.2.2.2.2.2.2.2.2.2.2.2.2.2)) (w2 := []) (As := [.int (((nI i_10) - (nI i_10) / (8 : Int32) * (8 : Int32)) + (1 : Int32)), .int ((nI i_10) / (8 : Int32)), .int (1 : Int32)]) B (hW.eq rfl) (c_X1_tell l G h ad (x.1, x.2.1, x.2.2.1, x.2.2.2.1, x.2.2.2.2.1, x.2.2.2.2.2.1, (g_X1_tell_x_6 (lp_X1_spread_10 x.2.1 x.2.2.2.2.2.2.2.1 x.2.2.2.2.2.2.2.2.1 x.2.2.2.2.2.2.2.2.2.1 (fun _ => (0 : Int32)) i_10) (((nI i_10) - (nI i_10) / (8 : Int32) * (8 : Int32)) - (1 : Int32)) ((nI i_10) / (8 : Int32)) (1 : Int32)), x.2.2.2.2.2.2.2.1, x.2.2.2.2.2.2.2.2.1, x.2.2.2.2.2.2.2.2.2.1, x.2.2.2.2.2.2.2.2.2.2.1, x.2.2.2.2.2.2.2.2.2.2.2.1, x.2.2.2.2.2.2.2.2.2.2.2.2.1, x.2.2.2.2.2.2.2.2.2.2.2.2.2) (((nI i_10) - (nI i_10) / (8 : Int32) * (8 : Int32)) + (1 : Int32)) ((nI i_10) / (8 : Int32)) (1 : Int32)) yd_X1_tell ml_X1_84 0 rfl rfl rfl rfl hl.1 rfl (Nat.le_of_ble_eq_true rfl) ⟨Nat.le_of_ble_eq_true rfl, Nat.le_of_ble_eq_true rfl⟩ ⟨(Nat.le_of_ble_eq_true rfl), (Nat.le_of_ble_eq_true rfl)⟩ dX1_spread_51 (fun v u H locs hp hW => ?_)
        obtain ⟨rfl, rfl⟩ := hp
        have hW := hW.eq (w' := landW G h ad (x.1, x.2.1, x.2.2.1, x.2.2.2.1, x.2.2.2.2.1, x.2.2.2.2.2.1, (g_X1_tell_x_6 (g_X1_tell_x_6 (lp_X1_spread_10 x.2.1 x.2.2.2.2.2.2.2.1 x.2.2.2.2.2.2.2.2.1 x.2.2.2.2.2.2.2.2.2.1 (fun _ => (0 : Int32)) i_10) (((nI i_10) - (nI i_10) / (8 : Int32) * (8 : Int32)) - (1 : Int32)) ((nI i_10) / (8 : Int32)) (1 : Int32)) (((nI i_10) - (nI i_10) / (8 : Int32) * (8 : Int32)) + (1 : Int32)) ((nI i_10) / (8 : Int32)) (1 : Int32)), x.2.2.2.2.2.2.2.1, x.2.2.2.2.2.2.2.2.1, x.2.2.2.2.2.2.2.2.2.1, x.2.2.2.2.2.2.2.2.2.2.1, x.2.2.2.2.2.2.2.2.2.2.2.1, x.2.2.2.2.2.2.2.2.2.2.2.2.1, x.2.2.2.2.2.2.2.2.2.2.2.2.2)) rfl
        refine lv_aload_n hx hb dX1_spread_54 rfl (lv_at hl 2 rfl) ?_
        refine lv_iload_n hx hb dX1_spread_55 rfl (lv_at hl 1 rfl) ?_
        refine lv_iload_n hx hb dX1_spread_56 rfl (lv_at hl 0 rfl) ?_
        refine lv_iconst (v := (1 : Int32)) hx hb dX1_spread_57 (by decide) ?_
        refine lv_isub hx hb dX1_spread_58 ?_
        refine lv_iconst (v := (1 : Int32)) hx hb dX1_spread_59 (by decide) ?_
        refine zcV (w1 := []) (wc := landW G h ad (x.1, x.2.1, x.2.2.1, x.2.2.2.1, x.2.2.2.2.1, x.2.2.2.2.2.1, (g_X1_tell_x_6 (g_X1_tell_x_6 (lp_X1_spread_10 x.2.1 x.2.2.2.2.2.2.2.1 x.2.2.2.2.2.2.2.2.1 x.2.2.2.2.2.2.2.2.2.1 (fun _ => (0 : Int32)) i_10) (((nI i_10) - (nI i_10) / (8 : Int32) * (8 : Int32)) - (1 : Int32)) ((nI i_10) / (8 : Int32)) (1 : Int32)) (((nI i_10) - (nI i_10) / (8 : Int32) * (8 : Int32)) + (1 : Int32)) ((nI i_10) / (8 : Int32)) (1 : Int32)), x.2.2.2.2.2.2.2.1, x.2.2.2.2.2.2.2.2.1, x.2.2.2.2.2.2.2.2.2.1, x.2.2.2.2.2.2.2.2.2.2.1, x.2.2.2.2.2.2.2.2.2.2.2.1, x.2.2.2.2.2.2.2.2.2.2.2.2.1, x.2.2.2.2.2.2.2.2.2.2.2.2.2)) (w2 := []) (As := [.int ((nI i_10) - (nI i_10) / (8 : Int32) * (8 : Int32)), .int (((nI i_10) / (8 : Int32)) - (1 : Int32)), .int (1 : Int32)]) B (hW.eq rfl) (c_X1_tell l G h ad (x.1, x.2.1, x.2.2.1, x.2.2.2.1, x.2.2.2.2.1, x.2.2.2.2.2.1, (g_X1_tell_x_6 (g_X1_tell_x_6 (lp_X1_spread_10 x.2.1 x.2.2.2.2.2.2.2.1 x.2.2.2.2.2.2.2.2.1 x.2.2.2.2.2.2.2.2.2.1 (fun _ => (0 : Int32)) i_10) (((nI i_10) - (nI i_10) / (8 : Int32) * (8 : Int32)) - (1 : Int32)) ((nI i_10) / (8 : Int32)) (1 : Int32)) (((nI i_10) - (nI i_10) / (8 : Int32) * (8 : Int32)) + (1 : Int32)) ((nI i_10) / (8 : Int32)) (1 : Int32)), x.2.2.2.2.2.2.2.1, x.2.2.2.2.2.2.2.2.1, x.2.2.2.2.2.2.2.2.2.1, x.2.2.2.2.2.2.2.2.2.2.1, x.2.2.2.2.2.2.2.2.2.2.2.1, x.2.2.2.2.2.2.2.2.2.2.2.2.1, x.2.2.2.2.2.2.2.2.2.2.2.2.2) ((nI i_10) - (nI i_10) / (8 : Int32) * (8 : Int32)) (((nI i_10) / (8 : Int32)) - (1 : Int32)) (1 : Int32)) yd_X1_tell ml_X1_84 0 rfl rfl rfl rfl hl.1 rfl (Nat.le_of_ble_eq_true rfl) ⟨Nat.le_of_ble_eq_true rfl, Nat.le_of_ble_eq_true rfl⟩ ⟨(Nat.le_of_ble_eq_true rfl), (Nat.le_of_ble_eq_true rfl)⟩ dX1_spread_60 (fun v u H locs hp hW => ?_)
        obtain ⟨rfl, rfl⟩ := hp
        have hW := hW.eq (w' := landW G h ad (x.1, x.2.1, x.2.2.1, x.2.2.2.1, x.2.2.2.2.1, x.2.2.2.2.2.1, (g_X1_tell_x_6 (g_X1_tell_x_6 (g_X1_tell_x_6 (lp_X1_spread_10 x.2.1 x.2.2.2.2.2.2.2.1 x.2.2.2.2.2.2.2.2.1 x.2.2.2.2.2.2.2.2.2.1 (fun _ => (0 : Int32)) i_10) (((nI i_10) - (nI i_10) / (8 : Int32) * (8 : Int32)) - (1 : Int32)) ((nI i_10) / (8 : Int32)) (1 : Int32)) (((nI i_10) - (nI i_10) / (8 : Int32) * (8 : Int32)) + (1 : Int32)) ((nI i_10) / (8 : Int32)) (1 : Int32)) ((nI i_10) - (nI i_10) / (8 : Int32) * (8 : Int32)) (((nI i_10) / (8 : Int32)) - (1 : Int32)) (1 : Int32)), x.2.2.2.2.2.2.2.1, x.2.2.2.2.2.2.2.2.1, x.2.2.2.2.2.2.2.2.2.1, x.2.2.2.2.2.2.2.2.2.2.1, x.2.2.2.2.2.2.2.2.2.2.2.1, x.2.2.2.2.2.2.2.2.2.2.2.2.1, x.2.2.2.2.2.2.2.2.2.2.2.2.2)) rfl
        refine lv_aload_n hx hb dX1_spread_63 rfl (lv_at hl 2 rfl) ?_
        refine lv_iload_n hx hb dX1_spread_64 rfl (lv_at hl 1 rfl) ?_
        refine lv_iload_n hx hb dX1_spread_65 rfl (lv_at hl 0 rfl) ?_
        refine lv_iconst (v := (1 : Int32)) hx hb dX1_spread_66 (by decide) ?_
        refine lv_iadd hx hb dX1_spread_67 ?_
        refine lv_iconst (v := (1 : Int32)) hx hb dX1_spread_68 (by decide) ?_
        refine zcV (w1 := []) (wc := landW G h ad (x.1, x.2.1, x.2.2.1, x.2.2.2.1, x.2.2.2.2.1, x.2.2.2.2.2.1, (g_X1_tell_x_6 (g_X1_tell_x_6 (g_X1_tell_x_6 (lp_X1_spread_10 x.2.1 x.2.2.2.2.2.2.2.1 x.2.2.2.2.2.2.2.2.1 x.2.2.2.2.2.2.2.2.2.1 (fun _ => (0 : Int32)) i_10) (((nI i_10) - (nI i_10) / (8 : Int32) * (8 : Int32)) - (1 : Int32)) ((nI i_10) / (8 : Int32)) (1 : Int32)) (((nI i_10) - (nI i_10) / (8 : Int32) * (8 : Int32)) + (1 : Int32)) ((nI i_10) / (8 : Int32)) (1 : Int32)) ((nI i_10) - (nI i_10) / (8 : Int32) * (8 : Int32)) (((nI i_10) / (8 : Int32)) - (1 : Int32)) (1 : Int32)), x.2.2.2.2.2.2.2.1, x.2.2.2.2.2.2.2.2.1, x.2.2.2.2.2.2.2.2.2.1, x.2.2.2.2.2.2.2.2.2.2.1, x.2.2.2.2.2.2.2.2.2.2.2.1, x.2.2.2.2.2.2.2.2.2.2.2.2.1, x.2.2.2.2.2.2.2.2.2.2.2.2.2)) (w2 := []) (As := [.int ((nI i_10) - (nI i_10) / (8 : Int32) * (8 : Int32)), .int (((nI i_10) / (8 : Int32)) + (1 : Int32)), .int (1 : Int32)]) B (hW.eq rfl) (c_X1_tell l G h ad (x.1, x.2.1, x.2.2.1, x.2.2.2.1, x.2.2.2.2.1, x.2.2.2.2.2.1, (g_X1_tell_x_6 (g_X1_tell_x_6 (g_X1_tell_x_6 (lp_X1_spread_10 x.2.1 x.2.2.2.2.2.2.2.1 x.2.2.2.2.2.2.2.2.1 x.2.2.2.2.2.2.2.2.2.1 (fun _ => (0 : Int32)) i_10) (((nI i_10) - (nI i_10) / (8 : Int32) * (8 : Int32)) - (1 : Int32)) ((nI i_10) / (8 : Int32)) (1 : Int32)) (((nI i_10) - (nI i_10) / (8 : Int32) * (8 : Int32)) + (1 : Int32)) ((nI i_10) / (8 : Int32)) (1 : Int32)) ((nI i_10) - (nI i_10) / (8 : Int32) * (8 : Int32)) (((nI i_10) / (8 : Int32)) - (1 : Int32)) (1 : Int32)), x.2.2.2.2.2.2.2.1, x.2.2.2.2.2.2.2.2.1, x.2.2.2.2.2.2.2.2.2.1, x.2.2.2.2.2.2.2.2.2.2.1, x.2.2.2.2.2.2.2.2.2.2.2.1, x.2.2.2.2.2.2.2.2.2.2.2.2.1, x.2.2.2.2.2.2.2.2.2.2.2.2.2) ((nI i_10) - (nI i_10) / (8 : Int32) * (8 : Int32)) (((nI i_10) / (8 : Int32)) + (1 : Int32)) (1 : Int32)) yd_X1_tell ml_X1_84 0 rfl rfl rfl rfl hl.1 rfl (Nat.le_of_ble_eq_true rfl) ⟨Nat.le_of_ble_eq_true rfl, Nat.le_of_ble_eq_true rfl⟩ ⟨(Nat.le_of_ble_eq_true rfl), (Nat.le_of_ble_eq_true rfl)⟩ dX1_spread_69 (fun v u H locs hp hW => ?_)
        obtain ⟨rfl, rfl⟩ := hp
        have hW := hW.eq (w' := landW G h ad (x.1, x.2.1, x.2.2.1, x.2.2.2.1, x.2.2.2.2.1, x.2.2.2.2.2.1, (g_X1_tell_x_6 (g_X1_tell_x_6 (g_X1_tell_x_6 (g_X1_tell_x_6 (lp_X1_spread_10 x.2.1 x.2.2.2.2.2.2.2.1 x.2.2.2.2.2.2.2.2.1 x.2.2.2.2.2.2.2.2.2.1 (fun _ => (0 : Int32)) i_10) (((nI i_10) - (nI i_10) / (8 : Int32) * (8 : Int32)) - (1 : Int32)) ((nI i_10) / (8 : Int32)) (1 : Int32)) (((nI i_10) - (nI i_10) / (8 : Int32) * (8 : Int32)) + (1 : Int32)) ((nI i_10) / (8 : Int32)) (1 : Int32)) ((nI i_10) - (nI i_10) / (8 : Int32) * (8 : Int32)) (((nI i_10) / (8 : Int32)) - (1 : Int32)) (1 : Int32)) ((nI i_10) - (nI i_10) / (8 : Int32) * (8 : Int32)) (((nI i_10) / (8 : Int32)) + (1 : Int32)) (1 : Int32)), x.2.2.2.2.2.2.2.1, x.2.2.2.2.2.2.2.2.1, x.2.2.2.2.2.2.2.2.2.1, x.2.2.2.2.2.2.2.2.2.2.1, x.2.2.2.2.2.2.2.2.2.2.2.1, x.2.2.2.2.2.2.2.2.2.2.2.2.1, x.2.2.2.2.2.2.2.2.2.2.2.2.2)) rfl
        have e_0 : (if (x.2.1 i_10) < (5 : Int32) then (lp_X1_spread_10 x.2.1 x.2.2.2.2.2.2.2.1 x.2.2.2.2.2.2.2.2.1 x.2.2.2.2.2.2.2.2.2.1 (fun _ => (0 : Int32)) i_10) else (g_X1_tell_x_6 (g_X1_tell_x_6 (g_X1_tell_x_6 (g_X1_tell_x_6 (lp_X1_spread_10 x.2.1 x.2.2.2.2.2.2.2.1 x.2.2.2.2.2.2.2.2.1 x.2.2.2.2.2.2.2.2.2.1 (fun _ => (0 : Int32)) i_10) (((nI i_10) - (nI i_10) / (8 : Int32) * (8 : Int32)) - (1 : Int32)) ((nI i_10) / (8 : Int32)) (1 : Int32)) (((nI i_10) - (nI i_10) / (8 : Int32) * (8 : Int32)) + (1 : Int32)) ((nI i_10) / (8 : Int32)) (1 : Int32)) ((nI i_10) - (nI i_10) / (8 : Int32) * (8 : Int32)) (((nI i_10) / (8 : Int32)) - (1 : Int32)) (1 : Int32)) ((nI i_10) - (nI i_10) / (8 : Int32) * (8 : Int32)) (((nI i_10) / (8 : Int32)) + (1 : Int32)) (1 : Int32))) = (g_X1_tell_x_6 (g_X1_tell_x_6 (g_X1_tell_x_6 (g_X1_tell_x_6 (lp_X1_spread_10 x.2.1 x.2.2.2.2.2.2.2.1 x.2.2.2.2.2.2.2.2.1 x.2.2.2.2.2.2.2.2.2.1 (fun _ => (0 : Int32)) i_10) (((nI i_10) - (nI i_10) / (8 : Int32) * (8 : Int32)) - (1 : Int32)) ((nI i_10) / (8 : Int32)) (1 : Int32)) (((nI i_10) - (nI i_10) / (8 : Int32) * (8 : Int32)) + (1 : Int32)) ((nI i_10) / (8 : Int32)) (1 : Int32)) ((nI i_10) - (nI i_10) / (8 : Int32) * (8 : Int32)) (((nI i_10) / (8 : Int32)) - (1 : Int32)) (1 : Int32)) ((nI i_10) - (nI i_10) / (8 : Int32) * (8 : Int32)) (((nI i_10) / (8 : Int32)) + (1 : Int32)) (1 : Int32)) := if_neg c_33
        exact J_4 _ _ _ (hW.eq (by (try rw [e_0]) <;> rfl)) (by (try rw [e_0]) <;> exact lv_sub hl [2, 3, 1, 0] rfl)
  exact L_1 0 (Nat.zero_le _) _ _ _ (hW.eq (by rw [lp_X1_spread_10_0] <;> rfl)) (lv_sub hl [1, 0] rfl)
def st_X1_carry_10 (q_x_7 : Int32) (q_x_8 : Int32) (i_10 : Nat) (y : (Nat → Int32) × (Nat → Int32) × Int64) : (Nat → Int32) × (Nat → Int32) × Int64 := ((upd y.1 i_10 ((y.1 i_10) - ((y.1 i_10) / (4 : Int32)))), (if (r_X7_isCell (((nI i_10) - (nI i_10) / (8 : Int32) * (8 : Int32)) + q_x_7) (((nI i_10) / (8 : Int32)) + q_x_8)) = (0 : Int32) then y.2.1 else (upd y.2.1 (((((nI i_10) / (8 : Int32)) + q_x_8) * (8 : Int32)) + (((nI i_10) - (nI i_10) / (8 : Int32) * (8 : Int32)) + q_x_7)).toNatClampNeg ((y.2.1 (((((nI i_10) / (8 : Int32)) + q_x_8) * (8 : Int32)) + (((nI i_10) - (nI i_10) / (8 : Int32) * (8 : Int32)) + q_x_7)).toNatClampNeg) + ((y.1 i_10) / (4 : Int32))))), (if (r_X7_isCell (((nI i_10) - (nI i_10) / (8 : Int32) * (8 : Int32)) + q_x_7) (((nI i_10) / (8 : Int32)) + q_x_8)) = (0 : Int32) then (y.2.2 + ((y.1 i_10) / (4 : Int32)).toInt64) else y.2.2))
def lp_X1_carry_10 (q_x_7 : Int32) (q_x_8 : Int32) (y0 : (Nat → Int32) × (Nat → Int32) × Int64) : Nat → (Nat → Int32) × (Nat → Int32) × Int64
  | 0 => y0
  | n0 + 1 => st_X1_carry_10 q_x_7 q_x_8 n0 (lp_X1_carry_10 q_x_7 q_x_8 y0 n0)
termination_by n0 => n0
theorem lp_X1_carry_10_0 (q_x_7 : Int32) (q_x_8 : Int32) (y0 : (Nat → Int32) × (Nat → Int32) × Int64) : lp_X1_carry_10 q_x_7 q_x_8 y0 0 = y0 := by rw [lp_X1_carry_10]
theorem lp_X1_carry_10_s (q_x_7 : Int32) (q_x_8 : Int32) (y0 : (Nat → Int32) × (Nat → Int32) × Int64) (n0 : Nat) : lp_X1_carry_10 q_x_7 q_x_8 y0 (n0 + 1) = st_X1_carry_10 q_x_7 q_x_8 n0 (lp_X1_carry_10 q_x_7 q_x_8 y0 n0) := by rw [lp_X1_carry_10]
def st_X1_carry_103 (q_x_6 : Nat → Int32) (i_103 : Nat) (y : (Nat → Int32)) : (Nat → Int32) := (upd y i_103 ((y i_103) + (q_x_6 i_103)))
def lp_X1_carry_103 (q_x_6 : Nat → Int32) (y0 : (Nat → Int32)) : Nat → (Nat → Int32)
  | 0 => y0
  | n0 + 1 => st_X1_carry_103 q_x_6 n0 (lp_X1_carry_103 q_x_6 y0 n0)
termination_by n0 => n0
theorem lp_X1_carry_103_0 (q_x_6 : Nat → Int32) (y0 : (Nat → Int32)) : lp_X1_carry_103 q_x_6 y0 0 = y0 := by rw [lp_X1_carry_103]
theorem lp_X1_carry_103_s (q_x_6 : Nat → Int32) (y0 : (Nat → Int32)) (n0 : Nat) : lp_X1_carry_103 q_x_6 y0 (n0 + 1) = st_X1_carry_103 q_x_6 n0 (lp_X1_carry_103 q_x_6 y0 n0) := by rw [lp_X1_carry_103]
def g_X1_carry_x_2 (x_2 : Nat → Int32) (x_7 : Int32) (x_8 : Int32) (x_12 : Int64) : Nat → Int32 := (lp_X1_carry_103 ((lp_X1_carry_10 x_7 x_8 (x_2, (fun _ => (0 : Int32)), x_12) 48).2.1) ((lp_X1_carry_10 x_7 x_8 (x_2, (fun _ => (0 : Int32)), x_12) 48).1) 48)
def g_X1_carry_x_6 (x_2 : Nat → Int32) (x_7 : Int32) (x_8 : Int32) (x_12 : Int64) : Nat → Int32 := (lp_X1_carry_10 x_7 x_8 (x_2, (fun _ => (0 : Int32)), x_12) 48).2.1
def g_X1_carry_x_12 (x_2 : Nat → Int32) (x_7 : Int32) (x_8 : Int32) (x_12 : Int64) : Int64 := (lp_X1_carry_10 x_7 x_8 (x_2, (fun _ => (0 : Int32)), x_12) 48).2.2
def f_X1_carry_x (x : zLand) : zLand := (x.1, x.2.1, g_X1_carry_x_2 x.2.2.1 x.2.2.2.2.2.2.2.1 x.2.2.2.2.2.2.2.2.1 x.2.2.2.2.2.2.2.2.2.2.2.2.1, x.2.2.2.1, x.2.2.2.2.1, x.2.2.2.2.2.1, g_X1_carry_x_6 x.2.2.1 x.2.2.2.2.2.2.2.1 x.2.2.2.2.2.2.2.2.1 x.2.2.2.2.2.2.2.2.2.2.2.2.1, x.2.2.2.2.2.2.2.1, x.2.2.2.2.2.2.2.2.1, x.2.2.2.2.2.2.2.2.2.1, x.2.2.2.2.2.2.2.2.2.2.1, x.2.2.2.2.2.2.2.2.2.2.2.1, g_X1_carry_x_12 x.2.2.1 x.2.2.2.2.2.2.2.1 x.2.2.2.2.2.2.2.2.1 x.2.2.2.2.2.2.2.2.2.2.2.2.1, x.2.2.2.2.2.2.2.2.2.2.2.2.2)
abbrev po_X1_carry (G : zG) (h : Nat) (ad : Nat → Nat) (x : zLand) : Option Value → va_W → Prop := fun r u => r = none ∧ u = landW G h ad (f_X1_carry_x x)
set_option maxHeartbeats 4000000 in
set_option maxRecDepth 100000 in
theorem c_X1_carry (l : Launch) (G : zG) (h : Nat) (ad : Nat → Nat) (x : zLand) : zC l yX1_carry cX1_carry 5 none 1 0 0 G [.ref h] (landW G h ad x) (po_X1_carry G h ad x) := by
  refine zC.of RX1 rfl (by decide) (Nat.le_of_ble_eq_true rfl) ?_
  intro p e s m args below meth c A ls B hr hlk hnm hW hl
  have hx := B.x
  have hb := B.b
  have hl : lv_has ls 5 [(0, .ref h)] := hl
  refine lv_aload_n hx hb dX1_carry_0 rfl (lv_at hl 0 rfl) ?_
  refine zget B hW 0 rfl lf_X1_31 rfl dX1_carry_1 ?_
  refine lv_iconst (v := (0 : Int32)) hx hb dX1_carry_4 (by decide) ?_
  refine zfill B hW hl.1 ml_X1_57 7 rfl (by decide) (Nat.le_of_ble_eq_true rfl) (Nat.le_of_ble_eq_true rfl) (Nat.le_of_ble_eq_true rfl) ⟨(Nat.le_of_ble_eq_true rfl), (Nat.le_of_ble_eq_true rfl)⟩ dX1_carry_5 (fun H locs hW => ?_)
  refine lv_iconst (v := (0 : Int32)) hx hb dX1_carry_8 (by decide) ?_
  refine lv_istore_n hx hb dX1_carry_9 rfl hl (by decide) rfl (fun ls hl => ?_)
  have L_1 : ∀ i_10 : Nat, i_10 ≤ 48 → ∀ (H : Heap) (locs : List Loc) (ls : Array Slot), zW G A s.heap H locs (landW G h ad (x.1, x.2.1, (lp_X1_carry_10 x.2.2.2.2.2.2.2.1 x.2.2.2.2.2.2.2.2.1 (x.2.2.1, (fun _ => (0 : Int32)), x.2.2.2.2.2.2.2.2.2.2.2.2.1) i_10).1, x.2.2.2.1, x.2.2.2.2.1, x.2.2.2.2.2.1, (lp_X1_carry_10 x.2.2.2.2.2.2.2.1 x.2.2.2.2.2.2.2.2.1 (x.2.2.1, (fun _ => (0 : Int32)), x.2.2.2.2.2.2.2.2.2.2.2.2.1) i_10).2.1, x.2.2.2.2.2.2.2.1, x.2.2.2.2.2.2.2.2.1, x.2.2.2.2.2.2.2.2.2.1, x.2.2.2.2.2.2.2.2.2.2.1, x.2.2.2.2.2.2.2.2.2.2.2.1, (lp_X1_carry_10 x.2.2.2.2.2.2.2.1 x.2.2.2.2.2.2.2.2.1 (x.2.2.1, (fun _ => (0 : Int32)), x.2.2.2.2.2.2.2.2.2.2.2.2.1) i_10).2.2, x.2.2.2.2.2.2.2.2.2.2.2.2.2)) → lv_has ls 5 [(0, .ref h), (1, .int (nI i_10))] → W p l e (zRm 1 0 0) s m args below meth c H locs 0 0 (MQ below (zQ G A (po_X1_carry G h ad x)) args s 0 0 A) (F0 m 10 ls []) := by
    refine zloop 48 ?_ ?_
    · intro H locs ls hW hl
      have hl : lv_has ls 5 [(0, .ref h), (1, .int (48 : Int32))] := hl
      refine lv_iload_n hx hb dX1_carry_10 rfl (lv_at hl 1 rfl) ?_
      refine lv_bipush (v := (48 : Int32)) hx hb dX1_carry_11 (by decide) ?_
      refine lv_icmp_ge (tgt := 101) hx hb dX1_carry_13 (by decide) (fun c_13 => ?_) (fun c_13 => absurd (zge (by decide)) c_13)
      refine lv_iconst (v := (0 : Int32)) hx hb dX1_carry_101 (by decide) ?_
      refine lv_istore_n hx hb dX1_carry_102 rfl hl (by decide) rfl (fun ls hl => ?_)
      have L_2 : ∀ i_103 : Nat, i_103 ≤ 48 → ∀ (H : Heap) (locs : List Loc) (ls : Array Slot), zW G A s.heap H locs (landW G h ad (x.1, x.2.1, (lp_X1_carry_103 ((lp_X1_carry_10 x.2.2.2.2.2.2.2.1 x.2.2.2.2.2.2.2.2.1 (x.2.2.1, (fun _ => (0 : Int32)), x.2.2.2.2.2.2.2.2.2.2.2.2.1) 48).2.1) ((lp_X1_carry_10 x.2.2.2.2.2.2.2.1 x.2.2.2.2.2.2.2.2.1 (x.2.2.1, (fun _ => (0 : Int32)), x.2.2.2.2.2.2.2.2.2.2.2.2.1) 48).1) i_103), x.2.2.2.1, x.2.2.2.2.1, x.2.2.2.2.2.1, (lp_X1_carry_10 x.2.2.2.2.2.2.2.1 x.2.2.2.2.2.2.2.2.1 (x.2.2.1, (fun _ => (0 : Int32)), x.2.2.2.2.2.2.2.2.2.2.2.2.1) 48).2.1, x.2.2.2.2.2.2.2.1, x.2.2.2.2.2.2.2.2.1, x.2.2.2.2.2.2.2.2.2.1, x.2.2.2.2.2.2.2.2.2.2.1, x.2.2.2.2.2.2.2.2.2.2.2.1, (lp_X1_carry_10 x.2.2.2.2.2.2.2.1 x.2.2.2.2.2.2.2.2.1 (x.2.2.1, (fun _ => (0 : Int32)), x.2.2.2.2.2.2.2.2.2.2.2.2.1) 48).2.2, x.2.2.2.2.2.2.2.2.2.2.2.2.2)) → lv_has ls 5 [(0, .ref h), (1, .int (nI i_103))] → W p l e (zRm 1 0 0) s m args below meth c H locs 0 0 (MQ below (zQ G A (po_X1_carry G h ad x)) args s 0 0 A) (F0 m 103 ls []) := by
        refine zloop 48 ?_ ?_
        · intro H locs ls hW hl
          have hl : lv_has ls 5 [(0, .ref h), (1, .int (48 : Int32))] := hl
          refine lv_iload_n hx hb dX1_carry_103 rfl (lv_at hl 1 rfl) ?_
          refine lv_bipush (v := (48 : Int32)) hx hb dX1_carry_104 (by decide) ?_
          refine lv_icmp_ge (tgt := 130) hx hb dX1_carry_106 (by decide) (fun c_106 => ?_) (fun c_106 => absurd (zge (by decide)) c_106)
          exact zvret B hr hlk hW ⟨rfl, rfl⟩ (Nat.le_refl _) (Nat.le_refl _) dX1_carry_130
        · intro i_103 hi_103 ih H locs ls hW hl
          refine lv_iload_n hx hb dX1_carry_103 rfl (lv_at hl 1 rfl) ?_
          refine lv_bipush (v := (48 : Int32)) hx hb dX1_carry_104 (by decide) ?_
          refine lv_icmp_ge (tgt := 130) hx hb dX1_carry_106 (by decide) (fun c_106 => absurd c_106 (znle (by decide) hi_103 (by decide))) (fun c_106 => ?_)
          refine lv_aload_n hx hb dX1_carry_109 rfl (lv_at hl 0 rfl) ?_
          refine zget B hW 0 rfl lf_X1_18 rfl dX1_carry_110 ?_
          refine lv_iload_n hx hb dX1_carry_113 rfl (lv_at hl 1 rfl) ?_
          refine lv_dup2_11 hx hb dX1_carry_114 rfl rfl ?_
          refine zialdN B hW 3 rfl i_103 rfl (by omega) (by decide) dX1_carry_115 ?_
          refine lv_aload_n hx hb dX1_carry_116 rfl (lv_at hl 0 rfl) ?_
          refine zget B hW 0 rfl lf_X1_31 rfl dX1_carry_117 ?_
          refine lv_iload_n hx hb dX1_carry_120 rfl (lv_at hl 1 rfl) ?_
          refine zialdN B hW 7 rfl i_103 rfl (by omega) (by decide) dX1_carry_121 ?_
          refine lv_iadd hx hb dX1_carry_122 ?_
          refine ziastN B hW 3 rfl i_103 rfl (by omega) (by decide) dX1_carry_123 (fun H locs hW => ?_)
          refine lv_iinc (v := (nI (i_103 + 1))) hx hb dX1_carry_124 hl (k := 1) rfl (nI_1 _) (by decide) rfl (fun ls hl => ?_)
          refine lv_goto (tgt := 103) hx hb dX1_carry_127 (by decide) ?_
          exact ih _ _ _ (hW.eq (by rw [lp_X1_carry_103_s] <;> rfl)) (lv_sub hl [1, 0] rfl)
      exact L_2 0 (Nat.zero_le _) _ _ _ (hW.eq (by rw [lp_X1_carry_103_0] <;> rfl)) (lv_sub hl [1, 0] rfl)
    · intro i_10 hi_10 ih H locs ls hW hl
      refine lv_iload_n hx hb dX1_carry_10 rfl (lv_at hl 1 rfl) ?_
      refine lv_bipush (v := (48 : Int32)) hx hb dX1_carry_11 (by decide) ?_
      refine lv_icmp_ge (tgt := 101) hx hb dX1_carry_13 (by decide) (fun c_13 => absurd c_13 (znle (by decide) hi_10 (by decide))) (fun c_13 => ?_)
      refine lv_aload_n hx hb dX1_carry_16 rfl (lv_at hl 0 rfl) ?_
      refine zget B hW 0 rfl lf_X1_18 rfl dX1_carry_17 ?_
      refine lv_iload_n hx hb dX1_carry_20 rfl (lv_at hl 1 rfl) ?_
      refine zialdN B hW 3 rfl i_10 rfl (by omega) (by decide) dX1_carry_21 ?_
      refine lv_iconst (v := (4 : Int32)) hx hb dX1_carry_22 (by decide) ?_
      refine lv_idiv hx hb dX1_carry_23 (by decide) ?_
      refine lv_istore_n hx hb dX1_carry_24 rfl hl (by decide) rfl (fun ls hl => ?_)
      refine lv_iload_n hx hb dX1_carry_25 rfl (lv_at hl 2 rfl) ?_
      refine lv_bipush (v := (8 : Int32)) hx hb dX1_carry_26 (by decide) ?_
      refine lv_irem hx hb dX1_carry_28 (by decide) ?_
      refine lv_aload_n hx hb dX1_carry_29 rfl (lv_at hl 1 rfl) ?_
      refine zget B hW 0 rfl lf_X1_34 rfl dX1_carry_30 ?_
      refine lv_iadd hx hb dX1_carry_33 ?_
      refine lv_istore_n hx hb dX1_carry_34 rfl hl (by decide) rfl (fun ls hl => ?_)
      refine lv_iload_n hx hb dX1_carry_35 rfl (lv_at hl 3 rfl) ?_
      refine lv_bipush (v := (8 : Int32)) hx hb dX1_carry_36 (by decide) ?_
      refine lv_idiv hx hb dX1_carry_38 (by decide) ?_
      refine lv_aload_n hx hb dX1_carry_39 rfl (lv_at hl 2 rfl) ?_
      refine zget B hW 0 rfl lf_X1_38 rfl dX1_carry_40 ?_
      refine lv_iadd hx hb dX1_carry_43 ?_
      refine lv_istore hx hb dX1_carry_44 hl (by decide) rfl (fun ls hl => ?_)
      refine lv_aload_n hx hb dX1_carry_46 rfl (lv_at hl 3 rfl) ?_
      refine zget B hW 0 rfl lf_X1_18 rfl dX1_carry_47 ?_
      refine lv_iload_n hx hb dX1_carry_50 rfl (lv_at hl 4 rfl) ?_
      refine lv_dup2_11 hx hb dX1_carry_51 rfl rfl ?_
      refine zialdN B hW 3 rfl i_10 rfl (by omega) (by decide) dX1_carry_52 ?_
      refine lv_iload_n hx hb dX1_carry_53 rfl (lv_at hl 2 rfl) ?_
      refine lv_isub hx hb dX1_carry_54 ?_
      refine ziastN B hW 3 rfl i_10 rfl (by omega) (by decide) dX1_carry_55 (fun H locs hW => ?_)
      refine lv_iload_n hx hb dX1_carry_56 rfl (lv_at hl 1 rfl) ?_
      refine lv_iload hx hb dX1_carry_57 (lv_at hl 0 rfl) ?_
      refine zcSN (w1 := []) (wc := []) (w2 := landW G h ad (x.1, x.2.1, (upd ((lp_X1_carry_10 x.2.2.2.2.2.2.2.1 x.2.2.2.2.2.2.2.2.1 (x.2.2.1, (fun _ => (0 : Int32)), x.2.2.2.2.2.2.2.2.2.2.2.2.1) i_10).1) i_10 ((((lp_X1_carry_10 x.2.2.2.2.2.2.2.1 x.2.2.2.2.2.2.2.2.1 (x.2.2.1, (fun _ => (0 : Int32)), x.2.2.2.2.2.2.2.2.2.2.2.2.1) i_10).1) i_10) - ((((lp_X1_carry_10 x.2.2.2.2.2.2.2.1 x.2.2.2.2.2.2.2.2.1 (x.2.2.1, (fun _ => (0 : Int32)), x.2.2.2.2.2.2.2.2.2.2.2.2.1) i_10).1) i_10) / (4 : Int32)))), x.2.2.2.1, x.2.2.2.2.1, x.2.2.2.2.2.1, (lp_X1_carry_10 x.2.2.2.2.2.2.2.1 x.2.2.2.2.2.2.2.2.1 (x.2.2.1, (fun _ => (0 : Int32)), x.2.2.2.2.2.2.2.2.2.2.2.2.1) i_10).2.1, x.2.2.2.2.2.2.2.1, x.2.2.2.2.2.2.2.2.1, x.2.2.2.2.2.2.2.2.2.1, x.2.2.2.2.2.2.2.2.2.2.1, x.2.2.2.2.2.2.2.2.2.2.2.1, (lp_X1_carry_10 x.2.2.2.2.2.2.2.1 x.2.2.2.2.2.2.2.2.1 (x.2.2.1, (fun _ => (0 : Int32)), x.2.2.2.2.2.2.2.2.2.2.2.2.1) i_10).2.2, x.2.2.2.2.2.2.2.2.2.2.2.2.2)) (As := [.int (((nI i_10) - (nI i_10) / (8 : Int32) * (8 : Int32)) + x.2.2.2.2.2.2.2.1), .int (((nI i_10) / (8 : Int32)) + x.2.2.2.2.2.2.2.2.1)]) B (hW.eq rfl) (c_X7_isCell l G (((nI i_10) - (nI i_10) / (8 : Int32) * (8 : Int32)) + x.2.2.2.2.2.2.2.1) (((nI i_10) / (8 : Int32)) + x.2.2.2.2.2.2.2.2.1)) yd_X7_isCell ml_X1_88 rfl hl.1 rfl (Nat.le_of_ble_eq_true rfl) ⟨Nat.le_of_ble_eq_true rfl, Nat.le_of_ble_eq_true rfl⟩ ⟨(Nat.le_of_ble_eq_true rfl), (Nat.le_of_ble_eq_true rfl)⟩ dX1_carry_59 (fun v u H locs hp hW => ?_)
      obtain ⟨rfl, rfl⟩ := hp
      have hW := hW.eq (w' := landW G h ad (x.1, x.2.1, (upd ((lp_X1_carry_10 x.2.2.2.2.2.2.2.1 x.2.2.2.2.2.2.2.2.1 (x.2.2.1, (fun _ => (0 : Int32)), x.2.2.2.2.2.2.2.2.2.2.2.2.1) i_10).1) i_10 ((((lp_X1_carry_10 x.2.2.2.2.2.2.2.1 x.2.2.2.2.2.2.2.2.1 (x.2.2.1, (fun _ => (0 : Int32)), x.2.2.2.2.2.2.2.2.2.2.2.2.1) i_10).1) i_10) - ((((lp_X1_carry_10 x.2.2.2.2.2.2.2.1 x.2.2.2.2.2.2.2.2.1 (x.2.2.1, (fun _ => (0 : Int32)), x.2.2.2.2.2.2.2.2.2.2.2.2.1) i_10).1) i_10) / (4 : Int32)))), x.2.2.2.1, x.2.2.2.2.1, x.2.2.2.2.2.1, (lp_X1_carry_10 x.2.2.2.2.2.2.2.1 x.2.2.2.2.2.2.2.2.1 (x.2.2.1, (fun _ => (0 : Int32)), x.2.2.2.2.2.2.2.2.2.2.2.2.1) i_10).2.1, x.2.2.2.2.2.2.2.1, x.2.2.2.2.2.2.2.2.1, x.2.2.2.2.2.2.2.2.2.1, x.2.2.2.2.2.2.2.2.2.2.1, x.2.2.2.2.2.2.2.2.2.2.2.1, (lp_X1_carry_10 x.2.2.2.2.2.2.2.1 x.2.2.2.2.2.2.2.2.1 (x.2.2.1, (fun _ => (0 : Int32)), x.2.2.2.2.2.2.2.2.2.2.2.2.1) i_10).2.2, x.2.2.2.2.2.2.2.2.2.2.2.2.2)) rfl
      have J_3 : ∀ (H : Heap) (locs : List Loc) (ls : Array Slot), zW G A s.heap H locs (landW G h ad (x.1, x.2.1, (upd ((lp_X1_carry_10 x.2.2.2.2.2.2.2.1 x.2.2.2.2.2.2.2.2.1 (x.2.2.1, (fun _ => (0 : Int32)), x.2.2.2.2.2.2.2.2.2.2.2.2.1) i_10).1) i_10 ((((lp_X1_carry_10 x.2.2.2.2.2.2.2.1 x.2.2.2.2.2.2.2.2.1 (x.2.2.1, (fun _ => (0 : Int32)), x.2.2.2.2.2.2.2.2.2.2.2.2.1) i_10).1) i_10) - ((((lp_X1_carry_10 x.2.2.2.2.2.2.2.1 x.2.2.2.2.2.2.2.2.1 (x.2.2.1, (fun _ => (0 : Int32)), x.2.2.2.2.2.2.2.2.2.2.2.2.1) i_10).1) i_10) / (4 : Int32)))), x.2.2.2.1, x.2.2.2.2.1, x.2.2.2.2.2.1, (if (r_X7_isCell (((nI i_10) - (nI i_10) / (8 : Int32) * (8 : Int32)) + x.2.2.2.2.2.2.2.1) (((nI i_10) / (8 : Int32)) + x.2.2.2.2.2.2.2.2.1)) = (0 : Int32) then (lp_X1_carry_10 x.2.2.2.2.2.2.2.1 x.2.2.2.2.2.2.2.2.1 (x.2.2.1, (fun _ => (0 : Int32)), x.2.2.2.2.2.2.2.2.2.2.2.2.1) i_10).2.1 else (upd ((lp_X1_carry_10 x.2.2.2.2.2.2.2.1 x.2.2.2.2.2.2.2.2.1 (x.2.2.1, (fun _ => (0 : Int32)), x.2.2.2.2.2.2.2.2.2.2.2.2.1) i_10).2.1) (((((nI i_10) / (8 : Int32)) + x.2.2.2.2.2.2.2.2.1) * (8 : Int32)) + (((nI i_10) - (nI i_10) / (8 : Int32) * (8 : Int32)) + x.2.2.2.2.2.2.2.1)).toNatClampNeg ((((lp_X1_carry_10 x.2.2.2.2.2.2.2.1 x.2.2.2.2.2.2.2.2.1 (x.2.2.1, (fun _ => (0 : Int32)), x.2.2.2.2.2.2.2.2.2.2.2.2.1) i_10).2.1) (((((nI i_10) / (8 : Int32)) + x.2.2.2.2.2.2.2.2.1) * (8 : Int32)) + (((nI i_10) - (nI i_10) / (8 : Int32) * (8 : Int32)) + x.2.2.2.2.2.2.2.1)).toNatClampNeg) + ((((lp_X1_carry_10 x.2.2.2.2.2.2.2.1 x.2.2.2.2.2.2.2.2.1 (x.2.2.1, (fun _ => (0 : Int32)), x.2.2.2.2.2.2.2.2.2.2.2.2.1) i_10).1) i_10) / (4 : Int32))))), x.2.2.2.2.2.2.2.1, x.2.2.2.2.2.2.2.2.1, x.2.2.2.2.2.2.2.2.2.1, x.2.2.2.2.2.2.2.2.2.2.1, x.2.2.2.2.2.2.2.2.2.2.2.1, (if (r_X7_isCell (((nI i_10) - (nI i_10) / (8 : Int32) * (8 : Int32)) + x.2.2.2.2.2.2.2.1) (((nI i_10) / (8 : Int32)) + x.2.2.2.2.2.2.2.2.1)) = (0 : Int32) then ((lp_X1_carry_10 x.2.2.2.2.2.2.2.1 x.2.2.2.2.2.2.2.2.1 (x.2.2.1, (fun _ => (0 : Int32)), x.2.2.2.2.2.2.2.2.2.2.2.2.1) i_10).2.2 + ((((lp_X1_carry_10 x.2.2.2.2.2.2.2.1 x.2.2.2.2.2.2.2.2.1 (x.2.2.1, (fun _ => (0 : Int32)), x.2.2.2.2.2.2.2.2.2.2.2.2.1) i_10).1) i_10) / (4 : Int32)).toInt64) else (lp_X1_carry_10 x.2.2.2.2.2.2.2.1 x.2.2.2.2.2.2.2.2.1 (x.2.2.1, (fun _ => (0 : Int32)), x.2.2.2.2.2.2.2.2.2.2.2.2.1) i_10).2.2), x.2.2.2.2.2.2.2.2.2.2.2.2.2)) → lv_has ls 5 [(0, .ref h), (1, .int (nI i_10))] → W p l e (zRm 1 0 0) s m args below meth c H locs 0 0 (MQ below (zQ G A (po_X1_carry G h ad x)) args s 0 0 A) (F0 m 95 ls []) := by
        intro H locs ls hW hl
        refine lv_iinc (v := (nI (i_10 + 1))) hx hb dX1_carry_95 hl (k := 1) rfl (nI_1 _) (by decide) rfl (fun ls hl => ?_)
        refine lv_goto (tgt := 10) hx hb dX1_carry_98 (by decide) ?_
        exact ih _ _ _ (hW.eq (by rw [lp_X1_carry_10_s] <;> rfl)) (lv_sub hl [1, 0] rfl)
      refine lv_if_eq (tgt := 84) hx hb dX1_carry_62 (by decide) (fun c_62 => ?_) (fun c_62 => ?_)
      · refine lv_aload_n hx hb dX1_carry_84 rfl (lv_at hl 3 rfl) ?_
        refine lv_dup hx hb dX1_carry_85 rfl ?_
        refine zget B hW 0 rfl lf_X1_51 rfl dX1_carry_86 ?_
        refine lv_iload_n hx hb dX1_carry_89 rfl (lv_at hl 2 rfl) ?_
        refine lv_i2l hx hb dX1_carry_90 rfl ?_
        refine lv_ladd hx hb dX1_carry_91 ?_
        refine zput B hW 0 rfl lf_X1_51 ft_X1_12 rfl rfl (Nat.le_of_ble_eq_true rfl) dX1_carry_92 (fun H locs hW => ?_)
        have e_0 : (if (r_X7_isCell (((nI i_10) - (nI i_10) / (8 : Int32) * (8 : Int32)) + x.2.2.2.2.2.2.2.1) (((nI i_10) / (8 : Int32)) + x.2.2.2.2.2.2.2.2.1)) = (0 : Int32) then (lp_X1_carry_10 x.2.2.2.2.2.2.2.1 x.2.2.2.2.2.2.2.2.1 (x.2.2.1, (fun _ => (0 : Int32)), x.2.2.2.2.2.2.2.2.2.2.2.2.1) i_10).2.1 else (upd ((lp_X1_carry_10 x.2.2.2.2.2.2.2.1 x.2.2.2.2.2.2.2.2.1 (x.2.2.1, (fun _ => (0 : Int32)), x.2.2.2.2.2.2.2.2.2.2.2.2.1) i_10).2.1) (((((nI i_10) / (8 : Int32)) + x.2.2.2.2.2.2.2.2.1) * (8 : Int32)) + (((nI i_10) - (nI i_10) / (8 : Int32) * (8 : Int32)) + x.2.2.2.2.2.2.2.1)).toNatClampNeg ((((lp_X1_carry_10 x.2.2.2.2.2.2.2.1 x.2.2.2.2.2.2.2.2.1 (x.2.2.1, (fun _ => (0 : Int32)), x.2.2.2.2.2.2.2.2.2.2.2.2.1) i_10).2.1) (((((nI i_10) / (8 : Int32)) + x.2.2.2.2.2.2.2.2.1) * (8 : Int32)) + (((nI i_10) - (nI i_10) / (8 : Int32) * (8 : Int32)) + x.2.2.2.2.2.2.2.1)).toNatClampNeg) + ((((lp_X1_carry_10 x.2.2.2.2.2.2.2.1 x.2.2.2.2.2.2.2.2.1 (x.2.2.1, (fun _ => (0 : Int32)), x.2.2.2.2.2.2.2.2.2.2.2.2.1) i_10).1) i_10) / (4 : Int32))))) = (lp_X1_carry_10 x.2.2.2.2.2.2.2.1 x.2.2.2.2.2.2.2.2.1 (x.2.2.1, (fun _ => (0 : Int32)), x.2.2.2.2.2.2.2.2.2.2.2.2.1) i_10).2.1 := if_pos c_62
        have e_1 : (if (r_X7_isCell (((nI i_10) - (nI i_10) / (8 : Int32) * (8 : Int32)) + x.2.2.2.2.2.2.2.1) (((nI i_10) / (8 : Int32)) + x.2.2.2.2.2.2.2.2.1)) = (0 : Int32) then ((lp_X1_carry_10 x.2.2.2.2.2.2.2.1 x.2.2.2.2.2.2.2.2.1 (x.2.2.1, (fun _ => (0 : Int32)), x.2.2.2.2.2.2.2.2.2.2.2.2.1) i_10).2.2 + ((((lp_X1_carry_10 x.2.2.2.2.2.2.2.1 x.2.2.2.2.2.2.2.2.1 (x.2.2.1, (fun _ => (0 : Int32)), x.2.2.2.2.2.2.2.2.2.2.2.2.1) i_10).1) i_10) / (4 : Int32)).toInt64) else (lp_X1_carry_10 x.2.2.2.2.2.2.2.1 x.2.2.2.2.2.2.2.2.1 (x.2.2.1, (fun _ => (0 : Int32)), x.2.2.2.2.2.2.2.2.2.2.2.2.1) i_10).2.2) = ((lp_X1_carry_10 x.2.2.2.2.2.2.2.1 x.2.2.2.2.2.2.2.2.1 (x.2.2.1, (fun _ => (0 : Int32)), x.2.2.2.2.2.2.2.2.2.2.2.2.1) i_10).2.2 + ((((lp_X1_carry_10 x.2.2.2.2.2.2.2.1 x.2.2.2.2.2.2.2.2.1 (x.2.2.1, (fun _ => (0 : Int32)), x.2.2.2.2.2.2.2.2.2.2.2.2.1) i_10).1) i_10) / (4 : Int32)).toInt64) := if_pos c_62
        exact J_3 _ _ _ (hW.eq (by (try rw [e_0]) <;> (try rw [e_1]) <;> rfl)) (by (try rw [e_0]) <;> (try rw [e_1]) <;> exact lv_sub hl [3, 4] rfl)
      · refine lv_aload_n hx hb dX1_carry_65 rfl (lv_at hl 3 rfl) ?_
        refine zget B hW 0 rfl lf_X1_31 rfl dX1_carry_66 ?_
        refine lv_iload hx hb dX1_carry_69 (lv_at hl 0 rfl) ?_
        refine lv_bipush (v := (8 : Int32)) hx hb dX1_carry_71 (by decide) ?_
        refine lv_imul hx hb dX1_carry_73 ?_
        refine lv_iload_n hx hb dX1_carry_74 rfl (lv_at hl 1 rfl) ?_
        refine lv_iadd hx hb dX1_carry_75 ?_
        refine lv_dup2_11 hx hb dX1_carry_76 rfl rfl ?_
        refine ziald B hW 7 rfl (zcell_ix c_62) dX1_carry_77 ?_
        refine lv_iload_n hx hb dX1_carry_78 rfl (lv_at hl 2 rfl) ?_
        refine lv_iadd hx hb dX1_carry_79 ?_
        refine ziast B hW 7 rfl (zcell_ix c_62) dX1_carry_80 (fun H locs hW => ?_)
        refine lv_goto (tgt := 95) hx hb dX1_carry_81 (by decide) ?_
        have e_0 : (if (r_X7_isCell (((nI i_10) - (nI i_10) / (8 : Int32) * (8 : Int32)) + x.2.2.2.2.2.2.2.1) (((nI i_10) / (8 : Int32)) + x.2.2.2.2.2.2.2.2.1)) = (0 : Int32) then (lp_X1_carry_10 x.2.2.2.2.2.2.2.1 x.2.2.2.2.2.2.2.2.1 (x.2.2.1, (fun _ => (0 : Int32)), x.2.2.2.2.2.2.2.2.2.2.2.2.1) i_10).2.1 else (upd ((lp_X1_carry_10 x.2.2.2.2.2.2.2.1 x.2.2.2.2.2.2.2.2.1 (x.2.2.1, (fun _ => (0 : Int32)), x.2.2.2.2.2.2.2.2.2.2.2.2.1) i_10).2.1) (((((nI i_10) / (8 : Int32)) + x.2.2.2.2.2.2.2.2.1) * (8 : Int32)) + (((nI i_10) - (nI i_10) / (8 : Int32) * (8 : Int32)) + x.2.2.2.2.2.2.2.1)).toNatClampNeg ((((lp_X1_carry_10 x.2.2.2.2.2.2.2.1 x.2.2.2.2.2.2.2.2.1 (x.2.2.1, (fun _ => (0 : Int32)), x.2.2.2.2.2.2.2.2.2.2.2.2.1) i_10).2.1) (((((nI i_10) / (8 : Int32)) + x.2.2.2.2.2.2.2.2.1) * (8 : Int32)) + (((nI i_10) - (nI i_10) / (8 : Int32) * (8 : Int32)) + x.2.2.2.2.2.2.2.1)).toNatClampNeg) + ((((lp_X1_carry_10 x.2.2.2.2.2.2.2.1 x.2.2.2.2.2.2.2.2.1 (x.2.2.1, (fun _ => (0 : Int32)), x.2.2.2.2.2.2.2.2.2.2.2.2.1) i_10).1) i_10) / (4 : Int32))))) = (upd ((lp_X1_carry_10 x.2.2.2.2.2.2.2.1 x.2.2.2.2.2.2.2.2.1 (x.2.2.1, (fun _ => (0 : Int32)), x.2.2.2.2.2.2.2.2.2.2.2.2.1) i_10).2.1) (((((nI i_10) / (8 : Int32)) + x.2.2.2.2.2.2.2.2.1) * (8 : Int32)) + (((nI i_10) - (nI i_10) / (8 : Int32) * (8 : Int32)) + x.2.2.2.2.2.2.2.1)).toNatClampNeg ((((lp_X1_carry_10 x.2.2.2.2.2.2.2.1 x.2.2.2.2.2.2.2.2.1 (x.2.2.1, (fun _ => (0 : Int32)), x.2.2.2.2.2.2.2.2.2.2.2.2.1) i_10).2.1) (((((nI i_10) / (8 : Int32)) + x.2.2.2.2.2.2.2.2.1) * (8 : Int32)) + (((nI i_10) - (nI i_10) / (8 : Int32) * (8 : Int32)) + x.2.2.2.2.2.2.2.1)).toNatClampNeg) + ((((lp_X1_carry_10 x.2.2.2.2.2.2.2.1 x.2.2.2.2.2.2.2.2.1 (x.2.2.1, (fun _ => (0 : Int32)), x.2.2.2.2.2.2.2.2.2.2.2.2.1) i_10).1) i_10) / (4 : Int32)))) := if_neg c_62
        have e_1 : (if (r_X7_isCell (((nI i_10) - (nI i_10) / (8 : Int32) * (8 : Int32)) + x.2.2.2.2.2.2.2.1) (((nI i_10) / (8 : Int32)) + x.2.2.2.2.2.2.2.2.1)) = (0 : Int32) then ((lp_X1_carry_10 x.2.2.2.2.2.2.2.1 x.2.2.2.2.2.2.2.2.1 (x.2.2.1, (fun _ => (0 : Int32)), x.2.2.2.2.2.2.2.2.2.2.2.2.1) i_10).2.2 + ((((lp_X1_carry_10 x.2.2.2.2.2.2.2.1 x.2.2.2.2.2.2.2.2.1 (x.2.2.1, (fun _ => (0 : Int32)), x.2.2.2.2.2.2.2.2.2.2.2.2.1) i_10).1) i_10) / (4 : Int32)).toInt64) else (lp_X1_carry_10 x.2.2.2.2.2.2.2.1 x.2.2.2.2.2.2.2.2.1 (x.2.2.1, (fun _ => (0 : Int32)), x.2.2.2.2.2.2.2.2.2.2.2.2.1) i_10).2.2) = (lp_X1_carry_10 x.2.2.2.2.2.2.2.1 x.2.2.2.2.2.2.2.2.1 (x.2.2.1, (fun _ => (0 : Int32)), x.2.2.2.2.2.2.2.2.2.2.2.2.1) i_10).2.2 := if_neg c_62
        exact J_3 _ _ _ (hW.eq (by (try rw [e_0]) <;> (try rw [e_1]) <;> rfl)) (by (try rw [e_0]) <;> (try rw [e_1]) <;> exact lv_sub hl [3, 4] rfl)
  exact L_1 0 (Nat.zero_le _) _ _ _ (hW.eq (by rw [lp_X1_carry_10_0] <;> rfl)) (lv_sub hl [1, 0] rfl)
def st_X1_runModel_14 (q_x_7 : Int32) (q_x_8 : Int32) (i_14 : Nat) (y : (Nat → Int32) × (Nat → Int32) × Int64) : (Nat → Int32) × (Nat → Int32) × Int64 := ((g_X1_carry_x_2 y.1 q_x_7 q_x_8 y.2.2), (g_X1_carry_x_6 y.1 q_x_7 q_x_8 y.2.2), (g_X1_carry_x_12 y.1 q_x_7 q_x_8 y.2.2))
def lp_X1_runModel_14 (q_x_7 : Int32) (q_x_8 : Int32) (y0 : (Nat → Int32) × (Nat → Int32) × Int64) : Nat → (Nat → Int32) × (Nat → Int32) × Int64
  | 0 => y0
  | n0 + 1 => st_X1_runModel_14 q_x_7 q_x_8 n0 (lp_X1_runModel_14 q_x_7 q_x_8 y0 n0)
termination_by n0 => n0
theorem lp_X1_runModel_14_0 (q_x_7 : Int32) (q_x_8 : Int32) (y0 : (Nat → Int32) × (Nat → Int32) × Int64) : lp_X1_runModel_14 q_x_7 q_x_8 y0 0 = y0 := by rw [lp_X1_runModel_14]
theorem lp_X1_runModel_14_s (q_x_7 : Int32) (q_x_8 : Int32) (y0 : (Nat → Int32) × (Nat → Int32) × Int64) (n0 : Nat) : lp_X1_runModel_14 q_x_7 q_x_8 y0 (n0 + 1) = st_X1_runModel_14 q_x_7 q_x_8 n0 (lp_X1_runModel_14 q_x_7 q_x_8 y0 n0) := by rw [lp_X1_runModel_14]
def g_X1_runModel_x_0 (x_0 : Nat → Int32) (x_1 : Nat → Int32) (x_2 : Nat → Int32) (x_3 : Nat → Int32) (x_4 : Nat → Int32) (x_5 : Nat → Int32) (x_10 : Int32) (x_11 : Int64) : Nat → Int32 := (g_X1_burn_x_0 x_0 (g_X1_dig_x_1 x_1 x_3 x_4 x_5) x_2 x_10 x_11)
def g_X1_runModel_x_1 (x_0 : Nat → Int32) (x_1 : Nat → Int32) (x_2 : Nat → Int32) (x_3 : Nat → Int32) (x_4 : Nat → Int32) (x_5 : Nat → Int32) (x_7 : Int32) (x_8 : Int32) (x_9 : Int32) (x_10 : Int32) (x_11 : Int64) : Nat → Int32 := (g_X1_spread_x_1 (g_X1_burn_x_0 x_0 (g_X1_dig_x_1 x_1 x_3 x_4 x_5) x_2 x_10 x_11) (g_X1_burn_x_1 x_0 (g_X1_dig_x_1 x_1 x_3 x_4 x_5) x_2 x_10 x_11) (g_X1_dig_x_3 x_1 x_3 x_4 x_5) x_7 x_8 x_9)
def g_X1_runModel_x_2 (x_0 : Nat → Int32) (x_1 : Nat → Int32) (x_2 : Nat → Int32) (x_3 : Nat → Int32) (x_4 : Nat → Int32) (x_5 : Nat → Int32) (x_7 : Int32) (x_8 : Int32) (x_9 : Int32) (x_10 : Int32) (x_11 : Int64) (x_12 : Int64) (x_13 : Int64) (n : Nat) : Nat → Int32 := (g_X1_settle_x_2 ((lp_X1_runModel_14 x_7 x_8 ((g_X1_burn_x_2 x_0 (g_X1_dig_x_1 x_1 x_3 x_4 x_5) x_2 x_10 x_11), (g_X1_spread_x_6 (g_X1_burn_x_1 x_0 (g_X1_dig_x_1 x_1 x_3 x_4 x_5) x_2 x_10 x_11) x_7 x_8 x_9), x_12) n).1) x_10 x_13)
def g_X1_runModel_x_3 (x_1 : Nat → Int32) (x_3 : Nat → Int32) (x_4 : Nat → Int32) (x_5 : Nat → Int32) : Nat → Int32 := (g_X1_dig_x_3 x_1 x_3 x_4 x_5)
def g_X1_runModel_x_4 (x_1 : Nat → Int32) (x_3 : Nat → Int32) (x_4 : Nat → Int32) (x_5 : Nat → Int32) : Nat → Int32 := (g_X1_dig_x_4 x_1 x_3 x_4 x_5)
def g_X1_runModel_x_6 (x_0 : Nat → Int32) (x_1 : Nat → Int32) (x_2 : Nat → Int32) (x_3 : Nat → Int32) (x_4 : Nat → Int32) (x_5 : Nat → Int32) (x_7 : Int32) (x_8 : Int32) (x_9 : Int32) (x_10 : Int32) (x_11 : Int64) (x_12 : Int64) (n : Nat) : Nat → Int32 := (lp_X1_runModel_14 x_7 x_8 ((g_X1_burn_x_2 x_0 (g_X1_dig_x_1 x_1 x_3 x_4 x_5) x_2 x_10 x_11), (g_X1_spread_x_6 (g_X1_burn_x_1 x_0 (g_X1_dig_x_1 x_1 x_3 x_4 x_5) x_2 x_10 x_11) x_7 x_8 x_9), x_12) n).2.1
def g_X1_runModel_x_11 (x_0 : Nat → Int32) (x_1 : Nat → Int32) (x_2 : Nat → Int32) (x_3 : Nat → Int32) (x_4 : Nat → Int32) (x_5 : Nat → Int32) (x_10 : Int32) (x_11 : Int64) : Int64 := (g_X1_burn_x_11 x_0 (g_X1_dig_x_1 x_1 x_3 x_4 x_5) x_2 x_10 x_11)
def g_X1_runModel_x_12 (x_0 : Nat → Int32) (x_1 : Nat → Int32) (x_2 : Nat → Int32) (x_3 : Nat → Int32) (x_4 : Nat → Int32) (x_5 : Nat → Int32) (x_7 : Int32) (x_8 : Int32) (x_9 : Int32) (x_10 : Int32) (x_11 : Int64) (x_12 : Int64) (n : Nat) : Int64 := (lp_X1_runModel_14 x_7 x_8 ((g_X1_burn_x_2 x_0 (g_X1_dig_x_1 x_1 x_3 x_4 x_5) x_2 x_10 x_11), (g_X1_spread_x_6 (g_X1_burn_x_1 x_0 (g_X1_dig_x_1 x_1 x_3 x_4 x_5) x_2 x_10 x_11) x_7 x_8 x_9), x_12) n).2.2
def g_X1_runModel_x_13 (x_0 : Nat → Int32) (x_1 : Nat → Int32) (x_2 : Nat → Int32) (x_3 : Nat → Int32) (x_4 : Nat → Int32) (x_5 : Nat → Int32) (x_7 : Int32) (x_8 : Int32) (x_9 : Int32) (x_10 : Int32) (x_11 : Int64) (x_12 : Int64) (x_13 : Int64) (n : Nat) : Int64 := (g_X1_settle_x_13 ((lp_X1_runModel_14 x_7 x_8 ((g_X1_burn_x_2 x_0 (g_X1_dig_x_1 x_1 x_3 x_4 x_5) x_2 x_10 x_11), (g_X1_spread_x_6 (g_X1_burn_x_1 x_0 (g_X1_dig_x_1 x_1 x_3 x_4 x_5) x_2 x_10 x_11) x_7 x_8 x_9), x_12) n).1) x_10 x_13)
def f_X1_runModel_x (x : zLand) (n : Nat) : zLand := (g_X1_runModel_x_0 x.1 x.2.1 x.2.2.1 x.2.2.2.1 x.2.2.2.2.1 x.2.2.2.2.2.1 x.2.2.2.2.2.2.2.2.2.2.1 x.2.2.2.2.2.2.2.2.2.2.2.1, g_X1_runModel_x_1 x.1 x.2.1 x.2.2.1 x.2.2.2.1 x.2.2.2.2.1 x.2.2.2.2.2.1 x.2.2.2.2.2.2.2.1 x.2.2.2.2.2.2.2.2.1 x.2.2.2.2.2.2.2.2.2.1 x.2.2.2.2.2.2.2.2.2.2.1 x.2.2.2.2.2.2.2.2.2.2.2.1, g_X1_runModel_x_2 x.1 x.2.1 x.2.2.1 x.2.2.2.1 x.2.2.2.2.1 x.2.2.2.2.2.1 x.2.2.2.2.2.2.2.1 x.2.2.2.2.2.2.2.2.1 x.2.2.2.2.2.2.2.2.2.1 x.2.2.2.2.2.2.2.2.2.2.1 x.2.2.2.2.2.2.2.2.2.2.2.1 x.2.2.2.2.2.2.2.2.2.2.2.2.1 x.2.2.2.2.2.2.2.2.2.2.2.2.2 n, g_X1_runModel_x_3 x.2.1 x.2.2.2.1 x.2.2.2.2.1 x.2.2.2.2.2.1, g_X1_runModel_x_4 x.2.1 x.2.2.2.1 x.2.2.2.2.1 x.2.2.2.2.2.1, x.2.2.2.2.2.1, g_X1_runModel_x_6 x.1 x.2.1 x.2.2.1 x.2.2.2.1 x.2.2.2.2.1 x.2.2.2.2.2.1 x.2.2.2.2.2.2.2.1 x.2.2.2.2.2.2.2.2.1 x.2.2.2.2.2.2.2.2.2.1 x.2.2.2.2.2.2.2.2.2.2.1 x.2.2.2.2.2.2.2.2.2.2.2.1 x.2.2.2.2.2.2.2.2.2.2.2.2.1 n, x.2.2.2.2.2.2.2.1, x.2.2.2.2.2.2.2.2.1, x.2.2.2.2.2.2.2.2.2.1, x.2.2.2.2.2.2.2.2.2.2.1, g_X1_runModel_x_11 x.1 x.2.1 x.2.2.1 x.2.2.2.1 x.2.2.2.2.1 x.2.2.2.2.2.1 x.2.2.2.2.2.2.2.2.2.2.1 x.2.2.2.2.2.2.2.2.2.2.2.1, g_X1_runModel_x_12 x.1 x.2.1 x.2.2.1 x.2.2.2.1 x.2.2.2.2.1 x.2.2.2.2.2.1 x.2.2.2.2.2.2.2.1 x.2.2.2.2.2.2.2.2.1 x.2.2.2.2.2.2.2.2.2.1 x.2.2.2.2.2.2.2.2.2.2.1 x.2.2.2.2.2.2.2.2.2.2.2.1 x.2.2.2.2.2.2.2.2.2.2.2.2.1 n, g_X1_runModel_x_13 x.1 x.2.1 x.2.2.1 x.2.2.2.1 x.2.2.2.2.1 x.2.2.2.2.2.1 x.2.2.2.2.2.2.2.1 x.2.2.2.2.2.2.2.2.1 x.2.2.2.2.2.2.2.2.2.1 x.2.2.2.2.2.2.2.2.2.2.1 x.2.2.2.2.2.2.2.2.2.2.2.1 x.2.2.2.2.2.2.2.2.2.2.2.2.1 x.2.2.2.2.2.2.2.2.2.2.2.2.2 n)
abbrev po_X1_runModel (G : zG) (h : Nat) (ad : Nat → Nat) (x : zLand) (n : Nat) : Option Value → va_W → Prop := fun r u => r = none ∧ u = landW G h ad (f_X1_runModel_x x n)
set_option maxHeartbeats 4000000 in
set_option maxRecDepth 100000 in
theorem c_X1_runModel (l : Launch) (G : zG) (h : Nat) (ad : Nat → Nat) (x : zLand) (n : Nat) (hq : ∀ k, k < 3 → vp_in (x.2.2.2.2.2.1 k) 48) (hw : x.2.2.2.2.2.2.2.2.2.1 = nI n) (hn : n < 2 ^ 31) : zC l yX1_runModel cX1_runModel 2 none 3 0 0 G [.ref h] (landW G h ad x) (po_X1_runModel G h ad x n) := by
  refine zC.of RX1 rfl (by decide) (Nat.le_of_ble_eq_true rfl) ?_
  intro p e s m args below meth c A ls B hr hlk hnm hW hl
  have hx := B.x
  have hb := B.b
  have hl : lv_has ls 2 [(0, .ref h)] := hl
  refine lv_aload_n hx hb dX1_runModel_0 rfl (lv_at hl 0 rfl) ?_
  refine zcV (w1 := []) (wc := landW G h ad x) (w2 := []) (As := []) B (hW.eq rfl) (c_X1_dig l G h ad x (hq)) yd_X1_dig ml_X1_69 0 rfl rfl rfl rfl hl.1 rfl (Nat.le_of_ble_eq_true rfl) ⟨Nat.le_of_ble_eq_true rfl, Nat.le_of_ble_eq_true rfl⟩ ⟨(Nat.le_of_ble_eq_true rfl), (Nat.le_of_ble_eq_true rfl)⟩ dX1_runModel_1 (fun v u H locs hp hW => ?_)
  obtain ⟨rfl, rfl⟩ := hp
  have hW := hW.eq (w' := landW G h ad (x.1, (g_X1_dig_x_1 x.2.1 x.2.2.2.1 x.2.2.2.2.1 x.2.2.2.2.2.1), x.2.2.1, (g_X1_dig_x_3 x.2.1 x.2.2.2.1 x.2.2.2.2.1 x.2.2.2.2.2.1), (g_X1_dig_x_4 x.2.1 x.2.2.2.1 x.2.2.2.2.1 x.2.2.2.2.2.1), x.2.2.2.2.2.1, x.2.2.2.2.2.2.1, x.2.2.2.2.2.2.2.1, x.2.2.2.2.2.2.2.2.1, x.2.2.2.2.2.2.2.2.2.1, x.2.2.2.2.2.2.2.2.2.2.1, x.2.2.2.2.2.2.2.2.2.2.2.1, x.2.2.2.2.2.2.2.2.2.2.2.2.1, x.2.2.2.2.2.2.2.2.2.2.2.2.2)) rfl
  refine lv_aload_n hx hb dX1_runModel_4 rfl (lv_at hl 0 rfl) ?_
  refine zcV (w1 := []) (wc := landW G h ad (x.1, (g_X1_dig_x_1 x.2.1 x.2.2.2.1 x.2.2.2.2.1 x.2.2.2.2.2.1), x.2.2.1, (g_X1_dig_x_3 x.2.1 x.2.2.2.1 x.2.2.2.2.1 x.2.2.2.2.2.1), (g_X1_dig_x_4 x.2.1 x.2.2.2.1 x.2.2.2.2.1 x.2.2.2.2.2.1), x.2.2.2.2.2.1, x.2.2.2.2.2.2.1, x.2.2.2.2.2.2.2.1, x.2.2.2.2.2.2.2.2.1, x.2.2.2.2.2.2.2.2.2.1, x.2.2.2.2.2.2.2.2.2.2.1, x.2.2.2.2.2.2.2.2.2.2.2.1, x.2.2.2.2.2.2.2.2.2.2.2.2.1, x.2.2.2.2.2.2.2.2.2.2.2.2.2)) (w2 := []) (As := []) B (hW.eq rfl) (c_X1_burn l G h ad (x.1, (g_X1_dig_x_1 x.2.1 x.2.2.2.1 x.2.2.2.2.1 x.2.2.2.2.2.1), x.2.2.1, (g_X1_dig_x_3 x.2.1 x.2.2.2.1 x.2.2.2.2.1 x.2.2.2.2.2.1), (g_X1_dig_x_4 x.2.1 x.2.2.2.1 x.2.2.2.2.1 x.2.2.2.2.2.1), x.2.2.2.2.2.1, x.2.2.2.2.2.2.1, x.2.2.2.2.2.2.2.1, x.2.2.2.2.2.2.2.2.1, x.2.2.2.2.2.2.2.2.2.1, x.2.2.2.2.2.2.2.2.2.2.1, x.2.2.2.2.2.2.2.2.2.2.2.1, x.2.2.2.2.2.2.2.2.2.2.2.2.1, x.2.2.2.2.2.2.2.2.2.2.2.2.2)) yd_X1_burn ml_X1_72 0 rfl rfl rfl rfl hl.1 rfl (Nat.le_of_ble_eq_true rfl) ⟨Nat.le_of_ble_eq_true rfl, Nat.le_of_ble_eq_true rfl⟩ ⟨(Nat.le_of_ble_eq_true rfl), (Nat.le_of_ble_eq_true rfl)⟩ dX1_runModel_5 (fun v u H locs hp hW => ?_)
  obtain ⟨rfl, rfl⟩ := hp
  have hW := hW.eq (w' := landW G h ad ((g_X1_burn_x_0 x.1 (g_X1_dig_x_1 x.2.1 x.2.2.2.1 x.2.2.2.2.1 x.2.2.2.2.2.1) x.2.2.1 x.2.2.2.2.2.2.2.2.2.2.1 x.2.2.2.2.2.2.2.2.2.2.2.1), (g_X1_burn_x_1 x.1 (g_X1_dig_x_1 x.2.1 x.2.2.2.1 x.2.2.2.2.1 x.2.2.2.2.2.1) x.2.2.1 x.2.2.2.2.2.2.2.2.2.2.1 x.2.2.2.2.2.2.2.2.2.2.2.1), (g_X1_burn_x_2 x.1 (g_X1_dig_x_1 x.2.1 x.2.2.2.1 x.2.2.2.2.1 x.2.2.2.2.2.1) x.2.2.1 x.2.2.2.2.2.2.2.2.2.2.1 x.2.2.2.2.2.2.2.2.2.2.2.1), (g_X1_dig_x_3 x.2.1 x.2.2.2.1 x.2.2.2.2.1 x.2.2.2.2.2.1), (g_X1_dig_x_4 x.2.1 x.2.2.2.1 x.2.2.2.2.1 x.2.2.2.2.2.1), x.2.2.2.2.2.1, x.2.2.2.2.2.2.1, x.2.2.2.2.2.2.2.1, x.2.2.2.2.2.2.2.2.1, x.2.2.2.2.2.2.2.2.2.1, x.2.2.2.2.2.2.2.2.2.2.1, (g_X1_burn_x_11 x.1 (g_X1_dig_x_1 x.2.1 x.2.2.2.1 x.2.2.2.2.1 x.2.2.2.2.2.1) x.2.2.1 x.2.2.2.2.2.2.2.2.2.2.1 x.2.2.2.2.2.2.2.2.2.2.2.1), x.2.2.2.2.2.2.2.2.2.2.2.2.1, x.2.2.2.2.2.2.2.2.2.2.2.2.2)) rfl
  refine lv_aload_n hx hb dX1_runModel_8 rfl (lv_at hl 0 rfl) ?_
  refine zcV (w1 := []) (wc := landW G h ad ((g_X1_burn_x_0 x.1 (g_X1_dig_x_1 x.2.1 x.2.2.2.1 x.2.2.2.2.1 x.2.2.2.2.2.1) x.2.2.1 x.2.2.2.2.2.2.2.2.2.2.1 x.2.2.2.2.2.2.2.2.2.2.2.1), (g_X1_burn_x_1 x.1 (g_X1_dig_x_1 x.2.1 x.2.2.2.1 x.2.2.2.2.1 x.2.2.2.2.2.1) x.2.2.1 x.2.2.2.2.2.2.2.2.2.2.1 x.2.2.2.2.2.2.2.2.2.2.2.1), (g_X1_burn_x_2 x.1 (g_X1_dig_x_1 x.2.1 x.2.2.2.1 x.2.2.2.2.1 x.2.2.2.2.2.1) x.2.2.1 x.2.2.2.2.2.2.2.2.2.2.1 x.2.2.2.2.2.2.2.2.2.2.2.1), (g_X1_dig_x_3 x.2.1 x.2.2.2.1 x.2.2.2.2.1 x.2.2.2.2.2.1), (g_X1_dig_x_4 x.2.1 x.2.2.2.1 x.2.2.2.2.1 x.2.2.2.2.2.1), x.2.2.2.2.2.1, x.2.2.2.2.2.2.1, x.2.2.2.2.2.2.2.1, x.2.2.2.2.2.2.2.2.1, x.2.2.2.2.2.2.2.2.2.1, x.2.2.2.2.2.2.2.2.2.2.1, (g_X1_burn_x_11 x.1 (g_X1_dig_x_1 x.2.1 x.2.2.2.1 x.2.2.2.2.1 x.2.2.2.2.2.1) x.2.2.1 x.2.2.2.2.2.2.2.2.2.2.1 x.2.2.2.2.2.2.2.2.2.2.2.1), x.2.2.2.2.2.2.2.2.2.2.2.2.1, x.2.2.2.2.2.2.2.2.2.2.2.2.2)) (w2 := []) (As := []) B (hW.eq rfl) (c_X1_spread l G h ad ((g_X1_burn_x_0 x.1 (g_X1_dig_x_1 x.2.1 x.2.2.2.1 x.2.2.2.2.1 x.2.2.2.2.2.1) x.2.2.1 x.2.2.2.2.2.2.2.2.2.2.1 x.2.2.2.2.2.2.2.2.2.2.2.1), (g_X1_burn_x_1 x.1 (g_X1_dig_x_1 x.2.1 x.2.2.2.1 x.2.2.2.2.1 x.2.2.2.2.2.1) x.2.2.1 x.2.2.2.2.2.2.2.2.2.2.1 x.2.2.2.2.2.2.2.2.2.2.2.1), (g_X1_burn_x_2 x.1 (g_X1_dig_x_1 x.2.1 x.2.2.2.1 x.2.2.2.2.1 x.2.2.2.2.2.1) x.2.2.1 x.2.2.2.2.2.2.2.2.2.2.1 x.2.2.2.2.2.2.2.2.2.2.2.1), (g_X1_dig_x_3 x.2.1 x.2.2.2.1 x.2.2.2.2.1 x.2.2.2.2.2.1), (g_X1_dig_x_4 x.2.1 x.2.2.2.1 x.2.2.2.2.1 x.2.2.2.2.2.1), x.2.2.2.2.2.1, x.2.2.2.2.2.2.1, x.2.2.2.2.2.2.2.1, x.2.2.2.2.2.2.2.2.1, x.2.2.2.2.2.2.2.2.2.1, x.2.2.2.2.2.2.2.2.2.2.1, (g_X1_burn_x_11 x.1 (g_X1_dig_x_1 x.2.1 x.2.2.2.1 x.2.2.2.2.1 x.2.2.2.2.2.1) x.2.2.1 x.2.2.2.2.2.2.2.2.2.2.1 x.2.2.2.2.2.2.2.2.2.2.2.1), x.2.2.2.2.2.2.2.2.2.2.2.2.1, x.2.2.2.2.2.2.2.2.2.2.2.2.2)) yd_X1_spread ml_X1_75 0 rfl rfl rfl rfl hl.1 rfl (Nat.le_of_ble_eq_true rfl) ⟨Nat.le_of_ble_eq_true rfl, Nat.le_of_ble_eq_true rfl⟩ ⟨(Nat.le_of_ble_eq_true rfl), (Nat.le_of_ble_eq_true rfl)⟩ dX1_runModel_9 (fun v u H locs hp hW => ?_)
  obtain ⟨rfl, rfl⟩ := hp
  have hW := hW.eq (w' := landW G h ad ((g_X1_burn_x_0 x.1 (g_X1_dig_x_1 x.2.1 x.2.2.2.1 x.2.2.2.2.1 x.2.2.2.2.2.1) x.2.2.1 x.2.2.2.2.2.2.2.2.2.2.1 x.2.2.2.2.2.2.2.2.2.2.2.1), (g_X1_spread_x_1 (g_X1_burn_x_0 x.1 (g_X1_dig_x_1 x.2.1 x.2.2.2.1 x.2.2.2.2.1 x.2.2.2.2.2.1) x.2.2.1 x.2.2.2.2.2.2.2.2.2.2.1 x.2.2.2.2.2.2.2.2.2.2.2.1) (g_X1_burn_x_1 x.1 (g_X1_dig_x_1 x.2.1 x.2.2.2.1 x.2.2.2.2.1 x.2.2.2.2.2.1) x.2.2.1 x.2.2.2.2.2.2.2.2.2.2.1 x.2.2.2.2.2.2.2.2.2.2.2.1) (g_X1_dig_x_3 x.2.1 x.2.2.2.1 x.2.2.2.2.1 x.2.2.2.2.2.1) x.2.2.2.2.2.2.2.1 x.2.2.2.2.2.2.2.2.1 x.2.2.2.2.2.2.2.2.2.1), (g_X1_burn_x_2 x.1 (g_X1_dig_x_1 x.2.1 x.2.2.2.1 x.2.2.2.2.1 x.2.2.2.2.2.1) x.2.2.1 x.2.2.2.2.2.2.2.2.2.2.1 x.2.2.2.2.2.2.2.2.2.2.2.1), (g_X1_dig_x_3 x.2.1 x.2.2.2.1 x.2.2.2.2.1 x.2.2.2.2.2.1), (g_X1_dig_x_4 x.2.1 x.2.2.2.1 x.2.2.2.2.1 x.2.2.2.2.2.1), x.2.2.2.2.2.1, (g_X1_spread_x_6 (g_X1_burn_x_1 x.1 (g_X1_dig_x_1 x.2.1 x.2.2.2.1 x.2.2.2.2.1 x.2.2.2.2.2.1) x.2.2.1 x.2.2.2.2.2.2.2.2.2.2.1 x.2.2.2.2.2.2.2.2.2.2.2.1) x.2.2.2.2.2.2.2.1 x.2.2.2.2.2.2.2.2.1 x.2.2.2.2.2.2.2.2.2.1), x.2.2.2.2.2.2.2.1, x.2.2.2.2.2.2.2.2.1, x.2.2.2.2.2.2.2.2.2.1, x.2.2.2.2.2.2.2.2.2.2.1, (g_X1_burn_x_11 x.1 (g_X1_dig_x_1 x.2.1 x.2.2.2.1 x.2.2.2.2.1 x.2.2.2.2.2.1) x.2.2.1 x.2.2.2.2.2.2.2.2.2.2.1 x.2.2.2.2.2.2.2.2.2.2.2.1), x.2.2.2.2.2.2.2.2.2.2.2.2.1, x.2.2.2.2.2.2.2.2.2.2.2.2.2)) rfl
  refine lv_iconst (v := (0 : Int32)) hx hb dX1_runModel_12 (by decide) ?_
  refine lv_istore_n hx hb dX1_runModel_13 rfl hl (by decide) rfl (fun ls hl => ?_)
  have L_1 : ∀ i_14 : Nat, i_14 ≤ n → ∀ (H : Heap) (locs : List Loc) (ls : Array Slot), zW G A s.heap H locs (landW G h ad ((g_X1_burn_x_0 x.1 (g_X1_dig_x_1 x.2.1 x.2.2.2.1 x.2.2.2.2.1 x.2.2.2.2.2.1) x.2.2.1 x.2.2.2.2.2.2.2.2.2.2.1 x.2.2.2.2.2.2.2.2.2.2.2.1), (g_X1_spread_x_1 (g_X1_burn_x_0 x.1 (g_X1_dig_x_1 x.2.1 x.2.2.2.1 x.2.2.2.2.1 x.2.2.2.2.2.1) x.2.2.1 x.2.2.2.2.2.2.2.2.2.2.1 x.2.2.2.2.2.2.2.2.2.2.2.1) (g_X1_burn_x_1 x.1 (g_X1_dig_x_1 x.2.1 x.2.2.2.1 x.2.2.2.2.1 x.2.2.2.2.2.1) x.2.2.1 x.2.2.2.2.2.2.2.2.2.2.1 x.2.2.2.2.2.2.2.2.2.2.2.1) (g_X1_dig_x_3 x.2.1 x.2.2.2.1 x.2.2.2.2.1 x.2.2.2.2.2.1) x.2.2.2.2.2.2.2.1 x.2.2.2.2.2.2.2.2.1 x.2.2.2.2.2.2.2.2.2.1), (lp_X1_runModel_14 x.2.2.2.2.2.2.2.1 x.2.2.2.2.2.2.2.2.1 ((g_X1_burn_x_2 x.1 (g_X1_dig_x_1 x.2.1 x.2.2.2.1 x.2.2.2.2.1 x.2.2.2.2.2.1) x.2.2.1 x.2.2.2.2.2.2.2.2.2.2.1 x.2.2.2.2.2.2.2.2.2.2.2.1), (g_X1_spread_x_6 (g_X1_burn_x_1 x.1 (g_X1_dig_x_1 x.2.1 x.2.2.2.1 x.2.2.2.2.1 x.2.2.2.2.2.1) x.2.2.1 x.2.2.2.2.2.2.2.2.2.2.1 x.2.2.2.2.2.2.2.2.2.2.2.1) x.2.2.2.2.2.2.2.1 x.2.2.2.2.2.2.2.2.1 x.2.2.2.2.2.2.2.2.2.1), x.2.2.2.2.2.2.2.2.2.2.2.2.1) i_14).1, (g_X1_dig_x_3 x.2.1 x.2.2.2.1 x.2.2.2.2.1 x.2.2.2.2.2.1), (g_X1_dig_x_4 x.2.1 x.2.2.2.1 x.2.2.2.2.1 x.2.2.2.2.2.1), x.2.2.2.2.2.1, (lp_X1_runModel_14 x.2.2.2.2.2.2.2.1 x.2.2.2.2.2.2.2.2.1 ((g_X1_burn_x_2 x.1 (g_X1_dig_x_1 x.2.1 x.2.2.2.1 x.2.2.2.2.1 x.2.2.2.2.2.1) x.2.2.1 x.2.2.2.2.2.2.2.2.2.2.1 x.2.2.2.2.2.2.2.2.2.2.2.1), (g_X1_spread_x_6 (g_X1_burn_x_1 x.1 (g_X1_dig_x_1 x.2.1 x.2.2.2.1 x.2.2.2.2.1 x.2.2.2.2.2.1) x.2.2.1 x.2.2.2.2.2.2.2.2.2.2.1 x.2.2.2.2.2.2.2.2.2.2.2.1) x.2.2.2.2.2.2.2.1 x.2.2.2.2.2.2.2.2.1 x.2.2.2.2.2.2.2.2.2.1), x.2.2.2.2.2.2.2.2.2.2.2.2.1) i_14).2.1, x.2.2.2.2.2.2.2.1, x.2.2.2.2.2.2.2.2.1, x.2.2.2.2.2.2.2.2.2.1, x.2.2.2.2.2.2.2.2.2.2.1, (g_X1_burn_x_11 x.1 (g_X1_dig_x_1 x.2.1 x.2.2.2.1 x.2.2.2.2.1 x.2.2.2.2.2.1) x.2.2.1 x.2.2.2.2.2.2.2.2.2.2.1 x.2.2.2.2.2.2.2.2.2.2.2.1), (lp_X1_runModel_14 x.2.2.2.2.2.2.2.1 x.2.2.2.2.2.2.2.2.1 ((g_X1_burn_x_2 x.1 (g_X1_dig_x_1 x.2.1 x.2.2.2.1 x.2.2.2.2.1 x.2.2.2.2.2.1) x.2.2.1 x.2.2.2.2.2.2.2.2.2.2.1 x.2.2.2.2.2.2.2.2.2.2.2.1), (g_X1_spread_x_6 (g_X1_burn_x_1 x.1 (g_X1_dig_x_1 x.2.1 x.2.2.2.1 x.2.2.2.2.1 x.2.2.2.2.2.1) x.2.2.1 x.2.2.2.2.2.2.2.2.2.2.1 x.2.2.2.2.2.2.2.2.2.2.2.1) x.2.2.2.2.2.2.2.1 x.2.2.2.2.2.2.2.2.1 x.2.2.2.2.2.2.2.2.2.1), x.2.2.2.2.2.2.2.2.2.2.2.2.1) i_14).2.2, x.2.2.2.2.2.2.2.2.2.2.2.2.2)) → lv_has ls 2 [(0, .ref h), (1, .int (nI i_14))] → W p l e (zRm 3 0 0) s m args below meth c H locs 0 0 (MQ below (zQ G A (po_X1_runModel G h ad x n)) args s 0 0 A) (F0 m 14 ls []) := by
    refine zloop n ?_ ?_
    · intro H locs ls hW hl
      refine lv_iload_n hx hb dX1_runModel_14 rfl (lv_at hl 1 rfl) ?_
      refine lv_aload_n hx hb dX1_runModel_15 rfl (lv_at hl 0 rfl) ?_
      refine zget B hW 0 rfl lf_X1_41 rfl dX1_runModel_16 ?_
      refine lv_icmp_ge (tgt := 32) hx hb dX1_runModel_19 (by decide) (fun c_19 => ?_) (fun c_19 => absurd (zge (hw)) c_19)
      refine lv_aload_n hx hb dX1_runModel_32 rfl (lv_at hl 0 rfl) ?_
      refine zcV (w1 := []) (wc := landW G h ad ((g_X1_burn_x_0 x.1 (g_X1_dig_x_1 x.2.1 x.2.2.2.1 x.2.2.2.2.1 x.2.2.2.2.2.1) x.2.2.1 x.2.2.2.2.2.2.2.2.2.2.1 x.2.2.2.2.2.2.2.2.2.2.2.1), (g_X1_spread_x_1 (g_X1_burn_x_0 x.1 (g_X1_dig_x_1 x.2.1 x.2.2.2.1 x.2.2.2.2.1 x.2.2.2.2.2.1) x.2.2.1 x.2.2.2.2.2.2.2.2.2.2.1 x.2.2.2.2.2.2.2.2.2.2.2.1) (g_X1_burn_x_1 x.1 (g_X1_dig_x_1 x.2.1 x.2.2.2.1 x.2.2.2.2.1 x.2.2.2.2.2.1) x.2.2.1 x.2.2.2.2.2.2.2.2.2.2.1 x.2.2.2.2.2.2.2.2.2.2.2.1) (g_X1_dig_x_3 x.2.1 x.2.2.2.1 x.2.2.2.2.1 x.2.2.2.2.2.1) x.2.2.2.2.2.2.2.1 x.2.2.2.2.2.2.2.2.1 x.2.2.2.2.2.2.2.2.2.1), (lp_X1_runModel_14 x.2.2.2.2.2.2.2.1 x.2.2.2.2.2.2.2.2.1 ((g_X1_burn_x_2 x.1 (g_X1_dig_x_1 x.2.1 x.2.2.2.1 x.2.2.2.2.1 x.2.2.2.2.2.1) x.2.2.1 x.2.2.2.2.2.2.2.2.2.2.1 x.2.2.2.2.2.2.2.2.2.2.2.1), (g_X1_spread_x_6 (g_X1_burn_x_1 x.1 (g_X1_dig_x_1 x.2.1 x.2.2.2.1 x.2.2.2.2.1 x.2.2.2.2.2.1) x.2.2.1 x.2.2.2.2.2.2.2.2.2.2.1 x.2.2.2.2.2.2.2.2.2.2.2.1) x.2.2.2.2.2.2.2.1 x.2.2.2.2.2.2.2.2.1 x.2.2.2.2.2.2.2.2.2.1), x.2.2.2.2.2.2.2.2.2.2.2.2.1) n).1, (g_X1_dig_x_3 x.2.1 x.2.2.2.1 x.2.2.2.2.1 x.2.2.2.2.2.1), (g_X1_dig_x_4 x.2.1 x.2.2.2.1 x.2.2.2.2.1 x.2.2.2.2.2.1), x.2.2.2.2.2.1, (lp_X1_runModel_14 x.2.2.2.2.2.2.2.1 x.2.2.2.2.2.2.2.2.1 ((g_X1_burn_x_2 x.1 (g_X1_dig_x_1 x.2.1 x.2.2.2.1 x.2.2.2.2.1 x.2.2.2.2.2.1) x.2.2.1 x.2.2.2.2.2.2.2.2.2.2.1 x.2.2.2.2.2.2.2.2.2.2.2.1), (g_X1_spread_x_6 (g_X1_burn_x_1 x.1 (g_X1_dig_x_1 x.2.1 x.2.2.2.1 x.2.2.2.2.1 x.2.2.2.2.2.1) x.2.2.1 x.2.2.2.2.2.2.2.2.2.2.1 x.2.2.2.2.2.2.2.2.2.2.2.1) x.2.2.2.2.2.2.2.1 x.2.2.2.2.2.2.2.2.1 x.2.2.2.2.2.2.2.2.2.1), x.2.2.2.2.2.2.2.2.2.2.2.2.1) n).2.1, x.2.2.2.2.2.2.2.1, x.2.2.2.2.2.2.2.2.1, x.2.2.2.2.2.2.2.2.2.1, x.2.2.2.2.2.2.2.2.2.2.1, (g_X1_burn_x_11 x.1 (g_X1_dig_x_1 x.2.1 x.2.2.2.1 x.2.2.2.2.1 x.2.2.2.2.2.1) x.2.2.1 x.2.2.2.2.2.2.2.2.2.2.1 x.2.2.2.2.2.2.2.2.2.2.2.1), (lp_X1_runModel_14 x.2.2.2.2.2.2.2.1 x.2.2.2.2.2.2.2.2.1 ((g_X1_burn_x_2 x.1 (g_X1_dig_x_1 x.2.1 x.2.2.2.1 x.2.2.2.2.1 x.2.2.2.2.2.1) x.2.2.1 x.2.2.2.2.2.2.2.2.2.2.1 x.2.2.2.2.2.2.2.2.2.2.2.1), (g_X1_spread_x_6 (g_X1_burn_x_1 x.1 (g_X1_dig_x_1 x.2.1 x.2.2.2.1 x.2.2.2.2.1 x.2.2.2.2.2.1) x.2.2.1 x.2.2.2.2.2.2.2.2.2.2.1 x.2.2.2.2.2.2.2.2.2.2.2.1) x.2.2.2.2.2.2.2.1 x.2.2.2.2.2.2.2.2.1 x.2.2.2.2.2.2.2.2.2.1), x.2.2.2.2.2.2.2.2.2.2.2.2.1) n).2.2, x.2.2.2.2.2.2.2.2.2.2.2.2.2)) (w2 := []) (As := []) B (hW.eq rfl) (c_X1_settle l G h ad ((g_X1_burn_x_0 x.1 (g_X1_dig_x_1 x.2.1 x.2.2.2.1 x.2.2.2.2.1 x.2.2.2.2.2.1) x.2.2.1 x.2.2.2.2.2.2.2.2.2.2.1 x.2.2.2.2.2.2.2.2.2.2.2.1), (g_X1_spread_x_1 (g_X1_burn_x_0 x.1 (g_X1_dig_x_1 x.2.1 x.2.2.2.1 x.2.2.2.2.1 x.2.2.2.2.2.1) x.2.2.1 x.2.2.2.2.2.2.2.2.2.2.1 x.2.2.2.2.2.2.2.2.2.2.2.1) (g_X1_burn_x_1 x.1 (g_X1_dig_x_1 x.2.1 x.2.2.2.1 x.2.2.2.2.1 x.2.2.2.2.2.1) x.2.2.1 x.2.2.2.2.2.2.2.2.2.2.1 x.2.2.2.2.2.2.2.2.2.2.2.1) (g_X1_dig_x_3 x.2.1 x.2.2.2.1 x.2.2.2.2.1 x.2.2.2.2.2.1) x.2.2.2.2.2.2.2.1 x.2.2.2.2.2.2.2.2.1 x.2.2.2.2.2.2.2.2.2.1), (lp_X1_runModel_14 x.2.2.2.2.2.2.2.1 x.2.2.2.2.2.2.2.2.1 ((g_X1_burn_x_2 x.1 (g_X1_dig_x_1 x.2.1 x.2.2.2.1 x.2.2.2.2.1 x.2.2.2.2.2.1) x.2.2.1 x.2.2.2.2.2.2.2.2.2.2.1 x.2.2.2.2.2.2.2.2.2.2.2.1), (g_X1_spread_x_6 (g_X1_burn_x_1 x.1 (g_X1_dig_x_1 x.2.1 x.2.2.2.1 x.2.2.2.2.1 x.2.2.2.2.2.1) x.2.2.1 x.2.2.2.2.2.2.2.2.2.2.1 x.2.2.2.2.2.2.2.2.2.2.2.1) x.2.2.2.2.2.2.2.1 x.2.2.2.2.2.2.2.2.1 x.2.2.2.2.2.2.2.2.2.1), x.2.2.2.2.2.2.2.2.2.2.2.2.1) n).1, (g_X1_dig_x_3 x.2.1 x.2.2.2.1 x.2.2.2.2.1 x.2.2.2.2.2.1), (g_X1_dig_x_4 x.2.1 x.2.2.2.1 x.2.2.2.2.1 x.2.2.2.2.2.1), x.2.2.2.2.2.1, (lp_X1_runModel_14 x.2.2.2.2.2.2.2.1 x.2.2.2.2.2.2.2.2.1 ((g_X1_burn_x_2 x.1 (g_X1_dig_x_1 x.2.1 x.2.2.2.1 x.2.2.2.2.1 x.2.2.2.2.2.1) x.2.2.1 x.2.2.2.2.2.2.2.2.2.2.1 x.2.2.2.2.2.2.2.2.2.2.2.1), (g_X1_spread_x_6 (g_X1_burn_x_1 x.1 (g_X1_dig_x_1 x.2.1 x.2.2.2.1 x.2.2.2.2.1 x.2.2.2.2.2.1) x.2.2.1 x.2.2.2.2.2.2.2.2.2.2.1 x.2.2.2.2.2.2.2.2.2.2.2.1) x.2.2.2.2.2.2.2.1 x.2.2.2.2.2.2.2.2.1 x.2.2.2.2.2.2.2.2.2.1), x.2.2.2.2.2.2.2.2.2.2.2.2.1) n).2.1, x.2.2.2.2.2.2.2.1, x.2.2.2.2.2.2.2.2.1, x.2.2.2.2.2.2.2.2.2.1, x.2.2.2.2.2.2.2.2.2.2.1, (g_X1_burn_x_11 x.1 (g_X1_dig_x_1 x.2.1 x.2.2.2.1 x.2.2.2.2.1 x.2.2.2.2.2.1) x.2.2.1 x.2.2.2.2.2.2.2.2.2.2.1 x.2.2.2.2.2.2.2.2.2.2.2.1), (lp_X1_runModel_14 x.2.2.2.2.2.2.2.1 x.2.2.2.2.2.2.2.2.1 ((g_X1_burn_x_2 x.1 (g_X1_dig_x_1 x.2.1 x.2.2.2.1 x.2.2.2.2.1 x.2.2.2.2.2.1) x.2.2.1 x.2.2.2.2.2.2.2.2.2.2.1 x.2.2.2.2.2.2.2.2.2.2.2.1), (g_X1_spread_x_6 (g_X1_burn_x_1 x.1 (g_X1_dig_x_1 x.2.1 x.2.2.2.1 x.2.2.2.2.1 x.2.2.2.2.2.1) x.2.2.1 x.2.2.2.2.2.2.2.2.2.2.1 x.2.2.2.2.2.2.2.2.2.2.2.1) x.2.2.2.2.2.2.2.1 x.2.2.2.2.2.2.2.2.1 x.2.2.2.2.2.2.2.2.2.1), x.2.2.2.2.2.2.2.2.2.2.2.2.1) n).2.2, x.2.2.2.2.2.2.2.2.2.2.2.2.2)) yd_X1_settle ml_X1_81 0 rfl rfl rfl rfl hl.1 rfl (Nat.le_of_ble_eq_true rfl) ⟨Nat.le_of_ble_eq_true rfl, Nat.le_of_ble_eq_true rfl⟩ ⟨(Nat.le_of_ble_eq_true rfl), (Nat.le_of_ble_eq_true rfl)⟩ dX1_runModel_33 (fun v u H locs hp hW => ?_)
      obtain ⟨rfl, rfl⟩ := hp
      have hW := hW.eq (w' := landW G h ad ((g_X1_burn_x_0 x.1 (g_X1_dig_x_1 x.2.1 x.2.2.2.1 x.2.2.2.2.1 x.2.2.2.2.2.1) x.2.2.1 x.2.2.2.2.2.2.2.2.2.2.1 x.2.2.2.2.2.2.2.2.2.2.2.1), (g_X1_spread_x_1 (g_X1_burn_x_0 x.1 (g_X1_dig_x_1 x.2.1 x.2.2.2.1 x.2.2.2.2.1 x.2.2.2.2.2.1) x.2.2.1 x.2.2.2.2.2.2.2.2.2.2.1 x.2.2.2.2.2.2.2.2.2.2.2.1) (g_X1_burn_x_1 x.1 (g_X1_dig_x_1 x.2.1 x.2.2.2.1 x.2.2.2.2.1 x.2.2.2.2.2.1) x.2.2.1 x.2.2.2.2.2.2.2.2.2.2.1 x.2.2.2.2.2.2.2.2.2.2.2.1) (g_X1_dig_x_3 x.2.1 x.2.2.2.1 x.2.2.2.2.1 x.2.2.2.2.2.1) x.2.2.2.2.2.2.2.1 x.2.2.2.2.2.2.2.2.1 x.2.2.2.2.2.2.2.2.2.1), (g_X1_settle_x_2 ((lp_X1_runModel_14 x.2.2.2.2.2.2.2.1 x.2.2.2.2.2.2.2.2.1 ((g_X1_burn_x_2 x.1 (g_X1_dig_x_1 x.2.1 x.2.2.2.1 x.2.2.2.2.1 x.2.2.2.2.2.1) x.2.2.1 x.2.2.2.2.2.2.2.2.2.2.1 x.2.2.2.2.2.2.2.2.2.2.2.1), (g_X1_spread_x_6 (g_X1_burn_x_1 x.1 (g_X1_dig_x_1 x.2.1 x.2.2.2.1 x.2.2.2.2.1 x.2.2.2.2.2.1) x.2.2.1 x.2.2.2.2.2.2.2.2.2.2.1 x.2.2.2.2.2.2.2.2.2.2.2.1) x.2.2.2.2.2.2.2.1 x.2.2.2.2.2.2.2.2.1 x.2.2.2.2.2.2.2.2.2.1), x.2.2.2.2.2.2.2.2.2.2.2.2.1) n).1) x.2.2.2.2.2.2.2.2.2.2.1 x.2.2.2.2.2.2.2.2.2.2.2.2.2), (g_X1_dig_x_3 x.2.1 x.2.2.2.1 x.2.2.2.2.1 x.2.2.2.2.2.1), (g_X1_dig_x_4 x.2.1 x.2.2.2.1 x.2.2.2.2.1 x.2.2.2.2.2.1), x.2.2.2.2.2.1, (lp_X1_runModel_14 x.2.2.2.2.2.2.2.1 x.2.2.2.2.2.2.2.2.1 ((g_X1_burn_x_2 x.1 (g_X1_dig_x_1 x.2.1 x.2.2.2.1 x.2.2.2.2.1 x.2.2.2.2.2.1) x.2.2.1 x.2.2.2.2.2.2.2.2.2.2.1 x.2.2.2.2.2.2.2.2.2.2.2.1), (g_X1_spread_x_6 (g_X1_burn_x_1 x.1 (g_X1_dig_x_1 x.2.1 x.2.2.2.1 x.2.2.2.2.1 x.2.2.2.2.2.1) x.2.2.1 x.2.2.2.2.2.2.2.2.2.2.1 x.2.2.2.2.2.2.2.2.2.2.2.1) x.2.2.2.2.2.2.2.1 x.2.2.2.2.2.2.2.2.1 x.2.2.2.2.2.2.2.2.2.1), x.2.2.2.2.2.2.2.2.2.2.2.2.1) n).2.1, x.2.2.2.2.2.2.2.1, x.2.2.2.2.2.2.2.2.1, x.2.2.2.2.2.2.2.2.2.1, x.2.2.2.2.2.2.2.2.2.2.1, (g_X1_burn_x_11 x.1 (g_X1_dig_x_1 x.2.1 x.2.2.2.1 x.2.2.2.2.1 x.2.2.2.2.2.1) x.2.2.1 x.2.2.2.2.2.2.2.2.2.2.1 x.2.2.2.2.2.2.2.2.2.2.2.1), (lp_X1_runModel_14 x.2.2.2.2.2.2.2.1 x.2.2.2.2.2.2.2.2.1 ((g_X1_burn_x_2 x.1 (g_X1_dig_x_1 x.2.1 x.2.2.2.1 x.2.2.2.2.1 x.2.2.2.2.2.1) x.2.2.1 x.2.2.2.2.2.2.2.2.2.2.1 x.2.2.2.2.2.2.2.2.2.2.2.1), (g_X1_spread_x_6 (g_X1_burn_x_1 x.1 (g_X1_dig_x_1 x.2.1 x.2.2.2.1 x.2.2.2.2.1 x.2.2.2.2.2.1) x.2.2.1 x.2.2.2.2.2.2.2.2.2.2.1 x.2.2.2.2.2.2.2.2.2.2.2.1) x.2.2.2.2.2.2.2.1 x.2.2.2.2.2.2.2.2.1 x.2.2.2.2.2.2.2.2.2.1), x.2.2.2.2.2.2.2.2.2.2.2.2.1) n).2.2, (g_X1_settle_x_13 ((lp_X1_runModel_14 x.2.2.2.2.2.2.2.1 x.2.2.2.2.2.2.2.2.1 ((g_X1_burn_x_2 x.1 (g_X1_dig_x_1 x.2.1 x.2.2.2.1 x.2.2.2.2.1 x.2.2.2.2.2.1) x.2.2.1 x.2.2.2.2.2.2.2.2.2.2.1 x.2.2.2.2.2.2.2.2.2.2.2.1), (g_X1_spread_x_6 (g_X1_burn_x_1 x.1 (g_X1_dig_x_1 x.2.1 x.2.2.2.1 x.2.2.2.2.1 x.2.2.2.2.2.1) x.2.2.1 x.2.2.2.2.2.2.2.2.2.2.1 x.2.2.2.2.2.2.2.2.2.2.2.1) x.2.2.2.2.2.2.2.1 x.2.2.2.2.2.2.2.2.1 x.2.2.2.2.2.2.2.2.2.1), x.2.2.2.2.2.2.2.2.2.2.2.2.1) n).1) x.2.2.2.2.2.2.2.2.2.2.1 x.2.2.2.2.2.2.2.2.2.2.2.2.2))) rfl
      exact zvret B hr hlk hW ⟨rfl, rfl⟩ (Nat.le_refl _) (Nat.le_refl _) dX1_runModel_36
    · intro i_14 hi_14 ih H locs ls hW hl
      refine lv_iload_n hx hb dX1_runModel_14 rfl (lv_at hl 1 rfl) ?_
      refine lv_aload_n hx hb dX1_runModel_15 rfl (lv_at hl 0 rfl) ?_
      refine zget B hW 0 rfl lf_X1_41 rfl dX1_runModel_16 ?_
      refine lv_icmp_ge (tgt := 32) hx hb dX1_runModel_19 (by decide) (fun c_19 => absurd c_19 (znle (hw) hi_14 (hn))) (fun c_19 => ?_)
      refine lv_aload_n hx hb dX1_runModel_22 rfl (lv_at hl 0 rfl) ?_
      refine zcV (w1 := []) (wc := landW G h ad ((g_X1_burn_x_0 x.1 (g_X1_dig_x_1 x.2.1 x.2.2.2.1 x.2.2.2.2.1 x.2.2.2.2.2.1) x.2.2.1 x.2.2.2.2.2.2.2.2.2.2.1 x.2.2.2.2.2.2.2.2.2.2.2.1), (g_X1_spread_x_1 (g_X1_burn_x_0 x.1 (g_X1_dig_x_1 x.2.1 x.2.2.2.1 x.2.2.2.2.1 x.2.2.2.2.2.1) x.2.2.1 x.2.2.2.2.2.2.2.2.2.2.1 x.2.2.2.2.2.2.2.2.2.2.2.1) (g_X1_burn_x_1 x.1 (g_X1_dig_x_1 x.2.1 x.2.2.2.1 x.2.2.2.2.1 x.2.2.2.2.2.1) x.2.2.1 x.2.2.2.2.2.2.2.2.2.2.1 x.2.2.2.2.2.2.2.2.2.2.2.1) (g_X1_dig_x_3 x.2.1 x.2.2.2.1 x.2.2.2.2.1 x.2.2.2.2.2.1) x.2.2.2.2.2.2.2.1 x.2.2.2.2.2.2.2.2.1 x.2.2.2.2.2.2.2.2.2.1), (lp_X1_runModel_14 x.2.2.2.2.2.2.2.1 x.2.2.2.2.2.2.2.2.1 ((g_X1_burn_x_2 x.1 (g_X1_dig_x_1 x.2.1 x.2.2.2.1 x.2.2.2.2.1 x.2.2.2.2.2.1) x.2.2.1 x.2.2.2.2.2.2.2.2.2.2.1 x.2.2.2.2.2.2.2.2.2.2.2.1), (g_X1_spread_x_6 (g_X1_burn_x_1 x.1 (g_X1_dig_x_1 x.2.1 x.2.2.2.1 x.2.2.2.2.1 x.2.2.2.2.2.1) x.2.2.1 x.2.2.2.2.2.2.2.2.2.2.1 x.2.2.2.2.2.2.2.2.2.2.2.1) x.2.2.2.2.2.2.2.1 x.2.2.2.2.2.2.2.2.1 x.2.2.2.2.2.2.2.2.2.1), x.2.2.2.2.2.2.2.2.2.2.2.2.1) i_14).1, (g_X1_dig_x_3 x.2.1 x.2.2.2.1 x.2.2.2.2.1 x.2.2.2.2.2.1), (g_X1_dig_x_4 x.2.1 x.2.2.2.1 x.2.2.2.2.1 x.2.2.2.2.2.1), x.2.2.2.2.2.1, (lp_X1_runModel_14 x.2.2.2.2.2.2.2.1 x.2.2.2.2.2.2.2.2.1 ((g_X1_burn_x_2 x.1 (g_X1_dig_x_1 x.2.1 x.2.2.2.1 x.2.2.2.2.1 x.2.2.2.2.2.1) x.2.2.1 x.2.2.2.2.2.2.2.2.2.2.1 x.2.2.2.2.2.2.2.2.2.2.2.1), (g_X1_spread_x_6 (g_X1_burn_x_1 x.1 (g_X1_dig_x_1 x.2.1 x.2.2.2.1 x.2.2.2.2.1 x.2.2.2.2.2.1) x.2.2.1 x.2.2.2.2.2.2.2.2.2.2.1 x.2.2.2.2.2.2.2.2.2.2.2.1) x.2.2.2.2.2.2.2.1 x.2.2.2.2.2.2.2.2.1 x.2.2.2.2.2.2.2.2.2.1), x.2.2.2.2.2.2.2.2.2.2.2.2.1) i_14).2.1, x.2.2.2.2.2.2.2.1, x.2.2.2.2.2.2.2.2.1, x.2.2.2.2.2.2.2.2.2.1, x.2.2.2.2.2.2.2.2.2.2.1, (g_X1_burn_x_11 x.1 (g_X1_dig_x_1 x.2.1 x.2.2.2.1 x.2.2.2.2.1 x.2.2.2.2.2.1) x.2.2.1 x.2.2.2.2.2.2.2.2.2.2.1 x.2.2.2.2.2.2.2.2.2.2.2.1), (lp_X1_runModel_14 x.2.2.2.2.2.2.2.1 x.2.2.2.2.2.2.2.2.1 ((g_X1_burn_x_2 x.1 (g_X1_dig_x_1 x.2.1 x.2.2.2.1 x.2.2.2.2.1 x.2.2.2.2.2.1) x.2.2.1 x.2.2.2.2.2.2.2.2.2.2.1 x.2.2.2.2.2.2.2.2.2.2.2.1), (g_X1_spread_x_6 (g_X1_burn_x_1 x.1 (g_X1_dig_x_1 x.2.1 x.2.2.2.1 x.2.2.2.2.1 x.2.2.2.2.2.1) x.2.2.1 x.2.2.2.2.2.2.2.2.2.2.1 x.2.2.2.2.2.2.2.2.2.2.2.1) x.2.2.2.2.2.2.2.1 x.2.2.2.2.2.2.2.2.1 x.2.2.2.2.2.2.2.2.2.1), x.2.2.2.2.2.2.2.2.2.2.2.2.1) i_14).2.2, x.2.2.2.2.2.2.2.2.2.2.2.2.2)) (w2 := []) (As := []) B (hW.eq rfl) (c_X1_carry l G h ad ((g_X1_burn_x_0 x.1 (g_X1_dig_x_1 x.2.1 x.2.2.2.1 x.2.2.2.2.1 x.2.2.2.2.2.1) x.2.2.1 x.2.2.2.2.2.2.2.2.2.2.1 x.2.2.2.2.2.2.2.2.2.2.2.1), (g_X1_spread_x_1 (g_X1_burn_x_0 x.1 (g_X1_dig_x_1 x.2.1 x.2.2.2.1 x.2.2.2.2.1 x.2.2.2.2.2.1) x.2.2.1 x.2.2.2.2.2.2.2.2.2.2.1 x.2.2.2.2.2.2.2.2.2.2.2.1) (g_X1_burn_x_1 x.1 (g_X1_dig_x_1 x.2.1 x.2.2.2.1 x.2.2.2.2.1 x.2.2.2.2.2.1) x.2.2.1 x.2.2.2.2.2.2.2.2.2.2.1 x.2.2.2.2.2.2.2.2.2.2.2.1) (g_X1_dig_x_3 x.2.1 x.2.2.2.1 x.2.2.2.2.1 x.2.2.2.2.2.1) x.2.2.2.2.2.2.2.1 x.2.2.2.2.2.2.2.2.1 x.2.2.2.2.2.2.2.2.2.1), (lp_X1_runModel_14 x.2.2.2.2.2.2.2.1 x.2.2.2.2.2.2.2.2.1 ((g_X1_burn_x_2 x.1 (g_X1_dig_x_1 x.2.1 x.2.2.2.1 x.2.2.2.2.1 x.2.2.2.2.2.1) x.2.2.1 x.2.2.2.2.2.2.2.2.2.2.1 x.2.2.2.2.2.2.2.2.2.2.2.1), (g_X1_spread_x_6 (g_X1_burn_x_1 x.1 (g_X1_dig_x_1 x.2.1 x.2.2.2.1 x.2.2.2.2.1 x.2.2.2.2.2.1) x.2.2.1 x.2.2.2.2.2.2.2.2.2.2.1 x.2.2.2.2.2.2.2.2.2.2.2.1) x.2.2.2.2.2.2.2.1 x.2.2.2.2.2.2.2.2.1 x.2.2.2.2.2.2.2.2.2.1), x.2.2.2.2.2.2.2.2.2.2.2.2.1) i_14).1, (g_X1_dig_x_3 x.2.1 x.2.2.2.1 x.2.2.2.2.1 x.2.2.2.2.2.1), (g_X1_dig_x_4 x.2.1 x.2.2.2.1 x.2.2.2.2.1 x.2.2.2.2.2.1), x.2.2.2.2.2.1, (lp_X1_runModel_14 x.2.2.2.2.2.2.2.1 x.2.2.2.2.2.2.2.2.1 ((g_X1_burn_x_2 x.1 (g_X1_dig_x_1 x.2.1 x.2.2.2.1 x.2.2.2.2.1 x.2.2.2.2.2.1) x.2.2.1 x.2.2.2.2.2.2.2.2.2.2.1 x.2.2.2.2.2.2.2.2.2.2.2.1), (g_X1_spread_x_6 (g_X1_burn_x_1 x.1 (g_X1_dig_x_1 x.2.1 x.2.2.2.1 x.2.2.2.2.1 x.2.2.2.2.2.1) x.2.2.1 x.2.2.2.2.2.2.2.2.2.2.1 x.2.2.2.2.2.2.2.2.2.2.2.1) x.2.2.2.2.2.2.2.1 x.2.2.2.2.2.2.2.2.1 x.2.2.2.2.2.2.2.2.2.1), x.2.2.2.2.2.2.2.2.2.2.2.2.1) i_14).2.1, x.2.2.2.2.2.2.2.1, x.2.2.2.2.2.2.2.2.1, x.2.2.2.2.2.2.2.2.2.1, x.2.2.2.2.2.2.2.2.2.2.1, (g_X1_burn_x_11 x.1 (g_X1_dig_x_1 x.2.1 x.2.2.2.1 x.2.2.2.2.1 x.2.2.2.2.2.1) x.2.2.1 x.2.2.2.2.2.2.2.2.2.2.1 x.2.2.2.2.2.2.2.2.2.2.2.1), (lp_X1_runModel_14 x.2.2.2.2.2.2.2.1 x.2.2.2.2.2.2.2.2.1 ((g_X1_burn_x_2 x.1 (g_X1_dig_x_1 x.2.1 x.2.2.2.1 x.2.2.2.2.1 x.2.2.2.2.2.1) x.2.2.1 x.2.2.2.2.2.2.2.2.2.2.1 x.2.2.2.2.2.2.2.2.2.2.2.1), (g_X1_spread_x_6 (g_X1_burn_x_1 x.1 (g_X1_dig_x_1 x.2.1 x.2.2.2.1 x.2.2.2.2.1 x.2.2.2.2.2.1) x.2.2.1 x.2.2.2.2.2.2.2.2.2.2.1 x.2.2.2.2.2.2.2.2.2.2.2.1) x.2.2.2.2.2.2.2.1 x.2.2.2.2.2.2.2.2.1 x.2.2.2.2.2.2.2.2.2.1), x.2.2.2.2.2.2.2.2.2.2.2.2.1) i_14).2.2, x.2.2.2.2.2.2.2.2.2.2.2.2.2)) yd_X1_carry ml_X1_78 0 rfl rfl rfl rfl hl.1 rfl (Nat.le_of_ble_eq_true rfl) ⟨Nat.le_of_ble_eq_true rfl, Nat.le_of_ble_eq_true rfl⟩ ⟨(Nat.le_of_ble_eq_true rfl), (Nat.le_of_ble_eq_true rfl)⟩ dX1_runModel_23 (fun v u H locs hp hW => ?_)
      obtain ⟨rfl, rfl⟩ := hp
      have hW := hW.eq (w' := landW G h ad ((g_X1_burn_x_0 x.1 (g_X1_dig_x_1 x.2.1 x.2.2.2.1 x.2.2.2.2.1 x.2.2.2.2.2.1) x.2.2.1 x.2.2.2.2.2.2.2.2.2.2.1 x.2.2.2.2.2.2.2.2.2.2.2.1), (g_X1_spread_x_1 (g_X1_burn_x_0 x.1 (g_X1_dig_x_1 x.2.1 x.2.2.2.1 x.2.2.2.2.1 x.2.2.2.2.2.1) x.2.2.1 x.2.2.2.2.2.2.2.2.2.2.1 x.2.2.2.2.2.2.2.2.2.2.2.1) (g_X1_burn_x_1 x.1 (g_X1_dig_x_1 x.2.1 x.2.2.2.1 x.2.2.2.2.1 x.2.2.2.2.2.1) x.2.2.1 x.2.2.2.2.2.2.2.2.2.2.1 x.2.2.2.2.2.2.2.2.2.2.2.1) (g_X1_dig_x_3 x.2.1 x.2.2.2.1 x.2.2.2.2.1 x.2.2.2.2.2.1) x.2.2.2.2.2.2.2.1 x.2.2.2.2.2.2.2.2.1 x.2.2.2.2.2.2.2.2.2.1), (g_X1_carry_x_2 ((lp_X1_runModel_14 x.2.2.2.2.2.2.2.1 x.2.2.2.2.2.2.2.2.1 ((g_X1_burn_x_2 x.1 (g_X1_dig_x_1 x.2.1 x.2.2.2.1 x.2.2.2.2.1 x.2.2.2.2.2.1) x.2.2.1 x.2.2.2.2.2.2.2.2.2.2.1 x.2.2.2.2.2.2.2.2.2.2.2.1), (g_X1_spread_x_6 (g_X1_burn_x_1 x.1 (g_X1_dig_x_1 x.2.1 x.2.2.2.1 x.2.2.2.2.1 x.2.2.2.2.2.1) x.2.2.1 x.2.2.2.2.2.2.2.2.2.2.1 x.2.2.2.2.2.2.2.2.2.2.2.1) x.2.2.2.2.2.2.2.1 x.2.2.2.2.2.2.2.2.1 x.2.2.2.2.2.2.2.2.2.1), x.2.2.2.2.2.2.2.2.2.2.2.2.1) i_14).1) x.2.2.2.2.2.2.2.1 x.2.2.2.2.2.2.2.2.1 ((lp_X1_runModel_14 x.2.2.2.2.2.2.2.1 x.2.2.2.2.2.2.2.2.1 ((g_X1_burn_x_2 x.1 (g_X1_dig_x_1 x.2.1 x.2.2.2.1 x.2.2.2.2.1 x.2.2.2.2.2.1) x.2.2.1 x.2.2.2.2.2.2.2.2.2.2.1 x.2.2.2.2.2.2.2.2.2.2.2.1), (g_X1_spread_x_6 (g_X1_burn_x_1 x.1 (g_X1_dig_x_1 x.2.1 x.2.2.2.1 x.2.2.2.2.1 x.2.2.2.2.2.1) x.2.2.1 x.2.2.2.2.2.2.2.2.2.2.1 x.2.2.2.2.2.2.2.2.2.2.2.1) x.2.2.2.2.2.2.2.1 x.2.2.2.2.2.2.2.2.1 x.2.2.2.2.2.2.2.2.2.1), x.2.2.2.2.2.2.2.2.2.2.2.2.1) i_14).2.2)), (g_X1_dig_x_3 x.2.1 x.2.2.2.1 x.2.2.2.2.1 x.2.2.2.2.2.1), (g_X1_dig_x_4 x.2.1 x.2.2.2.1 x.2.2.2.2.1 x.2.2.2.2.2.1), x.2.2.2.2.2.1, (g_X1_carry_x_6 ((lp_X1_runModel_14 x.2.2.2.2.2.2.2.1 x.2.2.2.2.2.2.2.2.1 ((g_X1_burn_x_2 x.1 (g_X1_dig_x_1 x.2.1 x.2.2.2.1 x.2.2.2.2.1 x.2.2.2.2.2.1) x.2.2.1 x.2.2.2.2.2.2.2.2.2.2.1 x.2.2.2.2.2.2.2.2.2.2.2.1), (g_X1_spread_x_6 (g_X1_burn_x_1 x.1 (g_X1_dig_x_1 x.2.1 x.2.2.2.1 x.2.2.2.2.1 x.2.2.2.2.2.1) x.2.2.1 x.2.2.2.2.2.2.2.2.2.2.1 x.2.2.2.2.2.2.2.2.2.2.2.1) x.2.2.2.2.2.2.2.1 x.2.2.2.2.2.2.2.2.1 x.2.2.2.2.2.2.2.2.2.1), x.2.2.2.2.2.2.2.2.2.2.2.2.1) i_14).1) x.2.2.2.2.2.2.2.1 x.2.2.2.2.2.2.2.2.1 ((lp_X1_runModel_14 x.2.2.2.2.2.2.2.1 x.2.2.2.2.2.2.2.2.1 ((g_X1_burn_x_2 x.1 (g_X1_dig_x_1 x.2.1 x.2.2.2.1 x.2.2.2.2.1 x.2.2.2.2.2.1) x.2.2.1 x.2.2.2.2.2.2.2.2.2.2.1 x.2.2.2.2.2.2.2.2.2.2.2.1), (g_X1_spread_x_6 (g_X1_burn_x_1 x.1 (g_X1_dig_x_1 x.2.1 x.2.2.2.1 x.2.2.2.2.1 x.2.2.2.2.2.1) x.2.2.1 x.2.2.2.2.2.2.2.2.2.2.1 x.2.2.2.2.2.2.2.2.2.2.2.1) x.2.2.2.2.2.2.2.1 x.2.2.2.2.2.2.2.2.1 x.2.2.2.2.2.2.2.2.2.1), x.2.2.2.2.2.2.2.2.2.2.2.2.1) i_14).2.2)), x.2.2.2.2.2.2.2.1, x.2.2.2.2.2.2.2.2.1, x.2.2.2.2.2.2.2.2.2.1, x.2.2.2.2.2.2.2.2.2.2.1, (g_X1_burn_x_11 x.1 (g_X1_dig_x_1 x.2.1 x.2.2.2.1 x.2.2.2.2.1 x.2.2.2.2.2.1) x.2.2.1 x.2.2.2.2.2.2.2.2.2.2.1 x.2.2.2.2.2.2.2.2.2.2.2.1), (g_X1_carry_x_12 ((lp_X1_runModel_14 x.2.2.2.2.2.2.2.1 x.2.2.2.2.2.2.2.2.1 ((g_X1_burn_x_2 x.1 (g_X1_dig_x_1 x.2.1 x.2.2.2.1 x.2.2.2.2.1 x.2.2.2.2.2.1) x.2.2.1 x.2.2.2.2.2.2.2.2.2.2.1 x.2.2.2.2.2.2.2.2.2.2.2.1), (g_X1_spread_x_6 (g_X1_burn_x_1 x.1 (g_X1_dig_x_1 x.2.1 x.2.2.2.1 x.2.2.2.2.1 x.2.2.2.2.2.1) x.2.2.1 x.2.2.2.2.2.2.2.2.2.2.1 x.2.2.2.2.2.2.2.2.2.2.2.1) x.2.2.2.2.2.2.2.1 x.2.2.2.2.2.2.2.2.1 x.2.2.2.2.2.2.2.2.2.1), x.2.2.2.2.2.2.2.2.2.2.2.2.1) i_14).1) x.2.2.2.2.2.2.2.1 x.2.2.2.2.2.2.2.2.1 ((lp_X1_runModel_14 x.2.2.2.2.2.2.2.1 x.2.2.2.2.2.2.2.2.1 ((g_X1_burn_x_2 x.1 (g_X1_dig_x_1 x.2.1 x.2.2.2.1 x.2.2.2.2.1 x.2.2.2.2.2.1) x.2.2.1 x.2.2.2.2.2.2.2.2.2.2.1 x.2.2.2.2.2.2.2.2.2.2.2.1), (g_X1_spread_x_6 (g_X1_burn_x_1 x.1 (g_X1_dig_x_1 x.2.1 x.2.2.2.1 x.2.2.2.2.1 x.2.2.2.2.2.1) x.2.2.1 x.2.2.2.2.2.2.2.2.2.2.1 x.2.2.2.2.2.2.2.2.2.2.2.1) x.2.2.2.2.2.2.2.1 x.2.2.2.2.2.2.2.2.1 x.2.2.2.2.2.2.2.2.2.1), x.2.2.2.2.2.2.2.2.2.2.2.2.1) i_14).2.2)), x.2.2.2.2.2.2.2.2.2.2.2.2.2)) rfl
      refine lv_iinc (v := (nI (i_14 + 1))) hx hb dX1_runModel_26 hl (k := 1) rfl (nI_1 _) (by decide) rfl (fun ls hl => ?_)
      refine lv_goto (tgt := 14) hx hb dX1_runModel_29 (by decide) ?_
      exact ih _ _ _ (hW.eq (by rw [lp_X1_runModel_14_s] <;> rfl)) (lv_sub hl [1, 0] rfl)
  exact L_1 0 (Nat.zero_le _) _ _ _ (hW.eq (by rw [lp_X1_runModel_14_0] <;> rfl)) (lv_sub hl [1, 0] rfl)
def st_X1_copyFrom_47 (q_y_3 : Nat → Int32) (i_47 : Nat) (y : (Nat → Int32)) : (Nat → Int32) := (upd y i_47 (q_y_3 i_47))
def lp_X1_copyFrom_47 (q_y_3 : Nat → Int32) (y0 : (Nat → Int32)) : Nat → (Nat → Int32)
  | 0 => y0
  | n0 + 1 => st_X1_copyFrom_47 q_y_3 n0 (lp_X1_copyFrom_47 q_y_3 y0 n0)
termination_by n0 => n0
theorem lp_X1_copyFrom_47_0 (q_y_3 : Nat → Int32) (y0 : (Nat → Int32)) : lp_X1_copyFrom_47 q_y_3 y0 0 = y0 := by rw [lp_X1_copyFrom_47]
theorem lp_X1_copyFrom_47_s (q_y_3 : Nat → Int32) (y0 : (Nat → Int32)) (n0 : Nat) : lp_X1_copyFrom_47 q_y_3 y0 (n0 + 1) = st_X1_copyFrom_47 q_y_3 n0 (lp_X1_copyFrom_47 q_y_3 y0 n0) := by rw [lp_X1_copyFrom_47]
def g_X1_copyFrom_x_0 (x_0 : Nat → Int32) (y_0 : Nat → Int32) : Nat → Int32 := (va_cpy y_0 x_0 0 0 48)
def g_X1_copyFrom_x_1 (x_1 : Nat → Int32) (y_1 : Nat → Int32) : Nat → Int32 := (va_cpy y_1 x_1 0 0 48)
def g_X1_copyFrom_x_2 (x_2 : Nat → Int32) (y_2 : Nat → Int32) : Nat → Int32 := (va_cpy y_2 x_2 0 0 48)
def g_X1_copyFrom_x_3 (x_3 : Nat → Int32) (y_3 : Nat → Int32) : Nat → Int32 := (lp_X1_copyFrom_47 y_3 x_3 48)
def g_X1_copyFrom_x_4 (x_4 : Nat → Int32) (y_4 : Nat → Int32) : Nat → Int32 := (va_cpy y_4 x_4 0 0 3)
def g_X1_copyFrom_x_5 (x_5 : Nat → Int32) (y_5 : Nat → Int32) : Nat → Int32 := (va_cpy y_5 x_5 0 0 3)
def g_X1_copyFrom_x_7 (y_7 : Int32) : Int32 := y_7
def g_X1_copyFrom_x_8 (y_8 : Int32) : Int32 := y_8
def g_X1_copyFrom_x_9 (y_9 : Int32) : Int32 := y_9
def g_X1_copyFrom_x_10 (y_10 : Int32) : Int32 := y_10
def f_X1_copyFrom_x (x : zLand) (y : zLand) : zLand := (g_X1_copyFrom_x_0 x.1 y.1, g_X1_copyFrom_x_1 x.2.1 y.2.1, g_X1_copyFrom_x_2 x.2.2.1 y.2.2.1, g_X1_copyFrom_x_3 x.2.2.2.1 y.2.2.2.1, g_X1_copyFrom_x_4 x.2.2.2.2.1 y.2.2.2.2.1, g_X1_copyFrom_x_5 x.2.2.2.2.2.1 y.2.2.2.2.2.1, x.2.2.2.2.2.2.1, g_X1_copyFrom_x_7 y.2.2.2.2.2.2.2.1, g_X1_copyFrom_x_8 y.2.2.2.2.2.2.2.2.1, g_X1_copyFrom_x_9 y.2.2.2.2.2.2.2.2.2.1, g_X1_copyFrom_x_10 y.2.2.2.2.2.2.2.2.2.2.1, x.2.2.2.2.2.2.2.2.2.2.2.1, x.2.2.2.2.2.2.2.2.2.2.2.2.1, x.2.2.2.2.2.2.2.2.2.2.2.2.2)
abbrev po_X1_copyFrom (G : zG) (h : Nat) (ad : Nat → Nat) (x : zLand) (h2 : Nat) (ad2 : Nat → Nat) (y : zLand) : Option Value → va_W → Prop := fun r u => r = none ∧ u = landW G h ad (f_X1_copyFrom_x x y) ++ (landW G h2 ad2 y)
set_option maxHeartbeats 4000000 in
set_option maxRecDepth 100000 in
theorem c_X1_copyFrom (l : Launch) (G : zG) (h : Nat) (ad : Nat → Nat) (x : zLand) (h2 : Nat) (ad2 : Nat → Nat) (y : zLand) (hlb : ∀ k, k < 48 → vp_nar .boolean (y.2.2.2.1 k) = y.2.2.2.1 k) : zC l yX1_copyFrom cX1_copyFrom 3 none 1 0 0 G [.ref h, .ref h2] (landW G h ad x ++ (landW G h2 ad2 y)) (po_X1_copyFrom G h ad x h2 ad2 y) := by
  refine zC.of RX1 rfl (by decide) (Nat.le_of_ble_eq_true rfl) ?_
  intro p e s m args below meth c A ls B hr hlk hnm hW hl
  have hx := B.x
  have hb := B.b
  have hl : lv_has ls 3 [(0, .ref h), (1, .ref h2)] := hl
  refine lv_aload_n hx hb dX1_copyFrom_0 rfl (lv_at hl 1 rfl) ?_
  refine zget B hW 8 rfl lf_X1_9 rfl dX1_copyFrom_1 ?_
  refine lv_iconst (v := (0 : Int32)) hx hb dX1_copyFrom_4 (by decide) ?_
  refine lv_aload_n hx hb dX1_copyFrom_5 rfl (lv_at hl 0 rfl) ?_
  refine zget B hW 0 rfl lf_X1_9 rfl dX1_copyFrom_6 ?_
  refine lv_iconst (v := (0 : Int32)) hx hb dX1_copyFrom_9 (by decide) ?_
  refine lv_bipush (v := (48 : Int32)) hx hb dX1_copyFrom_10 (by decide) ?_
  refine zcopy B hW hl.1 ml_X1_63 9 1 rfl rfl 0 0 48 (by decide) (by decide) (by decide) (by decide) (by decide) (by decide) (Nat.le_of_ble_eq_true rfl) (Nat.le_of_ble_eq_true rfl) dX1_copyFrom_12 (fun H locs hW => ?_)
  refine lv_aload_n hx hb dX1_copyFrom_15 rfl (lv_at hl 1 rfl) ?_
  refine zget B hW 8 rfl lf_X1_15 rfl dX1_copyFrom_16 ?_
  refine lv_iconst (v := (0 : Int32)) hx hb dX1_copyFrom_19 (by decide) ?_
  refine lv_aload_n hx hb dX1_copyFrom_20 rfl (lv_at hl 0 rfl) ?_
  refine zget B hW 0 rfl lf_X1_15 rfl dX1_copyFrom_21 ?_
  refine lv_iconst (v := (0 : Int32)) hx hb dX1_copyFrom_24 (by decide) ?_
  refine lv_bipush (v := (48 : Int32)) hx hb dX1_copyFrom_25 (by decide) ?_
  refine zcopy B hW hl.1 ml_X1_63 10 2 rfl rfl 0 0 48 (by decide) (by decide) (by decide) (by decide) (by decide) (by decide) (Nat.le_of_ble_eq_true rfl) (Nat.le_of_ble_eq_true rfl) dX1_copyFrom_27 (fun H locs hW => ?_)
  refine lv_aload_n hx hb dX1_copyFrom_30 rfl (lv_at hl 1 rfl) ?_
  refine zget B hW 8 rfl lf_X1_18 rfl dX1_copyFrom_31 ?_
  refine lv_iconst (v := (0 : Int32)) hx hb dX1_copyFrom_34 (by decide) ?_
  refine lv_aload_n hx hb dX1_copyFrom_35 rfl (lv_at hl 0 rfl) ?_
  refine zget B hW 0 rfl lf_X1_18 rfl dX1_copyFrom_36 ?_
  refine lv_iconst (v := (0 : Int32)) hx hb dX1_copyFrom_39 (by decide) ?_
  refine lv_bipush (v := (48 : Int32)) hx hb dX1_copyFrom_40 (by decide) ?_
  refine zcopy B hW hl.1 ml_X1_63 11 3 rfl rfl 0 0 48 (by decide) (by decide) (by decide) (by decide) (by decide) (by decide) (Nat.le_of_ble_eq_true rfl) (Nat.le_of_ble_eq_true rfl) dX1_copyFrom_42 (fun H locs hW => ?_)
  refine lv_iconst (v := (0 : Int32)) hx hb dX1_copyFrom_45 (by decide) ?_
  refine lv_istore_n hx hb dX1_copyFrom_46 rfl hl (by decide) rfl (fun ls hl => ?_)
  have L_1 : ∀ i_47 : Nat, i_47 ≤ 48 → ∀ (H : Heap) (locs : List Loc) (ls : Array Slot), zW G A s.heap H locs (landW G h ad ((va_cpy y.1 x.1 0 0 48), (va_cpy y.2.1 x.2.1 0 0 48), (va_cpy y.2.2.1 x.2.2.1 0 0 48), (lp_X1_copyFrom_47 y.2.2.2.1 x.2.2.2.1 i_47), x.2.2.2.2.1, x.2.2.2.2.2.1, x.2.2.2.2.2.2.1, x.2.2.2.2.2.2.2.1, x.2.2.2.2.2.2.2.2.1, x.2.2.2.2.2.2.2.2.2.1, x.2.2.2.2.2.2.2.2.2.2.1, x.2.2.2.2.2.2.2.2.2.2.2.1, x.2.2.2.2.2.2.2.2.2.2.2.2.1, x.2.2.2.2.2.2.2.2.2.2.2.2.2) ++ (landW G h2 ad2 y)) → lv_has ls 3 [(0, .ref h), (1, .ref h2), (2, .int (nI i_47))] → W p l e (zRm 1 0 0) s m args below meth c H locs 0 0 (MQ below (zQ G A (po_X1_copyFrom G h ad x h2 ad2 y)) args s 0 0 A) (F0 m 47 ls []) := by
    refine zloop 48 ?_ ?_
    · intro H locs ls hW hl
      have hl : lv_has ls 3 [(0, .ref h), (1, .ref h2), (2, .int (48 : Int32))] := hl
      refine lv_iload_n hx hb dX1_copyFrom_47 rfl (lv_at hl 2 rfl) ?_
      refine lv_bipush (v := (48 : Int32)) hx hb dX1_copyFrom_48 (by decide) ?_
      refine lv_icmp_ge (tgt := 71) hx hb dX1_copyFrom_50 (by decide) (fun c_50 => ?_) (fun c_50 => absurd (zge (by decide)) c_50)
      refine lv_aload_n hx hb dX1_copyFrom_71 rfl (lv_at hl 1 rfl) ?_
      refine zget B hW 8 rfl lf_X1_25 rfl dX1_copyFrom_72 ?_
      refine lv_iconst (v := (0 : Int32)) hx hb dX1_copyFrom_75 (by decide) ?_
      refine lv_aload_n hx hb dX1_copyFrom_76 rfl (lv_at hl 0 rfl) ?_
      refine zget B hW 0 rfl lf_X1_25 rfl dX1_copyFrom_77 ?_
      refine lv_iconst (v := (0 : Int32)) hx hb dX1_copyFrom_80 (by decide) ?_
      refine lv_iconst (v := (3 : Int32)) hx hb dX1_copyFrom_81 (by decide) ?_
      refine zcopy B hW hl.1 ml_X1_63 13 5 rfl rfl 0 0 3 (by decide) (by decide) (by decide) (by decide) (by decide) (by decide) (Nat.le_of_ble_eq_true rfl) (Nat.le_of_ble_eq_true rfl) dX1_copyFrom_82 (fun H locs hW => ?_)
      refine lv_aload_n hx hb dX1_copyFrom_85 rfl (lv_at hl 1 rfl) ?_
      refine zget B hW 8 rfl lf_X1_28 rfl dX1_copyFrom_86 ?_
      refine lv_iconst (v := (0 : Int32)) hx hb dX1_copyFrom_89 (by decide) ?_
      refine lv_aload_n hx hb dX1_copyFrom_90 rfl (lv_at hl 0 rfl) ?_
      refine zget B hW 0 rfl lf_X1_28 rfl dX1_copyFrom_91 ?_
      refine lv_iconst (v := (0 : Int32)) hx hb dX1_copyFrom_94 (by decide) ?_
      refine lv_iconst (v := (3 : Int32)) hx hb dX1_copyFrom_95 (by decide) ?_
      refine zcopy B hW hl.1 ml_X1_63 14 6 rfl rfl 0 0 3 (by decide) (by decide) (by decide) (by decide) (by decide) (by decide) (Nat.le_of_ble_eq_true rfl) (Nat.le_of_ble_eq_true rfl) dX1_copyFrom_96 (fun H locs hW => ?_)
      refine lv_aload_n hx hb dX1_copyFrom_99 rfl (lv_at hl 0 rfl) ?_
      refine lv_aload_n hx hb dX1_copyFrom_100 rfl (lv_at hl 1 rfl) ?_
      refine zget B hW 8 rfl lf_X1_34 rfl dX1_copyFrom_101 ?_
      refine zput B hW 0 rfl lf_X1_34 ft_X1_7 rfl rfl (Nat.le_of_ble_eq_true rfl) dX1_copyFrom_104 (fun H locs hW => ?_)
      refine lv_aload_n hx hb dX1_copyFrom_107 rfl (lv_at hl 0 rfl) ?_
      refine lv_aload_n hx hb dX1_copyFrom_108 rfl (lv_at hl 1 rfl) ?_
      refine zget B hW 8 rfl lf_X1_38 rfl dX1_copyFrom_109 ?_
      refine zput B hW 0 rfl lf_X1_38 ft_X1_8 rfl rfl (Nat.le_of_ble_eq_true rfl) dX1_copyFrom_112 (fun H locs hW => ?_)
      refine lv_aload_n hx hb dX1_copyFrom_115 rfl (lv_at hl 0 rfl) ?_
      refine lv_aload_n hx hb dX1_copyFrom_116 rfl (lv_at hl 1 rfl) ?_
      refine zget B hW 8 rfl lf_X1_41 rfl dX1_copyFrom_117 ?_
      refine zput B hW 0 rfl lf_X1_41 ft_X1_9 rfl rfl (Nat.le_of_ble_eq_true rfl) dX1_copyFrom_120 (fun H locs hW => ?_)
      refine lv_aload_n hx hb dX1_copyFrom_123 rfl (lv_at hl 0 rfl) ?_
      refine lv_aload_n hx hb dX1_copyFrom_124 rfl (lv_at hl 1 rfl) ?_
      refine zget B hW 8 rfl lf_X1_44 rfl dX1_copyFrom_125 ?_
      refine zput B hW 0 rfl lf_X1_44 ft_X1_10 rfl rfl (Nat.le_of_ble_eq_true rfl) dX1_copyFrom_128 (fun H locs hW => ?_)
      exact zvret B hr hlk hW ⟨rfl, rfl⟩ (Nat.le_refl _) (Nat.le_refl _) dX1_copyFrom_131
    · intro i_47 hi_47 ih H locs ls hW hl
      refine lv_iload_n hx hb dX1_copyFrom_47 rfl (lv_at hl 2 rfl) ?_
      refine lv_bipush (v := (48 : Int32)) hx hb dX1_copyFrom_48 (by decide) ?_
      refine lv_icmp_ge (tgt := 71) hx hb dX1_copyFrom_50 (by decide) (fun c_50 => absurd c_50 (znle (by decide) hi_47 (by decide))) (fun c_50 => ?_)
      refine lv_aload_n hx hb dX1_copyFrom_53 rfl (lv_at hl 0 rfl) ?_
      refine zget B hW 0 rfl lf_X1_21 rfl dX1_copyFrom_54 ?_
      refine lv_iload_n hx hb dX1_copyFrom_57 rfl (lv_at hl 2 rfl) ?_
      refine lv_aload_n hx hb dX1_copyFrom_58 rfl (lv_at hl 1 rfl) ?_
      refine zget B hW 8 rfl lf_X1_21 rfl dX1_copyFrom_59 ?_
      refine lv_iload_n hx hb dX1_copyFrom_62 rfl (lv_at hl 2 rfl) ?_
      refine zzaldN B hW 12 rfl i_47 rfl (by omega) (by decide) dX1_copyFrom_63 ?_
      refine zzastN B hW 4 rfl i_47 (hlb _ hi_47) rfl (by omega) (by decide) dX1_copyFrom_64 (fun H locs hW => ?_)
      refine lv_iinc (v := (nI (i_47 + 1))) hx hb dX1_copyFrom_65 hl (k := 2) rfl (nI_1 _) (by decide) rfl (fun ls hl => ?_)
      refine lv_goto (tgt := 47) hx hb dX1_copyFrom_68 (by decide) ?_
      exact ih _ _ _ (hW.eq (by rw [lp_X1_copyFrom_47_s] <;> rfl)) (lv_sub hl [1, 2, 0] rfl)
  exact L_1 0 (Nat.zero_le _) _ _ _ (hW.eq (by rw [lp_X1_copyFrom_47_0] <;> rfl)) (lv_sub hl [1, 2, 0] rfl)
