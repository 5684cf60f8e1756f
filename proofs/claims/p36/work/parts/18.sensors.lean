abbrev zSens : Type := (Nat → Int32) × (Nat → Int32) × (Nat → Int32) × (Nat → Int32) × (Nat → Int32) × (Nat → Int32) × (Nat → Int32) × (Nat → Int32) × Int32 × Int64
def sensW (G : zG) (h : Nat) (ad : Nat → Nat) (x : zSens) : va_W := [(h, .inr (8, [.ref (ad 0), .ref (ad 1), .ref (ad 2), .ref (ad 3), .ref (ad 4), .ref (ad 5), .ref (ad 6), .ref (ad 7), .int x.2.2.2.2.2.2.2.2.1, .long x.2.2.2.2.2.2.2.2.2])), (ad 0, .inl (G.2.1 0, 10, .inl x.1)), (ad 1, .inl (G.2.1 0, 10, .inl x.2.1)), (ad 2, .inl (G.2.1 1, 10, .inl x.2.2.1)), (ad 3, .inl (G.2.1 0, 10, .inl x.2.2.2.1)), (ad 4, .inl (G.2.1 1, 10, .inl x.2.2.2.2.1)), (ad 5, .inl (G.2.1 0, 10, .inl x.2.2.2.2.2.1)), (ad 6, .inl (G.2.1 0, 10, .inl x.2.2.2.2.2.2.1)), (ad 7, .inl (G.2.1 0, 10, .inl x.2.2.2.2.2.2.2.1))]
def g_X4_enter_se_0 (se_0 : Nat → Int32) (se_8 : Int32) : Nat → Int32 := (upd se_0 se_8.toNatClampNeg (50 : Int32))
def g_X4_enter_se_1 (se_1 : Nat → Int32) (se_8 : Int32) (a : Int32) : Nat → Int32 := (upd se_1 se_8.toNatClampNeg a)
def g_X4_enter_se_8 (se_8 : Int32) : Int32 := (se_8 + (1 : Int32))
def f_X4_enter_se (se : zSens) (a : Int32) (n : Nat) : zSens := (g_X4_enter_se_0 se.1 se.2.2.2.2.2.2.2.2.1, g_X4_enter_se_1 se.2.1 se.2.2.2.2.2.2.2.2.1 a, se.2.2.1, se.2.2.2.1, se.2.2.2.2.1, se.2.2.2.2.2.1, se.2.2.2.2.2.2.1, se.2.2.2.2.2.2.2.1, g_X4_enter_se_8 se.2.2.2.2.2.2.2.2.1, se.2.2.2.2.2.2.2.2.2)
def r_X4_enter (se_8 : Int32) : Int32 := se_8
abbrev po_X4_enter (G : zG) (h : Nat) (ad : Nat → Nat) (se : zSens) (a : Int32) (n : Nat) : Option Value → va_W → Prop := fun r u => r = some (.int (r_X4_enter se.2.2.2.2.2.2.2.2.1)) ∧ u = sensW G h ad (f_X4_enter_se se a n)
set_option maxHeartbeats 4000000 in
set_option maxRecDepth 100000 in
theorem c_X4_enter (l : Launch) (G : zG) (h : Nat) (ad : Nat → Nat) (se : zSens) (a : Int32) (n : Nat) (hc : se.2.2.2.2.2.2.2.2.1 = nI n) (hn : n < 10) : zC l yX4_enter cX4_enter 3 (some .int) 0 0 0 G [.ref h, .int a] (sensW G h ad se) (po_X4_enter G h ad se a n) := by
  refine zC.of RX4 rfl (by decide) (Nat.le_of_ble_eq_true rfl) ?_
  intro p e s m args below meth c A ls B hr hlk hnm hW hl
  have hx := B.x
  have hb := B.b
  have hl : lv_has ls 3 [(0, .ref h), (1, .int a)] := hl
  refine lv_aload_n hx hb dX4_enter_0 rfl (lv_at hl 0 rfl) ?_
  refine zget B hW 0 rfl lf_X4_37 rfl dX4_enter_1 ?_
  refine lv_istore_n hx hb dX4_enter_4 rfl hl (by decide) rfl (fun ls hl => ?_)
  refine lv_aload_n hx hb dX4_enter_5 rfl (lv_at hl 1 rfl) ?_
  refine zget B hW 0 rfl lf_X4_15 rfl dX4_enter_6 ?_
  refine lv_iload_n hx hb dX4_enter_9 rfl (lv_at hl 0 rfl) ?_
  refine lv_iload_n hx hb dX4_enter_10 rfl (lv_at hl 2 rfl) ?_
  refine ziast B hW 2 rfl (by rw [hc]; exact vp_in_nI hn (by decide)) dX4_enter_11 (fun H locs hW => ?_)
  refine lv_aload_n hx hb dX4_enter_12 rfl (lv_at hl 1 rfl) ?_
  refine zget B hW 0 rfl lf_X4_9 rfl dX4_enter_13 ?_
  refine lv_iload_n hx hb dX4_enter_16 rfl (lv_at hl 0 rfl) ?_
  refine lv_bipush (v := (50 : Int32)) hx hb dX4_enter_17 (by decide) ?_
  refine ziast B hW 1 rfl (by rw [hc]; exact vp_in_nI hn (by decide)) dX4_enter_19 (fun H locs hW => ?_)
  refine lv_aload_n hx hb dX4_enter_20 rfl (lv_at hl 1 rfl) ?_
  refine lv_dup hx hb dX4_enter_21 rfl ?_
  refine zget B hW 0 rfl lf_X4_37 rfl dX4_enter_22 ?_
  refine lv_iconst (v := (1 : Int32)) hx hb dX4_enter_25 (by decide) ?_
  refine lv_iadd hx hb dX4_enter_26 ?_
  refine zput B hW 0 rfl lf_X4_37 ft_X4_8 rfl rfl (Nat.le_of_ble_eq_true rfl) dX4_enter_27 (fun H locs hW => ?_)
  refine lv_iload_n hx hb dX4_enter_30 rfl (lv_at hl 0 rfl) ?_
  exact ziret B hr hlk hW ⟨rfl, rfl⟩ (Nat.le_refl _) (Nat.le_refl _) dX4_enter_31
def st_X4_take_19 (q_se_2 : Nat → Int32) (i_19 : Nat) (y : Int32) : Int32 := (if (q_se_2 i_19) = (0 : Int32) then y else (y + (1 : Int32)))
def lp_X4_take_19 (q_se_2 : Nat → Int32) (y0 : Int32) : Nat → Int32
  | 0 => y0
  | n0 + 1 => st_X4_take_19 q_se_2 n0 (lp_X4_take_19 q_se_2 y0 n0)
termination_by n0 => n0
theorem lp_X4_take_19_0 (q_se_2 : Nat → Int32) (y0 : Int32) : lp_X4_take_19 q_se_2 y0 0 = y0 := by rw [lp_X4_take_19]
theorem lp_X4_take_19_s (q_se_2 : Nat → Int32) (y0 : Int32) (n0 : Nat) : lp_X4_take_19 q_se_2 y0 (n0 + 1) = st_X4_take_19 q_se_2 n0 (lp_X4_take_19 q_se_2 y0 n0) := by rw [lp_X4_take_19]
def g_X4_take_se_2 (se_2 : Nat → Int32) (a : Int32) : Nat → Int32 := (upd se_2 a.toNatClampNeg (1 : Int32))
def g_X4_take_se_3 (se_3 : Nat → Int32) (a : Int32) (b : Int32) : Nat → Int32 := (upd se_3 a.toNatClampNeg b)
def f_X4_take_se (se : zSens) (a : Int32) (b : Int32) (n : Nat) : zSens := (se.1, se.2.1, g_X4_take_se_2 se.2.2.1 a, g_X4_take_se_3 se.2.2.2.1 a b, se.2.2.2.2.1, se.2.2.2.2.2.1, se.2.2.2.2.2.2.1, se.2.2.2.2.2.2.2.1, se.2.2.2.2.2.2.2.2.1, se.2.2.2.2.2.2.2.2.2)
def r_X4_take (se_2 : Nat → Int32) (a : Int32) (n : Nat) : Int32 := (lp_X4_take_19 (upd se_2 a.toNatClampNeg (1 : Int32)) (0 : Int32) n)
abbrev po_X4_take (G : zG) (h : Nat) (ad : Nat → Nat) (se : zSens) (a : Int32) (b : Int32) (n : Nat) : Option Value → va_W → Prop := fun r u => r = some (.int (r_X4_take se.2.2.1 a n)) ∧ u = sensW G h ad (f_X4_take_se se a b n)
set_option maxHeartbeats 4000000 in
set_option maxRecDepth 100000 in
theorem c_X4_take (l : Launch) (G : zG) (h : Nat) (ad : Nat → Nat) (se : zSens) (a : Int32) (b : Int32) (n : Nat) (hc : se.2.2.2.2.2.2.2.2.1 = nI n) (hn : n ≤ 10) (ha : vp_in a 10) : zC l yX4_take cX4_take 5 (some .int) 0 0 0 G [.ref h, .int a, .int b] (sensW G h ad se) (po_X4_take G h ad se a b n) := by
  refine zC.of RX4 rfl (by decide) (Nat.le_of_ble_eq_true rfl) ?_
  intro p e s m args below meth c A ls B hr hlk hnm hW hl
  have hx := B.x
  have hb := B.b
  have hl : lv_has ls 5 [(0, .ref h), (1, .int a), (2, .int b)] := hl
  refine lv_aload_n hx hb dX4_take_0 rfl (lv_at hl 0 rfl) ?_
  refine zget B hW 0 rfl lf_X4_18 rfl dX4_take_1 ?_
  refine lv_iload_n hx hb dX4_take_4 rfl (lv_at hl 1 rfl) ?_
  refine lv_iconst (v := (1 : Int32)) hx hb dX4_take_5 (by decide) ?_
  refine zzast B hW 3 rfl (by first | decide | ((repeat' split) <;> rfl)) (ha) dX4_take_6 (fun H locs hW => ?_)
  refine lv_aload_n hx hb dX4_take_7 rfl (lv_at hl 0 rfl) ?_
  refine zget B hW 0 rfl lf_X4_22 rfl dX4_take_8 ?_
  refine lv_iload_n hx hb dX4_take_11 rfl (lv_at hl 1 rfl) ?_
  refine lv_iload_n hx hb dX4_take_12 rfl (lv_at hl 2 rfl) ?_
  refine ziast B hW 4 rfl (ha) dX4_take_13 (fun H locs hW => ?_)
  refine lv_iconst (v := (0 : Int32)) hx hb dX4_take_14 (by decide) ?_
  refine lv_istore_n hx hb dX4_take_15 rfl hl (by decide) rfl (fun ls hl => ?_)
  refine lv_iconst (v := (0 : Int32)) hx hb dX4_take_16 (by decide) ?_
  refine lv_istore hx hb dX4_take_17 hl (by decide) rfl (fun ls hl => ?_)
  have L_1 : ∀ i_19 : Nat, i_19 ≤ n → ∀ (H : Heap) (locs : List Loc) (ls : Array Slot), zW G A s.heap H locs (sensW G h ad (se.1, se.2.1, (upd se.2.2.1 a.toNatClampNeg (1 : Int32)), (upd se.2.2.2.1 a.toNatClampNeg b), se.2.2.2.2.1, se.2.2.2.2.2.1, se.2.2.2.2.2.2.1, se.2.2.2.2.2.2.2.1, se.2.2.2.2.2.2.2.2.1, se.2.2.2.2.2.2.2.2.2)) → lv_has ls 5 [(0, .ref h), (3, .int (lp_X4_take_19 (upd se.2.2.1 a.toNatClampNeg (1 : Int32)) (0 : Int32) i_19)), (4, .int (nI i_19))] → W p l e (zRm 0 0 0) s m args below meth c H locs 0 0 (MQ below (zQ G A (po_X4_take G h ad se a b n)) args s 0 0 A) (F0 m 19 ls []) := by
    refine zloop n ?_ ?_
    · intro H locs ls hW hl
      refine lv_iload hx hb dX4_take_19 (lv_at hl 2 rfl) ?_
      refine lv_aload_n hx hb dX4_take_21 rfl (lv_at hl 0 rfl) ?_
      refine zget B hW 0 rfl lf_X4_37 rfl dX4_take_22 ?_
      refine lv_icmp_ge (tgt := 47) hx hb dX4_take_25 (by decide) (fun c_25 => ?_) (fun c_25 => absurd (zge (hc)) c_25)
      refine lv_iload_n hx hb dX4_take_47 rfl (lv_at hl 1 rfl) ?_
      exact ziret B hr hlk hW ⟨rfl, rfl⟩ (Nat.le_refl _) (Nat.le_refl _) dX4_take_48
    · intro i_19 hi_19 ih H locs ls hW hl
      refine lv_iload hx hb dX4_take_19 (lv_at hl 2 rfl) ?_
      refine lv_aload_n hx hb dX4_take_21 rfl (lv_at hl 0 rfl) ?_
      refine zget B hW 0 rfl lf_X4_37 rfl dX4_take_22 ?_
      refine lv_icmp_ge (tgt := 47) hx hb dX4_take_25 (by decide) (fun c_25 => absurd c_25 (znle (hc) hi_19 (by omega))) (fun c_25 => ?_)
      refine lv_aload_n hx hb dX4_take_28 rfl (lv_at hl 0 rfl) ?_
      refine zget B hW 0 rfl lf_X4_18 rfl dX4_take_29 ?_
      refine lv_iload hx hb dX4_take_32 (lv_at hl 2 rfl) ?_
      refine zzaldN B hW 3 rfl i_19 rfl (by omega) (by decide) dX4_take_34 ?_
      have J_2 : ∀ (H : Heap) (locs : List Loc) (ls : Array Slot), zW G A s.heap H locs (sensW G h ad (se.1, se.2.1, (upd se.2.2.1 a.toNatClampNeg (1 : Int32)), (upd se.2.2.2.1 a.toNatClampNeg b), se.2.2.2.2.1, se.2.2.2.2.2.1, se.2.2.2.2.2.2.1, se.2.2.2.2.2.2.2.1, se.2.2.2.2.2.2.2.2.1, se.2.2.2.2.2.2.2.2.2)) → lv_has ls 5 [(0, .ref h), (3, .int (if ((upd se.2.2.1 a.toNatClampNeg (1 : Int32)) i_19) = (0 : Int32) then (lp_X4_take_19 (upd se.2.2.1 a.toNatClampNeg (1 : Int32)) (0 : Int32) i_19) else ((lp_X4_take_19 (upd se.2.2.1 a.toNatClampNeg (1 : Int32)) (0 : Int32) i_19) + (1 : Int32)))), (4, .int (nI i_19))] → W p l e (zRm 0 0 0) s m args below meth c H locs 0 0 (MQ below (zQ G A (po_X4_take G h ad se a b n)) args s 0 0 A) (F0 m 41 ls []) := by
        intro H locs ls hW hl
        refine lv_iinc (v := (nI (i_19 + 1))) hx hb dX4_take_41 hl (k := 2) rfl (nI_1 _) (by decide) rfl (fun ls hl => ?_)
        refine lv_goto (tgt := 19) hx hb dX4_take_44 (by decide) ?_
        exact ih _ _ _ (hW.eq rfl) (by rw [lp_X4_take_19_s]; exact lv_sub hl [1, 2, 0] rfl)
      refine lv_if_eq (tgt := 41) hx hb dX4_take_35 (by decide) (fun c_35 => ?_) (fun c_35 => ?_)
      · have e_0 : (if ((upd se.2.2.1 a.toNatClampNeg (1 : Int32)) i_19) = (0 : Int32) then (lp_X4_take_19 (upd se.2.2.1 a.toNatClampNeg (1 : Int32)) (0 : Int32) i_19) else ((lp_X4_take_19 (upd se.2.2.1 a.toNatClampNeg (1 : Int32)) (0 : Int32) i_19) + (1 : Int32))) = (lp_X4_take_19 (upd se.2.2.1 a.toNatClampNeg (1 : Int32)) (0 : Int32) i_19) := if_pos c_35
        exact J_2 _ _ _ (hW.eq (by (try rw [e_0]) <;> rfl)) (by (try rw [e_0]) <;> exact lv_sub hl [0, 1, 2] rfl)
      · refine lv_iinc (v := ((lp_X4_take_19 (upd se.2.2.1 a.toNatClampNeg (1 : Int32)) (0 : Int32) i_19) + (1 : Int32))) hx hb dX4_take_38 hl (k := 1) rfl (rfl) (by decide) rfl (fun ls hl => ?_)
        have e_0 : (if ((upd se.2.2.1 a.toNatClampNeg (1 : Int32)) i_19) = (0 : Int32) then (lp_X4_take_19 (upd se.2.2.1 a.toNatClampNeg (1 : Int32)) (0 : Int32) i_19) else ((lp_X4_take_19 (upd se.2.2.1 a.toNatClampNeg (1 : Int32)) (0 : Int32) i_19) + (1 : Int32))) = ((lp_X4_take_19 (upd se.2.2.1 a.toNatClampNeg (1 : Int32)) (0 : Int32) i_19) + (1 : Int32)) := if_neg c_35
        exact J_2 _ _ _ (hW.eq (by (try rw [e_0]) <;> rfl)) (by (try rw [e_0]) <;> exact lv_sub hl [1, 0, 2] rfl)
  exact L_1 0 (Nat.zero_le _) _ _ _ (hW.eq rfl) (by rw [lp_X4_take_19_0]; exact lv_sub hl [2, 1, 0] rfl)
def st_X4_forgetReadings_2 (i_2 : Nat) (y : (Nat → Int32)) : (Nat → Int32) := (upd y i_2 (0 : Int32))
def lp_X4_forgetReadings_2 (y0 : (Nat → Int32)) : Nat → (Nat → Int32)
  | 0 => y0
  | n0 + 1 => st_X4_forgetReadings_2 n0 (lp_X4_forgetReadings_2 y0 n0)
termination_by n0 => n0
theorem lp_X4_forgetReadings_2_0 (y0 : (Nat → Int32)) : lp_X4_forgetReadings_2 y0 0 = y0 := by rw [lp_X4_forgetReadings_2]
theorem lp_X4_forgetReadings_2_s (y0 : (Nat → Int32)) (n0 : Nat) : lp_X4_forgetReadings_2 y0 (n0 + 1) = st_X4_forgetReadings_2 n0 (lp_X4_forgetReadings_2 y0 n0) := by rw [lp_X4_forgetReadings_2]
def g_X4_forgetReadings_se_2 (se_2 : Nat → Int32) (n : Nat) : Nat → Int32 := (lp_X4_forgetReadings_2 se_2 n)
def f_X4_forgetReadings_se (se : zSens) (n : Nat) : zSens := (se.1, se.2.1, g_X4_forgetReadings_se_2 se.2.2.1 n, se.2.2.2.1, se.2.2.2.2.1, se.2.2.2.2.2.1, se.2.2.2.2.2.2.1, se.2.2.2.2.2.2.2.1, se.2.2.2.2.2.2.2.2.1, se.2.2.2.2.2.2.2.2.2)
abbrev po_X4_forgetReadings (G : zG) (h : Nat) (ad : Nat → Nat) (se : zSens) (n : Nat) : Option Value → va_W → Prop := fun r u => r = none ∧ u = sensW G h ad (f_X4_forgetReadings_se se n)
set_option maxHeartbeats 4000000 in
set_option maxRecDepth 100000 in
theorem c_X4_forgetReadings (l : Launch) (G : zG) (h : Nat) (ad : Nat → Nat) (se : zSens) (n : Nat) (hc : se.2.2.2.2.2.2.2.2.1 = nI n) (hn : n ≤ 10) : zC l yX4_forgetReadings cX4_forgetReadings 2 none 0 0 0 G [.ref h] (sensW G h ad se) (po_X4_forgetReadings G h ad se n) := by
  refine zC.of RX4 rfl (by decide) (Nat.le_of_ble_eq_true rfl) ?_
  intro p e s m args below meth c A ls B hr hlk hnm hW hl
  have hx := B.x
  have hb := B.b
  have hl : lv_has ls 2 [(0, .ref h)] := hl
  refine lv_iconst (v := (0 : Int32)) hx hb dX4_forgetReadings_0 (by decide) ?_
  refine lv_istore_n hx hb dX4_forgetReadings_1 rfl hl (by decide) rfl (fun ls hl => ?_)
  have L_1 : ∀ i_2 : Nat, i_2 ≤ n → ∀ (H : Heap) (locs : List Loc) (ls : Array Slot), zW G A s.heap H locs (sensW G h ad (se.1, se.2.1, (lp_X4_forgetReadings_2 se.2.2.1 i_2), se.2.2.2.1, se.2.2.2.2.1, se.2.2.2.2.2.1, se.2.2.2.2.2.2.1, se.2.2.2.2.2.2.2.1, se.2.2.2.2.2.2.2.2.1, se.2.2.2.2.2.2.2.2.2)) → lv_has ls 2 [(0, .ref h), (1, .int (nI i_2))] → W p l e (zRm 0 0 0) s m args below meth c H locs 0 0 (MQ below (zQ G A (po_X4_forgetReadings G h ad se n)) args s 0 0 A) (F0 m 2 ls []) := by
    refine zloop n ?_ ?_
    · intro H locs ls hW hl
      refine lv_iload_n hx hb dX4_forgetReadings_2 rfl (lv_at hl 1 rfl) ?_
      refine lv_aload_n hx hb dX4_forgetReadings_3 rfl (lv_at hl 0 rfl) ?_
      refine zget B hW 0 rfl lf_X4_37 rfl dX4_forgetReadings_4 ?_
      refine lv_icmp_ge (tgt := 23) hx hb dX4_forgetReadings_7 (by decide) (fun c_7 => ?_) (fun c_7 => absurd (zge (hc)) c_7)
      exact zvret B hr hlk hW ⟨rfl, rfl⟩ (Nat.le_refl _) (Nat.le_refl _) dX4_forgetReadings_23
    · intro i_2 hi_2 ih H locs ls hW hl
      refine lv_iload_n hx hb dX4_forgetReadings_2 rfl (lv_at hl 1 rfl) ?_
      refine lv_aload_n hx hb dX4_forgetReadings_3 rfl (lv_at hl 0 rfl) ?_
      refine zget B hW 0 rfl lf_X4_37 rfl dX4_forgetReadings_4 ?_
      refine lv_icmp_ge (tgt := 23) hx hb dX4_forgetReadings_7 (by decide) (fun c_7 => absurd c_7 (znle (hc) hi_2 (by omega))) (fun c_7 => ?_)
      refine lv_aload_n hx hb dX4_forgetReadings_10 rfl (lv_at hl 0 rfl) ?_
      refine zget B hW 0 rfl lf_X4_18 rfl dX4_forgetReadings_11 ?_
      refine lv_iload_n hx hb dX4_forgetReadings_14 rfl (lv_at hl 1 rfl) ?_
      refine lv_iconst (v := (0 : Int32)) hx hb dX4_forgetReadings_15 (by decide) ?_
      refine zzastN B hW 3 rfl i_2 (by first | decide | ((repeat' split) <;> rfl)) rfl (by omega) (by decide) dX4_forgetReadings_16 (fun H locs hW => ?_)
      refine lv_iinc (v := (nI (i_2 + 1))) hx hb dX4_forgetReadings_17 hl (k := 1) rfl (nI_1 _) (by decide) rfl (fun ls hl => ?_)
      refine lv_goto (tgt := 2) hx hb dX4_forgetReadings_20 (by decide) ?_
      exact ih _ _ _ (hW.eq (by rw [lp_X4_forgetReadings_2_s] <;> rfl)) (lv_sub hl [1, 0] rfl)
  exact L_1 0 (Nat.zero_le _) _ _ _ (hW.eq (by rw [lp_X4_forgetReadings_2_0] <;> rfl)) (lv_sub hl [1, 0] rfl)
def r_X4_sign (se_4 : Nat → Int32) (se_5 : Nat → Int32) (a : Int32) : Int32 := (if (se_4 a.toNatClampNeg) = (0 : Int32) then (if (se_5 a.toNatClampNeg) ≤ (0 : Int32) then (43 : Int32) else (63 : Int32)) else (120 : Int32))
abbrev po_X4_sign (G : zG) (h : Nat) (ad : Nat → Nat) (se : zSens) (a : Int32) : Option Value → va_W → Prop := fun r u => r = some (.int (r_X4_sign se.2.2.2.2.1 se.2.2.2.2.2.1 a)) ∧ u = sensW G h ad se
set_option maxHeartbeats 4000000 in
set_option maxRecDepth 100000 in
theorem c_X4_sign (l : Launch) (G : zG) (h : Nat) (ad : Nat → Nat) (se : zSens) (a : Int32) (ha : vp_in a 10) : zC l yX4_sign cX4_sign 2 (some .char) 0 0 0 G [.ref h, .int a] (sensW G h ad se) (po_X4_sign G h ad se a) := by
  refine zC.of RX4 rfl (by decide) (Nat.le_of_ble_eq_true rfl) ?_
  intro p e s m args below meth c A ls B hr hlk hnm hW hl
  have hx := B.x
  have hb := B.b
  have hl : lv_has ls 2 [(0, .ref h), (1, .int a)] := hl
  refine lv_aload_n hx hb dX4_sign_0 rfl (lv_at hl 0 rfl) ?_
  refine zget B hW 0 rfl lf_X4_25 rfl dX4_sign_1 ?_
  refine lv_iload_n hx hb dX4_sign_4 rfl (lv_at hl 1 rfl) ?_
  refine zzald B hW 5 rfl (ha) dX4_sign_5 ?_
  refine lv_if_eq (tgt := 12) hx hb dX4_sign_6 (by decide) (fun c_6 => ?_) (fun c_6 => ?_)
  · refine lv_aload_n hx hb dX4_sign_12 rfl (lv_at hl 0 rfl) ?_
    refine zget B hW 0 rfl lf_X4_28 rfl dX4_sign_13 ?_
    refine lv_iload_n hx hb dX4_sign_16 rfl (lv_at hl 1 rfl) ?_
    refine ziald B hW 6 rfl (ha) dX4_sign_17 ?_
    have J_1 : ∀ (H : Heap) (locs : List Loc) (ls : Array Slot), zW G A s.heap H locs (sensW G h ad se) → lv_has ls 2 [] → W p l e (zRm 0 0 0) s m args below meth c H locs 0 0 (MQ below (zQ G A (po_X4_sign G h ad se a)) args s 0 0 A) (F0 m 28 ls [.int (if (se.2.2.2.2.2.1 a.toNatClampNeg) ≤ (0 : Int32) then (43 : Int32) else (63 : Int32))]) := by
      intro H locs ls hW hl
      have e_0 : (if (se.2.2.2.2.1 a.toNatClampNeg) = (0 : Int32) then (if (se.2.2.2.2.2.1 a.toNatClampNeg) ≤ (0 : Int32) then (43 : Int32) else (63 : Int32)) else (120 : Int32)) = (if (se.2.2.2.2.2.1 a.toNatClampNeg) ≤ (0 : Int32) then (43 : Int32) else (63 : Int32)) := if_pos c_6
      exact zzret B hr hlk (by (repeat' split) <;> rfl) hW ⟨by show _ = some (Value.int (if (se.2.2.2.2.1 a.toNatClampNeg) = (0 : Int32) then (if (se.2.2.2.2.2.1 a.toNatClampNeg) ≤ (0 : Int32) then (43 : Int32) else (63 : Int32)) else (120 : Int32))) <;> (try rw [e_0]) <;> rfl, by show _ = sensW G h ad se <;> (try rw [e_0]) <;> rfl⟩ (Nat.le_refl _) (Nat.le_refl _) dX4_sign_28
    refine lv_if_le (tgt := 26) hx hb dX4_sign_18 (by decide) (fun c_18 => ?_) (fun c_18 => ?_)
    · refine lv_bipush (v := (43 : Int32)) hx hb dX4_sign_26 (by decide) ?_
      have e_0 : (if (se.2.2.2.2.2.1 a.toNatClampNeg) ≤ (0 : Int32) then (43 : Int32) else (63 : Int32)) = (43 : Int32) := if_pos c_18
      refine W.eq (g2 := F0 m 28 ls [.int (if (se.2.2.2.2.2.1 a.toNatClampNeg) ≤ (0 : Int32) then (43 : Int32) else (63 : Int32))]) (by (try rw [e_0]) <;> rfl) ?_
      exact J_1 _ _ _ (hW.eq (by (try rw [e_0]) <;> rfl)) (by (try rw [e_0]) <;> exact lv_sub hl [] rfl)
    · refine lv_bipush (v := (63 : Int32)) hx hb dX4_sign_21 (by decide) ?_
      refine lv_goto (tgt := 28) hx hb dX4_sign_23 (by decide) ?_
      have e_0 : (if (se.2.2.2.2.2.1 a.toNatClampNeg) ≤ (0 : Int32) then (43 : Int32) else (63 : Int32)) = (63 : Int32) := if_neg c_18
      refine W.eq (g2 := F0 m 28 ls [.int (if (se.2.2.2.2.2.1 a.toNatClampNeg) ≤ (0 : Int32) then (43 : Int32) else (63 : Int32))]) (by (try rw [e_0]) <;> rfl) ?_
      exact J_1 _ _ _ (hW.eq (by (try rw [e_0]) <;> rfl)) (by (try rw [e_0]) <;> exact lv_sub hl [] rfl)
  · refine lv_bipush (v := (120 : Int32)) hx hb dX4_sign_9 (by decide) ?_
    have e_0 : (if (se.2.2.2.2.1 a.toNatClampNeg) = (0 : Int32) then (if (se.2.2.2.2.2.1 a.toNatClampNeg) ≤ (0 : Int32) then (43 : Int32) else (63 : Int32)) else (120 : Int32)) = (120 : Int32) := if_neg c_6
    exact zzret B hr hlk (by (repeat' split) <;> rfl) hW ⟨by show _ = some (Value.int (if (se.2.2.2.2.1 a.toNatClampNeg) = (0 : Int32) then (if (se.2.2.2.2.2.1 a.toNatClampNeg) ≤ (0 : Int32) then (43 : Int32) else (63 : Int32)) else (120 : Int32))) <;> (try rw [e_0]) <;> rfl, by show _ = sensW G h ad se <;> (try rw [e_0]) <;> rfl⟩ (Nat.le_refl _) (Nat.le_refl _) dX4_sign_11
def st_X4_counting_4 (q_se_4 : Nat → Int32) (i_4 : Nat) (y : Int32) : Int32 := (if (q_se_4 i_4) = (0 : Int32) then (y + (1 : Int32)) else y)
def lp_X4_counting_4 (q_se_4 : Nat → Int32) (y0 : Int32) : Nat → Int32
  | 0 => y0
  | n0 + 1 => st_X4_counting_4 q_se_4 n0 (lp_X4_counting_4 q_se_4 y0 n0)
termination_by n0 => n0
theorem lp_X4_counting_4_0 (q_se_4 : Nat → Int32) (y0 : Int32) : lp_X4_counting_4 q_se_4 y0 0 = y0 := by rw [lp_X4_counting_4]
theorem lp_X4_counting_4_s (q_se_4 : Nat → Int32) (y0 : Int32) (n0 : Nat) : lp_X4_counting_4 q_se_4 y0 (n0 + 1) = st_X4_counting_4 q_se_4 n0 (lp_X4_counting_4 q_se_4 y0 n0) := by rw [lp_X4_counting_4]
def r_X4_counting (se_4 : Nat → Int32) (n : Nat) : Int32 := (lp_X4_counting_4 se_4 (0 : Int32) n)
abbrev po_X4_counting (G : zG) (h : Nat) (ad : Nat → Nat) (se : zSens) (n : Nat) : Option Value → va_W → Prop := fun r u => r = some (.int (r_X4_counting se.2.2.2.2.1 n)) ∧ u = sensW G h ad se
set_option maxHeartbeats 4000000 in
set_option maxRecDepth 100000 in
theorem c_X4_counting (l : Launch) (G : zG) (h : Nat) (ad : Nat → Nat) (se : zSens) (n : Nat) (hc : se.2.2.2.2.2.2.2.2.1 = nI n) (hn : n ≤ 10) : zC l yX4_counting cX4_counting 3 (some .int) 0 0 0 G [.ref h] (sensW G h ad se) (po_X4_counting G h ad se n) := by
  refine zC.of RX4 rfl (by decide) (Nat.le_of_ble_eq_true rfl) ?_
  intro p e s m args below meth c A ls B hr hlk hnm hW hl
  have hx := B.x
  have hb := B.b
  have hl : lv_has ls 3 [(0, .ref h)] := hl
  refine lv_iconst (v := (0 : Int32)) hx hb dX4_counting_0 (by decide) ?_
  refine lv_istore_n hx hb dX4_counting_1 rfl hl (by decide) rfl (fun ls hl => ?_)
  refine lv_iconst (v := (0 : Int32)) hx hb dX4_counting_2 (by decide) ?_
  refine lv_istore_n hx hb dX4_counting_3 rfl hl (by decide) rfl (fun ls hl => ?_)
  have L_1 : ∀ i_4 : Nat, i_4 ≤ n → ∀ (H : Heap) (locs : List Loc) (ls : Array Slot), zW G A s.heap H locs (sensW G h ad se) → lv_has ls 3 [(0, .ref h), (1, .int (lp_X4_counting_4 se.2.2.2.2.1 (0 : Int32) i_4)), (2, .int (nI i_4))] → W p l e (zRm 0 0 0) s m args below meth c H locs 0 0 (MQ below (zQ G A (po_X4_counting G h ad se n)) args s 0 0 A) (F0 m 4 ls []) := by
    refine zloop n ?_ ?_
    · intro H locs ls hW hl
      refine lv_iload_n hx hb dX4_counting_4 rfl (lv_at hl 2 rfl) ?_
      refine lv_aload_n hx hb dX4_counting_5 rfl (lv_at hl 0 rfl) ?_
      refine zget B hW 0 rfl lf_X4_37 rfl dX4_counting_6 ?_
      refine lv_icmp_ge (tgt := 30) hx hb dX4_counting_9 (by decide) (fun c_9 => ?_) (fun c_9 => absurd (zge (hc)) c_9)
      refine lv_iload_n hx hb dX4_counting_30 rfl (lv_at hl 1 rfl) ?_
      exact ziret B hr hlk hW ⟨rfl, rfl⟩ (Nat.le_refl _) (Nat.le_refl _) dX4_counting_31
    · intro i_4 hi_4 ih H locs ls hW hl
      refine lv_iload_n hx hb dX4_counting_4 rfl (lv_at hl 2 rfl) ?_
      refine lv_aload_n hx hb dX4_counting_5 rfl (lv_at hl 0 rfl) ?_
      refine zget B hW 0 rfl lf_X4_37 rfl dX4_counting_6 ?_
      refine lv_icmp_ge (tgt := 30) hx hb dX4_counting_9 (by decide) (fun c_9 => absurd c_9 (znle (hc) hi_4 (by omega))) (fun c_9 => ?_)
      refine lv_aload_n hx hb dX4_counting_12 rfl (lv_at hl 0 rfl) ?_
      refine zget B hW 0 rfl lf_X4_25 rfl dX4_counting_13 ?_
      refine lv_iload_n hx hb dX4_counting_16 rfl (lv_at hl 2 rfl) ?_
      refine zzaldN B hW 5 rfl i_4 rfl (by omega) (by decide) dX4_counting_17 ?_
      have J_2 : ∀ (H : Heap) (locs : List Loc) (ls : Array Slot), zW G A s.heap H locs (sensW G h ad se) → lv_has ls 3 [(0, .ref h), (1, .int (if (se.2.2.2.2.1 i_4) = (0 : Int32) then ((lp_X4_counting_4 se.2.2.2.2.1 (0 : Int32) i_4) + (1 : Int32)) else (lp_X4_counting_4 se.2.2.2.2.1 (0 : Int32) i_4))), (2, .int (nI i_4))] → W p l e (zRm 0 0 0) s m args below meth c H locs 0 0 (MQ below (zQ G A (po_X4_counting G h ad se n)) args s 0 0 A) (F0 m 24 ls []) := by
        intro H locs ls hW hl
        refine lv_iinc (v := (nI (i_4 + 1))) hx hb dX4_counting_24 hl (k := 2) rfl (nI_1 _) (by decide) rfl (fun ls hl => ?_)
        refine lv_goto (tgt := 4) hx hb dX4_counting_27 (by decide) ?_
        exact ih _ _ _ (hW.eq rfl) (by rw [lp_X4_counting_4_s]; exact lv_sub hl [1, 2, 0] rfl)
      refine lv_if_ne (tgt := 24) hx hb dX4_counting_18 (by decide) (fun c_18 => ?_) (fun c_18 => ?_)
      · have e_0 : (if (se.2.2.2.2.1 i_4) = (0 : Int32) then ((lp_X4_counting_4 se.2.2.2.2.1 (0 : Int32) i_4) + (1 : Int32)) else (lp_X4_counting_4 se.2.2.2.2.1 (0 : Int32) i_4)) = (lp_X4_counting_4 se.2.2.2.2.1 (0 : Int32) i_4) := if_neg c_18
        exact J_2 _ _ _ (hW.eq (by (try rw [e_0]) <;> rfl)) (by (try rw [e_0]) <;> exact lv_sub hl [0, 1, 2] rfl)
      · refine lv_iinc (v := ((lp_X4_counting_4 se.2.2.2.2.1 (0 : Int32) i_4) + (1 : Int32))) hx hb dX4_counting_21 hl (k := 1) rfl (rfl) (by decide) rfl (fun ls hl => ?_)
        have e_0 : (if (se.2.2.2.2.1 i_4) = (0 : Int32) then ((lp_X4_counting_4 se.2.2.2.2.1 (0 : Int32) i_4) + (1 : Int32)) else (lp_X4_counting_4 se.2.2.2.2.1 (0 : Int32) i_4)) = ((lp_X4_counting_4 se.2.2.2.2.1 (0 : Int32) i_4) + (1 : Int32)) := if_pos c_18
        exact J_2 _ _ _ (hW.eq (by (try rw [e_0]) <;> rfl)) (by (try rw [e_0]) <;> exact lv_sub hl [1, 0, 2] rfl)
  exact L_1 0 (Nat.zero_le _) _ _ _ (hW.eq rfl) (by rw [lp_X4_counting_4_0]; exact lv_sub hl [2, 1, 0] rfl)
def r_X4_isNear (a : Int32) (b : Int32) : Int32 := (if ((a - a / (8 : Int32) * (8 : Int32)) - (b - b / (8 : Int32) * (8 : Int32))) < (-2 : Int32) then (0 : Int32) else (if (2 : Int32) < ((a - a / (8 : Int32) * (8 : Int32)) - (b - b / (8 : Int32) * (8 : Int32))) then (0 : Int32) else (if ((a / (8 : Int32)) - (b / (8 : Int32))) < (-2 : Int32) then (0 : Int32) else (if (2 : Int32) < ((a / (8 : Int32)) - (b / (8 : Int32))) then (0 : Int32) else (1 : Int32)))))
abbrev po_X4_isNear (G : zG)  (a : Int32) (b : Int32) : Option Value → va_W → Prop := fun r u => r = some (.int (r_X4_isNear a b)) ∧ u = []
set_option maxHeartbeats 4000000 in
set_option maxRecDepth 100000 in
theorem c_X4_isNear (l : Launch) (G : zG)  (a : Int32) (b : Int32) : zC l yX4_isNear cX4_isNear 4 (some .boolean) 0 0 0 G [.int a, .int b] ([]) (po_X4_isNear G a b) := by
  refine zC.of RX4 rfl (by decide) (Nat.le_of_ble_eq_true rfl) ?_
  intro p e s m args below meth c A ls B hr hlk hnm hW hl
  have hx := B.x
  have hb := B.b
  have hl : lv_has ls 4 [(0, .int a), (1, .int b)] := hl
  refine lv_iload_n hx hb dX4_isNear_0 rfl (lv_at hl 0 rfl) ?_
  refine lv_bipush (v := (8 : Int32)) hx hb dX4_isNear_1 (by decide) ?_
  refine lv_irem hx hb dX4_isNear_3 (by decide) ?_
  refine lv_iload_n hx hb dX4_isNear_4 rfl (lv_at hl 1 rfl) ?_
  refine lv_bipush (v := (8 : Int32)) hx hb dX4_isNear_5 (by decide) ?_
  refine lv_irem hx hb dX4_isNear_7 (by decide) ?_
  refine lv_isub hx hb dX4_isNear_8 ?_
  refine lv_istore_n hx hb dX4_isNear_9 rfl hl (by decide) rfl (fun ls hl => ?_)
  refine lv_iload_n hx hb dX4_isNear_10 rfl (lv_at hl 1 rfl) ?_
  refine lv_bipush (v := (8 : Int32)) hx hb dX4_isNear_11 (by decide) ?_
  refine lv_idiv hx hb dX4_isNear_13 (by decide) ?_
  refine lv_iload_n hx hb dX4_isNear_14 rfl (lv_at hl 2 rfl) ?_
  refine lv_bipush (v := (8 : Int32)) hx hb dX4_isNear_15 (by decide) ?_
  refine lv_idiv hx hb dX4_isNear_17 (by decide) ?_
  refine lv_isub hx hb dX4_isNear_18 ?_
  refine lv_istore_n hx hb dX4_isNear_19 rfl hl (by decide) rfl (fun ls hl => ?_)
  refine lv_iload_n hx hb dX4_isNear_20 rfl (lv_at hl 1 rfl) ?_
  refine lv_bipush (v := (-2 : Int32)) hx hb dX4_isNear_21 (by decide) ?_
  have J_1 : ∀ (H : Heap) (locs : List Loc) (ls : Array Slot), zW G A s.heap H locs ([]) → lv_has ls 4 [] → W p l e (zRm 0 0 0) s m args below meth c H locs 0 0 (MQ below (zQ G A (po_X4_isNear G a b)) args s 0 0 A) (F0 m 47 ls [.int (if ((a - a / (8 : Int32) * (8 : Int32)) - (b - b / (8 : Int32) * (8 : Int32))) < (-2 : Int32) then (0 : Int32) else (if (2 : Int32) < ((a - a / (8 : Int32) * (8 : Int32)) - (b - b / (8 : Int32) * (8 : Int32))) then (0 : Int32) else (if ((a / (8 : Int32)) - (b / (8 : Int32))) < (-2 : Int32) then (0 : Int32) else (if (2 : Int32) < ((a / (8 : Int32)) - (b / (8 : Int32))) then (0 : Int32) else (1 : Int32)))))]) := by
    intro H locs ls hW hl
    exact zzret B hr hlk (by (repeat' split) <;> rfl) hW ⟨rfl, rfl⟩ (Nat.le_refl _) (Nat.le_refl _) dX4_isNear_47
  refine lv_icmp_lt (tgt := 46) hx hb dX4_isNear_23 (by decide) (fun c_23 => ?_) (fun c_23 => ?_)
  · refine lv_iconst (v := (0 : Int32)) hx hb dX4_isNear_46 (by decide) ?_
    have e_0 : (if ((a - a / (8 : Int32) * (8 : Int32)) - (b - b / (8 : Int32) * (8 : Int32))) < (-2 : Int32) then (0 : Int32) else (if (2 : Int32) < ((a - a / (8 : Int32) * (8 : Int32)) - (b - b / (8 : Int32) * (8 : Int32))) then (0 : Int32) else (if ((a / (8 : Int32)) - (b / (8 : Int32))) < (-2 : Int32) then (0 : Int32) else (if (2 : Int32) < ((a / (8 : Int32)) - (b / (8 : Int32))) then (0 : Int32) else (1 : Int32))))) = (0 : Int32) := if_pos c_23
    refine W.eq (g2 := F0 m 47 ls [.int (if ((a - a / (8 : Int32) * (8 : Int32)) - (b - b / (8 : Int32) * (8 : Int32))) < (-2 : Int32) then (0 : Int32) else (if (2 : Int32) < ((a - a / (8 : Int32) * (8 : Int32)) - (b - b / (8 : Int32) * (8 : Int32))) then (0 : Int32) else (if ((a / (8 : Int32)) - (b / (8 : Int32))) < (-2 : Int32) then (0 : Int32) else (if (2 : Int32) < ((a / (8 : Int32)) - (b / (8 : Int32))) then (0 : Int32) else (1 : Int32)))))]) (by (try rw [e_0]) <;> rfl) ?_
    exact J_1 _ _ _ (hW.eq (by (try rw [e_0]) <;> rfl)) (by (try rw [e_0]) <;> exact lv_sub hl [] rfl)
  · refine lv_iload_n hx hb dX4_isNear_26 rfl (lv_at hl 1 rfl) ?_
    refine lv_iconst (v := (2 : Int32)) hx hb dX4_isNear_27 (by decide) ?_
    refine lv_icmp_gt (tgt := 46) hx hb dX4_isNear_28 (by decide) (fun c_28 => ?_) (fun c_28 => ?_)
    · refine lv_iconst (v := (0 : Int32)) hx hb dX4_isNear_46 (by decide) ?_
      have e_0 : (if ((a - a / (8 : Int32) * (8 : Int32)) - (b - b / (8 : Int32) * (8 : Int32))) < (-2 : Int32) then (0 : Int32) else (if (2 : Int32) < ((a - a / (8 : Int32) * (8 : Int32)) - (b - b / (8 : Int32) * (8 : Int32))) then (0 : Int32) else (if ((a / (8 : Int32)) - (b / (8 : Int32))) < (-2 : Int32) then (0 : Int32) else (if (2 : Int32) < ((a / (8 : Int32)) - (b / (8 : Int32))) then (0 : Int32) else (1 : Int32))))) = (0 : Int32) := (if_neg c_23).trans (if_pos c_28)
      refine W.eq (g2 := F0 m 47 ls [.int (if ((a - a / (8 : Int32) * (8 : Int32)) - (b - b / (8 : Int32) * (8 : Int32))) < (-2 : Int32) then (0 : Int32) else (if (2 : Int32) < ((a - a / (8 : Int32) * (8 : Int32)) - (b - b / (8 : Int32) * (8 : Int32))) then (0 : Int32) else (if ((a / (8 : Int32)) - (b / (8 : Int32))) < (-2 : Int32) then (0 : Int32) else (if (2 : Int32) < ((a / (8 : Int32)) - (b / (8 : Int32))) then (0 : Int32) else (1 : Int32)))))]) (by (try rw [e_0]) <;> rfl) ?_
      exact J_1 _ _ _ (hW.eq (by (try rw [e_0]) <;> rfl)) (by (try rw [e_0]) <;> exact lv_sub hl [] rfl)
    · refine lv_iload_n hx hb dX4_isNear_31 rfl (lv_at hl 0 rfl) ?_
      refine lv_bipush (v := (-2 : Int32)) hx hb dX4_isNear_32 (by decide) ?_
      refine lv_icmp_lt (tgt := 46) hx hb dX4_isNear_34 (by decide) (fun c_34 => ?_) (fun c_34 => ?_)
      · refine lv_iconst (v := (0 : Int32)) hx hb dX4_isNear_46 (by decide) ?_
        have e_0 : (if ((a - a / (8 : Int32) * (8 : Int32)) - (b - b / (8 : Int32) * (8 : Int32))) < (-2 : Int32) then (0 : Int32) else (if (2 : Int32) < ((a - a / (8 : Int32) * (8 : Int32)) - (b - b / (8 : Int32) * (8 : Int32))) then (0 : Int32) else (if ((a / (8 : Int32)) - (b / (8 : Int32))) < (-2 : Int32) then (0 : Int32) else (if (2 : Int32) < ((a / (8 : Int32)) - (b / (8 : Int32))) then (0 : Int32) else (1 : Int32))))) = (0 : Int32) := (if_neg c_23).trans ((if_neg c_28).trans (if_pos c_34))
        refine W.eq (g2 := F0 m 47 ls [.int (if ((a - a / (8 : Int32) * (8 : Int32)) - (b - b / (8 : Int32) * (8 : Int32))) < (-2 : Int32) then (0 : Int32) else (if (2 : Int32) < ((a - a / (8 : Int32) * (8 : Int32)) - (b - b / (8 : Int32) * (8 : Int32))) then (0 : Int32) else (if ((a / (8 : Int32)) - (b / (8 : Int32))) < (-2 : Int32) then (0 : Int32) else (if (2 : Int32) < ((a / (8 : Int32)) - (b / (8 : Int32))) then (0 : Int32) else (1 : Int32)))))]) (by (try rw [e_0]) <;> rfl) ?_
        exact J_1 _ _ _ (hW.eq (by (try rw [e_0]) <;> rfl)) (by (try rw [e_0]) <;> exact lv_sub hl [] rfl)
      · refine lv_iload_n hx hb dX4_isNear_37 rfl (lv_at hl 0 rfl) ?_
        refine lv_iconst (v := (2 : Int32)) hx hb dX4_isNear_38 (by decide) ?_
        refine lv_icmp_gt (tgt := 46) hx hb dX4_isNear_39 (by decide) (fun c_39 => ?_) (fun c_39 => ?_)
        · refine lv_iconst (v := (0 : Int32)) hx hb dX4_isNear_46 (by decide) ?_
          have e_0 : (if ((a - a / (8 : Int32) * (8 : Int32)) - (b - b / (8 : Int32) * (8 : Int32))) < (-2 : Int32) then (0 : Int32) else (if (2 : Int32) < ((a - a / (8 : Int32) * (8 : Int32)) - (b - b / (8 : Int32) * (8 : Int32))) then (0 : Int32) else (if ((a / (8 : Int32)) - (b / (8 : Int32))) < (-2 : Int32) then (0 : Int32) else (if (2 : Int32) < ((a / (8 : Int32)) - (b / (8 : Int32))) then (0 : Int32) else (1 : Int32))))) = (0 : Int32) := (if_neg c_23).trans ((if_neg c_28).trans ((if_neg c_34).trans (if_pos c_39)))
          refine W.eq (g2 := F0 m 47 ls [.int (if ((a - a / (8 : Int32) * (8 : Int32)) - (b - b / (8 : Int32) * (8 : Int32))) < (-2 : Int32) then (0 : Int32) else (if (2 : Int32) < ((a - a / (8 : Int32) * (8 : Int32)) - (b - b / (8 : Int32) * (8 : Int32))) then (0 : Int32) else (if ((a / (8 : Int32)) - (b / (8 : Int32))) < (-2 : Int32) then (0 : Int32) else (if (2 : Int32) < ((a / (8 : Int32)) - (b / (8 : Int32))) then (0 : Int32) else (1 : Int32)))))]) (by (try rw [e_0]) <;> rfl) ?_
          exact J_1 _ _ _ (hW.eq (by (try rw [e_0]) <;> rfl)) (by (try rw [e_0]) <;> exact lv_sub hl [] rfl)
        · refine lv_iconst (v := (1 : Int32)) hx hb dX4_isNear_42 (by decide) ?_
          refine lv_goto (tgt := 47) hx hb dX4_isNear_43 (by decide) ?_
          have e_0 : (if ((a - a / (8 : Int32) * (8 : Int32)) - (b - b / (8 : Int32) * (8 : Int32))) < (-2 : Int32) then (0 : Int32) else (if (2 : Int32) < ((a - a / (8 : Int32) * (8 : Int32)) - (b - b / (8 : Int32) * (8 : Int32))) then (0 : Int32) else (if ((a / (8 : Int32)) - (b / (8 : Int32))) < (-2 : Int32) then (0 : Int32) else (if (2 : Int32) < ((a / (8 : Int32)) - (b / (8 : Int32))) then (0 : Int32) else (1 : Int32))))) = (1 : Int32) := (if_neg c_23).trans ((if_neg c_28).trans ((if_neg c_34).trans (if_neg c_39)))
          refine W.eq (g2 := F0 m 47 ls [.int (if ((a - a / (8 : Int32) * (8 : Int32)) - (b - b / (8 : Int32) * (8 : Int32))) < (-2 : Int32) then (0 : Int32) else (if (2 : Int32) < ((a - a / (8 : Int32) * (8 : Int32)) - (b - b / (8 : Int32) * (8 : Int32))) then (0 : Int32) else (if ((a / (8 : Int32)) - (b / (8 : Int32))) < (-2 : Int32) then (0 : Int32) else (if (2 : Int32) < ((a / (8 : Int32)) - (b / (8 : Int32))) then (0 : Int32) else (1 : Int32)))))]) (by (try rw [e_0]) <;> rfl) ?_
          exact J_1 _ _ _ (hW.eq (by (try rw [e_0]) <;> rfl)) (by (try rw [e_0]) <;> exact lv_sub hl [] rfl)
def st_X4_meanAround_18 (q_se_1 : Nat → Int32) (q_se_2 : Nat → Int32) (q_se_3 : Nat → Int32) (q_se_4 : Nat → Int32) (v_1 : Int32) (i_18 : Nat) (y : Int32 × Int32) : Int32 × Int32 := ((if (nI i_18) = v_1 then y.1 else (if (q_se_2 i_18) = (0 : Int32) then y.1 else (if (q_se_4 i_18) = (0 : Int32) then (if (r_X4_isNear (q_se_1 i_18) (q_se_1 v_1.toNatClampNeg)) = (0 : Int32) then y.1 else (y.1 + (1 : Int32))) else y.1))), (if (nI i_18) = v_1 then y.2 else (if (q_se_2 i_18) = (0 : Int32) then y.2 else (if (q_se_4 i_18) = (0 : Int32) then (if (r_X4_isNear (q_se_1 i_18) (q_se_1 v_1.toNatClampNeg)) = (0 : Int32) then y.2 else (y.2 + (q_se_3 i_18))) else y.2))))
def lp_X4_meanAround_18 (q_se_1 : Nat → Int32) (q_se_2 : Nat → Int32) (q_se_3 : Nat → Int32) (q_se_4 : Nat → Int32) (v_1 : Int32) (y0 : Int32 × Int32) : Nat → Int32 × Int32
  | 0 => y0
  | n0 + 1 => st_X4_meanAround_18 q_se_1 q_se_2 q_se_3 q_se_4 v_1 n0 (lp_X4_meanAround_18 q_se_1 q_se_2 q_se_3 q_se_4 v_1 y0 n0)
termination_by n0 => n0
theorem lp_X4_meanAround_18_0 (q_se_1 : Nat → Int32) (q_se_2 : Nat → Int32) (q_se_3 : Nat → Int32) (q_se_4 : Nat → Int32) (v_1 : Int32) (y0 : Int32 × Int32) : lp_X4_meanAround_18 q_se_1 q_se_2 q_se_3 q_se_4 v_1 y0 0 = y0 := by rw [lp_X4_meanAround_18]
theorem lp_X4_meanAround_18_s (q_se_1 : Nat → Int32) (q_se_2 : Nat → Int32) (q_se_3 : Nat → Int32) (q_se_4 : Nat → Int32) (v_1 : Int32) (y0 : Int32 × Int32) (n0 : Nat) : lp_X4_meanAround_18 q_se_1 q_se_2 q_se_3 q_se_4 v_1 y0 (n0 + 1) = st_X4_meanAround_18 q_se_1 q_se_2 q_se_3 q_se_4 v_1 n0 (lp_X4_meanAround_18 q_se_1 q_se_2 q_se_3 q_se_4 v_1 y0 n0) := by rw [lp_X4_meanAround_18]
def r_X4_meanAround (se_1 : Nat → Int32) (se_2 : Nat → Int32) (se_3 : Nat → Int32) (se_4 : Nat → Int32) (a : Int32) (n : Nat) : Int32 := (if (se_2 a.toNatClampNeg) = (0 : Int32) then (-1 : Int32) else (if (2 : Int32) ≤ (lp_X4_meanAround_18 se_1 se_2 se_3 se_4 a ((0 : Int32), (0 : Int32)) n).1 then ((lp_X4_meanAround_18 se_1 se_2 se_3 se_4 a ((0 : Int32), (0 : Int32)) n).2 / (lp_X4_meanAround_18 se_1 se_2 se_3 se_4 a ((0 : Int32), (0 : Int32)) n).1) else (-1 : Int32)))
abbrev po_X4_meanAround (G : zG) (h : Nat) (ad : Nat → Nat) (se : zSens) (a : Int32) (n : Nat) : Option Value → va_W → Prop := fun r u => r = some (.int (r_X4_meanAround se.2.1 se.2.2.1 se.2.2.2.1 se.2.2.2.2.1 a n)) ∧ u = sensW G h ad se
set_option maxHeartbeats 4000000 in
set_option maxRecDepth 100000 in
theorem c_X4_meanAround (l : Launch) (G : zG) (h : Nat) (ad : Nat → Nat) (se : zSens) (a : Int32) (n : Nat) (hc : se.2.2.2.2.2.2.2.2.1 = nI n) (hn : n ≤ 10) (ha : vp_in a 10) : zC l yX4_meanAround cX4_meanAround 5 (some .int) 1 0 0 G [.ref h, .int a] (sensW G h ad se) (po_X4_meanAround G h ad se a n) := by
  refine zC.of RX4 rfl (by decide) (Nat.le_of_ble_eq_true rfl) ?_
  intro p e s m args below meth c A ls B hr hlk hnm hW hl
  have hx := B.x
  have hb := B.b
  have hl : lv_has ls 5 [(0, .ref h), (1, .int a)] := hl
  refine lv_aload_n hx hb dX4_meanAround_0 rfl (lv_at hl 0 rfl) ?_
  refine zget B hW 0 rfl lf_X4_18 rfl dX4_meanAround_1 ?_
  refine lv_iload_n hx hb dX4_meanAround_4 rfl (lv_at hl 1 rfl) ?_
  refine zzald B hW 3 rfl (ha) dX4_meanAround_5 ?_
  refine lv_if_ne (tgt := 11) hx hb dX4_meanAround_6 (by decide) (fun c_6 => ?_) (fun c_6 => ?_)
  · refine lv_iconst (v := (0 : Int32)) hx hb dX4_meanAround_11 (by decide) ?_
    refine lv_istore_n hx hb dX4_meanAround_12 rfl hl (by decide) rfl (fun ls hl => ?_)
    refine lv_iconst (v := (0 : Int32)) hx hb dX4_meanAround_13 (by decide) ?_
    refine lv_istore_n hx hb dX4_meanAround_14 rfl hl (by decide) rfl (fun ls hl => ?_)
    refine lv_iconst (v := (0 : Int32)) hx hb dX4_meanAround_15 (by decide) ?_
    refine lv_istore hx hb dX4_meanAround_16 hl (by decide) rfl (fun ls hl => ?_)
    have L_1 : ∀ i_18 : Nat, i_18 ≤ n → ∀ (H : Heap) (locs : List Loc) (ls : Array Slot), zW G A s.heap H locs (sensW G h ad se) → lv_has ls 5 [(0, .ref h), (1, .int a), (2, .int (lp_X4_meanAround_18 se.2.1 se.2.2.1 se.2.2.2.1 se.2.2.2.2.1 a ((0 : Int32), (0 : Int32)) i_18).1), (3, .int (lp_X4_meanAround_18 se.2.1 se.2.2.1 se.2.2.2.1 se.2.2.2.2.1 a ((0 : Int32), (0 : Int32)) i_18).2), (4, .int (nI i_18))] → W p l e (zRm 1 0 0) s m args below meth c H locs 0 0 (MQ below (zQ G A (po_X4_meanAround G h ad se a n)) args s 0 0 A) (F0 m 18 ls []) := by
      refine zloop n ?_ ?_
      · intro H locs ls hW hl
        refine lv_iload hx hb dX4_meanAround_18 (lv_at hl 4 rfl) ?_
        refine lv_aload_n hx hb dX4_meanAround_20 rfl (lv_at hl 0 rfl) ?_
        refine zget B hW 0 rfl lf_X4_37 rfl dX4_meanAround_21 ?_
        refine lv_icmp_ge (tgt := 91) hx hb dX4_meanAround_24 (by decide) (fun c_24 => ?_) (fun c_24 => absurd (zge (hc)) c_24)
        refine lv_iload_n hx hb dX4_meanAround_91 rfl (lv_at hl 2 rfl) ?_
        refine lv_iconst (v := (2 : Int32)) hx hb dX4_meanAround_92 (by decide) ?_
        have J_2 : ∀ (H : Heap) (locs : List Loc) (ls : Array Slot), zW G A s.heap H locs (sensW G h ad se) → lv_has ls 5 [] → W p l e (zRm 1 0 0) s m args below meth c H locs 0 0 (MQ below (zQ G A (po_X4_meanAround G h ad se a n)) args s 0 0 A) (F0 m 103 ls [.int (if (2 : Int32) ≤ (lp_X4_meanAround_18 se.2.1 se.2.2.1 se.2.2.2.1 se.2.2.2.2.1 a ((0 : Int32), (0 : Int32)) n).1 then ((lp_X4_meanAround_18 se.2.1 se.2.2.1 se.2.2.2.1 se.2.2.2.2.1 a ((0 : Int32), (0 : Int32)) n).2 / (lp_X4_meanAround_18 se.2.1 se.2.2.1 se.2.2.2.1 se.2.2.2.2.1 a ((0 : Int32), (0 : Int32)) n).1) else (-1 : Int32))]) := by
          intro H locs ls hW hl
          have e_0 : (if (se.2.2.1 a.toNatClampNeg) = (0 : Int32) then (-1 : Int32) else (if (2 : Int32) ≤ (lp_X4_meanAround_18 se.2.1 se.2.2.1 se.2.2.2.1 se.2.2.2.2.1 a ((0 : Int32), (0 : Int32)) n).1 then ((lp_X4_meanAround_18 se.2.1 se.2.2.1 se.2.2.2.1 se.2.2.2.2.1 a ((0 : Int32), (0 : Int32)) n).2 / (lp_X4_meanAround_18 se.2.1 se.2.2.1 se.2.2.2.1 se.2.2.2.2.1 a ((0 : Int32), (0 : Int32)) n).1) else (-1 : Int32))) = (if (2 : Int32) ≤ (lp_X4_meanAround_18 se.2.1 se.2.2.1 se.2.2.2.1 se.2.2.2.2.1 a ((0 : Int32), (0 : Int32)) n).1 then ((lp_X4_meanAround_18 se.2.1 se.2.2.1 se.2.2.2.1 se.2.2.2.2.1 a ((0 : Int32), (0 : Int32)) n).2 / (lp_X4_meanAround_18 se.2.1 se.2.2.1 se.2.2.2.1 se.2.2.2.2.1 a ((0 : Int32), (0 : Int32)) n).1) else (-1 : Int32)) := if_neg c_6
          exact ziret B hr hlk hW ⟨by show _ = some (Value.int (if (se.2.2.1 a.toNatClampNeg) = (0 : Int32) then (-1 : Int32) else (if (2 : Int32) ≤ (lp_X4_meanAround_18 se.2.1 se.2.2.1 se.2.2.2.1 se.2.2.2.2.1 a ((0 : Int32), (0 : Int32)) n).1 then ((lp_X4_meanAround_18 se.2.1 se.2.2.1 se.2.2.2.1 se.2.2.2.2.1 a ((0 : Int32), (0 : Int32)) n).2 / (lp_X4_meanAround_18 se.2.1 se.2.2.1 se.2.2.2.1 se.2.2.2.2.1 a ((0 : Int32), (0 : Int32)) n).1) else (-1 : Int32)))) <;> (try rw [e_0]) <;> rfl, by show _ = sensW G h ad se <;> (try rw [e_0]) <;> rfl⟩ (Nat.le_refl _) (Nat.le_refl _) dX4_meanAround_103
        refine lv_icmp_ge (tgt := 100) hx hb dX4_meanAround_93 (by decide) (fun c_93 => ?_) (fun c_93 => ?_)
        · refine lv_iload_n hx hb dX4_meanAround_100 rfl (lv_at hl 3 rfl) ?_
          refine lv_iload_n hx hb dX4_meanAround_101 rfl (lv_at hl 2 rfl) ?_
          refine lv_idiv hx hb dX4_meanAround_102 (fun h => absurd c_93 (by rw [h]; decide)) ?_
          have e_0 : (if (2 : Int32) ≤ (lp_X4_meanAround_18 se.2.1 se.2.2.1 se.2.2.2.1 se.2.2.2.2.1 a ((0 : Int32), (0 : Int32)) n).1 then ((lp_X4_meanAround_18 se.2.1 se.2.2.1 se.2.2.2.1 se.2.2.2.2.1 a ((0 : Int32), (0 : Int32)) n).2 / (lp_X4_meanAround_18 se.2.1 se.2.2.1 se.2.2.2.1 se.2.2.2.2.1 a ((0 : Int32), (0 : Int32)) n).1) else (-1 : Int32)) = ((lp_X4_meanAround_18 se.2.1 se.2.2.1 se.2.2.2.1 se.2.2.2.2.1 a ((0 : Int32), (0 : Int32)) n).2 / (lp_X4_meanAround_18 se.2.1 se.2.2.1 se.2.2.2.1 se.2.2.2.2.1 a ((0 : Int32), (0 : Int32)) n).1) := if_pos c_93
          refine W.eq (g2 := F0 m 103 ls [.int (if (2 : Int32) ≤ (lp_X4_meanAround_18 se.2.1 se.2.2.1 se.2.2.2.1 se.2.2.2.2.1 a ((0 : Int32), (0 : Int32)) n).1 then ((lp_X4_meanAround_18 se.2.1 se.2.2.1 se.2.2.2.1 se.2.2.2.2.1 a ((0 : Int32), (0 : Int32)) n).2 / (lp_X4_meanAround_18 se.2.1 se.2.2.1 se.2.2.2.1 se.2.2.2.2.1 a ((0 : Int32), (0 : Int32)) n).1) else (-1 : Int32))]) (by (try rw [e_0]) <;> rfl) ?_
          exact J_2 _ _ _ (hW.eq (by (try rw [e_0]) <;> rfl)) (by (try rw [e_0]) <;> exact lv_sub hl [] rfl)
        · refine lv_iconst (v := (-1 : Int32)) hx hb dX4_meanAround_96 (by decide) ?_
          refine lv_goto (tgt := 103) hx hb dX4_meanAround_97 (by decide) ?_
          have e_0 : (if (2 : Int32) ≤ (lp_X4_meanAround_18 se.2.1 se.2.2.1 se.2.2.2.1 se.2.2.2.2.1 a ((0 : Int32), (0 : Int32)) n).1 then ((lp_X4_meanAround_18 se.2.1 se.2.2.1 se.2.2.2.1 se.2.2.2.2.1 a ((0 : Int32), (0 : Int32)) n).2 / (lp_X4_meanAround_18 se.2.1 se.2.2.1 se.2.2.2.1 se.2.2.2.2.1 a ((0 : Int32), (0 : Int32)) n).1) else (-1 : Int32)) = (-1 : Int32) := if_neg c_93
          refine W.eq (g2 := F0 m 103 ls [.int (if (2 : Int32) ≤ (lp_X4_meanAround_18 se.2.1 se.2.2.1 se.2.2.2.1 se.2.2.2.2.1 a ((0 : Int32), (0 : Int32)) n).1 then ((lp_X4_meanAround_18 se.2.1 se.2.2.1 se.2.2.2.1 se.2.2.2.2.1 a ((0 : Int32), (0 : Int32)) n).2 / (lp_X4_meanAround_18 se.2.1 se.2.2.1 se.2.2.2.1 se.2.2.2.2.1 a ((0 : Int32), (0 : Int32)) n).1) else (-1 : Int32))]) (by (try rw [e_0]) <;> rfl) ?_
          exact J_2 _ _ _ (hW.eq (by (try rw [e_0]) <;> rfl)) (by (try rw [e_0]) <;> exact lv_sub hl [] rfl)
      · intro i_18 hi_18 ih H locs ls hW hl
        refine lv_iload hx hb dX4_meanAround_18 (lv_at hl 4 rfl) ?_
        refine lv_aload_n hx hb dX4_meanAround_20 rfl (lv_at hl 0 rfl) ?_
        refine zget B hW 0 rfl lf_X4_37 rfl dX4_meanAround_21 ?_
        refine lv_icmp_ge (tgt := 91) hx hb dX4_meanAround_24 (by decide) (fun c_24 => absurd c_24 (znle (hc) hi_18 (by omega))) (fun c_24 => ?_)
        refine lv_iload hx hb dX4_meanAround_27 (lv_at hl 4 rfl) ?_
        refine lv_iload_n hx hb dX4_meanAround_29 rfl (lv_at hl 1 rfl) ?_
        have J_3 : ∀ (H : Heap) (locs : List Loc) (ls : Array Slot), zW G A s.heap H locs (sensW G h ad se) → lv_has ls 5 [(0, .ref h), (1, .int a), (2, .int (if (nI i_18) = a then (lp_X4_meanAround_18 se.2.1 se.2.2.1 se.2.2.2.1 se.2.2.2.2.1 a ((0 : Int32), (0 : Int32)) i_18).1 else (if (se.2.2.1 i_18) = (0 : Int32) then (lp_X4_meanAround_18 se.2.1 se.2.2.1 se.2.2.2.1 se.2.2.2.2.1 a ((0 : Int32), (0 : Int32)) i_18).1 else (if (se.2.2.2.2.1 i_18) = (0 : Int32) then (if (r_X4_isNear (se.2.1 i_18) (se.2.1 a.toNatClampNeg)) = (0 : Int32) then (lp_X4_meanAround_18 se.2.1 se.2.2.1 se.2.2.2.1 se.2.2.2.2.1 a ((0 : Int32), (0 : Int32)) i_18).1 else ((lp_X4_meanAround_18 se.2.1 se.2.2.1 se.2.2.2.1 se.2.2.2.2.1 a ((0 : Int32), (0 : Int32)) i_18).1 + (1 : Int32))) else (lp_X4_meanAround_18 se.2.1 se.2.2.1 se.2.2.2.1 se.2.2.2.2.1 a ((0 : Int32), (0 : Int32)) i_18).1)))), (3, .int (if (nI i_18) = a then (lp_X4_meanAround_18 se.2.1 se.2.2.1 se.2.2.2.1 se.2.2.2.2.1 a ((0 : Int32), (0 : Int32)) i_18).2 else (if (se.2.2.1 i_18) = (0 : Int32) then (lp_X4_meanAround_18 se.2.1 se.2.2.1 se.2.2.2.1 se.2.2.2.2.1 a ((0 : Int32), (0 : Int32)) i_18).2 else (if (se.2.2.2.2.1 i_18) = (0 : Int32) then (if (r_X4_isNear (se.2.1 i_18) (se.2.1 a.toNatClampNeg)) = (0 : Int32) then (lp_X4_meanAround_18 se.2.1 se.2.2.1 se.2.2.2.1 se.2.2.2.2.1 a ((0 : Int32), (0 : Int32)) i_18).2 else ((lp_X4_meanAround_18 se.2.1 se.2.2.1 se.2.2.2.1 se.2.2.2.2.1 a ((0 : Int32), (0 : Int32)) i_18).2 + (se.2.2.2.1 i_18))) else (lp_X4_meanAround_18 se.2.1 se.2.2.1 se.2.2.2.1 se.2.2.2.2.1 a ((0 : Int32), (0 : Int32)) i_18).2)))), (4, .int (nI i_18))] → W p l e (zRm 1 0 0) s m args below meth c H locs 0 0 (MQ below (zQ G A (po_X4_meanAround G h ad se a n)) args s 0 0 A) (F0 m 85 ls []) := by
          intro H locs ls hW hl
          refine lv_iinc (v := (nI (i_18 + 1))) hx hb dX4_meanAround_85 hl (k := 4) rfl (nI_1 _) (by decide) rfl (fun ls hl => ?_)
          refine lv_goto (tgt := 18) hx hb dX4_meanAround_88 (by decide) ?_
          exact ih _ _ _ (hW.eq rfl) (by rw [lp_X4_meanAround_18_s]; exact lv_sub hl [1, 2, 3, 4, 0] rfl)
        refine lv_icmp_eq (tgt := 85) hx hb dX4_meanAround_30 (by decide) (fun c_30 => ?_) (fun c_30 => ?_)
        · have e_0 : (if (nI i_18) = a then (lp_X4_meanAround_18 se.2.1 se.2.2.1 se.2.2.2.1 se.2.2.2.2.1 a ((0 : Int32), (0 : Int32)) i_18).1 else (if (se.2.2.1 i_18) = (0 : Int32) then (lp_X4_meanAround_18 se.2.1 se.2.2.1 se.2.2.2.1 se.2.2.2.2.1 a ((0 : Int32), (0 : Int32)) i_18).1 else (if (se.2.2.2.2.1 i_18) = (0 : Int32) then (if (r_X4_isNear (se.2.1 i_18) (se.2.1 a.toNatClampNeg)) = (0 : Int32) then (lp_X4_meanAround_18 se.2.1 se.2.2.1 se.2.2.2.1 se.2.2.2.2.1 a ((0 : Int32), (0 : Int32)) i_18).1 else ((lp_X4_meanAround_18 se.2.1 se.2.2.1 se.2.2.2.1 se.2.2.2.2.1 a ((0 : Int32), (0 : Int32)) i_18).1 + (1 : Int32))) else (lp_X4_meanAround_18 se.2.1 se.2.2.1 se.2.2.2.1 se.2.2.2.2.1 a ((0 : Int32), (0 : Int32)) i_18).1))) = (lp_X4_meanAround_18 se.2.1 se.2.2.1 se.2.2.2.1 se.2.2.2.2.1 a ((0 : Int32), (0 : Int32)) i_18).1 := if_pos c_30
          have e_1 : (if (nI i_18) = a then (lp_X4_meanAround_18 se.2.1 se.2.2.1 se.2.2.2.1 se.2.2.2.2.1 a ((0 : Int32), (0 : Int32)) i_18).2 else (if (se.2.2.1 i_18) = (0 : Int32) then (lp_X4_meanAround_18 se.2.1 se.2.2.1 se.2.2.2.1 se.2.2.2.2.1 a ((0 : Int32), (0 : Int32)) i_18).2 else (if (se.2.2.2.2.1 i_18) = (0 : Int32) then (if (r_X4_isNear (se.2.1 i_18) (se.2.1 a.toNatClampNeg)) = (0 : Int32) then (lp_X4_meanAround_18 se.2.1 se.2.2.1 se.2.2.2.1 se.2.2.2.2.1 a ((0 : Int32), (0 : Int32)) i_18).2 else ((lp_X4_meanAround_18 se.2.1 se.2.2.1 se.2.2.2.1 se.2.2.2.2.1 a ((0 : Int32), (0 : Int32)) i_18).2 + (se.2.2.2.1 i_18))) else (lp_X4_meanAround_18 se.2.1 se.2.2.1 se.2.2.2.1 se.2.2.2.2.1 a ((0 : Int32), (0 : Int32)) i_18).2))) = (lp_X4_meanAround_18 se.2.1 se.2.2.1 se.2.2.2.1 se.2.2.2.2.1 a ((0 : Int32), (0 : Int32)) i_18).2 := if_pos c_30
          exact J_3 _ _ _ (hW.eq (by (try rw [e_0]) <;> (try rw [e_1]) <;> rfl)) (by (try rw [e_0]) <;> (try rw [e_1]) <;> exact lv_sub hl [0, 1, 2, 3, 4] rfl)
        · refine lv_aload_n hx hb dX4_meanAround_33 rfl (lv_at hl 0 rfl) ?_
          refine zget B hW 0 rfl lf_X4_18 rfl dX4_meanAround_34 ?_
          refine lv_iload hx hb dX4_meanAround_37 (lv_at hl 4 rfl) ?_
          refine zzaldN B hW 3 rfl i_18 rfl (by omega) (by decide) dX4_meanAround_39 ?_
          refine lv_if_eq (tgt := 85) hx hb dX4_meanAround_40 (by decide) (fun c_40 => ?_) (fun c_40 => ?_)
          · have e_0 : (if (nI i_18) = a then (lp_X4_meanAround_18 se.2.1 se.2.2.1 se.2.2.2.1 se.2.2.2.2.1 a ((0 : Int32), (0 : Int32)) i_18).1 else (if (se.2.2.1 i_18) = (0 : Int32) then (lp_X4_meanAround_18 se.2.1 se.2.2.1 se.2.2.2.1 se.2.2.2.2.1 a ((0 : Int32), (0 : Int32)) i_18).1 else (if (se.2.2.2.2.1 i_18) = (0 : Int32) then (if (r_X4_isNear (se.2.1 i_18) (se.2.1 a.toNatClampNeg)) = (0 : Int32) then (lp_X4_meanAround_18 se.2.1 se.2.2.1 se.2.2.2.1 se.2.2.2.2.1 a ((0 : Int32), (0 : Int32)) i_18).1 else ((lp_X4_meanAround_18 se.2.1 se.2.2.1 se.2.2.2.1 se.2.2.2.2.1 a ((0 : Int32), (0 : Int32)) i_18).1 + (1 : Int32))) else (lp_X4_meanAround_18 se.2.1 se.2.2.1 se.2.2.2.1 se.2.2.2.2.1 a ((0 : Int32), (0 : Int32)) i_18).1))) = (lp_X4_meanAround_18 se.2.1 se.2.2.1 se.2.2.2.1 se.2.2.2.2.1 a ((0 : Int32), (0 : Int32)) i_18).1 := (if_neg c_30).trans (if_pos c_40)
            have e_1 : (if (nI i_18) = a then (lp_X4_meanAround_18 se.2.1 se.2.2.1 se.2.2.2.1 se.2.2.2.2.1 a ((0 : Int32), (0 : Int32)) i_18).2 else (if (se.2.2.1 i_18) = (0 : Int32) then (lp_X4_meanAround_18 se.2.1 se.2.2.1 se.2.2.2.1 se.2.2.2.2.1 a ((0 : Int32), (0 : Int32)) i_18).2 else (if (se.2.2.2.2.1 i_18) = (0 : Int32) then (if (r_X4_isNear (se.2.1 i_18) (se.2.1 a.toNatClampNeg)) = (0 : Int32) then (lp_X4_meanAround_18 se.2.1 se.2.2.1 se.2.2.2.1 se.2.2.2.2.1 a ((0 : Int32), (0 : Int32)) i_18).2 else ((lp_X4_meanAround_18 se.2.1 se.2.2.1 se.2.2.2.1 se.2.2.2.2.1 a ((0 : Int32), (0 : Int32)) i_18).2 + (se.2.2.2.1 i_18))) else (lp_X4_meanAround_18 se.2.1 se.2.2.1 se.2.2.2.1 se.2.2.2.2.1 a ((0 : Int32), (0 : Int32)) i_18).2))) = (lp_X4_meanAround_18 se.2.1 se.2.2.1 se.2.2.2.1 se.2.2.2.2.1 a ((0 : Int32), (0 : Int32)) i_18).2 := (if_neg c_30).trans (if_pos c_40)
            exact J_3 _ _ _ (hW.eq (by (try rw [e_0]) <;> (try rw [e_1]) <;> rfl)) (by (try rw [e_0]) <;> (try rw [e_1]) <;> exact lv_sub hl [0, 1, 2, 3, 4] rfl)
          · refine lv_aload_n hx hb dX4_meanAround_43 rfl (lv_at hl 0 rfl) ?_
            refine zget B hW 0 rfl lf_X4_25 rfl dX4_meanAround_44 ?_
            refine lv_iload hx hb dX4_meanAround_47 (lv_at hl 4 rfl) ?_
            refine zzaldN B hW 5 rfl i_18 rfl (by omega) (by decide) dX4_meanAround_49 ?_
            refine lv_if_ne (tgt := 85) hx hb dX4_meanAround_50 (by decide) (fun c_50 => ?_) (fun c_50 => ?_)
            · have e_0 : (if (nI i_18) = a then (lp_X4_meanAround_18 se.2.1 se.2.2.1 se.2.2.2.1 se.2.2.2.2.1 a ((0 : Int32), (0 : Int32)) i_18).1 else (if (se.2.2.1 i_18) = (0 : Int32) then (lp_X4_meanAround_18 se.2.1 se.2.2.1 se.2.2.2.1 se.2.2.2.2.1 a ((0 : Int32), (0 : Int32)) i_18).1 else (if (se.2.2.2.2.1 i_18) = (0 : Int32) then (if (r_X4_isNear (se.2.1 i_18) (se.2.1 a.toNatClampNeg)) = (0 : Int32) then (lp_X4_meanAround_18 se.2.1 se.2.2.1 se.2.2.2.1 se.2.2.2.2.1 a ((0 : Int32), (0 : Int32)) i_18).1 else ((lp_X4_meanAround_18 se.2.1 se.2.2.1 se.2.2.2.1 se.2.2.2.2.1 a ((0 : Int32), (0 : Int32)) i_18).1 + (1 : Int32))) else (lp_X4_meanAround_18 se.2.1 se.2.2.1 se.2.2.2.1 se.2.2.2.2.1 a ((0 : Int32), (0 : Int32)) i_18).1))) = (lp_X4_meanAround_18 se.2.1 se.2.2.1 se.2.2.2.1 se.2.2.2.2.1 a ((0 : Int32), (0 : Int32)) i_18).1 := (if_neg c_30).trans ((if_neg c_40).trans (if_neg c_50))
              have e_1 : (if (nI i_18) = a then (lp_X4_meanAround_18 se.2.1 se.2.2.1 se.2.2.2.1 se.2.2.2.2.1 a ((0 : Int32), (0 : Int32)) i_18).2 else (if (se.2.2.1 i_18) = (0 : Int32) then (lp_X4_meanAround_18 se.2.1 se.2.2.1 se.2.2.2.1 se.2.2.2.2.1 a ((0 : Int32), (0 : Int32)) i_18).2 else (if (se.2.2.2.2.1 i_18) = (0 : Int32) then (if (r_X4_isNear (se.2.1 i_18) (se.2.1 a.toNatClampNeg)) = (0 : Int32) then (lp_X4_meanAround_18 se.2.1 se.2.2.1 se.2.2.2.1 se.2.2.2.2.1 a ((0 : Int32), (0 : Int32)) i_18).2 else ((lp_X4_meanAround_18 se.2.1 se.2.2.1 se.2.2.2.1 se.2.2.2.2.1 a ((0 : Int32), (0 : Int32)) i_18).2 + (se.2.2.2.1 i_18))) else (lp_X4_meanAround_18 se.2.1 se.2.2.1 se.2.2.2.1 se.2.2.2.2.1 a ((0 : Int32), (0 : Int32)) i_18).2))) = (lp_X4_meanAround_18 se.2.1 se.2.2.1 se.2.2.2.1 se.2.2.2.2.1 a ((0 : Int32), (0 : Int32)) i_18).2 := (if_neg c_30).trans ((if_neg c_40).trans (if_neg c_50))
              exact J_3 _ _ _ (hW.eq (by (try rw [e_0]) <;> (try rw [e_1]) <;> rfl)) (by (try rw [e_0]) <;> (try rw [e_1]) <;> exact lv_sub hl [0, 1, 2, 3, 4] rfl)
            · refine lv_aload_n hx hb dX4_meanAround_53 rfl (lv_at hl 0 rfl) ?_
              refine zget B hW 0 rfl lf_X4_15 rfl dX4_meanAround_54 ?_
              refine lv_iload hx hb dX4_meanAround_57 (lv_at hl 4 rfl) ?_
              refine zialdN B hW 2 rfl i_18 rfl (by omega) (by decide) dX4_meanAround_59 ?_
              refine lv_aload_n hx hb dX4_meanAround_60 rfl (lv_at hl 0 rfl) ?_
              refine zget B hW 0 rfl lf_X4_15 rfl dX4_meanAround_61 ?_
              refine lv_iload_n hx hb dX4_meanAround_64 rfl (lv_at hl 1 rfl) ?_
              refine ziald B hW 2 rfl (ha) dX4_meanAround_65 ?_
              refine zcS (w1 := []) (wc := []) (w2 := sensW G h ad se) (As := [.int (se.2.1 i_18), .int (se.2.1 a.toNatClampNeg)]) B (hW.eq rfl) (c_X4_isNear l G (se.2.1 i_18) (se.2.1 a.toNatClampNeg)) yd_X4_isNear ml_X4_45 rfl hl.1 rfl (Nat.le_of_ble_eq_true rfl) ⟨Nat.le_of_ble_eq_true rfl, Nat.le_of_ble_eq_true rfl⟩ ⟨(Nat.le_of_ble_eq_true rfl), (Nat.le_of_ble_eq_true rfl)⟩ dX4_meanAround_66 (fun v u H locs hp hW => ?_)
              obtain ⟨rfl, rfl⟩ := hp
              have hW := hW.eq (w' := sensW G h ad se) rfl
              refine lv_if_eq (tgt := 85) hx hb dX4_meanAround_69 (by decide) (fun c_69 => ?_) (fun c_69 => ?_)
              · have e_0 : (if (nI i_18) = a then (lp_X4_meanAround_18 se.2.1 se.2.2.1 se.2.2.2.1 se.2.2.2.2.1 a ((0 : Int32), (0 : Int32)) i_18).1 else (if (se.2.2.1 i_18) = (0 : Int32) then (lp_X4_meanAround_18 se.2.1 se.2.2.1 se.2.2.2.1 se.2.2.2.2.1 a ((0 : Int32), (0 : Int32)) i_18).1 else (if (se.2.2.2.2.1 i_18) = (0 : Int32) then (if (r_X4_isNear (se.2.1 i_18) (se.2.1 a.toNatClampNeg)) = (0 : Int32) then (lp_X4_meanAround_18 se.2.1 se.2.2.1 se.2.2.2.1 se.2.2.2.2.1 a ((0 : Int32), (0 : Int32)) i_18).1 else ((lp_X4_meanAround_18 se.2.1 se.2.2.1 se.2.2.2.1 se.2.2.2.2.1 a ((0 : Int32), (0 : Int32)) i_18).1 + (1 : Int32))) else (lp_X4_meanAround_18 se.2.1 se.2.2.1 se.2.2.2.1 se.2.2.2.2.1 a ((0 : Int32), (0 : Int32)) i_18).1))) = (lp_X4_meanAround_18 se.2.1 se.2.2.1 se.2.2.2.1 se.2.2.2.2.1 a ((0 : Int32), (0 : Int32)) i_18).1 := (if_neg c_30).trans ((if_neg c_40).trans ((if_pos c_50).trans (if_pos c_69)))
                have e_1 : (if (nI i_18) = a then (lp_X4_meanAround_18 se.2.1 se.2.2.1 se.2.2.2.1 se.2.2.2.2.1 a ((0 : Int32), (0 : Int32)) i_18).2 else (if (se.2.2.1 i_18) = (0 : Int32) then (lp_X4_meanAround_18 se.2.1 se.2.2.1 se.2.2.2.1 se.2.2.2.2.1 a ((0 : Int32), (0 : Int32)) i_18).2 else (if (se.2.2.2.2.1 i_18) = (0 : Int32) then (if (r_X4_isNear (se.2.1 i_18) (se.2.1 a.toNatClampNeg)) = (0 : Int32) then (lp_X4_meanAround_18 se.2.1 se.2.2.1 se.2.2.2.1 se.2.2.2.2.1 a ((0 : Int32), (0 : Int32)) i_18).2 else ((lp_X4_meanAround_18 se.2.1 se.2.2.1 se.2.2.2.1 se.2.2.2.2.1 a ((0 : Int32), (0 : Int32)) i_18).2 + (se.2.2.2.1 i_18))) else (lp_X4_meanAround_18 se.2.1 se.2.2.1 se.2.2.2.1 se.2.2.2.2.1 a ((0 : Int32), (0 : Int32)) i_18).2))) = (lp_X4_meanAround_18 se.2.1 se.2.2.1 se.2.2.2.1 se.2.2.2.2.1 a ((0 : Int32), (0 : Int32)) i_18).2 := (if_neg c_30).trans ((if_neg c_40).trans ((if_pos c_50).trans (if_pos c_69)))
                exact J_3 _ _ _ (hW.eq (by (try rw [e_0]) <;> (try rw [e_1]) <;> rfl)) (by (try rw [e_0]) <;> (try rw [e_1]) <;> exact lv_sub hl [0, 1, 2, 3, 4] rfl)
              · refine lv_iinc (v := ((lp_X4_meanAround_18 se.2.1 se.2.2.1 se.2.2.2.1 se.2.2.2.2.1 a ((0 : Int32), (0 : Int32)) i_18).1 + (1 : Int32))) hx hb dX4_meanAround_72 hl (k := 2) rfl (rfl) (by decide) rfl (fun ls hl => ?_)
                refine lv_iload_n hx hb dX4_meanAround_75 rfl (lv_at hl 3 rfl) ?_
                refine lv_aload_n hx hb dX4_meanAround_76 rfl (lv_at hl 1 rfl) ?_
                refine zget B hW 0 rfl lf_X4_22 rfl dX4_meanAround_77 ?_
                refine lv_iload hx hb dX4_meanAround_80 (lv_at hl 4 rfl) ?_
                refine zialdN B hW 4 rfl i_18 rfl (by omega) (by decide) dX4_meanAround_82 ?_
                refine lv_iadd hx hb dX4_meanAround_83 ?_
                refine lv_istore_n hx hb dX4_meanAround_84 rfl hl (by decide) rfl (fun ls hl => ?_)
                have e_0 : (if (nI i_18) = a then (lp_X4_meanAround_18 se.2.1 se.2.2.1 se.2.2.2.1 se.2.2.2.2.1 a ((0 : Int32), (0 : Int32)) i_18).1 else (if (se.2.2.1 i_18) = (0 : Int32) then (lp_X4_meanAround_18 se.2.1 se.2.2.1 se.2.2.2.1 se.2.2.2.2.1 a ((0 : Int32), (0 : Int32)) i_18).1 else (if (se.2.2.2.2.1 i_18) = (0 : Int32) then (if (r_X4_isNear (se.2.1 i_18) (se.2.1 a.toNatClampNeg)) = (0 : Int32) then (lp_X4_meanAround_18 se.2.1 se.2.2.1 se.2.2.2.1 se.2.2.2.2.1 a ((0 : Int32), (0 : Int32)) i_18).1 else ((lp_X4_meanAround_18 se.2.1 se.2.2.1 se.2.2.2.1 se.2.2.2.2.1 a ((0 : Int32), (0 : Int32)) i_18).1 + (1 : Int32))) else (lp_X4_meanAround_18 se.2.1 se.2.2.1 se.2.2.2.1 se.2.2.2.2.1 a ((0 : Int32), (0 : Int32)) i_18).1))) = ((lp_X4_meanAround_18 se.2.1 se.2.2.1 se.2.2.2.1 se.2.2.2.2.1 a ((0 : Int32), (0 : Int32)) i_18).1 + (1 : Int32)) := (if_neg c_30).trans ((if_neg c_40).trans ((if_pos c_50).trans (if_neg c_69)))
                have e_1 : (if (nI i_18) = a then (lp_X4_meanAround_18 se.2.1 se.2.2.1 se.2.2.2.1 se.2.2.2.2.1 a ((0 : Int32), (0 : Int32)) i_18).2 else (if (se.2.2.1 i_18) = (0 : Int32) then (lp_X4_meanAround_18 se.2.1 se.2.2.1 se.2.2.2.1 se.2.2.2.2.1 a ((0 : Int32), (0 : Int32)) i_18).2 else (if (se.2.2.2.2.1 i_18) = (0 : Int32) then (if (r_X4_isNear (se.2.1 i_18) (se.2.1 a.toNatClampNeg)) = (0 : Int32) then (lp_X4_meanAround_18 se.2.1 se.2.2.1 se.2.2.2.1 se.2.2.2.2.1 a ((0 : Int32), (0 : Int32)) i_18).2 else ((lp_X4_meanAround_18 se.2.1 se.2.2.1 se.2.2.2.1 se.2.2.2.2.1 a ((0 : Int32), (0 : Int32)) i_18).2 + (se.2.2.2.1 i_18))) else (lp_X4_meanAround_18 se.2.1 se.2.2.1 se.2.2.2.1 se.2.2.2.2.1 a ((0 : Int32), (0 : Int32)) i_18).2))) = ((lp_X4_meanAround_18 se.2.1 se.2.2.1 se.2.2.2.1 se.2.2.2.2.1 a ((0 : Int32), (0 : Int32)) i_18).2 + (se.2.2.2.1 i_18)) := (if_neg c_30).trans ((if_neg c_40).trans ((if_pos c_50).trans (if_neg c_69)))
                exact J_3 _ _ _ (hW.eq (by (try rw [e_0]) <;> (try rw [e_1]) <;> rfl)) (by (try rw [e_0]) <;> (try rw [e_1]) <;> exact lv_sub hl [2, 3, 1, 0, 4] rfl)
    exact L_1 0 (Nat.zero_le _) _ _ _ (hW.eq rfl) (by rw [lp_X4_meanAround_18_0]; exact lv_sub hl [3, 4, 2, 1, 0] rfl)
  · refine lv_iconst (v := (-1 : Int32)) hx hb dX4_meanAround_9 (by decide) ?_
    have e_0 : (if (se.2.2.1 a.toNatClampNeg) = (0 : Int32) then (-1 : Int32) else (if (2 : Int32) ≤ (lp_X4_meanAround_18 se.2.1 se.2.2.1 se.2.2.2.1 se.2.2.2.2.1 a ((0 : Int32), (0 : Int32)) n).1 then ((lp_X4_meanAround_18 se.2.1 se.2.2.1 se.2.2.2.1 se.2.2.2.2.1 a ((0 : Int32), (0 : Int32)) n).2 / (lp_X4_meanAround_18 se.2.1 se.2.2.1 se.2.2.2.1 se.2.2.2.2.1 a ((0 : Int32), (0 : Int32)) n).1) else (-1 : Int32))) = (-1 : Int32) := if_pos c_6
    exact ziret B hr hlk hW ⟨by show _ = some (Value.int (if (se.2.2.1 a.toNatClampNeg) = (0 : Int32) then (-1 : Int32) else (if (2 : Int32) ≤ (lp_X4_meanAround_18 se.2.1 se.2.2.1 se.2.2.2.1 se.2.2.2.2.1 a ((0 : Int32), (0 : Int32)) n).1 then ((lp_X4_meanAround_18 se.2.1 se.2.2.1 se.2.2.2.1 se.2.2.2.2.1 a ((0 : Int32), (0 : Int32)) n).2 / (lp_X4_meanAround_18 se.2.1 se.2.2.1 se.2.2.2.1 se.2.2.2.2.1 a ((0 : Int32), (0 : Int32)) n).1) else (-1 : Int32)))) <;> (try rw [e_0]) <;> rfl, by show _ = sensW G h ad se <;> (try rw [e_0]) <;> rfl⟩ (Nat.le_refl _) (Nat.le_refl _) dX4_meanAround_10
def r_X4_verdictOn (se_1 : Nat → Int32) (se_2 : Nat → Int32) (se_3 : Nat → Int32) (se_4 : Nat → Int32) (a : Int32) (n : Nat) : Int32 := (if (r_X4_meanAround se_1 se_2 se_3 se_4 a n) = (-1 : Int32) then (0 : Int32) else (if (if (r_X4_meanAround se_1 se_2 se_3 se_4 a n) ≤ (se_3 a.toNatClampNeg) then ((se_3 a.toNatClampNeg) - (r_X4_meanAround se_1 se_2 se_3 se_4 a n)) else ((r_X4_meanAround se_1 se_2 se_3 se_4 a n) - (se_3 a.toNatClampNeg))) ≤ ((r_X4_meanAround se_1 se_2 se_3 se_4 a n) / (2 : Int32)) then (1 : Int32) else (if (20 : Int32) < (if (r_X4_meanAround se_1 se_2 se_3 se_4 a n) ≤ (se_3 a.toNatClampNeg) then ((se_3 a.toNatClampNeg) - (r_X4_meanAround se_1 se_2 se_3 se_4 a n)) else ((r_X4_meanAround se_1 se_2 se_3 se_4 a n) - (se_3 a.toNatClampNeg))) then (2 : Int32) else (1 : Int32))))
abbrev po_X4_verdictOn (G : zG) (h : Nat) (ad : Nat → Nat) (se : zSens) (a : Int32) (n : Nat) : Option Value → va_W → Prop := fun r u => r = some (.int (r_X4_verdictOn se.2.1 se.2.2.1 se.2.2.2.1 se.2.2.2.2.1 a n)) ∧ u = sensW G h ad se
set_option maxHeartbeats 4000000 in
set_option maxRecDepth 100000 in
theorem c_X4_verdictOn (l : Launch) (G : zG) (h : Nat) (ad : Nat → Nat) (se : zSens) (a : Int32) (n : Nat) (hc : se.2.2.2.2.2.2.2.2.1 = nI n) (hn : n ≤ 10) (ha : vp_in a 10) : zC l yX4_verdictOn cX4_verdictOn 4 (some .int) 2 0 0 G [.ref h, .int a] (sensW G h ad se) (po_X4_verdictOn G h ad se a n) := by
  refine zC.of RX4 rfl (by decide) (Nat.le_of_ble_eq_true rfl) ?_
  intro p e s m args below meth c A ls B hr hlk hnm hW hl
  have hx := B.x
  have hb := B.b
  have hl : lv_has ls 4 [(0, .ref h), (1, .int a)] := hl
  refine lv_aload_n hx hb dX4_verdictOn_0 rfl (lv_at hl 0 rfl) ?_
  refine lv_iload_n hx hb dX4_verdictOn_1 rfl (lv_at hl 1 rfl) ?_
  refine zcV (w1 := []) (wc := sensW G h ad se) (w2 := []) (As := [.int a]) B (hW.eq rfl) (c_X4_meanAround l G h ad se a n (hc) (hn) (ha)) yd_X4_meanAround ml_X4_60 0 rfl rfl rfl rfl hl.1 rfl (Nat.le_of_ble_eq_true rfl) ⟨Nat.le_of_ble_eq_true rfl, Nat.le_of_ble_eq_true rfl⟩ ⟨(Nat.le_of_ble_eq_true rfl), (Nat.le_of_ble_eq_true rfl)⟩ dX4_verdictOn_2 (fun v u H locs hp hW => ?_)
  obtain ⟨rfl, rfl⟩ := hp
  have hW := hW.eq (w' := sensW G h ad se) rfl
  refine lv_istore_n hx hb dX4_verdictOn_5 rfl hl (by decide) rfl (fun ls hl => ?_)
  refine lv_iload_n hx hb dX4_verdictOn_6 rfl (lv_at hl 0 rfl) ?_
  refine lv_iconst (v := (-1 : Int32)) hx hb dX4_verdictOn_7 (by decide) ?_
  refine lv_icmp_ne (tgt := 13) hx hb dX4_verdictOn_8 (by decide) (fun c_8 => ?_) (fun c_8 => ?_)
  · refine lv_aload_n hx hb dX4_verdictOn_13 rfl (lv_at hl 1 rfl) ?_
    refine zget B hW 0 rfl lf_X4_22 rfl dX4_verdictOn_14 ?_
    refine lv_iload_n hx hb dX4_verdictOn_17 rfl (lv_at hl 2 rfl) ?_
    refine ziald B hW 4 rfl (ha) dX4_verdictOn_18 ?_
    refine lv_iload_n hx hb dX4_verdictOn_19 rfl (lv_at hl 0 rfl) ?_
    have J_1 : ∀ (H : Heap) (locs : List Loc) (ls : Array Slot), zW G A s.heap H locs (sensW G h ad se) → lv_has ls 4 [(2, .int (r_X4_meanAround se.2.1 se.2.2.1 se.2.2.2.1 se.2.2.2.2.1 a n))] → W p l e (zRm 2 0 0) s m args below meth c H locs 0 0 (MQ below (zQ G A (po_X4_verdictOn G h ad se a n)) args s 0 0 A) (F0 m 42 ls [.int (if (r_X4_meanAround se.2.1 se.2.2.1 se.2.2.2.1 se.2.2.2.2.1 a n) ≤ (se.2.2.2.1 a.toNatClampNeg) then ((se.2.2.2.1 a.toNatClampNeg) - (r_X4_meanAround se.2.1 se.2.2.1 se.2.2.2.1 se.2.2.2.2.1 a n)) else ((r_X4_meanAround se.2.1 se.2.2.1 se.2.2.2.1 se.2.2.2.2.1 a n) - (se.2.2.2.1 a.toNatClampNeg)))]) := by
      intro H locs ls hW hl
      refine lv_istore_n hx hb dX4_verdictOn_42 rfl hl (by decide) rfl (fun ls hl => ?_)
      refine lv_iload_n hx hb dX4_verdictOn_43 rfl (lv_at hl 0 rfl) ?_
      refine lv_iload_n hx hb dX4_verdictOn_44 rfl (lv_at hl 1 rfl) ?_
      refine lv_iconst (v := (2 : Int32)) hx hb dX4_verdictOn_45 (by decide) ?_
      refine lv_idiv hx hb dX4_verdictOn_46 (by decide) ?_
      have J_2 : ∀ (H : Heap) (locs : List Loc) (ls : Array Slot), zW G A s.heap H locs (sensW G h ad se) → lv_has ls 4 [] → W p l e (zRm 2 0 0) s m args below meth c H locs 0 0 (MQ below (zQ G A (po_X4_verdictOn G h ad se a n)) args s 0 0 A) (F0 m 61 ls [.int (if (if (r_X4_meanAround se.2.1 se.2.2.1 se.2.2.2.1 se.2.2.2.2.1 a n) ≤ (se.2.2.2.1 a.toNatClampNeg) then ((se.2.2.2.1 a.toNatClampNeg) - (r_X4_meanAround se.2.1 se.2.2.1 se.2.2.2.1 se.2.2.2.2.1 a n)) else ((r_X4_meanAround se.2.1 se.2.2.1 se.2.2.2.1 se.2.2.2.2.1 a n) - (se.2.2.2.1 a.toNatClampNeg))) ≤ ((r_X4_meanAround se.2.1 se.2.2.1 se.2.2.2.1 se.2.2.2.2.1 a n) / (2 : Int32)) then (1 : Int32) else (if (20 : Int32) < (if (r_X4_meanAround se.2.1 se.2.2.1 se.2.2.2.1 se.2.2.2.2.1 a n) ≤ (se.2.2.2.1 a.toNatClampNeg) then ((se.2.2.2.1 a.toNatClampNeg) - (r_X4_meanAround se.2.1 se.2.2.1 se.2.2.2.1 se.2.2.2.2.1 a n)) else ((r_X4_meanAround se.2.1 se.2.2.1 se.2.2.2.1 se.2.2.2.2.1 a n) - (se.2.2.2.1 a.toNatClampNeg))) then (2 : Int32) else (1 : Int32)))]) := by
        intro H locs ls hW hl
        have e_0 : (if (r_X4_meanAround se.2.1 se.2.2.1 se.2.2.2.1 se.2.2.2.2.1 a n) = (-1 : Int32) then (0 : Int32) else (if (if (r_X4_meanAround se.2.1 se.2.2.1 se.2.2.2.1 se.2.2.2.2.1 a n) ≤ (se.2.2.2.1 a.toNatClampNeg) then ((se.2.2.2.1 a.toNatClampNeg) - (r_X4_meanAround se.2.1 se.2.2.1 se.2.2.2.1 se.2.2.2.2.1 a n)) else ((r_X4_meanAround se.2.1 se.2.2.1 se.2.2.2.1 se.2.2.2.2.1 a n) - (se.2.2.2.1 a.toNatClampNeg))) ≤ ((r_X4_meanAround se.2.1 se.2.2.1 se.2.2.2.1 se.2.2.2.2.1 a n) / (2 : Int32)) then (1 : Int32) else (if (20 : Int32) < (if (r_X4_meanAround se.2.1 se.2.2.1 se.2.2.2.1 se.2.2.2.2.1 a n) ≤ (se.2.2.2.1 a.toNatClampNeg) then ((se.2.2.2.1 a.toNatClampNeg) - (r_X4_meanAround se.2.1 se.2.2.1 se.2.2.2.1 se.2.2.2.2.1 a n)) else ((r_X4_meanAround se.2.1 se.2.2.1 se.2.2.2.1 se.2.2.2.2.1 a n) - (se.2.2.2.1 a.toNatClampNeg))) then (2 : Int32) else (1 : Int32)))) = (if (if (r_X4_meanAround se.2.1 se.2.2.1 se.2.2.2.1 se.2.2.2.2.1 a n) ≤ (se.2.2.2.1 a.toNatClampNeg) then ((se.2.2.2.1 a.toNatClampNeg) - (r_X4_meanAround se.2.1 se.2.2.1 se.2.2.2.1 se.2.2.2.2.1 a n)) else ((r_X4_meanAround se.2.1 se.2.2.1 se.2.2.2.1 se.2.2.2.2.1 a n) - (se.2.2.2.1 a.toNatClampNeg))) ≤ ((r_X4_meanAround se.2.1 se.2.2.1 se.2.2.2.1 se.2.2.2.2.1 a n) / (2 : Int32)) then (1 : Int32) else (if (20 : Int32) < (if (r_X4_meanAround se.2.1 se.2.2.1 se.2.2.2.1 se.2.2.2.2.1 a n) ≤ (se.2.2.2.1 a.toNatClampNeg) then ((se.2.2.2.1 a.toNatClampNeg) - (r_X4_meanAround se.2.1 se.2.2.1 se.2.2.2.1 se.2.2.2.2.1 a n)) else ((r_X4_meanAround se.2.1 se.2.2.1 se.2.2.2.1 se.2.2.2.2.1 a n) - (se.2.2.2.1 a.toNatClampNeg))) then (2 : Int32) else (1 : Int32))) := if_neg c_8
        exact ziret B hr hlk hW ⟨by show _ = some (Value.int (if (r_X4_meanAround se.2.1 se.2.2.1 se.2.2.2.1 se.2.2.2.2.1 a n) = (-1 : Int32) then (0 : Int32) else (if (if (r_X4_meanAround se.2.1 se.2.2.1 se.2.2.2.1 se.2.2.2.2.1 a n) ≤ (se.2.2.2.1 a.toNatClampNeg) then ((se.2.2.2.1 a.toNatClampNeg) - (r_X4_meanAround se.2.1 se.2.2.1 se.2.2.2.1 se.2.2.2.2.1 a n)) else ((r_X4_meanAround se.2.1 se.2.2.1 se.2.2.2.1 se.2.2.2.2.1 a n) - (se.2.2.2.1 a.toNatClampNeg))) ≤ ((r_X4_meanAround se.2.1 se.2.2.1 se.2.2.2.1 se.2.2.2.2.1 a n) / (2 : Int32)) then (1 : Int32) else (if (20 : Int32) < (if (r_X4_meanAround se.2.1 se.2.2.1 se.2.2.2.1 se.2.2.2.2.1 a n) ≤ (se.2.2.2.1 a.toNatClampNeg) then ((se.2.2.2.1 a.toNatClampNeg) - (r_X4_meanAround se.2.1 se.2.2.1 se.2.2.2.1 se.2.2.2.2.1 a n)) else ((r_X4_meanAround se.2.1 se.2.2.1 se.2.2.2.1 se.2.2.2.2.1 a n) - (se.2.2.2.1 a.toNatClampNeg))) then (2 : Int32) else (1 : Int32))))) <;> (try rw [e_0]) <;> rfl, by show _ = sensW G h ad se <;> (try rw [e_0]) <;> rfl⟩ (Nat.le_refl _) (Nat.le_refl _) dX4_verdictOn_61
      refine lv_icmp_le (tgt := 56) hx hb dX4_verdictOn_47 (by decide) (fun c_47 => ?_) (fun c_47 => ?_)
      · refine lv_iconst (v := (1 : Int32)) hx hb dX4_verdictOn_56 (by decide) ?_
        refine lv_goto (tgt := 61) hx hb dX4_verdictOn_57 (by decide) ?_
        have e_0 : (if (if (r_X4_meanAround se.2.1 se.2.2.1 se.2.2.2.1 se.2.2.2.2.1 a n) ≤ (se.2.2.2.1 a.toNatClampNeg) then ((se.2.2.2.1 a.toNatClampNeg) - (r_X4_meanAround se.2.1 se.2.2.1 se.2.2.2.1 se.2.2.2.2.1 a n)) else ((r_X4_meanAround se.2.1 se.2.2.1 se.2.2.2.1 se.2.2.2.2.1 a n) - (se.2.2.2.1 a.toNatClampNeg))) ≤ ((r_X4_meanAround se.2.1 se.2.2.1 se.2.2.2.1 se.2.2.2.2.1 a n) / (2 : Int32)) then (1 : Int32) else (if (20 : Int32) < (if (r_X4_meanAround se.2.1 se.2.2.1 se.2.2.2.1 se.2.2.2.2.1 a n) ≤ (se.2.2.2.1 a.toNatClampNeg) then ((se.2.2.2.1 a.toNatClampNeg) - (r_X4_meanAround se.2.1 se.2.2.1 se.2.2.2.1 se.2.2.2.2.1 a n)) else ((r_X4_meanAround se.2.1 se.2.2.1 se.2.2.2.1 se.2.2.2.2.1 a n) - (se.2.2.2.1 a.toNatClampNeg))) then (2 : Int32) else (1 : Int32))) = (1 : Int32) := if_pos c_47
        refine W.eq (g2 := F0 m 61 ls [.int (if (if (r_X4_meanAround se.2.1 se.2.2.1 se.2.2.2.1 se.2.2.2.2.1 a n) ≤ (se.2.2.2.1 a.toNatClampNeg) then ((se.2.2.2.1 a.toNatClampNeg) - (r_X4_meanAround se.2.1 se.2.2.1 se.2.2.2.1 se.2.2.2.2.1 a n)) else ((r_X4_meanAround se.2.1 se.2.2.1 se.2.2.2.1 se.2.2.2.2.1 a n) - (se.2.2.2.1 a.toNatClampNeg))) ≤ ((r_X4_meanAround se.2.1 se.2.2.1 se.2.2.2.1 se.2.2.2.2.1 a n) / (2 : Int32)) then (1 : Int32) else (if (20 : Int32) < (if (r_X4_meanAround se.2.1 se.2.2.1 se.2.2.2.1 se.2.2.2.2.1 a n) ≤ (se.2.2.2.1 a.toNatClampNeg) then ((se.2.2.2.1 a.toNatClampNeg) - (r_X4_meanAround se.2.1 se.2.2.1 se.2.2.2.1 se.2.2.2.2.1 a n)) else ((r_X4_meanAround se.2.1 se.2.2.1 se.2.2.2.1 se.2.2.2.2.1 a n) - (se.2.2.2.1 a.toNatClampNeg))) then (2 : Int32) else (1 : Int32)))]) (by (try rw [e_0]) <;> rfl) ?_
        exact J_2 _ _ _ (hW.eq (by (try rw [e_0]) <;> rfl)) (by (try rw [e_0]) <;> exact lv_sub hl [] rfl)
      · refine lv_iload_n hx hb dX4_verdictOn_50 rfl (lv_at hl 0 rfl) ?_
        refine lv_bipush (v := (20 : Int32)) hx hb dX4_verdictOn_51 (by decide) ?_
        refine lv_icmp_gt (tgt := 60) hx hb dX4_verdictOn_53 (by decide) (fun c_53 => ?_) (fun c_53 => ?_)
        · refine lv_iconst (v := (2 : Int32)) hx hb dX4_verdictOn_60 (by decide) ?_
          have e_0 : (if (if (r_X4_meanAround se.2.1 se.2.2.1 se.2.2.2.1 se.2.2.2.2.1 a n) ≤ (se.2.2.2.1 a.toNatClampNeg) then ((se.2.2.2.1 a.toNatClampNeg) - (r_X4_meanAround se.2.1 se.2.2.1 se.2.2.2.1 se.2.2.2.2.1 a n)) else ((r_X4_meanAround se.2.1 se.2.2.1 se.2.2.2.1 se.2.2.2.2.1 a n) - (se.2.2.2.1 a.toNatClampNeg))) ≤ ((r_X4_meanAround se.2.1 se.2.2.1 se.2.2.2.1 se.2.2.2.2.1 a n) / (2 : Int32)) then (1 : Int32) else (if (20 : Int32) < (if (r_X4_meanAround se.2.1 se.2.2.1 se.2.2.2.1 se.2.2.2.2.1 a n) ≤ (se.2.2.2.1 a.toNatClampNeg) then ((se.2.2.2.1 a.toNatClampNeg) - (r_X4_meanAround se.2.1 se.2.2.1 se.2.2.2.1 se.2.2.2.2.1 a n)) else ((r_X4_meanAround se.2.1 se.2.2.1 se.2.2.2.1 se.2.2.2.2.1 a n) - (se.2.2.2.1 a.toNatClampNeg))) then (2 : Int32) else (1 : Int32))) = (2 : Int32) := (if_neg c_47).trans (if_pos c_53)
          refine W.eq (g2 := F0 m 61 ls [.int (if (if (r_X4_meanAround se.2.1 se.2.2.1 se.2.2.2.1 se.2.2.2.2.1 a n) ≤ (se.2.2.2.1 a.toNatClampNeg) then ((se.2.2.2.1 a.toNatClampNeg) - (r_X4_meanAround se.2.1 se.2.2.1 se.2.2.2.1 se.2.2.2.2.1 a n)) else ((r_X4_meanAround se.2.1 se.2.2.1 se.2.2.2.1 se.2.2.2.2.1 a n) - (se.2.2.2.1 a.toNatClampNeg))) ≤ ((r_X4_meanAround se.2.1 se.2.2.1 se.2.2.2.1 se.2.2.2.2.1 a n) / (2 : Int32)) then (1 : Int32) else (if (20 : Int32) < (if (r_X4_meanAround se.2.1 se.2.2.1 se.2.2.2.1 se.2.2.2.2.1 a n) ≤ (se.2.2.2.1 a.toNatClampNeg) then ((se.2.2.2.1 a.toNatClampNeg) - (r_X4_meanAround se.2.1 se.2.2.1 se.2.2.2.1 se.2.2.2.2.1 a n)) else ((r_X4_meanAround se.2.1 se.2.2.1 se.2.2.2.1 se.2.2.2.2.1 a n) - (se.2.2.2.1 a.toNatClampNeg))) then (2 : Int32) else (1 : Int32)))]) (by (try rw [e_0]) <;> rfl) ?_
          exact J_2 _ _ _ (hW.eq (by (try rw [e_0]) <;> rfl)) (by (try rw [e_0]) <;> exact lv_sub hl [] rfl)
        · refine lv_iconst (v := (1 : Int32)) hx hb dX4_verdictOn_56 (by decide) ?_
          refine lv_goto (tgt := 61) hx hb dX4_verdictOn_57 (by decide) ?_
          have e_0 : (if (if (r_X4_meanAround se.2.1 se.2.2.1 se.2.2.2.1 se.2.2.2.2.1 a n) ≤ (se.2.2.2.1 a.toNatClampNeg) then ((se.2.2.2.1 a.toNatClampNeg) - (r_X4_meanAround se.2.1 se.2.2.1 se.2.2.2.1 se.2.2.2.2.1 a n)) else ((r_X4_meanAround se.2.1 se.2.2.1 se.2.2.2.1 se.2.2.2.2.1 a n) - (se.2.2.2.1 a.toNatClampNeg))) ≤ ((r_X4_meanAround se.2.1 se.2.2.1 se.2.2.2.1 se.2.2.2.2.1 a n) / (2 : Int32)) then (1 : Int32) else (if (20 : Int32) < (if (r_X4_meanAround se.2.1 se.2.2.1 se.2.2.2.1 se.2.2.2.2.1 a n) ≤ (se.2.2.2.1 a.toNatClampNeg) then ((se.2.2.2.1 a.toNatClampNeg) - (r_X4_meanAround se.2.1 se.2.2.1 se.2.2.2.1 se.2.2.2.2.1 a n)) else ((r_X4_meanAround se.2.1 se.2.2.1 se.2.2.2.1 se.2.2.2.2.1 a n) - (se.2.2.2.1 a.toNatClampNeg))) then (2 : Int32) else (1 : Int32))) = (1 : Int32) := (if_neg c_47).trans (if_neg c_53)
          refine W.eq (g2 := F0 m 61 ls [.int (if (if (r_X4_meanAround se.2.1 se.2.2.1 se.2.2.2.1 se.2.2.2.2.1 a n) ≤ (se.2.2.2.1 a.toNatClampNeg) then ((se.2.2.2.1 a.toNatClampNeg) - (r_X4_meanAround se.2.1 se.2.2.1 se.2.2.2.1 se.2.2.2.2.1 a n)) else ((r_X4_meanAround se.2.1 se.2.2.1 se.2.2.2.1 se.2.2.2.2.1 a n) - (se.2.2.2.1 a.toNatClampNeg))) ≤ ((r_X4_meanAround se.2.1 se.2.2.1 se.2.2.2.1 se.2.2.2.2.1 a n) / (2 : Int32)) then (1 : Int32) else (if (20 : Int32) < (if (r_X4_meanAround se.2.1 se.2.2.1 se.2.2.2.1 se.2.2.2.2.1 a n) ≤ (se.2.2.2.1 a.toNatClampNeg) then ((se.2.2.2.1 a.toNatClampNeg) - (r_X4_meanAround se.2.1 se.2.2.1 se.2.2.2.1 se.2.2.2.2.1 a n)) else ((r_X4_meanAround se.2.1 se.2.2.1 se.2.2.2.1 se.2.2.2.2.1 a n) - (se.2.2.2.1 a.toNatClampNeg))) then (2 : Int32) else (1 : Int32)))]) (by (try rw [e_0]) <;> rfl) ?_
          exact J_2 _ _ _ (hW.eq (by (try rw [e_0]) <;> rfl)) (by (try rw [e_0]) <;> exact lv_sub hl [] rfl)
    refine lv_icmp_ge (tgt := 34) hx hb dX4_verdictOn_20 (by decide) (fun c_20 => ?_) (fun c_20 => ?_)
    · refine lv_aload_n hx hb dX4_verdictOn_34 rfl (lv_at hl 1 rfl) ?_
      refine zget B hW 0 rfl lf_X4_22 rfl dX4_verdictOn_35 ?_
      refine lv_iload_n hx hb dX4_verdictOn_38 rfl (lv_at hl 2 rfl) ?_
      refine ziald B hW 4 rfl (ha) dX4_verdictOn_39 ?_
      refine lv_iload_n hx hb dX4_verdictOn_40 rfl (lv_at hl 0 rfl) ?_
      refine lv_isub hx hb dX4_verdictOn_41 ?_
      have e_0 : (if (r_X4_meanAround se.2.1 se.2.2.1 se.2.2.2.1 se.2.2.2.2.1 a n) ≤ (se.2.2.2.1 a.toNatClampNeg) then ((se.2.2.2.1 a.toNatClampNeg) - (r_X4_meanAround se.2.1 se.2.2.1 se.2.2.2.1 se.2.2.2.2.1 a n)) else ((r_X4_meanAround se.2.1 se.2.2.1 se.2.2.2.1 se.2.2.2.2.1 a n) - (se.2.2.2.1 a.toNatClampNeg))) = ((se.2.2.2.1 a.toNatClampNeg) - (r_X4_meanAround se.2.1 se.2.2.1 se.2.2.2.1 se.2.2.2.2.1 a n)) := if_pos c_20
      refine W.eq (g2 := F0 m 42 ls [.int (if (r_X4_meanAround se.2.1 se.2.2.1 se.2.2.2.1 se.2.2.2.2.1 a n) ≤ (se.2.2.2.1 a.toNatClampNeg) then ((se.2.2.2.1 a.toNatClampNeg) - (r_X4_meanAround se.2.1 se.2.2.1 se.2.2.2.1 se.2.2.2.2.1 a n)) else ((r_X4_meanAround se.2.1 se.2.2.1 se.2.2.2.1 se.2.2.2.2.1 a n) - (se.2.2.2.1 a.toNatClampNeg)))]) (by (try rw [e_0]) <;> rfl) ?_
      exact J_1 _ _ _ (hW.eq (by (try rw [e_0]) <;> rfl)) (by (try rw [e_0]) <;> exact lv_sub hl [0] rfl)
    · refine lv_iload_n hx hb dX4_verdictOn_23 rfl (lv_at hl 0 rfl) ?_
      refine lv_aload_n hx hb dX4_verdictOn_24 rfl (lv_at hl 1 rfl) ?_
      refine zget B hW 0 rfl lf_X4_22 rfl dX4_verdictOn_25 ?_
      refine lv_iload_n hx hb dX4_verdictOn_28 rfl (lv_at hl 2 rfl) ?_
      refine ziald B hW 4 rfl (ha) dX4_verdictOn_29 ?_
      refine lv_isub hx hb dX4_verdictOn_30 ?_
      refine lv_goto (tgt := 42) hx hb dX4_verdictOn_31 (by decide) ?_
      have e_0 : (if (r_X4_meanAround se.2.1 se.2.2.1 se.2.2.2.1 se.2.2.2.2.1 a n) ≤ (se.2.2.2.1 a.toNatClampNeg) then ((se.2.2.2.1 a.toNatClampNeg) - (r_X4_meanAround se.2.1 se.2.2.1 se.2.2.2.1 se.2.2.2.2.1 a n)) else ((r_X4_meanAround se.2.1 se.2.2.1 se.2.2.2.1 se.2.2.2.2.1 a n) - (se.2.2.2.1 a.toNatClampNeg))) = ((r_X4_meanAround se.2.1 se.2.2.1 se.2.2.2.1 se.2.2.2.2.1 a n) - (se.2.2.2.1 a.toNatClampNeg)) := if_neg c_20
      refine W.eq (g2 := F0 m 42 ls [.int (if (r_X4_meanAround se.2.1 se.2.2.1 se.2.2.2.1 se.2.2.2.2.1 a n) ≤ (se.2.2.2.1 a.toNatClampNeg) then ((se.2.2.2.1 a.toNatClampNeg) - (r_X4_meanAround se.2.1 se.2.2.1 se.2.2.2.1 se.2.2.2.2.1 a n)) else ((r_X4_meanAround se.2.1 se.2.2.1 se.2.2.2.1 se.2.2.2.2.1 a n) - (se.2.2.2.1 a.toNatClampNeg)))]) (by (try rw [e_0]) <;> rfl) ?_
      exact J_1 _ _ _ (hW.eq (by (try rw [e_0]) <;> rfl)) (by (try rw [e_0]) <;> exact lv_sub hl [0] rfl)
  · refine lv_iconst (v := (0 : Int32)) hx hb dX4_verdictOn_11 (by decide) ?_
    have e_0 : (if (r_X4_meanAround se.2.1 se.2.2.1 se.2.2.2.1 se.2.2.2.2.1 a n) = (-1 : Int32) then (0 : Int32) else (if (if (r_X4_meanAround se.2.1 se.2.2.1 se.2.2.2.1 se.2.2.2.2.1 a n) ≤ (se.2.2.2.1 a.toNatClampNeg) then ((se.2.2.2.1 a.toNatClampNeg) - (r_X4_meanAround se.2.1 se.2.2.1 se.2.2.2.1 se.2.2.2.2.1 a n)) else ((r_X4_meanAround se.2.1 se.2.2.1 se.2.2.2.1 se.2.2.2.2.1 a n) - (se.2.2.2.1 a.toNatClampNeg))) ≤ ((r_X4_meanAround se.2.1 se.2.2.1 se.2.2.2.1 se.2.2.2.2.1 a n) / (2 : Int32)) then (1 : Int32) else (if (20 : Int32) < (if (r_X4_meanAround se.2.1 se.2.2.1 se.2.2.2.1 se.2.2.2.2.1 a n) ≤ (se.2.2.2.1 a.toNatClampNeg) then ((se.2.2.2.1 a.toNatClampNeg) - (r_X4_meanAround se.2.1 se.2.2.1 se.2.2.2.1 se.2.2.2.2.1 a n)) else ((r_X4_meanAround se.2.1 se.2.2.1 se.2.2.2.1 se.2.2.2.2.1 a n) - (se.2.2.2.1 a.toNatClampNeg))) then (2 : Int32) else (1 : Int32)))) = (0 : Int32) := if_pos c_8
    exact ziret B hr hlk hW ⟨by show _ = some (Value.int (if (r_X4_meanAround se.2.1 se.2.2.1 se.2.2.2.1 se.2.2.2.2.1 a n) = (-1 : Int32) then (0 : Int32) else (if (if (r_X4_meanAround se.2.1 se.2.2.1 se.2.2.2.1 se.2.2.2.2.1 a n) ≤ (se.2.2.2.1 a.toNatClampNeg) then ((se.2.2.2.1 a.toNatClampNeg) - (r_X4_meanAround se.2.1 se.2.2.1 se.2.2.2.1 se.2.2.2.2.1 a n)) else ((r_X4_meanAround se.2.1 se.2.2.1 se.2.2.2.1 se.2.2.2.2.1 a n) - (se.2.2.2.1 a.toNatClampNeg))) ≤ ((r_X4_meanAround se.2.1 se.2.2.1 se.2.2.2.1 se.2.2.2.2.1 a n) / (2 : Int32)) then (1 : Int32) else (if (20 : Int32) < (if (r_X4_meanAround se.2.1 se.2.2.1 se.2.2.2.1 se.2.2.2.2.1 a n) ≤ (se.2.2.2.1 a.toNatClampNeg) then ((se.2.2.2.1 a.toNatClampNeg) - (r_X4_meanAround se.2.1 se.2.2.1 se.2.2.2.1 se.2.2.2.2.1 a n)) else ((r_X4_meanAround se.2.1 se.2.2.1 se.2.2.2.1 se.2.2.2.2.1 a n) - (se.2.2.2.1 a.toNatClampNeg))) then (2 : Int32) else (1 : Int32))))) <;> (try rw [e_0]) <;> rfl, by show _ = sensW G h ad se <;> (try rw [e_0]) <;> rfl⟩ (Nat.le_refl _) (Nat.le_refl _) dX4_verdictOn_12
def g_X4_believe_se_0 (se_0 : Nat → Int32) (se_4 : Nat → Int32) (se_6 : Nat → Int32) (a : Int32) : Nat → Int32 := (if (se_4 a.toNatClampNeg) = (0 : Int32) then (upd se_0 a.toNatClampNeg (if ((se_0 a.toNatClampNeg) + (10 : Int32)) ≤ (100 : Int32) then ((se_0 a.toNatClampNeg) + (10 : Int32)) else (100 : Int32))) else (if ((upd se_6 a.toNatClampNeg ((se_6 a.toNatClampNeg) + (1 : Int32))) a.toNatClampNeg) < (3 : Int32) then (upd se_0 a.toNatClampNeg (if ((se_0 a.toNatClampNeg) + (10 : Int32)) ≤ (100 : Int32) then ((se_0 a.toNatClampNeg) + (10 : Int32)) else (100 : Int32))) else (upd (upd se_0 a.toNatClampNeg (if ((se_0 a.toNatClampNeg) + (10 : Int32)) ≤ (100 : Int32) then ((se_0 a.toNatClampNeg) + (10 : Int32)) else (100 : Int32))) a.toNatClampNeg (30 : Int32))))
def g_X4_believe_se_4 (se_4 : Nat → Int32) (se_6 : Nat → Int32) (a : Int32) : Nat → Int32 := (if (se_4 a.toNatClampNeg) = (0 : Int32) then se_4 else (if ((upd se_6 a.toNatClampNeg ((se_6 a.toNatClampNeg) + (1 : Int32))) a.toNatClampNeg) < (3 : Int32) then se_4 else (upd se_4 a.toNatClampNeg (0 : Int32))))
def g_X4_believe_se_5 (se_5 : Nat → Int32) (a : Int32) : Nat → Int32 := (upd se_5 a.toNatClampNeg (0 : Int32))
def g_X4_believe_se_6 (se_6 : Nat → Int32) (a : Int32) : Nat → Int32 := (upd se_6 a.toNatClampNeg ((se_6 a.toNatClampNeg) + (1 : Int32)))
def f_X4_believe_se (se : zSens) (a : Int32) : zSens := (g_X4_believe_se_0 se.1 se.2.2.2.2.1 se.2.2.2.2.2.2.1 a, se.2.1, se.2.2.1, se.2.2.2.1, g_X4_believe_se_4 se.2.2.2.2.1 se.2.2.2.2.2.2.1 a, g_X4_believe_se_5 se.2.2.2.2.2.1 a, g_X4_believe_se_6 se.2.2.2.2.2.2.1 a, se.2.2.2.2.2.2.2.1, se.2.2.2.2.2.2.2.2.1, se.2.2.2.2.2.2.2.2.2)
abbrev po_X4_believe (G : zG) (h : Nat) (ad : Nat → Nat) (se : zSens) (a : Int32) : Option Value → va_W → Prop := fun r u => r = none ∧ u = sensW G h ad (f_X4_believe_se se a)
set_option maxHeartbeats 4000000 in
set_option maxRecDepth 100000 in
theorem c_X4_believe (l : Launch) (G : zG) (h : Nat) (ad : Nat → Nat) (se : zSens) (a : Int32) (ha : vp_in a 10) : zC l yX4_believe cX4_believe 3 none 0 0 0 G [.ref h, .int a] (sensW G h ad se) (po_X4_believe G h ad se a) := by
  refine zC.of RX4 rfl (by decide) (Nat.le_of_ble_eq_true rfl) ?_
  intro p e s m args below meth c A ls B hr hlk hnm hW hl
  have hx := B.x
  have hb := B.b
  have hl : lv_has ls 3 [(0, .ref h), (1, .int a)] := hl
  refine lv_aload_n hx hb dX4_believe_0 rfl (lv_at hl 0 rfl) ?_
  refine zget B hW 0 rfl lf_X4_28 rfl dX4_believe_1 ?_
  refine lv_iload_n hx hb dX4_believe_4 rfl (lv_at hl 1 rfl) ?_
  refine lv_iconst (v := (0 : Int32)) hx hb dX4_believe_5 (by decide) ?_
  refine ziast B hW 6 rfl (ha) dX4_believe_6 (fun H locs hW => ?_)
  refine lv_aload_n hx hb dX4_believe_7 rfl (lv_at hl 0 rfl) ?_
  refine zget B hW 0 rfl lf_X4_31 rfl dX4_believe_8 ?_
  refine lv_iload_n hx hb dX4_believe_11 rfl (lv_at hl 1 rfl) ?_
  refine lv_dup2_11 hx hb dX4_believe_12 rfl rfl ?_
  refine ziald B hW 7 rfl (ha) dX4_believe_13 ?_
  refine lv_iconst (v := (1 : Int32)) hx hb dX4_believe_14 (by decide) ?_
  refine lv_iadd hx hb dX4_believe_15 ?_
  refine ziast B hW 7 rfl (ha) dX4_believe_16 (fun H locs hW => ?_)
  refine lv_aload_n hx hb dX4_believe_17 rfl (lv_at hl 0 rfl) ?_
  refine zget B hW 0 rfl lf_X4_9 rfl dX4_believe_18 ?_
  refine lv_iload_n hx hb dX4_believe_21 rfl (lv_at hl 1 rfl) ?_
  refine ziald B hW 1 rfl (ha) dX4_believe_22 ?_
  refine lv_bipush (v := (10 : Int32)) hx hb dX4_believe_23 (by decide) ?_
  refine lv_iadd hx hb dX4_believe_25 ?_
  refine lv_istore_n hx hb dX4_believe_26 rfl hl (by decide) rfl (fun ls hl => ?_)
  refine lv_aload_n hx hb dX4_believe_27 rfl (lv_at hl 1 rfl) ?_
  refine zget B hW 0 rfl lf_X4_9 rfl dX4_believe_28 ?_
  refine lv_iload_n hx hb dX4_believe_31 rfl (lv_at hl 2 rfl) ?_
  refine lv_iload_n hx hb dX4_believe_32 rfl (lv_at hl 0 rfl) ?_
  refine lv_bipush (v := (100 : Int32)) hx hb dX4_believe_33 (by decide) ?_
  have J_1 : ∀ (H : Heap) (locs : List Loc) (ls : Array Slot), zW G A s.heap H locs (sensW G h ad (se.1, se.2.1, se.2.2.1, se.2.2.2.1, se.2.2.2.2.1, (upd se.2.2.2.2.2.1 a.toNatClampNeg (0 : Int32)), (upd se.2.2.2.2.2.2.1 a.toNatClampNeg ((se.2.2.2.2.2.2.1 a.toNatClampNeg) + (1 : Int32))), se.2.2.2.2.2.2.2.1, se.2.2.2.2.2.2.2.2.1, se.2.2.2.2.2.2.2.2.2)) → lv_has ls 3 [(0, .ref h), (1, .int a)] → W p l e (zRm 0 0 0) s m args below meth c H locs 0 0 (MQ below (zQ G A (po_X4_believe G h ad se a)) args s 0 0 A) (F0 m 44 ls [.int (if ((se.1 a.toNatClampNeg) + (10 : Int32)) ≤ (100 : Int32) then ((se.1 a.toNatClampNeg) + (10 : Int32)) else (100 : Int32)), .int a, .ref (ad 0)]) := by
    intro H locs ls hW hl
    refine ziast B hW 1 rfl (ha) dX4_believe_44 (fun H locs hW => ?_)
    refine lv_aload_n hx hb dX4_believe_45 rfl (lv_at hl 0 rfl) ?_
    refine zget B hW 0 rfl lf_X4_25 rfl dX4_believe_46 ?_
    refine lv_iload_n hx hb dX4_believe_49 rfl (lv_at hl 1 rfl) ?_
    refine zzald B hW 5 rfl (ha) dX4_believe_50 ?_
    have J_2 : ∀ (H : Heap) (locs : List Loc) (ls : Array Slot), zW G A s.heap H locs (sensW G h ad ((if (se.2.2.2.2.1 a.toNatClampNeg) = (0 : Int32) then (upd se.1 a.toNatClampNeg (if ((se.1 a.toNatClampNeg) + (10 : Int32)) ≤ (100 : Int32) then ((se.1 a.toNatClampNeg) + (10 : Int32)) else (100 : Int32))) else (if ((upd se.2.2.2.2.2.2.1 a.toNatClampNeg ((se.2.2.2.2.2.2.1 a.toNatClampNeg) + (1 : Int32))) a.toNatClampNeg) < (3 : Int32) then (upd se.1 a.toNatClampNeg (if ((se.1 a.toNatClampNeg) + (10 : Int32)) ≤ (100 : Int32) then ((se.1 a.toNatClampNeg) + (10 : Int32)) else (100 : Int32))) else (upd (upd se.1 a.toNatClampNeg (if ((se.1 a.toNatClampNeg) + (10 : Int32)) ≤ (100 : Int32) then ((se.1 a.toNatClampNeg) + (10 : Int32)) else (100 : Int32))) a.toNatClampNeg (30 : Int32)))), se.2.1, se.2.2.1, se.2.2.2.1, (if (se.2.2.2.2.1 a.toNatClampNeg) = (0 : Int32) then se.2.2.2.2.1 else (if ((upd se.2.2.2.2.2.2.1 a.toNatClampNeg ((se.2.2.2.2.2.2.1 a.toNatClampNeg) + (1 : Int32))) a.toNatClampNeg) < (3 : Int32) then se.2.2.2.2.1 else (upd se.2.2.2.2.1 a.toNatClampNeg (0 : Int32)))), (upd se.2.2.2.2.2.1 a.toNatClampNeg (0 : Int32)), (upd se.2.2.2.2.2.2.1 a.toNatClampNeg ((se.2.2.2.2.2.2.1 a.toNatClampNeg) + (1 : Int32))), se.2.2.2.2.2.2.2.1, se.2.2.2.2.2.2.2.2.1, se.2.2.2.2.2.2.2.2.2)) → lv_has ls 3 [] → W p l e (zRm 0 0 0) s m args below meth c H locs 0 0 (MQ below (zQ G A (po_X4_believe G h ad se a)) args s 0 0 A) (F0 m 79 ls []) := by
      intro H locs ls hW hl
      exact zvret B hr hlk hW ⟨rfl, rfl⟩ (Nat.le_refl _) (Nat.le_refl _) dX4_believe_79
    refine lv_if_eq (tgt := 79) hx hb dX4_believe_51 (by decide) (fun c_51 => ?_) (fun c_51 => ?_)
    · have e_0 : (if (se.2.2.2.2.1 a.toNatClampNeg) = (0 : Int32) then (upd se.1 a.toNatClampNeg (if ((se.1 a.toNatClampNeg) + (10 : Int32)) ≤ (100 : Int32) then ((se.1 a.toNatClampNeg) + (10 : Int32)) else (100 : Int32))) else (if ((upd se.2.2.2.2.2.2.1 a.toNatClampNeg ((se.2.2.2.2.2.2.1 a.toNatClampNeg) + (1 : Int32))) a.toNatClampNeg) < (3 : Int32) then (upd se.1 a.toNatClampNeg (if ((se.1 a.toNatClampNeg) + (10 : Int32)) ≤ (100 : Int32) then ((se.1 a.toNatClampNeg) + (10 : Int32)) else (100 : Int32))) else (upd (upd se.1 a.toNatClampNeg (if ((se.1 a.toNatClampNeg) + (10 : Int32)) ≤ (100 : Int32) then ((se.1 a.toNatClampNeg) + (10 : Int32)) else (100 : Int32))) a.toNatClampNeg (30 : Int32)))) = (upd se.1 a.toNatClampNeg (if ((se.1 a.toNatClampNeg) + (10 : Int32)) ≤ (100 : Int32) then ((se.1 a.toNatClampNeg) + (10 : Int32)) else (100 : Int32))) := if_pos c_51
      have e_1 : (if (se.2.2.2.2.1 a.toNatClampNeg) = (0 : Int32) then se.2.2.2.2.1 else (if ((upd se.2.2.2.2.2.2.1 a.toNatClampNeg ((se.2.2.2.2.2.2.1 a.toNatClampNeg) + (1 : Int32))) a.toNatClampNeg) < (3 : Int32) then se.2.2.2.2.1 else (upd se.2.2.2.2.1 a.toNatClampNeg (0 : Int32)))) = se.2.2.2.2.1 := if_pos c_51
      exact J_2 _ _ _ (hW.eq (by (try rw [e_0]) <;> (try rw [e_1]) <;> rfl)) (by (try rw [e_0]) <;> (try rw [e_1]) <;> exact lv_sub hl [] rfl)
    · refine lv_aload_n hx hb dX4_believe_54 rfl (lv_at hl 0 rfl) ?_
      refine zget B hW 0 rfl lf_X4_31 rfl dX4_believe_55 ?_
      refine lv_iload_n hx hb dX4_believe_58 rfl (lv_at hl 1 rfl) ?_
      refine ziald B hW 7 rfl (ha) dX4_believe_59 ?_
      refine lv_iconst (v := (3 : Int32)) hx hb dX4_believe_60 (by decide) ?_
      refine lv_icmp_lt (tgt := 79) hx hb dX4_believe_61 (by decide) (fun c_61 => ?_) (fun c_61 => ?_)
      · have e_0 : (if (se.2.2.2.2.1 a.toNatClampNeg) = (0 : Int32) then (upd se.1 a.toNatClampNeg (if ((se.1 a.toNatClampNeg) + (10 : Int32)) ≤ (100 : Int32) then ((se.1 a.toNatClampNeg) + (10 : Int32)) else (100 : Int32))) else (if ((upd se.2.2.2.2.2.2.1 a.toNatClampNeg ((se.2.2.2.2.2.2.1 a.toNatClampNeg) + (1 : Int32))) a.toNatClampNeg) < (3 : Int32) then (upd se.1 a.toNatClampNeg (if ((se.1 a.toNatClampNeg) + (10 : Int32)) ≤ (100 : Int32) then ((se.1 a.toNatClampNeg) + (10 : Int32)) else (100 : Int32))) else (upd (upd se.1 a.toNatClampNeg (if ((se.1 a.toNatClampNeg) + (10 : Int32)) ≤ (100 : Int32) then ((se.1 a.toNatClampNeg) + (10 : Int32)) else (100 : Int32))) a.toNatClampNeg (30 : Int32)))) = (upd se.1 a.toNatClampNeg (if ((se.1 a.toNatClampNeg) + (10 : Int32)) ≤ (100 : Int32) then ((se.1 a.toNatClampNeg) + (10 : Int32)) else (100 : Int32))) := (if_neg c_51).trans (if_pos c_61)
        have e_1 : (if (se.2.2.2.2.1 a.toNatClampNeg) = (0 : Int32) then se.2.2.2.2.1 else (if ((upd se.2.2.2.2.2.2.1 a.toNatClampNeg ((se.2.2.2.2.2.2.1 a.toNatClampNeg) + (1 : Int32))) a.toNatClampNeg) < (3 : Int32) then se.2.2.2.2.1 else (upd se.2.2.2.2.1 a.toNatClampNeg (0 : Int32)))) = se.2.2.2.2.1 := (if_neg c_51).trans (if_pos c_61)
        exact J_2 _ _ _ (hW.eq (by (try rw [e_0]) <;> (try rw [e_1]) <;> rfl)) (by (try rw [e_0]) <;> (try rw [e_1]) <;> exact lv_sub hl [] rfl)
      · refine lv_aload_n hx hb dX4_believe_64 rfl (lv_at hl 0 rfl) ?_
        refine zget B hW 0 rfl lf_X4_25 rfl dX4_believe_65 ?_
        refine lv_iload_n hx hb dX4_believe_68 rfl (lv_at hl 1 rfl) ?_
        refine lv_iconst (v := (0 : Int32)) hx hb dX4_believe_69 (by decide) ?_
        refine zzast B hW 5 rfl (by first | decide | ((repeat' split) <;> rfl)) (ha) dX4_believe_70 (fun H locs hW => ?_)
        refine lv_aload_n hx hb dX4_believe_71 rfl (lv_at hl 0 rfl) ?_
        refine zget B hW 0 rfl lf_X4_9 rfl dX4_believe_72 ?_
        refine lv_iload_n hx hb dX4_believe_75 rfl (lv_at hl 1 rfl) ?_
        refine lv_bipush (v := (30 : Int32)) hx hb dX4_believe_76 (by decide) ?_
        refine ziast B hW 1 rfl (ha) dX4_believe_78 (fun H locs hW => ?_)
        have e_0 : (if (se.2.2.2.2.1 a.toNatClampNeg) = (0 : Int32) then (upd se.1 a.toNatClampNeg (if ((se.1 a.toNatClampNeg) + (10 : Int32)) ≤ (100 : Int32) then ((se.1 a.toNatClampNeg) + (10 : Int32)) else (100 : Int32))) else (if ((upd se.2.2.2.2.2.2.1 a.toNatClampNeg ((se.2.2.2.2.2.2.1 a.toNatClampNeg) + (1 : Int32))) a.toNatClampNeg) < (3 : Int32) then (upd se.1 a.toNatClampNeg (if ((se.1 a.toNatClampNeg) + (10 : Int32)) ≤ (100 : Int32) then ((se.1 a.toNatClampNeg) + (10 : Int32)) else (100 : Int32))) else (upd (upd se.1 a.toNatClampNeg (if ((se.1 a.toNatClampNeg) + (10 : Int32)) ≤ (100 : Int32) then ((se.1 a.toNatClampNeg) + (10 : Int32)) else (100 : Int32))) a.toNatClampNeg (30 : Int32)))) = (upd (upd se.1 a.toNatClampNeg (if ((se.1 a.toNatClampNeg) + (10 : Int32)) ≤ (100 : Int32) then ((se.1 a.toNatClampNeg) + (10 : Int32)) else (100 : Int32))) a.toNatClampNeg (30 : Int32)) := (if_neg c_51).trans (if_neg c_61)
        have e_1 : (if (se.2.2.2.2.1 a.toNatClampNeg) = (0 : Int32) then se.2.2.2.2.1 else (if ((upd se.2.2.2.2.2.2.1 a.toNatClampNeg ((se.2.2.2.2.2.2.1 a.toNatClampNeg) + (1 : Int32))) a.toNatClampNeg) < (3 : Int32) then se.2.2.2.2.1 else (upd se.2.2.2.2.1 a.toNatClampNeg (0 : Int32)))) = (upd se.2.2.2.2.1 a.toNatClampNeg (0 : Int32)) := (if_neg c_51).trans (if_neg c_61)
        exact J_2 _ _ _ (hW.eq (by (try rw [e_0]) <;> (try rw [e_1]) <;> rfl)) (by (try rw [e_0]) <;> (try rw [e_1]) <;> exact lv_sub hl [] rfl)
  refine lv_icmp_le (tgt := 43) hx hb dX4_believe_35 (by decide) (fun c_35 => ?_) (fun c_35 => ?_)
  · refine lv_iload_n hx hb dX4_believe_43 rfl (lv_at hl 0 rfl) ?_
    have e_0 : (if ((se.1 a.toNatClampNeg) + (10 : Int32)) ≤ (100 : Int32) then ((se.1 a.toNatClampNeg) + (10 : Int32)) else (100 : Int32)) = ((se.1 a.toNatClampNeg) + (10 : Int32)) := if_pos c_35
    refine W.eq (g2 := F0 m 44 ls [.int (if ((se.1 a.toNatClampNeg) + (10 : Int32)) ≤ (100 : Int32) then ((se.1 a.toNatClampNeg) + (10 : Int32)) else (100 : Int32)), .int a, .ref (ad 0)]) (by (try rw [e_0]) <;> rfl) ?_
    exact J_1 _ _ _ (hW.eq (by (try rw [e_0]) <;> rfl)) (by (try rw [e_0]) <;> exact lv_sub hl [1, 2] rfl)
  · refine lv_bipush (v := (100 : Int32)) hx hb dX4_believe_38 (by decide) ?_
    refine lv_goto (tgt := 44) hx hb dX4_believe_40 (by decide) ?_
    have e_0 : (if ((se.1 a.toNatClampNeg) + (10 : Int32)) ≤ (100 : Int32) then ((se.1 a.toNatClampNeg) + (10 : Int32)) else (100 : Int32)) = (100 : Int32) := if_neg c_35
    refine W.eq (g2 := F0 m 44 ls [.int (if ((se.1 a.toNatClampNeg) + (10 : Int32)) ≤ (100 : Int32) then ((se.1 a.toNatClampNeg) + (10 : Int32)) else (100 : Int32)), .int a, .ref (ad 0)]) (by (try rw [e_0]) <;> rfl) ?_
    exact J_1 _ _ _ (hW.eq (by (try rw [e_0]) <;> rfl)) (by (try rw [e_0]) <;> exact lv_sub hl [1, 2] rfl)
def g_X4_doubt_se_0 (se_0 : Nat → Int32) (a : Int32) : Nat → Int32 := (upd se_0 a.toNatClampNeg (if (0 : Int32) ≤ ((se_0 a.toNatClampNeg) - (20 : Int32)) then ((se_0 a.toNatClampNeg) - (20 : Int32)) else (0 : Int32)))
def g_X4_doubt_se_4 (se_4 : Nat → Int32) (se_5 : Nat → Int32) (a : Int32) : Nat → Int32 := (if ((upd se_5 a.toNatClampNeg ((se_5 a.toNatClampNeg) + (1 : Int32))) a.toNatClampNeg) < (2 : Int32) then se_4 else (upd se_4 a.toNatClampNeg (1 : Int32)))
def g_X4_doubt_se_5 (se_5 : Nat → Int32) (a : Int32) : Nat → Int32 := (upd se_5 a.toNatClampNeg ((se_5 a.toNatClampNeg) + (1 : Int32)))
def g_X4_doubt_se_6 (se_6 : Nat → Int32) (a : Int32) : Nat → Int32 := (upd se_6 a.toNatClampNeg (0 : Int32))
def f_X4_doubt_se (se : zSens) (a : Int32) : zSens := (g_X4_doubt_se_0 se.1 a, se.2.1, se.2.2.1, se.2.2.2.1, g_X4_doubt_se_4 se.2.2.2.2.1 se.2.2.2.2.2.1 a, g_X4_doubt_se_5 se.2.2.2.2.2.1 a, g_X4_doubt_se_6 se.2.2.2.2.2.2.1 a, se.2.2.2.2.2.2.2.1, se.2.2.2.2.2.2.2.2.1, se.2.2.2.2.2.2.2.2.2)
abbrev po_X4_doubt (G : zG) (h : Nat) (ad : Nat → Nat) (se : zSens) (a : Int32) : Option Value → va_W → Prop := fun r u => r = none ∧ u = sensW G h ad (f_X4_doubt_se se a)
set_option maxHeartbeats 4000000 in
set_option maxRecDepth 100000 in
theorem c_X4_doubt (l : Launch) (G : zG) (h : Nat) (ad : Nat → Nat) (se : zSens) (a : Int32) (ha : vp_in a 10) : zC l yX4_doubt cX4_doubt 3 none 0 0 0 G [.ref h, .int a] (sensW G h ad se) (po_X4_doubt G h ad se a) := by
  refine zC.of RX4 rfl (by decide) (Nat.le_of_ble_eq_true rfl) ?_
  intro p e s m args below meth c A ls B hr hlk hnm hW hl
  have hx := B.x
  have hb := B.b
  have hl : lv_has ls 3 [(0, .ref h), (1, .int a)] := hl
  refine lv_aload_n hx hb dX4_doubt_0 rfl (lv_at hl 0 rfl) ?_
  refine zget B hW 0 rfl lf_X4_31 rfl dX4_doubt_1 ?_
  refine lv_iload_n hx hb dX4_doubt_4 rfl (lv_at hl 1 rfl) ?_
  refine lv_iconst (v := (0 : Int32)) hx hb dX4_doubt_5 (by decide) ?_
  refine ziast B hW 7 rfl (ha) dX4_doubt_6 (fun H locs hW => ?_)
  refine lv_aload_n hx hb dX4_doubt_7 rfl (lv_at hl 0 rfl) ?_
  refine zget B hW 0 rfl lf_X4_28 rfl dX4_doubt_8 ?_
  refine lv_iload_n hx hb dX4_doubt_11 rfl (lv_at hl 1 rfl) ?_
  refine lv_dup2_11 hx hb dX4_doubt_12 rfl rfl ?_
  refine ziald B hW 6 rfl (ha) dX4_doubt_13 ?_
  refine lv_iconst (v := (1 : Int32)) hx hb dX4_doubt_14 (by decide) ?_
  refine lv_iadd hx hb dX4_doubt_15 ?_
  refine ziast B hW 6 rfl (ha) dX4_doubt_16 (fun H locs hW => ?_)
  refine lv_aload_n hx hb dX4_doubt_17 rfl (lv_at hl 0 rfl) ?_
  refine zget B hW 0 rfl lf_X4_9 rfl dX4_doubt_18 ?_
  refine lv_iload_n hx hb dX4_doubt_21 rfl (lv_at hl 1 rfl) ?_
  refine ziald B hW 1 rfl (ha) dX4_doubt_22 ?_
  refine lv_bipush (v := (20 : Int32)) hx hb dX4_doubt_23 (by decide) ?_
  refine lv_isub hx hb dX4_doubt_25 ?_
  refine lv_istore_n hx hb dX4_doubt_26 rfl hl (by decide) rfl (fun ls hl => ?_)
  refine lv_aload_n hx hb dX4_doubt_27 rfl (lv_at hl 1 rfl) ?_
  refine zget B hW 0 rfl lf_X4_9 rfl dX4_doubt_28 ?_
  refine lv_iload_n hx hb dX4_doubt_31 rfl (lv_at hl 2 rfl) ?_
  refine lv_iload_n hx hb dX4_doubt_32 rfl (lv_at hl 0 rfl) ?_
  have J_1 : ∀ (H : Heap) (locs : List Loc) (ls : Array Slot), zW G A s.heap H locs (sensW G h ad (se.1, se.2.1, se.2.2.1, se.2.2.2.1, se.2.2.2.2.1, (upd se.2.2.2.2.2.1 a.toNatClampNeg ((se.2.2.2.2.2.1 a.toNatClampNeg) + (1 : Int32))), (upd se.2.2.2.2.2.2.1 a.toNatClampNeg (0 : Int32)), se.2.2.2.2.2.2.2.1, se.2.2.2.2.2.2.2.2.1, se.2.2.2.2.2.2.2.2.2)) → lv_has ls 3 [(0, .ref h), (1, .int a)] → W p l e (zRm 0 0 0) s m args below meth c H locs 0 0 (MQ below (zQ G A (po_X4_doubt G h ad se a)) args s 0 0 A) (F0 m 41 ls [.int (if (0 : Int32) ≤ ((se.1 a.toNatClampNeg) - (20 : Int32)) then ((se.1 a.toNatClampNeg) - (20 : Int32)) else (0 : Int32)), .int a, .ref (ad 0)]) := by
    intro H locs ls hW hl
    refine ziast B hW 1 rfl (ha) dX4_doubt_41 (fun H locs hW => ?_)
    refine lv_aload_n hx hb dX4_doubt_42 rfl (lv_at hl 0 rfl) ?_
    refine zget B hW 0 rfl lf_X4_28 rfl dX4_doubt_43 ?_
    refine lv_iload_n hx hb dX4_doubt_46 rfl (lv_at hl 1 rfl) ?_
    refine ziald B hW 6 rfl (ha) dX4_doubt_47 ?_
    refine lv_iconst (v := (2 : Int32)) hx hb dX4_doubt_48 (by decide) ?_
    have J_2 : ∀ (H : Heap) (locs : List Loc) (ls : Array Slot), zW G A s.heap H locs (sensW G h ad ((upd se.1 a.toNatClampNeg (if (0 : Int32) ≤ ((se.1 a.toNatClampNeg) - (20 : Int32)) then ((se.1 a.toNatClampNeg) - (20 : Int32)) else (0 : Int32))), se.2.1, se.2.2.1, se.2.2.2.1, (if ((upd se.2.2.2.2.2.1 a.toNatClampNeg ((se.2.2.2.2.2.1 a.toNatClampNeg) + (1 : Int32))) a.toNatClampNeg) < (2 : Int32) then se.2.2.2.2.1 else (upd se.2.2.2.2.1 a.toNatClampNeg (1 : Int32))), (upd se.2.2.2.2.2.1 a.toNatClampNeg ((se.2.2.2.2.2.1 a.toNatClampNeg) + (1 : Int32))), (upd se.2.2.2.2.2.2.1 a.toNatClampNeg (0 : Int32)), se.2.2.2.2.2.2.2.1, se.2.2.2.2.2.2.2.2.1, se.2.2.2.2.2.2.2.2.2)) → lv_has ls 3 [] → W p l e (zRm 0 0 0) s m args below meth c H locs 0 0 (MQ below (zQ G A (po_X4_doubt G h ad se a)) args s 0 0 A) (F0 m 59 ls []) := by
      intro H locs ls hW hl
      exact zvret B hr hlk hW ⟨rfl, rfl⟩ (Nat.le_refl _) (Nat.le_refl _) dX4_doubt_59
    refine lv_icmp_lt (tgt := 59) hx hb dX4_doubt_49 (by decide) (fun c_49 => ?_) (fun c_49 => ?_)
    · have e_0 : (if ((upd se.2.2.2.2.2.1 a.toNatClampNeg ((se.2.2.2.2.2.1 a.toNatClampNeg) + (1 : Int32))) a.toNatClampNeg) < (2 : Int32) then se.2.2.2.2.1 else (upd se.2.2.2.2.1 a.toNatClampNeg (1 : Int32))) = se.2.2.2.2.1 := if_pos c_49
      exact J_2 _ _ _ (hW.eq (by (try rw [e_0]) <;> rfl)) (by (try rw [e_0]) <;> exact lv_sub hl [] rfl)
    · refine lv_aload_n hx hb dX4_doubt_52 rfl (lv_at hl 0 rfl) ?_
      refine zget B hW 0 rfl lf_X4_25 rfl dX4_doubt_53 ?_
      refine lv_iload_n hx hb dX4_doubt_56 rfl (lv_at hl 1 rfl) ?_
      refine lv_iconst (v := (1 : Int32)) hx hb dX4_doubt_57 (by decide) ?_
      refine zzast B hW 5 rfl (by first | decide | ((repeat' split) <;> rfl)) (ha) dX4_doubt_58 (fun H locs hW => ?_)
      have e_0 : (if ((upd se.2.2.2.2.2.1 a.toNatClampNeg ((se.2.2.2.2.2.1 a.toNatClampNeg) + (1 : Int32))) a.toNatClampNeg) < (2 : Int32) then se.2.2.2.2.1 else (upd se.2.2.2.2.1 a.toNatClampNeg (1 : Int32))) = (upd se.2.2.2.2.1 a.toNatClampNeg (1 : Int32)) := if_neg c_49
      exact J_2 _ _ _ (hW.eq (by (try rw [e_0]) <;> rfl)) (by (try rw [e_0]) <;> exact lv_sub hl [] rfl)
  refine lv_if_ge (tgt := 40) hx hb dX4_doubt_33 (by decide) (fun c_33 => ?_) (fun c_33 => ?_)
  · refine lv_iload_n hx hb dX4_doubt_40 rfl (lv_at hl 0 rfl) ?_
    have e_0 : (if (0 : Int32) ≤ ((se.1 a.toNatClampNeg) - (20 : Int32)) then ((se.1 a.toNatClampNeg) - (20 : Int32)) else (0 : Int32)) = ((se.1 a.toNatClampNeg) - (20 : Int32)) := if_pos c_33
    refine W.eq (g2 := F0 m 41 ls [.int (if (0 : Int32) ≤ ((se.1 a.toNatClampNeg) - (20 : Int32)) then ((se.1 a.toNatClampNeg) - (20 : Int32)) else (0 : Int32)), .int a, .ref (ad 0)]) (by (try rw [e_0]) <;> rfl) ?_
    exact J_1 _ _ _ (hW.eq (by (try rw [e_0]) <;> rfl)) (by (try rw [e_0]) <;> exact lv_sub hl [1, 2] rfl)
  · refine lv_iconst (v := (0 : Int32)) hx hb dX4_doubt_36 (by decide) ?_
    refine lv_goto (tgt := 41) hx hb dX4_doubt_37 (by decide) ?_
    have e_0 : (if (0 : Int32) ≤ ((se.1 a.toNatClampNeg) - (20 : Int32)) then ((se.1 a.toNatClampNeg) - (20 : Int32)) else (0 : Int32)) = (0 : Int32) := if_neg c_33
    refine W.eq (g2 := F0 m 41 ls [.int (if (0 : Int32) ≤ ((se.1 a.toNatClampNeg) - (20 : Int32)) then ((se.1 a.toNatClampNeg) - (20 : Int32)) else (0 : Int32)), .int a, .ref (ad 0)]) (by (try rw [e_0]) <;> rfl) ?_
    exact J_1 _ _ _ (hW.eq (by (try rw [e_0]) <;> rfl)) (by (try rw [e_0]) <;> exact lv_sub hl [1, 2] rfl)
def st_X4_judgeAll_2 (q_se_1 : Nat → Int32) (q_se_2 : Nat → Int32) (q_se_3 : Nat → Int32) (q_se_4 : Nat → Int32) (n : Nat) (i_2 : Nat) (y : (Nat → Int32)) : (Nat → Int32) := (upd y i_2 (r_X4_verdictOn q_se_1 q_se_2 q_se_3 q_se_4 (nI i_2) n))
def lp_X4_judgeAll_2 (q_se_1 : Nat → Int32) (q_se_2 : Nat → Int32) (q_se_3 : Nat → Int32) (q_se_4 : Nat → Int32) (n : Nat) (y0 : (Nat → Int32)) : Nat → (Nat → Int32)
  | 0 => y0
  | n0 + 1 => st_X4_judgeAll_2 q_se_1 q_se_2 q_se_3 q_se_4 n n0 (lp_X4_judgeAll_2 q_se_1 q_se_2 q_se_3 q_se_4 n y0 n0)
termination_by n0 => n0
theorem lp_X4_judgeAll_2_0 (q_se_1 : Nat → Int32) (q_se_2 : Nat → Int32) (q_se_3 : Nat → Int32) (q_se_4 : Nat → Int32) (n : Nat) (y0 : (Nat → Int32)) : lp_X4_judgeAll_2 q_se_1 q_se_2 q_se_3 q_se_4 n y0 0 = y0 := by rw [lp_X4_judgeAll_2]
theorem lp_X4_judgeAll_2_s (q_se_1 : Nat → Int32) (q_se_2 : Nat → Int32) (q_se_3 : Nat → Int32) (q_se_4 : Nat → Int32) (n : Nat) (y0 : (Nat → Int32)) (n0 : Nat) : lp_X4_judgeAll_2 q_se_1 q_se_2 q_se_3 q_se_4 n y0 (n0 + 1) = st_X4_judgeAll_2 q_se_1 q_se_2 q_se_3 q_se_4 n n0 (lp_X4_judgeAll_2 q_se_1 q_se_2 q_se_3 q_se_4 n y0 n0) := by rw [lp_X4_judgeAll_2]
def st_X4_judgeAll_29 (q_se_7 : Nat → Int32) (i_29 : Nat) (y : (Nat → Int32) × (Nat → Int32) × (Nat → Int32) × (Nat → Int32)) : (Nat → Int32) × (Nat → Int32) × (Nat → Int32) × (Nat → Int32) := ((if (q_se_7 i_29) = (1 : Int32) then (g_X4_believe_se_0 y.1 y.2.1 y.2.2.2 (nI i_29)) else (if (q_se_7 i_29) = (2 : Int32) then (g_X4_doubt_se_0 y.1 (nI i_29)) else y.1)), (if (q_se_7 i_29) = (1 : Int32) then (g_X4_believe_se_4 y.2.1 y.2.2.2 (nI i_29)) else (if (q_se_7 i_29) = (2 : Int32) then (g_X4_doubt_se_4 y.2.1 y.2.2.1 (nI i_29)) else y.2.1)), (if (q_se_7 i_29) = (1 : Int32) then (g_X4_believe_se_5 y.2.2.1 (nI i_29)) else (if (q_se_7 i_29) = (2 : Int32) then (g_X4_doubt_se_5 y.2.2.1 (nI i_29)) else y.2.2.1)), (if (q_se_7 i_29) = (1 : Int32) then (g_X4_believe_se_6 y.2.2.2 (nI i_29)) else (if (q_se_7 i_29) = (2 : Int32) then (g_X4_doubt_se_6 y.2.2.2 (nI i_29)) else y.2.2.2)))
def lp_X4_judgeAll_29 (q_se_7 : Nat → Int32) (y0 : (Nat → Int32) × (Nat → Int32) × (Nat → Int32) × (Nat → Int32)) : Nat → (Nat → Int32) × (Nat → Int32) × (Nat → Int32) × (Nat → Int32)
  | 0 => y0
  | n0 + 1 => st_X4_judgeAll_29 q_se_7 n0 (lp_X4_judgeAll_29 q_se_7 y0 n0)
termination_by n0 => n0
theorem lp_X4_judgeAll_29_0 (q_se_7 : Nat → Int32) (y0 : (Nat → Int32) × (Nat → Int32) × (Nat → Int32) × (Nat → Int32)) : lp_X4_judgeAll_29 q_se_7 y0 0 = y0 := by rw [lp_X4_judgeAll_29]
theorem lp_X4_judgeAll_29_s (q_se_7 : Nat → Int32) (y0 : (Nat → Int32) × (Nat → Int32) × (Nat → Int32) × (Nat → Int32)) (n0 : Nat) : lp_X4_judgeAll_29 q_se_7 y0 (n0 + 1) = st_X4_judgeAll_29 q_se_7 n0 (lp_X4_judgeAll_29 q_se_7 y0 n0) := by rw [lp_X4_judgeAll_29]
def g_X4_judgeAll_se_0 (se_0 : Nat → Int32) (se_1 : Nat → Int32) (se_2 : Nat → Int32) (se_3 : Nat → Int32) (se_4 : Nat → Int32) (se_5 : Nat → Int32) (se_6 : Nat → Int32) (se_7 : Nat → Int32) (n : Nat) : Nat → Int32 := (lp_X4_judgeAll_29 (lp_X4_judgeAll_2 se_1 se_2 se_3 se_4 n se_7 n) (se_0, se_4, se_5, se_6) n).1
def g_X4_judgeAll_se_4 (se_0 : Nat → Int32) (se_1 : Nat → Int32) (se_2 : Nat → Int32) (se_3 : Nat → Int32) (se_4 : Nat → Int32) (se_5 : Nat → Int32) (se_6 : Nat → Int32) (se_7 : Nat → Int32) (n : Nat) : Nat → Int32 := (lp_X4_judgeAll_29 (lp_X4_judgeAll_2 se_1 se_2 se_3 se_4 n se_7 n) (se_0, se_4, se_5, se_6) n).2.1
def g_X4_judgeAll_se_5 (se_0 : Nat → Int32) (se_1 : Nat → Int32) (se_2 : Nat → Int32) (se_3 : Nat → Int32) (se_4 : Nat → Int32) (se_5 : Nat → Int32) (se_6 : Nat → Int32) (se_7 : Nat → Int32) (n : Nat) : Nat → Int32 := (lp_X4_judgeAll_29 (lp_X4_judgeAll_2 se_1 se_2 se_3 se_4 n se_7 n) (se_0, se_4, se_5, se_6) n).2.2.1
def g_X4_judgeAll_se_6 (se_0 : Nat → Int32) (se_1 : Nat → Int32) (se_2 : Nat → Int32) (se_3 : Nat → Int32) (se_4 : Nat → Int32) (se_5 : Nat → Int32) (se_6 : Nat → Int32) (se_7 : Nat → Int32) (n : Nat) : Nat → Int32 := (lp_X4_judgeAll_29 (lp_X4_judgeAll_2 se_1 se_2 se_3 se_4 n se_7 n) (se_0, se_4, se_5, se_6) n).2.2.2
def g_X4_judgeAll_se_7 (se_1 : Nat → Int32) (se_2 : Nat → Int32) (se_3 : Nat → Int32) (se_4 : Nat → Int32) (se_7 : Nat → Int32) (n : Nat) : Nat → Int32 := (lp_X4_judgeAll_2 se_1 se_2 se_3 se_4 n se_7 n)
def f_X4_judgeAll_se (se : zSens) (n : Nat) : zSens := (g_X4_judgeAll_se_0 se.1 se.2.1 se.2.2.1 se.2.2.2.1 se.2.2.2.2.1 se.2.2.2.2.2.1 se.2.2.2.2.2.2.1 se.2.2.2.2.2.2.2.1 n, se.2.1, se.2.2.1, se.2.2.2.1, g_X4_judgeAll_se_4 se.1 se.2.1 se.2.2.1 se.2.2.2.1 se.2.2.2.2.1 se.2.2.2.2.2.1 se.2.2.2.2.2.2.1 se.2.2.2.2.2.2.2.1 n, g_X4_judgeAll_se_5 se.1 se.2.1 se.2.2.1 se.2.2.2.1 se.2.2.2.2.1 se.2.2.2.2.2.1 se.2.2.2.2.2.2.1 se.2.2.2.2.2.2.2.1 n, g_X4_judgeAll_se_6 se.1 se.2.1 se.2.2.1 se.2.2.2.1 se.2.2.2.2.1 se.2.2.2.2.2.1 se.2.2.2.2.2.2.1 se.2.2.2.2.2.2.2.1 n, g_X4_judgeAll_se_7 se.2.1 se.2.2.1 se.2.2.2.1 se.2.2.2.2.1 se.2.2.2.2.2.2.2.1 n, se.2.2.2.2.2.2.2.2.1, se.2.2.2.2.2.2.2.2.2)
abbrev po_X4_judgeAll (G : zG) (h : Nat) (ad : Nat → Nat) (se : zSens) (n : Nat) : Option Value → va_W → Prop := fun r u => r = none ∧ u = sensW G h ad (f_X4_judgeAll_se se n)
set_option maxHeartbeats 4000000 in
set_option maxRecDepth 100000 in
theorem c_X4_judgeAll (l : Launch) (G : zG) (h : Nat) (ad : Nat → Nat) (se : zSens) (n : Nat) (hc : se.2.2.2.2.2.2.2.2.1 = nI n) (hn : n ≤ 10) : zC l yX4_judgeAll cX4_judgeAll 2 none 3 0 0 G [.ref h] (sensW G h ad se) (po_X4_judgeAll G h ad se n) := by
  refine zC.of RX4 rfl (by decide) (Nat.le_of_ble_eq_true rfl) ?_
  intro p e s m args below meth c A ls B hr hlk hnm hW hl
  have hx := B.x
  have hb := B.b
  have hl : lv_has ls 2 [(0, .ref h)] := hl
  refine lv_iconst (v := (0 : Int32)) hx hb dX4_judgeAll_0 (by decide) ?_
  refine lv_istore_n hx hb dX4_judgeAll_1 rfl hl (by decide) rfl (fun ls hl => ?_)
  have L_1 : ∀ i_2 : Nat, i_2 ≤ n → ∀ (H : Heap) (locs : List Loc) (ls : Array Slot), zW G A s.heap H locs (sensW G h ad (se.1, se.2.1, se.2.2.1, se.2.2.2.1, se.2.2.2.2.1, se.2.2.2.2.2.1, se.2.2.2.2.2.2.1, (lp_X4_judgeAll_2 se.2.1 se.2.2.1 se.2.2.2.1 se.2.2.2.2.1 n se.2.2.2.2.2.2.2.1 i_2), se.2.2.2.2.2.2.2.2.1, se.2.2.2.2.2.2.2.2.2)) → lv_has ls 2 [(0, .ref h), (1, .int (nI i_2))] → W p l e (zRm 3 0 0) s m args below meth c H locs 0 0 (MQ below (zQ G A (po_X4_judgeAll G h ad se n)) args s 0 0 A) (F0 m 2 ls []) := by
    refine zloop n ?_ ?_
    · intro H locs ls hW hl
      refine lv_iload_n hx hb dX4_judgeAll_2 rfl (lv_at hl 1 rfl) ?_
      refine lv_aload_n hx hb dX4_judgeAll_3 rfl (lv_at hl 0 rfl) ?_
      refine zget B hW 0 rfl lf_X4_37 rfl dX4_judgeAll_4 ?_
      refine lv_icmp_ge (tgt := 27) hx hb dX4_judgeAll_7 (by decide) (fun c_7 => ?_) (fun c_7 => absurd (zge (hc)) c_7)
      refine lv_iconst (v := (0 : Int32)) hx hb dX4_judgeAll_27 (by decide) ?_
      refine lv_istore_n hx hb dX4_judgeAll_28 rfl hl (by decide) rfl (fun ls hl => ?_)
      have L_2 : ∀ i_29 : Nat, i_29 ≤ n → ∀ (H : Heap) (locs : List Loc) (ls : Array Slot), zW G A s.heap H locs (sensW G h ad ((lp_X4_judgeAll_29 (lp_X4_judgeAll_2 se.2.1 se.2.2.1 se.2.2.2.1 se.2.2.2.2.1 n se.2.2.2.2.2.2.2.1 n) (se.1, se.2.2.2.2.1, se.2.2.2.2.2.1, se.2.2.2.2.2.2.1) i_29).1, se.2.1, se.2.2.1, se.2.2.2.1, (lp_X4_judgeAll_29 (lp_X4_judgeAll_2 se.2.1 se.2.2.1 se.2.2.2.1 se.2.2.2.2.1 n se.2.2.2.2.2.2.2.1 n) (se.1, se.2.2.2.2.1, se.2.2.2.2.2.1, se.2.2.2.2.2.2.1) i_29).2.1, (lp_X4_judgeAll_29 (lp_X4_judgeAll_2 se.2.1 se.2.2.1 se.2.2.2.1 se.2.2.2.2.1 n se.2.2.2.2.2.2.2.1 n) (se.1, se.2.2.2.2.1, se.2.2.2.2.2.1, se.2.2.2.2.2.2.1) i_29).2.2.1, (lp_X4_judgeAll_29 (lp_X4_judgeAll_2 se.2.1 se.2.2.1 se.2.2.2.1 se.2.2.2.2.1 n se.2.2.2.2.2.2.2.1 n) (se.1, se.2.2.2.2.1, se.2.2.2.2.2.1, se.2.2.2.2.2.2.1) i_29).2.2.2, (lp_X4_judgeAll_2 se.2.1 se.2.2.1 se.2.2.2.1 se.2.2.2.2.1 n se.2.2.2.2.2.2.2.1 n), se.2.2.2.2.2.2.2.2.1, se.2.2.2.2.2.2.2.2.2)) → lv_has ls 2 [(0, .ref h), (1, .int (nI i_29))] → W p l e (zRm 3 0 0) s m args below meth c H locs 0 0 (MQ below (zQ G A (po_X4_judgeAll G h ad se n)) args s 0 0 A) (F0 m 29 ls []) := by
        refine zloop n ?_ ?_
        · intro H locs ls hW hl
          refine lv_iload_n hx hb dX4_judgeAll_29 rfl (lv_at hl 1 rfl) ?_
          refine lv_aload_n hx hb dX4_judgeAll_30 rfl (lv_at hl 0 rfl) ?_
          refine zget B hW 0 rfl lf_X4_37 rfl dX4_judgeAll_31 ?_
          refine lv_icmp_ge (tgt := 76) hx hb dX4_judgeAll_34 (by decide) (fun c_34 => ?_) (fun c_34 => absurd (zge (hc)) c_34)
          exact zvret B hr hlk hW ⟨rfl, rfl⟩ (Nat.le_refl _) (Nat.le_refl _) dX4_judgeAll_76
        · intro i_29 hi_29 ih H locs ls hW hl
          refine lv_iload_n hx hb dX4_judgeAll_29 rfl (lv_at hl 1 rfl) ?_
          refine lv_aload_n hx hb dX4_judgeAll_30 rfl (lv_at hl 0 rfl) ?_
          refine zget B hW 0 rfl lf_X4_37 rfl dX4_judgeAll_31 ?_
          refine lv_icmp_ge (tgt := 76) hx hb dX4_judgeAll_34 (by decide) (fun c_34 => absurd c_34 (znle (hc) hi_29 (by omega))) (fun c_34 => ?_)
          refine lv_aload_n hx hb dX4_judgeAll_37 rfl (lv_at hl 0 rfl) ?_
          refine zget B hW 0 rfl lf_X4_34 rfl dX4_judgeAll_38 ?_
          refine lv_iload_n hx hb dX4_judgeAll_41 rfl (lv_at hl 1 rfl) ?_
          refine zialdN B hW 8 rfl i_29 rfl (by omega) (by decide) dX4_judgeAll_42 ?_
          refine lv_iconst (v := (1 : Int32)) hx hb dX4_judgeAll_43 (by decide) ?_
          have J_3 : ∀ (H : Heap) (locs : List Loc) (ls : Array Slot), zW G A s.heap H locs (sensW G h ad ((if ((lp_X4_judgeAll_2 se.2.1 se.2.2.1 se.2.2.2.1 se.2.2.2.2.1 n se.2.2.2.2.2.2.2.1 n) i_29) = (1 : Int32) then (g_X4_believe_se_0 ((lp_X4_judgeAll_29 (lp_X4_judgeAll_2 se.2.1 se.2.2.1 se.2.2.2.1 se.2.2.2.2.1 n se.2.2.2.2.2.2.2.1 n) (se.1, se.2.2.2.2.1, se.2.2.2.2.2.1, se.2.2.2.2.2.2.1) i_29).1) ((lp_X4_judgeAll_29 (lp_X4_judgeAll_2 se.2.1 se.2.2.1 se.2.2.2.1 se.2.2.2.2.1 n se.2.2.2.2.2.2.2.1 n) (se.1, se.2.2.2.2.1, se.2.2.2.2.2.1, se.2.2.2.2.2.2.1) i_29).2.1) ((lp_X4_judgeAll_29 (lp_X4_judgeAll_2 se.2.1 se.2.2.1 se.2.2.2.1 se.2.2.2.2.1 n se.2.2.2.2.2.2.2.1 n) (se.1, se.2.2.2.2.1, se.2.2.2.2.2.1, se.2.2.2.2.2.2.1) i_29).2.2.2) (nI i_29)) else (if ((lp_X4_judgeAll_2 se.2.1 se.2.2.1 se.2.2.2.1 se.2.2.2.2.1 n se.2.2.2.2.2.2.2.1 n) i_29) = (2 : Int32) then (g_X4_doubt_se_0 ((lp_X4_judgeAll_29 (lp_X4_judgeAll_2 se.2.1 se.2.2.1 se.2.2.2.1 se.2.2.2.2.1 n se.2.2.2.2.2.2.2.1 n) (se.1, se.2.2.2.2.1, se.2.2.2.2.2.1, se.2.2.2.2.2.2.1) i_29).1) (nI i_29)) else (lp_X4_judgeAll_29 (lp_X4_judgeAll_2 se.2.1 se.2.2.1 se.2.2.2.1 se.2.2.2.2.1 n se.2.2.2.2.2.2.2.1 n) (se.1, se.2.2.2.2.1, se.2.2.2.2.2.1, se.2.2.2.2.2.2.1) i_29).1)), se.2.1, se.2.2.1, se.2.2.2.1, (if ((lp_X4_judgeAll_2 se.2.1 se.2.2.1 se.2.2.2.1 se.2.2.2.2.1 n se.2.2.2.2.2.2.2.1 n) i_29) = (1 : Int32) then (g_X4_believe_se_4 ((lp_X4_judgeAll_29 (lp_X4_judgeAll_2 se.2.1 se.2.2.1 se.2.2.2.1 se.2.2.2.2.1 n se.2.2.2.2.2.2.2.1 n) (se.1, se.2.2.2.2.1, se.2.2.2.2.2.1, se.2.2.2.2.2.2.1) i_29).2.1) ((lp_X4_judgeAll_29 (lp_X4_judgeAll_2 se.2.1 se.2.2.1 se.2.2.2.1 se.2.2.2.2.1 n se.2.2.2.2.2.2.2.1 n) (se.1, se.2.2.2.2.1, se.2.2.2.2.2.1, se.2.2.2.2.2.2.1) i_29).2.2.2) (nI i_29)) else (if ((lp_X4_judgeAll_2 se.2.1 se.2.2.1 se.2.2.2.1 se.2.2.2.2.1 n se.2.2.2.2.2.2.2.1 n) i_29) = (2 : Int32) then (g_X4_doubt_se_4 ((lp_X4_judgeAll_29 (lp_X4_judgeAll_2 se.2.1 se.2.2.1 se.2.2.2.1 se.2.2.2.2.1 n se.2.2.2.2.2.2.2.1 n) (se.1, se.2.2.2.2.1, se.2.2.2.2.2.1, se.2.2.2.2.2.2.1) i_29).2.1) ((lp_X4_judgeAll_29 (lp_X4_judgeAll_2 se.2.1 se.2.2.1 se.2.2.2.1 se.2.2.2.2.1 n se.2.2.2.2.2.2.2.1 n) (se.1, se.2.2.2.2.1, se.2.2.2.2.2.1, se.2.2.2.2.2.2.1) i_29).2.2.1) (nI i_29)) else (lp_X4_judgeAll_29 (lp_X4_judgeAll_2 se.2.1 se.2.2.1 se.2.2.2.1 se.2.2.2.2.1 n se.2.2.2.2.2.2.2.1 n) (se.1, se.2.2.2.2.1, se.2.2.2.2.2.1, se.2.2.2.2.2.2.1) i_29).2.1)), (if ((lp_X4_judgeAll_2 se.2.1 se.2.2.1 se.2.2.2.1 se.2.2.2.2.1 n se.2.2.2.2.2.2.2.1 n) i_29) = (1 : Int32) then (g_X4_believe_se_5 ((lp_X4_judgeAll_29 (lp_X4_judgeAll_2 se.2.1 se.2.2.1 se.2.2.2.1 se.2.2.2.2.1 n se.2.2.2.2.2.2.2.1 n) (se.1, se.2.2.2.2.1, se.2.2.2.2.2.1, se.2.2.2.2.2.2.1) i_29).2.2.1) (nI i_29)) else (if ((lp_X4_judgeAll_2 se.2.1 se.2.2.1 se.2.2.2.1 se.2.2.2.2.1 n se.2.2.2.2.2.2.2.1 n) i_29) = (2 : Int32) then (g_X4_doubt_se_5 ((lp_X4_judgeAll_29 (lp_X4_judgeAll_2 se.2.1 se.2.2.1 se.2.2.2.1 se.2.2.2.2.1 n se.2.2.2.2.2.2.2.1 n) (se.1, se.2.2.2.2.1, se.2.2.2.2.2.1, se.2.2.2.2.2.2.1) i_29).2.2.1) (nI i_29)) else (lp_X4_judgeAll_29 (lp_X4_judgeAll_2 se.2.1 se.2.2.1 se.2.2.2.1 se.2.2.2.2.1 n se.2.2.2.2.2.2.2.1 n) (se.1, se.2.2.2.2.1, se.2.2.2.2.2.1, se.2.2.2.2.2.2.1) i_29).2.2.1)), (if ((lp_X4_judgeAll_2 se.2.1 se.2.2.1 se.2.2.2.1 se.2.2.2.2.1 n se.2.2.2.2.2.2.2.1 n) i_29) = (1 : Int32) then (g_X4_believe_se_6 ((lp_X4_judgeAll_29 (lp_X4_judgeAll_2 se.2.1 se.2.2.1 se.2.2.2.1 se.2.2.2.2.1 n se.2.2.2.2.2.2.2.1 n) (se.1, se.2.2.2.2.1, se.2.2.2.2.2.1, se.2.2.2.2.2.2.1) i_29).2.2.2) (nI i_29)) else (if ((lp_X4_judgeAll_2 se.2.1 se.2.2.1 se.2.2.2.1 se.2.2.2.2.1 n se.2.2.2.2.2.2.2.1 n) i_29) = (2 : Int32) then (g_X4_doubt_se_6 ((lp_X4_judgeAll_29 (lp_X4_judgeAll_2 se.2.1 se.2.2.1 se.2.2.2.1 se.2.2.2.2.1 n se.2.2.2.2.2.2.2.1 n) (se.1, se.2.2.2.2.1, se.2.2.2.2.2.1, se.2.2.2.2.2.2.1) i_29).2.2.2) (nI i_29)) else (lp_X4_judgeAll_29 (lp_X4_judgeAll_2 se.2.1 se.2.2.1 se.2.2.2.1 se.2.2.2.2.1 n se.2.2.2.2.2.2.2.1 n) (se.1, se.2.2.2.2.1, se.2.2.2.2.2.1, se.2.2.2.2.2.2.1) i_29).2.2.2)), (lp_X4_judgeAll_2 se.2.1 se.2.2.1 se.2.2.2.1 se.2.2.2.2.1 n se.2.2.2.2.2.2.2.1 n), se.2.2.2.2.2.2.2.2.1, se.2.2.2.2.2.2.2.2.2)) → lv_has ls 2 [(0, .ref h), (1, .int (nI i_29))] → W p l e (zRm 3 0 0) s m args below meth c H locs 0 0 (MQ below (zQ G A (po_X4_judgeAll G h ad se n)) args s 0 0 A) (F0 m 70 ls []) := by
            intro H locs ls hW hl
            refine lv_iinc (v := (nI (i_29 + 1))) hx hb dX4_judgeAll_70 hl (k := 1) rfl (nI_1 _) (by decide) rfl (fun ls hl => ?_)
            refine lv_goto (tgt := 29) hx hb dX4_judgeAll_73 (by decide) ?_
            exact ih _ _ _ (hW.eq (by rw [lp_X4_judgeAll_29_s] <;> rfl)) (lv_sub hl [1, 0] rfl)
          refine lv_icmp_ne (tgt := 55) hx hb dX4_judgeAll_44 (by decide) (fun c_44 => ?_) (fun c_44 => ?_)
          · refine lv_aload_n hx hb dX4_judgeAll_55 rfl (lv_at hl 0 rfl) ?_
            refine zget B hW 0 rfl lf_X4_34 rfl dX4_judgeAll_56 ?_
            refine lv_iload_n hx hb dX4_judgeAll_59 rfl (lv_at hl 1 rfl) ?_
            refine zialdN B hW 8 rfl i_29 rfl (by omega) (by decide) dX4_judgeAll_60 ?_
            refine lv_iconst (v := (2 : Int32)) hx hb dX4_judgeAll_61 (by decide) ?_
            refine lv_icmp_ne (tgt := 70) hx hb dX4_judgeAll_62 (by decide) (fun c_62 => ?_) (fun c_62 => ?_)
            · have e_0 : (if ((lp_X4_judgeAll_2 se.2.1 se.2.2.1 se.2.2.2.1 se.2.2.2.2.1 n se.2.2.2.2.2.2.2.1 n) i_29) = (1 : Int32) then (g_X4_believe_se_0 ((lp_X4_judgeAll_29 (lp_X4_judgeAll_2 se.2.1 se.2.2.1 se.2.2.2.1 se.2.2.2.2.1 n se.2.2.2.2.2.2.2.1 n) (se.1, se.2.2.2.2.1, se.2.2.2.2.2.1, se.2.2.2.2.2.2.1) i_29).1) ((lp_X4_judgeAll_29 (lp_X4_judgeAll_2 se.2.1 se.2.2.1 se.2.2.2.1 se.2.2.2.2.1 n se.2.2.2.2.2.2.2.1 n) (se.1, se.2.2.2.2.1, se.2.2.2.2.2.1, se.2.2.2.2.2.2.1) i_29).2.1) ((lp_X4_judgeAll_29 (lp_X4_judgeAll_2 se.2.1 se.2.2.1 se.2.2.2.1 se.2.2.2.2.1 n se.2.2.2.2.2.2.2.1 n) (se.1, se.2.2.2.2.1, se.2.2.2.2.2.1, se.2.2.2.2.2.2.1) i_29).2.2.2) (nI i_29)) else (if ((lp_X4_judgeAll_2 se.2.1 se.2.2.1 se.2.2.2.1 se.2.2.2.2.1 n se.2.2.2.2.2.2.2.1 n) i_29) = (2 : Int32) then (g_X4_doubt_se_0 ((lp_X4_judgeAll_29 (lp_X4_judgeAll_2 se.2.1 se.2.2.1 se.2.2.2.1 se.2.2.2.2.1 n se.2.2.2.2.2.2.2.1 n) (se.1, se.2.2.2.2.1, se.2.2.2.2.2.1, se.2.2.2.2.2.2.1) i_29).1) (nI i_29)) else (lp_X4_judgeAll_29 (lp_X4_judgeAll_2 se.2.1 se.2.2.1 se.2.2.2.1 se.2.2.2.2.1 n se.2.2.2.2.2.2.2.1 n) (se.1, se.2.2.2.2.1, se.2.2.2.2.2.1, se.2.2.2.2.2.2.1) i_29).1)) = (lp_X4_judgeAll_29 (lp_X4_judgeAll_2 se.2.1 se.2.2.1 se.2.2.2.1 se.2.2.2.2.1 n se.2.2.2.2.2.2.2.1 n) (se.1, se.2.2.2.2.1, se.2.2.2.2.2.1, se.2.2.2.2.2.2.1) i_29).1 := (if_neg c_44).trans (if_neg c_62)
              have e_1 : (if ((lp_X4_judgeAll_2 se.2.1 se.2.2.1 se.2.2.2.1 se.2.2.2.2.1 n se.2.2.2.2.2.2.2.1 n) i_29) = (1 : Int32) then (g_X4_believe_se_4 ((lp_X4_judgeAll_29 (lp_X4_judgeAll_2 se.2.1 se.2.2.1 se.2.2.2.1 se.2.2.2.2.1 n se.2.2.2.2.2.2.2.1 n) (se.1, se.2.2.2.2.1, se.2.2.2.2.2.1, se.2.2.2.2.2.2.1) i_29).2.1) ((lp_X4_judgeAll_29 (lp_X4_judgeAll_2 se.2.1 se.2.2.1 se.2.2.2.1 se.2.2.2.2.1 n se.2.2.2.2.2.2.2.1 n) (se.1, se.2.2.2.2.1, se.2.2.2.2.2.1, se.2.2.2.2.2.2.1) i_29).2.2.2) (nI i_29)) else (if ((lp_X4_judgeAll_2 se.2.1 se.2.2.1 se.2.2.2.1 se.2.2.2.2.1 n se.2.2.2.2.2.2.2.1 n) i_29) = (2 : Int32) then (g_X4_doubt_se_4 ((lp_X4_judgeAll_29 (lp_X4_judgeAll_2 se.2.1 se.2.2.1 se.2.2.2.1 se.2.2.2.2.1 n se.2.2.2.2.2.2.2.1 n) (se.1, se.2.2.2.2.1, se.2.2.2.2.2.1, se.2.2.2.2.2.2.1) i_29).2.1) ((lp_X4_judgeAll_29 (lp_X4_judgeAll_2 se.2.1 se.2.2.1 se.2.2.2.1 se.2.2.2.2.1 n se.2.2.2.2.2.2.2.1 n) (se.1, se.2.2.2.2.1, se.2.2.2.2.2.1, se.2.2.2.2.2.2.1) i_29).2.2.1) (nI i_29)) else (lp_X4_judgeAll_29 (lp_X4_judgeAll_2 se.2.1 se.2.2.1 se.2.2.2.1 se.2.2.2.2.1 n se.2.2.2.2.2.2.2.1 n) (se.1, se.2.2.2.2.1, se.2.2.2.2.2.1, se.2.2.2.2.2.2.1) i_29).2.1)) = (lp_X4_judgeAll_29 (lp_X4_judgeAll_2 se.2.1 se.2.2.1 se.2.2.2.1 se.2.2.2.2.1 n se.2.2.2.2.2.2.2.1 n) (se.1, se.2.2.2.2.1, se.2.2.2.2.2.1, se.2.2.2.2.2.2.1) i_29).2.1 := (if_neg c_44).trans (if_neg c_62)
              have e_2 : (if ((lp_X4_judgeAll_2 se.2.1 se.2.2.1 se.2.2.2.1 se.2.2.2.2.1 n se.2.2.2.2.2.2.2.1 n) i_29) = (1 : Int32) then (g_X4_believe_se_5 ((lp_X4_judgeAll_29 (lp_X4_judgeAll_2 se.2.1 se.2.2.1 se.2.2.2.1 se.2.2.2.2.1 n se.2.2.2.2.2.2.2.1 n) (se.1, se.2.2.2.2.1, se.2.2.2.2.2.1, se.2.2.2.2.2.2.1) i_29).2.2.1) (nI i_29)) else (if ((lp_X4_judgeAll_2 se.2.1 se.2.2.1 se.2.2.2.1 se.2.2.2.2.1 n se.2.2.2.2.2.2.2.1 n) i_29) = (2 : Int32) then (g_X4_doubt_se_5 ((lp_X4_judgeAll_29 (lp_X4_judgeAll_2 se.2.1 se.2.2.1 se.2.2.2.1 se.2.2.2.2.1 n se.2.2.2.2.2.2.2.1 n) (se.1, se.2.2.2.2.1, se.2.2.2.2.2.1, se.2.2.2.2.2.2.1) i_29).2.2.1) (nI i_29)) else (lp_X4_judgeAll_29 (lp_X4_judgeAll_2 se.2.1 se.2.2.1 se.2.2.2.1 se.2.2.2.2.1 n se.2.2.2.2.2.2.2.1 n) (se.1, se.2.2.2.2.1, se.2.2.2.2.2.1, se.2.2.2.2.2.2.1) i_29).2.2.1)) = (lp_X4_judgeAll_29 (lp_X4_judgeAll_2 se.2.1 se.2.2.1 se.2.2.2.1 se.2.2.2.2.1 n se.2.2.2.2.2.2.2.1 n) (se.1, se.2.2.2.2.1, se.2.2.2.2.2.1, se.2.2.2.2.2.2.1) i_29).2.2.1 := (if_neg c_44).trans (if_neg c_62)
              have e_3 : (if ((lp_X4_judgeAll_2 se.2.1 se.2.2.1 se.2.2.2.1 se.2.2.2.2.1 n se.2.2.2.2.2.2.2.1 n) i_29) = (1 : Int32) then (g_X4_believe_se_6 ((lp_X4_judgeAll_29 (lp_X4_judgeAll_2 se.2.1 se.2.2.1 se.2.2.2.1 se.2.2.2.2.1 n se.2.2.2.2.2.2.2.1 n) (se.1, se.2.2.2.2.1, se.2.2.2.2.2.1, se.2.2.2.2.2.2.1) i_29).2.2.2) (nI i_29)) else (if ((lp_X4_judgeAll_2 se.2.1 se.2.2.1 se.2.2.2.1 se.2.2.2.2.1 n se.2.2.2.2.2.2.2.1 n) i_29) = (2 : Int32) then (g_X4_doubt_se_6 ((lp_X4_judgeAll_29 (lp_X4_judgeAll_2 se.2.1 se.2.2.1 se.2.2.2.1 se.2.2.2.2.1 n se.2.2.2.2.2.2.2.1 n) (se.1, se.2.2.2.2.1, se.2.2.2.2.2.1, se.2.2.2.2.2.2.1) i_29).2.2.2) (nI i_29)) else (lp_X4_judgeAll_29 (lp_X4_judgeAll_2 se.2.1 se.2.2.1 se.2.2.2.1 se.2.2.2.2.1 n se.2.2.2.2.2.2.2.1 n) (se.1, se.2.2.2.2.1, se.2.2.2.2.2.1, se.2.2.2.2.2.2.1) i_29).2.2.2)) = (lp_X4_judgeAll_29 (lp_X4_judgeAll_2 se.2.1 se.2.2.1 se.2.2.2.1 se.2.2.2.2.1 n se.2.2.2.2.2.2.2.1 n) (se.1, se.2.2.2.2.1, se.2.2.2.2.2.1, se.2.2.2.2.2.2.1) i_29).2.2.2 := (if_neg c_44).trans (if_neg c_62)
              exact J_3 _ _ _ (hW.eq (by (try rw [e_0]) <;> (try rw [e_1]) <;> (try rw [e_2]) <;> (try rw [e_3]) <;> rfl)) (by (try rw [e_0]) <;> (try rw [e_1]) <;> (try rw [e_2]) <;> (try rw [e_3]) <;> exact lv_sub hl [0, 1] rfl)
            · refine lv_aload_n hx hb dX4_judgeAll_65 rfl (lv_at hl 0 rfl) ?_
              refine lv_iload_n hx hb dX4_judgeAll_66 rfl (lv_at hl 1 rfl) ?_
              refine zcV (w1 := []) (wc := sensW G h ad ((lp_X4_judgeAll_29 (lp_X4_judgeAll_2 se.2.1 se.2.2.1 se.2.2.2.1 se.2.2.2.2.1 n se.2.2.2.2.2.2.2.1 n) (se.1, se.2.2.2.2.1, se.2.2.2.2.2.1, se.2.2.2.2.2.2.1) i_29).1, se.2.1, se.2.2.1, se.2.2.2.1, (lp_X4_judgeAll_29 (lp_X4_judgeAll_2 se.2.1 se.2.2.1 se.2.2.2.1 se.2.2.2.2.1 n se.2.2.2.2.2.2.2.1 n) (se.1, se.2.2.2.2.1, se.2.2.2.2.2.1, se.2.2.2.2.2.2.1) i_29).2.1, (lp_X4_judgeAll_29 (lp_X4_judgeAll_2 se.2.1 se.2.2.1 se.2.2.2.1 se.2.2.2.2.1 n se.2.2.2.2.2.2.2.1 n) (se.1, se.2.2.2.2.1, se.2.2.2.2.2.1, se.2.2.2.2.2.2.1) i_29).2.2.1, (lp_X4_judgeAll_29 (lp_X4_judgeAll_2 se.2.1 se.2.2.1 se.2.2.2.1 se.2.2.2.2.1 n se.2.2.2.2.2.2.2.1 n) (se.1, se.2.2.2.2.1, se.2.2.2.2.2.1, se.2.2.2.2.2.2.1) i_29).2.2.2, (lp_X4_judgeAll_2 se.2.1 se.2.2.1 se.2.2.2.1 se.2.2.2.2.1 n se.2.2.2.2.2.2.2.1 n), se.2.2.2.2.2.2.2.2.1, se.2.2.2.2.2.2.2.2.2)) (w2 := []) (As := [.int (nI i_29)]) B (hW.eq rfl) (c_X4_doubt l G h ad ((lp_X4_judgeAll_29 (lp_X4_judgeAll_2 se.2.1 se.2.2.1 se.2.2.2.1 se.2.2.2.2.1 n se.2.2.2.2.2.2.2.1 n) (se.1, se.2.2.2.2.1, se.2.2.2.2.2.1, se.2.2.2.2.2.2.1) i_29).1, se.2.1, se.2.2.1, se.2.2.2.1, (lp_X4_judgeAll_29 (lp_X4_judgeAll_2 se.2.1 se.2.2.1 se.2.2.2.1 se.2.2.2.2.1 n se.2.2.2.2.2.2.2.1 n) (se.1, se.2.2.2.2.1, se.2.2.2.2.2.1, se.2.2.2.2.2.2.1) i_29).2.1, (lp_X4_judgeAll_29 (lp_X4_judgeAll_2 se.2.1 se.2.2.1 se.2.2.2.1 se.2.2.2.2.1 n se.2.2.2.2.2.2.2.1 n) (se.1, se.2.2.2.2.1, se.2.2.2.2.2.1, se.2.2.2.2.2.2.1) i_29).2.2.1, (lp_X4_judgeAll_29 (lp_X4_judgeAll_2 se.2.1 se.2.2.1 se.2.2.2.1 se.2.2.2.2.1 n se.2.2.2.2.2.2.2.1 n) (se.1, se.2.2.2.2.1, se.2.2.2.2.2.1, se.2.2.2.2.2.2.1) i_29).2.2.2, (lp_X4_judgeAll_2 se.2.1 se.2.2.1 se.2.2.2.1 se.2.2.2.2.1 n se.2.2.2.2.2.2.2.1 n), se.2.2.2.2.2.2.2.2.1, se.2.2.2.2.2.2.2.2.2) (nI i_29) (vp_in_nI (Nat.lt_of_lt_of_le hi_29 hn) (by decide))) yd_X4_doubt ml_X4_57 0 rfl rfl rfl rfl hl.1 rfl (Nat.le_of_ble_eq_true rfl) ⟨Nat.le_of_ble_eq_true rfl, Nat.le_of_ble_eq_true rfl⟩ ⟨(Nat.le_of_ble_eq_true rfl), (Nat.le_of_ble_eq_true rfl)⟩ dX4_judgeAll_67 (fun v u H locs hp hW => ?_)
              obtain ⟨rfl, rfl⟩ := hp
              have hW := hW.eq (w' := sensW G h ad ((g_X4_doubt_se_0 ((lp_X4_judgeAll_29 (lp_X4_judgeAll_2 se.2.1 se.2.2.1 se.2.2.2.1 se.2.2.2.2.1 n se.2.2.2.2.2.2.2.1 n) (se.1, se.2.2.2.2.1, se.2.2.2.2.2.1, se.2.2.2.2.2.2.1) i_29).1) (nI i_29)), se.2.1, se.2.2.1, se.2.2.2.1, (g_X4_doubt_se_4 ((lp_X4_judgeAll_29 (lp_X4_judgeAll_2 se.2.1 se.2.2.1 se.2.2.2.1 se.2.2.2.2.1 n se.2.2.2.2.2.2.2.1 n) (se.1, se.2.2.2.2.1, se.2.2.2.2.2.1, se.2.2.2.2.2.2.1) i_29).2.1) ((lp_X4_judgeAll_29 (lp_X4_judgeAll_2 se.2.1 se.2.2.1 se.2.2.2.1 se.2.2.2.2.1 n se.2.2.2.2.2.2.2.1 n) (se.1, se.2.2.2.2.1, se.2.2.2.2.2.1, se.2.2.2.2.2.2.1) i_29).2.2.1) (nI i_29)), (g_X4_doubt_se_5 ((lp_X4_judgeAll_29 (lp_X4_judgeAll_2 se.2.1 se.2.2.1 se.2.2.2.1 se.2.2.2.2.1 n se.2.2.2.2.2.2.2.1 n) (se.1, se.2.2.2.2.1, se.2.2.2.2.2.1, se.2.2.2.2.2.2.1) i_29).2.2.1) (nI i_29)), (g_X4_doubt_se_6 ((lp_X4_judgeAll_29 (lp_X4_judgeAll_2 se.2.1 se.2.2.1 se.2.2.2.1 se.2.2.2.2.1 n se.2.2.2.2.2.2.2.1 n) (se.1, se.2.2.2.2.1, se.2.2.2.2.2.1, se.2.2.2.2.2.2.1) i_29).2.2.2) (nI i_29)), (lp_X4_judgeAll_2 se.2.1 se.2.2.1 se.2.2.2.1 se.2.2.2.2.1 n se.2.2.2.2.2.2.2.1 n), se.2.2.2.2.2.2.2.2.1, se.2.2.2.2.2.2.2.2.2)) rfl
              have e_0 : (if ((lp_X4_judgeAll_2 se.2.1 se.2.2.1 se.2.2.2.1 se.2.2.2.2.1 n se.2.2.2.2.2.2.2.1 n) i_29) = (1 : Int32) then (g_X4_believe_se_0 ((lp_X4_judgeAll_29 (lp_X4_judgeAll_2 se.2.1 se.2.2.1 se.2.2.2.1 se.2.2.2.2.1 n se.2.2.2.2.2.2.2.1 n) (se.1, se.2.2.2.2.1, se.2.2.2.2.2.1, se.2.2.2.2.2.2.1) i_29).1) ((lp_X4_judgeAll_29 (lp_X4_judgeAll_2 se.2.1 se.2.2.1 se.2.2.2.1 se.2.2.2.2.1 n se.2.2.2.2.2.2.2.1 n) (se.1, se.2.2.2.2.1, se.2.2.2.2.2.1, se.2.2.2.2.2.2.1) i_29).2.1) ((lp_X4_judgeAll_29 (lp_X4_judgeAll_2 se.2.1 se.2.2.1 se.2.2.2.1 se.2.2.2.2.1 n se.2.2.2.2.2.2.2.1 n) (se.1, se.2.2.2.2.1, se.2.2.2.2.2.1, se.2.2.2.2.2.2.1) i_29).2.2.2) (nI i_29)) else (if ((lp_X4_judgeAll_2 se.2.1 se.2.2.1 se.2.2.2.1 se.2.2.2.2.1 n se.2.2.2.2.2.2.2.1 n) i_29) = (2 : Int32) then (g_X4_doubt_se_0 ((lp_X4_judgeAll_29 (lp_X4_judgeAll_2 se.2.1 se.2.2.1 se.2.2.2.1 se.2.2.2.2.1 n se.2.2.2.2.2.2.2.1 n) (se.1, se.2.2.2.2.1, se.2.2.2.2.2.1, se.2.2.2.2.2.2.1) i_29).1) (nI i_29)) else (lp_X4_judgeAll_29 (lp_X4_judgeAll_2 se.2.1 se.2.2.1 se.2.2.2.1 se.2.2.2.2.1 n se.2.2.2.2.2.2.2.1 n) (se.1, se.2.2.2.2.1, se.2.2.2.2.2.1, se.2.2.2.2.2.2.1) i_29).1)) = (g_X4_doubt_se_0 ((lp_X4_judgeAll_29 (lp_X4_judgeAll_2 se.2.1 se.2.2.1 se.2.2.2.1 se.2.2.2.2.1 n se.2.2.2.2.2.2.2.1 n) (se.1, se.2.2.2.2.1, se.2.2.2.2.2.1, se.2.2.2.2.2.2.1) i_29).1) (nI i_29)) := (if_neg c_44).trans (if_pos c_62)
              have e_1 : (if ((lp_X4_judgeAll_2 se.2.1 se.2.2.1 se.2.2.2.1 se.2.2.2.2.1 n se.2.2.2.2.2.2.2.1 n) i_29) = (1 : Int32) then (g_X4_believe_se_4 ((lp_X4_judgeAll_29 (lp_X4_judgeAll_2 se.2.1 se.2.2.1 se.2.2.2.1 se.2.2.2.2.1 n se.2.2.2.2.2.2.2.1 n) (se.1, se.2.2.2.2.1, se.2.2.2.2.2.1, se.2.2.2.2.2.2.1) i_29).2.1) ((lp_X4_judgeAll_29 (lp_X4_judgeAll_2 se.2.1 se.2.2.1 se.2.2.2.1 se.2.2.2.2.1 n se.2.2.2.2.2.2.2.1 n) (se.1, se.2.2.2.2.1, se.2.2.2.2.2.1, se.2.2.2.2.2.2.1) i_29).2.2.2) (nI i_29)) else (if ((lp_X4_judgeAll_2 se.2.1 se.2.2.1 se.2.2.2.1 se.2.2.2.2.1 n se.2.2.2.2.2.2.2.1 n) i_29) = (2 : Int32) then (g_X4_doubt_se_4 ((lp_X4_judgeAll_29 (lp_X4_judgeAll_2 se.2.1 se.2.2.1 se.2.2.2.1 se.2.2.2.2.1 n se.2.2.2.2.2.2.2.1 n) (se.1, se.2.2.2.2.1, se.2.2.2.2.2.1, se.2.2.2.2.2.2.1) i_29).2.1) ((lp_X4_judgeAll_29 (lp_X4_judgeAll_2 se.2.1 se.2.2.1 se.2.2.2.1 se.2.2.2.2.1 n se.2.2.2.2.2.2.2.1 n) (se.1, se.2.2.2.2.1, se.2.2.2.2.2.1, se.2.2.2.2.2.2.1) i_29).2.2.1) (nI i_29)) else (lp_X4_judgeAll_29 (lp_X4_judgeAll_2 se.2.1 se.2.2.1 se.2.2.2.1 se.2.2.2.2.1 n se.2.2.2.2.2.2.2.1 n) (se.1, se.2.2.2.2.1, se.2.2.2.2.2.1, se.2.2.2.2.2.2.1) i_29).2.1)) = (g_X4_doubt_se_4 ((lp_X4_judgeAll_29 (lp_X4_judgeAll_2 se.2.1 se.2.2.1 se.2.2.2.1 se.2.2.2.2.1 n se.2.2.2.2.2.2.2.1 n) (se.1, se.2.2.2.2.1, se.2.2.2.2.2.1, se.2.2.2.2.2.2.1) i_29).2.1) ((lp_X4_judgeAll_29 (lp_X4_judgeAll_2 se.2.1 se.2.2.1 se.2.2.2.1 se.2.2.2.2.1 n se.2.2.2.2.2.2.2.1 n) (se.1, se.2.2.2.2.1, se.2.2.2.2.2.1, se.2.2.2.2.2.2.1) i_29).2.2.1) (nI i_29)) := (if_neg c_44).trans (if_pos c_62)
              have e_2 : (if ((lp_X4_judgeAll_2 se.2.1 se.2.2.1 se.2.2.2.1 se.2.2.2.2.1 n se.2.2.2.2.2.2.2.1 n) i_29) = (1 : Int32) then (g_X4_believe_se_5 ((lp_X4_judgeAll_29 (lp_X4_judgeAll_2 se.2.1 se.2.2.1 se.2.2.2.1 se.2.2.2.2.1 n se.2.2.2.2.2.2.2.1 n) (se.1, se.2.2.2.2.1, se.2.2.2.2.2.1, se.2.2.2.2.2.2.1) i_29).2.2.1) (nI i_29)) else (if ((lp_X4_judgeAll_2 se.2.1 se.2.2.1 se.2.2.2.1 se.2.2.2.2.1 n se.2.2.2.2.2.2.2.1 n) i_29) = (2 : Int32) then (g_X4_doubt_se_5 ((lp_X4_judgeAll_29 (lp_X4_judgeAll_2 se.2.1 se.2.2.1 se.2.2.2.1 se.2.2.2.2.1 n se.2.2.2.2.2.2.2.1 n) (se.1, se.2.2.2.2.1, se.2.2.2.2.2.1, se.2.2.2.2.2.2.1) i_29).2.2.1) (nI i_29)) else (lp_X4_judgeAll_29 (lp_X4_judgeAll_2 se.2.1 se.2.2.1 se.2.2.2.1 se.2.2.2.2.1 n se.2.2.2.2.2.2.2.1 n) (se.1, se.2.2.2.2.1, se.2.2.2.2.2.1, se.2.2.2.2.2.2.1) i_29).2.2.1)) = (g_X4_doubt_se_5 ((lp_X4_judgeAll_29 (lp_X4_judgeAll_2 se.2.1 se.2.2.1 se.2.2.2.1 se.2.2.2.2.1 n se.2.2.2.2.2.2.2.1 n) (se.1, se.2.2.2.2.1, se.2.2.2.2.2.1, se.2.2.2.2.2.2.1) i_29).2.2.1) (nI i_29)) := (if_neg c_44).trans (if_pos c_62)
              have e_3 : (if ((lp_X4_judgeAll_2 se.2.1 se.2.2.1 se.2.2.2.1 se.2.2.2.2.1 n se.2.2.2.2.2.2.2.1 n) i_29) = (1 : Int32) then (g_X4_believe_se_6 ((lp_X4_judgeAll_29 (lp_X4_judgeAll_2 se.2.1 se.2.2.1 se.2.2.2.1 se.2.2.2.2.1 n se.2.2.2.2.2.2.2.1 n) (se.1, se.2.2.2.2.1, se.2.2.2.2.2.1, se.2.2.2.2.2.2.1) i_29).2.2.2) (nI i_29)) else (if ((lp_X4_judgeAll_2 se.2.1 se.2.2.1 se.2.2.2.1 se.2.2.2.2.1 n se.2.2.2.2.2.2.2.1 n) i_29) = (2 : Int32) then (g_X4_doubt_se_6 ((lp_X4_judgeAll_29 (lp_X4_judgeAll_2 se.2.1 se.2.2.1 se.2.2.2.1 se.2.2.2.2.1 n se.2.2.2.2.2.2.2.1 n) (se.1, se.2.2.2.2.1, se.2.2.2.2.2.1, se.2.2.2.2.2.2.1) i_29).2.2.2) (nI i_29)) else (lp_X4_judgeAll_29 (lp_X4_judgeAll_2 se.2.1 se.2.2.1 se.2.2.2.1 se.2.2.2.2.1 n se.2.2.2.2.2.2.2.1 n) (se.1, se.2.2.2.2.1, se.2.2.2.2.2.1, se.2.2.2.2.2.2.1) i_29).2.2.2)) = (g_X4_doubt_se_6 ((lp_X4_judgeAll_29 (lp_X4_judgeAll_2 se.2.1 se.2.2.1 se.2.2.2.1 se.2.2.2.2.1 n se.2.2.2.2.2.2.2.1 n) (se.1, se.2.2.2.2.1, se.2.2.2.2.2.1, se.2.2.2.2.2.2.1) i_29).2.2.2) (nI i_29)) := (if_neg c_44).trans (if_pos c_62)
              exact J_3 _ _ _ (hW.eq (by (try rw [e_0]) <;> (try rw [e_1]) <;> (try rw [e_2]) <;> (try rw [e_3]) <;> rfl)) (by (try rw [e_0]) <;> (try rw [e_1]) <;> (try rw [e_2]) <;> (try rw [e_3]) <;> exact lv_sub hl [0, 1] rfl)
          · refine lv_aload_n hx hb dX4_judgeAll_47 rfl (lv_at hl 0 rfl) ?_
            refine lv_iload_n hx hb dX4_judgeAll_48 rfl (lv_at hl 1 rfl) ?_
            refine zcV (w1 := []) (wc := sensW G h ad ((lp_X4_judgeAll_29 (lp_X4_judgeAll_2 se.2.1 se.2.2.1 se.2.2.2.1 se.2.2.2.2.1 n se.2.2.2.2.2.2.2.1 n) (se.1, se.2.2.2.2.1, se.2.2.2.2.2.1, se.2.2.2.2.2.2.1) i_29).1, se.2.1, se.2.2.1, se.2.2.2.1, (lp_X4_judgeAll_29 (lp_X4_judgeAll_2 se.2.1 se.2.2.1 se.2.2.2.1 se.2.2.2.2.1 n se.2.2.2.2.2.2.2.1 n) (se.1, se.2.2.2.2.1, se.2.2.2.2.2.1, se.2.2.2.2.2.2.1) i_29).2.1, (lp_X4_judgeAll_29 (lp_X4_judgeAll_2 se.2.1 se.2.2.1 se.2.2.2.1 se.2.2.2.2.1 n se.2.2.2.2.2.2.2.1 n) (se.1, se.2.2.2.2.1, se.2.2.2.2.2.1, se.2.2.2.2.2.2.1) i_29).2.2.1, (lp_X4_judgeAll_29 (lp_X4_judgeAll_2 se.2.1 se.2.2.1 se.2.2.2.1 se.2.2.2.2.1 n se.2.2.2.2.2.2.2.1 n) (se.1, se.2.2.2.2.1, se.2.2.2.2.2.1, se.2.2.2.2.2.2.1) i_29).2.2.2, (lp_X4_judgeAll_2 se.2.1 se.2.2.1 se.2.2.2.1 se.2.2.2.2.1 n se.2.2.2.2.2.2.2.1 n), se.2.2.2.2.2.2.2.2.1, se.2.2.2.2.2.2.2.2.2)) (w2 := []) (As := [.int (nI i_29)]) B (hW.eq rfl) (c_X4_believe l G h ad ((lp_X4_judgeAll_29 (lp_X4_judgeAll_2 se.2.1 se.2.2.1 se.2.2.2.1 se.2.2.2.2.1 n se.2.2.2.2.2.2.2.1 n) (se.1, se.2.2.2.2.1, se.2.2.2.2.2.1, se.2.2.2.2.2.2.1) i_29).1, se.2.1, se.2.2.1, se.2.2.2.1, (lp_X4_judgeAll_29 (lp_X4_judgeAll_2 se.2.1 se.2.2.1 se.2.2.2.1 se.2.2.2.2.1 n se.2.2.2.2.2.2.2.1 n) (se.1, se.2.2.2.2.1, se.2.2.2.2.2.1, se.2.2.2.2.2.2.1) i_29).2.1, (lp_X4_judgeAll_29 (lp_X4_judgeAll_2 se.2.1 se.2.2.1 se.2.2.2.1 se.2.2.2.2.1 n se.2.2.2.2.2.2.2.1 n) (se.1, se.2.2.2.2.1, se.2.2.2.2.2.1, se.2.2.2.2.2.2.1) i_29).2.2.1, (lp_X4_judgeAll_29 (lp_X4_judgeAll_2 se.2.1 se.2.2.1 se.2.2.2.1 se.2.2.2.2.1 n se.2.2.2.2.2.2.2.1 n) (se.1, se.2.2.2.2.1, se.2.2.2.2.2.1, se.2.2.2.2.2.2.1) i_29).2.2.2, (lp_X4_judgeAll_2 se.2.1 se.2.2.1 se.2.2.2.1 se.2.2.2.2.1 n se.2.2.2.2.2.2.2.1 n), se.2.2.2.2.2.2.2.2.1, se.2.2.2.2.2.2.2.2.2) (nI i_29) (vp_in_nI (Nat.lt_of_lt_of_le hi_29 hn) (by decide))) yd_X4_believe ml_X4_53 0 rfl rfl rfl rfl hl.1 rfl (Nat.le_of_ble_eq_true rfl) ⟨Nat.le_of_ble_eq_true rfl, Nat.le_of_ble_eq_true rfl⟩ ⟨(Nat.le_of_ble_eq_true rfl), (Nat.le_of_ble_eq_true rfl)⟩ dX4_judgeAll_49 (fun v u H locs hp hW => ?_)
            obtain ⟨rfl, rfl⟩ := hp
            have hW := hW.eq (w' := sensW G h ad ((g_X4_believe_se_0 ((lp_X4_judgeAll_29 (lp_X4_judgeAll_2 se.2.1 se.2.2.1 se.2.2.2.1 se.2.2.2.2.1 n se.2.2.2.2.2.2.2.1 n) (se.1, se.2.2.2.2.1, se.2.2.2.2.2.1, se.2.2.2.2.2.2.1) i_29).1) ((lp_X4_judgeAll_29 (lp_X4_judgeAll_2 se.2.1 se.2.2.1 se.2.2.2.1 se.2.2.2.2.1 n se.2.2.2.2.2.2.2.1 n) (se.1, se.2.2.2.2.1, se.2.2.2.2.2.1, se.2.2.2.2.2.2.1) i_29).2.1) ((lp_X4_judgeAll_29 (lp_X4_judgeAll_2 se.2.1 se.2.2.1 se.2.2.2.1 se.2.2.2.2.1 n se.2.2.2.2.2.2.2.1 n) (se.1, se.2.2.2.2.1, se.2.2.2.2.2.1, se.2.2.2.2.2.2.1) i_29).2.2.2) (nI i_29)), se.2.1, se.2.2.1, se.2.2.2.1, (g_X4_believe_se_4 ((lp_X4_judgeAll_29 (lp_X4_judgeAll_2 se.2.1 se.2.2.1 se.2.2.2.1 se.2.2.2.2.1 n se.2.2.2.2.2.2.2.1 n) (se.1, se.2.2.2.2.1, se.2.2.2.2.2.1, se.2.2.2.2.2.2.1) i_29).2.1) ((lp_X4_judgeAll_29 (lp_X4_judgeAll_2 se.2.1 se.2.2.1 se.2.2.2.1 se.2.2.2.2.1 n se.2.2.2.2.2.2.2.1 n) (se.1, se.2.2.2.2.1, se.2.2.2.2.2.1, se.2.2.2.2.2.2.1) i_29).2.2.2) (nI i_29)), (g_X4_believe_se_5 ((lp_X4_judgeAll_29 (lp_X4_judgeAll_2 se.2.1 se.2.2.1 se.2.2.2.1 se.2.2.2.2.1 n se.2.2.2.2.2.2.2.1 n) (se.1, se.2.2.2.2.1, se.2.2.2.2.2.1, se.2.2.2.2.2.2.1) i_29).2.2.1) (nI i_29)), (g_X4_believe_se_6 ((lp_X4_judgeAll_29 (lp_X4_judgeAll_2 se.2.1 se.2.2.1 se.2.2.2.1 se.2.2.2.2.1 n se.2.2.2.2.2.2.2.1 n) (se.1, se.2.2.2.2.1, se.2.2.2.2.2.1, se.2.2.2.2.2.2.1) i_29).2.2.2) (nI i_29)), (lp_X4_judgeAll_2 se.2.1 se.2.2.1 se.2.2.2.1 se.2.2.2.2.1 n se.2.2.2.2.2.2.2.1 n), se.2.2.2.2.2.2.2.2.1, se.2.2.2.2.2.2.2.2.2)) rfl
            refine lv_goto (tgt := 70) hx hb dX4_judgeAll_52 (by decide) ?_
            have e_0 : (if ((lp_X4_judgeAll_2 se.2.1 se.2.2.1 se.2.2.2.1 se.2.2.2.2.1 n se.2.2.2.2.2.2.2.1 n) i_29) = (1 : Int32) then (g_X4_believe_se_0 ((lp_X4_judgeAll_29 (lp_X4_judgeAll_2 se.2.1 se.2.2.1 se.2.2.2.1 se.2.2.2.2.1 n se.2.2.2.2.2.2.2.1 n) (se.1, se.2.2.2.2.1, se.2.2.2.2.2.1, se.2.2.2.2.2.2.1) i_29).1) ((lp_X4_judgeAll_29 (lp_X4_judgeAll_2 se.2.1 se.2.2.1 se.2.2.2.1 se.2.2.2.2.1 n se.2.2.2.2.2.2.2.1 n) (se.1, se.2.2.2.2.1, se.2.2.2.2.2.1, se.2.2.2.2.2.2.1) i_29).2.1) ((lp_X4_judgeAll_29 (lp_X4_judgeAll_2 se.2.1 se.2.2.1 se.2.2.2.1 se.2.2.2.2.1 n se.2.2.2.2.2.2.2.1 n) (se.1, se.2.2.2.2.1, se.2.2.2.2.2.1, se.2.2.2.2.2.2.1) i_29).2.2.2) (nI i_29)) else (if ((lp_X4_judgeAll_2 se.2.1 se.2.2.1 se.2.2.2.1 se.2.2.2.2.1 n se.2.2.2.2.2.2.2.1 n) i_29) = (2 : Int32) then (g_X4_doubt_se_0 ((lp_X4_judgeAll_29 (lp_X4_judgeAll_2 se.2.1 se.2.2.1 se.2.2.2.1 se.2.2.2.2.1 n se.2.2.2.2.2.2.2.1 n) (se.1, se.2.2.2.2.1, se.2.2.2.2.2.1, se.2.2.2.2.2.2.1) i_29).1) (nI i_29)) else (lp_X4_judgeAll_29 (lp_X4_judgeAll_2 se.2.1 se.2.2.1 se.2.2.2.1 se.2.2.2.2.1 n se.2.2.2.2.2.2.2.1 n) (se.1, se.2.2.2.2.1, se.2.2.2.2.2.1, se.2.2.2.2.2.2.1) i_29).1)) = (g_X4_believe_se_0 ((lp_X4_judgeAll_29 (lp_X4_judgeAll_2 se.2.1 se.2.2.1 se.2.2.2.1 se.2.2.2.2.1 n se.2.2.2.2.2.2.2.1 n) (se.1, se.2.2.2.2.1, se.2.2.2.2.2.1, se.2.2.2.2.2.2.1) i_29).1) ((lp_X4_judgeAll_29 (lp_X4_judgeAll_2 se.2.1 se.2.2.1 se.2.2.2.1 se.2.2.2.2.1 n se.2.2.2.2.2.2.2.1 n) (se.1, se.2.2.2.2.1, se.2.2.2.2.2.1, se.2.2.2.2.2.2.1) i_29).2.1) ((lp_X4_judgeAll_29 (lp_X4_judgeAll_2 se.2.1 se.2.2.1 se.2.2.2.1 se.2.2.2.2.1 n se.2.2.2.2.2.2.2.1 n) (se.1, se.2.2.2.2.1, se.2.2.2.2.2.1, se.2.2.2.2.2.2.1) i_29).2.2.2) (nI i_29)) := if_pos c_44
            have e_1 : (if ((lp_X4_judgeAll_2 se.2.1 se.2.2.1 se.2.2.2.1 se.2.2.2.2.1 n se.2.2.2.2.2.2.2.1 n) i_29) = (1 : Int32) then (g_X4_believe_se_4 ((lp_X4_judgeAll_29 (lp_X4_judgeAll_2 se.2.1 se.2.2.1 se.2.2.2.1 se.2.2.2.2.1 n se.2.2.2.2.2.2.2.1 n) (se.1, se.2.2.2.2.1, se.2.2.2.2.2.1, se.2.2.2.2.2.2.1) i_29).2.1) ((lp_X4_judgeAll_29 (lp_X4_judgeAll_2 se.2.1 se.2.2.1 se.2.2.2.1 se.2.2.2.2.1 n se.2.2.2.2.2.2.2.1 n) (se.1, se.2.2.2.2.1, se.2.2.2.2.2.1, se.2.2.2.2.2.2.1) i_29).2.2.2) (nI i_29)) else (if ((lp_X4_judgeAll_2 se.2.1 se.2.2.1 se.2.2.2.1 se.2.2.2.2.1 n se.2.2.2.2.2.2.2.1 n) i_29) = (2 : Int32) then (g_X4_doubt_se_4 ((lp_X4_judgeAll_29 (lp_X4_judgeAll_2 se.2.1 se.2.2.1 se.2.2.2.1 se.2.2.2.2.1 n se.2.2.2.2.2.2.2.1 n) (se.1, se.2.2.2.2.1, se.2.2.2.2.2.1, se.2.2.2.2.2.2.1) i_29).2.1) ((lp_X4_judgeAll_29 (lp_X4_judgeAll_2 se.2.1 se.2.2.1 se.2.2.2.1 se.2.2.2.2.1 n se.2.2.2.2.2.2.2.1 n) (se.1, se.2.2.2.2.1, se.2.2.2.2.2.1, se.2.2.2.2.2.2.1) i_29).2.2.1) (nI i_29)) else (lp_X4_judgeAll_29 (lp_X4_judgeAll_2 se.2.1 se.2.2.1 se.2.2.2.1 se.2.2.2.2.1 n se.2.2.2.2.2.2.2.1 n) (se.1, se.2.2.2.2.1, se.2.2.2.2.2.1, se.2.2.2.2.2.2.1) i_29).2.1)) = (g_X4_believe_se_4 ((lp_X4_judgeAll_29 (lp_X4_judgeAll_2 se.2.1 se.2.2.1 se.2.2.2.1 se.2.2.2.2.1 n se.2.2.2.2.2.2.2.1 n) (se.1, se.2.2.2.2.1, se.2.2.2.2.2.1, se.2.2.2.2.2.2.1) i_29).2.1) ((lp_X4_judgeAll_29 (lp_X4_judgeAll_2 se.2.1 se.2.2.1 se.2.2.2.1 se.2.2.2.2.1 n se.2.2.2.2.2.2.2.1 n) (se.1, se.2.2.2.2.1, se.2.2.2.2.2.1, se.2.2.2.2.2.2.1) i_29).2.2.2) (nI i_29)) := if_pos c_44
            have e_2 : (if ((lp_X4_judgeAll_2 se.2.1 se.2.2.1 se.2.2.2.1 se.2.2.2.2.1 n se.2.2.2.2.2.2.2.1 n) i_29) = (1 : Int32) then (g_X4_believe_se_5 ((lp_X4_judgeAll_29 (lp_X4_judgeAll_2 se.2.1 se.2.2.1 se.2.2.2.1 se.2.2.2.2.1 n se.2.2.2.2.2.2.2.1 n) (se.1, se.2.2.2.2.1, se.2.2.2.2.2.1, se.2.2.2.2.2.2.1) i_29).2.2.1) (nI i_29)) else (if ((lp_X4_judgeAll_2 se.2.1 se.2.2.1 se.2.2.2.1 se.2.2.2.2.1 n se.2.2.2.2.2.2.2.1 n) i_29) = (2 : Int32) then (g_X4_doubt_se_5 ((lp_X4_judgeAll_29 (lp_X4_judgeAll_2 se.2.1 se.2.2.1 se.2.2.2.1 se.2.2.2.2.1 n se.2.2.2.2.2.2.2.1 n) (se.1, se.2.2.2.2.1, se.2.2.2.2.2.1, se.2.2.2.2.2.2.1) i_29).2.2.1) (nI i_29)) else (lp_X4_judgeAll_29 (lp_X4_judgeAll_2 se.2.1 se.2.2.1 se.2.2.2.1 se.2.2.2.2.1 n se.2.2.2.2.2.2.2.1 n) (se.1, se.2.2.2.2.1, se.2.2.2.2.2.1, se.2.2.2.2.2.2.1) i_29).2.2.1)) = (g_X4_believe_se_5 ((lp_X4_judgeAll_29 (lp_X4_judgeAll_2 se.2.1 se.2.2.1 se.2.2.2.1 se.2.2.2.2.1 n se.2.2.2.2.2.2.2.1 n) (se.1, se.2.2.2.2.1, se.2.2.2.2.2.1, se.2.2.2.2.2.2.1) i_29).2.2.1) (nI i_29)) := if_pos c_44
            have e_3 : (if ((lp_X4_judgeAll_2 se.2.1 se.2.2.1 se.2.2.2.1 se.2.2.2.2.1 n se.2.2.2.2.2.2.2.1 n) i_29) = (1 : Int32) then (g_X4_believe_se_6 ((lp_X4_judgeAll_29 (lp_X4_judgeAll_2 se.2.1 se.2.2.1 se.2.2.2.1 se.2.2.2.2.1 n se.2.2.2.2.2.2.2.1 n) (se.1, se.2.2.2.2.1, se.2.2.2.2.2.1, se.2.2.2.2.2.2.1) i_29).2.2.2) (nI i_29)) else (if ((lp_X4_judgeAll_2 se.2.1 se.2.2.1 se.2.2.2.1 se.2.2.2.2.1 n se.2.2.2.2.2.2.2.1 n) i_29) = (2 : Int32) then (g_X4_doubt_se_6 ((lp_X4_judgeAll_29 (lp_X4_judgeAll_2 se.2.1 se.2.2.1 se.2.2.2.1 se.2.2.2.2.1 n se.2.2.2.2.2.2.2.1 n) (se.1, se.2.2.2.2.1, se.2.2.2.2.2.1, se.2.2.2.2.2.2.1) i_29).2.2.2) (nI i_29)) else (lp_X4_judgeAll_29 (lp_X4_judgeAll_2 se.2.1 se.2.2.1 se.2.2.2.1 se.2.2.2.2.1 n se.2.2.2.2.2.2.2.1 n) (se.1, se.2.2.2.2.1, se.2.2.2.2.2.1, se.2.2.2.2.2.2.1) i_29).2.2.2)) = (g_X4_believe_se_6 ((lp_X4_judgeAll_29 (lp_X4_judgeAll_2 se.2.1 se.2.2.1 se.2.2.2.1 se.2.2.2.2.1 n se.2.2.2.2.2.2.2.1 n) (se.1, se.2.2.2.2.1, se.2.2.2.2.2.1, se.2.2.2.2.2.2.1) i_29).2.2.2) (nI i_29)) := if_pos c_44
            exact J_3 _ _ _ (hW.eq (by (try rw [e_0]) <;> (try rw [e_1]) <;> (try rw [e_2]) <;> (try rw [e_3]) <;> rfl)) (by (try rw [e_0]) <;> (try rw [e_1]) <;> (try rw [e_2]) <;> (try rw [e_3]) <;> exact lv_sub hl [0, 1] rfl)
      exact L_2 0 (Nat.zero_le _) _ _ _ (hW.eq (by rw [lp_X4_judgeAll_29_0] <;> rfl)) (lv_sub hl [1, 0] rfl)
    · intro i_2 hi_2 ih H locs ls hW hl
      refine lv_iload_n hx hb dX4_judgeAll_2 rfl (lv_at hl 1 rfl) ?_
      refine lv_aload_n hx hb dX4_judgeAll_3 rfl (lv_at hl 0 rfl) ?_
      refine zget B hW 0 rfl lf_X4_37 rfl dX4_judgeAll_4 ?_
      refine lv_icmp_ge (tgt := 27) hx hb dX4_judgeAll_7 (by decide) (fun c_7 => absurd c_7 (znle (hc) hi_2 (by omega))) (fun c_7 => ?_)
      refine lv_aload_n hx hb dX4_judgeAll_10 rfl (lv_at hl 0 rfl) ?_
      refine zget B hW 0 rfl lf_X4_34 rfl dX4_judgeAll_11 ?_
      refine lv_iload_n hx hb dX4_judgeAll_14 rfl (lv_at hl 1 rfl) ?_
      refine lv_aload_n hx hb dX4_judgeAll_15 rfl (lv_at hl 0 rfl) ?_
      refine lv_iload_n hx hb dX4_judgeAll_16 rfl (lv_at hl 1 rfl) ?_
      refine zcV (w1 := []) (wc := sensW G h ad (se.1, se.2.1, se.2.2.1, se.2.2.2.1, se.2.2.2.2.1, se.2.2.2.2.2.1, se.2.2.2.2.2.2.1, (lp_X4_judgeAll_2 se.2.1 se.2.2.1 se.2.2.2.1 se.2.2.2.2.1 n se.2.2.2.2.2.2.2.1 i_2), se.2.2.2.2.2.2.2.2.1, se.2.2.2.2.2.2.2.2.2)) (w2 := []) (As := [.int (nI i_2)]) B (hW.eq rfl) (c_X4_verdictOn l G h ad (se.1, se.2.1, se.2.2.1, se.2.2.2.1, se.2.2.2.2.1, se.2.2.2.2.2.1, se.2.2.2.2.2.2.1, (lp_X4_judgeAll_2 se.2.1 se.2.2.1 se.2.2.2.1 se.2.2.2.2.1 n se.2.2.2.2.2.2.2.1 i_2), se.2.2.2.2.2.2.2.2.1, se.2.2.2.2.2.2.2.2.2) (nI i_2) n (hc) (hn) (vp_in_nI (Nat.lt_of_lt_of_le hi_2 hn) (by decide))) yd_X4_verdictOn ml_X4_49 0 rfl rfl rfl rfl hl.1 rfl (Nat.le_of_ble_eq_true rfl) ⟨Nat.le_of_ble_eq_true rfl, Nat.le_of_ble_eq_true rfl⟩ ⟨(Nat.le_of_ble_eq_true rfl), (Nat.le_of_ble_eq_true rfl)⟩ dX4_judgeAll_17 (fun v u H locs hp hW => ?_)
      obtain ⟨rfl, rfl⟩ := hp
      have hW := hW.eq (w' := sensW G h ad (se.1, se.2.1, se.2.2.1, se.2.2.2.1, se.2.2.2.2.1, se.2.2.2.2.2.1, se.2.2.2.2.2.2.1, (lp_X4_judgeAll_2 se.2.1 se.2.2.1 se.2.2.2.1 se.2.2.2.2.1 n se.2.2.2.2.2.2.2.1 i_2), se.2.2.2.2.2.2.2.2.1, se.2.2.2.2.2.2.2.2.2)) rfl
      refine ziastN B hW 8 rfl i_2 rfl (by omega) (by decide) dX4_judgeAll_20 (fun H locs hW => ?_)
      refine lv_iinc (v := (nI (i_2 + 1))) hx hb dX4_judgeAll_21 hl (k := 1) rfl (nI_1 _) (by decide) rfl (fun ls hl => ?_)
      refine lv_goto (tgt := 2) hx hb dX4_judgeAll_24 (by decide) ?_
      exact ih _ _ _ (hW.eq (by rw [lp_X4_judgeAll_2_s] <;> rfl)) (lv_sub hl [1, 0] rfl)
  exact L_1 0 (Nat.zero_le _) _ _ _ (hW.eq (by rw [lp_X4_judgeAll_2_0] <;> rfl)) (lv_sub hl [1, 0] rfl)
def st_X4_mendAll_16 (q_se_0 : Nat → Int32) (q_se_1 : Nat → Int32) (q_se_2 : Nat → Int32) (q_se_3 : Nat → Int32) (q_se_4 : Nat → Int32) (vn_2 : Nat) (i_16 : Nat) (y : Int32 × Int32) : Int32 × Int32 := ((if (q_se_1 i_16) = (nI vn_2) then (if (q_se_2 i_16) = (0 : Int32) then y.1 else (if (q_se_4 i_16) = (0 : Int32) then (y.1 + (q_se_0 i_16)) else y.1)) else y.1), (if (q_se_1 i_16) = (nI vn_2) then (if (q_se_2 i_16) = (0 : Int32) then y.2 else (if (q_se_4 i_16) = (0 : Int32) then (y.2 + ((q_se_0 i_16) * (q_se_3 i_16))) else y.2)) else y.2))
def lp_X4_mendAll_16 (q_se_0 : Nat → Int32) (q_se_1 : Nat → Int32) (q_se_2 : Nat → Int32) (q_se_3 : Nat → Int32) (q_se_4 : Nat → Int32) (vn_2 : Nat) (y0 : Int32 × Int32) : Nat → Int32 × Int32
  | 0 => y0
  | n0 + 1 => st_X4_mendAll_16 q_se_0 q_se_1 q_se_2 q_se_3 q_se_4 vn_2 n0 (lp_X4_mendAll_16 q_se_0 q_se_1 q_se_2 q_se_3 q_se_4 vn_2 y0 n0)
termination_by n0 => n0
theorem lp_X4_mendAll_16_0 (q_se_0 : Nat → Int32) (q_se_1 : Nat → Int32) (q_se_2 : Nat → Int32) (q_se_3 : Nat → Int32) (q_se_4 : Nat → Int32) (vn_2 : Nat) (y0 : Int32 × Int32) : lp_X4_mendAll_16 q_se_0 q_se_1 q_se_2 q_se_3 q_se_4 vn_2 y0 0 = y0 := by rw [lp_X4_mendAll_16]
theorem lp_X4_mendAll_16_s (q_se_0 : Nat → Int32) (q_se_1 : Nat → Int32) (q_se_2 : Nat → Int32) (q_se_3 : Nat → Int32) (q_se_4 : Nat → Int32) (vn_2 : Nat) (y0 : Int32 × Int32) (n0 : Nat) : lp_X4_mendAll_16 q_se_0 q_se_1 q_se_2 q_se_3 q_se_4 vn_2 y0 (n0 + 1) = st_X4_mendAll_16 q_se_0 q_se_1 q_se_2 q_se_3 q_se_4 vn_2 n0 (lp_X4_mendAll_16 q_se_0 q_se_1 q_se_2 q_se_3 q_se_4 vn_2 y0 n0) := by rw [lp_X4_mendAll_16]
def st_X4_mendAll_2 (q_se_0 : Nat → Int32) (q_se_1 : Nat → Int32) (q_se_2 : Nat → Int32) (q_se_3 : Nat → Int32) (q_se_4 : Nat → Int32) (n : Nat) (i_2 : Nat) (y : Int64 × (Nat → Int32)) : Int64 × (Nat → Int32) := ((if (lp_X4_mendAll_16 q_se_0 q_se_1 q_se_2 q_se_3 q_se_4 i_2 ((0 : Int32), (0 : Int32)) n).1 ≤ (0 : Int32) then y.1 else (y.1 + (((((lp_X4_mendAll_16 q_se_0 q_se_1 q_se_2 q_se_3 q_se_4 i_2 ((0 : Int32), (0 : Int32)) n).2 / (lp_X4_mendAll_16 q_se_0 q_se_1 q_se_2 q_se_3 q_se_4 i_2 ((0 : Int32), (0 : Int32)) n).1) - (y.2 i_2)) * (lp_X4_mendAll_16 q_se_0 q_se_1 q_se_2 q_se_3 q_se_4 i_2 ((0 : Int32), (0 : Int32)) n).1) / ((lp_X4_mendAll_16 q_se_0 q_se_1 q_se_2 q_se_3 q_se_4 i_2 ((0 : Int32), (0 : Int32)) n).1 + (100 : Int32))).toInt64)), (if (lp_X4_mendAll_16 q_se_0 q_se_1 q_se_2 q_se_3 q_se_4 i_2 ((0 : Int32), (0 : Int32)) n).1 ≤ (0 : Int32) then y.2 else (upd y.2 i_2 ((y.2 i_2) + (((((lp_X4_mendAll_16 q_se_0 q_se_1 q_se_2 q_se_3 q_se_4 i_2 ((0 : Int32), (0 : Int32)) n).2 / (lp_X4_mendAll_16 q_se_0 q_se_1 q_se_2 q_se_3 q_se_4 i_2 ((0 : Int32), (0 : Int32)) n).1) - (y.2 i_2)) * (lp_X4_mendAll_16 q_se_0 q_se_1 q_se_2 q_se_3 q_se_4 i_2 ((0 : Int32), (0 : Int32)) n).1) / ((lp_X4_mendAll_16 q_se_0 q_se_1 q_se_2 q_se_3 q_se_4 i_2 ((0 : Int32), (0 : Int32)) n).1 + (100 : Int32)))))))
def lp_X4_mendAll_2 (q_se_0 : Nat → Int32) (q_se_1 : Nat → Int32) (q_se_2 : Nat → Int32) (q_se_3 : Nat → Int32) (q_se_4 : Nat → Int32) (n : Nat) (y0 : Int64 × (Nat → Int32)) : Nat → Int64 × (Nat → Int32)
  | 0 => y0
  | n0 + 1 => st_X4_mendAll_2 q_se_0 q_se_1 q_se_2 q_se_3 q_se_4 n n0 (lp_X4_mendAll_2 q_se_0 q_se_1 q_se_2 q_se_3 q_se_4 n y0 n0)
termination_by n0 => n0
theorem lp_X4_mendAll_2_0 (q_se_0 : Nat → Int32) (q_se_1 : Nat → Int32) (q_se_2 : Nat → Int32) (q_se_3 : Nat → Int32) (q_se_4 : Nat → Int32) (n : Nat) (y0 : Int64 × (Nat → Int32)) : lp_X4_mendAll_2 q_se_0 q_se_1 q_se_2 q_se_3 q_se_4 n y0 0 = y0 := by rw [lp_X4_mendAll_2]
theorem lp_X4_mendAll_2_s (q_se_0 : Nat → Int32) (q_se_1 : Nat → Int32) (q_se_2 : Nat → Int32) (q_se_3 : Nat → Int32) (q_se_4 : Nat → Int32) (n : Nat) (y0 : Int64 × (Nat → Int32)) (n0 : Nat) : lp_X4_mendAll_2 q_se_0 q_se_1 q_se_2 q_se_3 q_se_4 n y0 (n0 + 1) = st_X4_mendAll_2 q_se_0 q_se_1 q_se_2 q_se_3 q_se_4 n n0 (lp_X4_mendAll_2 q_se_0 q_se_1 q_se_2 q_se_3 q_se_4 n y0 n0) := by rw [lp_X4_mendAll_2]
def g_X4_mendAll_se_9 (se_0 : Nat → Int32) (se_1 : Nat → Int32) (se_2 : Nat → Int32) (se_3 : Nat → Int32) (se_4 : Nat → Int32) (se_9 : Int64) (x_2 : Nat → Int32) (n : Nat) : Int64 := (lp_X4_mendAll_2 se_0 se_1 se_2 se_3 se_4 n (se_9, x_2) 48).1
def f_X4_mendAll_se (se : zSens) (x : zLand) (n : Nat) : zSens := (se.1, se.2.1, se.2.2.1, se.2.2.2.1, se.2.2.2.2.1, se.2.2.2.2.2.1, se.2.2.2.2.2.2.1, se.2.2.2.2.2.2.2.1, se.2.2.2.2.2.2.2.2.1, g_X4_mendAll_se_9 se.1 se.2.1 se.2.2.1 se.2.2.2.1 se.2.2.2.2.1 se.2.2.2.2.2.2.2.2.2 x.2.2.1 n)
def g_X4_mendAll_x_2 (se_0 : Nat → Int32) (se_1 : Nat → Int32) (se_2 : Nat → Int32) (se_3 : Nat → Int32) (se_4 : Nat → Int32) (se_9 : Int64) (x_2 : Nat → Int32) (n : Nat) : Nat → Int32 := (lp_X4_mendAll_2 se_0 se_1 se_2 se_3 se_4 n (se_9, x_2) 48).2
def f_X4_mendAll_x (se : zSens) (x : zLand) (n : Nat) : zLand := (x.1, x.2.1, g_X4_mendAll_x_2 se.1 se.2.1 se.2.2.1 se.2.2.2.1 se.2.2.2.2.1 se.2.2.2.2.2.2.2.2.2 x.2.2.1 n, x.2.2.2.1, x.2.2.2.2.1, x.2.2.2.2.2.1, x.2.2.2.2.2.2.1, x.2.2.2.2.2.2.2.1, x.2.2.2.2.2.2.2.2.1, x.2.2.2.2.2.2.2.2.2.1, x.2.2.2.2.2.2.2.2.2.2.1, x.2.2.2.2.2.2.2.2.2.2.2.1, x.2.2.2.2.2.2.2.2.2.2.2.2.1, x.2.2.2.2.2.2.2.2.2.2.2.2.2)
abbrev po_X4_mendAll (G : zG) (h : Nat) (ad : Nat → Nat) (se : zSens) (h2 : Nat) (ad2 : Nat → Nat) (x : zLand) (n : Nat) : Option Value → va_W → Prop := fun r u => r = none ∧ u = sensW G h ad (f_X4_mendAll_se se x n) ++ (landW G h2 ad2 (f_X4_mendAll_x se x n))
set_option maxHeartbeats 4000000 in
set_option maxRecDepth 100000 in
theorem c_X4_mendAll (l : Launch) (G : zG) (h : Nat) (ad : Nat → Nat) (se : zSens) (h2 : Nat) (ad2 : Nat → Nat) (x : zLand) (n : Nat) (hc : se.2.2.2.2.2.2.2.2.1 = nI n) (hn : n ≤ 10) (hdv : ∀ i : Nat, i < 48 → ¬ (lp_X4_mendAll_16 se.1 se.2.1 se.2.2.1 se.2.2.2.1 se.2.2.2.2.1 i ((0 : Int32), (0 : Int32)) n).1 ≤ (0 : Int32) → ¬ (lp_X4_mendAll_16 se.1 se.2.1 se.2.2.1 se.2.2.2.1 se.2.2.2.2.1 i ((0 : Int32), (0 : Int32)) n).1 + (100 : Int32) = 0) : zC l yX4_mendAll cX4_mendAll 6 none 0 0 0 G [.ref h, .ref h2] (sensW G h ad se ++ (landW G h2 ad2 x)) (po_X4_mendAll G h ad se h2 ad2 x n) := by
  refine zC.of RX4 rfl (by decide) (Nat.le_of_ble_eq_true rfl) ?_
  intro p e s m args below meth c A ls B hr hlk hnm hW hl
  have hx := B.x
  have hb := B.b
  have hl : lv_has ls 6 [(0, .ref h), (1, .ref h2)] := hl
  refine lv_iconst (v := (0 : Int32)) hx hb dX4_mendAll_0 (by decide) ?_
  refine lv_istore_n hx hb dX4_mendAll_1 rfl hl (by decide) rfl (fun ls hl => ?_)
  have L_1 : ∀ i_2 : Nat, i_2 ≤ 48 → ∀ (H : Heap) (locs : List Loc) (ls : Array Slot), zW G A s.heap H locs (sensW G h ad (se.1, se.2.1, se.2.2.1, se.2.2.2.1, se.2.2.2.2.1, se.2.2.2.2.2.1, se.2.2.2.2.2.2.1, se.2.2.2.2.2.2.2.1, se.2.2.2.2.2.2.2.2.1, (lp_X4_mendAll_2 se.1 se.2.1 se.2.2.1 se.2.2.2.1 se.2.2.2.2.1 n (se.2.2.2.2.2.2.2.2.2, x.2.2.1) i_2).1) ++ (landW G h2 ad2 (x.1, x.2.1, (lp_X4_mendAll_2 se.1 se.2.1 se.2.2.1 se.2.2.2.1 se.2.2.2.2.1 n (se.2.2.2.2.2.2.2.2.2, x.2.2.1) i_2).2, x.2.2.2.1, x.2.2.2.2.1, x.2.2.2.2.2.1, x.2.2.2.2.2.2.1, x.2.2.2.2.2.2.2.1, x.2.2.2.2.2.2.2.2.1, x.2.2.2.2.2.2.2.2.2.1, x.2.2.2.2.2.2.2.2.2.2.1, x.2.2.2.2.2.2.2.2.2.2.2.1, x.2.2.2.2.2.2.2.2.2.2.2.2.1, x.2.2.2.2.2.2.2.2.2.2.2.2.2))) → lv_has ls 6 [(0, .ref h), (1, .ref h2), (2, .int (nI i_2))] → W p l e (zRm 0 0 0) s m args below meth c H locs 0 0 (MQ below (zQ G A (po_X4_mendAll G h ad se h2 ad2 x n)) args s 0 0 A) (F0 m 2 ls []) := by
    refine zloop 48 ?_ ?_
    · intro H locs ls hW hl
      have hl : lv_has ls 6 [(0, .ref h), (1, .ref h2), (2, .int (48 : Int32))] := hl
      refine lv_iload_n hx hb dX4_mendAll_2 rfl (lv_at hl 2 rfl) ?_
      refine lv_bipush (v := (48 : Int32)) hx hb dX4_mendAll_3 (by decide) ?_
      refine lv_icmp_ge (tgt := 145) hx hb dX4_mendAll_5 (by decide) (fun c_5 => ?_) (fun c_5 => absurd (zge (by decide)) c_5)
      exact zvret B hr hlk hW ⟨rfl, rfl⟩ (Nat.le_refl _) (Nat.le_refl _) dX4_mendAll_145
    · intro i_2 hi_2 ih H locs ls hW hl
      refine lv_iload_n hx hb dX4_mendAll_2 rfl (lv_at hl 2 rfl) ?_
      refine lv_bipush (v := (48 : Int32)) hx hb dX4_mendAll_3 (by decide) ?_
      refine lv_icmp_ge (tgt := 145) hx hb dX4_mendAll_5 (by decide) (fun c_5 => absurd c_5 (znle (by decide) hi_2 (by decide))) (fun c_5 => ?_)
      refine lv_iconst (v := (0 : Int32)) hx hb dX4_mendAll_8 (by decide) ?_
      refine lv_istore_n hx hb dX4_mendAll_9 rfl hl (by decide) rfl (fun ls hl => ?_)
      refine lv_iconst (v := (0 : Int32)) hx hb dX4_mendAll_10 (by decide) ?_
      refine lv_istore hx hb dX4_mendAll_11 hl (by decide) rfl (fun ls hl => ?_)
      refine lv_iconst (v := (0 : Int32)) hx hb dX4_mendAll_13 (by decide) ?_
      refine lv_istore hx hb dX4_mendAll_14 hl (by decide) rfl (fun ls hl => ?_)
      have L_2 : ∀ i_16 : Nat, i_16 ≤ n → ∀ (H : Heap) (locs : List Loc) (ls : Array Slot), zW G A s.heap H locs (sensW G h ad (se.1, se.2.1, se.2.2.1, se.2.2.2.1, se.2.2.2.2.1, se.2.2.2.2.2.1, se.2.2.2.2.2.2.1, se.2.2.2.2.2.2.2.1, se.2.2.2.2.2.2.2.2.1, (lp_X4_mendAll_2 se.1 se.2.1 se.2.2.1 se.2.2.2.1 se.2.2.2.2.1 n (se.2.2.2.2.2.2.2.2.2, x.2.2.1) i_2).1) ++ (landW G h2 ad2 (x.1, x.2.1, (lp_X4_mendAll_2 se.1 se.2.1 se.2.2.1 se.2.2.2.1 se.2.2.2.2.1 n (se.2.2.2.2.2.2.2.2.2, x.2.2.1) i_2).2, x.2.2.2.1, x.2.2.2.2.1, x.2.2.2.2.2.1, x.2.2.2.2.2.2.1, x.2.2.2.2.2.2.2.1, x.2.2.2.2.2.2.2.2.1, x.2.2.2.2.2.2.2.2.2.1, x.2.2.2.2.2.2.2.2.2.2.1, x.2.2.2.2.2.2.2.2.2.2.2.1, x.2.2.2.2.2.2.2.2.2.2.2.2.1, x.2.2.2.2.2.2.2.2.2.2.2.2.2))) → lv_has ls 6 [(0, .ref h), (1, .ref h2), (2, .int (nI i_2)), (3, .int (lp_X4_mendAll_16 se.1 se.2.1 se.2.2.1 se.2.2.2.1 se.2.2.2.2.1 i_2 ((0 : Int32), (0 : Int32)) i_16).1), (4, .int (lp_X4_mendAll_16 se.1 se.2.1 se.2.2.1 se.2.2.2.1 se.2.2.2.2.1 i_2 ((0 : Int32), (0 : Int32)) i_16).2), (5, .int (nI i_16))] → W p l e (zRm 0 0 0) s m args below meth c H locs 0 0 (MQ below (zQ G A (po_X4_mendAll G h ad se h2 ad2 x n)) args s 0 0 A) (F0 m 16 ls []) := by
        refine zloop n ?_ ?_
        · intro H locs ls hW hl
          refine lv_iload hx hb dX4_mendAll_16 (lv_at hl 5 rfl) ?_
          refine lv_aload_n hx hb dX4_mendAll_18 rfl (lv_at hl 0 rfl) ?_
          refine zget B hW 0 rfl lf_X4_37 rfl dX4_mendAll_19 ?_
          refine lv_icmp_ge (tgt := 92) hx hb dX4_mendAll_22 (by decide) (fun c_22 => ?_) (fun c_22 => absurd (zge (hc)) c_22)
          refine lv_iload_n hx hb dX4_mendAll_92 rfl (lv_at hl 3 rfl) ?_
          have J_3 : ∀ (H : Heap) (locs : List Loc) (ls : Array Slot), zW G A s.heap H locs (sensW G h ad (se.1, se.2.1, se.2.2.1, se.2.2.2.1, se.2.2.2.2.1, se.2.2.2.2.2.1, se.2.2.2.2.2.2.1, se.2.2.2.2.2.2.2.1, se.2.2.2.2.2.2.2.2.1, (if (lp_X4_mendAll_16 se.1 se.2.1 se.2.2.1 se.2.2.2.1 se.2.2.2.2.1 i_2 ((0 : Int32), (0 : Int32)) n).1 ≤ (0 : Int32) then (lp_X4_mendAll_2 se.1 se.2.1 se.2.2.1 se.2.2.2.1 se.2.2.2.2.1 n (se.2.2.2.2.2.2.2.2.2, x.2.2.1) i_2).1 else ((lp_X4_mendAll_2 se.1 se.2.1 se.2.2.1 se.2.2.2.1 se.2.2.2.2.1 n (se.2.2.2.2.2.2.2.2.2, x.2.2.1) i_2).1 + (((((lp_X4_mendAll_16 se.1 se.2.1 se.2.2.1 se.2.2.2.1 se.2.2.2.2.1 i_2 ((0 : Int32), (0 : Int32)) n).2 / (lp_X4_mendAll_16 se.1 se.2.1 se.2.2.1 se.2.2.2.1 se.2.2.2.2.1 i_2 ((0 : Int32), (0 : Int32)) n).1) - (((lp_X4_mendAll_2 se.1 se.2.1 se.2.2.1 se.2.2.2.1 se.2.2.2.2.1 n (se.2.2.2.2.2.2.2.2.2, x.2.2.1) i_2).2) i_2)) * (lp_X4_mendAll_16 se.1 se.2.1 se.2.2.1 se.2.2.2.1 se.2.2.2.2.1 i_2 ((0 : Int32), (0 : Int32)) n).1) / ((lp_X4_mendAll_16 se.1 se.2.1 se.2.2.1 se.2.2.2.1 se.2.2.2.2.1 i_2 ((0 : Int32), (0 : Int32)) n).1 + (100 : Int32))).toInt64))) ++ (landW G h2 ad2 (x.1, x.2.1, (if (lp_X4_mendAll_16 se.1 se.2.1 se.2.2.1 se.2.2.2.1 se.2.2.2.2.1 i_2 ((0 : Int32), (0 : Int32)) n).1 ≤ (0 : Int32) then (lp_X4_mendAll_2 se.1 se.2.1 se.2.2.1 se.2.2.2.1 se.2.2.2.2.1 n (se.2.2.2.2.2.2.2.2.2, x.2.2.1) i_2).2 else (upd ((lp_X4_mendAll_2 se.1 se.2.1 se.2.2.1 se.2.2.2.1 se.2.2.2.2.1 n (se.2.2.2.2.2.2.2.2.2, x.2.2.1) i_2).2) i_2 ((((lp_X4_mendAll_2 se.1 se.2.1 se.2.2.1 se.2.2.2.1 se.2.2.2.2.1 n (se.2.2.2.2.2.2.2.2.2, x.2.2.1) i_2).2) i_2) + (((((lp_X4_mendAll_16 se.1 se.2.1 se.2.2.1 se.2.2.2.1 se.2.2.2.2.1 i_2 ((0 : Int32), (0 : Int32)) n).2 / (lp_X4_mendAll_16 se.1 se.2.1 se.2.2.1 se.2.2.2.1 se.2.2.2.2.1 i_2 ((0 : Int32), (0 : Int32)) n).1) - (((lp_X4_mendAll_2 se.1 se.2.1 se.2.2.1 se.2.2.2.1 se.2.2.2.2.1 n (se.2.2.2.2.2.2.2.2.2, x.2.2.1) i_2).2) i_2)) * (lp_X4_mendAll_16 se.1 se.2.1 se.2.2.1 se.2.2.2.1 se.2.2.2.2.1 i_2 ((0 : Int32), (0 : Int32)) n).1) / ((lp_X4_mendAll_16 se.1 se.2.1 se.2.2.1 se.2.2.2.1 se.2.2.2.2.1 i_2 ((0 : Int32), (0 : Int32)) n).1 + (100 : Int32)))))), x.2.2.2.1, x.2.2.2.2.1, x.2.2.2.2.2.1, x.2.2.2.2.2.2.1, x.2.2.2.2.2.2.2.1, x.2.2.2.2.2.2.2.2.1, x.2.2.2.2.2.2.2.2.2.1, x.2.2.2.2.2.2.2.2.2.2.1, x.2.2.2.2.2.2.2.2.2.2.2.1, x.2.2.2.2.2.2.2.2.2.2.2.2.1, x.2.2.2.2.2.2.2.2.2.2.2.2.2))) → lv_has ls 6 [(0, .ref h), (1, .ref h2), (2, .int (nI i_2))] → W p l e (zRm 0 0 0) s m args below meth c H locs 0 0 (MQ below (zQ G A (po_X4_mendAll G h ad se h2 ad2 x n)) args s 0 0 A) (F0 m 139 ls []) := by
            intro H locs ls hW hl
            refine lv_iinc (v := (nI (i_2 + 1))) hx hb dX4_mendAll_139 hl (k := 2) rfl (nI_1 _) (by decide) rfl (fun ls hl => ?_)
            refine lv_goto (tgt := 2) hx hb dX4_mendAll_142 (by decide) ?_
            exact ih _ _ _ (hW.eq (by rw [lp_X4_mendAll_2_s] <;> rfl)) (lv_sub hl [1, 2, 0] rfl)
          refine lv_if_le (tgt := 139) hx hb dX4_mendAll_93 (by decide) (fun c_93 => ?_) (fun c_93 => ?_)
          · have e_0 : (if (lp_X4_mendAll_16 se.1 se.2.1 se.2.2.1 se.2.2.2.1 se.2.2.2.2.1 i_2 ((0 : Int32), (0 : Int32)) n).1 ≤ (0 : Int32) then (lp_X4_mendAll_2 se.1 se.2.1 se.2.2.1 se.2.2.2.1 se.2.2.2.2.1 n (se.2.2.2.2.2.2.2.2.2, x.2.2.1) i_2).1 else ((lp_X4_mendAll_2 se.1 se.2.1 se.2.2.1 se.2.2.2.1 se.2.2.2.2.1 n (se.2.2.2.2.2.2.2.2.2, x.2.2.1) i_2).1 + (((((lp_X4_mendAll_16 se.1 se.2.1 se.2.2.1 se.2.2.2.1 se.2.2.2.2.1 i_2 ((0 : Int32), (0 : Int32)) n).2 / (lp_X4_mendAll_16 se.1 se.2.1 se.2.2.1 se.2.2.2.1 se.2.2.2.2.1 i_2 ((0 : Int32), (0 : Int32)) n).1) - (((lp_X4_mendAll_2 se.1 se.2.1 se.2.2.1 se.2.2.2.1 se.2.2.2.2.1 n (se.2.2.2.2.2.2.2.2.2, x.2.2.1) i_2).2) i_2)) * (lp_X4_mendAll_16 se.1 se.2.1 se.2.2.1 se.2.2.2.1 se.2.2.2.2.1 i_2 ((0 : Int32), (0 : Int32)) n).1) / ((lp_X4_mendAll_16 se.1 se.2.1 se.2.2.1 se.2.2.2.1 se.2.2.2.2.1 i_2 ((0 : Int32), (0 : Int32)) n).1 + (100 : Int32))).toInt64)) = (lp_X4_mendAll_2 se.1 se.2.1 se.2.2.1 se.2.2.2.1 se.2.2.2.2.1 n (se.2.2.2.2.2.2.2.2.2, x.2.2.1) i_2).1 := if_pos c_93
            have e_1 : (if (lp_X4_mendAll_16 se.1 se.2.1 se.2.2.1 se.2.2.2.1 se.2.2.2.2.1 i_2 ((0 : Int32), (0 : Int32)) n).1 ≤ (0 : Int32) then (lp_X4_mendAll_2 se.1 se.2.1 se.2.2.1 se.2.2.2.1 se.2.2.2.2.1 n (se.2.2.2.2.2.2.2.2.2, x.2.2.1) i_2).2 else (upd ((lp_X4_mendAll_2 se.1 se.2.1 se.2.2.1 se.2.2.2.1 se.2.2.2.2.1 n (se.2.2.2.2.2.2.2.2.2, x.2.2.1) i_2).2) i_2 ((((lp_X4_mendAll_2 se.1 se.2.1 se.2.2.1 se.2.2.2.1 se.2.2.2.2.1 n (se.2.2.2.2.2.2.2.2.2, x.2.2.1) i_2).2) i_2) + (((((lp_X4_mendAll_16 se.1 se.2.1 se.2.2.1 se.2.2.2.1 se.2.2.2.2.1 i_2 ((0 : Int32), (0 : Int32)) n).2 / (lp_X4_mendAll_16 se.1 se.2.1 se.2.2.1 se.2.2.2.1 se.2.2.2.2.1 i_2 ((0 : Int32), (0 : Int32)) n).1) - (((lp_X4_mendAll_2 se.1 se.2.1 se.2.2.1 se.2.2.2.1 se.2.2.2.2.1 n (se.2.2.2.2.2.2.2.2.2, x.2.2.1) i_2).2) i_2)) * (lp_X4_mendAll_16 se.1 se.2.1 se.2.2.1 se.2.2.2.1 se.2.2.2.2.1 i_2 ((0 : Int32), (0 : Int32)) n).1) / ((lp_X4_mendAll_16 se.1 se.2.1 se.2.2.1 se.2.2.2.1 se.2.2.2.2.1 i_2 ((0 : Int32), (0 : Int32)) n).1 + (100 : Int32)))))) = (lp_X4_mendAll_2 se.1 se.2.1 se.2.2.1 se.2.2.2.1 se.2.2.2.2.1 n (se.2.2.2.2.2.2.2.2.2, x.2.2.1) i_2).2 := if_pos c_93
            exact J_3 _ _ _ (hW.eq (by (try rw [e_0]) <;> (try rw [e_1]) <;> rfl)) (by (try rw [e_0]) <;> (try rw [e_1]) <;> exact lv_sub hl [0, 1, 2] rfl)
          · refine lv_iload hx hb dX4_mendAll_96 (lv_at hl 4 rfl) ?_
            refine lv_iload_n hx hb dX4_mendAll_98 rfl (lv_at hl 3 rfl) ?_
            refine lv_idiv hx hb dX4_mendAll_99 (fun h => c_93 (by rw [h]; decide)) ?_
            refine lv_aload_n hx hb dX4_mendAll_100 rfl (lv_at hl 1 rfl) ?_
            refine zget B hW 9 rfl lf_X4_63 rfl dX4_mendAll_101 ?_
            refine lv_iload_n hx hb dX4_mendAll_104 rfl (lv_at hl 2 rfl) ?_
            refine zialdN B hW 12 rfl i_2 rfl (by omega) (by decide) dX4_mendAll_105 ?_
            refine lv_isub hx hb dX4_mendAll_106 ?_
            refine lv_iload_n hx hb dX4_mendAll_107 rfl (lv_at hl 3 rfl) ?_
            refine lv_imul hx hb dX4_mendAll_108 ?_
            refine lv_iload_n hx hb dX4_mendAll_109 rfl (lv_at hl 3 rfl) ?_
            refine lv_bipush (v := (100 : Int32)) hx hb dX4_mendAll_110 (by decide) ?_
            refine lv_iadd hx hb dX4_mendAll_112 ?_
            refine lv_idiv hx hb dX4_mendAll_113 (hdv _ hi_2 c_93) ?_
            refine lv_istore hx hb dX4_mendAll_114 hl (by decide) rfl (fun ls hl => ?_)
            refine lv_aload_n hx hb dX4_mendAll_116 rfl (lv_at hl 2 rfl) ?_
            refine zget B hW 9 rfl lf_X4_63 rfl dX4_mendAll_117 ?_
            refine lv_iload_n hx hb dX4_mendAll_120 rfl (lv_at hl 3 rfl) ?_
            refine lv_dup2_11 hx hb dX4_mendAll_121 rfl rfl ?_
            refine zialdN B hW 12 rfl i_2 rfl (by omega) (by decide) dX4_mendAll_122 ?_
            refine lv_iload hx hb dX4_mendAll_123 (lv_at hl 0 rfl) ?_
            refine lv_iadd hx hb dX4_mendAll_125 ?_
            refine ziastN B hW 12 rfl i_2 rfl (by omega) (by decide) dX4_mendAll_126 (fun H locs hW => ?_)
            refine lv_aload_n hx hb dX4_mendAll_127 rfl (lv_at hl 1 rfl) ?_
            refine lv_dup hx hb dX4_mendAll_128 rfl ?_
            refine zget B hW 0 rfl lf_X4_41 rfl dX4_mendAll_129 ?_
            refine lv_iload hx hb dX4_mendAll_132 (lv_at hl 0 rfl) ?_
            refine lv_i2l hx hb dX4_mendAll_134 rfl ?_
            refine lv_ladd hx hb dX4_mendAll_135 ?_
            refine zput B hW 0 rfl lf_X4_41 ft_X4_9 rfl rfl (Nat.le_of_ble_eq_true rfl) dX4_mendAll_136 (fun H locs hW => ?_)
            have e_0 : (if (lp_X4_mendAll_16 se.1 se.2.1 se.2.2.1 se.2.2.2.1 se.2.2.2.2.1 i_2 ((0 : Int32), (0 : Int32)) n).1 ≤ (0 : Int32) then (lp_X4_mendAll_2 se.1 se.2.1 se.2.2.1 se.2.2.2.1 se.2.2.2.2.1 n (se.2.2.2.2.2.2.2.2.2, x.2.2.1) i_2).1 else ((lp_X4_mendAll_2 se.1 se.2.1 se.2.2.1 se.2.2.2.1 se.2.2.2.2.1 n (se.2.2.2.2.2.2.2.2.2, x.2.2.1) i_2).1 + (((((lp_X4_mendAll_16 se.1 se.2.1 se.2.2.1 se.2.2.2.1 se.2.2.2.2.1 i_2 ((0 : Int32), (0 : Int32)) n).2 / (lp_X4_mendAll_16 se.1 se.2.1 se.2.2.1 se.2.2.2.1 se.2.2.2.2.1 i_2 ((0 : Int32), (0 : Int32)) n).1) - (((lp_X4_mendAll_2 se.1 se.2.1 se.2.2.1 se.2.2.2.1 se.2.2.2.2.1 n (se.2.2.2.2.2.2.2.2.2, x.2.2.1) i_2).2) i_2)) * (lp_X4_mendAll_16 se.1 se.2.1 se.2.2.1 se.2.2.2.1 se.2.2.2.2.1 i_2 ((0 : Int32), (0 : Int32)) n).1) / ((lp_X4_mendAll_16 se.1 se.2.1 se.2.2.1 se.2.2.2.1 se.2.2.2.2.1 i_2 ((0 : Int32), (0 : Int32)) n).1 + (100 : Int32))).toInt64)) = ((lp_X4_mendAll_2 se.1 se.2.1 se.2.2.1 se.2.2.2.1 se.2.2.2.2.1 n (se.2.2.2.2.2.2.2.2.2, x.2.2.1) i_2).1 + (((((lp_X4_mendAll_16 se.1 se.2.1 se.2.2.1 se.2.2.2.1 se.2.2.2.2.1 i_2 ((0 : Int32), (0 : Int32)) n).2 / (lp_X4_mendAll_16 se.1 se.2.1 se.2.2.1 se.2.2.2.1 se.2.2.2.2.1 i_2 ((0 : Int32), (0 : Int32)) n).1) - (((lp_X4_mendAll_2 se.1 se.2.1 se.2.2.1 se.2.2.2.1 se.2.2.2.2.1 n (se.2.2.2.2.2.2.2.2.2, x.2.2.1) i_2).2) i_2)) * (lp_X4_mendAll_16 se.1 se.2.1 se.2.2.1 se.2.2.2.1 se.2.2.2.2.1 i_2 ((0 : Int32), (0 : Int32)) n).1) / ((lp_X4_mendAll_16 se.1 se.2.1 se.2.2.1 se.2.2.2.1 se.2.2.2.2.1 i_2 ((0 : Int32), (0 : Int32)) n).1 + (100 : Int32))).toInt64) := if_neg c_93
            have e_1 : (if (lp_X4_mendAll_16 se.1 se.2.1 se.2.2.1 se.2.2.2.1 se.2.2.2.2.1 i_2 ((0 : Int32), (0 : Int32)) n).1 ≤ (0 : Int32) then (lp_X4_mendAll_2 se.1 se.2.1 se.2.2.1 se.2.2.2.1 se.2.2.2.2.1 n (se.2.2.2.2.2.2.2.2.2, x.2.2.1) i_2).2 else (upd ((lp_X4_mendAll_2 se.1 se.2.1 se.2.2.1 se.2.2.2.1 se.2.2.2.2.1 n (se.2.2.2.2.2.2.2.2.2, x.2.2.1) i_2).2) i_2 ((((lp_X4_mendAll_2 se.1 se.2.1 se.2.2.1 se.2.2.2.1 se.2.2.2.2.1 n (se.2.2.2.2.2.2.2.2.2, x.2.2.1) i_2).2) i_2) + (((((lp_X4_mendAll_16 se.1 se.2.1 se.2.2.1 se.2.2.2.1 se.2.2.2.2.1 i_2 ((0 : Int32), (0 : Int32)) n).2 / (lp_X4_mendAll_16 se.1 se.2.1 se.2.2.1 se.2.2.2.1 se.2.2.2.2.1 i_2 ((0 : Int32), (0 : Int32)) n).1) - (((lp_X4_mendAll_2 se.1 se.2.1 se.2.2.1 se.2.2.2.1 se.2.2.2.2.1 n (se.2.2.2.2.2.2.2.2.2, x.2.2.1) i_2).2) i_2)) * (lp_X4_mendAll_16 se.1 se.2.1 se.2.2.1 se.2.2.2.1 se.2.2.2.2.1 i_2 ((0 : Int32), (0 : Int32)) n).1) / ((lp_X4_mendAll_16 se.1 se.2.1 se.2.2.1 se.2.2.2.1 se.2.2.2.2.1 i_2 ((0 : Int32), (0 : Int32)) n).1 + (100 : Int32)))))) = (upd ((lp_X4_mendAll_2 se.1 se.2.1 se.2.2.1 se.2.2.2.1 se.2.2.2.2.1 n (se.2.2.2.2.2.2.2.2.2, x.2.2.1) i_2).2) i_2 ((((lp_X4_mendAll_2 se.1 se.2.1 se.2.2.1 se.2.2.2.1 se.2.2.2.2.1 n (se.2.2.2.2.2.2.2.2.2, x.2.2.1) i_2).2) i_2) + (((((lp_X4_mendAll_16 se.1 se.2.1 se.2.2.1 se.2.2.2.1 se.2.2.2.2.1 i_2 ((0 : Int32), (0 : Int32)) n).2 / (lp_X4_mendAll_16 se.1 se.2.1 se.2.2.1 se.2.2.2.1 se.2.2.2.2.1 i_2 ((0 : Int32), (0 : Int32)) n).1) - (((lp_X4_mendAll_2 se.1 se.2.1 se.2.2.1 se.2.2.2.1 se.2.2.2.2.1 n (se.2.2.2.2.2.2.2.2.2, x.2.2.1) i_2).2) i_2)) * (lp_X4_mendAll_16 se.1 se.2.1 se.2.2.1 se.2.2.2.1 se.2.2.2.2.1 i_2 ((0 : Int32), (0 : Int32)) n).1) / ((lp_X4_mendAll_16 se.1 se.2.1 se.2.2.1 se.2.2.2.1 se.2.2.2.2.1 i_2 ((0 : Int32), (0 : Int32)) n).1 + (100 : Int32))))) := if_neg c_93
            exact J_3 _ _ _ (hW.eq (by (try rw [e_0]) <;> (try rw [e_1]) <;> rfl)) (by (try rw [e_0]) <;> (try rw [e_1]) <;> exact lv_sub hl [1, 2, 3] rfl)
        · intro i_16 hi_16 ih H locs ls hW hl
          refine lv_iload hx hb dX4_mendAll_16 (lv_at hl 5 rfl) ?_
          refine lv_aload_n hx hb dX4_mendAll_18 rfl (lv_at hl 0 rfl) ?_
          refine zget B hW 0 rfl lf_X4_37 rfl dX4_mendAll_19 ?_
          refine lv_icmp_ge (tgt := 92) hx hb dX4_mendAll_22 (by decide) (fun c_22 => absurd c_22 (znle (hc) hi_16 (by omega))) (fun c_22 => ?_)
          refine lv_aload_n hx hb dX4_mendAll_25 rfl (lv_at hl 0 rfl) ?_
          refine zget B hW 0 rfl lf_X4_15 rfl dX4_mendAll_26 ?_
          refine lv_iload hx hb dX4_mendAll_29 (lv_at hl 5 rfl) ?_
          refine zialdN B hW 2 rfl i_16 rfl (by omega) (by decide) dX4_mendAll_31 ?_
          refine lv_iload_n hx hb dX4_mendAll_32 rfl (lv_at hl 2 rfl) ?_
          have J_4 : ∀ (H : Heap) (locs : List Loc) (ls : Array Slot), zW G A s.heap H locs (sensW G h ad (se.1, se.2.1, se.2.2.1, se.2.2.2.1, se.2.2.2.2.1, se.2.2.2.2.2.1, se.2.2.2.2.2.2.1, se.2.2.2.2.2.2.2.1, se.2.2.2.2.2.2.2.2.1, (lp_X4_mendAll_2 se.1 se.2.1 se.2.2.1 se.2.2.2.1 se.2.2.2.2.1 n (se.2.2.2.2.2.2.2.2.2, x.2.2.1) i_2).1) ++ (landW G h2 ad2 (x.1, x.2.1, (lp_X4_mendAll_2 se.1 se.2.1 se.2.2.1 se.2.2.2.1 se.2.2.2.2.1 n (se.2.2.2.2.2.2.2.2.2, x.2.2.1) i_2).2, x.2.2.2.1, x.2.2.2.2.1, x.2.2.2.2.2.1, x.2.2.2.2.2.2.1, x.2.2.2.2.2.2.2.1, x.2.2.2.2.2.2.2.2.1, x.2.2.2.2.2.2.2.2.2.1, x.2.2.2.2.2.2.2.2.2.2.1, x.2.2.2.2.2.2.2.2.2.2.2.1, x.2.2.2.2.2.2.2.2.2.2.2.2.1, x.2.2.2.2.2.2.2.2.2.2.2.2.2))) → lv_has ls 6 [(0, .ref h), (1, .ref h2), (2, .int (nI i_2)), (3, .int (if (se.2.1 i_16) = (nI i_2) then (if (se.2.2.1 i_16) = (0 : Int32) then (lp_X4_mendAll_16 se.1 se.2.1 se.2.2.1 se.2.2.2.1 se.2.2.2.2.1 i_2 ((0 : Int32), (0 : Int32)) i_16).1 else (if (se.2.2.2.2.1 i_16) = (0 : Int32) then ((lp_X4_mendAll_16 se.1 se.2.1 se.2.2.1 se.2.2.2.1 se.2.2.2.2.1 i_2 ((0 : Int32), (0 : Int32)) i_16).1 + (se.1 i_16)) else (lp_X4_mendAll_16 se.1 se.2.1 se.2.2.1 se.2.2.2.1 se.2.2.2.2.1 i_2 ((0 : Int32), (0 : Int32)) i_16).1)) else (lp_X4_mendAll_16 se.1 se.2.1 se.2.2.1 se.2.2.2.1 se.2.2.2.2.1 i_2 ((0 : Int32), (0 : Int32)) i_16).1)), (4, .int (if (se.2.1 i_16) = (nI i_2) then (if (se.2.2.1 i_16) = (0 : Int32) then (lp_X4_mendAll_16 se.1 se.2.1 se.2.2.1 se.2.2.2.1 se.2.2.2.2.1 i_2 ((0 : Int32), (0 : Int32)) i_16).2 else (if (se.2.2.2.2.1 i_16) = (0 : Int32) then ((lp_X4_mendAll_16 se.1 se.2.1 se.2.2.1 se.2.2.2.1 se.2.2.2.2.1 i_2 ((0 : Int32), (0 : Int32)) i_16).2 + ((se.1 i_16) * (se.2.2.2.1 i_16))) else (lp_X4_mendAll_16 se.1 se.2.1 se.2.2.1 se.2.2.2.1 se.2.2.2.2.1 i_2 ((0 : Int32), (0 : Int32)) i_16).2)) else (lp_X4_mendAll_16 se.1 se.2.1 se.2.2.1 se.2.2.2.1 se.2.2.2.2.1 i_2 ((0 : Int32), (0 : Int32)) i_16).2)), (5, .int (nI i_16))] → W p l e (zRm 0 0 0) s m args below meth c H locs 0 0 (MQ below (zQ G A (po_X4_mendAll G h ad se h2 ad2 x n)) args s 0 0 A) (F0 m 86 ls []) := by
            intro H locs ls hW hl
            refine lv_iinc (v := (nI (i_16 + 1))) hx hb dX4_mendAll_86 hl (k := 5) rfl (nI_1 _) (by decide) rfl (fun ls hl => ?_)
            refine lv_goto (tgt := 16) hx hb dX4_mendAll_89 (by decide) ?_
            exact ih _ _ _ (hW.eq rfl) (by rw [lp_X4_mendAll_16_s]; exact lv_sub hl [1, 2, 3, 4, 5, 0] rfl)
          refine lv_icmp_ne (tgt := 86) hx hb dX4_mendAll_33 (by decide) (fun c_33 => ?_) (fun c_33 => ?_)
          · have e_0 : (if (se.2.1 i_16) = (nI i_2) then (if (se.2.2.1 i_16) = (0 : Int32) then (lp_X4_mendAll_16 se.1 se.2.1 se.2.2.1 se.2.2.2.1 se.2.2.2.2.1 i_2 ((0 : Int32), (0 : Int32)) i_16).1 else (if (se.2.2.2.2.1 i_16) = (0 : Int32) then ((lp_X4_mendAll_16 se.1 se.2.1 se.2.2.1 se.2.2.2.1 se.2.2.2.2.1 i_2 ((0 : Int32), (0 : Int32)) i_16).1 + (se.1 i_16)) else (lp_X4_mendAll_16 se.1 se.2.1 se.2.2.1 se.2.2.2.1 se.2.2.2.2.1 i_2 ((0 : Int32), (0 : Int32)) i_16).1)) else (lp_X4_mendAll_16 se.1 se.2.1 se.2.2.1 se.2.2.2.1 se.2.2.2.2.1 i_2 ((0 : Int32), (0 : Int32)) i_16).1) = (lp_X4_mendAll_16 se.1 se.2.1 se.2.2.1 se.2.2.2.1 se.2.2.2.2.1 i_2 ((0 : Int32), (0 : Int32)) i_16).1 := if_neg c_33
            have e_1 : (if (se.2.1 i_16) = (nI i_2) then (if (se.2.2.1 i_16) = (0 : Int32) then (lp_X4_mendAll_16 se.1 se.2.1 se.2.2.1 se.2.2.2.1 se.2.2.2.2.1 i_2 ((0 : Int32), (0 : Int32)) i_16).2 else (if (se.2.2.2.2.1 i_16) = (0 : Int32) then ((lp_X4_mendAll_16 se.1 se.2.1 se.2.2.1 se.2.2.2.1 se.2.2.2.2.1 i_2 ((0 : Int32), (0 : Int32)) i_16).2 + ((se.1 i_16) * (se.2.2.2.1 i_16))) else (lp_X4_mendAll_16 se.1 se.2.1 se.2.2.1 se.2.2.2.1 se.2.2.2.2.1 i_2 ((0 : Int32), (0 : Int32)) i_16).2)) else (lp_X4_mendAll_16 se.1 se.2.1 se.2.2.1 se.2.2.2.1 se.2.2.2.2.1 i_2 ((0 : Int32), (0 : Int32)) i_16).2) = (lp_X4_mendAll_16 se.1 se.2.1 se.2.2.1 se.2.2.2.1 se.2.2.2.2.1 i_2 ((0 : Int32), (0 : Int32)) i_16).2 := if_neg c_33
            exact J_4 _ _ _ (hW.eq (by (try rw [e_0]) <;> (try rw [e_1]) <;> rfl)) (by (try rw [e_0]) <;> (try rw [e_1]) <;> exact lv_sub hl [0, 1, 2, 3, 4, 5] rfl)
          · refine lv_aload_n hx hb dX4_mendAll_36 rfl (lv_at hl 0 rfl) ?_
            refine zget B hW 0 rfl lf_X4_18 rfl dX4_mendAll_37 ?_
            refine lv_iload hx hb dX4_mendAll_40 (lv_at hl 5 rfl) ?_
            refine zzaldN B hW 3 rfl i_16 rfl (by omega) (by decide) dX4_mendAll_42 ?_
            refine lv_if_eq (tgt := 86) hx hb dX4_mendAll_43 (by decide) (fun c_43 => ?_) (fun c_43 => ?_)
            · have e_0 : (if (se.2.1 i_16) = (nI i_2) then (if (se.2.2.1 i_16) = (0 : Int32) then (lp_X4_mendAll_16 se.1 se.2.1 se.2.2.1 se.2.2.2.1 se.2.2.2.2.1 i_2 ((0 : Int32), (0 : Int32)) i_16).1 else (if (se.2.2.2.2.1 i_16) = (0 : Int32) then ((lp_X4_mendAll_16 se.1 se.2.1 se.2.2.1 se.2.2.2.1 se.2.2.2.2.1 i_2 ((0 : Int32), (0 : Int32)) i_16).1 + (se.1 i_16)) else (lp_X4_mendAll_16 se.1 se.2.1 se.2.2.1 se.2.2.2.1 se.2.2.2.2.1 i_2 ((0 : Int32), (0 : Int32)) i_16).1)) else (lp_X4_mendAll_16 se.1 se.2.1 se.2.2.1 se.2.2.2.1 se.2.2.2.2.1 i_2 ((0 : Int32), (0 : Int32)) i_16).1) = (lp_X4_mendAll_16 se.1 se.2.1 se.2.2.1 se.2.2.2.1 se.2.2.2.2.1 i_2 ((0 : Int32), (0 : Int32)) i_16).1 := (if_pos c_33).trans (if_pos c_43)
              have e_1 : (if (se.2.1 i_16) = (nI i_2) then (if (se.2.2.1 i_16) = (0 : Int32) then (lp_X4_mendAll_16 se.1 se.2.1 se.2.2.1 se.2.2.2.1 se.2.2.2.2.1 i_2 ((0 : Int32), (0 : Int32)) i_16).2 else (if (se.2.2.2.2.1 i_16) = (0 : Int32) then ((lp_X4_mendAll_16 se.1 se.2.1 se.2.2.1 se.2.2.2.1 se.2.2.2.2.1 i_2 ((0 : Int32), (0 : Int32)) i_16).2 + ((se.1 i_16) * (se.2.2.2.1 i_16))) else (lp_X4_mendAll_16 se.1 se.2.1 se.2.2.1 se.2.2.2.1 se.2.2.2.2.1 i_2 ((0 : Int32), (0 : Int32)) i_16).2)) else (lp_X4_mendAll_16 se.1 se.2.1 se.2.2.1 se.2.2.2.1 se.2.2.2.2.1 i_2 ((0 : Int32), (0 : Int32)) i_16).2) = (lp_X4_mendAll_16 se.1 se.2.1 se.2.2.1 se.2.2.2.1 se.2.2.2.2.1 i_2 ((0 : Int32), (0 : Int32)) i_16).2 := (if_pos c_33).trans (if_pos c_43)
              exact J_4 _ _ _ (hW.eq (by (try rw [e_0]) <;> (try rw [e_1]) <;> rfl)) (by (try rw [e_0]) <;> (try rw [e_1]) <;> exact lv_sub hl [0, 1, 2, 3, 4, 5] rfl)
            · refine lv_aload_n hx hb dX4_mendAll_46 rfl (lv_at hl 0 rfl) ?_
              refine zget B hW 0 rfl lf_X4_25 rfl dX4_mendAll_47 ?_
              refine lv_iload hx hb dX4_mendAll_50 (lv_at hl 5 rfl) ?_
              refine zzaldN B hW 5 rfl i_16 rfl (by omega) (by decide) dX4_mendAll_52 ?_
              refine lv_if_ne (tgt := 86) hx hb dX4_mendAll_53 (by decide) (fun c_53 => ?_) (fun c_53 => ?_)
              · have e_0 : (if (se.2.1 i_16) = (nI i_2) then (if (se.2.2.1 i_16) = (0 : Int32) then (lp_X4_mendAll_16 se.1 se.2.1 se.2.2.1 se.2.2.2.1 se.2.2.2.2.1 i_2 ((0 : Int32), (0 : Int32)) i_16).1 else (if (se.2.2.2.2.1 i_16) = (0 : Int32) then ((lp_X4_mendAll_16 se.1 se.2.1 se.2.2.1 se.2.2.2.1 se.2.2.2.2.1 i_2 ((0 : Int32), (0 : Int32)) i_16).1 + (se.1 i_16)) else (lp_X4_mendAll_16 se.1 se.2.1 se.2.2.1 se.2.2.2.1 se.2.2.2.2.1 i_2 ((0 : Int32), (0 : Int32)) i_16).1)) else (lp_X4_mendAll_16 se.1 se.2.1 se.2.2.1 se.2.2.2.1 se.2.2.2.2.1 i_2 ((0 : Int32), (0 : Int32)) i_16).1) = (lp_X4_mendAll_16 se.1 se.2.1 se.2.2.1 se.2.2.2.1 se.2.2.2.2.1 i_2 ((0 : Int32), (0 : Int32)) i_16).1 := (if_pos c_33).trans ((if_neg c_43).trans (if_neg c_53))
                have e_1 : (if (se.2.1 i_16) = (nI i_2) then (if (se.2.2.1 i_16) = (0 : Int32) then (lp_X4_mendAll_16 se.1 se.2.1 se.2.2.1 se.2.2.2.1 se.2.2.2.2.1 i_2 ((0 : Int32), (0 : Int32)) i_16).2 else (if (se.2.2.2.2.1 i_16) = (0 : Int32) then ((lp_X4_mendAll_16 se.1 se.2.1 se.2.2.1 se.2.2.2.1 se.2.2.2.2.1 i_2 ((0 : Int32), (0 : Int32)) i_16).2 + ((se.1 i_16) * (se.2.2.2.1 i_16))) else (lp_X4_mendAll_16 se.1 se.2.1 se.2.2.1 se.2.2.2.1 se.2.2.2.2.1 i_2 ((0 : Int32), (0 : Int32)) i_16).2)) else (lp_X4_mendAll_16 se.1 se.2.1 se.2.2.1 se.2.2.2.1 se.2.2.2.2.1 i_2 ((0 : Int32), (0 : Int32)) i_16).2) = (lp_X4_mendAll_16 se.1 se.2.1 se.2.2.1 se.2.2.2.1 se.2.2.2.2.1 i_2 ((0 : Int32), (0 : Int32)) i_16).2 := (if_pos c_33).trans ((if_neg c_43).trans (if_neg c_53))
                exact J_4 _ _ _ (hW.eq (by (try rw [e_0]) <;> (try rw [e_1]) <;> rfl)) (by (try rw [e_0]) <;> (try rw [e_1]) <;> exact lv_sub hl [0, 1, 2, 3, 4, 5] rfl)
              · refine lv_iload_n hx hb dX4_mendAll_56 rfl (lv_at hl 3 rfl) ?_
                refine lv_aload_n hx hb dX4_mendAll_57 rfl (lv_at hl 0 rfl) ?_
                refine zget B hW 0 rfl lf_X4_9 rfl dX4_mendAll_58 ?_
                refine lv_iload hx hb dX4_mendAll_61 (lv_at hl 5 rfl) ?_
                refine zialdN B hW 1 rfl i_16 rfl (by omega) (by decide) dX4_mendAll_63 ?_
                refine lv_iadd hx hb dX4_mendAll_64 ?_
                refine lv_istore_n hx hb dX4_mendAll_65 rfl hl (by decide) rfl (fun ls hl => ?_)
                refine lv_iload hx hb dX4_mendAll_66 (lv_at hl 4 rfl) ?_
                refine lv_aload_n hx hb dX4_mendAll_68 rfl (lv_at hl 1 rfl) ?_
                refine zget B hW 0 rfl lf_X4_9 rfl dX4_mendAll_69 ?_
                refine lv_iload hx hb dX4_mendAll_72 (lv_at hl 5 rfl) ?_
                refine zialdN B hW 1 rfl i_16 rfl (by omega) (by decide) dX4_mendAll_74 ?_
                refine lv_aload_n hx hb dX4_mendAll_75 rfl (lv_at hl 1 rfl) ?_
                refine zget B hW 0 rfl lf_X4_22 rfl dX4_mendAll_76 ?_
                refine lv_iload hx hb dX4_mendAll_79 (lv_at hl 5 rfl) ?_
                refine zialdN B hW 4 rfl i_16 rfl (by omega) (by decide) dX4_mendAll_81 ?_
                refine lv_imul hx hb dX4_mendAll_82 ?_
                refine lv_iadd hx hb dX4_mendAll_83 ?_
                refine lv_istore hx hb dX4_mendAll_84 hl (by decide) rfl (fun ls hl => ?_)
                have e_0 : (if (se.2.1 i_16) = (nI i_2) then (if (se.2.2.1 i_16) = (0 : Int32) then (lp_X4_mendAll_16 se.1 se.2.1 se.2.2.1 se.2.2.2.1 se.2.2.2.2.1 i_2 ((0 : Int32), (0 : Int32)) i_16).1 else (if (se.2.2.2.2.1 i_16) = (0 : Int32) then ((lp_X4_mendAll_16 se.1 se.2.1 se.2.2.1 se.2.2.2.1 se.2.2.2.2.1 i_2 ((0 : Int32), (0 : Int32)) i_16).1 + (se.1 i_16)) else (lp_X4_mendAll_16 se.1 se.2.1 se.2.2.1 se.2.2.2.1 se.2.2.2.2.1 i_2 ((0 : Int32), (0 : Int32)) i_16).1)) else (lp_X4_mendAll_16 se.1 se.2.1 se.2.2.1 se.2.2.2.1 se.2.2.2.2.1 i_2 ((0 : Int32), (0 : Int32)) i_16).1) = ((lp_X4_mendAll_16 se.1 se.2.1 se.2.2.1 se.2.2.2.1 se.2.2.2.2.1 i_2 ((0 : Int32), (0 : Int32)) i_16).1 + (se.1 i_16)) := (if_pos c_33).trans ((if_neg c_43).trans (if_pos c_53))
                have e_1 : (if (se.2.1 i_16) = (nI i_2) then (if (se.2.2.1 i_16) = (0 : Int32) then (lp_X4_mendAll_16 se.1 se.2.1 se.2.2.1 se.2.2.2.1 se.2.2.2.2.1 i_2 ((0 : Int32), (0 : Int32)) i_16).2 else (if (se.2.2.2.2.1 i_16) = (0 : Int32) then ((lp_X4_mendAll_16 se.1 se.2.1 se.2.2.1 se.2.2.2.1 se.2.2.2.2.1 i_2 ((0 : Int32), (0 : Int32)) i_16).2 + ((se.1 i_16) * (se.2.2.2.1 i_16))) else (lp_X4_mendAll_16 se.1 se.2.1 se.2.2.1 se.2.2.2.1 se.2.2.2.2.1 i_2 ((0 : Int32), (0 : Int32)) i_16).2)) else (lp_X4_mendAll_16 se.1 se.2.1 se.2.2.1 se.2.2.2.1 se.2.2.2.2.1 i_2 ((0 : Int32), (0 : Int32)) i_16).2) = ((lp_X4_mendAll_16 se.1 se.2.1 se.2.2.1 se.2.2.2.1 se.2.2.2.2.1 i_2 ((0 : Int32), (0 : Int32)) i_16).2 + ((se.1 i_16) * (se.2.2.2.1 i_16))) := (if_pos c_33).trans ((if_neg c_43).trans (if_pos c_53))
                exact J_4 _ _ _ (hW.eq (by (try rw [e_0]) <;> (try rw [e_1]) <;> rfl)) (by (try rw [e_0]) <;> (try rw [e_1]) <;> exact lv_sub hl [2, 3, 4, 1, 0, 5] rfl)
      exact L_2 0 (Nat.zero_le _) _ _ _ (hW.eq rfl) (by rw [lp_X4_mendAll_16_0]; exact lv_sub hl [3, 4, 5, 2, 1, 0] rfl)
  exact L_1 0 (Nat.zero_le _) _ _ _ (hW.eq (by rw [lp_X4_mendAll_2_0] <;> rfl)) (lv_sub hl [1, 2, 0] rfl)
