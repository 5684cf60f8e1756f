def i_X0_init (a : Int32) (b : Int32) (c1 : Int32) (d1 : Int32) (f : Int32) : zAct := (a, b, c1, d1, f)
abbrev po_X0_init (G : zG) (h : Nat) (a : Int32) (b : Int32) (c1 : Int32) (d1 : Int32) (f : Int32) : Option Value → va_W → Prop := fun r u => ∃ (ad : Nat → Nat), r = none ∧ u = actW G h ad (i_X0_init a b c1 d1 f)
set_option maxHeartbeats 4000000 in
set_option maxRecDepth 100000 in
theorem c_X0_init (l : Launch) (G : zG) (h : Nat) (a : Int32) (b : Int32) (c1 : Int32) (d1 : Int32) (f : Int32) : zC l yX0_init cX0_init 6 none 1 0 0 G [.ref h, .int a, .int b, .int c1, .int d1, .int f] (([(h, .inr (4, [.int 0, .int 0, .int 0, .int 0, .int 0]))] : va_W)) (po_X0_init G h a b c1 d1 f) := by
  refine zC.of RX0 rfl (by decide) (Nat.le_of_ble_eq_true rfl) ?_
  intro p e s m args below meth c A ls B hr hlk hnm hW hl
  have hx := B.x
  have hb := B.b
  have hl : lv_has ls 6 [(0, .ref h), (1, .int a), (2, .int b), (3, .int c1), (4, .int d1), (5, .int f)] := hl
  refine lv_aload_n hx hb dX0_init_0 rfl (lv_at hl 0 rfl) ?_
  refine zobj B hl.1 ml_X0_1 (Nat.le_of_ble_eq_true rfl) (Nat.le_of_ble_eq_true rfl) dX0_init_1 ?_
  refine lv_aload_n hx hb dX0_init_4 rfl (lv_at hl 0 rfl) ?_
  refine lv_iload_n hx hb dX0_init_5 rfl (lv_at hl 1 rfl) ?_
  refine zputF B hW hnm 0 rfl lf_X0_7 ft_X0_0 (fun C T N h => by have e := Option.some.inj h; cases e; rfl) rfl rfl (Nat.le_of_ble_eq_true rfl) dX0_init_6 (fun H locs hW => ?_)
  have hW : zW G A s.heap H locs (([(h, .inr (4, [.int a, .int 0, .int 0, .int 0, .int 0]))] : va_W)) := hW
  refine lv_aload_n hx hb dX0_init_9 rfl (lv_at hl 0 rfl) ?_
  refine lv_iload_n hx hb dX0_init_10 rfl (lv_at hl 2 rfl) ?_
  refine zputF B hW hnm 0 rfl lf_X0_13 ft_X0_1 (fun C T N h => by have e := Option.some.inj h; cases e; rfl) rfl rfl (Nat.le_of_ble_eq_true rfl) dX0_init_11 (fun H locs hW => ?_)
  have hW : zW G A s.heap H locs (([(h, .inr (4, [.int a, .int b, .int 0, .int 0, .int 0]))] : va_W)) := hW
  refine lv_aload_n hx hb dX0_init_14 rfl (lv_at hl 0 rfl) ?_
  refine lv_iload_n hx hb dX0_init_15 rfl (lv_at hl 3 rfl) ?_
  refine zputF B hW hnm 0 rfl lf_X0_16 ft_X0_2 (fun C T N h => by have e := Option.some.inj h; cases e; rfl) rfl rfl (Nat.le_of_ble_eq_true rfl) dX0_init_16 (fun H locs hW => ?_)
  have hW : zW G A s.heap H locs (([(h, .inr (4, [.int a, .int b, .int c1, .int 0, .int 0]))] : va_W)) := hW
  refine lv_aload_n hx hb dX0_init_19 rfl (lv_at hl 0 rfl) ?_
  refine lv_iload hx hb dX0_init_20 (lv_at hl 4 rfl) ?_
  refine zputF B hW hnm 0 rfl lf_X0_19 ft_X0_3 (fun C T N h => by have e := Option.some.inj h; cases e; rfl) rfl rfl (Nat.le_of_ble_eq_true rfl) dX0_init_22 (fun H locs hW => ?_)
  have hW : zW G A s.heap H locs (([(h, .inr (4, [.int a, .int b, .int c1, .int d1, .int 0]))] : va_W)) := hW
  refine lv_aload_n hx hb dX0_init_25 rfl (lv_at hl 0 rfl) ?_
  refine lv_iload hx hb dX0_init_26 (lv_at hl 5 rfl) ?_
  refine zputF B hW hnm 0 rfl lf_X0_22 ft_X0_4 (fun C T N h => by have e := Option.some.inj h; cases e; rfl) rfl rfl (Nat.le_of_ble_eq_true rfl) dX0_init_28 (fun H locs hW => ?_)
  have hW : zW G A s.heap H locs (([(h, .inr (4, [.int a, .int b, .int c1, .int d1, .int f]))] : va_W)) := hW
  have hW := hW.sub (w' := actW G h (zads []) (a, b, c1, d1, f)) [0] rfl rfl
  exact zvret B hr hlk hW ⟨(zads []), rfl, rfl⟩ (Nat.le_of_ble_eq_true rfl) (Nat.le_of_ble_eq_true rfl) dX0_init_31
def i_X1_init : zLand := ((fun _ => (10 : Int32)), (fun _ => 0), (fun _ => 0), (fun _ => 0), (fun _ => 0), (fun _ => 0), (fun _ => 0), (0 : Int32), (0 : Int32), (0 : Int32), (0 : Int32), (0 : Int64), (0 : Int64), (0 : Int64))
abbrev po_X1_init (G : zG) (h : Nat) : Option Value → va_W → Prop := fun r u => ∃ (ad : Nat → Nat), r = none ∧ u = landW G h ad (i_X1_init)
set_option maxHeartbeats 4000000 in
set_option maxRecDepth 100000 in
theorem c_X1_init (l : Launch) (G : zG) (h : Nat) : zC l yX1_init cX1_init 1 none 1 7 246 G [.ref h] (([(h, .inr (5, [.null, .null, .null, .null, .null, .null, .null, .int 0, .int 0, .int 0, .int 0, .long 0, .long 0, .long 0]))] : va_W)) (po_X1_init G h) := by
  refine zC.of RX1 rfl (by decide) (Nat.le_of_ble_eq_true rfl) ?_
  intro p e s m args below meth c A ls B hr hlk hnm hW hl
  have hx := B.x
  have hb := B.b
  have hl : lv_has ls 1 [(0, .ref h)] := hl
  refine lv_aload_n hx hb dX1_init_0 rfl (lv_at hl 0 rfl) ?_
  refine zobj B hl.1 ml_X1_3 (Nat.le_of_ble_eq_true rfl) (Nat.le_of_ble_eq_true rfl) dX1_init_1 ?_
  refine lv_aload_n hx hb dX1_init_4 rfl (lv_at hl 0 rfl) ?_
  refine lv_bipush (v := (48 : Int32)) hx hb dX1_init_5 (by decide) ?_
  refine znewi B hW 48 (by decide) (Nat.le_of_ble_eq_true rfl) (Nat.le_of_ble_eq_true rfl) (Nat.le_of_ble_eq_true rfl) dX1_init_7 (fun q_7 H hW => ?_)
  have hW : zW G A s.heap H locs (([(h, .inr (5, [.null, .null, .null, .null, .null, .null, .null, .int 0, .int 0, .int 0, .int 0, .long 0, .long 0, .long 0]))] : va_W) ++ (([(q_7, .inl (G.2.1 0, 48, .inl (fun _ => 0)))] : va_W))) := hW
  refine zputF B hW hnm 0 rfl lf_X1_9 ft_X1_0 (fun C T N h => by have e := Option.some.inj h; cases e; rfl) rfl rfl (Nat.le_of_ble_eq_true rfl) dX1_init_9 (fun H locs hW => ?_)
  have hW : zW G A s.heap H locs (([(h, .inr (5, [.ref q_7, .null, .null, .null, .null, .null, .null, .int 0, .int 0, .int 0, .int 0, .long 0, .long 0, .long 0]))] : va_W) ++ (([(q_7, .inl (G.2.1 0, 48, .inl (fun _ => 0)))] : va_W))) := hW
  refine lv_aload_n hx hb dX1_init_12 rfl (lv_at hl 0 rfl) ?_
  refine lv_bipush (v := (48 : Int32)) hx hb dX1_init_13 (by decide) ?_
  refine znewi B hW 48 (by decide) (Nat.le_of_ble_eq_true rfl) (Nat.le_of_ble_eq_true rfl) (Nat.le_of_ble_eq_true rfl) dX1_init_15 (fun q_15 H hW => ?_)
  have hW : zW G A s.heap H locs (([(h, .inr (5, [.ref q_7, .null, .null, .null, .null, .null, .null, .int 0, .int 0, .int 0, .int 0, .long 0, .long 0, .long 0]))] : va_W) ++ (([(q_7, .inl (G.2.1 0, 48, .inl (fun _ => 0)))] : va_W) ++ (([(q_15, .inl (G.2.1 0, 48, .inl (fun _ => 0)))] : va_W)))) := hW
  refine zputF B hW hnm 0 rfl lf_X1_15 ft_X1_1 (fun C T N h => by have e := Option.some.inj h; cases e; rfl) rfl rfl (Nat.le_of_ble_eq_true rfl) dX1_init_17 (fun H locs hW => ?_)
  have hW : zW G A s.heap H locs (([(h, .inr (5, [.ref q_7, .ref q_15, .null, .null, .null, .null, .null, .int 0, .int 0, .int 0, .int 0, .long 0, .long 0, .long 0]))] : va_W) ++ (([(q_7, .inl (G.2.1 0, 48, .inl (fun _ => 0)))] : va_W) ++ (([(q_15, .inl (G.2.1 0, 48, .inl (fun _ => 0)))] : va_W)))) := hW
  refine lv_aload_n hx hb dX1_init_20 rfl (lv_at hl 0 rfl) ?_
  refine lv_bipush (v := (48 : Int32)) hx hb dX1_init_21 (by decide) ?_
  refine znewi B hW 48 (by decide) (Nat.le_of_ble_eq_true rfl) (Nat.le_of_ble_eq_true rfl) (Nat.le_of_ble_eq_true rfl) dX1_init_23 (fun q_23 H hW => ?_)
  have hW : zW G A s.heap H locs (([(h, .inr (5, [.ref q_7, .ref q_15, .null, .null, .null, .null, .null, .int 0, .int 0, .int 0, .int 0, .long 0, .long 0, .long 0]))] : va_W) ++ (([(q_7, .inl (G.2.1 0, 48, .inl (fun _ => 0)))] : va_W) ++ (([(q_15, .inl (G.2.1 0, 48, .inl (fun _ => 0)))] : va_W) ++ (([(q_23, .inl (G.2.1 0, 48, .inl (fun _ => 0)))] : va_W))))) := hW
  refine zputF B hW hnm 0 rfl lf_X1_18 ft_X1_2 (fun C T N h => by have e := Option.some.inj h; cases e; rfl) rfl rfl (Nat.le_of_ble_eq_true rfl) dX1_init_25 (fun H locs hW => ?_)
  have hW : zW G A s.heap H locs (([(h, .inr (5, [.ref q_7, .ref q_15, .ref q_23, .null, .null, .null, .null, .int 0, .int 0, .int 0, .int 0, .long 0, .long 0, .long 0]))] : va_W) ++ (([(q_7, .inl (G.2.1 0, 48, .inl (fun _ => 0)))] : va_W) ++ (([(q_15, .inl (G.2.1 0, 48, .inl (fun _ => 0)))] : va_W) ++ (([(q_23, .inl (G.2.1 0, 48, .inl (fun _ => 0)))] : va_W))))) := hW
  refine lv_aload_n hx hb dX1_init_28 rfl (lv_at hl 0 rfl) ?_
  refine lv_bipush (v := (48 : Int32)) hx hb dX1_init_29 (by decide) ?_
  refine znewz B hW 48 (by decide) (Nat.le_of_ble_eq_true rfl) (Nat.le_of_ble_eq_true rfl) (Nat.le_of_ble_eq_true rfl) dX1_init_31 (fun q_31 H hW => ?_)
  have hW : zW G A s.heap H locs (([(h, .inr (5, [.ref q_7, .ref q_15, .ref q_23, .null, .null, .null, .null, .int 0, .int 0, .int 0, .int 0, .long 0, .long 0, .long 0]))] : va_W) ++ (([(q_7, .inl (G.2.1 0, 48, .inl (fun _ => 0)))] : va_W) ++ (([(q_15, .inl (G.2.1 0, 48, .inl (fun _ => 0)))] : va_W) ++ (([(q_23, .inl (G.2.1 0, 48, .inl (fun _ => 0)))] : va_W) ++ (([(q_31, .inl (G.2.1 1, 48, .inl (fun _ => 0)))] : va_W)))))) := hW
  refine zputF B hW hnm 0 rfl lf_X1_21 ft_X1_3 (fun C T N h => by have e := Option.some.inj h; cases e; rfl) rfl rfl (Nat.le_of_ble_eq_true rfl) dX1_init_33 (fun H locs hW => ?_)
  have hW : zW G A s.heap H locs (([(h, .inr (5, [.ref q_7, .ref q_15, .ref q_23, .ref q_31, .null, .null, .null, .int 0, .int 0, .int 0, .int 0, .long 0, .long 0, .long 0]))] : va_W) ++ (([(q_7, .inl (G.2.1 0, 48, .inl (fun _ => 0)))] : va_W) ++ (([(q_15, .inl (G.2.1 0, 48, .inl (fun _ => 0)))] : va_W) ++ (([(q_23, .inl (G.2.1 0, 48, .inl (fun _ => 0)))] : va_W) ++ (([(q_31, .inl (G.2.1 1, 48, .inl (fun _ => 0)))] : va_W)))))) := hW
  refine lv_aload_n hx hb dX1_init_36 rfl (lv_at hl 0 rfl) ?_
  refine lv_iconst (v := (3 : Int32)) hx hb dX1_init_37 (by decide) ?_
  refine znewi B hW 3 (by decide) (Nat.le_of_ble_eq_true rfl) (Nat.le_of_ble_eq_true rfl) (Nat.le_of_ble_eq_true rfl) dX1_init_38 (fun q_38 H hW => ?_)
  have hW : zW G A s.heap H locs (([(h, .inr (5, [.ref q_7, .ref q_15, .ref q_23, .ref q_31, .null, .null, .null, .int 0, .int 0, .int 0, .int 0, .long 0, .long 0, .long 0]))] : va_W) ++ (([(q_7, .inl (G.2.1 0, 48, .inl (fun _ => 0)))] : va_W) ++ (([(q_15, .inl (G.2.1 0, 48, .inl (fun _ => 0)))] : va_W) ++ (([(q_23, .inl (G.2.1 0, 48, .inl (fun _ => 0)))] : va_W) ++ (([(q_31, .inl (G.2.1 1, 48, .inl (fun _ => 0)))] : va_W) ++ (([(q_38, .inl (G.2.1 0, 3, .inl (fun _ => 0)))] : va_W))))))) := hW
  refine zputF B hW hnm 0 rfl lf_X1_25 ft_X1_4 (fun C T N h => by have e := Option.some.inj h; cases e; rfl) rfl rfl (Nat.le_of_ble_eq_true rfl) dX1_init_40 (fun H locs hW => ?_)
  have hW : zW G A s.heap H locs (([(h, .inr (5, [.ref q_7, .ref q_15, .ref q_23, .ref q_31, .ref q_38, .null, .null, .int 0, .int 0, .int 0, .int 0, .long 0, .long 0, .long 0]))] : va_W) ++ (([(q_7, .inl (G.2.1 0, 48, .inl (fun _ => 0)))] : va_W) ++ (([(q_15, .inl (G.2.1 0, 48, .inl (fun _ => 0)))] : va_W) ++ (([(q_23, .inl (G.2.1 0, 48, .inl (fun _ => 0)))] : va_W) ++ (([(q_31, .inl (G.2.1 1, 48, .inl (fun _ => 0)))] : va_W) ++ (([(q_38, .inl (G.2.1 0, 3, .inl (fun _ => 0)))] : va_W))))))) := hW
  refine lv_aload_n hx hb dX1_init_43 rfl (lv_at hl 0 rfl) ?_
  refine lv_iconst (v := (3 : Int32)) hx hb dX1_init_44 (by decide) ?_
  refine znewi B hW 3 (by decide) (Nat.le_of_ble_eq_true rfl) (Nat.le_of_ble_eq_true rfl) (Nat.le_of_ble_eq_true rfl) dX1_init_45 (fun q_45 H hW => ?_)
  have hW : zW G A s.heap H locs (([(h, .inr (5, [.ref q_7, .ref q_15, .ref q_23, .ref q_31, .ref q_38, .null, .null, .int 0, .int 0, .int 0, .int 0, .long 0, .long 0, .long 0]))] : va_W) ++ (([(q_7, .inl (G.2.1 0, 48, .inl (fun _ => 0)))] : va_W) ++ (([(q_15, .inl (G.2.1 0, 48, .inl (fun _ => 0)))] : va_W) ++ (([(q_23, .inl (G.2.1 0, 48, .inl (fun _ => 0)))] : va_W) ++ (([(q_31, .inl (G.2.1 1, 48, .inl (fun _ => 0)))] : va_W) ++ (([(q_38, .inl (G.2.1 0, 3, .inl (fun _ => 0)))] : va_W) ++ (([(q_45, .inl (G.2.1 0, 3, .inl (fun _ => 0)))] : va_W)))))))) := hW
  refine zputF B hW hnm 0 rfl lf_X1_28 ft_X1_5 (fun C T N h => by have e := Option.some.inj h; cases e; rfl) rfl rfl (Nat.le_of_ble_eq_true rfl) dX1_init_47 (fun H locs hW => ?_)
  have hW : zW G A s.heap H locs (([(h, .inr (5, [.ref q_7, .ref q_15, .ref q_23, .ref q_31, .ref q_38, .ref q_45, .null, .int 0, .int 0, .int 0, .int 0, .long 0, .long 0, .long 0]))] : va_W) ++ (([(q_7, .inl (G.2.1 0, 48, .inl (fun _ => 0)))] : va_W) ++ (([(q_15, .inl (G.2.1 0, 48, .inl (fun _ => 0)))] : va_W) ++ (([(q_23, .inl (G.2.1 0, 48, .inl (fun _ => 0)))] : va_W) ++ (([(q_31, .inl (G.2.1 1, 48, .inl (fun _ => 0)))] : va_W) ++ (([(q_38, .inl (G.2.1 0, 3, .inl (fun _ => 0)))] : va_W) ++ (([(q_45, .inl (G.2.1 0, 3, .inl (fun _ => 0)))] : va_W)))))))) := hW
  refine lv_aload_n hx hb dX1_init_50 rfl (lv_at hl 0 rfl) ?_
  refine lv_bipush (v := (48 : Int32)) hx hb dX1_init_51 (by decide) ?_
  refine znewi B hW 48 (by decide) (Nat.le_of_ble_eq_true rfl) (Nat.le_of_ble_eq_true rfl) (Nat.le_of_ble_eq_true rfl) dX1_init_53 (fun q_53 H hW => ?_)
  have hW : zW G A s.heap H locs (([(h, .inr (5, [.ref q_7, .ref q_15, .ref q_23, .ref q_31, .ref q_38, .ref q_45, .null, .int 0, .int 0, .int 0, .int 0, .long 0, .long 0, .long 0]))] : va_W) ++ (([(q_7, .inl (G.2.1 0, 48, .inl (fun _ => 0)))] : va_W) ++ (([(q_15, .inl (G.2.1 0, 48, .inl (fun _ => 0)))] : va_W) ++ (([(q_23, .inl (G.2.1 0, 48, .inl (fun _ => 0)))] : va_W) ++ (([(q_31, .inl (G.2.1 1, 48, .inl (fun _ => 0)))] : va_W) ++ (([(q_38, .inl (G.2.1 0, 3, .inl (fun _ => 0)))] : va_W) ++ (([(q_45, .inl (G.2.1 0, 3, .inl (fun _ => 0)))] : va_W) ++ (([(q_53, .inl (G.2.1 0, 48, .inl (fun _ => 0)))] : va_W))))))))) := hW
  refine zputF B hW hnm 0 rfl lf_X1_31 ft_X1_6 (fun C T N h => by have e := Option.some.inj h; cases e; rfl) rfl rfl (Nat.le_of_ble_eq_true rfl) dX1_init_55 (fun H locs hW => ?_)
  have hW : zW G A s.heap H locs (([(h, .inr (5, [.ref q_7, .ref q_15, .ref q_23, .ref q_31, .ref q_38, .ref q_45, .ref q_53, .int 0, .int 0, .int 0, .int 0, .long 0, .long 0, .long 0]))] : va_W) ++ (([(q_7, .inl (G.2.1 0, 48, .inl (fun _ => 0)))] : va_W) ++ (([(q_15, .inl (G.2.1 0, 48, .inl (fun _ => 0)))] : va_W) ++ (([(q_23, .inl (G.2.1 0, 48, .inl (fun _ => 0)))] : va_W) ++ (([(q_31, .inl (G.2.1 1, 48, .inl (fun _ => 0)))] : va_W) ++ (([(q_38, .inl (G.2.1 0, 3, .inl (fun _ => 0)))] : va_W) ++ (([(q_45, .inl (G.2.1 0, 3, .inl (fun _ => 0)))] : va_W) ++ (([(q_53, .inl (G.2.1 0, 48, .inl (fun _ => 0)))] : va_W))))))))) := hW
  refine lv_aload_n hx hb dX1_init_58 rfl (lv_at hl 0 rfl) ?_
  refine lv_iconst (v := (0 : Int32)) hx hb dX1_init_59 (by decide) ?_
  refine zput B hW 0 rfl lf_X1_34 ft_X1_7 rfl rfl (Nat.le_of_ble_eq_true rfl) dX1_init_60 (fun H locs hW => ?_)
  have hW : zW G A s.heap H locs (([(h, .inr (5, [.ref q_7, .ref q_15, .ref q_23, .ref q_31, .ref q_38, .ref q_45, .ref q_53, .int (0 : Int32), .int 0, .int 0, .int 0, .long 0, .long 0, .long 0]))] : va_W) ++ (([(q_7, .inl (G.2.1 0, 48, .inl (fun _ => 0)))] : va_W) ++ (([(q_15, .inl (G.2.1 0, 48, .inl (fun _ => 0)))] : va_W) ++ (([(q_23, .inl (G.2.1 0, 48, .inl (fun _ => 0)))] : va_W) ++ (([(q_31, .inl (G.2.1 1, 48, .inl (fun _ => 0)))] : va_W) ++ (([(q_38, .inl (G.2.1 0, 3, .inl (fun _ => 0)))] : va_W) ++ (([(q_45, .inl (G.2.1 0, 3, .inl (fun _ => 0)))] : va_W) ++ (([(q_53, .inl (G.2.1 0, 48, .inl (fun _ => 0)))] : va_W))))))))) := hW
  refine lv_aload_n hx hb dX1_init_63 rfl (lv_at hl 0 rfl) ?_
  refine lv_iconst (v := (0 : Int32)) hx hb dX1_init_64 (by decide) ?_
  refine zput B hW 0 rfl lf_X1_38 ft_X1_8 rfl rfl (Nat.le_of_ble_eq_true rfl) dX1_init_65 (fun H locs hW => ?_)
  have hW : zW G A s.heap H locs (([(h, .inr (5, [.ref q_7, .ref q_15, .ref q_23, .ref q_31, .ref q_38, .ref q_45, .ref q_53, .int (0 : Int32), .int (0 : Int32), .int 0, .int 0, .long 0, .long 0, .long 0]))] : va_W) ++ (([(q_7, .inl (G.2.1 0, 48, .inl (fun _ => 0)))] : va_W) ++ (([(q_15, .inl (G.2.1 0, 48, .inl (fun _ => 0)))] : va_W) ++ (([(q_23, .inl (G.2.1 0, 48, .inl (fun _ => 0)))] : va_W) ++ (([(q_31, .inl (G.2.1 1, 48, .inl (fun _ => 0)))] : va_W) ++ (([(q_38, .inl (G.2.1 0, 3, .inl (fun _ => 0)))] : va_W) ++ (([(q_45, .inl (G.2.1 0, 3, .inl (fun _ => 0)))] : va_W) ++ (([(q_53, .inl (G.2.1 0, 48, .inl (fun _ => 0)))] : va_W))))))))) := hW
  refine lv_aload_n hx hb dX1_init_68 rfl (lv_at hl 0 rfl) ?_
  refine lv_iconst (v := (0 : Int32)) hx hb dX1_init_69 (by decide) ?_
  refine zput B hW 0 rfl lf_X1_41 ft_X1_9 rfl rfl (Nat.le_of_ble_eq_true rfl) dX1_init_70 (fun H locs hW => ?_)
  have hW : zW G A s.heap H locs (([(h, .inr (5, [.ref q_7, .ref q_15, .ref q_23, .ref q_31, .ref q_38, .ref q_45, .ref q_53, .int (0 : Int32), .int (0 : Int32), .int (0 : Int32), .int 0, .long 0, .long 0, .long 0]))] : va_W) ++ (([(q_7, .inl (G.2.1 0, 48, .inl (fun _ => 0)))] : va_W) ++ (([(q_15, .inl (G.2.1 0, 48, .inl (fun _ => 0)))] : va_W) ++ (([(q_23, .inl (G.2.1 0, 48, .inl (fun _ => 0)))] : va_W) ++ (([(q_31, .inl (G.2.1 1, 48, .inl (fun _ => 0)))] : va_W) ++ (([(q_38, .inl (G.2.1 0, 3, .inl (fun _ => 0)))] : va_W) ++ (([(q_45, .inl (G.2.1 0, 3, .inl (fun _ => 0)))] : va_W) ++ (([(q_53, .inl (G.2.1 0, 48, .inl (fun _ => 0)))] : va_W))))))))) := hW
  refine lv_aload_n hx hb dX1_init_73 rfl (lv_at hl 0 rfl) ?_
  refine lv_iconst (v := (0 : Int32)) hx hb dX1_init_74 (by decide) ?_
  refine zput B hW 0 rfl lf_X1_44 ft_X1_10 rfl rfl (Nat.le_of_ble_eq_true rfl) dX1_init_75 (fun H locs hW => ?_)
  have hW : zW G A s.heap H locs (([(h, .inr (5, [.ref q_7, .ref q_15, .ref q_23, .ref q_31, .ref q_38, .ref q_45, .ref q_53, .int (0 : Int32), .int (0 : Int32), .int (0 : Int32), .int (0 : Int32), .long 0, .long 0, .long 0]))] : va_W) ++ (([(q_7, .inl (G.2.1 0, 48, .inl (fun _ => 0)))] : va_W) ++ (([(q_15, .inl (G.2.1 0, 48, .inl (fun _ => 0)))] : va_W) ++ (([(q_23, .inl (G.2.1 0, 48, .inl (fun _ => 0)))] : va_W) ++ (([(q_31, .inl (G.2.1 1, 48, .inl (fun _ => 0)))] : va_W) ++ (([(q_38, .inl (G.2.1 0, 3, .inl (fun _ => 0)))] : va_W) ++ (([(q_45, .inl (G.2.1 0, 3, .inl (fun _ => 0)))] : va_W) ++ (([(q_53, .inl (G.2.1 0, 48, .inl (fun _ => 0)))] : va_W))))))))) := hW
  refine lv_aload_n hx hb dX1_init_78 rfl (lv_at hl 0 rfl) ?_
  refine lv_lconst (v := (0 : Int64)) hx hb dX1_init_79 (by decide) ?_
  refine zput B hW 0 rfl lf_X1_47 ft_X1_11 rfl rfl (Nat.le_of_ble_eq_true rfl) dX1_init_80 (fun H locs hW => ?_)
  have hW : zW G A s.heap H locs (([(h, .inr (5, [.ref q_7, .ref q_15, .ref q_23, .ref q_31, .ref q_38, .ref q_45, .ref q_53, .int (0 : Int32), .int (0 : Int32), .int (0 : Int32), .int (0 : Int32), .long (0 : Int64), .long 0, .long 0]))] : va_W) ++ (([(q_7, .inl (G.2.1 0, 48, .inl (fun _ => 0)))] : va_W) ++ (([(q_15, .inl (G.2.1 0, 48, .inl (fun _ => 0)))] : va_W) ++ (([(q_23, .inl (G.2.1 0, 48, .inl (fun _ => 0)))] : va_W) ++ (([(q_31, .inl (G.2.1 1, 48, .inl (fun _ => 0)))] : va_W) ++ (([(q_38, .inl (G.2.1 0, 3, .inl (fun _ => 0)))] : va_W) ++ (([(q_45, .inl (G.2.1 0, 3, .inl (fun _ => 0)))] : va_W) ++ (([(q_53, .inl (G.2.1 0, 48, .inl (fun _ => 0)))] : va_W))))))))) := hW
  refine lv_aload_n hx hb dX1_init_83 rfl (lv_at hl 0 rfl) ?_
  refine lv_lconst (v := (0 : Int64)) hx hb dX1_init_84 (by decide) ?_
  refine zput B hW 0 rfl lf_X1_51 ft_X1_12 rfl rfl (Nat.le_of_ble_eq_true rfl) dX1_init_85 (fun H locs hW => ?_)
  have hW : zW G A s.heap H locs (([(h, .inr (5, [.ref q_7, .ref q_15, .ref q_23, .ref q_31, .ref q_38, .ref q_45, .ref q_53, .int (0 : Int32), .int (0 : Int32), .int (0 : Int32), .int (0 : Int32), .long (0 : Int64), .long (0 : Int64), .long 0]))] : va_W) ++ (([(q_7, .inl (G.2.1 0, 48, .inl (fun _ => 0)))] : va_W) ++ (([(q_15, .inl (G.2.1 0, 48, .inl (fun _ => 0)))] : va_W) ++ (([(q_23, .inl (G.2.1 0, 48, .inl (fun _ => 0)))] : va_W) ++ (([(q_31, .inl (G.2.1 1, 48, .inl (fun _ => 0)))] : va_W) ++ (([(q_38, .inl (G.2.1 0, 3, .inl (fun _ => 0)))] : va_W) ++ (([(q_45, .inl (G.2.1 0, 3, .inl (fun _ => 0)))] : va_W) ++ (([(q_53, .inl (G.2.1 0, 48, .inl (fun _ => 0)))] : va_W))))))))) := hW
  refine lv_aload_n hx hb dX1_init_88 rfl (lv_at hl 0 rfl) ?_
  refine lv_lconst (v := (0 : Int64)) hx hb dX1_init_89 (by decide) ?_
  refine zput B hW 0 rfl lf_X1_54 ft_X1_13 rfl rfl (Nat.le_of_ble_eq_true rfl) dX1_init_90 (fun H locs hW => ?_)
  have hW : zW G A s.heap H locs (([(h, .inr (5, [.ref q_7, .ref q_15, .ref q_23, .ref q_31, .ref q_38, .ref q_45, .ref q_53, .int (0 : Int32), .int (0 : Int32), .int (0 : Int32), .int (0 : Int32), .long (0 : Int64), .long (0 : Int64), .long (0 : Int64)]))] : va_W) ++ (([(q_7, .inl (G.2.1 0, 48, .inl (fun _ => 0)))] : va_W) ++ (([(q_15, .inl (G.2.1 0, 48, .inl (fun _ => 0)))] : va_W) ++ (([(q_23, .inl (G.2.1 0, 48, .inl (fun _ => 0)))] : va_W) ++ (([(q_31, .inl (G.2.1 1, 48, .inl (fun _ => 0)))] : va_W) ++ (([(q_38, .inl (G.2.1 0, 3, .inl (fun _ => 0)))] : va_W) ++ (([(q_45, .inl (G.2.1 0, 3, .inl (fun _ => 0)))] : va_W) ++ (([(q_53, .inl (G.2.1 0, 48, .inl (fun _ => 0)))] : va_W))))))))) := hW
  refine lv_aload_n hx hb dX1_init_93 rfl (lv_at hl 0 rfl) ?_
  refine zget B hW 0 rfl lf_X1_9 rfl dX1_init_94 ?_
  refine lv_bipush (v := (10 : Int32)) hx hb dX1_init_97 (by decide) ?_
  refine zfill B hW hl.1 ml_X1_57 1 rfl (by decide) (Nat.le_of_ble_eq_true rfl) (Nat.le_of_ble_eq_true rfl) (Nat.le_of_ble_eq_true rfl) ⟨(Nat.le_of_ble_eq_true rfl), (Nat.le_of_ble_eq_true rfl)⟩ dX1_init_99 (fun H locs hW => ?_)
  have hW := hW.sub (w' := landW G h (zads [q_7, q_15, q_23, q_31, q_38, q_45, q_53]) ((fun _ => (10 : Int32)), (fun _ => 0), (fun _ => 0), (fun _ => 0), (fun _ => 0), (fun _ => 0), (fun _ => 0), (0 : Int32), (0 : Int32), (0 : Int32), (0 : Int32), (0 : Int64), (0 : Int64), (0 : Int64))) [0, 1, 2, 3, 4, 5, 6, 7] rfl rfl
  exact zvret B hr hlk hW ⟨(zads [q_7, q_15, q_23, q_31, q_38, q_45, q_53]), rfl, rfl⟩ (Nat.le_of_ble_eq_true rfl) (Nat.le_of_ble_eq_true rfl) dX1_init_102
