def i_X0_init (a : Int32) (b : Int32) (c1 : Int32) (d1 : Int32) (f : Int32) : zAct := (a, b, c1, d1, f)
abbrev po_X0_init (G : zG) (h : Nat) (a : Int32) (b : Int32) (c1 : Int32) (d1 : Int32) (f : Int32) : Option Value → va_W → Prop := fun r u => ∃ (ad : Nat → Nat), r = none ∧ u = actW G h ad (i_X0_init a b c1 d1 f)
set_option maxHeartbeats 4000000 in
set_option maxRecDepth 100000 in
theorem c_X0_init (l : Launch) (G : zG) (h : Nat) (a : Int32) (b : Int32) (c1 : Int32) (d1 : Int32) (f : Int32) : zC l yX0_init cX0_init 6 none 1 0 0 G [.ref h, .int a, .int b, .int c1, .int d1, .int f] (([(h, .inr (4, [.int 0, .int 0, .int 0, .int 0, .int 0]))] : va_W)) (po_X0_init G h a b c1 d1 f) := by
  refine zC.of RX0 rfl (by decide) (Nat.le_of_ble_eq_true rfl) ?_
  intro p e s m args below meth c A ls B hr hlk hnm hW hl
  have hx := B.x
  have hb := B.b
  have hl : lv_has ls 6 [(0, .ref h), (1, .int a), (2, .int b), (3, .int c1), (4, .int d1), (5, .int f)] := hl
  refine lv_aload_n hx hb dX0_init_0 rfl (lv_at hl 0 rfl) ?_
  refine zobj B hl.1 ml_X0_1 (Nat.le_of_ble_eq_true rfl) (Nat.le_of_ble_eq_true rfl) dX0_init_1 ?_
  refine lv_aload_n hx hb dX0_init_4 rfl (lv_at hl 0 rfl) ?_
  refine lv_iload_n hx hb dX0_init_5 rfl (lv_at hl 1 rfl) ?_
  refine zputF B hW hnm 0 rfl lf_X0_7 ft_X0_0 (fun C T N h => by have e := Option.some.inj h; cases e; rfl) rfl rfl (Nat.le_of_ble_eq_true rfl) dX0_init_6 (fun H locs hW => ?_)
  have hW := hW.eq (w' := ([(h, .inr (4, [.int a, .int 0, .int 0, .int 0, .int 0]))] : va_W)) rfl
  refine lv_aload_n hx hb dX0_init_9 rfl (lv_at hl 0 rfl) ?_
  refine lv_iload_n hx hb dX0_init_10 rfl (lv_at hl 2 rfl) ?_
  refine zputF B hW hnm 0 rfl lf_X0_13 ft_X0_1 (fun C T N h => by have e := Option.some.inj h; cases e; rfl) rfl rfl (Nat.le_of_ble_eq_true rfl) dX0_init_11 (fun H locs hW => ?_)
  have hW := hW.eq (w' := ([(h, .inr (4, [.int a, .int b, .int 0, .int 0, .int 0]))] : va_W)) rfl
  refine lv_aload_n hx hb dX0_init_14 rfl (lv_at hl 0 rfl) ?_
  refine lv_iload_n hx hb dX0_init_15 rfl (lv_at hl 3 rfl) ?_
  refine zputF B hW hnm 0 rfl lf_X0_16 ft_X0_2 (fun C T N h => by have e := Option.some.inj h; cases e; rfl) rfl rfl (Nat.le_of_ble_eq_true rfl) dX0_init_16 (fun H locs hW => ?_)
  have hW := hW.eq (w' := ([(h, .inr (4, [.int a, .int b, .int c1, .int 0, .int 0]))] : va_W)) rfl
  refine lv_aload_n hx hb dX0_init_19 rfl (lv_at hl 0 rfl) ?_
  refine lv_iload hx hb dX0_init_20 (lv_at hl 4 rfl) ?_
  refine zputF B hW hnm 0 rfl lf_X0_19 ft_X0_3 (fun C T N h => by have e := Option.some.inj h; cases e; rfl) rfl rfl (Nat.le_of_ble_eq_true rfl) dX0_init_22 (fun H locs hW => ?_)
  have hW := hW.eq (w' := ([(h, .inr (4, [.int a, .int b, .int c1, .int d1, .int 0]))] : va_W)) rfl
  refine lv_aload_n hx hb dX0_init_25 rfl (lv_at hl 0 rfl) ?_
  refine lv_iload hx hb dX0_init_26 (lv_at hl 5 rfl) ?_
  refine zputF B hW hnm 0 rfl lf_X0_22 ft_X0_4 (fun C T N h => by have e := Option.some.inj h; cases e; rfl) rfl rfl (Nat.le_of_ble_eq_true rfl) dX0_init_28 (fun H locs hW => ?_)
  have hW := hW.eq (w' := ([(h, .inr (4, [.int a, .int b, .int c1, .int d1, .int f]))] : va_W)) rfl
  have hW := hW.sub (w' := actW G h (zads []) (a, b, c1, d1, f)) [0] rfl rfl
  exact zvret B hr hlk hW ⟨(zads []), rfl, rfl⟩ (Nat.le_of_ble_eq_true rfl) (Nat.le_of_ble_eq_true rfl) dX0_init_31
def i_X1_init : zLand := ((fun _ => (10 : Int32)), (fun _ => 0), (fun _ => 0), (fun _ => 0), (fun _ => 0), (fun _ => 0), (fun _ => 0), (0 : Int32), (0 : Int32), (0 : Int32), (0 : Int32), (0 : Int64), (0 : Int64), (0 : Int64))
abbrev po_X1_init (G : zG) (h : Nat) : Option Value → va_W → Prop := fun r u => ∃ (ad : Nat → Nat), r = none ∧ u = landW G h ad (i_X1_init)
set_option maxHeartbeats 4000000 in
set_option maxRecDepth 100000 in
theorem c_X1_init (l : Launch) (G : zG) (h : Nat) : zC l yX1_init cX1_init 1 none 1 7 246 G [.ref h] (([(h, .inr (5, [.null, .null, .null, .null, .null, .null, .null, .int 0, .int 0, .int 0, .int 0, .long 0, .long 0, .long 0]))] : va_W)) (po_X1_init G h) := by
  refine zC.of RX1 rfl (by decide) (Nat.le_of_ble_eq_true rfl) ?_
  intro p e s m args below meth c A ls B hr hlk hnm hW hl
  have hx := B.x
  have hb := B.b
  have hl : lv_has ls 1 [(0, .ref h)] := hl
  refine lv_aload_n hx hb dX1_init_0 rfl (lv_at hl 0 rfl) ?_
  refine zobj B hl.1 ml_X1_3 (Nat.le_of_ble_eq_true rfl) (Nat.le_of_ble_eq_true rfl) dX1_init_1 ?_
  refine lv_aload_n hx hb dX1_init_4 rfl (lv_at hl 0 rfl) ?_
  refine lv_bipush (v := (48 : Int32)) hx hb dX1_init_5 (by decide) ?_
  refine znewi B hW 48 (by decide) (Nat.le_of_ble_eq_true rfl) (Nat.le_of_ble_eq_true rfl) (Nat.le_of_ble_eq_true rfl) dX1_init_7 (fun q_7 H hW => ?_)
  have hW := hW.eq (w' := ([(h, .inr (5, [.null, .null, .null, .null, .null, .null, .null, .int 0, .int 0, .int 0, .int 0, .long 0, .long 0, .long 0]))] : va_W) ++ (([(q_7, .inl (G.2.1 0, 48, .inl (fun _ => 0)))] : va_W))) rfl
  refine zputF B hW hnm 0 rfl lf_X1_9 ft_X1_0 (fun C T N h => by have e := Option.some.inj h; cases e; rfl) rfl rfl (Nat.le_of_ble_eq_true rfl) dX1_init_9 (fun H locs hW => ?_)
  have hW := hW.eq (w' := ([(h, .inr (5, [.ref q_7, .null, .null, .null, .null, .null, .null, .int 0, .int 0, .int 0, .int 0, .long 0, .long 0, .long 0]))] : va_W) ++ (([(q_7, .inl (G.2.1 0, 48, .inl (fun _ => 0)))] : va_W))) rfl
  refine lv_aload_n hx hb dX1_init_12 rfl (lv_at hl 0 rfl) ?_
  refine lv_bipush (v := (48 : Int32)) hx hb dX1_init_13 (by decide) ?_
  refine znewi B hW 48 (by decide) (Nat.le_of_ble_eq_true rfl) (Nat.le_of_ble_eq_true rfl) (Nat.le_of_ble_eq_true rfl) dX1_init_15 (fun q_15 H hW => ?_)
  have hW := hW.eq (w' := ([(h, .inr (5, [.ref q_7, .null, .null, .null, .null, .null, .null, .int 0, .int 0, .int 0, .int 0, .long 0, .long 0, .long 0]))] : va_W) ++ (([(q_7, .inl (G.2.1 0, 48, .inl (fun _ => 0)))] : va_W) ++ (([(q_15, .inl (G.2.1 0, 48, .inl (fun _ => 0)))] : va_W)))) rfl
  refine zputF B hW hnm 0 rfl lf_X1_15 ft_X1_1 (fun C T N h => by have e := Option.some.inj h; cases e; rfl) rfl rfl (Nat.le_of_ble_eq_true rfl) dX1_init_17 (fun H locs hW => ?_)
  have hW := hW.eq (w' := ([(h, .inr (5, [.ref q_7, .ref q_15, .null, .null, .null, .null, .null, .int 0, .int 0, .int 0, .int 0, .long 0, .long 0, .long 0]))] : va_W) ++ (([(q_7, .inl (G.2.1 0, 48, .inl (fun _ => 0)))] : va_W) ++ (([(q_15, .inl (G.2.1 0, 48, .inl (fun _ => 0)))] : va_W)))) rfl
  refine lv_aload_n hx hb dX1_init_20 rfl (lv_at hl 0 rfl) ?_
  refine lv_bipush (v := (48 : Int32)) hx hb dX1_init_21 (by decide) ?_
  refine znewi B hW 48 (by decide) (Nat.le_of_ble_eq_true rfl) (Nat.le_of_ble_eq_true rfl) (Nat.le_of_ble_eq_true rfl) dX1_init_23 (fun q_23 H hW => ?_)
  have hW := hW.eq (w' := ([(h, .inr (5, [.ref q_7, .ref q_15, .null, .null, .null, .null, .null, .int 0, .int 0, .int 0, .int 0, .long 0, .long 0, .long 0]))] : va_W) ++ (([(q_7, .inl (G.2.1 0, 48, .inl (fun _ => 0)))] : va_W) ++ (([(q_15, .inl (G.2.1 0, 48, .inl (fun _ => 0)))] : va_W) ++ (([(q_23, .inl (G.2.1 0, 48, .inl (fun _ => 0)))] : va_W))))) rfl
  refine zputF B hW hnm 0 rfl lf_X1_18 ft_X1_2 (fun C T N h => by have e := Option.some.inj h; cases e; rfl) rfl rfl (Nat.le_of_ble_eq_true rfl) dX1_init_25 (fun H locs hW => ?_)
  have hW := hW.eq (w' := ([(h, .inr (5, [.ref q_7, .ref q_15, .ref q_23, .null, .null, .null, .null, .int 0, .int 0, .int 0, .int 0, .long 0, .long 0, .long 0]))] : va_W) ++ (([(q_7, .inl (G.2.1 0, 48, .inl (fun _ => 0)))] : va_W) ++ (([(q_15, .inl (G.2.1 0, 48, .inl (fun _ => 0)))] : va_W) ++ (([(q_23, .inl (G.2.1 0, 48, .inl (fun _ => 0)))] : va_W))))) rfl
  refine lv_aload_n hx hb dX1_init_28 rfl (lv_at hl 0 rfl) ?_
  refine lv_bipush (v := (48 : Int32)) hx hb dX1_init_29 (by decide) ?_
  refine znewz B hW 48 (by decide) (Nat.le_of_ble_eq_true rfl) (Nat.le_of_ble_eq_true rfl) (Nat.le_of_ble_eq_true rfl) dX1_init_31 (fun q_31 H hW => ?_)
  have hW := hW.eq (w' := ([(h, .inr (5, [.ref q_7, .ref q_15, .ref q_23, .null, .null, .null, .null, .int 0, .int 0, .int 0, .int 0, .long 0, .long 0, .long 0]))] : va_W) ++ (([(q_7, .inl (G.2.1 0, 48, .inl (fun _ => 0)))] : va_W) ++ (([(q_15, .inl (G.2.1 0, 48, .inl (fun _ => 0)))] : va_W) ++ (([(q_23, .inl (G.2.1 0, 48, .inl (fun _ => 0)))] : va_W) ++ (([(q_31, .inl (G.2.1 1, 48, .inl (fun _ => 0)))] : va_W)))))) rfl
  refine zputF B hW hnm 0 rfl lf_X1_21 ft_X1_3 (fun C T N h => by have e := Option.some.inj h; cases e; rfl) rfl rfl (Nat.le_of_ble_eq_true rfl) dX1_init_33 (fun H locs hW => ?_)
  have hW := hW.eq (w' := ([(h, .inr (5, [.ref q_7, .ref q_15, .ref q_23, .ref q_31, .null, .null, .null, .int 0, .int 0, .int 0, .int 0, .long 0, .long 0, .long 0]))] : va_W) ++ (([(q_7, .inl (G.2.1 0, 48, .inl (fun _ => 0)))] : va_W) ++ (([(q_15, .inl (G.2.1 0, 48, .inl (fun _ => 0)))] : va_W) ++ (([(q_23, .inl (G.2.1 0, 48, .inl (fun _ => 0)))] : va_W) ++ (([(q_31, .inl (G.2.1 1, 48, .inl (fun _ => 0)))] : va_W)))))) rfl
  refine lv_aload_n hx hb dX1_init_36 rfl (lv_at hl 0 rfl) ?_
  refine lv_iconst (v := (3 : Int32)) hx hb dX1_init_37 (by decide) ?_
  refine znewi B hW 3 (by decide) (Nat.le_of_ble_eq_true rfl) (Nat.le_of_ble_eq_true rfl) (Nat.le_of_ble_eq_true rfl) dX1_init_38 (fun q_38 H hW => ?_)
  have hW := hW.eq (w' := ([(h, .inr (5, [.ref q_7, .ref q_15, .ref q_23, .ref q_31, .null, .null, .null, .int 0, .int 0, .int 0, .int 0, .long 0, .long 0, .long 0]))] : va_W) ++ (([(q_7, .inl (G.2.1 0, 48, .inl (fun _ => 0)))] : va_W) ++ (([(q_15, .inl (G.2.1 0, 48, .inl (fun _ => 0)))] : va_W) ++ (([(q_23, .inl (G.2.1 0, 48, .inl (fun _ => 0)))] : va_W) ++ (([(q_31, .inl (G.2.1 1, 48, .inl (fun _ => 0)))] : va_W) ++ (([(q_38, .inl (G.2.1 0, 3, .inl (fun _ => 0)))] : va_W))))))) rfl
  refine zputF B hW hnm 0 rfl lf_X1_25 ft_X1_4 (fun C T N h => by have e := Option.some.inj h; cases e; rfl) rfl rfl (Nat.le_of_ble_eq_true rfl) dX1_init_40 (fun H locs hW => ?_)
  have hW := hW.eq (w' := ([(h, .inr (5, [.ref q_7, .ref q_15, .ref q_23, .ref q_31, .ref q_38, .null, .null, .int 0, .int 0, .int 0, .int 0, .long 0, .long 0, .long 0]))] : va_W) ++ (([(q_7, .inl (G.2.1 0, 48, .inl (fun _ => 0)))] : va_W) ++ (([(q_15, .inl (G.2.1 0, 48, .inl (fun _ => 0)))] : va_W) ++ (([(q_23, .inl (G.2.1 0, 48, .inl (fun _ => 0)))] : va_W) ++ (([(q_31, .inl (G.2.1 1, 48, .inl (fun _ => 0)))] : va_W) ++ (([(q_38, .inl (G.2.1 0, 3, .inl (fun _ => 0)))] : va_W))))))) rfl
  refine lv_aload_n hx hb dX1_init_43 rfl (lv_at hl 0 rfl) ?_
  refine lv_iconst (v := (3 : Int32)) hx hb dX1_init_44 (by decide) ?_
  refine znewi B hW 3 (by decide) (Nat.le_of_ble_eq_true rfl) (Nat.le_of_ble_eq_true rfl) (Nat.le_of_ble_eq_true rfl) dX1_init_45 (fun q_45 H hW => ?_)
  have hW := hW.eq (w' := ([(h, .inr (5, [.ref q_7, .ref q_15, .ref q_23, .ref q_31, .ref q_38, .null, .null, .int 0, .int 0, .int 0, .int 0, .long 0, .long 0, .long 0]))] : va_W) ++ (([(q_7, .inl (G.2.1 0, 48, .inl (fun _ => 0)))] : va_W) ++ (([(q_15, .inl (G.2.1 0, 48, .inl (fun _ => 0)))] : va_W) ++ (([(q_23, .inl (G.2.1 0, 48, .inl (fun _ => 0)))] : va_W) ++ (([(q_31, .inl (G.2.1 1, 48, .inl (fun _ => 0)))] : va_W) ++ (([(q_38, .inl (G.2.1 0, 3, .inl (fun _ => 0)))] : va_W) ++ (([(q_45, .inl (G.2.1 0, 3, .inl (fun _ => 0)))] : va_W)))))))) rfl
  refine zputF B hW hnm 0 rfl lf_X1_28 ft_X1_5 (fun C T N h => by have e := Option.some.inj h; cases e; rfl) rfl rfl (Nat.le_of_ble_eq_true rfl) dX1_init_47 (fun H locs hW => ?_)
  have hW := hW.eq (w' := ([(h, .inr (5, [.ref q_7, .ref q_15, .ref q_23, .ref q_31, .ref q_38, .ref q_45, .null, .int 0, .int 0, .int 0, .int 0, .long 0, .long 0, .long 0]))] : va_W) ++ (([(q_7, .inl (G.2.1 0, 48, .inl (fun _ => 0)))] : va_W) ++ (([(q_15, .inl (G.2.1 0, 48, .inl (fun _ => 0)))] : va_W) ++ (([(q_23, .inl (G.2.1 0, 48, .inl (fun _ => 0)))] : va_W) ++ (([(q_31, .inl (G.2.1 1, 48, .inl (fun _ => 0)))] : va_W) ++ (([(q_38, .inl (G.2.1 0, 3, .inl (fun _ => 0)))] : va_W) ++ (([(q_45, .inl (G.2.1 0, 3, .inl (fun _ => 0)))] : va_W)))))))) rfl
  refine lv_aload_n hx hb dX1_init_50 rfl (lv_at hl 0 rfl) ?_
  refine lv_bipush (v := (48 : Int32)) hx hb dX1_init_51 (by decide) ?_
  refine znewi B hW 48 (by decide) (Nat.le_of_ble_eq_true rfl) (Nat.le_of_ble_eq_true rfl) (Nat.le_of_ble_eq_true rfl) dX1_init_53 (fun q_53 H hW => ?_)
  have hW := hW.eq (w' := ([(h, .inr (5, [.ref q_7, .ref q_15, .ref q_23, .ref q_31, .ref q_38, .ref q_45, .null, .int 0, .int 0, .int 0, .int 0, .long 0, .long 0, .long 0]))] : va_W) ++ (([(q_7, .inl (G.2.1 0, 48, .inl (fun _ => 0)))] : va_W) ++ (([(q_15, .inl (G.2.1 0, 48, .inl (fun _ => 0)))] : va_W) ++ (([(q_23, .inl (G.2.1 0, 48, .inl (fun _ => 0)))] : va_W) ++ (([(q_31, .inl (G.2.1 1, 48, .inl (fun _ => 0)))] : va_W) ++ (([(q_38, .inl (G.2.1 0, 3, .inl (fun _ => 0)))] : va_W) ++ (([(q_45, .inl (G.2.1 0, 3, .inl (fun _ => 0)))] : va_W) ++ (([(q_53, .inl (G.2.1 0, 48, .inl (fun _ => 0)))] : va_W))))))))) rfl
  refine zputF B hW hnm 0 rfl lf_X1_31 ft_X1_6 (fun C T N h => by have e := Option.some.inj h; cases e; rfl) rfl rfl (Nat.le_of_ble_eq_true rfl) dX1_init_55 (fun H locs hW => ?_)
  have hW := hW.eq (w' := ([(h, .inr (5, [.ref q_7, .ref q_15, .ref q_23, .ref q_31, .ref q_38, .ref q_45, .ref q_53, .int 0, .int 0, .int 0, .int 0, .long 0, .long 0, .long 0]))] : va_W) ++ (([(q_7, .inl (G.2.1 0, 48, .inl (fun _ => 0)))] : va_W) ++ (([(q_15, .inl (G.2.1 0, 48, .inl (fun _ => 0)))] : va_W) ++ (([(q_23, .inl (G.2.1 0, 48, .inl (fun _ => 0)))] : va_W) ++ (([(q_31, .inl (G.2.1 1, 48, .inl (fun _ => 0)))] : va_W) ++ (([(q_38, .inl (G.2.1 0, 3, .inl (fun _ => 0)))] : va_W) ++ (([(q_45, .inl (G.2.1 0, 3, .inl (fun _ => 0)))] : va_W) ++ (([(q_53, .inl (G.2.1 0, 48, .inl (fun _ => 0)))] : va_W))))))))) rfl
  refine lv_aload_n hx hb dX1_init_58 rfl (lv_at hl 0 rfl) ?_
  refine lv_iconst (v := (0 : Int32)) hx hb dX1_init_59 (by decide) ?_
  refine zput B hW 0 rfl lf_X1_34 ft_X1_7 rfl rfl (Nat.le_of_ble_eq_true rfl) dX1_init_60 (fun H locs hW => ?_)
  have hW := hW.eq (w' := ([(h, .inr (5, [.ref q_7, .ref q_15, .ref q_23, .ref q_31, .ref q_38, .ref q_45, .ref q_53, .int (0 : Int32), .int 0, .int 0, .int 0, .long 0, .long 0, .long 0]))] : va_W) ++ (([(q_7, .inl (G.2.1 0, 48, .inl (fun _ => 0)))] : va_W) ++ (([(q_15, .inl (G.2.1 0, 48, .inl (fun _ => 0)))] : va_W) ++ (([(q_23, .inl (G.2.1 0, 48, .inl (fun _ => 0)))] : va_W) ++ (([(q_31, .inl (G.2.1 1, 48, .inl (fun _ => 0)))] : va_W) ++ (([(q_38, .inl (G.2.1 0, 3, .inl (fun _ => 0)))] : va_W) ++ (([(q_45, .inl (G.2.1 0, 3, .inl (fun _ => 0)))] : va_W) ++ (([(q_53, .inl (G.2.1 0, 48, .inl (fun _ => 0)))] : va_W))))))))) rfl
  refine lv_aload_n hx hb dX1_init_63 rfl (lv_at hl 0 rfl) ?_
  refine lv_iconst (v := (0 : Int32)) hx hb dX1_init_64 (by decide) ?_
  refine zput B hW 0 rfl lf_X1_38 ft_X1_8 rfl rfl (Nat.le_of_ble_eq_true rfl) dX1_init_65 (fun H locs hW => ?_)
  have hW := hW.eq (w' := ([(h, .inr (5, [.ref q_7, .ref q_15, .ref q_23, .ref q_31, .ref q_38, .ref q_45, .ref q_53, .int (0 : Int32), .int (0 : Int32), .int 0, .int 0, .long 0, .long 0, .long 0]))] : va_W) ++ (([(q_7, .inl (G.2.1 0, 48, .inl (fun _ => 0)))] : va_W) ++ (([(q_15, .inl (G.2.1 0, 48, .inl (fun _ => 0)))] : va_W) ++ (([(q_23, .inl (G.2.1 0, 48, .inl (fun _ => 0)))] : va_W) ++ (([(q_31, .inl (G.2.1 1, 48, .inl (fun _ => 0)))] : va_W) ++ (([(q_38, .inl (G.2.1 0, 3, .inl (fun _ => 0)))] : va_W) ++ (([(q_45, .inl (G.2.1 0, 3, .inl (fun _ => 0)))] : va_W) ++ (([(q_53, .inl (G.2.1 0, 48, .inl (fun _ => 0)))] : va_W))))))))) rfl
  refine lv_aload_n hx hb dX1_init_68 rfl (lv_at hl 0 rfl) ?_
  refine lv_iconst (v := (0 : Int32)) hx hb dX1_init_69 (by decide) ?_
  refine zput B hW 0 rfl lf_X1_41 ft_X1_9 rfl rfl (Nat.le_of_ble_eq_true rfl) dX1_init_70 (fun H locs hW => ?_)
  have hW := hW.eq (w' := ([(h, .inr (5, [.ref q_7, .ref q_15, .ref q_23, .ref q_31, .ref q_38, .ref q_45, .ref q_53, .int (0 : Int32), .int (0 : Int32), .int (0 : Int32), .int 0, .long 0, .long 0, .long 0]))] : va_W) ++ (([(q_7, .inl (G.2.1 0, 48, .inl (fun _ => 0)))] : va_W) ++ (([(q_15, .inl (G.2.1 0, 48, .inl (fun _ => 0)))] : va_W) ++ (([(q_23, .inl (G.2.1 0, 48, .inl (fun _ => 0)))] : va_W) ++ (([(q_31, .inl (G.2.1 1, 48, .inl (fun _ => 0)))] : va_W) ++ (([(q_38, .inl (G.2.1 0, 3, .inl (fun _ => 0)))] : va_W) ++ (([(q_45, .inl (G.2.1 0, 3, .inl (fun _ => 0)))] : va_W) ++ (([(q_53, .inl (G.2.1 0, 48, .inl (fun _ => 0)))] : va_W))))))))) rfl
  refine lv_aload_n hx hb dX1_init_73 rfl (lv_at hl 0 rfl) ?_
  refine lv_iconst (v := (0 : Int32)) hx hb dX1_init_74 (by decide) ?_
  refine zput B hW 0 rfl lf_X1_44 ft_X1_10 rfl rfl (Nat.le_of_ble_eq_true rfl) dX1_init_75 (fun H locs hW => ?_)
  have hW := hW.eq (w' := ([(h, .inr (5, [.ref q_7, .ref q_15, .ref q_23, .ref q_31, .ref q_38, .ref q_45, .ref q_53, .int (0 : Int32), .int (0 : Int32), .int (0 : Int32), .int (0 : Int32), .long 0, .long 0, .long 0]))] : va_W) ++ (([(q_7, .inl (G.2.1 0, 48, .inl (fun _ => 0)))] : va_W) ++ (([(q_15, .inl (G.2.1 0, 48, .inl (fun _ => 0)))] : va_W) ++ (([(q_23, .inl (G.2.1 0, 48, .inl (fun _ => 0)))] : va_W) ++ (([(q_31, .inl (G.2.1 1, 48, .inl (fun _ => 0)))] : va_W) ++ (([(q_38, .inl (G.2.1 0, 3, .inl (fun _ => 0)))] : va_W) ++ (([(q_45, .inl (G.2.1 0, 3, .inl (fun _ => 0)))] : va_W) ++ (([(q_53, .inl (G.2.1 0, 48, .inl (fun _ => 0)))] : va_W))))))))) rfl
  refine lv_aload_n hx hb dX1_init_78 rfl (lv_at hl 0 rfl) ?_
  refine lv_lconst (v := (0 : Int64)) hx hb dX1_init_79 (by decide) ?_
  refine zput B hW 0 rfl lf_X1_47 ft_X1_11 rfl rfl (Nat.le_of_ble_eq_true rfl) dX1_init_80 (fun H locs hW => ?_)
  have hW := hW.eq (w' := ([(h, .inr (5, [.ref q_7, .ref q_15, .ref q_23, .ref q_31, .ref q_38, .ref q_45, .ref q_53, .int (0 : Int32), .int (0 : Int32), .int (0 : Int32), .int (0 : Int32), .long (0 : Int64), .long 0, .long 0]))] : va_W) ++ (([(q_7, .inl (G.2.1 0, 48, .inl (fun _ => 0)))] : va_W) ++ (([(q_15, .inl (G.2.1 0, 48, .inl (fun _ => 0)))] : va_W) ++ (([(q_23, .inl (G.2.1 0, 48, .inl (fun _ => 0)))] : va_W) ++ (([(q_31, .inl (G.2.1 1, 48, .inl (fun _ => 0)))] : va_W) ++ (([(q_38, .inl (G.2.1 0, 3, .inl (fun _ => 0)))] : va_W) ++ (([(q_45, .inl (G.2.1 0, 3, .inl (fun _ => 0)))] : va_W) ++ (([(q_53, .inl (G.2.1 0, 48, .inl (fun _ => 0)))] : va_W))))))))) rfl
  refine lv_aload_n hx hb dX1_init_83 rfl (lv_at hl 0 rfl) ?_
  refine lv_lconst (v := (0 : Int64)) hx hb dX1_init_84 (by decide) ?_
  refine zput B hW 0 rfl lf_X1_51 ft_X1_12 rfl rfl (Nat.le_of_ble_eq_true rfl) dX1_init_85 (fun H locs hW => ?_)
  have hW := hW.eq (w' := ([(h, .inr (5, [.ref q_7, .ref q_15, .ref q_23, .ref q_31, .ref q_38, .ref q_45, .ref q_53, .int (0 : Int32), .int (0 : Int32), .int (0 : Int32), .int (0 : Int32), .long (0 : Int64), .long (0 : Int64), .long 0]))] : va_W) ++ (([(q_7, .inl (G.2.1 0, 48, .inl (fun _ => 0)))] : va_W) ++ (([(q_15, .inl (G.2.1 0, 48, .inl (fun _ => 0)))] : va_W) ++ (([(q_23, .inl (G.2.1 0, 48, .inl (fun _ => 0)))] : va_W) ++ (([(q_31, .inl (G.2.1 1, 48, .inl (fun _ => 0)))] : va_W) ++ (([(q_38, .inl (G.2.1 0, 3, .inl (fun _ => 0)))] : va_W) ++ (([(q_45, .inl (G.2.1 0, 3, .inl (fun _ => 0)))] : va_W) ++ (([(q_53, .inl (G.2.1 0, 48, .inl (fun _ => 0)))] : va_W))))))))) rfl
  refine lv_aload_n hx hb dX1_init_88 rfl (lv_at hl 0 rfl) ?_
  refine lv_lconst (v := (0 : Int64)) hx hb dX1_init_89 (by decide) ?_
  refine zput B hW 0 rfl lf_X1_54 ft_X1_13 rfl rfl (Nat.le_of_ble_eq_true rfl) dX1_init_90 (fun H locs hW => ?_)
  have hW := hW.eq (w' := ([(h, .inr (5, [.ref q_7, .ref q_15, .ref q_23, .ref q_31, .ref q_38, .ref q_45, .ref q_53, .int (0 : Int32), .int (0 : Int32), .int (0 : Int32), .int (0 : Int32), .long (0 : Int64), .long (0 : Int64), .long (0 : Int64)]))] : va_W) ++ (([(q_7, .inl (G.2.1 0, 48, .inl (fun _ => 0)))] : va_W) ++ (([(q_15, .inl (G.2.1 0, 48, .inl (fun _ => 0)))] : va_W) ++ (([(q_23, .inl (G.2.1 0, 48, .inl (fun _ => 0)))] : va_W) ++ (([(q_31, .inl (G.2.1 1, 48, .inl (fun _ => 0)))] : va_W) ++ (([(q_38, .inl (G.2.1 0, 3, .inl (fun _ => 0)))] : va_W) ++ (([(q_45, .inl (G.2.1 0, 3, .inl (fun _ => 0)))] : va_W) ++ (([(q_53, .inl (G.2.1 0, 48, .inl (fun _ => 0)))] : va_W))))))))) rfl
  refine lv_aload_n hx hb dX1_init_93 rfl (lv_at hl 0 rfl) ?_
  refine zget B hW 0 rfl lf_X1_9 rfl dX1_init_94 ?_
  refine lv_bipush (v := (10 : Int32)) hx hb dX1_init_97 (by decide) ?_
  refine zfill B hW hl.1 ml_X1_57 1 rfl (by decide) (Nat.le_of_ble_eq_true rfl) (Nat.le_of_ble_eq_true rfl) (Nat.le_of_ble_eq_true rfl) ⟨(Nat.le_of_ble_eq_true rfl), (Nat.le_of_ble_eq_true rfl)⟩ dX1_init_99 (fun H locs hW => ?_)
  have hW := hW.sub (w' := landW G h (zads [q_7, q_15, q_23, q_31, q_38, q_45, q_53]) ((fun _ => (10 : Int32)), (fun _ => 0), (fun _ => 0), (fun _ => 0), (fun _ => 0), (fun _ => 0), (fun _ => 0), (0 : Int32), (0 : Int32), (0 : Int32), (0 : Int32), (0 : Int64), (0 : Int64), (0 : Int64))) [0, 1, 2, 3, 4, 5, 6, 7] rfl rfl
  exact zvret B hr hlk hW ⟨(zads [q_7, q_15, q_23, q_31, q_38, q_45, q_53]), rfl, rfl⟩ (Nat.le_of_ble_eq_true rfl) (Nat.le_of_ble_eq_true rfl) dX1_init_102
def i_X2_init : zOutl := (fun _ => 0)
abbrev po_X2_init (G : zG) (h : Nat) : Option Value → va_W → Prop := fun r u => ∃ (ad adw : Nat → Nat), r = none ∧ u = outW G h ad (i_X2_init) ++ (landW G (ad 0) adw (i_X1_init))
set_option maxHeartbeats 4000000 in
set_option maxRecDepth 100000 in
theorem c_X2_init (l : Launch) (G : zG) (h : Nat) : zC l yX2_init cX2_init 1 none 2 9 308 G [.ref h] (([(h, .inr (6, [.null, .null]))] : va_W)) (po_X2_init G h) := by
  refine zC.of RX2 rfl (by decide) (Nat.le_of_ble_eq_true rfl) ?_
  intro p e s m args below meth c A ls B hr hlk hnm hW hl
  have hx := B.x
  have hb := B.b
  have hl : lv_has ls 1 [(0, .ref h)] := hl
  refine lv_aload_n hx hb dX2_init_0 rfl (lv_at hl 0 rfl) ?_
  refine zobj B hl.1 ml_X2_3 (Nat.le_of_ble_eq_true rfl) (Nat.le_of_ble_eq_true rfl) dX2_init_1 ?_
  refine lv_aload_n hx hb dX2_init_4 rfl (lv_at hl 0 rfl) ?_
  refine znew B hW 5 14 tyX1 rfl in_X1 tyX1_ok kl_X2_9 ki_X1 kz_X1 rfl (Nat.le_of_ble_eq_true rfl) (Nat.le_of_ble_eq_true rfl) dX2_init_5 (fun q_5 H hW => ?_)
  have hW := hW.eq (w' := ([(h, .inr (6, [.null, .null]))] : va_W) ++ (([(q_5, .inr (5, [.null, .null, .null, .null, .null, .null, .null, .int 0, .int 0, .int 0, .int 0, .long 0, .long 0, .long 0]))] : va_W))) rfl
  refine lv_dup hx hb dX2_init_8 rfl ?_
  have hW := hW.sub (w' := ([(q_5, .inr (5, [.null, .null, .null, .null, .null, .null, .null, .int 0, .int 0, .int 0, .int 0, .long 0, .long 0, .long 0]))] : va_W) ++ (([(h, .inr (6, [.null, .null]))] : va_W))) [1, 0] rfl rfl
  refine zcI (w1 := []) (wc := ([(q_5, .inr (5, [.null, .null, .null, .null, .null, .null, .null, .int 0, .int 0, .int 0, .int 0, .long 0, .long 0, .long 0]))] : va_W)) (w2 := ([(h, .inr (6, [.null, .null]))] : va_W)) (As := []) B (hW.eq rfl) (c_X1_init l G q_5) yd_X1_init ml_X2_11 rfl hl.1 rfl (Nat.le_of_ble_eq_true rfl) ⟨Nat.le_of_ble_eq_true rfl, Nat.le_of_ble_eq_true rfl⟩ ⟨(Nat.le_of_ble_eq_true rfl), (Nat.le_of_ble_eq_true rfl)⟩ dX2_init_9 (fun v u H locs hp hW => ?_)
  obtain ⟨ad0_9, rfl, rfl⟩ := hp
  have hW := hW.eq (w' := landW G q_5 ad0_9 (i_X1_init) ++ (([(h, .inr (6, [.null, .null]))] : va_W))) rfl
  refine zputF B hW hnm 8 rfl lf_X2_12 ft_X2_0 (fun C T N h => by have e := Option.some.inj h; cases e; rfl) rfl rfl (Nat.le_of_ble_eq_true rfl) dX2_init_12 (fun H locs hW => ?_)
  have hW := hW.eq (w' := landW G q_5 ad0_9 (i_X1_init) ++ (([(h, .inr (6, [.ref q_5, .null]))] : va_W))) rfl
  refine lv_aload_n hx hb dX2_init_15 rfl (lv_at hl 0 rfl) ?_
  refine lv_bipush (v := (48 : Int32)) hx hb dX2_init_16 (by decide) ?_
  refine znewi B hW 48 (by decide) (Nat.le_of_ble_eq_true rfl) (Nat.le_of_ble_eq_true rfl) (Nat.le_of_ble_eq_true rfl) dX2_init_18 (fun q_18 H hW => ?_)
  have hW := hW.eq (w' := landW G q_5 ad0_9 (i_X1_init) ++ (([(h, .inr (6, [.ref q_5, .null]))] : va_W) ++ (([(q_18, .inl (G.2.1 0, 48, .inl (fun _ => 0)))] : va_W)))) rfl
  refine zputF B hW hnm 8 rfl lf_X2_18 ft_X2_1 (fun C T N h => by have e := Option.some.inj h; cases e; rfl) rfl rfl (Nat.le_of_ble_eq_true rfl) dX2_init_20 (fun H locs hW => ?_)
  have hW := hW.eq (w' := landW G q_5 ad0_9 (i_X1_init) ++ (([(h, .inr (6, [.ref q_5, .ref q_18]))] : va_W) ++ (([(q_18, .inl (G.2.1 0, 48, .inl (fun _ => 0)))] : va_W)))) rfl
  have hW := hW.sub (w' := landW G q_5 ad0_9 (i_X1_init) ++ (outW G h (zads [q_5, q_18]) (fun _ => 0))) [0, 1, 2, 3, 4, 5, 6, 7, 8, 9] rfl rfl
  have hW := hW.sub (w' := outW G h (zads [q_5, q_18]) (fun _ => 0) ++ (landW G q_5 ad0_9 (i_X1_init))) [8, 9, 0, 1, 2, 3, 4, 5, 6, 7] rfl rfl
  exact zvret B hr hlk hW ⟨(zads [q_5, q_18]), ad0_9, rfl, rfl⟩ (Nat.le_of_ble_eq_true rfl) (Nat.le_of_ble_eq_true rfl) dX2_init_23
def i_X3_init : zScho := ((fun _ => 0), (fun _ => 0), (fun _ => 0), (0 : Int32), (0 : Int32))
abbrev po_X3_init (G : zG) (h : Nat) : Option Value → va_W → Prop := fun r u => ∃ (ad : Nat → Nat), r = none ∧ u = schW G h ad (i_X3_init)
set_option maxHeartbeats 4000000 in
set_option maxRecDepth 100000 in
theorem c_X3_init (l : Launch) (G : zG) (h : Nat) : zC l yX3_init cX3_init 1 none 1 3 18 G [.ref h] (([(h, .inr (7, [.null, .null, .null, .int 0, .int 0]))] : va_W)) (po_X3_init G h) := by
  refine zC.of RX3 rfl (by decide) (Nat.le_of_ble_eq_true rfl) ?_
  intro p e s m args below meth c A ls B hr hlk hnm hW hl
  have hx := B.x
  have hb := B.b
  have hl : lv_has ls 1 [(0, .ref h)] := hl
  refine lv_aload_n hx hb dX3_init_0 rfl (lv_at hl 0 rfl) ?_
  refine zobj B hl.1 ml_X3_3 (Nat.le_of_ble_eq_true rfl) (Nat.le_of_ble_eq_true rfl) dX3_init_1 ?_
  refine lv_aload_n hx hb dX3_init_4 rfl (lv_at hl 0 rfl) ?_
  refine lv_bipush (v := (6 : Int32)) hx hb dX3_init_5 (by decide) ?_
  refine znewz B hW 6 (by decide) (Nat.le_of_ble_eq_true rfl) (Nat.le_of_ble_eq_true rfl) (Nat.le_of_ble_eq_true rfl) dX3_init_7 (fun q_7 H hW => ?_)
  have hW := hW.eq (w' := ([(h, .inr (7, [.null, .null, .null, .int 0, .int 0]))] : va_W) ++ (([(q_7, .inl (G.2.1 1, 6, .inl (fun _ => 0)))] : va_W))) rfl
  refine zputF B hW hnm 0 rfl lf_X3_9 ft_X3_0 (fun C T N h => by have e := Option.some.inj h; cases e; rfl) rfl rfl (Nat.le_of_ble_eq_true rfl) dX3_init_9 (fun H locs hW => ?_)
  have hW := hW.eq (w' := ([(h, .inr (7, [.ref q_7, .null, .null, .int 0, .int 0]))] : va_W) ++ (([(q_7, .inl (G.2.1 1, 6, .inl (fun _ => 0)))] : va_W))) rfl
  refine lv_aload_n hx hb dX3_init_12 rfl (lv_at hl 0 rfl) ?_
  refine lv_bipush (v := (6 : Int32)) hx hb dX3_init_13 (by decide) ?_
  refine znewi B hW 6 (by decide) (Nat.le_of_ble_eq_true rfl) (Nat.le_of_ble_eq_true rfl) (Nat.le_of_ble_eq_true rfl) dX3_init_15 (fun q_15 H hW => ?_)
  have hW := hW.eq (w' := ([(h, .inr (7, [.ref q_7, .null, .null, .int 0, .int 0]))] : va_W) ++ (([(q_7, .inl (G.2.1 1, 6, .inl (fun _ => 0)))] : va_W) ++ (([(q_15, .inl (G.2.1 0, 6, .inl (fun _ => 0)))] : va_W)))) rfl
  refine zputF B hW hnm 0 rfl lf_X3_15 ft_X3_1 (fun C T N h => by have e := Option.some.inj h; cases e; rfl) rfl rfl (Nat.le_of_ble_eq_true rfl) dX3_init_17 (fun H locs hW => ?_)
  have hW := hW.eq (w' := ([(h, .inr (7, [.ref q_7, .ref q_15, .null, .int 0, .int 0]))] : va_W) ++ (([(q_7, .inl (G.2.1 1, 6, .inl (fun _ => 0)))] : va_W) ++ (([(q_15, .inl (G.2.1 0, 6, .inl (fun _ => 0)))] : va_W)))) rfl
  refine lv_aload_n hx hb dX3_init_20 rfl (lv_at hl 0 rfl) ?_
  refine lv_bipush (v := (6 : Int32)) hx hb dX3_init_21 (by decide) ?_
  refine znewi B hW 6 (by decide) (Nat.le_of_ble_eq_true rfl) (Nat.le_of_ble_eq_true rfl) (Nat.le_of_ble_eq_true rfl) dX3_init_23 (fun q_23 H hW => ?_)
  have hW := hW.eq (w' := ([(h, .inr (7, [.ref q_7, .ref q_15, .null, .int 0, .int 0]))] : va_W) ++ (([(q_7, .inl (G.2.1 1, 6, .inl (fun _ => 0)))] : va_W) ++ (([(q_15, .inl (G.2.1 0, 6, .inl (fun _ => 0)))] : va_W) ++ (([(q_23, .inl (G.2.1 0, 6, .inl (fun _ => 0)))] : va_W))))) rfl
  refine zputF B hW hnm 0 rfl lf_X3_19 ft_X3_2 (fun C T N h => by have e := Option.some.inj h; cases e; rfl) rfl rfl (Nat.le_of_ble_eq_true rfl) dX3_init_25 (fun H locs hW => ?_)
  have hW := hW.eq (w' := ([(h, .inr (7, [.ref q_7, .ref q_15, .ref q_23, .int 0, .int 0]))] : va_W) ++ (([(q_7, .inl (G.2.1 1, 6, .inl (fun _ => 0)))] : va_W) ++ (([(q_15, .inl (G.2.1 0, 6, .inl (fun _ => 0)))] : va_W) ++ (([(q_23, .inl (G.2.1 0, 6, .inl (fun _ => 0)))] : va_W))))) rfl
  refine lv_aload_n hx hb dX3_init_28 rfl (lv_at hl 0 rfl) ?_
  refine lv_iconst (v := (0 : Int32)) hx hb dX3_init_29 (by decide) ?_
  refine zput B hW 0 rfl lf_X3_22 ft_X3_3 rfl rfl (Nat.le_of_ble_eq_true rfl) dX3_init_30 (fun H locs hW => ?_)
  have hW := hW.eq (w' := ([(h, .inr (7, [.ref q_7, .ref q_15, .ref q_23, .int (0 : Int32), .int 0]))] : va_W) ++ (([(q_7, .inl (G.2.1 1, 6, .inl (fun _ => 0)))] : va_W) ++ (([(q_15, .inl (G.2.1 0, 6, .inl (fun _ => 0)))] : va_W) ++ (([(q_23, .inl (G.2.1 0, 6, .inl (fun _ => 0)))] : va_W))))) rfl
  refine lv_aload_n hx hb dX3_init_33 rfl (lv_at hl 0 rfl) ?_
  refine lv_iconst (v := (0 : Int32)) hx hb dX3_init_34 (by decide) ?_
  refine zput B hW 0 rfl lf_X3_26 ft_X3_4 rfl rfl (Nat.le_of_ble_eq_true rfl) dX3_init_35 (fun H locs hW => ?_)
  have hW := hW.eq (w' := ([(h, .inr (7, [.ref q_7, .ref q_15, .ref q_23, .int (0 : Int32), .int (0 : Int32)]))] : va_W) ++ (([(q_7, .inl (G.2.1 1, 6, .inl (fun _ => 0)))] : va_W) ++ (([(q_15, .inl (G.2.1 0, 6, .inl (fun _ => 0)))] : va_W) ++ (([(q_23, .inl (G.2.1 0, 6, .inl (fun _ => 0)))] : va_W))))) rfl
  have hW := hW.sub (w' := schW G h (zads [q_7, q_15, q_23]) ((fun _ => 0), (fun _ => 0), (fun _ => 0), (0 : Int32), (0 : Int32))) [0, 1, 2, 3] rfl rfl
  exact zvret B hr hlk hW ⟨(zads [q_7, q_15, q_23]), rfl, rfl⟩ (Nat.le_of_ble_eq_true rfl) (Nat.le_of_ble_eq_true rfl) dX3_init_38
def i_X4_init : zSens := ((fun _ => 0), (fun _ => 0), (fun _ => 0), (fun _ => 0), (fun _ => 0), (fun _ => 0), (fun _ => 0), (fun _ => 0), (0 : Int32), (0 : Int64))
abbrev po_X4_init (G : zG) (h : Nat) : Option Value → va_W → Prop := fun r u => ∃ (ad : Nat → Nat), r = none ∧ u = sensW G h ad (i_X4_init)
set_option maxHeartbeats 4000000 in
set_option maxRecDepth 100000 in
theorem c_X4_init (l : Launch) (G : zG) (h : Nat) : zC l yX4_init cX4_init 1 none 1 8 80 G [.ref h] (([(h, .inr (8, [.null, .null, .null, .null, .null, .null, .null, .null, .int 0, .long 0]))] : va_W)) (po_X4_init G h) := by
  refine zC.of RX4 rfl (by decide) (Nat.le_of_ble_eq_true rfl) ?_
  intro p e s m args below meth c A ls B hr hlk hnm hW hl
  have hx := B.x
  have hb := B.b
  have hl : lv_has ls 1 [(0, .ref h)] := hl
  refine lv_aload_n hx hb dX4_init_0 rfl (lv_at hl 0 rfl) ?_
  refine zobj B hl.1 ml_X4_3 (Nat.le_of_ble_eq_true rfl) (Nat.le_of_ble_eq_true rfl) dX4_init_1 ?_
  refine lv_aload_n hx hb dX4_init_4 rfl (lv_at hl 0 rfl) ?_
  refine lv_bipush (v := (10 : Int32)) hx hb dX4_init_5 (by decide) ?_
  refine znewi B hW 10 (by decide) (Nat.le_of_ble_eq_true rfl) (Nat.le_of_ble_eq_true rfl) (Nat.le_of_ble_eq_true rfl) dX4_init_7 (fun q_7 H hW => ?_)
  have hW := hW.eq (w' := ([(h, .inr (8, [.null, .null, .null, .null, .null, .null, .null, .null, .int 0, .long 0]))] : va_W) ++ (([(q_7, .inl (G.2.1 0, 10, .inl (fun _ => 0)))] : va_W))) rfl
  refine zputF B hW hnm 0 rfl lf_X4_9 ft_X4_0 (fun C T N h => by have e := Option.some.inj h; cases e; rfl) rfl rfl (Nat.le_of_ble_eq_true rfl) dX4_init_9 (fun H locs hW => ?_)
  have hW := hW.eq (w' := ([(h, .inr (8, [.ref q_7, .null, .null, .null, .null, .null, .null, .null, .int 0, .long 0]))] : va_W) ++ (([(q_7, .inl (G.2.1 0, 10, .inl (fun _ => 0)))] : va_W))) rfl
  refine lv_aload_n hx hb dX4_init_12 rfl (lv_at hl 0 rfl) ?_
  refine lv_bipush (v := (10 : Int32)) hx hb dX4_init_13 (by decide) ?_
  refine znewi B hW 10 (by decide) (Nat.le_of_ble_eq_true rfl) (Nat.le_of_ble_eq_true rfl) (Nat.le_of_ble_eq_true rfl) dX4_init_15 (fun q_15 H hW => ?_)
  have hW := hW.eq (w' := ([(h, .inr (8, [.ref q_7, .null, .null, .null, .null, .null, .null, .null, .int 0, .long 0]))] : va_W) ++ (([(q_7, .inl (G.2.1 0, 10, .inl (fun _ => 0)))] : va_W) ++ (([(q_15, .inl (G.2.1 0, 10, .inl (fun _ => 0)))] : va_W)))) rfl
  refine zputF B hW hnm 0 rfl lf_X4_15 ft_X4_1 (fun C T N h => by have e := Option.some.inj h; cases e; rfl) rfl rfl (Nat.le_of_ble_eq_true rfl) dX4_init_17 (fun H locs hW => ?_)
  have hW := hW.eq (w' := ([(h, .inr (8, [.ref q_7, .ref q_15, .null, .null, .null, .null, .null, .null, .int 0, .long 0]))] : va_W) ++ (([(q_7, .inl (G.2.1 0, 10, .inl (fun _ => 0)))] : va_W) ++ (([(q_15, .inl (G.2.1 0, 10, .inl (fun _ => 0)))] : va_W)))) rfl
  refine lv_aload_n hx hb dX4_init_20 rfl (lv_at hl 0 rfl) ?_
  refine lv_bipush (v := (10 : Int32)) hx hb dX4_init_21 (by decide) ?_
  refine znewz B hW 10 (by decide) (Nat.le_of_ble_eq_true rfl) (Nat.le_of_ble_eq_true rfl) (Nat.le_of_ble_eq_true rfl) dX4_init_23 (fun q_23 H hW => ?_)
  have hW := hW.eq (w' := ([(h, .inr (8, [.ref q_7, .ref q_15, .null, .null, .null, .null, .null, .null, .int 0, .long 0]))] : va_W) ++ (([(q_7, .inl (G.2.1 0, 10, .inl (fun _ => 0)))] : va_W) ++ (([(q_15, .inl (G.2.1 0, 10, .inl (fun _ => 0)))] : va_W) ++ (([(q_23, .inl (G.2.1 1, 10, .inl (fun _ => 0)))] : va_W))))) rfl
  refine zputF B hW hnm 0 rfl lf_X4_18 ft_X4_2 (fun C T N h => by have e := Option.some.inj h; cases e; rfl) rfl rfl (Nat.le_of_ble_eq_true rfl) dX4_init_25 (fun H locs hW => ?_)
  have hW := hW.eq (w' := ([(h, .inr (8, [.ref q_7, .ref q_15, .ref q_23, .null, .null, .null, .null, .null, .int 0, .long 0]))] : va_W) ++ (([(q_7, .inl (G.2.1 0, 10, .inl (fun _ => 0)))] : va_W) ++ (([(q_15, .inl (G.2.1 0, 10, .inl (fun _ => 0)))] : va_W) ++ (([(q_23, .inl (G.2.1 1, 10, .inl (fun _ => 0)))] : va_W))))) rfl
  refine lv_aload_n hx hb dX4_init_28 rfl (lv_at hl 0 rfl) ?_
  refine lv_bipush (v := (10 : Int32)) hx hb dX4_init_29 (by decide) ?_
  refine znewi B hW 10 (by decide) (Nat.le_of_ble_eq_true rfl) (Nat.le_of_ble_eq_true rfl) (Nat.le_of_ble_eq_true rfl) dX4_init_31 (fun q_31 H hW => ?_)
  have hW := hW.eq (w' := ([(h, .inr (8, [.ref q_7, .ref q_15, .ref q_23, .null, .null, .null, .null, .null, .int 0, .long 0]))] : va_W) ++ (([(q_7, .inl (G.2.1 0, 10, .inl (fun _ => 0)))] : va_W) ++ (([(q_15, .inl (G.2.1 0, 10, .inl (fun _ => 0)))] : va_W) ++ (([(q_23, .inl (G.2.1 1, 10, .inl (fun _ => 0)))] : va_W) ++ (([(q_31, .inl (G.2.1 0, 10, .inl (fun _ => 0)))] : va_W)))))) rfl
  refine zputF B hW hnm 0 rfl lf_X4_22 ft_X4_3 (fun C T N h => by have e := Option.some.inj h; cases e; rfl) rfl rfl (Nat.le_of_ble_eq_true rfl) dX4_init_33 (fun H locs hW => ?_)
  have hW := hW.eq (w' := ([(h, .inr (8, [.ref q_7, .ref q_15, .ref q_23, .ref q_31, .null, .null, .null, .null, .int 0, .long 0]))] : va_W) ++ (([(q_7, .inl (G.2.1 0, 10, .inl (fun _ => 0)))] : va_W) ++ (([(q_15, .inl (G.2.1 0, 10, .inl (fun _ => 0)))] : va_W) ++ (([(q_23, .inl (G.2.1 1, 10, .inl (fun _ => 0)))] : va_W) ++ (([(q_31, .inl (G.2.1 0, 10, .inl (fun _ => 0)))] : va_W)))))) rfl
  refine lv_aload_n hx hb dX4_init_36 rfl (lv_at hl 0 rfl) ?_
  refine lv_bipush (v := (10 : Int32)) hx hb dX4_init_37 (by decide) ?_
  refine znewz B hW 10 (by decide) (Nat.le_of_ble_eq_true rfl) (Nat.le_of_ble_eq_true rfl) (Nat.le_of_ble_eq_true rfl) dX4_init_39 (fun q_39 H hW => ?_)
  have hW := hW.eq (w' := ([(h, .inr (8, [.ref q_7, .ref q_15, .ref q_23, .ref q_31, .null, .null, .null, .null, .int 0, .long 0]))] : va_W) ++ (([(q_7, .inl (G.2.1 0, 10, .inl (fun _ => 0)))] : va_W) ++ (([(q_15, .inl (G.2.1 0, 10, .inl (fun _ => 0)))] : va_W) ++ (([(q_23, .inl (G.2.1 1, 10, .inl (fun _ => 0)))] : va_W) ++ (([(q_31, .inl (G.2.1 0, 10, .inl (fun _ => 0)))] : va_W) ++ (([(q_39, .inl (G.2.1 1, 10, .inl (fun _ => 0)))] : va_W))))))) rfl
  refine zputF B hW hnm 0 rfl lf_X4_25 ft_X4_4 (fun C T N h => by have e := Option.some.inj h; cases e; rfl) rfl rfl (Nat.le_of_ble_eq_true rfl) dX4_init_41 (fun H locs hW => ?_)
  have hW := hW.eq (w' := ([(h, .inr (8, [.ref q_7, .ref q_15, .ref q_23, .ref q_31, .ref q_39, .null, .null, .null, .int 0, .long 0]))] : va_W) ++ (([(q_7, .inl (G.2.1 0, 10, .inl (fun _ => 0)))] : va_W) ++ (([(q_15, .inl (G.2.1 0, 10, .inl (fun _ => 0)))] : va_W) ++ (([(q_23, .inl (G.2.1 1, 10, .inl (fun _ => 0)))] : va_W) ++ (([(q_31, .inl (G.2.1 0, 10, .inl (fun _ => 0)))] : va_W) ++ (([(q_39, .inl (G.2.1 1, 10, .inl (fun _ => 0)))] : va_W))))))) rfl
  refine lv_aload_n hx hb dX4_init_44 rfl (lv_at hl 0 rfl) ?_
  refine lv_bipush (v := (10 : Int32)) hx hb dX4_init_45 (by decide) ?_
  refine znewi B hW 10 (by decide) (Nat.le_of_ble_eq_true rfl) (Nat.le_of_ble_eq_true rfl) (Nat.le_of_ble_eq_true rfl) dX4_init_47 (fun q_47 H hW => ?_)
  have hW := hW.eq (w' := ([(h, .inr (8, [.ref q_7, .ref q_15, .ref q_23, .ref q_31, .ref q_39, .null, .null, .null, .int 0, .long 0]))] : va_W) ++ (([(q_7, .inl (G.2.1 0, 10, .inl (fun _ => 0)))] : va_W) ++ (([(q_15, .inl (G.2.1 0, 10, .inl (fun _ => 0)))] : va_W) ++ (([(q_23, .inl (G.2.1 1, 10, .inl (fun _ => 0)))] : va_W) ++ (([(q_31, .inl (G.2.1 0, 10, .inl (fun _ => 0)))] : va_W) ++ (([(q_39, .inl (G.2.1 1, 10, .inl (fun _ => 0)))] : va_W) ++ (([(q_47, .inl (G.2.1 0, 10, .inl (fun _ => 0)))] : va_W)))))))) rfl
  refine zputF B hW hnm 0 rfl lf_X4_28 ft_X4_5 (fun C T N h => by have e := Option.some.inj h; cases e; rfl) rfl rfl (Nat.le_of_ble_eq_true rfl) dX4_init_49 (fun H locs hW => ?_)
  have hW := hW.eq (w' := ([(h, .inr (8, [.ref q_7, .ref q_15, .ref q_23, .ref q_31, .ref q_39, .ref q_47, .null, .null, .int 0, .long 0]))] : va_W) ++ (([(q_7, .inl (G.2.1 0, 10, .inl (fun _ => 0)))] : va_W) ++ (([(q_15, .inl (G.2.1 0, 10, .inl (fun _ => 0)))] : va_W) ++ (([(q_23, .inl (G.2.1 1, 10, .inl (fun _ => 0)))] : va_W) ++ (([(q_31, .inl (G.2.1 0, 10, .inl (fun _ => 0)))] : va_W) ++ (([(q_39, .inl (G.2.1 1, 10, .inl (fun _ => 0)))] : va_W) ++ (([(q_47, .inl (G.2.1 0, 10, .inl (fun _ => 0)))] : va_W)))))))) rfl
  refine lv_aload_n hx hb dX4_init_52 rfl (lv_at hl 0 rfl) ?_
  refine lv_bipush (v := (10 : Int32)) hx hb dX4_init_53 (by decide) ?_
  refine znewi B hW 10 (by decide) (Nat.le_of_ble_eq_true rfl) (Nat.le_of_ble_eq_true rfl) (Nat.le_of_ble_eq_true rfl) dX4_init_55 (fun q_55 H hW => ?_)
  have hW := hW.eq (w' := ([(h, .inr (8, [.ref q_7, .ref q_15, .ref q_23, .ref q_31, .ref q_39, .ref q_47, .null, .null, .int 0, .long 0]))] : va_W) ++ (([(q_7, .inl (G.2.1 0, 10, .inl (fun _ => 0)))] : va_W) ++ (([(q_15, .inl (G.2.1 0, 10, .inl (fun _ => 0)))] : va_W) ++ (([(q_23, .inl (G.2.1 1, 10, .inl (fun _ => 0)))] : va_W) ++ (([(q_31, .inl (G.2.1 0, 10, .inl (fun _ => 0)))] : va_W) ++ (([(q_39, .inl (G.2.1 1, 10, .inl (fun _ => 0)))] : va_W) ++ (([(q_47, .inl (G.2.1 0, 10, .inl (fun _ => 0)))] : va_W) ++ (([(q_55, .inl (G.2.1 0, 10, .inl (fun _ => 0)))] : va_W))))))))) rfl
  refine zputF B hW hnm 0 rfl lf_X4_31 ft_X4_6 (fun C T N h => by have e := Option.some.inj h; cases e; rfl) rfl rfl (Nat.le_of_ble_eq_true rfl) dX4_init_57 (fun H locs hW => ?_)
  have hW := hW.eq (w' := ([(h, .inr (8, [.ref q_7, .ref q_15, .ref q_23, .ref q_31, .ref q_39, .ref q_47, .ref q_55, .null, .int 0, .long 0]))] : va_W) ++ (([(q_7, .inl (G.2.1 0, 10, .inl (fun _ => 0)))] : va_W) ++ (([(q_15, .inl (G.2.1 0, 10, .inl (fun _ => 0)))] : va_W) ++ (([(q_23, .inl (G.2.1 1, 10, .inl (fun _ => 0)))] : va_W) ++ (([(q_31, .inl (G.2.1 0, 10, .inl (fun _ => 0)))] : va_W) ++ (([(q_39, .inl (G.2.1 1, 10, .inl (fun _ => 0)))] : va_W) ++ (([(q_47, .inl (G.2.1 0, 10, .inl (fun _ => 0)))] : va_W) ++ (([(q_55, .inl (G.2.1 0, 10, .inl (fun _ => 0)))] : va_W))))))))) rfl
  refine lv_aload_n hx hb dX4_init_60 rfl (lv_at hl 0 rfl) ?_
  refine lv_bipush (v := (10 : Int32)) hx hb dX4_init_61 (by decide) ?_
  refine znewi B hW 10 (by decide) (Nat.le_of_ble_eq_true rfl) (Nat.le_of_ble_eq_true rfl) (Nat.le_of_ble_eq_true rfl) dX4_init_63 (fun q_63 H hW => ?_)
  have hW := hW.eq (w' := ([(h, .inr (8, [.ref q_7, .ref q_15, .ref q_23, .ref q_31, .ref q_39, .ref q_47, .ref q_55, .null, .int 0, .long 0]))] : va_W) ++ (([(q_7, .inl (G.2.1 0, 10, .inl (fun _ => 0)))] : va_W) ++ (([(q_15, .inl (G.2.1 0, 10, .inl (fun _ => 0)))] : va_W) ++ (([(q_23, .inl (G.2.1 1, 10, .inl (fun _ => 0)))] : va_W) ++ (([(q_31, .inl (G.2.1 0, 10, .inl (fun _ => 0)))] : va_W) ++ (([(q_39, .inl (G.2.1 1, 10, .inl (fun _ => 0)))] : va_W) ++ (([(q_47, .inl (G.2.1 0, 10, .inl (fun _ => 0)))] : va_W) ++ (([(q_55, .inl (G.2.1 0, 10, .inl (fun _ => 0)))] : va_W) ++ (([(q_63, .inl (G.2.1 0, 10, .inl (fun _ => 0)))] : va_W)))))))))) rfl
  refine zputF B hW hnm 0 rfl lf_X4_34 ft_X4_7 (fun C T N h => by have e := Option.some.inj h; cases e; rfl) rfl rfl (Nat.le_of_ble_eq_true rfl) dX4_init_65 (fun H locs hW => ?_)
  have hW := hW.eq (w' := ([(h, .inr (8, [.ref q_7, .ref q_15, .ref q_23, .ref q_31, .ref q_39, .ref q_47, .ref q_55, .ref q_63, .int 0, .long 0]))] : va_W) ++ (([(q_7, .inl (G.2.1 0, 10, .inl (fun _ => 0)))] : va_W) ++ (([(q_15, .inl (G.2.1 0, 10, .inl (fun _ => 0)))] : va_W) ++ (([(q_23, .inl (G.2.1 1, 10, .inl (fun _ => 0)))] : va_W) ++ (([(q_31, .inl (G.2.1 0, 10, .inl (fun _ => 0)))] : va_W) ++ (([(q_39, .inl (G.2.1 1, 10, .inl (fun _ => 0)))] : va_W) ++ (([(q_47, .inl (G.2.1 0, 10, .inl (fun _ => 0)))] : va_W) ++ (([(q_55, .inl (G.2.1 0, 10, .inl (fun _ => 0)))] : va_W) ++ (([(q_63, .inl (G.2.1 0, 10, .inl (fun _ => 0)))] : va_W)))))))))) rfl
  refine lv_aload_n hx hb dX4_init_68 rfl (lv_at hl 0 rfl) ?_
  refine lv_iconst (v := (0 : Int32)) hx hb dX4_init_69 (by decide) ?_
  refine zput B hW 0 rfl lf_X4_37 ft_X4_8 rfl rfl (Nat.le_of_ble_eq_true rfl) dX4_init_70 (fun H locs hW => ?_)
  have hW := hW.eq (w' := ([(h, .inr (8, [.ref q_7, .ref q_15, .ref q_23, .ref q_31, .ref q_39, .ref q_47, .ref q_55, .ref q_63, .int (0 : Int32), .long 0]))] : va_W) ++ (([(q_7, .inl (G.2.1 0, 10, .inl (fun _ => 0)))] : va_W) ++ (([(q_15, .inl (G.2.1 0, 10, .inl (fun _ => 0)))] : va_W) ++ (([(q_23, .inl (G.2.1 1, 10, .inl (fun _ => 0)))] : va_W) ++ (([(q_31, .inl (G.2.1 0, 10, .inl (fun _ => 0)))] : va_W) ++ (([(q_39, .inl (G.2.1 1, 10, .inl (fun _ => 0)))] : va_W) ++ (([(q_47, .inl (G.2.1 0, 10, .inl (fun _ => 0)))] : va_W) ++ (([(q_55, .inl (G.2.1 0, 10, .inl (fun _ => 0)))] : va_W) ++ (([(q_63, .inl (G.2.1 0, 10, .inl (fun _ => 0)))] : va_W)))))))))) rfl
  refine lv_aload_n hx hb dX4_init_73 rfl (lv_at hl 0 rfl) ?_
  refine lv_lconst (v := (0 : Int64)) hx hb dX4_init_74 (by decide) ?_
  refine zput B hW 0 rfl lf_X4_41 ft_X4_9 rfl rfl (Nat.le_of_ble_eq_true rfl) dX4_init_75 (fun H locs hW => ?_)
  have hW := hW.eq (w' := ([(h, .inr (8, [.ref q_7, .ref q_15, .ref q_23, .ref q_31, .ref q_39, .ref q_47, .ref q_55, .ref q_63, .int (0 : Int32), .long (0 : Int64)]))] : va_W) ++ (([(q_7, .inl (G.2.1 0, 10, .inl (fun _ => 0)))] : va_W) ++ (([(q_15, .inl (G.2.1 0, 10, .inl (fun _ => 0)))] : va_W) ++ (([(q_23, .inl (G.2.1 1, 10, .inl (fun _ => 0)))] : va_W) ++ (([(q_31, .inl (G.2.1 0, 10, .inl (fun _ => 0)))] : va_W) ++ (([(q_39, .inl (G.2.1 1, 10, .inl (fun _ => 0)))] : va_W) ++ (([(q_47, .inl (G.2.1 0, 10, .inl (fun _ => 0)))] : va_W) ++ (([(q_55, .inl (G.2.1 0, 10, .inl (fun _ => 0)))] : va_W) ++ (([(q_63, .inl (G.2.1 0, 10, .inl (fun _ => 0)))] : va_W)))))))))) rfl
  have hW := hW.sub (w' := sensW G h (zads [q_7, q_15, q_23, q_31, q_39, q_47, q_55, q_63]) ((fun _ => 0), (fun _ => 0), (fun _ => 0), (fun _ => 0), (fun _ => 0), (fun _ => 0), (fun _ => 0), (fun _ => 0), (0 : Int32), (0 : Int64))) [0, 1, 2, 3, 4, 5, 6, 7, 8] rfl rfl
  exact zvret B hr hlk hW ⟨(zads [q_7, q_15, q_23, q_31, q_39, q_47, q_55, q_63]), rfl, rfl⟩ (Nat.le_of_ble_eq_true rfl) (Nat.le_of_ble_eq_true rfl) dX4_init_78
def i_X5_init : zSubs := ((fun _ => 0), (fun _ => 0), (fun _ => 0), (fun _ => 0), (fun _ => 0), (0 : Int32), (fun _ => 0), (fun _ => 0), (fun _ => 0), 0, 32, 32, 32)
abbrev po_X5_init (G : zG) (h : Nat) : Option Value → va_W → Prop := fun r u => ∃ (ad : Nat → Nat), r = none ∧ u = subW G h ad (i_X5_init)
set_option maxHeartbeats 4000000 in
set_option maxRecDepth 100000 in
theorem c_X5_init (l : Launch) (G : zG) (h : Nat) : zC l yX5_init cX5_init 1 none 1 8 156 G [.ref h] (([(h, .inr (9, [.null, .null, .null, .null, .null, .int 0, .null, .null, .null, .int 0]))] : va_W)) (po_X5_init G h) := by
  refine zC.of RX5 rfl (by decide) (Nat.le_of_ble_eq_true rfl) ?_
  intro p e s m args below meth c A ls B hr hlk hnm hW hl
  have hx := B.x
  have hb := B.b
  have hl : lv_has ls 1 [(0, .ref h)] := hl
  refine lv_aload_n hx hb dX5_init_0 rfl (lv_at hl 0 rfl) ?_
  refine zobj B hl.1 ml_X5_3 (Nat.le_of_ble_eq_true rfl) (Nat.le_of_ble_eq_true rfl) dX5_init_1 ?_
  refine lv_aload_n hx hb dX5_init_4 rfl (lv_at hl 0 rfl) ?_
  refine lv_bipush (v := (12 : Int32)) hx hb dX5_init_5 (by decide) ?_
  refine znewz B hW 12 (by decide) (Nat.le_of_ble_eq_true rfl) (Nat.le_of_ble_eq_true rfl) (Nat.le_of_ble_eq_true rfl) dX5_init_7 (fun q_7 H hW => ?_)
  have hW := hW.eq (w' := ([(h, .inr (9, [.null, .null, .null, .null, .null, .int 0, .null, .null, .null, .int 0]))] : va_W) ++ (([(q_7, .inl (G.2.1 1, 12, .inl (fun _ => 0)))] : va_W))) rfl
  refine zputF B hW hnm 0 rfl lf_X5_9 ft_X5_0 (fun C T N h => by have e := Option.some.inj h; cases e; rfl) rfl rfl (Nat.le_of_ble_eq_true rfl) dX5_init_9 (fun H locs hW => ?_)
  have hW := hW.eq (w' := ([(h, .inr (9, [.ref q_7, .null, .null, .null, .null, .int 0, .null, .null, .null, .int 0]))] : va_W) ++ (([(q_7, .inl (G.2.1 1, 12, .inl (fun _ => 0)))] : va_W))) rfl
  refine lv_aload_n hx hb dX5_init_12 rfl (lv_at hl 0 rfl) ?_
  refine lv_bipush (v := (12 : Int32)) hx hb dX5_init_13 (by decide) ?_
  refine znewi B hW 12 (by decide) (Nat.le_of_ble_eq_true rfl) (Nat.le_of_ble_eq_true rfl) (Nat.le_of_ble_eq_true rfl) dX5_init_15 (fun q_15 H hW => ?_)
  have hW := hW.eq (w' := ([(h, .inr (9, [.ref q_7, .null, .null, .null, .null, .int 0, .null, .null, .null, .int 0]))] : va_W) ++ (([(q_7, .inl (G.2.1 1, 12, .inl (fun _ => 0)))] : va_W) ++ (([(q_15, .inl (G.2.1 0, 12, .inl (fun _ => 0)))] : va_W)))) rfl
  refine zputF B hW hnm 0 rfl lf_X5_15 ft_X5_1 (fun C T N h => by have e := Option.some.inj h; cases e; rfl) rfl rfl (Nat.le_of_ble_eq_true rfl) dX5_init_17 (fun H locs hW => ?_)
  have hW := hW.eq (w' := ([(h, .inr (9, [.ref q_7, .ref q_15, .null, .null, .null, .int 0, .null, .null, .null, .int 0]))] : va_W) ++ (([(q_7, .inl (G.2.1 1, 12, .inl (fun _ => 0)))] : va_W) ++ (([(q_15, .inl (G.2.1 0, 12, .inl (fun _ => 0)))] : va_W)))) rfl
  refine lv_aload_n hx hb dX5_init_20 rfl (lv_at hl 0 rfl) ?_
  refine lv_bipush (v := (12 : Int32)) hx hb dX5_init_21 (by decide) ?_
  refine znewi B hW 12 (by decide) (Nat.le_of_ble_eq_true rfl) (Nat.le_of_ble_eq_true rfl) (Nat.le_of_ble_eq_true rfl) dX5_init_23 (fun q_23 H hW => ?_)
  have hW := hW.eq (w' := ([(h, .inr (9, [.ref q_7, .ref q_15, .null, .null, .null, .int 0, .null, .null, .null, .int 0]))] : va_W) ++ (([(q_7, .inl (G.2.1 1, 12, .inl (fun _ => 0)))] : va_W) ++ (([(q_15, .inl (G.2.1 0, 12, .inl (fun _ => 0)))] : va_W) ++ (([(q_23, .inl (G.2.1 0, 12, .inl (fun _ => 0)))] : va_W))))) rfl
  refine zputF B hW hnm 0 rfl lf_X5_19 ft_X5_2 (fun C T N h => by have e := Option.some.inj h; cases e; rfl) rfl rfl (Nat.le_of_ble_eq_true rfl) dX5_init_25 (fun H locs hW => ?_)
  have hW := hW.eq (w' := ([(h, .inr (9, [.ref q_7, .ref q_15, .ref q_23, .null, .null, .int 0, .null, .null, .null, .int 0]))] : va_W) ++ (([(q_7, .inl (G.2.1 1, 12, .inl (fun _ => 0)))] : va_W) ++ (([(q_15, .inl (G.2.1 0, 12, .inl (fun _ => 0)))] : va_W) ++ (([(q_23, .inl (G.2.1 0, 12, .inl (fun _ => 0)))] : va_W))))) rfl
  refine lv_aload_n hx hb dX5_init_28 rfl (lv_at hl 0 rfl) ?_
  refine lv_bipush (v := (12 : Int32)) hx hb dX5_init_29 (by decide) ?_
  refine znewi B hW 12 (by decide) (Nat.le_of_ble_eq_true rfl) (Nat.le_of_ble_eq_true rfl) (Nat.le_of_ble_eq_true rfl) dX5_init_31 (fun q_31 H hW => ?_)
  have hW := hW.eq (w' := ([(h, .inr (9, [.ref q_7, .ref q_15, .ref q_23, .null, .null, .int 0, .null, .null, .null, .int 0]))] : va_W) ++ (([(q_7, .inl (G.2.1 1, 12, .inl (fun _ => 0)))] : va_W) ++ (([(q_15, .inl (G.2.1 0, 12, .inl (fun _ => 0)))] : va_W) ++ (([(q_23, .inl (G.2.1 0, 12, .inl (fun _ => 0)))] : va_W) ++ (([(q_31, .inl (G.2.1 0, 12, .inl (fun _ => 0)))] : va_W)))))) rfl
  refine zputF B hW hnm 0 rfl lf_X5_22 ft_X5_3 (fun C T N h => by have e := Option.some.inj h; cases e; rfl) rfl rfl (Nat.le_of_ble_eq_true rfl) dX5_init_33 (fun H locs hW => ?_)
  have hW := hW.eq (w' := ([(h, .inr (9, [.ref q_7, .ref q_15, .ref q_23, .ref q_31, .null, .int 0, .null, .null, .null, .int 0]))] : va_W) ++ (([(q_7, .inl (G.2.1 1, 12, .inl (fun _ => 0)))] : va_W) ++ (([(q_15, .inl (G.2.1 0, 12, .inl (fun _ => 0)))] : va_W) ++ (([(q_23, .inl (G.2.1 0, 12, .inl (fun _ => 0)))] : va_W) ++ (([(q_31, .inl (G.2.1 0, 12, .inl (fun _ => 0)))] : va_W)))))) rfl
  refine lv_aload_n hx hb dX5_init_36 rfl (lv_at hl 0 rfl) ?_
  refine lv_bipush (v := (12 : Int32)) hx hb dX5_init_37 (by decide) ?_
  refine znewi B hW 12 (by decide) (Nat.le_of_ble_eq_true rfl) (Nat.le_of_ble_eq_true rfl) (Nat.le_of_ble_eq_true rfl) dX5_init_39 (fun q_39 H hW => ?_)
  have hW := hW.eq (w' := ([(h, .inr (9, [.ref q_7, .ref q_15, .ref q_23, .ref q_31, .null, .int 0, .null, .null, .null, .int 0]))] : va_W) ++ (([(q_7, .inl (G.2.1 1, 12, .inl (fun _ => 0)))] : va_W) ++ (([(q_15, .inl (G.2.1 0, 12, .inl (fun _ => 0)))] : va_W) ++ (([(q_23, .inl (G.2.1 0, 12, .inl (fun _ => 0)))] : va_W) ++ (([(q_31, .inl (G.2.1 0, 12, .inl (fun _ => 0)))] : va_W) ++ (([(q_39, .inl (G.2.1 0, 12, .inl (fun _ => 0)))] : va_W))))))) rfl
  refine zputF B hW hnm 0 rfl lf_X5_25 ft_X5_4 (fun C T N h => by have e := Option.some.inj h; cases e; rfl) rfl rfl (Nat.le_of_ble_eq_true rfl) dX5_init_41 (fun H locs hW => ?_)
  have hW := hW.eq (w' := ([(h, .inr (9, [.ref q_7, .ref q_15, .ref q_23, .ref q_31, .ref q_39, .int 0, .null, .null, .null, .int 0]))] : va_W) ++ (([(q_7, .inl (G.2.1 1, 12, .inl (fun _ => 0)))] : va_W) ++ (([(q_15, .inl (G.2.1 0, 12, .inl (fun _ => 0)))] : va_W) ++ (([(q_23, .inl (G.2.1 0, 12, .inl (fun _ => 0)))] : va_W) ++ (([(q_31, .inl (G.2.1 0, 12, .inl (fun _ => 0)))] : va_W) ++ (([(q_39, .inl (G.2.1 0, 12, .inl (fun _ => 0)))] : va_W))))))) rfl
  refine lv_aload_n hx hb dX5_init_44 rfl (lv_at hl 0 rfl) ?_
  refine lv_iconst (v := (0 : Int32)) hx hb dX5_init_45 (by decide) ?_
  refine zput B hW 0 rfl lf_X5_28 ft_X5_5 rfl rfl (Nat.le_of_ble_eq_true rfl) dX5_init_46 (fun H locs hW => ?_)
  have hW := hW.eq (w' := ([(h, .inr (9, [.ref q_7, .ref q_15, .ref q_23, .ref q_31, .ref q_39, .int (0 : Int32), .null, .null, .null, .int 0]))] : va_W) ++ (([(q_7, .inl (G.2.1 1, 12, .inl (fun _ => 0)))] : va_W) ++ (([(q_15, .inl (G.2.1 0, 12, .inl (fun _ => 0)))] : va_W) ++ (([(q_23, .inl (G.2.1 0, 12, .inl (fun _ => 0)))] : va_W) ++ (([(q_31, .inl (G.2.1 0, 12, .inl (fun _ => 0)))] : va_W) ++ (([(q_39, .inl (G.2.1 0, 12, .inl (fun _ => 0)))] : va_W))))))) rfl
  refine lv_aload_n hx hb dX5_init_49 rfl (lv_at hl 0 rfl) ?_
  refine lv_bipush (v := (32 : Int32)) hx hb dX5_init_50 (by decide) ?_
  refine znewi B hW 32 (by decide) (Nat.le_of_ble_eq_true rfl) (Nat.le_of_ble_eq_true rfl) (Nat.le_of_ble_eq_true rfl) dX5_init_52 (fun q_52 H hW => ?_)
  have hW := hW.eq (w' := ([(h, .inr (9, [.ref q_7, .ref q_15, .ref q_23, .ref q_31, .ref q_39, .int (0 : Int32), .null, .null, .null, .int 0]))] : va_W) ++ (([(q_7, .inl (G.2.1 1, 12, .inl (fun _ => 0)))] : va_W) ++ (([(q_15, .inl (G.2.1 0, 12, .inl (fun _ => 0)))] : va_W) ++ (([(q_23, .inl (G.2.1 0, 12, .inl (fun _ => 0)))] : va_W) ++ (([(q_31, .inl (G.2.1 0, 12, .inl (fun _ => 0)))] : va_W) ++ (([(q_39, .inl (G.2.1 0, 12, .inl (fun _ => 0)))] : va_W) ++ (([(q_52, .inl (G.2.1 0, 32, .inl (fun _ => 0)))] : va_W)))))))) rfl
  refine zput B hW 0 rfl lf_X5_32 ft_X5_6 rfl rfl (Nat.le_of_ble_eq_true rfl) dX5_init_54 (fun H locs hW => ?_)
  have hW := hW.eq (w' := ([(h, .inr (9, [.ref q_7, .ref q_15, .ref q_23, .ref q_31, .ref q_39, .int (0 : Int32), .ref q_52, .null, .null, .int 0]))] : va_W) ++ (([(q_7, .inl (G.2.1 1, 12, .inl (fun _ => 0)))] : va_W) ++ (([(q_15, .inl (G.2.1 0, 12, .inl (fun _ => 0)))] : va_W) ++ (([(q_23, .inl (G.2.1 0, 12, .inl (fun _ => 0)))] : va_W) ++ (([(q_31, .inl (G.2.1 0, 12, .inl (fun _ => 0)))] : va_W) ++ (([(q_39, .inl (G.2.1 0, 12, .inl (fun _ => 0)))] : va_W) ++ (([(q_52, .inl (G.2.1 0, 32, .inl (fun _ => 0)))] : va_W)))))))) rfl
  refine lv_aload_n hx hb dX5_init_57 rfl (lv_at hl 0 rfl) ?_
  refine lv_bipush (v := (32 : Int32)) hx hb dX5_init_58 (by decide) ?_
  refine znewi B hW 32 (by decide) (Nat.le_of_ble_eq_true rfl) (Nat.le_of_ble_eq_true rfl) (Nat.le_of_ble_eq_true rfl) dX5_init_60 (fun q_60 H hW => ?_)
  have hW := hW.eq (w' := ([(h, .inr (9, [.ref q_7, .ref q_15, .ref q_23, .ref q_31, .ref q_39, .int (0 : Int32), .ref q_52, .null, .null, .int 0]))] : va_W) ++ (([(q_7, .inl (G.2.1 1, 12, .inl (fun _ => 0)))] : va_W) ++ (([(q_15, .inl (G.2.1 0, 12, .inl (fun _ => 0)))] : va_W) ++ (([(q_23, .inl (G.2.1 0, 12, .inl (fun _ => 0)))] : va_W) ++ (([(q_31, .inl (G.2.1 0, 12, .inl (fun _ => 0)))] : va_W) ++ (([(q_39, .inl (G.2.1 0, 12, .inl (fun _ => 0)))] : va_W) ++ (([(q_52, .inl (G.2.1 0, 32, .inl (fun _ => 0)))] : va_W) ++ (([(q_60, .inl (G.2.1 0, 32, .inl (fun _ => 0)))] : va_W))))))))) rfl
  refine zput B hW 0 rfl lf_X5_35 ft_X5_7 rfl rfl (Nat.le_of_ble_eq_true rfl) dX5_init_62 (fun H locs hW => ?_)
  have hW := hW.eq (w' := ([(h, .inr (9, [.ref q_7, .ref q_15, .ref q_23, .ref q_31, .ref q_39, .int (0 : Int32), .ref q_52, .ref q_60, .null, .int 0]))] : va_W) ++ (([(q_7, .inl (G.2.1 1, 12, .inl (fun _ => 0)))] : va_W) ++ (([(q_15, .inl (G.2.1 0, 12, .inl (fun _ => 0)))] : va_W) ++ (([(q_23, .inl (G.2.1 0, 12, .inl (fun _ => 0)))] : va_W) ++ (([(q_31, .inl (G.2.1 0, 12, .inl (fun _ => 0)))] : va_W) ++ (([(q_39, .inl (G.2.1 0, 12, .inl (fun _ => 0)))] : va_W) ++ (([(q_52, .inl (G.2.1 0, 32, .inl (fun _ => 0)))] : va_W) ++ (([(q_60, .inl (G.2.1 0, 32, .inl (fun _ => 0)))] : va_W))))))))) rfl
  refine lv_aload_n hx hb dX5_init_65 rfl (lv_at hl 0 rfl) ?_
  refine lv_bipush (v := (32 : Int32)) hx hb dX5_init_66 (by decide) ?_
  refine znewi B hW 32 (by decide) (Nat.le_of_ble_eq_true rfl) (Nat.le_of_ble_eq_true rfl) (Nat.le_of_ble_eq_true rfl) dX5_init_68 (fun q_68 H hW => ?_)
  have hW := hW.eq (w' := ([(h, .inr (9, [.ref q_7, .ref q_15, .ref q_23, .ref q_31, .ref q_39, .int (0 : Int32), .ref q_52, .ref q_60, .null, .int 0]))] : va_W) ++ (([(q_7, .inl (G.2.1 1, 12, .inl (fun _ => 0)))] : va_W) ++ (([(q_15, .inl (G.2.1 0, 12, .inl (fun _ => 0)))] : va_W) ++ (([(q_23, .inl (G.2.1 0, 12, .inl (fun _ => 0)))] : va_W) ++ (([(q_31, .inl (G.2.1 0, 12, .inl (fun _ => 0)))] : va_W) ++ (([(q_39, .inl (G.2.1 0, 12, .inl (fun _ => 0)))] : va_W) ++ (([(q_52, .inl (G.2.1 0, 32, .inl (fun _ => 0)))] : va_W) ++ (([(q_60, .inl (G.2.1 0, 32, .inl (fun _ => 0)))] : va_W) ++ (([(q_68, .inl (G.2.1 0, 32, .inl (fun _ => 0)))] : va_W)))))))))) rfl
  refine zput B hW 0 rfl lf_X5_38 ft_X5_8 rfl rfl (Nat.le_of_ble_eq_true rfl) dX5_init_70 (fun H locs hW => ?_)
  have hW := hW.eq (w' := ([(h, .inr (9, [.ref q_7, .ref q_15, .ref q_23, .ref q_31, .ref q_39, .int (0 : Int32), .ref q_52, .ref q_60, .ref q_68, .int 0]))] : va_W) ++ (([(q_7, .inl (G.2.1 1, 12, .inl (fun _ => 0)))] : va_W) ++ (([(q_15, .inl (G.2.1 0, 12, .inl (fun _ => 0)))] : va_W) ++ (([(q_23, .inl (G.2.1 0, 12, .inl (fun _ => 0)))] : va_W) ++ (([(q_31, .inl (G.2.1 0, 12, .inl (fun _ => 0)))] : va_W) ++ (([(q_39, .inl (G.2.1 0, 12, .inl (fun _ => 0)))] : va_W) ++ (([(q_52, .inl (G.2.1 0, 32, .inl (fun _ => 0)))] : va_W) ++ (([(q_60, .inl (G.2.1 0, 32, .inl (fun _ => 0)))] : va_W) ++ (([(q_68, .inl (G.2.1 0, 32, .inl (fun _ => 0)))] : va_W)))))))))) rfl
  refine lv_aload_n hx hb dX5_init_73 rfl (lv_at hl 0 rfl) ?_
  refine lv_iconst (v := (0 : Int32)) hx hb dX5_init_74 (by decide) ?_
  refine zput B hW 0 rfl lf_X5_41 ft_X5_9 rfl rfl (Nat.le_of_ble_eq_true rfl) dX5_init_75 (fun H locs hW => ?_)
  have hW := hW.eq (w' := ([(h, .inr (9, [.ref q_7, .ref q_15, .ref q_23, .ref q_31, .ref q_39, .int (0 : Int32), .ref q_52, .ref q_60, .ref q_68, .int (0 : Int32)]))] : va_W) ++ (([(q_7, .inl (G.2.1 1, 12, .inl (fun _ => 0)))] : va_W) ++ (([(q_15, .inl (G.2.1 0, 12, .inl (fun _ => 0)))] : va_W) ++ (([(q_23, .inl (G.2.1 0, 12, .inl (fun _ => 0)))] : va_W) ++ (([(q_31, .inl (G.2.1 0, 12, .inl (fun _ => 0)))] : va_W) ++ (([(q_39, .inl (G.2.1 0, 12, .inl (fun _ => 0)))] : va_W) ++ (([(q_52, .inl (G.2.1 0, 32, .inl (fun _ => 0)))] : va_W) ++ (([(q_60, .inl (G.2.1 0, 32, .inl (fun _ => 0)))] : va_W) ++ (([(q_68, .inl (G.2.1 0, 32, .inl (fun _ => 0)))] : va_W)))))))))) rfl
  have hW := hW.sub (w' := subW G h (zads [q_7, q_15, q_23, q_31, q_39, q_52, q_60, q_68]) ((fun _ => 0), (fun _ => 0), (fun _ => 0), (fun _ => 0), (fun _ => 0), (0 : Int32), (fun _ => 0), (fun _ => 0), (fun _ => 0), 0, 32, 32, 32)) [0, 1, 2, 3, 4, 5, 6, 7, 8] rfl rfl
  exact zvret B hr hlk hW ⟨(zads [q_7, q_15, q_23, q_31, q_39, q_52, q_60, q_68]), rfl, rfl⟩ (Nat.le_of_ble_eq_true rfl) (Nat.le_of_ble_eq_true rfl) dX5_init_78
def i_X6_init : zWor := (0 : Int32)
abbrev po_X6_init (G : zG) (h : Nat) : Option Value → va_W → Prop := fun r u => ∃ (ad adl ado ada ads adu adc : Nat → Nat), r = none ∧ u = worW G h ad (i_X6_init) ++ (landW G (ad 0) adl (i_X1_init) ++ (outW G (ad 1) ado (i_X2_init) ++ (landW G (ado 0) ada (i_X1_init) ++ (sensW G (ad 2) ads (i_X4_init) ++ (subW G (ad 3) adu (i_X5_init) ++ (schW G (ad 4) adc (i_X3_init)))))))
set_option maxHeartbeats 4000000 in
set_option maxRecDepth 100000 in
theorem c_X6_init (l : Launch) (G : zG) (h : Nat) : zC l yX6_init cX6_init 1 none 3 40 849 G [.ref h] (([(h, .inr (10, [.null, .null, .null, .null, .null, .int 0]))] : va_W)) (po_X6_init G h) := by
  refine zC.of RX6 rfl (by decide) (Nat.le_of_ble_eq_true rfl) ?_
  intro p e s m args below meth c A ls B hr hlk hnm hW hl
  have hx := B.x
  have hb := B.b
  have hl : lv_has ls 1 [(0, .ref h)] := hl
  refine lv_aload_n hx hb dX6_init_0 rfl (lv_at hl 0 rfl) ?_
  refine zobj B hl.1 ml_X6_3 (Nat.le_of_ble_eq_true rfl) (Nat.le_of_ble_eq_true rfl) dX6_init_1 ?_
  refine lv_aload_n hx hb dX6_init_4 rfl (lv_at hl 0 rfl) ?_
  refine znew B hW 5 14 tyX1 rfl in_X1 tyX1_ok kl_X6_9 ki_X1 kz_X1 rfl (Nat.le_of_ble_eq_true rfl) (Nat.le_of_ble_eq_true rfl) dX6_init_5 (fun q_5 H hW => ?_)
  have hW := hW.eq (w' := ([(h, .inr (10, [.null, .null, .null, .null, .null, .int 0]))] : va_W) ++ (([(q_5, .inr (5, [.null, .null, .null, .null, .null, .null, .null, .int 0, .int 0, .int 0, .int 0, .long 0, .long 0, .long 0]))] : va_W))) rfl
  refine lv_dup hx hb dX6_init_8 rfl ?_
  have hW := hW.sub (w' := ([(q_5, .inr (5, [.null, .null, .null, .null, .null, .null, .null, .int 0, .int 0, .int 0, .int 0, .long 0, .long 0, .long 0]))] : va_W) ++ (([(h, .inr (10, [.null, .null, .null, .null, .null, .int 0]))] : va_W))) [1, 0] rfl rfl
  refine zcI (w1 := []) (wc := ([(q_5, .inr (5, [.null, .null, .null, .null, .null, .null, .null, .int 0, .int 0, .int 0, .int 0, .long 0, .long 0, .long 0]))] : va_W)) (w2 := ([(h, .inr (10, [.null, .null, .null, .null, .null, .int 0]))] : va_W)) (As := []) B (hW.eq rfl) (c_X1_init l G q_5) yd_X1_init ml_X6_11 rfl hl.1 rfl (Nat.le_of_ble_eq_true rfl) ⟨Nat.le_of_ble_eq_true rfl, Nat.le_of_ble_eq_true rfl⟩ ⟨(Nat.le_of_ble_eq_true rfl), (Nat.le_of_ble_eq_true rfl)⟩ dX6_init_9 (fun v u H locs hp hW => ?_)
  obtain ⟨ad0_9, rfl, rfl⟩ := hp
  have hW := hW.eq (w' := landW G q_5 ad0_9 (i_X1_init) ++ (([(h, .inr (10, [.null, .null, .null, .null, .null, .int 0]))] : va_W))) rfl
  refine zputF B hW hnm 8 rfl lf_X6_12 ft_X6_0 (fun C T N h => by have e := Option.some.inj h; cases e; rfl) rfl rfl (Nat.le_of_ble_eq_true rfl) dX6_init_12 (fun H locs hW => ?_)
  have hW := hW.eq (w' := landW G q_5 ad0_9 (i_X1_init) ++ (([(h, .inr (10, [.ref q_5, .null, .null, .null, .null, .int 0]))] : va_W))) rfl
  refine lv_aload_n hx hb dX6_init_15 rfl (lv_at hl 0 rfl) ?_
  refine znew B hW 6 2 tyX2 rfl in_X2 tyX2_ok kl_X6_18 ki_X2 kz_X2 rfl (Nat.le_of_ble_eq_true rfl) (Nat.le_of_ble_eq_true rfl) dX6_init_16 (fun q_16 H hW => ?_)
  have hW := hW.eq (w' := landW G q_5 ad0_9 (i_X1_init) ++ (([(h, .inr (10, [.ref q_5, .null, .null, .null, .null, .int 0]))] : va_W) ++ (([(q_16, .inr (6, [.null, .null]))] : va_W)))) rfl
  refine lv_dup hx hb dX6_init_19 rfl ?_
  have hW := hW.sub (w' := ([(q_16, .inr (6, [.null, .null]))] : va_W) ++ (landW G q_5 ad0_9 (i_X1_init) ++ (([(h, .inr (10, [.ref q_5, .null, .null, .null, .null, .int 0]))] : va_W)))) [9, 0, 1, 2, 3, 4, 5, 6, 7, 8] rfl rfl
  refine zcIN (w1 := []) (wc := ([(q_16, .inr (6, [.null, .null]))] : va_W)) (w2 := landW G q_5 ad0_9 (i_X1_init) ++ (([(h, .inr (10, [.ref q_5, .null, .null, .null, .null, .int 0]))] : va_W))) (As := []) B (hW.eq rfl) (c_X2_init l G q_16) yd_X2_init ml_X6_20 rfl hl.1 rfl (Nat.le_of_ble_eq_true rfl) ⟨Nat.le_of_ble_eq_true rfl, Nat.le_of_ble_eq_true rfl⟩ ⟨(Nat.le_of_ble_eq_true rfl), (Nat.le_of_ble_eq_true rfl)⟩ dX6_init_20 (fun v u H locs hp hW => ?_)
  obtain ⟨ad0_20, ad1_20, rfl, rfl⟩ := hp
  have hW := hW.eq (w' := outW G q_16 ad0_20 (i_X2_init) ++ (landW G (ad0_20 0) ad1_20 (i_X1_init) ++ (landW G q_5 ad0_9 (i_X1_init) ++ (([(h, .inr (10, [.ref q_5, .null, .null, .null, .null, .int 0]))] : va_W))))) rfl
  refine zputF B hW hnm 18 rfl lf_X6_21 ft_X6_1 (fun C T N h => by have e := Option.some.inj h; cases e; rfl) rfl rfl (Nat.le_of_ble_eq_true rfl) dX6_init_23 (fun H locs hW => ?_)
  have hW := hW.eq (w' := outW G q_16 ad0_20 (i_X2_init) ++ (landW G (ad0_20 0) ad1_20 (i_X1_init) ++ (landW G q_5 ad0_9 (i_X1_init) ++ (([(h, .inr (10, [.ref q_5, .ref q_16, .null, .null, .null, .int 0]))] : va_W))))) rfl
  refine lv_aload_n hx hb dX6_init_26 rfl (lv_at hl 0 rfl) ?_
  refine znew B hW 8 10 tyX4 rfl in_X4 tyX4_ok kl_X6_25 ki_X4 kz_X4 rfl (Nat.le_of_ble_eq_true rfl) (Nat.le_of_ble_eq_true rfl) dX6_init_27 (fun q_27 H hW => ?_)
  have hW := hW.eq (w' := outW G q_16 ad0_20 (i_X2_init) ++ (landW G (ad0_20 0) ad1_20 (i_X1_init) ++ (landW G q_5 ad0_9 (i_X1_init) ++ (([(h, .inr (10, [.ref q_5, .ref q_16, .null, .null, .null, .int 0]))] : va_W) ++ (([(q_27, .inr (8, [.null, .null, .null, .null, .null, .null, .null, .null, .int 0, .long 0]))] : va_W)))))) rfl
  refine lv_dup hx hb dX6_init_30 rfl ?_
  have hW := hW.sub (w' := ([(q_27, .inr (8, [.null, .null, .null, .null, .null, .null, .null, .null, .int 0, .long 0]))] : va_W) ++ (outW G q_16 ad0_20 (i_X2_init) ++ (landW G (ad0_20 0) ad1_20 (i_X1_init) ++ (landW G q_5 ad0_9 (i_X1_init) ++ (([(h, .inr (10, [.ref q_5, .ref q_16, .null, .null, .null, .int 0]))] : va_W)))))) [19, 0, 1, 2, 3, 4, 5, 6, 7, 8, 9, 10, 11, 12, 13, 14, 15, 16, 17, 18] rfl rfl
  refine zcIN (w1 := []) (wc := ([(q_27, .inr (8, [.null, .null, .null, .null, .null, .null, .null, .null, .int 0, .long 0]))] : va_W)) (w2 := outW G q_16 ad0_20 (i_X2_init) ++ (landW G (ad0_20 0) ad1_20 (i_X1_init) ++ (landW G q_5 ad0_9 (i_X1_init) ++ (([(h, .inr (10, [.ref q_5, .ref q_16, .null, .null, .null, .int 0]))] : va_W))))) (As := []) B (hW.eq rfl) (c_X4_init l G q_27) yd_X4_init ml_X6_27 rfl hl.1 rfl (Nat.le_of_ble_eq_true rfl) ⟨Nat.le_of_ble_eq_true rfl, Nat.le_of_ble_eq_true rfl⟩ ⟨(Nat.le_of_ble_eq_true rfl), (Nat.le_of_ble_eq_true rfl)⟩ dX6_init_31 (fun v u H locs hp hW => ?_)
  obtain ⟨ad0_31, rfl, rfl⟩ := hp
  have hW := hW.eq (w' := sensW G q_27 ad0_31 (i_X4_init) ++ (outW G q_16 ad0_20 (i_X2_init) ++ (landW G (ad0_20 0) ad1_20 (i_X1_init) ++ (landW G q_5 ad0_9 (i_X1_init) ++ (([(h, .inr (10, [.ref q_5, .ref q_16, .null, .null, .null, .int 0]))] : va_W)))))) rfl
  refine zputF B hW hnm 27 rfl lf_X6_28 ft_X6_2 (fun C T N h => by have e := Option.some.inj h; cases e; rfl) rfl rfl (Nat.le_of_ble_eq_true rfl) dX6_init_34 (fun H locs hW => ?_)
  have hW := hW.eq (w' := sensW G q_27 ad0_31 (i_X4_init) ++ (outW G q_16 ad0_20 (i_X2_init) ++ (landW G (ad0_20 0) ad1_20 (i_X1_init) ++ (landW G q_5 ad0_9 (i_X1_init) ++ (([(h, .inr (10, [.ref q_5, .ref q_16, .ref q_27, .null, .null, .int 0]))] : va_W)))))) rfl
  refine lv_aload_n hx hb dX6_init_37 rfl (lv_at hl 0 rfl) ?_
  refine znew B hW 9 10 tyX5 rfl in_X5 tyX5_ok kl_X6_32 ki_X5 kz_X5 rfl (Nat.le_of_ble_eq_true rfl) (Nat.le_of_ble_eq_true rfl) dX6_init_38 (fun q_38 H hW => ?_)
  have hW := hW.eq (w' := sensW G q_27 ad0_31 (i_X4_init) ++ (outW G q_16 ad0_20 (i_X2_init) ++ (landW G (ad0_20 0) ad1_20 (i_X1_init) ++ (landW G q_5 ad0_9 (i_X1_init) ++ (([(h, .inr (10, [.ref q_5, .ref q_16, .ref q_27, .null, .null, .int 0]))] : va_W) ++ (([(q_38, .inr (9, [.null, .null, .null, .null, .null, .int 0, .null, .null, .null, .int 0]))] : va_W))))))) rfl
  refine lv_dup hx hb dX6_init_41 rfl ?_
  have hW := hW.sub (w' := ([(q_38, .inr (9, [.null, .null, .null, .null, .null, .int 0, .null, .null, .null, .int 0]))] : va_W) ++ (sensW G q_27 ad0_31 (i_X4_init) ++ (outW G q_16 ad0_20 (i_X2_init) ++ (landW G (ad0_20 0) ad1_20 (i_X1_init) ++ (landW G q_5 ad0_9 (i_X1_init) ++ (([(h, .inr (10, [.ref q_5, .ref q_16, .ref q_27, .null, .null, .int 0]))] : va_W))))))) [28, 0, 1, 2, 3, 4, 5, 6, 7, 8, 9, 10, 11, 12, 13, 14, 15, 16, 17, 18, 19, 20, 21, 22, 23, 24, 25, 26, 27] rfl rfl
  refine zcIN (w1 := []) (wc := ([(q_38, .inr (9, [.null, .null, .null, .null, .null, .int 0, .null, .null, .null, .int 0]))] : va_W)) (w2 := sensW G q_27 ad0_31 (i_X4_init) ++ (outW G q_16 ad0_20 (i_X2_init) ++ (landW G (ad0_20 0) ad1_20 (i_X1_init) ++ (landW G q_5 ad0_9 (i_X1_init) ++ (([(h, .inr (10, [.ref q_5, .ref q_16, .ref q_27, .null, .null, .int 0]))] : va_W)))))) (As := []) B (hW.eq rfl) (c_X5_init l G q_38) yd_X5_init ml_X6_34 rfl hl.1 rfl (Nat.le_of_ble_eq_true rfl) ⟨Nat.le_of_ble_eq_true rfl, Nat.le_of_ble_eq_true rfl⟩ ⟨(Nat.le_of_ble_eq_true rfl), (Nat.le_of_ble_eq_true rfl)⟩ dX6_init_42 (fun v u H locs hp hW => ?_)
  obtain ⟨ad0_42, rfl, rfl⟩ := hp
  have hW := hW.eq (w' := subW G q_38 ad0_42 (i_X5_init) ++ (sensW G q_27 ad0_31 (i_X4_init) ++ (outW G q_16 ad0_20 (i_X2_init) ++ (landW G (ad0_20 0) ad1_20 (i_X1_init) ++ (landW G q_5 ad0_9 (i_X1_init) ++ (([(h, .inr (10, [.ref q_5, .ref q_16, .ref q_27, .null, .null, .int 0]))] : va_W))))))) rfl
  refine zputF B hW hnm 36 rfl lf_X6_35 ft_X6_3 (fun C T N h => by have e := Option.some.inj h; cases e; rfl) rfl rfl (Nat.le_of_ble_eq_true rfl) dX6_init_45 (fun H locs hW => ?_)
  have hW := hW.eq (w' := subW G q_38 ad0_42 (i_X5_init) ++ (sensW G q_27 ad0_31 (i_X4_init) ++ (outW G q_16 ad0_20 (i_X2_init) ++ (landW G (ad0_20 0) ad1_20 (i_X1_init) ++ (landW G q_5 ad0_9 (i_X1_init) ++ (([(h, .inr (10, [.ref q_5, .ref q_16, .ref q_27, .ref q_38, .null, .int 0]))] : va_W))))))) rfl
  refine lv_aload_n hx hb dX6_init_48 rfl (lv_at hl 0 rfl) ?_
  refine znew B hW 7 5 tyX3 rfl in_X3 tyX3_ok kl_X6_39 ki_X3 kz_X3 rfl (Nat.le_of_ble_eq_true rfl) (Nat.le_of_ble_eq_true rfl) dX6_init_49 (fun q_49 H hW => ?_)
  have hW := hW.eq (w' := subW G q_38 ad0_42 (i_X5_init) ++ (sensW G q_27 ad0_31 (i_X4_init) ++ (outW G q_16 ad0_20 (i_X2_init) ++ (landW G (ad0_20 0) ad1_20 (i_X1_init) ++ (landW G q_5 ad0_9 (i_X1_init) ++ (([(h, .inr (10, [.ref q_5, .ref q_16, .ref q_27, .ref q_38, .null, .int 0]))] : va_W) ++ (([(q_49, .inr (7, [.null, .null, .null, .int 0, .int 0]))] : va_W)))))))) rfl
  refine lv_dup hx hb dX6_init_52 rfl ?_
  have hW := hW.sub (w' := ([(q_49, .inr (7, [.null, .null, .null, .int 0, .int 0]))] : va_W) ++ (subW G q_38 ad0_42 (i_X5_init) ++ (sensW G q_27 ad0_31 (i_X4_init) ++ (outW G q_16 ad0_20 (i_X2_init) ++ (landW G (ad0_20 0) ad1_20 (i_X1_init) ++ (landW G q_5 ad0_9 (i_X1_init) ++ (([(h, .inr (10, [.ref q_5, .ref q_16, .ref q_27, .ref q_38, .null, .int 0]))] : va_W)))))))) [37, 0, 1, 2, 3, 4, 5, 6, 7, 8, 9, 10, 11, 12, 13, 14, 15, 16, 17, 18, 19, 20, 21, 22, 23, 24, 25, 26, 27, 28, 29, 30, 31, 32, 33, 34, 35, 36] rfl rfl
  refine zcIN (w1 := []) (wc := ([(q_49, .inr (7, [.null, .null, .null, .int 0, .int 0]))] : va_W)) (w2 := subW G q_38 ad0_42 (i_X5_init) ++ (sensW G q_27 ad0_31 (i_X4_init) ++ (outW G q_16 ad0_20 (i_X2_init) ++ (landW G (ad0_20 0) ad1_20 (i_X1_init) ++ (landW G q_5 ad0_9 (i_X1_init) ++ (([(h, .inr (10, [.ref q_5, .ref q_16, .ref q_27, .ref q_38, .null, .int 0]))] : va_W))))))) (As := []) B (hW.eq rfl) (c_X3_init l G q_49) yd_X3_init ml_X6_41 rfl hl.1 rfl (Nat.le_of_ble_eq_true rfl) ⟨Nat.le_of_ble_eq_true rfl, Nat.le_of_ble_eq_true rfl⟩ ⟨(Nat.le_of_ble_eq_true rfl), (Nat.le_of_ble_eq_true rfl)⟩ dX6_init_53 (fun v u H locs hp hW => ?_)
  obtain ⟨ad0_53, rfl, rfl⟩ := hp
  have hW := hW.eq (w' := schW G q_49 ad0_53 (i_X3_init) ++ (subW G q_38 ad0_42 (i_X5_init) ++ (sensW G q_27 ad0_31 (i_X4_init) ++ (outW G q_16 ad0_20 (i_X2_init) ++ (landW G (ad0_20 0) ad1_20 (i_X1_init) ++ (landW G q_5 ad0_9 (i_X1_init) ++ (([(h, .inr (10, [.ref q_5, .ref q_16, .ref q_27, .ref q_38, .null, .int 0]))] : va_W)))))))) rfl
  refine zputF B hW hnm 40 rfl lf_X6_42 ft_X6_4 (fun C T N h => by have e := Option.some.inj h; cases e; rfl) rfl rfl (Nat.le_of_ble_eq_true rfl) dX6_init_56 (fun H locs hW => ?_)
  have hW := hW.eq (w' := schW G q_49 ad0_53 (i_X3_init) ++ (subW G q_38 ad0_42 (i_X5_init) ++ (sensW G q_27 ad0_31 (i_X4_init) ++ (outW G q_16 ad0_20 (i_X2_init) ++ (landW G (ad0_20 0) ad1_20 (i_X1_init) ++ (landW G q_5 ad0_9 (i_X1_init) ++ (([(h, .inr (10, [.ref q_5, .ref q_16, .ref q_27, .ref q_38, .ref q_49, .int 0]))] : va_W)))))))) rfl
  refine lv_aload_n hx hb dX6_init_59 rfl (lv_at hl 0 rfl) ?_
  refine lv_iconst (v := (0 : Int32)) hx hb dX6_init_60 (by decide) ?_
  refine zput B hW 40 rfl lf_X6_46 ft_X6_5 rfl rfl (Nat.le_of_ble_eq_true rfl) dX6_init_61 (fun H locs hW => ?_)
  have hW := hW.eq (w' := schW G q_49 ad0_53 (i_X3_init) ++ (subW G q_38 ad0_42 (i_X5_init) ++ (sensW G q_27 ad0_31 (i_X4_init) ++ (outW G q_16 ad0_20 (i_X2_init) ++ (landW G (ad0_20 0) ad1_20 (i_X1_init) ++ (landW G q_5 ad0_9 (i_X1_init) ++ (([(h, .inr (10, [.ref q_5, .ref q_16, .ref q_27, .ref q_38, .ref q_49, .int (0 : Int32)]))] : va_W)))))))) rfl
  have hW := hW.sub (w' := schW G q_49 ad0_53 (i_X3_init) ++ (subW G q_38 ad0_42 (i_X5_init) ++ (sensW G q_27 ad0_31 (i_X4_init) ++ (outW G q_16 ad0_20 (i_X2_init) ++ (landW G (ad0_20 0) ad1_20 (i_X1_init) ++ (landW G q_5 ad0_9 (i_X1_init) ++ (worW G h (zads [q_5, q_16, q_27, q_38, q_49]) (0 : Int32)))))))) [0, 1, 2, 3, 4, 5, 6, 7, 8, 9, 10, 11, 12, 13, 14, 15, 16, 17, 18, 19, 20, 21, 22, 23, 24, 25, 26, 27, 28, 29, 30, 31, 32, 33, 34, 35, 36, 37, 38, 39, 40] rfl rfl
  have hW := hW.sub (w' := worW G h (zads [q_5, q_16, q_27, q_38, q_49]) (0 : Int32) ++ (landW G q_5 ad0_9 (i_X1_init) ++ (outW G q_16 ad0_20 (i_X2_init) ++ (landW G (ad0_20 0) ad1_20 (i_X1_init) ++ (sensW G q_27 ad0_31 (i_X4_init) ++ (subW G q_38 ad0_42 (i_X5_init) ++ (schW G q_49 ad0_53 (i_X3_init)))))))) [40, 32, 33, 34, 35, 36, 37, 38, 39, 22, 23, 24, 25, 26, 27, 28, 29, 30, 31, 13, 14, 15, 16, 17, 18, 19, 20, 21, 4, 5, 6, 7, 8, 9, 10, 11, 12, 0, 1, 2, 3] rfl rfl
  exact zvret B hr hlk hW ⟨(zads [q_5, q_16, q_27, q_38, q_49]), ad0_9, ad0_20, ad1_20, ad0_31, ad0_42, ad0_53, rfl, rfl⟩ (Nat.le_of_ble_eq_true rfl) (Nat.le_of_ble_eq_true rfl) dX6_init_64
