abbrev zMd : Type := Int32 × Int32 × Int64 × Int32
def mdW (G : zG) (h : Nat) (ad : Nat → Nat) (x : zMd) : va_W := [(h, .inr (16, [.int x.1, .ref (ad 0), .int x.2.1, .long x.2.2.1, .ref (ad 1), .ref (ad 2), .ref (ad 3), .ref (ad 4), .int x.2.2.2]))]
abbrev zMs : Type := Nat × (Nat → Int32) × (Nat → Int32) × (Nat → Int32) × (Nat → Int32) × (Nat → Int32) × (Nat → Int32) × (Nat → Int32)
def msWC (G : zG) (x : zMs) (i : Nat) : va_E := .inr (14, [.int (x.2.1 i), .int (x.2.2.1 i), .int (x.2.2.2.1 i), .int (x.2.2.2.2.1 i), .int (x.2.2.2.2.2.1 i), .int (x.2.2.2.2.2.2.1 i), .int (x.2.2.2.2.2.2.2 i)])
def msW (G : zG) (h : Nat) (ad : Nat → Nat) (x : zMs) : va_W := sgW x.1 ad (msWC G x)
abbrev zMb : Type := Nat × (Nat → Int32) × (Nat → Int32) × (Nat → Int32) × (Nat → Int32) × (Nat → Int32)
def mbWC (G : zG) (x : zMb) (i : Nat) : va_E := .inr (15, [.int (x.2.1 i), .int (x.2.2.1 i), .int (x.2.2.2.1 i), .int (x.2.2.2.2.1 i), .int (x.2.2.2.2.2 i)])
def mbW (G : zG) (h : Nat) (ad : Nat → Nat) (x : zMb) : va_W := sgW x.1 ad (mbWC G x)
abbrev zMo : Type := Nat × (Nat → Int32) × (Nat → Int32) × (Nat → Int32)
def moWC (G : zG) (x : zMo) (i : Nat) : va_E := .inr (13, [.int (x.2.1 i), .int (x.2.2.1 i), .int (x.2.2.2 i)])
def moW (G : zG) (h : Nat) (ad : Nat → Nat) (x : zMo) : va_W := sgW x.1 ad (moWC G x)
abbrev zMw : Type := Nat × (Nat → Int32) × (Nat → Int32) × (Nat → Int32)
def mwWC (G : zG) (x : zMw) (i : Nat) : va_E := .inl (G.2.1 0, 3, .inl (zW3 (x.2.1 i) (x.2.2.1 i) (x.2.2.2 i)))
def mwW (G : zG) (h : Nat) (ad : Nat → Nat) (x : zMw) : va_W := sgW x.1 ad (mwWC G x)
abbrev zRn : Type := Nat
abbrev zNs : Type := Int32 × Int32 × Int32 × Int32 × Int32 × Int32 × Int32
def nsW (G : zG) (h : Nat) (ad : Nat → Nat) (x : zNs) : va_W := [(h, .inr (14, [.int x.1, .int x.2.1, .int x.2.2.1, .int x.2.2.2.1, .int x.2.2.2.2.1, .int x.2.2.2.2.2.1, .int x.2.2.2.2.2.2]))]
abbrev zNb : Type := Int32 × Int32 × Int32 × Int32 × Int32
def nbW (G : zG) (h : Nat) (ad : Nat → Nat) (x : zNb) : va_W := [(h, .inr (15, [.int x.1, .int x.2.1, .int x.2.2.1, .int x.2.2.2.1, .int x.2.2.2.2]))]
abbrev zNo : Type := Int32 × Int32 × Int32
def noW (G : zG) (h : Nat) (ad : Nat → Nat) (x : zNo) : va_W := [(h, .inr (13, [.int x.1, .int x.2.1, .int x.2.2]))]
def i_X10_init (a : Int32) (b : Int32) : zNs := (a, b, (50 : Int32), (-1 : Int32), 0, 0, 0)
abbrev po_X10_init (G : zG) (h : Nat) (a : Int32) (b : Int32) : Option Value → va_W → Prop := fun r u => ∃ (ad : Nat → Nat), r = none ∧ u = nsW G h ad (i_X10_init a b)
set_option maxHeartbeats 4000000 in
set_option maxRecDepth 100000 in
theorem c_X10_init (l : Launch) (G : zG) (h : Nat) (a : Int32) (b : Int32) : zC l yX10_init cX10_init 3 none 1 0 0 G [.ref h, .int a, .int b] (([(h, .inr (14, [.int 0, .int 0, .int 0, .int 0, .int 0, .int 0, .int 0]))] : va_W)) (po_X10_init G h a b) := by
  refine zC.of RX10 rfl (by decide) (Nat.le_of_ble_eq_true rfl) ?_
  intro p e s m args below meth c A ls B hr hlk hnm hW hl
  have hx := B.x
  have hb := B.b
  have hl : lv_has ls 3 [(0, .ref h), (1, .int a), (2, .int b)] := hl
  refine lv_aload_n hx hb dX10_init_0 rfl (lv_at hl 0 rfl) ?_
  refine zobj B hl.1 ml_X10_1 (Nat.le_of_ble_eq_true rfl) (Nat.le_of_ble_eq_true rfl) dX10_init_1 ?_
  refine lv_aload_n hx hb dX10_init_4 rfl (lv_at hl 0 rfl) ?_
  refine lv_bipush (v := (50 : Int32)) hx hb dX10_init_5 (by decide) ?_
  refine zput B hW 0 rfl lf_X10_7 ft_X10_2 rfl rfl (Nat.le_of_ble_eq_true rfl) dX10_init_7 (fun H locs hW => ?_)
  have hW := hW.eq (w' := ([(h, .inr (14, [.int 0, .int 0, .int (50 : Int32), .int 0, .int 0, .int 0, .int 0]))] : va_W)) rfl
  refine lv_aload_n hx hb dX10_init_10 rfl (lv_at hl 0 rfl) ?_
  refine lv_iconst (v := (-1 : Int32)) hx hb dX10_init_11 (by decide) ?_
  refine zput B hW 0 rfl lf_X10_13 ft_X10_3 rfl rfl (Nat.le_of_ble_eq_true rfl) dX10_init_12 (fun H locs hW => ?_)
  have hW := hW.eq (w' := ([(h, .inr (14, [.int 0, .int 0, .int (50 : Int32), .int (-1 : Int32), .int 0, .int 0, .int 0]))] : va_W)) rfl
  refine lv_aload_n hx hb dX10_init_15 rfl (lv_at hl 0 rfl) ?_
  refine lv_iload_n hx hb dX10_init_16 rfl (lv_at hl 1 rfl) ?_
  refine zputF B hW hnm 0 rfl lf_X10_16 ft_X10_0 (fun C T N h => by have e := Option.some.inj h; cases e; rfl) rfl rfl (Nat.le_of_ble_eq_true rfl) dX10_init_17 (fun H locs hW => ?_)
  have hW := hW.eq (w' := ([(h, .inr (14, [.int a, .int 0, .int (50 : Int32), .int (-1 : Int32), .int 0, .int 0, .int 0]))] : va_W)) rfl
  refine lv_aload_n hx hb dX10_init_20 rfl (lv_at hl 0 rfl) ?_
  refine lv_iload_n hx hb dX10_init_21 rfl (lv_at hl 2 rfl) ?_
  refine zputF B hW hnm 0 rfl lf_X10_19 ft_X10_1 (fun C T N h => by have e := Option.some.inj h; cases e; rfl) rfl rfl (Nat.le_of_ble_eq_true rfl) dX10_init_22 (fun H locs hW => ?_)
  have hW := hW.eq (w' := ([(h, .inr (14, [.int a, .int b, .int (50 : Int32), .int (-1 : Int32), .int 0, .int 0, .int 0]))] : va_W)) rfl
  have hW := hW.sub (w' := nsW G h (zads []) (a, b, (50 : Int32), (-1 : Int32), 0, 0, 0)) [0] rfl rfl
  exact zvret B hr hlk hW ⟨(zads []), rfl, rfl⟩ (Nat.le_of_ble_eq_true rfl) (Nat.le_of_ble_eq_true rfl) dX10_init_25
def i_X11_init (a : Int32) (b : Int32) (f : Int32) (g : Int32) : zNb := (a, b, f, g, 0)
abbrev po_X11_init (G : zG) (h : Nat) (a : Int32) (b : Int32) (f : Int32) (g : Int32) : Option Value → va_W → Prop := fun r u => ∃ (ad : Nat → Nat), r = none ∧ u = nbW G h ad (i_X11_init a b f g)
set_option maxHeartbeats 4000000 in
set_option maxRecDepth 100000 in
theorem c_X11_init (l : Launch) (G : zG) (h : Nat) (a : Int32) (b : Int32) (f : Int32) (g : Int32) : zC l yX11_init cX11_init 5 none 1 0 0 G [.ref h, .int a, .int b, .int f, .int g] (([(h, .inr (15, [.int 0, .int 0, .int 0, .int 0, .int 0]))] : va_W)) (po_X11_init G h a b f g) := by
  refine zC.of RX11 rfl (by decide) (Nat.le_of_ble_eq_true rfl) ?_
  intro p e s m args below meth c A ls B hr hlk hnm hW hl
  have hx := B.x
  have hb := B.b
  have hl : lv_has ls 5 [(0, .ref h), (1, .int a), (2, .int b), (3, .int f), (4, .int g)] := hl
  refine lv_aload_n hx hb dX11_init_0 rfl (lv_at hl 0 rfl) ?_
  refine zobj B hl.1 ml_X11_1 (Nat.le_of_ble_eq_true rfl) (Nat.le_of_ble_eq_true rfl) dX11_init_1 ?_
  refine lv_aload_n hx hb dX11_init_4 rfl (lv_at hl 0 rfl) ?_
  refine lv_iload_n hx hb dX11_init_5 rfl (lv_at hl 1 rfl) ?_
  refine zputF B hW hnm 0 rfl lf_X11_7 ft_X11_0 (fun C T N h => by have e := Option.some.inj h; cases e; rfl) rfl rfl (Nat.le_of_ble_eq_true rfl) dX11_init_6 (fun H locs hW => ?_)
  have hW := hW.eq (w' := ([(h, .inr (15, [.int a, .int 0, .int 0, .int 0, .int 0]))] : va_W)) rfl
  refine lv_aload_n hx hb dX11_init_9 rfl (lv_at hl 0 rfl) ?_
  refine lv_iload_n hx hb dX11_init_10 rfl (lv_at hl 2 rfl) ?_
  refine zputF B hW hnm 0 rfl lf_X11_13 ft_X11_1 (fun C T N h => by have e := Option.some.inj h; cases e; rfl) rfl rfl (Nat.le_of_ble_eq_true rfl) dX11_init_11 (fun H locs hW => ?_)
  have hW := hW.eq (w' := ([(h, .inr (15, [.int a, .int b, .int 0, .int 0, .int 0]))] : va_W)) rfl
  refine lv_aload_n hx hb dX11_init_14 rfl (lv_at hl 0 rfl) ?_
  refine lv_iload_n hx hb dX11_init_15 rfl (lv_at hl 3 rfl) ?_
  refine zputF B hW hnm 0 rfl lf_X11_16 ft_X11_2 (fun C T N h => by have e := Option.some.inj h; cases e; rfl) rfl rfl (Nat.le_of_ble_eq_true rfl) dX11_init_16 (fun H locs hW => ?_)
  have hW := hW.eq (w' := ([(h, .inr (15, [.int a, .int b, .int f, .int 0, .int 0]))] : va_W)) rfl
  refine lv_aload_n hx hb dX11_init_19 rfl (lv_at hl 0 rfl) ?_
  refine lv_iload hx hb dX11_init_20 (lv_at hl 4 rfl) ?_
  refine zputF B hW hnm 0 rfl lf_X11_19 ft_X11_3 (fun C T N h => by have e := Option.some.inj h; cases e; rfl) rfl rfl (Nat.le_of_ble_eq_true rfl) dX11_init_22 (fun H locs hW => ?_)
  have hW := hW.eq (w' := ([(h, .inr (15, [.int a, .int b, .int f, .int g, .int 0]))] : va_W)) rfl
  have hW := hW.sub (w' := nbW G h (zads []) (a, b, f, g, 0)) [0] rfl rfl
  exact zvret B hr hlk hW ⟨(zads []), rfl, rfl⟩ (Nat.le_of_ble_eq_true rfl) (Nat.le_of_ble_eq_true rfl) dX11_init_25
def i_X9_init (a : Int32) (b : Int32) : zNo := (a, b, 0)
abbrev po_X9_init (G : zG) (h : Nat) (a : Int32) (b : Int32) : Option Value → va_W → Prop := fun r u => ∃ (ad : Nat → Nat), r = none ∧ u = noW G h ad (i_X9_init a b)
set_option maxHeartbeats 4000000 in
set_option maxRecDepth 100000 in
theorem c_X9_init (l : Launch) (G : zG) (h : Nat) (a : Int32) (b : Int32) : zC l yX9_init cX9_init 3 none 1 0 0 G [.ref h, .int a, .int b] (([(h, .inr (13, [.int 0, .int 0, .int 0]))] : va_W)) (po_X9_init G h a b) := by
  refine zC.of RX9 rfl (by decide) (Nat.le_of_ble_eq_true rfl) ?_
  intro p e s m args below meth c A ls B hr hlk hnm hW hl
  have hx := B.x
  have hb := B.b
  have hl : lv_has ls 3 [(0, .ref h), (1, .int a), (2, .int b)] := hl
  refine lv_aload_n hx hb dX9_init_0 rfl (lv_at hl 0 rfl) ?_
  refine zobj B hl.1 ml_X9_1 (Nat.le_of_ble_eq_true rfl) (Nat.le_of_ble_eq_true rfl) dX9_init_1 ?_
  refine lv_aload_n hx hb dX9_init_4 rfl (lv_at hl 0 rfl) ?_
  refine lv_iload_n hx hb dX9_init_5 rfl (lv_at hl 1 rfl) ?_
  refine zputF B hW hnm 0 rfl lf_X9_7 ft_X9_0 (fun C T N h => by have e := Option.some.inj h; cases e; rfl) rfl rfl (Nat.le_of_ble_eq_true rfl) dX9_init_6 (fun H locs hW => ?_)
  have hW := hW.eq (w' := ([(h, .inr (13, [.int a, .int 0, .int 0]))] : va_W)) rfl
  refine lv_aload_n hx hb dX9_init_9 rfl (lv_at hl 0 rfl) ?_
  refine lv_iload_n hx hb dX9_init_10 rfl (lv_at hl 2 rfl) ?_
  refine zputF B hW hnm 0 rfl lf_X9_13 ft_X9_1 (fun C T N h => by have e := Option.some.inj h; cases e; rfl) rfl rfl (Nat.le_of_ble_eq_true rfl) dX9_init_11 (fun H locs hW => ?_)
  have hW := hW.eq (w' := ([(h, .inr (13, [.int a, .int b, .int 0]))] : va_W)) rfl
  have hW := hW.sub (w' := noW G h (zads []) (a, b, 0)) [0] rfl rfl
  exact zvret B hr hlk hW ⟨(zads []), rfl, rfl⟩ (Nat.le_of_ble_eq_true rfl) (Nat.le_of_ble_eq_true rfl) dX9_init_14
def i_X12_init : zMd := (0, 0, 0, 0)
abbrev po_X12_init (G : zG) (h : Nat) : Option Value → va_W → Prop := fun r u => ∃ (ad adm ad1 ad2 ad3 ad4 : Nat → Nat), r = none ∧ u = mdW G h ad (i_X12_init) ++ (mlW G (ad 0) adm (i_X8_init) ++ (alW G (ad 1) ad1 (i_Jx4a65c_init G) ++ (alW G (ad 2) ad2 (i_Jx4a65c_init G) ++ (alW G (ad 3) ad3 (i_Jx4a65c_init G) ++ (alW G (ad 4) ad4 (i_Jx4a65c_init G))))))
set_option maxHeartbeats 4000000 in
set_option maxRecDepth 100000 in
theorem c_X12_init (l : Launch) (G : zG) (h : Nat) : zC l yX12_init cX12_init 1 none 4 11 223 G [.ref h] (([(h, .inr (16, [.int 0, .null, .int 0, .long 0, .null, .null, .null, .null, .int 0]))] : va_W)) (po_X12_init G h) := by
  refine zC.of RX12 rfl (by decide) (Nat.le_of_ble_eq_true rfl) ?_
  intro p e s m args below meth c A ls B hr hlk hnm hW hl
  have hx := B.x
  have hb := B.b
  have hl : lv_has ls 1 [(0, .ref h)] := hl
  refine lv_aload_n hx hb dX12_init_0 rfl (lv_at hl 0 rfl) ?_
  refine zobj B hl.1 ml_X12_1 (Nat.le_of_ble_eq_true rfl) (Nat.le_of_ble_eq_true rfl) dX12_init_1 ?_
  refine lv_aload_n hx hb dX12_init_4 rfl (lv_at hl 0 rfl) ?_
  refine znew B hW 12 13 tyX8 rfl in_X8 tyX8_ok kl_X12_7 ki_X8 kz_X8 rfl (Nat.le_of_ble_eq_true rfl) (Nat.le_of_ble_eq_true rfl) dX12_init_5 (fun q_5 H hW => ?_)
  have hW := hW.eq (w' := ([(h, .inr (16, [.int 0, .null, .int 0, .long 0, .null, .null, .null, .null, .int 0]))] : va_W) ++ (([(q_5, .inr (12, [.null, .null, .null, .null, .null, .null, .int 0, .int 0, .int 0, .int 0, .long 0, .long 0, .long 0]))] : va_W))) rfl
  refine lv_dup hx hb dX12_init_8 rfl ?_
  have hW := hW.sub (w' := ([(q_5, .inr (12, [.null, .null, .null, .null, .null, .null, .int 0, .int 0, .int 0, .int 0, .long 0, .long 0, .long 0]))] : va_W) ++ (([(h, .inr (16, [.int 0, .null, .int 0, .long 0, .null, .null, .null, .null, .int 0]))] : va_W))) [1, 0] rfl rfl
  refine zcI (w1 := []) (wc := ([(q_5, .inr (12, [.null, .null, .null, .null, .null, .null, .int 0, .int 0, .int 0, .int 0, .long 0, .long 0, .long 0]))] : va_W)) (w2 := ([(h, .inr (16, [.int 0, .null, .int 0, .long 0, .null, .null, .null, .null, .int 0]))] : va_W)) (As := []) B (hW.eq rfl) (c_X8_init l G q_5) yd_X8_init ml_X12_9 rfl hl.1 rfl (Nat.le_of_ble_eq_true rfl) ⟨Nat.le_of_ble_eq_true rfl, Nat.le_of_ble_eq_true rfl⟩ ⟨(Nat.le_of_ble_eq_true rfl), (Nat.le_of_ble_eq_true rfl)⟩ dX12_init_9 (fun v u H locs hp hW => ?_)
  obtain ⟨ad0_9, rfl, rfl⟩ := hp
  have hW := hW.eq (w' := mlW G q_5 ad0_9 (i_X8_init) ++ (([(h, .inr (16, [.int 0, .null, .int 0, .long 0, .null, .null, .null, .null, .int 0]))] : va_W))) rfl
  refine zputF B hW hnm 7 rfl lf_X12_10 ft_X12_1 (fun C T N h => by have e := Option.some.inj h; cases e; rfl) rfl rfl (Nat.le_of_ble_eq_true rfl) dX12_init_12 (fun H locs hW => ?_)
  have hW := hW.eq (w' := mlW G q_5 ad0_9 (i_X8_init) ++ (([(h, .inr (16, [.int 0, .ref q_5, .int 0, .long 0, .null, .null, .null, .null, .int 0]))] : va_W))) rfl
  refine lv_aload_n hx hb dX12_init_15 rfl (lv_at hl 0 rfl) ?_
  refine znew B hW 3 3 tyJx4a65c rfl in_Jx4a65c tyJx4a65c_ok kl_X12_16 ki_Jx4a65c kz_Jx4a65c rfl (Nat.le_of_ble_eq_true rfl) (Nat.le_of_ble_eq_true rfl) dX12_init_16 (fun q_16 H hW => ?_)
  have hW := hW.eq (w' := mlW G q_5 ad0_9 (i_X8_init) ++ (([(h, .inr (16, [.int 0, .ref q_5, .int 0, .long 0, .null, .null, .null, .null, .int 0]))] : va_W) ++ (([(q_16, .inr (3, [.int 0, .null, .int 0]))] : va_W)))) rfl
  refine lv_dup hx hb dX12_init_19 rfl ?_
  have hW := hW.sub (w' := ([(q_16, .inr (3, [.int 0, .null, .int 0]))] : va_W) ++ (mlW G q_5 ad0_9 (i_X8_init) ++ (([(h, .inr (16, [.int 0, .ref q_5, .int 0, .long 0, .null, .null, .null, .null, .int 0]))] : va_W)))) [8, 0, 1, 2, 3, 4, 5, 6, 7] rfl rfl
  refine zcI (w1 := []) (wc := ([(q_16, .inr (3, [.int 0, .null, .int 0]))] : va_W)) (w2 := mlW G q_5 ad0_9 (i_X8_init) ++ (([(h, .inr (16, [.int 0, .ref q_5, .int 0, .long 0, .null, .null, .null, .null, .int 0]))] : va_W))) (As := []) B (hW.eq rfl) (c_Jx4a65c_init_da8c8 l G q_16) yd_Jx4a65c_init_da8c8 ml_X12_18 rfl hl.1 rfl (Nat.le_of_ble_eq_true rfl) ⟨Nat.le_of_ble_eq_true rfl, Nat.le_of_ble_eq_true rfl⟩ ⟨(Nat.le_of_ble_eq_true rfl), (Nat.le_of_ble_eq_true rfl)⟩ dX12_init_20 (fun v u H locs hp hW => ?_)
  obtain ⟨ad0_20, rfl, rfl⟩ := hp
  have hW := hW.eq (w' := alW G q_16 ad0_20 (i_Jx4a65c_init G) ++ (mlW G q_5 ad0_9 (i_X8_init) ++ (([(h, .inr (16, [.int 0, .ref q_5, .int 0, .long 0, .null, .null, .null, .null, .int 0]))] : va_W)))) rfl
  refine zputF B hW hnm 8 rfl lf_X12_19 ft_X12_4 (fun C T N h => by have e := Option.some.inj h; cases e; rfl) rfl rfl (Nat.le_of_ble_eq_true rfl) dX12_init_23 (fun H locs hW => ?_)
  have hW := hW.eq (w' := alW G q_16 ad0_20 (i_Jx4a65c_init G) ++ (mlW G q_5 ad0_9 (i_X8_init) ++ (([(h, .inr (16, [.int 0, .ref q_5, .int 0, .long 0, .ref q_16, .null, .null, .null, .int 0]))] : va_W)))) rfl
  refine lv_aload_n hx hb dX12_init_26 rfl (lv_at hl 0 rfl) ?_
  refine znew B hW 3 3 tyJx4a65c rfl in_Jx4a65c tyJx4a65c_ok kl_X12_16 ki_Jx4a65c kz_Jx4a65c rfl (Nat.le_of_ble_eq_true rfl) (Nat.le_of_ble_eq_true rfl) dX12_init_27 (fun q_27 H hW => ?_)
  have hW := hW.eq (w' := alW G q_16 ad0_20 (i_Jx4a65c_init G) ++ (mlW G q_5 ad0_9 (i_X8_init) ++ (([(h, .inr (16, [.int 0, .ref q_5, .int 0, .long 0, .ref q_16, .null, .null, .null, .int 0]))] : va_W) ++ (([(q_27, .inr (3, [.int 0, .null, .int 0]))] : va_W))))) rfl
  refine lv_dup hx hb dX12_init_30 rfl ?_
  have hW := hW.sub (w' := ([(q_27, .inr (3, [.int 0, .null, .int 0]))] : va_W) ++ (alW G q_16 ad0_20 (i_Jx4a65c_init G) ++ (mlW G q_5 ad0_9 (i_X8_init) ++ (([(h, .inr (16, [.int 0, .ref q_5, .int 0, .long 0, .ref q_16, .null, .null, .null, .int 0]))] : va_W))))) [9, 0, 1, 2, 3, 4, 5, 6, 7, 8] rfl rfl
  refine zcI (w1 := []) (wc := ([(q_27, .inr (3, [.int 0, .null, .int 0]))] : va_W)) (w2 := alW G q_16 ad0_20 (i_Jx4a65c_init G) ++ (mlW G q_5 ad0_9 (i_X8_init) ++ (([(h, .inr (16, [.int 0, .ref q_5, .int 0, .long 0, .ref q_16, .null, .null, .null, .int 0]))] : va_W)))) (As := []) B (hW.eq rfl) (c_Jx4a65c_init_da8c8 l G q_27) yd_Jx4a65c_init_da8c8 ml_X12_18 rfl hl.1 rfl (Nat.le_of_ble_eq_true rfl) ⟨Nat.le_of_ble_eq_true rfl, Nat.le_of_ble_eq_true rfl⟩ ⟨(Nat.le_of_ble_eq_true rfl), (Nat.le_of_ble_eq_true rfl)⟩ dX12_init_31 (fun v u H locs hp hW => ?_)
  obtain ⟨ad0_31, rfl, rfl⟩ := hp
  have hW := hW.eq (w' := alW G q_27 ad0_31 (i_Jx4a65c_init G) ++ (alW G q_16 ad0_20 (i_Jx4a65c_init G) ++ (mlW G q_5 ad0_9 (i_X8_init) ++ (([(h, .inr (16, [.int 0, .ref q_5, .int 0, .long 0, .ref q_16, .null, .null, .null, .int 0]))] : va_W))))) rfl
  refine zputF B hW hnm 9 rfl lf_X12_23 ft_X12_5 (fun C T N h => by have e := Option.some.inj h; cases e; rfl) rfl rfl (Nat.le_of_ble_eq_true rfl) dX12_init_34 (fun H locs hW => ?_)
  have hW := hW.eq (w' := alW G q_27 ad0_31 (i_Jx4a65c_init G) ++ (alW G q_16 ad0_20 (i_Jx4a65c_init G) ++ (mlW G q_5 ad0_9 (i_X8_init) ++ (([(h, .inr (16, [.int 0, .ref q_5, .int 0, .long 0, .ref q_16, .ref q_27, .null, .null, .int 0]))] : va_W))))) rfl
  refine lv_aload_n hx hb dX12_init_37 rfl (lv_at hl 0 rfl) ?_
  refine znew B hW 3 3 tyJx4a65c rfl in_Jx4a65c tyJx4a65c_ok kl_X12_16 ki_Jx4a65c kz_Jx4a65c rfl (Nat.le_of_ble_eq_true rfl) (Nat.le_of_ble_eq_true rfl) dX12_init_38 (fun q_38 H hW => ?_)
  have hW := hW.eq (w' := alW G q_27 ad0_31 (i_Jx4a65c_init G) ++ (alW G q_16 ad0_20 (i_Jx4a65c_init G) ++ (mlW G q_5 ad0_9 (i_X8_init) ++ (([(h, .inr (16, [.int 0, .ref q_5, .int 0, .long 0, .ref q_16, .ref q_27, .null, .null, .int 0]))] : va_W) ++ (([(q_38, .inr (3, [.int 0, .null, .int 0]))] : va_W)))))) rfl
  refine lv_dup hx hb dX12_init_41 rfl ?_
  have hW := hW.sub (w' := ([(q_38, .inr (3, [.int 0, .null, .int 0]))] : va_W) ++ (alW G q_27 ad0_31 (i_Jx4a65c_init G) ++ (alW G q_16 ad0_20 (i_Jx4a65c_init G) ++ (mlW G q_5 ad0_9 (i_X8_init) ++ (([(h, .inr (16, [.int 0, .ref q_5, .int 0, .long 0, .ref q_16, .ref q_27, .null, .null, .int 0]))] : va_W)))))) [10, 0, 1, 2, 3, 4, 5, 6, 7, 8, 9] rfl rfl
  refine zcI (w1 := []) (wc := ([(q_38, .inr (3, [.int 0, .null, .int 0]))] : va_W)) (w2 := alW G q_27 ad0_31 (i_Jx4a65c_init G) ++ (alW G q_16 ad0_20 (i_Jx4a65c_init G) ++ (mlW G q_5 ad0_9 (i_X8_init) ++ (([(h, .inr (16, [.int 0, .ref q_5, .int 0, .long 0, .ref q_16, .ref q_27, .null, .null, .int 0]))] : va_W))))) (As := []) B (hW.eq rfl) (c_Jx4a65c_init_da8c8 l G q_38) yd_Jx4a65c_init_da8c8 ml_X12_18 rfl hl.1 rfl (Nat.le_of_ble_eq_true rfl) ⟨Nat.le_of_ble_eq_true rfl, Nat.le_of_ble_eq_true rfl⟩ ⟨(Nat.le_of_ble_eq_true rfl), (Nat.le_of_ble_eq_true rfl)⟩ dX12_init_42 (fun v u H locs hp hW => ?_)
  obtain ⟨ad0_42, rfl, rfl⟩ := hp
  have hW := hW.eq (w' := alW G q_38 ad0_42 (i_Jx4a65c_init G) ++ (alW G q_27 ad0_31 (i_Jx4a65c_init G) ++ (alW G q_16 ad0_20 (i_Jx4a65c_init G) ++ (mlW G q_5 ad0_9 (i_X8_init) ++ (([(h, .inr (16, [.int 0, .ref q_5, .int 0, .long 0, .ref q_16, .ref q_27, .null, .null, .int 0]))] : va_W)))))) rfl
  refine zputF B hW hnm 10 rfl lf_X12_26 ft_X12_6 (fun C T N h => by have e := Option.some.inj h; cases e; rfl) rfl rfl (Nat.le_of_ble_eq_true rfl) dX12_init_45 (fun H locs hW => ?_)
  have hW := hW.eq (w' := alW G q_38 ad0_42 (i_Jx4a65c_init G) ++ (alW G q_27 ad0_31 (i_Jx4a65c_init G) ++ (alW G q_16 ad0_20 (i_Jx4a65c_init G) ++ (mlW G q_5 ad0_9 (i_X8_init) ++ (([(h, .inr (16, [.int 0, .ref q_5, .int 0, .long 0, .ref q_16, .ref q_27, .ref q_38, .null, .int 0]))] : va_W)))))) rfl
  refine lv_aload_n hx hb dX12_init_48 rfl (lv_at hl 0 rfl) ?_
  refine znew B hW 3 3 tyJx4a65c rfl in_Jx4a65c tyJx4a65c_ok kl_X12_16 ki_Jx4a65c kz_Jx4a65c rfl (Nat.le_of_ble_eq_true rfl) (Nat.le_of_ble_eq_true rfl) dX12_init_49 (fun q_49 H hW => ?_)
  have hW := hW.eq (w' := alW G q_38 ad0_42 (i_Jx4a65c_init G) ++ (alW G q_27 ad0_31 (i_Jx4a65c_init G) ++ (alW G q_16 ad0_20 (i_Jx4a65c_init G) ++ (mlW G q_5 ad0_9 (i_X8_init) ++ (([(h, .inr (16, [.int 0, .ref q_5, .int 0, .long 0, .ref q_16, .ref q_27, .ref q_38, .null, .int 0]))] : va_W) ++ (([(q_49, .inr (3, [.int 0, .null, .int 0]))] : va_W))))))) rfl
  refine lv_dup hx hb dX12_init_52 rfl ?_
  have hW := hW.sub (w' := ([(q_49, .inr (3, [.int 0, .null, .int 0]))] : va_W) ++ (alW G q_38 ad0_42 (i_Jx4a65c_init G) ++ (alW G q_27 ad0_31 (i_Jx4a65c_init G) ++ (alW G q_16 ad0_20 (i_Jx4a65c_init G) ++ (mlW G q_5 ad0_9 (i_X8_init) ++ (([(h, .inr (16, [.int 0, .ref q_5, .int 0, .long 0, .ref q_16, .ref q_27, .ref q_38, .null, .int 0]))] : va_W))))))) [11, 0, 1, 2, 3, 4, 5, 6, 7, 8, 9, 10] rfl rfl
  refine zcI (w1 := []) (wc := ([(q_49, .inr (3, [.int 0, .null, .int 0]))] : va_W)) (w2 := alW G q_38 ad0_42 (i_Jx4a65c_init G) ++ (alW G q_27 ad0_31 (i_Jx4a65c_init G) ++ (alW G q_16 ad0_20 (i_Jx4a65c_init G) ++ (mlW G q_5 ad0_9 (i_X8_init) ++ (([(h, .inr (16, [.int 0, .ref q_5, .int 0, .long 0, .ref q_16, .ref q_27, .ref q_38, .null, .int 0]))] : va_W)))))) (As := []) B (hW.eq rfl) (c_Jx4a65c_init_da8c8 l G q_49) yd_Jx4a65c_init_da8c8 ml_X12_18 rfl hl.1 rfl (Nat.le_of_ble_eq_true rfl) ⟨Nat.le_of_ble_eq_true rfl, Nat.le_of_ble_eq_true rfl⟩ ⟨(Nat.le_of_ble_eq_true rfl), (Nat.le_of_ble_eq_true rfl)⟩ dX12_init_53 (fun v u H locs hp hW => ?_)
  obtain ⟨ad0_53, rfl, rfl⟩ := hp
  have hW := hW.eq (w' := alW G q_49 ad0_53 (i_Jx4a65c_init G) ++ (alW G q_38 ad0_42 (i_Jx4a65c_init G) ++ (alW G q_27 ad0_31 (i_Jx4a65c_init G) ++ (alW G q_16 ad0_20 (i_Jx4a65c_init G) ++ (mlW G q_5 ad0_9 (i_X8_init) ++ (([(h, .inr (16, [.int 0, .ref q_5, .int 0, .long 0, .ref q_16, .ref q_27, .ref q_38, .null, .int 0]))] : va_W))))))) rfl
  refine zputF B hW hnm 11 rfl lf_X12_29 ft_X12_7 (fun C T N h => by have e := Option.some.inj h; cases e; rfl) rfl rfl (Nat.le_of_ble_eq_true rfl) dX12_init_56 (fun H locs hW => ?_)
  have hW := hW.eq (w' := alW G q_49 ad0_53 (i_Jx4a65c_init G) ++ (alW G q_38 ad0_42 (i_Jx4a65c_init G) ++ (alW G q_27 ad0_31 (i_Jx4a65c_init G) ++ (alW G q_16 ad0_20 (i_Jx4a65c_init G) ++ (mlW G q_5 ad0_9 (i_X8_init) ++ (([(h, .inr (16, [.int 0, .ref q_5, .int 0, .long 0, .ref q_16, .ref q_27, .ref q_38, .ref q_49, .int 0]))] : va_W))))))) rfl
  have hW := hW.sub (w' := alW G q_49 ad0_53 (i_Jx4a65c_init G) ++ (alW G q_38 ad0_42 (i_Jx4a65c_init G) ++ (alW G q_27 ad0_31 (i_Jx4a65c_init G) ++ (alW G q_16 ad0_20 (i_Jx4a65c_init G) ++ (mlW G q_5 ad0_9 (i_X8_init) ++ (mdW G h (zads [q_5, q_16, q_27, q_38, q_49]) (0, 0, 0, 0))))))) [0, 1, 2, 3, 4, 5, 6, 7, 8, 9, 10, 11] rfl rfl
  have hW := hW.sub (w' := mdW G h (zads [q_5, q_16, q_27, q_38, q_49]) (0, 0, 0, 0) ++ (mlW G q_5 ad0_9 (i_X8_init) ++ (alW G q_16 ad0_20 (i_Jx4a65c_init G) ++ (alW G q_27 ad0_31 (i_Jx4a65c_init G) ++ (alW G q_38 ad0_42 (i_Jx4a65c_init G) ++ (alW G q_49 ad0_53 (i_Jx4a65c_init G))))))) [11, 4, 5, 6, 7, 8, 9, 10, 3, 2, 1, 0] rfl rfl
  exact zvret B hr hlk hW ⟨(zads [q_5, q_16, q_27, q_38, q_49]), ad0_9, ad0_20, ad0_31, ad0_42, ad0_53, rfl, rfl⟩ (Nat.le_of_ble_eq_true rfl) (Nat.le_of_ble_eq_true rfl) dX12_init_59
