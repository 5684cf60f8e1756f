set_option maxHeartbeats 4000000 in
set_option maxRecDepth 100000 in
/-- the first row of a list: ten places -/
theorem c_Jx4a65c_grow_92f84_0 (l : Launch) (G : zG) (h : Nat) (k z : Int32) : zC l yJx4a65c_grow_92f84 cJx4a65c_grow_92f84 4 (some (.array (.object "java/lang/Object"))) 1 1 10 G [.ref h, .int 1] [(h, .inr (3, [.int k, .ref G.2.2, .int z]))] (fun r u => ∃ q : Nat, r = some (.ref q) ∧ u = [(h, .inr (3, [.int k, .ref q, .int z])), (q, .inl (G.2.1 3, 10, .inr (.inr (.inr (.inr (fun _ => none))))))]) := by
  refine zC.of RJx4a65c rfl (by decide) (Nat.le_of_ble_eq_true rfl) ?_
  intro p e s m args below meth c A ls B hr hlk hnm hW hl
  have hx := B.x
  have hb := B.b
  have hl : lv_has ls 4 [(0, .ref h), (1, .int 1)] := hl
  refine lv_aload_n hx hb dJx4a65c_grow_92f84_0 rfl (lv_at hl 0 rfl) ?_
  refine zget B hW 0 rfl lf_Jx4a65c_9 rfl dJx4a65c_grow_92f84_1 ?_
  refine zlenD B hW dJx4a65c_grow_92f84_4 ?_
  refine lv_istore_n hx hb dJx4a65c_grow_92f84_5 rfl hl (by decide) rfl (fun ls hl => ?_)
  refine lv_iload_n hx hb dJx4a65c_grow_92f84_6 rfl (lv_at hl 0 rfl) ?_
  refine lv_if_gt (tgt := 20) hx hb dJx4a65c_grow_92f84_7 (by decide) (fun c_7 => absurd c_7 (by decide)) (fun c_7 => ?_)
  refine lv_aload_n hx hb dJx4a65c_grow_92f84_10 rfl (lv_at hl 1 rfl) ?_
  refine zget B hW 0 rfl lf_Jx4a65c_9 rfl dJx4a65c_grow_92f84_11 ?_
  refine zgetD B hW lg_Jx4a65c_39 dJx4a65c_grow_92f84_14 ?_
  refine lv_acmp_eq (rx := some G.2.2) (ry := some G.2.2) (tgt := 45) hx hb dJx4a65c_grow_92f84_17 (by decide) (fun c_17 => ?_) (fun c_17 => absurd rfl c_17)
  refine lv_aload_n hx hb dJx4a65c_grow_92f84_45 rfl (lv_at hl 1 rfl) ?_
  refine lv_bipush (v := (10 : Int32)) hx hb dJx4a65c_grow_92f84_46 (by decide) ?_
  refine lv_iload_n hx hb dJx4a65c_grow_92f84_48 rfl (lv_at hl 2 rfl) ?_
  refine va_mmax hx hb (B.ml.trans hl.1.symm) B.o (B.ts _ ml_Jx4a65c_79) (B.ts _ km_max_s) (B.ts _ km_i) (B.ts _ km_max_c) (Nat.le_of_ble_eq_true rfl) (Nat.le_of_ble_eq_true rfl) (Nat.le_of_ble_eq_true rfl) (Nat.le_of_ble_eq_true rfl) dJx4a65c_grow_92f84_49 ?_
  refine znewo B hW 10 (by decide) (Nat.le_of_ble_eq_true rfl) kl_Jx4a65c_7 (Nat.le_of_ble_eq_true rfl) (Nat.le_of_ble_eq_true rfl) dJx4a65c_grow_92f84_52 (fun q H hW => ?_)
  refine lv_dup_x1 hx hb dJx4a65c_grow_92f84_55 rfl rfl ?_
  refine zput B hW 0 rfl lf_Jx4a65c_9 ft_Jx4a65c_1 rfl rfl (Nat.le_of_ble_eq_true rfl) dJx4a65c_grow_92f84_56 (fun H locs hW => ?_)
  exact zaret B hr hlk (Or.inr ⟨_, rfl⟩) (Or.inr ⟨_, rfl⟩) (hW.eq rfl) ⟨q, rfl, rfl⟩ (Nat.le_of_ble_eq_true rfl) (Nat.le_of_ble_eq_true rfl) dJx4a65c_grow_92f84_59
set_option maxHeartbeats 4000000 in
set_option maxRecDepth 100000 in
theorem c_Jx4a65c_grow_d5877_0 (l : Launch) (G : zG) (h : Nat) (k : Int32) : zC l yJx4a65c_grow_d5877 cJx4a65c_grow_d5877 1 (some (.array (.object "java/lang/Object"))) 2 1 10 G [.ref h] [(h, .inr (3, [.int k, .ref G.2.2, .int 0]))] (fun r u => ∃ q : Nat, r = some (.ref q) ∧ u = [(h, .inr (3, [.int k, .ref q, .int 0])), (q, .inl (G.2.1 3, 10, .inr (.inr (.inr (.inr (fun _ => none))))))]) := by
  refine zC.of RJx4a65c rfl (by decide) (Nat.le_of_ble_eq_true rfl) ?_
  intro p e s m args below meth c A ls B hr hlk hnm hW hl
  have hx := B.x
  have hb := B.b
  have hl : lv_has ls 1 [(0, .ref h)] := hl
  refine lv_aload_n hx hb dJx4a65c_grow_d5877_0 rfl (lv_at hl 0 rfl) ?_
  refine lv_aload_n hx hb dJx4a65c_grow_d5877_1 rfl (lv_at hl 0 rfl) ?_
  refine zget B hW 0 rfl lf_Jx4a65c_48 rfl dJx4a65c_grow_d5877_2 ?_
  refine lv_iconst (v := (1 : Int32)) hx hb dJx4a65c_grow_d5877_5 (by decide) ?_
  refine lv_iadd hx hb dJx4a65c_grow_d5877_6 ?_
  refine W.eq (g2 := F0 m 7 ls [.int 1, .ref h]) rfl ?_
  refine zcV (w1 := []) (wc := [(h, .inr (3, [.int k, .ref G.2.2, .int 0]))]) (w2 := []) (As := [.int 1]) B (hW.eq rfl) (c_Jx4a65c_grow_92f84_0 l G h k 0) yd_Jx4a65c_grow_92f84 ml_Jx4a65c_69 0 rfl rfl rfl rfl hl.1 rfl (Nat.le_of_ble_eq_true rfl) ⟨Nat.le_of_ble_eq_true rfl, Nat.le_of_ble_eq_true rfl⟩ ⟨Nat.le_of_ble_eq_true rfl, Nat.le_of_ble_eq_true rfl⟩ dJx4a65c_grow_d5877_7 (fun v u H locs hp hW => ?_)
  obtain ⟨q, rfl, rfl⟩ := hp
  exact zaret B hr hlk (Or.inr ⟨_, rfl⟩) (Or.inr ⟨_, rfl⟩) (hW.eq rfl) ⟨q, rfl, rfl⟩ (Nat.le_of_ble_eq_true rfl) (Nat.le_of_ble_eq_true rfl) dJx4a65c_grow_d5877_10
set_option maxHeartbeats 4000000 in
set_option maxRecDepth 100000 in
theorem c_Jx4a65c_add_72be8_0 (l : Launch) (G : zG) (h v ci : Nat) (vs : List Value) (k : Int32) {r : vw_C} (hc : vwCl[ci]? = some r) (hca : Cond.castable r.1 "java/lang/Object" ∈ zNest) : zC l yJx4a65c_add_72be8 cJx4a65c_add_72be8 4 none 3 1 10 G [.ref h, .ref v, .ref G.2.2, .int 0] [(h, .inr (3, [.int k, .ref G.2.2, .int 0])), (v, .inr (ci, vs))] (fun r u => ∃ q : Nat, r = none ∧ u = [(h, .inr (3, [.int k, .ref q, .int 1]))]) := by
  refine zC.of RJx4a65c rfl (by decide) (Nat.le_of_ble_eq_true rfl) ?_
  intro p e s m args below meth c A ls B hr hlk hnm hW hl
  have hx := B.x
  have hb := B.b
  have hl : lv_has ls 4 [(0, .ref h), (1, .ref v), (2, .ref G.2.2), (3, .int 0)] := hl
  refine lv_iload_n hx hb dJx4a65c_add_72be8_0 rfl (lv_at hl 3 rfl) ?_
  refine lv_aload_n hx hb dJx4a65c_add_72be8_1 rfl (lv_at hl 2 rfl) ?_
  refine zlenD B hW dJx4a65c_add_72be8_2 ?_
  refine lv_icmp_ne (tgt := 11) hx hb dJx4a65c_add_72be8_3 (by decide) (fun c_3 => absurd rfl c_3) (fun c_3 => ?_)
  refine lv_aload_n hx hb dJx4a65c_add_72be8_6 rfl (lv_at hl 0 rfl) ?_
  refine zcV (w1 := []) (wc := [(h, .inr (3, [.int k, .ref G.2.2, .int 0]))]) (w2 := [(v, .inr (ci, vs))]) (As := []) B (hW.eq rfl) (c_Jx4a65c_grow_d5877_0 l G h k) yd_Jx4a65c_grow_d5877 ml_Jx4a65c_129 0 rfl rfl rfl rfl hl.1 rfl (Nat.le_of_ble_eq_true rfl) ⟨Nat.le_of_ble_eq_true rfl, Nat.le_of_ble_eq_true rfl⟩ ⟨Nat.le_of_ble_eq_true rfl, Nat.le_of_ble_eq_true rfl⟩ dJx4a65c_add_72be8_7 (fun v u H locs hp hW => ?_)
  obtain ⟨q, rfl, rfl⟩ := hp
  refine lv_astore_n hx hb dJx4a65c_add_72be8_10 rfl hl (by decide) rfl (fun ls hl => ?_)
  refine lv_aload_n hx hb dJx4a65c_add_72be8_11 rfl (lv_at hl 0 rfl) ?_
  refine lv_iload_n hx hb dJx4a65c_add_72be8_12 rfl (lv_at hl 3 rfl) ?_
  refine lv_aload_n hx hb dJx4a65c_add_72be8_13 rfl (lv_at hl 2 rfl) ?_
  refine zoast B hW 1 2 ci rfl rfl hc hca (vp_in_nI (show 0 < 10 by decide) (by decide) : vp_in (nI 0) 10) dJx4a65c_add_72be8_14 (fun H locs hW => ?_)
  refine lv_aload_n hx hb dJx4a65c_add_72be8_15 rfl (lv_at hl 1 rfl) ?_
  refine lv_iload_n hx hb dJx4a65c_add_72be8_16 rfl (lv_at hl 3 rfl) ?_
  refine lv_iconst (v := (1 : Int32)) hx hb dJx4a65c_add_72be8_17 (by decide) ?_
  refine lv_iadd hx hb dJx4a65c_add_72be8_18 ?_
  refine zput B hW 0 rfl lf_Jx4a65c_48 ft_Jx4a65c_2 rfl rfl (Nat.le_of_ble_eq_true rfl) dJx4a65c_add_72be8_19 (fun H locs hW => ?_)
  exact zvret B hr hlk (hW.sub [0] rfl rfl) ⟨q, rfl, rfl⟩ (Nat.le_of_ble_eq_true rfl) (Nat.le_of_ble_eq_true rfl) dJx4a65c_add_72be8_22
set_option maxHeartbeats 4000000 in
set_option maxRecDepth 100000 in
/-- the first entry of a list -/
theorem c_Jx4a65c_add_9ea2d_0 (l : Launch) (G : zG) (h v ci : Nat) (vs : List Value) (k : Int32) {r : vw_C} (hc : vwCl[ci]? = some r) (hca : Cond.castable r.1 "java/lang/Object" ∈ zNest) : zC l yJx4a65c_add_9ea2d cJx4a65c_add_9ea2d 2 (some .boolean) 4 1 10 G [.ref h, .ref v] [(h, .inr (3, [.int k, .ref G.2.2, .int 0])), (v, .inr (ci, vs))] (fun r u => ∃ q : Nat, r = some (.int 1) ∧ u = [(h, .inr (3, [.int (k + 1), .ref q, .int 1]))]) := by
  refine zC.of RJx4a65c rfl (by decide) (Nat.le_of_ble_eq_true rfl) ?_
  intro p e s m args below meth c A ls B hr hlk hnm hW hl
  have hx := B.x
  have hb := B.b
  have hl : lv_has ls 2 [(0, .ref h), (1, .ref v)] := hl
  refine lv_aload_n hx hb dJx4a65c_add_9ea2d_0 rfl (lv_at hl 0 rfl) ?_
  refine lv_dup hx hb dJx4a65c_add_9ea2d_1 rfl ?_
  refine zgetS B hW 0 rfl lf_Jx4a65c_63 rfl dJx4a65c_add_9ea2d_2 ?_
  refine lv_iconst (v := (1 : Int32)) hx hb dJx4a65c_add_9ea2d_5 (by decide) ?_
  refine lv_iadd hx hb dJx4a65c_add_9ea2d_6 ?_
  refine zputS B hW 0 rfl lf_Jx4a65c_63 ft_Jx4a65c_0 rfl rfl (Nat.le_of_ble_eq_true rfl) dJx4a65c_add_9ea2d_7 (fun H locs hW => ?_)
  have hW := hW.eq (w' := [(h, .inr (3, [.int (k + 1), .ref G.2.2, .int 0])), (v, .inr (ci, vs))]) rfl
  refine lv_aload_n hx hb dJx4a65c_add_9ea2d_10 rfl (lv_at hl 0 rfl) ?_
  refine lv_aload_n hx hb dJx4a65c_add_9ea2d_11 rfl (lv_at hl 1 rfl) ?_
  refine lv_aload_n hx hb dJx4a65c_add_9ea2d_12 rfl (lv_at hl 0 rfl) ?_
  refine zget B hW 0 rfl lf_Jx4a65c_9 rfl dJx4a65c_add_9ea2d_13 ?_
  refine lv_aload_n hx hb dJx4a65c_add_9ea2d_16 rfl (lv_at hl 0 rfl) ?_
  refine zget B hW 0 rfl lf_Jx4a65c_48 rfl dJx4a65c_add_9ea2d_17 ?_
  refine zcV (w1 := []) (wc := [(h, .inr (3, [.int (k + 1), .ref G.2.2, .int 0])), (v, .inr (ci, vs))]) (w2 := []) (As := [.ref v, .ref G.2.2, .int 0]) B (hW.eq rfl) (c_Jx4a65c_add_72be8_0 l G h v ci vs (k + 1) hc hca) yd_Jx4a65c_add_72be8 ml_Jx4a65c_131 0 rfl rfl rfl rfl hl.1 rfl (Nat.le_of_ble_eq_true rfl) ⟨Nat.le_of_ble_eq_true rfl, Nat.le_of_ble_eq_true rfl⟩ ⟨Nat.le_of_ble_eq_true rfl, Nat.le_of_ble_eq_true rfl⟩ dJx4a65c_add_9ea2d_20 (fun v u H locs hp hW => ?_)
  obtain ⟨q, rfl, rfl⟩ := hp
  refine lv_iconst (v := (1 : Int32)) hx hb dJx4a65c_add_9ea2d_23 (by decide) ?_
  exact zzret B hr hlk rfl (hW.eq rfl) ⟨q, rfl, rfl⟩ (Nat.le_of_ble_eq_true rfl) (Nat.le_of_ble_eq_true rfl) dJx4a65c_add_9ea2d_24
