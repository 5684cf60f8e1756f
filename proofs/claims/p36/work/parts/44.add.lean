set_option maxHeartbeats 4000000 in
set_option maxRecDepth 100000 in
/-- the first row of a list: ten places -/
theorem c_Jx4a65c_grow_92f84_0 (l : Launch) (G : zG) (h : Nat) (k z : Int32) : zC l yJx4a65c_grow_92f84 cJx4a65c_grow_92f84 4 (some (.array (.object "java/lang/Object"))) 1 1 10 G [.ref h, .int 1] [(h, .inr (3, [.int k, .ref G.2.2, .int z]))] (fun r u => ∃ q : Nat, r = some (.ref q) ∧ u = [(h, .inr (3, [.int k, .ref q, .int z])), (q, .inl (G.2.1 3, 10, .inr (.inr (.inr (.inr (fun _ => none))))))]) := by
  refine zC.of RJx4a65c rfl (by decide) (Nat.le_of_ble_eq_true rfl) ?_
  intro p e s m args below meth c A ls B hr hlk hnm hW hl
  have hx := B.x
  have hb := B.b
  have hl : lv_has ls 4 [(0, .ref h), (1, .int 1)] := hl
  refine lv_aload_n hx hb dJx4a65c_grow_92f84_0 rfl (lv_at hl 0 rfl) ?_
  refine zget B hW 0 rfl lf_Jx4a65c_9 rfl dJx4a65c_grow_92f84_1 ?_
  refine zlenD B hW dJx4a65c_grow_92f84_4 ?_
  refine lv_istore_n hx hb dJx4a65c_grow_92f84_5 rfl hl (by decide) rfl (fun ls hl => ?_)
  refine lv_iload_n hx hb dJx4a65c_grow_92f84_6 rfl (lv_at hl 0 rfl) ?_
  refine lv_if_gt (tgt := 20) hx hb dJx4a65c_grow_92f84_7 (by decide) (fun c_7 => absurd c_7 (by decide)) (fun c_7 => ?_)
  refine lv_aload_n hx hb dJx4a65c_grow_92f84_10 rfl (lv_at hl 1 rfl) ?_
  refine zget B hW 0 rfl lf_Jx4a65c_9 rfl dJx4a65c_grow_92f84_11 ?_
  refine zgetD B hW lg_Jx4a65c_39 dJx4a65c_grow_92f84_14 ?_
  refine lv_acmp_eq (rx := some G.2.2) (ry := some G.2.2) (tgt := 45) hx hb dJx4a65c_grow_92f84_17 (by decide) (fun c_17 => ?_) (fun c_17 => absurd rfl c_17)
  refine lv_aload_n hx hb dJx4a65c_grow_92f84_45 rfl (lv_at hl 1 rfl) ?_
  refine lv_bipush (v := (10 : Int32)) hx hb dJx4a65c_grow_92f84_46 (by decide) ?_
  refine lv_iload_n hx hb dJx4a65c_grow_92f84_48 rfl (lv_at hl 2 rfl) ?_
  refine va_mmax hx hb (B.ml.trans hl.1.symm) B.o (B.ts _ ml_Jx4a65c_79) (B.ts _ km_max_s) (B.ts _ km_i) (B.ts _ km_max_c) (Nat.le_of_ble_eq_true rfl) (Nat.le_of_ble_eq_true rfl) (Nat.le_of_ble_eq_true rfl) (Nat.le_of_ble_eq_true rfl) dJx4a65c_grow_92f84_49 ?_
  refine znewo B hW 10 (by decide) (Nat.le_of_ble_eq_true rfl) kl_Jx4a65c_7 (Nat.le_of_ble_eq_true rfl) (Nat.le_of_ble_eq_true rfl) dJx4a65c_grow_92f84_52 (fun q H hW => ?_)
  refine lv_dup_x1 hx hb dJx4a65c_grow_92f84_55 rfl rfl ?_
  refine zput B hW 0 rfl lf_Jx4a65c_9 ft_Jx4a65c_1 rfl rfl (Nat.le_of_ble_eq_true rfl) dJx4a65c_grow_92f84_56 (fun H locs hW => ?_)
  exact zaret B hr hlk (Or.inr ⟨_, rfl⟩) (Or.inr ⟨_, rfl⟩) (hW.eq rfl) ⟨q, rfl, rfl⟩ (Nat.le_of_ble_eq_true rfl) (Nat.le_of_ble_eq_true rfl) dJx4a65c_grow_92f84_59
set_option maxHeartbeats 4000000 in
set_option maxRecDepth 100000 in
theorem c_Jx4a65c_grow_d5877_0 (l : Launch) (G : zG) (h : Nat) (k : Int32) : zC l yJx4a65c_grow_d5877 cJx4a65c_grow_d5877 1 (some (.array (.object "java/lang/Object"))) 2 1 10 G [.ref h] [(h, .inr (3, [.int k, .ref G.2.2, .int 0]))] (fun r u => ∃ q : Nat, r = some (.ref q) ∧ u = [(h, .inr (3, [.int k, .ref q, .int 0])), (q, .inl (G.2.1 3, 10, .inr (.inr (.inr (.inr (fun _ => none))))))]) := by
  refine zC.of RJx4a65c rfl (by decide) (Nat.le_of_ble_eq_true rfl) ?_
  intro p e s m args below meth c A ls B hr hlk hnm hW hl
  have hx := B.x
  have hb := B.b
  have hl : lv_has ls 1 [(0, .ref h)] := hl
  refine lv_aload_n hx hb dJx4a65c_grow_d5877_0 rfl (lv_at hl 0 rfl) ?_
  refine lv_aload_n hx hb dJx4a65c_grow_d5877_1 rfl (lv_at hl 0 rfl) ?_
  refine zget B hW 0 rfl lf_Jx4a65c_48 rfl dJx4a65c_grow_d5877_2 ?_
  refine lv_iconst (v := (1 : Int32)) hx hb dJx4a65c_grow_d5877_5 (by decide) ?_
  refine lv_iadd hx hb dJx4a65c_grow_d5877_6 ?_
  refine W.eq (g2 := F0 m 7 ls [.int 1, .ref h]) rfl ?_
  refine zcV (w1 := []) (wc := [(h, .inr (3, [.int k, .ref G.2.2, .int 0]))]) (w2 := []) (As := [.int 1]) B (hW.eq rfl) (c_Jx4a65c_grow_92f84_0 l G h k 0) yd_Jx4a65c_grow_92f84 ml_Jx4a65c_69 0 rfl rfl rfl rfl hl.1 rfl (Nat.le_of_ble_eq_true rfl) ⟨Nat.le_of_ble_eq_true rfl, Nat.le_of_ble_eq_true rfl⟩ ⟨Nat.le_of_ble_eq_true rfl, Nat.le_of_ble_eq_true rfl⟩ dJx4a65c_grow_d5877_7 (fun v u H locs hp hW => ?_)
  obtain ⟨q, rfl, rfl⟩ := hp
  exact zaret B hr hlk (Or.inr ⟨_, rfl⟩) (Or.inr ⟨_, rfl⟩) (hW.eq rfl) ⟨q, rfl, rfl⟩ (Nat.le_of_ble_eq_true rfl) (Nat.le_of_ble_eq_true rfl) dJx4a65c_grow_d5877_10
theorem sg_last {n v : Nat} {a : Nat → Nat} {c0 : Nat → va_E} {e : va_E} : (sgW n a c0 ++ [(v, e)])[n]? = some (v, e) := by
  rw [List.getElem?_append_right (by rw [sg_len]; exact Nat.le_refl _), sg_len, Nat.sub_self]
  rfl
theorem va_up_i {α : Type} {f : Nat → α} {k : Nat} {v : α} : va_up f k v k = v := if_pos rfl
theorem va_up_o {α : Type} {f : Nat → α} {k j : Nat} {v : α} (h : j ≠ k) : va_up f k v j = f j := if_neg h
theorem sg_add {n v : Nat} {a : Nat → Nat} {c0 c1 : Nat → va_E} {e : va_E} (h1 : c1 n = e) (h2 : ∀ j, j < n → c1 j = c0 j) : sgW n a c0 ++ [(v, e)] = sgW (n + 1) (va_up a n v) c1 := sg_push va_up_i h1 (fun j hj => va_up_o (by omega)) h2
set_option maxHeartbeats 4000000 in
set_option maxRecDepth 100000 in
theorem c_grow0 (l : Launch) (G : zG) (h q n : Nat) (a : Nat → Nat) (c0 : Nat → va_E) (mc : Int32) (hc : ∀ i, i < n → zEl G (c0 i)) (h2 : 2 ≤ n) (hn : n ≤ 500000) : zC l yJx4a65c_grow_d5877 cJx4a65c_grow_d5877 1 (some (.array (.object "java/lang/Object"))) 4 1 (n + n / 2) G [.ref h] ([(h, .inr (3, [.int mc, .ref q, .int (nI n)])), (q, .inl (G.2.1 3, n, .inr (.inr (.inr (.inr (laF n a))))))] ++ sgW n a c0) (fun r u => ∃ q2 : Nat, r = some (.ref q2) ∧ u = [(h, .inr (3, [.int mc, .ref q2, .int (nI n)])), (q2, .inl (G.2.1 3, (n + n / 2), .inr (.inr (.inr (.inr (laF n a))))))] ++ sgW n a c0) := by
  refine zC.of RJx4a65c rfl (by decide) (Nat.le_of_ble_eq_true rfl) ?_
  intro p e s m args below meth c A ls B hr hlk hnm hW hl
  have hx := B.x
  have hb := B.b
  have hl : lv_has ls 1 [(0, .ref h)] := hl
  refine lv_aload_n hx hb dJx4a65c_grow_d5877_0 rfl (lv_at hl 0 rfl) ?_
  refine lv_aload_n hx hb dJx4a65c_grow_d5877_1 rfl (lv_at hl 0 rfl) ?_
  refine zget B hW 0 rfl lf_Jx4a65c_48 rfl dJx4a65c_grow_d5877_2 ?_
  refine lv_iconst (v := (1 : Int32)) hx hb dJx4a65c_grow_d5877_5 (by decide) ?_
  refine lv_iadd hx hb dJx4a65c_grow_d5877_6 ?_
  refine W.eq (g2 := F0 m 7 ls [.int (nI (n + 1)), .ref h]) (by rw [← nI_1] <;> rfl) ?_
  refine zcV (w1 := []) (wc := [(h, .inr (3, [.int mc, .ref q, .int (nI n)])), (q, .inl (G.2.1 3, n, .inr (.inr (.inr (.inr (laF n a))))))] ++ sgW n a c0) (w2 := []) (As := [.int (nI (n + 1))]) B (hW.eq (by simp only [List.append_nil, List.nil_append])) (c_grow1 l G h q n a c0 mc (nI n) hc h2 hn) yd_Jx4a65c_grow_92f84 ml_Jx4a65c_69 0 rfl rfl rfl rfl hl.1 rfl (Nat.le_of_ble_eq_true rfl) ⟨Nat.le_of_ble_eq_true rfl, Nat.le_of_ble_eq_true rfl⟩ ⟨by show 0 + 1 ≤ 1; omega, by show 0 + (n + n / 2) ≤ n + n / 2; omega⟩ dJx4a65c_grow_d5877_7 (fun v u H locs hp hW => ?_)
  obtain ⟨q2, rfl, rfl⟩ := hp
  exact zaret B hr hlk (Or.inr ⟨_, rfl⟩) (Or.inr ⟨_, rfl⟩) (hW.eq (by simp only [List.append_nil, List.nil_append])) ⟨q2, rfl, rfl⟩ (by show 0 + 1 ≤ 1; omega) (by show 0 + (n + n / 2) ≤ n + n / 2; omega) dJx4a65c_grow_d5877_10
set_option maxHeartbeats 4000000 in
set_option maxRecDepth 100000 in
/-- there is a place -/
theorem c_add3b (l : Launch) (G : zG) (h q n N v : Nat) (a : Nat → Nat) (c0 c1 : Nat → va_E) (x : va_E) (mc : Int32) (hc : ∀ i, i < n → zEl G (c0 i)) (hE : zEl G x) (h1 : c1 n = x) (h3 : ∀ j, j < n → c1 j = c0 j) (hn : n < N) (hN : N ≤ 500000) : zC l yJx4a65c_add_72be8 cJx4a65c_add_72be8 4 none 5 0 0 G [.ref h, .ref v, .ref q, .int (nI n)] ([(h, .inr (3, [.int mc, .ref q, .int (nI n)])), (q, .inl (G.2.1 3, N, .inr (.inr (.inr (.inr (laF n a))))))] ++ (sgW n a c0 ++ [(v, x)])) (fun r u => ∃ q2 : Nat, r = none ∧ u = [(h, .inr (3, [.int mc, .ref q2, .int (nI (n + 1))]))] ++ ([(q2, .inl (G.2.1 3, N, .inr (.inr (.inr (.inr (laF (n + 1) (va_up a n v)))))))] ++ sgW (n + 1) (va_up a n v) c1)) := by
  refine zC.of RJx4a65c rfl (by decide) (Nat.le_of_ble_eq_true rfl) ?_
  intro p e s m args below meth c A ls B hr hlk hnm hW hl
  have hx := B.x
  have hb := B.b
  have hl : lv_has ls 4 [(0, .ref h), (1, .ref v), (2, .ref q), (3, .int (nI n))] := hl
  refine lv_iload_n hx hb dJx4a65c_add_72be8_0 rfl (lv_at hl 3 rfl) ?_
  refine lv_aload_n hx hb dJx4a65c_add_72be8_1 rfl (lv_at hl 2 rfl) ?_
  refine zmlen B hW 1 rfl dJx4a65c_add_72be8_2 ?_
  refine lv_icmp_ne (tgt := 11) hx hb dJx4a65c_add_72be8_3 (by decide) (fun _ => ?_) (fun z => absurd ((nI_eq (by omega) (by omega)).mp z) (by omega))
  refine lv_aload_n hx hb dJx4a65c_add_72be8_11 rfl (lv_at hl 2 rfl) ?_
  refine lv_iload_n hx hb dJx4a65c_add_72be8_12 rfl (lv_at hl 3 rfl) ?_
  refine lv_aload_n hx hb dJx4a65c_add_72be8_13 rfl (lv_at hl 1 rfl) ?_
  refine zmast B hW 1 rfl (zEl.any B hW.1 (k := 2 + n) (sg_he [(h, .inr (3, [.int mc, .ref q, .int (nI n)])), (q, .inl (G.2.1 3, N, .inr (.inr (.inr (.inr (laF n a))))))] rfl sg_last) hE) (vp_in_nI (by omega) (by omega)) dJx4a65c_add_72be8_14 (fun H locs hW => ?_)
  rw [nI_clamp (by omega), laF_up] at hW
  refine lv_aload_n hx hb dJx4a65c_add_72be8_15 rfl (lv_at hl 0 rfl) ?_
  refine lv_iload_n hx hb dJx4a65c_add_72be8_16 rfl (lv_at hl 3 rfl) ?_
  refine lv_iconst (v := (1 : Int32)) hx hb dJx4a65c_add_72be8_17 (by decide) ?_
  refine lv_iadd hx hb dJx4a65c_add_72be8_18 ?_
  refine W.eq (g2 := F0 m 19 ls [.int (nI (n + 1)), .ref h]) (by rw [← nI_1] <;> rfl) ?_
  refine zput B hW 0 rfl lf_Jx4a65c_48 ft_Jx4a65c_2 rfl rfl (Nat.le_of_ble_eq_true rfl) dJx4a65c_add_72be8_19 (fun H locs hW => ?_)
  have hW := hW.eq (w' := [(h, .inr (3, [.int mc, .ref q, .int (nI (n + 1))])), (q, .inl (G.2.1 3, N, .inr (.inr (.inr (.inr (laF (n + 1) (va_up a n v)))))))] ++ (sgW n a c0 ++ [(v, x)])) rfl
  rw [sg_add h1 h3] at hW
  exact zvret B hr hlk (hW.eq rfl) ⟨q, rfl, rfl⟩ (Nat.le_refl _) (Nat.le_refl _) dJx4a65c_add_72be8_22
set_option maxHeartbeats 4000000 in
set_option maxRecDepth 100000 in
/-- it's full -/
theorem c_add3c (l : Launch) (G : zG) (h q n N v : Nat) (a : Nat → Nat) (c0 c1 : Nat → va_E) (x : va_E) (mc : Int32) (hc : ∀ i, i < n → zEl G (c0 i)) (hE : zEl G x) (h1 : c1 n = x) (h3 : ∀ j, j < n → c1 j = c0 j) (hN0 : N = n) (h2 : 2 ≤ n) (hn : n ≤ 300000) : zC l yJx4a65c_add_72be8 cJx4a65c_add_72be8 4 none 5 1 (n + n / 2) G [.ref h, .ref v, .ref q, .int (nI n)] ([(h, .inr (3, [.int mc, .ref q, .int (nI n)])), (q, .inl (G.2.1 3, n, .inr (.inr (.inr (.inr (laF n a))))))] ++ (sgW n a c0 ++ [(v, x)])) (fun r u => ∃ q2 : Nat, r = none ∧ u = [(h, .inr (3, [.int mc, .ref q2, .int (nI (n + 1))]))] ++ ([(q2, .inl (G.2.1 3, (n + n / 2), .inr (.inr (.inr (.inr (laF (n + 1) (va_up a n v)))))))] ++ sgW (n + 1) (va_up a n v) c1)) := by
  refine zC.of RJx4a65c rfl (by decide) (Nat.le_of_ble_eq_true rfl) ?_
  intro p e s m args below meth c A ls B hr hlk hnm hW hl
  have hx := B.x
  have hb := B.b
  have hl : lv_has ls 4 [(0, .ref h), (1, .ref v), (2, .ref q), (3, .int (nI n))] := hl
  refine lv_iload_n hx hb dJx4a65c_add_72be8_0 rfl (lv_at hl 3 rfl) ?_
  refine lv_aload_n hx hb dJx4a65c_add_72be8_1 rfl (lv_at hl 2 rfl) ?_
  refine zmlen B hW 1 rfl dJx4a65c_add_72be8_2 ?_
  refine lv_icmp_ne (tgt := 11) hx hb dJx4a65c_add_72be8_3 (by decide) (fun z => absurd rfl z) (fun _ => ?_)
  refine lv_aload_n hx hb dJx4a65c_add_72be8_6 rfl (lv_at hl 0 rfl) ?_
  refine zcV (w1 := []) (wc := [(h, .inr (3, [.int mc, .ref q, .int (nI n)])), (q, .inl (G.2.1 3, n, .inr (.inr (.inr (.inr (laF n a))))))] ++ sgW n a c0) (w2 := [(v, x)]) (As := []) B (hW.eq (by simp only [List.append_assoc, List.nil_append])) (c_grow0 l G h q n a c0 mc hc h2 (by omega)) yd_Jx4a65c_grow_d5877 ml_Jx4a65c_129 0 rfl rfl rfl rfl hl.1 rfl (Nat.le_of_ble_eq_true rfl) ⟨Nat.le_of_ble_eq_true rfl, Nat.le_of_ble_eq_true rfl⟩ ⟨by show 0 + 1 ≤ 1; omega, by show 0 + (n + n / 2) ≤ n + n / 2; omega⟩ dJx4a65c_add_72be8_7 (fun v' u H locs hp hW => ?_)
  obtain ⟨q2, rfl, rfl⟩ := hp
  have hW := hW.eq (w' := [(h, .inr (3, [.int mc, .ref q2, .int (nI n)])), (q2, .inl (G.2.1 3, (n + n / 2), .inr (.inr (.inr (.inr (laF n a))))))] ++ (sgW n a c0 ++ [(v, x)])) (by simp only [List.append_assoc, List.nil_append])
  refine lv_astore_n hx hb dJx4a65c_add_72be8_10 rfl hl (by decide) rfl (fun ls hl => ?_)
  refine lv_aload_n hx hb dJx4a65c_add_72be8_11 rfl (lv_at hl 0 rfl) ?_
  refine lv_iload_n hx hb dJx4a65c_add_72be8_12 rfl (lv_at hl 3 rfl) ?_
  refine lv_aload_n hx hb dJx4a65c_add_72be8_13 rfl (lv_at hl 2 rfl) ?_
  refine zmast B hW 1 rfl (zEl.any B hW.1 (k := 2 + n) (sg_he [(h, .inr (3, [.int mc, .ref q2, .int (nI n)])), (q2, .inl (G.2.1 3, (n + n / 2), .inr (.inr (.inr (.inr (laF n a))))))] rfl sg_last) hE) (vp_in_nI (by omega) (by omega)) dJx4a65c_add_72be8_14 (fun H locs hW => ?_)
  rw [nI_clamp (by omega), laF_up] at hW
  refine lv_aload_n hx hb dJx4a65c_add_72be8_15 rfl (lv_at hl 1 rfl) ?_
  refine lv_iload_n hx hb dJx4a65c_add_72be8_16 rfl (lv_at hl 3 rfl) ?_
  refine lv_iconst (v := (1 : Int32)) hx hb dJx4a65c_add_72be8_17 (by decide) ?_
  refine lv_iadd hx hb dJx4a65c_add_72be8_18 ?_
  refine W.eq (g2 := F0 m 19 ls [.int (nI (n + 1)), .ref h]) (by rw [← nI_1] <;> rfl) ?_
  refine zput B hW 0 rfl lf_Jx4a65c_48 ft_Jx4a65c_2 rfl rfl (Nat.le_of_ble_eq_true rfl) dJx4a65c_add_72be8_19 (fun H locs hW => ?_)
  have hW := hW.eq (w' := [(h, .inr (3, [.int mc, .ref q2, .int (nI (n + 1))])), (q2, .inl (G.2.1 3, (n + n / 2), .inr (.inr (.inr (.inr (laF (n + 1) (va_up a n v)))))))] ++ (sgW n a c0 ++ [(v, x)])) rfl
  rw [sg_add h1 h3] at hW
  exact zvret B hr hlk (hW.eq rfl) ⟨q2, rfl, rfl⟩ (by show 0 + 1 ≤ 1; omega) (by show 0 + (n + n / 2) ≤ n + n / 2; omega) dJx4a65c_add_72be8_22
set_option maxHeartbeats 4000000 in
set_option maxRecDepth 100000 in
/-- it's new -/
theorem c_add3a (l : Launch) (G : zG) (h v : Nat) (x : va_E) (mc : Int32) (hE : zEl G x) : zC l yJx4a65c_add_72be8 cJx4a65c_add_72be8 4 none 5 1 10 G [.ref h, .ref v, .ref G.2.2, .int (nI 0)] ([(h, .inr (3, [.int mc, .ref G.2.2, .int 0])), (v, x)]) (fun r u => ∃ q2 : Nat, r = none ∧ u = [(h, .inr (3, [.int mc, .ref q2, .int (nI 1)])), (q2, .inl (G.2.1 3, 10, .inr (.inr (.inr (.inr (va_up (fun _ => none) 0 (some v))))))), (v, x)]) := by
  refine zC.of RJx4a65c rfl (by decide) (Nat.le_of_ble_eq_true rfl) ?_
  intro p e s m args below meth c A ls B hr hlk hnm hW hl
  have hx := B.x
  have hb := B.b
  have hl : lv_has ls 4 [(0, .ref h), (1, .ref v), (2, .ref G.2.2), (3, .int (nI 0))] := hl
  refine lv_iload_n hx hb dJx4a65c_add_72be8_0 rfl (lv_at hl 3 rfl) ?_
  refine lv_aload_n hx hb dJx4a65c_add_72be8_1 rfl (lv_at hl 2 rfl) ?_
  refine zlenD B hW dJx4a65c_add_72be8_2 ?_
  refine lv_icmp_ne (tgt := 11) hx hb dJx4a65c_add_72be8_3 (by decide) (fun z => absurd rfl z) (fun _ => ?_)
  refine lv_aload_n hx hb dJx4a65c_add_72be8_6 rfl (lv_at hl 0 rfl) ?_
  refine zcV (w1 := []) (wc := [(h, .inr (3, [.int mc, .ref G.2.2, .int 0]))]) (w2 := [(v, x)]) (As := []) B (hW.eq rfl) (c_Jx4a65c_grow_d5877_0 l G h mc) yd_Jx4a65c_grow_d5877 ml_Jx4a65c_129 0 rfl rfl rfl rfl hl.1 rfl (Nat.le_of_ble_eq_true rfl) ⟨Nat.le_of_ble_eq_true rfl, Nat.le_of_ble_eq_true rfl⟩ ⟨Nat.le_of_ble_eq_true rfl, Nat.le_of_ble_eq_true rfl⟩ dJx4a65c_add_72be8_7 (fun v' u H locs hp hW => ?_)
  obtain ⟨q2, rfl, rfl⟩ := hp
  have hW := hW.eq (w' := [(h, .inr (3, [.int mc, .ref q2, .int 0])), (q2, .inl (G.2.1 3, 10, .inr (.inr (.inr (.inr (fun _ => none)))))), (v, x)]) rfl
  refine lv_astore_n hx hb dJx4a65c_add_72be8_10 rfl hl (by decide) rfl (fun ls hl => ?_)
  refine lv_aload_n hx hb dJx4a65c_add_72be8_11 rfl (lv_at hl 0 rfl) ?_
  refine lv_iload_n hx hb dJx4a65c_add_72be8_12 rfl (lv_at hl 3 rfl) ?_
  refine lv_aload_n hx hb dJx4a65c_add_72be8_13 rfl (lv_at hl 2 rfl) ?_
  refine zmast B hW 1 rfl (zEl.any B hW.1 (k := 2) rfl hE) (vp_in_nI (show 0 < 10 by decide) (by decide)) dJx4a65c_add_72be8_14 (fun H locs hW => ?_)
  refine lv_aload_n hx hb dJx4a65c_add_72be8_15 rfl (lv_at hl 1 rfl) ?_
  refine lv_iload_n hx hb dJx4a65c_add_72be8_16 rfl (lv_at hl 3 rfl) ?_
  refine lv_iconst (v := (1 : Int32)) hx hb dJx4a65c_add_72be8_17 (by decide) ?_
  refine lv_iadd hx hb dJx4a65c_add_72be8_18 ?_
  refine zput B hW 0 rfl lf_Jx4a65c_48 ft_Jx4a65c_2 rfl rfl (Nat.le_of_ble_eq_true rfl) dJx4a65c_add_72be8_19 (fun H locs hW => ?_)
  exact zvret B hr hlk (hW.eq rfl) ⟨q2, rfl, rfl⟩ (Nat.le_of_ble_eq_true rfl) (Nat.le_of_ble_eq_true rfl) dJx4a65c_add_72be8_22
set_option maxHeartbeats 4000000 in
set_option maxRecDepth 100000 in
/-- there is a place -/
theorem c_addb (l : Launch) (G : zG) (h q n N v : Nat) (a : Nat → Nat) (c0 c1 : Nat → va_E) (x : va_E) (mc : Int32) (hc : ∀ i, i < n → zEl G (c0 i)) (hE : zEl G x) (h1 : c1 n = x) (h3 : ∀ j, j < n → c1 j = c0 j) (hn : n < N) (hN : N ≤ 500000) : zC l yJx4a65c_add_9ea2d cJx4a65c_add_9ea2d 2 (some .boolean) 6 0 0 G [.ref h, .ref v] ([(h, .inr (3, [.int mc, .ref q, .int (nI n)])), (q, .inl (G.2.1 3, N, .inr (.inr (.inr (.inr (laF n a))))))] ++ (sgW n a c0 ++ [(v, x)])) (fun r u => ∃ q2 : Nat, r = some (.int 1) ∧ u = [(h, .inr (3, [.int (mc + 1), .ref q2, .int (nI (n + 1))]))] ++ ([(q2, .inl (G.2.1 3, N, .inr (.inr (.inr (.inr (laF (n + 1) (va_up a n v)))))))] ++ sgW (n + 1) (va_up a n v) c1)) := by
  refine zC.of RJx4a65c rfl (by decide) (Nat.le_of_ble_eq_true rfl) ?_
  intro p e s m args below meth c A ls B hr hlk hnm hW hl
  have hx := B.x
  have hb := B.b
  have hl : lv_has ls 2 [(0, .ref h), (1, .ref v)] := hl
  refine lv_aload_n hx hb dJx4a65c_add_9ea2d_0 rfl (lv_at hl 0 rfl) ?_
  refine lv_dup hx hb dJx4a65c_add_9ea2d_1 rfl ?_
  refine zgetS B hW 0 rfl lf_Jx4a65c_63 rfl dJx4a65c_add_9ea2d_2 ?_
  refine lv_iconst (v := (1 : Int32)) hx hb dJx4a65c_add_9ea2d_5 (by decide) ?_
  refine lv_iadd hx hb dJx4a65c_add_9ea2d_6 ?_
  refine zputS B hW 0 rfl lf_Jx4a65c_63 ft_Jx4a65c_0 rfl rfl (Nat.le_of_ble_eq_true rfl) dJx4a65c_add_9ea2d_7 (fun H locs hW => ?_)
  have hW := hW.eq (w' := [(h, .inr (3, [.int (mc + 1), .ref q, .int (nI n)])), (q, .inl (G.2.1 3, N, .inr (.inr (.inr (.inr (laF n a))))))] ++ (sgW n a c0 ++ [(v, x)])) rfl
  refine lv_aload_n hx hb dJx4a65c_add_9ea2d_10 rfl (lv_at hl 0 rfl) ?_
  refine lv_aload_n hx hb dJx4a65c_add_9ea2d_11 rfl (lv_at hl 1 rfl) ?_
  refine lv_aload_n hx hb dJx4a65c_add_9ea2d_12 rfl (lv_at hl 0 rfl) ?_
  refine zget B hW 0 rfl lf_Jx4a65c_9 rfl dJx4a65c_add_9ea2d_13 ?_
  refine lv_aload_n hx hb dJx4a65c_add_9ea2d_16 rfl (lv_at hl 0 rfl) ?_
  refine zget B hW 0 rfl lf_Jx4a65c_48 rfl dJx4a65c_add_9ea2d_17 ?_
  refine zcV (w1 := []) (wc := [(h, .inr (3, [.int (mc + 1), .ref q, .int (nI n)])), (q, .inl (G.2.1 3, N, .inr (.inr (.inr (.inr (laF n a))))))] ++ (sgW n a c0 ++ [(v, x)])) (w2 := []) (As := [.ref v, .ref q, .int (nI n)]) B (hW.eq (by simp only [List.append_nil, List.nil_append])) (c_add3b l G h q n N v a c0 c1 x (mc + 1) hc hE h1 h3 hn hN) yd_Jx4a65c_add_72be8 ml_Jx4a65c_131 0 rfl rfl rfl rfl hl.1 rfl (Nat.le_of_ble_eq_true rfl) ⟨Nat.le_of_ble_eq_true rfl, Nat.le_of_ble_eq_true rfl⟩ ⟨by show 0 + 0 ≤ 0; omega, by show 0 + 0 ≤ 0; omega⟩ dJx4a65c_add_9ea2d_20 (fun v' u H locs hp hW => ?_)
  obtain ⟨q2, rfl, rfl⟩ := hp
  refine lv_iconst (v := (1 : Int32)) hx hb dJx4a65c_add_9ea2d_23 (by decide) ?_
  exact zzret B hr hlk (by rfl) (hW.eq (by simp only [List.append_nil, List.nil_append])) ⟨q2, rfl, rfl⟩ (by show 0 + 0 ≤ 0; omega) (by show 0 + 0 ≤ 0; omega) dJx4a65c_add_9ea2d_24
set_option maxHeartbeats 4000000 in
set_option maxRecDepth 100000 in
/-- it's full -/
theorem c_addc (l : Launch) (G : zG) (h q n N v : Nat) (a : Nat → Nat) (c0 c1 : Nat → va_E) (x : va_E) (mc : Int32) (hc : ∀ i, i < n → zEl G (c0 i)) (hE : zEl G x) (h1 : c1 n = x) (h3 : ∀ j, j < n → c1 j = c0 j) (hN0 : N = n) (h2 : 2 ≤ n) (hn : n ≤ 300000) : zC l yJx4a65c_add_9ea2d cJx4a65c_add_9ea2d 2 (some .boolean) 6 1 (n + n / 2) G [.ref h, .ref v] ([(h, .inr (3, [.int mc, .ref q, .int (nI n)])), (q, .inl (G.2.1 3, n, .inr (.inr (.inr (.inr (laF n a))))))] ++ (sgW n a c0 ++ [(v, x)])) (fun r u => ∃ q2 : Nat, r = some (.int 1) ∧ u = [(h, .inr (3, [.int (mc + 1), .ref q2, .int (nI (n + 1))]))] ++ ([(q2, .inl (G.2.1 3, (n + n / 2), .inr (.inr (.inr (.inr (laF (n + 1) (va_up a n v)))))))] ++ sgW (n + 1) (va_up a n v) c1)) := by
  refine zC.of RJx4a65c rfl (by decide) (Nat.le_of_ble_eq_true rfl) ?_
  intro p e s m args below meth c A ls B hr hlk hnm hW hl
  have hx := B.x
  have hb := B.b
  have hl : lv_has ls 2 [(0, .ref h), (1, .ref v)] := hl
  refine lv_aload_n hx hb dJx4a65c_add_9ea2d_0 rfl (lv_at hl 0 rfl) ?_
  refine lv_dup hx hb dJx4a65c_add_9ea2d_1 rfl ?_
  refine zgetS B hW 0 rfl lf_Jx4a65c_63 rfl dJx4a65c_add_9ea2d_2 ?_
  refine lv_iconst (v := (1 : Int32)) hx hb dJx4a65c_add_9ea2d_5 (by decide) ?_
  refine lv_iadd hx hb dJx4a65c_add_9ea2d_6 ?_
  refine zputS B hW 0 rfl lf_Jx4a65c_63 ft_Jx4a65c_0 rfl rfl (Nat.le_of_ble_eq_true rfl) dJx4a65c_add_9ea2d_7 (fun H locs hW => ?_)
  have hW := hW.eq (w' := [(h, .inr (3, [.int (mc + 1), .ref q, .int (nI n)])), (q, .inl (G.2.1 3, n, .inr (.inr (.inr (.inr (laF n a))))))] ++ (sgW n a c0 ++ [(v, x)])) rfl
  refine lv_aload_n hx hb dJx4a65c_add_9ea2d_10 rfl (lv_at hl 0 rfl) ?_
  refine lv_aload_n hx hb dJx4a65c_add_9ea2d_11 rfl (lv_at hl 1 rfl) ?_
  refine lv_aload_n hx hb dJx4a65c_add_9ea2d_12 rfl (lv_at hl 0 rfl) ?_
  refine zget B hW 0 rfl lf_Jx4a65c_9 rfl dJx4a65c_add_9ea2d_13 ?_
  refine lv_aload_n hx hb dJx4a65c_add_9ea2d_16 rfl (lv_at hl 0 rfl) ?_
  refine zget B hW 0 rfl lf_Jx4a65c_48 rfl dJx4a65c_add_9ea2d_17 ?_
  refine zcV (w1 := []) (wc := [(h, .inr (3, [.int (mc + 1), .ref q, .int (nI n)])), (q, .inl (G.2.1 3, n, .inr (.inr (.inr (.inr (laF n a))))))] ++ (sgW n a c0 ++ [(v, x)])) (w2 := []) (As := [.ref v, .ref q, .int (nI n)]) B (hW.eq (by simp only [List.append_nil, List.nil_append])) (c_add3c l G h q n N v a c0 c1 x (mc + 1) hc hE h1 h3 hN0 h2 hn) yd_Jx4a65c_add_72be8 ml_Jx4a65c_131 0 rfl rfl rfl rfl hl.1 rfl (Nat.le_of_ble_eq_true rfl) ⟨Nat.le_of_ble_eq_true rfl, Nat.le_of_ble_eq_true rfl⟩ ⟨by show 0 + 1 ≤ 1; omega, by show 0 + (n + n / 2) ≤ (n + n / 2); omega⟩ dJx4a65c_add_9ea2d_20 (fun v' u H locs hp hW => ?_)
  obtain ⟨q2, rfl, rfl⟩ := hp
  refine lv_iconst (v := (1 : Int32)) hx hb dJx4a65c_add_9ea2d_23 (by decide) ?_
  exact zzret B hr hlk (by rfl) (hW.eq (by simp only [List.append_nil, List.nil_append])) ⟨q2, rfl, rfl⟩ (by show 0 + 1 ≤ 1; omega) (by show 0 + (n + n / 2) ≤ (n + n / 2); omega) dJx4a65c_add_9ea2d_24
set_option maxHeartbeats 4000000 in
set_option maxRecDepth 100000 in
/-- it's new -/
theorem c_adda (l : Launch) (G : zG) (h v : Nat) (x : va_E) (mc : Int32) (hE : zEl G x) : zC l yJx4a65c_add_9ea2d cJx4a65c_add_9ea2d 2 (some .boolean) 6 1 10 G [.ref h, .ref v] ([(h, .inr (3, [.int mc, .ref G.2.2, .int 0])), (v, x)]) (fun r u => ∃ q2 : Nat, r = some (.int 1) ∧ u = [(h, .inr (3, [.int (mc + 1), .ref q2, .int (nI 1)])), (q2, .inl (G.2.1 3, 10, .inr (.inr (.inr (.inr (va_up (fun _ => none) 0 (some v))))))), (v, x)]) := by
  refine zC.of RJx4a65c rfl (by decide) (Nat.le_of_ble_eq_true rfl) ?_
  intro p e s m args below meth c A ls B hr hlk hnm hW hl
  have hx := B.x
  have hb := B.b
  have hl : lv_has ls 2 [(0, .ref h), (1, .ref v)] := hl
  refine lv_aload_n hx hb dJx4a65c_add_9ea2d_0 rfl (lv_at hl 0 rfl) ?_
  refine lv_dup hx hb dJx4a65c_add_9ea2d_1 rfl ?_
  refine zgetS B hW 0 rfl lf_Jx4a65c_63 rfl dJx4a65c_add_9ea2d_2 ?_
  refine lv_iconst (v := (1 : Int32)) hx hb dJx4a65c_add_9ea2d_5 (by decide) ?_
  refine lv_iadd hx hb dJx4a65c_add_9ea2d_6 ?_
  refine zputS B hW 0 rfl lf_Jx4a65c_63 ft_Jx4a65c_0 rfl rfl (Nat.le_of_ble_eq_true rfl) dJx4a65c_add_9ea2d_7 (fun H locs hW => ?_)
  have hW := hW.eq (w' := [(h, .inr (3, [.int (mc + 1), .ref G.2.2, .int 0])), (v, x)]) rfl
  refine lv_aload_n hx hb dJx4a65c_add_9ea2d_10 rfl (lv_at hl 0 rfl) ?_
  refine lv_aload_n hx hb dJx4a65c_add_9ea2d_11 rfl (lv_at hl 1 rfl) ?_
  refine lv_aload_n hx hb dJx4a65c_add_9ea2d_12 rfl (lv_at hl 0 rfl) ?_
  refine zget B hW 0 rfl lf_Jx4a65c_9 rfl dJx4a65c_add_9ea2d_13 ?_
  refine lv_aload_n hx hb dJx4a65c_add_9ea2d_16 rfl (lv_at hl 0 rfl) ?_
  refine zget B hW 0 rfl lf_Jx4a65c_48 rfl dJx4a65c_add_9ea2d_17 ?_
  refine zcV (w1 := []) (wc := [(h, .inr (3, [.int (mc + 1), .ref G.2.2, .int 0])), (v, x)]) (w2 := []) (As := [.ref v, .ref G.2.2, .int 0]) B (hW.eq (by simp only [List.append_nil, List.nil_append])) (c_add3a l G h v x (mc + 1) hE) yd_Jx4a65c_add_72be8 ml_Jx4a65c_131 0 rfl rfl rfl rfl hl.1 rfl (Nat.le_of_ble_eq_true rfl) ⟨Nat.le_of_ble_eq_true rfl, Nat.le_of_ble_eq_true rfl⟩ ⟨by show 0 + 1 ≤ 1; omega, by show 0 + 10 ≤ 10; omega⟩ dJx4a65c_add_9ea2d_20 (fun v' u H locs hp hW => ?_)
  obtain ⟨q2, rfl, rfl⟩ := hp
  refine lv_iconst (v := (1 : Int32)) hx hb dJx4a65c_add_9ea2d_23 (by decide) ?_
  exact zzret B hr hlk (by rfl) (hW.eq (by simp only [List.append_nil, List.nil_append])) ⟨q2, rfl, rfl⟩ (by show 0 + 1 ≤ 1; omega) (by show 0 + 10 ≤ 10; omega) dJx4a65c_add_9ea2d_24
theorem zC.at {l : Launch} {y : MethodName} {cc : ByteArray} {n : Nat} {ret : Option FieldType} {d mc ms mc' ms' : Nat} {G : zG} {av : List Value} {w w' : va_W} {post post' : Option Value → va_W → Prop} (h : zC l y cc n ret d mc ms G av w post) (e : w' = w) (e1 : mc' = mc) (e2 : ms' = ms) (e3 : post = post') : zC l y cc n ret d mc' ms' G av w' post' := by
  subst e; subst e1; subst e2; subst e3
  exact h
/-- add, whatever the row -/
theorem c_add (l : Launch) (G : zG) (h q n N v : Nat) (ad a : Nat → Nat) (c0 c1 : Nat → va_E) (x : va_E) (mc : Int32) (hc : ∀ i, i < n → zEl G (c0 i)) (hE : zEl G x) (h1 : c1 n = x) (h3 : ∀ j, j < n → c1 j = c0 j) (hnN : n ≤ N) (hN0 : N = 0 ∨ 2 ≤ N) (hN : N ≤ 300000) :
    zC l yJx4a65c_add_9ea2d cJx4a65c_add_9ea2d 2 (some .boolean) 6 (if n < N then 0 else 1) (if n < N then 0 else zNc n N) G [.ref h, .ref v] (alW G h ad (mc, zLv G N q, nI n) ++ (rwW G q a (n, N) ++ (sgW n a c0 ++ [(v, x)])))
      (fun r u => ∃ q2 : Nat, r = some (.int 1) ∧ u = alW G h ad (mc + 1, zLv G (zNc n N) q2, nI (n + 1)) ++ (rwW G q2 (va_up a n v) (n + 1, zNc n N) ++ sgW (n + 1) (va_up a n v) c1)) := by
  by_cases c : n < N
  · have e1 : zNc n N = N := if_pos c
    rw [e1]
    refine (c_addb l G h q n N v a c0 c1 x mc hc hE h1 h3 c (by omega)).at ?_ (if_pos c) (if_pos c) ?_
    · rw [rw_p (by omega), zLv_p (by omega)]; rfl
    · funext r u
      refine congrArg Exists (funext fun q2 => ?_)
      rw [rw_p (by omega), zLv_p (by omega)]; rfl
  · by_cases c2 : N = 0
    · have hn0 : n = 0 := by omega
      subst c2; subst hn0
      refine (c_adda l G h v x mc hE).at rfl rfl rfl ?_
      funext r u
      refine congrArg Exists (funext fun q2 => ?_)
      rw [show zNc 0 0 = 10 from rfl, rw_p (by omega), zLv_p (by omega)]
      have e2 : sgW (0 + 1) (va_up a 0 v) c1 = [(v, x)] := by
        rw [← sg_add (c0 := c0) h1 h3]; rfl
      have e3 : va_up (fun _ => none) 0 (some v) = laF (0 + 1) (va_up a 0 v) := by
        rw [← laF_up]; rfl
      rw [e2, e3]
      rfl
    · have e0 : N = n := by omega
      have e1 : zNc n N = n + n / 2 := by unfold zNc; rw [if_neg c, if_neg c2, e0]
      rw [e1]
      refine (c_addc l G h q n N v a c0 c1 x mc hc hE h1 h3 e0 (by omega) (by omega)).at ?_ (if_neg c) (if_neg c) ?_
      · rw [rw_p (by omega), zLv_p (by omega), e0]; rfl
      · funext r u
        refine congrArg Exists (funext fun q2 => ?_)
        rw [rw_p (by omega), zLv_p (by omega)]; rfl
