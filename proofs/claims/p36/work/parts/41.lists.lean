abbrev zAL : Type := Int32 × Value × Int32
def alW (G : zG) (h : Nat) (ad : Nat → Nat) (x : zAL) : va_W := [(h, .inr (3, [.int x.1, x.2.1, .int x.2.2]))]
abbrev zIt : Type := Int32 × Int32 × Int32
def itW (G : zG) (h : Nat) (ad : Nat → Nat) (x : zIt) : va_W := [(h, .inr (2, [.int x.1, .int x.2.1, .int x.2.2, .ref (ad 0)]))]
set_option maxHeartbeats 4000000 in
set_option maxRecDepth 100000 in
theorem c_Jxa1e45_init_da8c8 (l : Launch) (G : zG) (h : Nat) (fs : List Value) : zC l yJxa1e45_init_da8c8 cJxa1e45_init_da8c8 1 none 1 0 0 G [.ref h] [(h, .inr (3, fs))] (fun r u => r = none ∧ u = [(h, .inr (3, fs))]) := by
  refine zC.of RJxa1e45 rfl (by decide) (Nat.le_of_ble_eq_true rfl) ?_
  intro p e s m args below meth c A ls B hr hlk hnm hW hl
  have hx := B.x
  have hb := B.b
  have hl : lv_has ls 1 [(0, .ref h)] := hl
  refine lv_aload_n hx hb dJxa1e45_init_da8c8_0 rfl (lv_at hl 0 rfl) ?_
  refine zobj B hl.1 ml_Jxa1e45_1 (Nat.le_of_ble_eq_true rfl) (Nat.le_of_ble_eq_true rfl) dJxa1e45_init_da8c8_1 ?_
  exact zvret B hr hlk hW ⟨rfl, rfl⟩ (Nat.le_refl _) (Nat.le_refl _) dJxa1e45_init_da8c8_4
set_option maxHeartbeats 4000000 in
set_option maxRecDepth 100000 in
theorem c_Jxc12de_init_da8c8 (l : Launch) (G : zG) (h : Nat) (v z : Value) (k : Int32) : zC l yJxc12de_init_da8c8 cJxc12de_init_da8c8 1 none 2 0 0 G [.ref h] [(h, .inr (3, [.int k, v, z]))] (fun r u => r = none ∧ u = [(h, .inr (3, [.int 0, v, z]))]) := by
  refine zC.of RJxc12de rfl (by decide) (Nat.le_of_ble_eq_true rfl) ?_
  intro p e s m args below meth c A ls B hr hlk hnm hW hl
  have hx := B.x
  have hb := B.b
  have hl : lv_has ls 1 [(0, .ref h)] := hl
  refine lv_aload_n hx hb dJxc12de_init_da8c8_0 rfl (lv_at hl 0 rfl) ?_
  refine zcI (w1 := []) (wc := [(h, .inr (3, [.int k, v, z]))]) (w2 := []) (As := []) B (hW.eq rfl) (c_Jxa1e45_init_da8c8 l G h _) yd_Jxa1e45_init_da8c8 ml_Jxc12de_1 rfl hl.1 rfl (Nat.le_of_ble_eq_true rfl) ⟨Nat.le_of_ble_eq_true rfl, Nat.le_of_ble_eq_true rfl⟩ ⟨Nat.le_of_ble_eq_true rfl, Nat.le_of_ble_eq_true rfl⟩ dJxc12de_init_da8c8_1 (fun v u H locs hp hW => ?_)
  obtain ⟨rfl, rfl⟩ := hp
  refine lv_aload_n hx hb dJxc12de_init_da8c8_4 rfl (lv_at hl 0 rfl) ?_
  refine lv_iconst (v := (0 : Int32)) hx hb dJxc12de_init_da8c8_5 (by decide) ?_
  refine zput B hW 0 rfl lf_Jxc12de_7 ft_Jx4a65c_0 rfl rfl (Nat.le_of_ble_eq_true rfl) dJxc12de_init_da8c8_6 (fun H locs hW => ?_)
  exact zvret B hr hlk (hW.eq rfl) ⟨rfl, rfl⟩ (Nat.le_of_ble_eq_true rfl) (Nat.le_of_ble_eq_true rfl) dJxc12de_init_da8c8_9
def i_Jx4a65c_init (G : zG) : zAL := ((0 : Int32), .ref G.2.2, (0 : Int32))
set_option maxHeartbeats 4000000 in
set_option maxRecDepth 100000 in
/-- new ArrayList() -/
theorem c_Jx4a65c_init_da8c8 (l : Launch) (G : zG) (h : Nat) : zC l yJx4a65c_init_da8c8 cJx4a65c_init_da8c8 1 none 3 0 0 G [.ref h] [(h, .inr (3, [.int 0, .null, .int 0]))] (fun r u => ∃ ad : Nat → Nat, r = none ∧ u = alW G h ad (i_Jx4a65c_init G)) := by
  refine zC.of RJx4a65c rfl (by decide) (Nat.le_of_ble_eq_true rfl) ?_
  intro p e s m args below meth c A ls B hr hlk hnm hW hl
  have hx := B.x
  have hb := B.b
  have hl : lv_has ls 1 [(0, .ref h)] := hl
  refine lv_aload_n hx hb dJx4a65c_init_da8c8_0 rfl (lv_at hl 0 rfl) ?_
  refine zcI (w1 := []) (wc := [(h, .inr (3, [.int 0, .null, .int 0]))]) (w2 := []) (As := []) B (hW.eq rfl) (c_Jxc12de_init_da8c8 l G h .null (.int 0) 0) yd_Jxc12de_init_da8c8 ml_Jx4a65c_1 rfl hl.1 rfl (Nat.le_of_ble_eq_true rfl) ⟨Nat.le_of_ble_eq_true rfl, Nat.le_of_ble_eq_true rfl⟩ ⟨Nat.le_of_ble_eq_true rfl, Nat.le_of_ble_eq_true rfl⟩ dJx4a65c_init_da8c8_1 (fun v u H locs hp hW => ?_)
  obtain ⟨rfl, rfl⟩ := hp
  refine lv_aload_n hx hb dJx4a65c_init_da8c8_4 rfl (lv_at hl 0 rfl) ?_
  refine zgetD B hW lg_Jx4a65c_39 dJx4a65c_init_da8c8_5 ?_
  refine zput B hW 0 rfl lf_Jx4a65c_9 ft_Jx4a65c_1 rfl rfl (Nat.le_of_ble_eq_true rfl) dJx4a65c_init_da8c8_8 (fun H locs hW => ?_)
  exact zvret B hr hlk (hW.eq rfl) ⟨fun _ => 0, rfl, rfl⟩ (Nat.le_of_ble_eq_true rfl) (Nat.le_of_ble_eq_true rfl) dJx4a65c_init_da8c8_11
def r_Jx4a65c_size_8abf5 (li_2 : Int32) : Int32 := li_2
abbrev po_Jx4a65c_size_8abf5 (G : zG) (h : Nat) (ad : Nat → Nat) (li : zAL) : Option Value → va_W → Prop := fun r u => r = some (.int (r_Jx4a65c_size_8abf5 li.2.2)) ∧ u = alW G h ad li
set_option maxHeartbeats 4000000 in
set_option maxRecDepth 100000 in
theorem c_Jx4a65c_size_8abf5 (l : Launch) (G : zG) (h : Nat) (ad : Nat → Nat) (li : zAL) : zC l yJx4a65c_size_8abf5 cJx4a65c_size_8abf5 1 (some .int) 0 0 0 G [.ref h] (alW G h ad li) (po_Jx4a65c_size_8abf5 G h ad li) := by
  refine zC.of RJx4a65c rfl (by decide) (Nat.le_of_ble_eq_true rfl) ?_
  intro p e s m args below meth c A ls B hr hlk hnm hW hl
  have hx := B.x
  have hb := B.b
  have hl : lv_has ls 1 [(0, .ref h)] := hl
  refine lv_aload_n hx hb dJx4a65c_size_8abf5_0 rfl (lv_at hl 0 rfl) ?_
  refine zget B hW 0 rfl lf_Jx4a65c_48 rfl dJx4a65c_size_8abf5_1 ?_
  exact ziret B hr hlk hW ⟨rfl, rfl⟩ (Nat.le_refl _) (Nat.le_refl _) dJx4a65c_size_8abf5_4
def r_Jx4a65c_isEmpty_aae02 (li_2 : Int32) : Int32 := (if li_2 = (0 : Int32) then (1 : Int32) else (0 : Int32))
abbrev po_Jx4a65c_isEmpty_aae02 (G : zG) (h : Nat) (ad : Nat → Nat) (li : zAL) : Option Value → va_W → Prop := fun r u => r = some (.int (r_Jx4a65c_isEmpty_aae02 li.2.2)) ∧ u = alW G h ad li
set_option maxHeartbeats 4000000 in
set_option maxRecDepth 100000 in
theorem c_Jx4a65c_isEmpty_aae02 (l : Launch) (G : zG) (h : Nat) (ad : Nat → Nat) (li : zAL) : zC l yJx4a65c_isEmpty_aae02 cJx4a65c_isEmpty_aae02 1 (some .boolean) 0 0 0 G [.ref h] (alW G h ad li) (po_Jx4a65c_isEmpty_aae02 G h ad li) := by
  refine zC.of RJx4a65c rfl (by decide) (Nat.le_of_ble_eq_true rfl) ?_
  intro p e s m args below meth c A ls B hr hlk hnm hW hl
  have hx := B.x
  have hb := B.b
  have hl : lv_has ls 1 [(0, .ref h)] := hl
  refine lv_aload_n hx hb dJx4a65c_isEmpty_aae02_0 rfl (lv_at hl 0 rfl) ?_
  refine zget B hW 0 rfl lf_Jx4a65c_48 rfl dJx4a65c_isEmpty_aae02_1 ?_
  have J_1 : ∀ (H : Heap) (locs : List Loc) (ls : Array Slot), zW G A s.heap H locs (alW G h ad li) → lv_has ls 1 [] → W p l e (zRm 0 0 0) s m args below meth c H locs 0 0 (MQ below (zQ G A (po_Jx4a65c_isEmpty_aae02 G h ad li)) args s 0 0 A) (F0 m 12 ls [.int (if li.2.2 = (0 : Int32) then (1 : Int32) else (0 : Int32))]) := by
    intro H locs ls hW hl
    exact zzret B hr hlk (by (repeat' split) <;> rfl) hW ⟨rfl, rfl⟩ (Nat.le_refl _) (Nat.le_refl _) dJx4a65c_isEmpty_aae02_12
  refine lv_if_ne (tgt := 11) hx hb dJx4a65c_isEmpty_aae02_4 (by decide) (fun c_4 => ?_) (fun c_4 => ?_)
  · refine lv_iconst (v := (0 : Int32)) hx hb dJx4a65c_isEmpty_aae02_11 (by decide) ?_
    have e_0 : (if li.2.2 = (0 : Int32) then (1 : Int32) else (0 : Int32)) = (0 : Int32) := if_neg c_4
    refine W.eq (g2 := F0 m 12 ls [.int (if li.2.2 = (0 : Int32) then (1 : Int32) else (0 : Int32))]) (by (try rw [e_0]) <;> rfl) ?_
    exact J_1 _ _ _ (hW.eq (by (try rw [e_0]) <;> rfl)) (by (try rw [e_0]) <;> exact lv_sub hl [] rfl)
  · refine lv_iconst (v := (1 : Int32)) hx hb dJx4a65c_isEmpty_aae02_7 (by decide) ?_
    refine lv_goto (tgt := 12) hx hb dJx4a65c_isEmpty_aae02_8 (by decide) ?_
    have e_0 : (if li.2.2 = (0 : Int32) then (1 : Int32) else (0 : Int32)) = (1 : Int32) := if_pos c_4
    refine W.eq (g2 := F0 m 12 ls [.int (if li.2.2 = (0 : Int32) then (1 : Int32) else (0 : Int32))]) (by (try rw [e_0]) <;> rfl) ?_
    exact J_1 _ _ _ (hW.eq (by (try rw [e_0]) <;> rfl)) (by (try rw [e_0]) <;> exact lv_sub hl [] rfl)
def i_Jx35411_init_45d68 (li : zAL) : zIt := (0, (-1 : Int32), li.1)
abbrev po_Jx35411_init_45d68 (G : zG) (h : Nat) (h2 : Nat) (ad2 : Nat → Nat) (li : zAL) : Option Value → va_W → Prop := fun r u => r = none ∧ u = itW G h (zads [h2]) (i_Jx35411_init_45d68 li) ++ (alW G h2 ad2 li)
set_option maxHeartbeats 4000000 in
set_option maxRecDepth 100000 in
theorem c_Jx35411_init_45d68 (l : Launch) (G : zG) (h : Nat) (h2 : Nat) (ad2 : Nat → Nat) (li : zAL) : zC l yJx35411_init_45d68 cJx35411_init_45d68 2 none 1 0 0 G [.ref h, .ref h2] (([(h, .inr (2, [.int 0, .int 0, .int 0, .null]))] : va_W) ++ (alW G h2 ad2 li)) (po_Jx35411_init_45d68 G h h2 ad2 li) := by
  refine zC.of RJx35411 rfl (by decide) (Nat.le_of_ble_eq_true rfl) ?_
  intro p e s m args below meth c A ls B hr hlk hnm hW hl
  have hx := B.x
  have hb := B.b
  have hl : lv_has ls 2 [(0, .ref h), (1, .ref h2)] := hl
  refine lv_aload_n hx hb dJx35411_init_45d68_0 rfl (lv_at hl 0 rfl) ?_
  refine lv_aload_n hx hb dJx35411_init_45d68_1 rfl (lv_at hl 1 rfl) ?_
  refine zputF B hW hnm 0 rfl lf_Jx35411_1 ft_Jx35411_3 (fun C T N h => by have e := Option.some.inj h; cases e; rfl) rfl rfl (Nat.le_of_ble_eq_true rfl) dJx35411_init_45d68_2 (fun H locs hW => ?_)
  have hW := hW.eq (w' := ([(h, .inr (2, [.int 0, .int 0, .int 0, .ref h2]))] : va_W) ++ (alW G h2 ad2 li)) rfl
  refine lv_aload_n hx hb dJx35411_init_45d68_5 rfl (lv_at hl 0 rfl) ?_
  refine zobj B hl.1 ml_Jx35411_7 (Nat.le_of_ble_eq_true rfl) (Nat.le_of_ble_eq_true rfl) dJx35411_init_45d68_6 ?_
  refine lv_aload_n hx hb dJx35411_init_45d68_9 rfl (lv_at hl 0 rfl) ?_
  refine lv_iconst (v := (-1 : Int32)) hx hb dJx35411_init_45d68_10 (by decide) ?_
  refine zput B hW 0 rfl lf_Jx35411_13 ft_Jx35411_1 rfl rfl (Nat.le_of_ble_eq_true rfl) dJx35411_init_45d68_11 (fun H locs hW => ?_)
  have hW := hW.eq (w' := ([(h, .inr (2, [.int 0, .int (-1 : Int32), .int 0, .ref h2]))] : va_W) ++ (alW G h2 ad2 li)) rfl
  refine lv_aload_n hx hb dJx35411_init_45d68_14 rfl (lv_at hl 0 rfl) ?_
  refine lv_aload_n hx hb dJx35411_init_45d68_15 rfl (lv_at hl 0 rfl) ?_
  refine zget B hW 0 rfl lf_Jx35411_1 rfl dJx35411_init_45d68_16 ?_
  refine zgetS B hW 1 rfl lf_Jx35411_17 rfl dJx35411_init_45d68_19 ?_
  refine zput B hW 0 rfl lf_Jx35411_22 ft_Jx35411_2 rfl rfl (Nat.le_of_ble_eq_true rfl) dJx35411_init_45d68_22 (fun H locs hW => ?_)
  have hW := hW.eq (w' := ([(h, .inr (2, [.int 0, .int (-1 : Int32), .int li.1, .ref h2]))] : va_W) ++ (alW G h2 ad2 li)) rfl
  have hW := hW.sub (w' := itW G h (zads [h2]) (0, (-1 : Int32), li.1) ++ (alW G h2 ad2 li)) [0, 1] rfl rfl
  exact zvret B hr hlk hW ⟨rfl, rfl⟩ (Nat.le_of_ble_eq_true rfl) (Nat.le_of_ble_eq_true rfl) dJx35411_init_45d68_25
abbrev po_Jx4a65c_iterator_32c93 (G : zG) (h : Nat) (ad : Nat → Nat) (li : zAL) : Option Value → va_W → Prop := fun r u => ∃ (h_it : Nat), r = some (.ref h_it) ∧ u = alW G h ad li ++ (itW G h_it (zads [h]) (i_Jx35411_init_45d68 li))
set_option maxHeartbeats 4000000 in
set_option maxRecDepth 100000 in
theorem c_Jx4a65c_iterator_32c93 (l : Launch) (G : zG) (h : Nat) (ad : Nat → Nat) (li : zAL) : zC l yJx4a65c_iterator_32c93 cJx4a65c_iterator_32c93 1 (some (.object "java/util/Iterator")) 2 1 4 G [.ref h] (alW G h ad li) (po_Jx4a65c_iterator_32c93 G h ad li) := by
  refine zC.of RJx4a65c rfl (by decide) (Nat.le_of_ble_eq_true rfl) ?_
  intro p e s m args below meth c A ls B hr hlk hnm hW hl
  have hx := B.x
  have hb := B.b
  have hl : lv_has ls 1 [(0, .ref h)] := hl
  refine znew B hW 2 4 tyJx35411 rfl in_Jx35411 tyJx35411_ok kl_Jx4a65c_267 ki_Jx35411 kz_Jx35411 rfl (Nat.le_of_ble_eq_true rfl) (Nat.le_of_ble_eq_true rfl) dJx4a65c_iterator_32c93_0 (fun q_0 H hW => ?_)
  have hW := hW.eq (w' := alW G h ad li ++ (([(q_0, .inr (2, [.int 0, .int 0, .int 0, .null]))] : va_W))) rfl
  refine lv_dup hx hb dJx4a65c_iterator_32c93_3 rfl ?_
  refine lv_aload_n hx hb dJx4a65c_iterator_32c93_4 rfl (lv_at hl 0 rfl) ?_
  have hW := hW.sub (w' := ([(q_0, .inr (2, [.int 0, .int 0, .int 0, .null]))] : va_W) ++ (alW G h ad li)) [1, 0] rfl rfl
  refine zcI (w1 := []) (wc := ([(q_0, .inr (2, [.int 0, .int 0, .int 0, .null]))] : va_W) ++ (alW G h ad li)) (w2 := []) (As := [.ref h]) B (hW.eq rfl) (c_Jx35411_init_45d68 l G q_0 h ad li) yd_Jx35411_init_45d68 ml_Jx4a65c_269 rfl hl.1 rfl (Nat.le_of_ble_eq_true rfl) ⟨Nat.le_of_ble_eq_true rfl, Nat.le_of_ble_eq_true rfl⟩ ⟨(Nat.le_of_ble_eq_true rfl), (Nat.le_of_ble_eq_true rfl)⟩ dJx4a65c_iterator_32c93_5 (fun v u H locs hp hW => ?_)
  obtain ⟨rfl, rfl⟩ := hp
  have hW := hW.eq (w' := itW G q_0 (zads [h]) (i_Jx35411_init_45d68 li) ++ (alW G h ad li)) rfl
  have hW := hW.sub (w' := alW G h ad li ++ (itW G q_0 (zads [h]) (i_Jx35411_init_45d68 li))) [1, 0] rfl rfl
  exact zaret B hr hlk (Or.inl ⟨_, rfl⟩) (Or.inr ⟨_, rfl⟩) hW ⟨q_0, rfl, rfl⟩ (Nat.le_refl _) (Nat.le_refl _) dJx4a65c_iterator_32c93_8
def r_Jx35411_hasNext_aae02 (it_0 : Int32) (li_2 : Int32) : Int32 := (if it_0 = li_2 then (0 : Int32) else (1 : Int32))
abbrev po_Jx35411_hasNext_aae02 (G : zG) (h : Nat) (ad : Nat → Nat) (it : zIt) (ad2 : Nat → Nat) (li : zAL) : Option Value → va_W → Prop := fun r u => r = some (.int (r_Jx35411_hasNext_aae02 it.1 li.2.2)) ∧ u = itW G h ad it ++ (alW G (ad 0) ad2 li)
set_option maxHeartbeats 4000000 in
set_option maxRecDepth 100000 in
theorem c_Jx35411_hasNext_aae02 (l : Launch) (G : zG) (h : Nat) (ad : Nat → Nat) (it : zIt) (ad2 : Nat → Nat) (li : zAL) : zC l yJx35411_hasNext_aae02 cJx35411_hasNext_aae02 1 (some .boolean) 0 0 0 G [.ref h] (itW G h ad it ++ (alW G (ad 0) ad2 li)) (po_Jx35411_hasNext_aae02 G h ad it ad2 li) := by
  refine zC.of RJx35411 rfl (by decide) (Nat.le_of_ble_eq_true rfl) ?_
  intro p e s m args below meth c A ls B hr hlk hnm hW hl
  have hx := B.x
  have hb := B.b
  have hl : lv_has ls 1 [(0, .ref h)] := hl
  refine lv_aload_n hx hb dJx35411_hasNext_aae02_0 rfl (lv_at hl 0 rfl) ?_
  refine zget B hW 0 rfl lf_Jx35411_25 rfl dJx35411_hasNext_aae02_1 ?_
  refine lv_aload_n hx hb dJx35411_hasNext_aae02_4 rfl (lv_at hl 0 rfl) ?_
  refine zget B hW 0 rfl lf_Jx35411_1 rfl dJx35411_hasNext_aae02_5 ?_
  refine zgetN B hW 1 rfl lf_Jx35411_28 rfl dJx35411_hasNext_aae02_8 ?_
  have J_1 : ∀ (H : Heap) (locs : List Loc) (ls : Array Slot), zW G A s.heap H locs (itW G h ad it ++ (alW G (ad 0) ad2 li)) → lv_has ls 1 [] → W p l e (zRm 0 0 0) s m args below meth c H locs 0 0 (MQ below (zQ G A (po_Jx35411_hasNext_aae02 G h ad it ad2 li)) args s 0 0 A) (F0 m 19 ls [.int (if it.1 = li.2.2 then (0 : Int32) else (1 : Int32))]) := by
    intro H locs ls hW hl
    exact zzret B hr hlk (by (repeat' split) <;> rfl) hW ⟨rfl, rfl⟩ (Nat.le_refl _) (Nat.le_refl _) dJx35411_hasNext_aae02_19
  refine lv_icmp_eq (tgt := 18) hx hb dJx35411_hasNext_aae02_11 (by decide) (fun c_11 => ?_) (fun c_11 => ?_)
  · refine lv_iconst (v := (0 : Int32)) hx hb dJx35411_hasNext_aae02_18 (by decide) ?_
    have e_0 : (if it.1 = li.2.2 then (0 : Int32) else (1 : Int32)) = (0 : Int32) := if_pos c_11
    refine W.eq (g2 := F0 m 19 ls [.int (if it.1 = li.2.2 then (0 : Int32) else (1 : Int32))]) (by (try rw [e_0]) <;> rfl) ?_
    exact J_1 _ _ _ (hW.eq (by (try rw [e_0]) <;> rfl)) (by (try rw [e_0]) <;> exact lv_sub hl [] rfl)
  · refine lv_iconst (v := (1 : Int32)) hx hb dJx35411_hasNext_aae02_14 (by decide) ?_
    refine lv_goto (tgt := 19) hx hb dJx35411_hasNext_aae02_15 (by decide) ?_
    have e_0 : (if it.1 = li.2.2 then (0 : Int32) else (1 : Int32)) = (1 : Int32) := if_neg c_11
    refine W.eq (g2 := F0 m 19 ls [.int (if it.1 = li.2.2 then (0 : Int32) else (1 : Int32))]) (by (try rw [e_0]) <;> rfl) ?_
    exact J_1 _ _ _ (hW.eq (by (try rw [e_0]) <;> rfl)) (by (try rw [e_0]) <;> exact lv_sub hl [] rfl)
