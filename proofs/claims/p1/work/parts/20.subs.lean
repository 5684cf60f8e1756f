def r_X4_trustsAreLike (se_0 : Nat → Int32) (se_8 : Int32) (so_0 : Nat → Int32) (so_8 : Int32) (n : Nat) : Int32 := (if se_8 = so_8 then (if ∀ j : Nat, j < n → (se_0 j) = (so_0 j) then (1 : Int32) else (0 : Int32)) else (0 : Int32))
abbrev po_X4_trustsAreLike (G : zG) (h : Nat) (ad : Nat → Nat) (se : zSens) (h2 : Nat) (ad2 : Nat → Nat) (so : zSens) (n : Nat) : Option Value → va_W → Prop := fun r u => r = some (.int (r_X4_trustsAreLike se.1 se.2.2.2.2.2.2.2.2.1 so.1 so.2.2.2.2.2.2.2.2.1 n)) ∧ u = sensW G h ad se ++ (sensW G h2 ad2 so)
set_option maxHeartbeats 4000000 in
set_option maxRecDepth 100000 in
theorem c_X4_trustsAreLike (l : Launch) (G : zG) (h : Nat) (ad : Nat → Nat) (se : zSens) (h2 : Nat) (ad2 : Nat → Nat) (so : zSens) (n : Nat) (hc : se.2.2.2.2.2.2.2.2.1 = nI n) (hn : n ≤ 10) : zC l yX4_trustsAreLike cX4_trustsAreLike 3 (some .boolean) 0 0 0 G [.ref h, .ref h2] (sensW G h ad se ++ (sensW G h2 ad2 so)) (po_X4_trustsAreLike G h ad se h2 ad2 so n) := by
  refine zC.of RX4 rfl (by decide) (Nat.le_of_ble_eq_true rfl) ?_
  intro p e s m args below meth c A ls B hr hlk hnm hW hl
  have hx := B.x
  have hb := B.b
  have hl : lv_has ls 3 [(0, .ref h), (1, .ref h2)] := hl
  refine lv_aload_n hx hb dX4_trustsAreLike_0 rfl (lv_at hl 0 rfl) ?_
  refine zget B hW 0 rfl lf_X4_37 rfl dX4_trustsAreLike_1 ?_
  refine lv_aload_n hx hb dX4_trustsAreLike_4 rfl (lv_at hl 1 rfl) ?_
  refine zget B hW 9 rfl lf_X4_37 rfl dX4_trustsAreLike_5 ?_
  refine lv_icmp_eq (tgt := 13) hx hb dX4_trustsAreLike_8 (by decide) (fun c_8 => ?_) (fun c_8 => ?_)
  · refine lv_iconst (v := (0 : Int32)) hx hb dX4_trustsAreLike_13 (by decide) ?_
    refine lv_istore_n hx hb dX4_trustsAreLike_14 rfl hl (by decide) rfl (fun ls hl => ?_)
    have L_1 : ∀ i_15 : Nat, i_15 ≤ n → (∀ j : Nat, j < i_15 → (se.1 j) = (so.1 j)) → ∀ (H : Heap) (locs : List Loc) (ls : Array Slot), zW G A s.heap H locs (sensW G h ad se ++ (sensW G h2 ad2 so)) → lv_has ls 3 [(0, .ref h), (1, .ref h2), (2, .int (nI i_15))] → W p l e (zRm 0 0 0) s m args below meth c H locs 0 0 (MQ below (zQ G A (po_X4_trustsAreLike G h ad se h2 ad2 so n)) args s 0 0 A) (F0 m 15 ls []) := by
      refine zloop n ?_ ?_
      · intro hj H locs ls hW hl
        have hall : ∀ j : Nat, j < n → (se.1 j) = (so.1 j) := hj
        refine lv_iload_n hx hb dX4_trustsAreLike_15 rfl (lv_at hl 2 rfl) ?_
        refine lv_aload_n hx hb dX4_trustsAreLike_16 rfl (lv_at hl 0 rfl) ?_
        refine zget B hW 0 rfl lf_X4_37 rfl dX4_trustsAreLike_17 ?_
        refine lv_icmp_ge (tgt := 46) hx hb dX4_trustsAreLike_20 (by decide) (fun c_20 => ?_) (fun c_20 => absurd (zge (hc)) c_20)
        refine lv_iconst (v := (1 : Int32)) hx hb dX4_trustsAreLike_46 (by decide) ?_
        have e_0 : (if se.2.2.2.2.2.2.2.2.1 = so.2.2.2.2.2.2.2.2.1 then (if ∀ j : Nat, j < n → (se.1 j) = (so.1 j) then (1 : Int32) else (0 : Int32)) else (0 : Int32)) = (1 : Int32) := (if_pos c_8).trans (if_pos hall)
        exact zzret B hr hlk (by (repeat' split) <;> rfl) hW ⟨by show _ = some (Value.int (if se.2.2.2.2.2.2.2.2.1 = so.2.2.2.2.2.2.2.2.1 then (if ∀ j : Nat, j < n → (se.1 j) = (so.1 j) then (1 : Int32) else (0 : Int32)) else (0 : Int32))) <;> (try rw [e_0]) <;> rfl, by show _ = sensW G h ad se ++ (sensW G h2 ad2 so) <;> (try rw [e_0]) <;> rfl⟩ (Nat.le_refl _) (Nat.le_refl _) dX4_trustsAreLike_47
      · intro i_15 hi_15 ih hj H locs ls hW hl
        refine lv_iload_n hx hb dX4_trustsAreLike_15 rfl (lv_at hl 2 rfl) ?_
        refine lv_aload_n hx hb dX4_trustsAreLike_16 rfl (lv_at hl 0 rfl) ?_
        refine zget B hW 0 rfl lf_X4_37 rfl dX4_trustsAreLike_17 ?_
        refine lv_icmp_ge (tgt := 46) hx hb dX4_trustsAreLike_20 (by decide) (fun c_20 => absurd c_20 (znle (hc) hi_15 (by omega))) (fun c_20 => ?_)
        refine lv_aload_n hx hb dX4_trustsAreLike_23 rfl (lv_at hl 0 rfl) ?_
        refine zget B hW 0 rfl lf_X4_9 rfl dX4_trustsAreLike_24 ?_
        refine lv_iload_n hx hb dX4_trustsAreLike_27 rfl (lv_at hl 2 rfl) ?_
        refine zialdN B hW 1 rfl i_15 rfl (by omega) (by decide) dX4_trustsAreLike_28 ?_
        refine lv_aload_n hx hb dX4_trustsAreLike_29 rfl (lv_at hl 1 rfl) ?_
        refine zget B hW 9 rfl lf_X4_9 rfl dX4_trustsAreLike_30 ?_
        refine lv_iload_n hx hb dX4_trustsAreLike_33 rfl (lv_at hl 2 rfl) ?_
        refine zialdN B hW 10 rfl i_15 rfl (by omega) (by decide) dX4_trustsAreLike_34 ?_
        refine lv_icmp_eq (tgt := 40) hx hb dX4_trustsAreLike_35 (by decide) (fun c_35 => ?_) (fun c_35 => ?_)
        · refine lv_iinc (v := (nI (i_15 + 1))) hx hb dX4_trustsAreLike_40 hl (k := 2) rfl (nI_1 _) (by decide) rfl (fun ls hl => ?_)
          refine lv_goto (tgt := 15) hx hb dX4_trustsAreLike_43 (by decide) ?_
          exact ih (lt_s hj (by first | exact (by assumption) | exact ⟨by assumption, by assumption, by assumption⟩)) _ _ _ (hW.eq rfl) (lv_sub hl [1, 2, 0] rfl)
        · refine lv_iconst (v := (0 : Int32)) hx hb dX4_trustsAreLike_38 (by decide) ?_
          have hall : ¬ (∀ j : Nat, j < n → (se.1 j) = (so.1 j)) := fun z => by
                            have z1 := z _ hi_15
                            first | exact absurd z1 (by assumption) | exact absurd z1.1 (by assumption) | exact absurd z1.2.1 (by assumption) | exact absurd z1.2.2 (by assumption)
          have e_0 : (if se.2.2.2.2.2.2.2.2.1 = so.2.2.2.2.2.2.2.2.1 then (if ∀ j : Nat, j < n → (se.1 j) = (so.1 j) then (1 : Int32) else (0 : Int32)) else (0 : Int32)) = (0 : Int32) := (if_pos c_8).trans (if_neg hall)
          exact zzret B hr hlk (by (repeat' split) <;> rfl) hW ⟨by show _ = some (Value.int (if se.2.2.2.2.2.2.2.2.1 = so.2.2.2.2.2.2.2.2.1 then (if ∀ j : Nat, j < n → (se.1 j) = (so.1 j) then (1 : Int32) else (0 : Int32)) else (0 : Int32))) <;> (try rw [e_0]) <;> rfl, by show _ = sensW G h ad se ++ (sensW G h2 ad2 so) <;> (try rw [e_0]) <;> rfl⟩ (Nat.le_refl _) (Nat.le_refl _) dX4_trustsAreLike_39
    exact L_1 0 (Nat.zero_le _) (fun j hj => absurd hj (Nat.not_lt_zero j)) _ _ _ (hW.eq rfl) (lv_sub hl [1, 2, 0] rfl)
  · refine lv_iconst (v := (0 : Int32)) hx hb dX4_trustsAreLike_11 (by decide) ?_
    have e_0 : (if se.2.2.2.2.2.2.2.2.1 = so.2.2.2.2.2.2.2.2.1 then (if ∀ j : Nat, j < n → (se.1 j) = (so.1 j) then (1 : Int32) else (0 : Int32)) else (0 : Int32)) = (0 : Int32) := if_neg c_8
    exact zzret B hr hlk (by (repeat' split) <;> rfl) hW ⟨by show _ = some (Value.int (if se.2.2.2.2.2.2.2.2.1 = so.2.2.2.2.2.2.2.2.1 then (if ∀ j : Nat, j < n → (se.1 j) = (so.1 j) then (1 : Int32) else (0 : Int32)) else (0 : Int32))) <;> (try rw [e_0]) <;> rfl, by show _ = sensW G h ad se ++ (sensW G h2 ad2 so) <;> (try rw [e_0]) <;> rfl⟩ (Nat.le_refl _) (Nat.le_refl _) dX4_trustsAreLike_12
abbrev zSubs : Type := (Nat → Int32) × (Nat → Int32) × (Nat → Int32) × (Nat → Int32) × (Nat → Int32) × Int32 × (Nat → Int32) × (Nat → Int32) × (Nat → Int32) × (Nat) × (Nat) × (Nat) × (Nat)
def subW (G : zG) (h : Nat) (ad : Nat → Nat) (x : zSubs) : va_W := [(h, .inr (9, [.ref (ad 0), .ref (ad 1), .ref (ad 2), .ref (ad 3), .ref (ad 4), .int x.2.2.2.2.2.1, .ref (ad 5), .ref (ad 6), .ref (ad 7), .int (nI x.2.2.2.2.2.2.2.2.2.1)])), (ad 0, .inl (G.2.1 1, 12, .inl x.1)), (ad 1, .inl (G.2.1 0, 12, .inl x.2.1)), (ad 2, .inl (G.2.1 0, 12, .inl x.2.2.1)), (ad 3, .inl (G.2.1 0, 12, .inl x.2.2.2.1)), (ad 4, .inl (G.2.1 0, 12, .inl x.2.2.2.2.1)), (ad 5, .inl (G.2.1 0, x.2.2.2.2.2.2.2.2.2.2.1, .inl x.2.2.2.2.2.2.1)), (ad 6, .inl (G.2.1 0, x.2.2.2.2.2.2.2.2.2.2.2.1, .inl x.2.2.2.2.2.2.2.1)), (ad 7, .inl (G.2.1 0, x.2.2.2.2.2.2.2.2.2.2.2.2, .inl x.2.2.2.2.2.2.2.2.1))]
def g_X5_enter_su_1 (su_1 : Nat → Int32) (su_5 : Int32) (a : Int32) : Nat → Int32 := (upd su_1 su_5.toNatClampNeg a)
def g_X5_enter_su_2 (su_2 : Nat → Int32) (su_5 : Int32) (b : Int32) : Nat → Int32 := (upd su_2 su_5.toNatClampNeg b)
def g_X5_enter_su_3 (su_3 : Nat → Int32) (su_5 : Int32) (f : Int32) : Nat → Int32 := (upd su_3 su_5.toNatClampNeg f)
def g_X5_enter_su_4 (su_4 : Nat → Int32) (su_5 : Int32) (g : Int32) : Nat → Int32 := (upd su_4 su_5.toNatClampNeg g)
def g_X5_enter_su_5 (su_5 : Int32) : Int32 := (su_5 + (1 : Int32))
def f_X5_enter_su (su : zSubs) (a : Int32) (b : Int32) (f : Int32) (g : Int32) (n : Nat) : zSubs := (su.1, g_X5_enter_su_1 su.2.1 su.2.2.2.2.2.1 a, g_X5_enter_su_2 su.2.2.1 su.2.2.2.2.2.1 b, g_X5_enter_su_3 su.2.2.2.1 su.2.2.2.2.2.1 f, g_X5_enter_su_4 su.2.2.2.2.1 su.2.2.2.2.2.1 g, g_X5_enter_su_5 su.2.2.2.2.2.1, su.2.2.2.2.2.2.1, su.2.2.2.2.2.2.2.1, su.2.2.2.2.2.2.2.2.1, su.2.2.2.2.2.2.2.2.2.1, su.2.2.2.2.2.2.2.2.2.2.1, su.2.2.2.2.2.2.2.2.2.2.2.1, su.2.2.2.2.2.2.2.2.2.2.2.2)
def r_X5_enter (su_5 : Int32) : Int32 := su_5
abbrev po_X5_enter (G : zG) (h : Nat) (ad : Nat → Nat) (su : zSubs) (a : Int32) (b : Int32) (f : Int32) (g : Int32) (n : Nat) : Option Value → va_W → Prop := fun r u => r = some (.int (r_X5_enter su.2.2.2.2.2.1)) ∧ u = subW G h ad (f_X5_enter_su su a b f g n)
set_option maxHeartbeats 4000000 in
set_option maxRecDepth 100000 in
theorem c_X5_enter (l : Launch) (G : zG) (h : Nat) (ad : Nat → Nat) (su : zSubs) (a : Int32) (b : Int32) (f : Int32) (g : Int32) (n : Nat) (hc : su.2.2.2.2.2.1 = nI n) (hn : n < 12) : zC l yX5_enter cX5_enter 6 (some .int) 0 0 0 G [.ref h, .int a, .int b, .int f, .int g] (subW G h ad su) (po_X5_enter G h ad su a b f g n) := by
  refine zC.of RX5 rfl (by decide) (Nat.le_of_ble_eq_true rfl) ?_
  intro p e s m args below meth c A ls B hr hlk hnm hW hl
  have hx := B.x
  have hb := B.b
  have hl : lv_has ls 6 [(0, .ref h), (1, .int a), (2, .int b), (3, .int f), (4, .int g)] := hl
  refine lv_aload_n hx hb dX5_enter_0 rfl (lv_at hl 0 rfl) ?_
  refine zget B hW 0 rfl lf_X5_28 rfl dX5_enter_1 ?_
  refine lv_istore hx hb dX5_enter_4 hl (by decide) rfl (fun ls hl => ?_)
  refine lv_aload_n hx hb dX5_enter_6 rfl (lv_at hl 1 rfl) ?_
  refine zget B hW 0 rfl lf_X5_15 rfl dX5_enter_7 ?_
  refine lv_iload hx hb dX5_enter_10 (lv_at hl 0 rfl) ?_
  refine lv_iload_n hx hb dX5_enter_12 rfl (lv_at hl 2 rfl) ?_
  refine ziast B hW 2 rfl (by rw [hc]; exact vp_in_nI hn (by decide)) dX5_enter_13 (fun H locs hW => ?_)
  refine lv_aload_n hx hb dX5_enter_14 rfl (lv_at hl 1 rfl) ?_
  refine zget B hW 0 rfl lf_X5_19 rfl dX5_enter_15 ?_
  refine lv_iload hx hb dX5_enter_18 (lv_at hl 0 rfl) ?_
  refine lv_iload_n hx hb dX5_enter_20 rfl (lv_at hl 3 rfl) ?_
  refine ziast B hW 3 rfl (by rw [hc]; exact vp_in_nI hn (by decide)) dX5_enter_21 (fun H locs hW => ?_)
  refine lv_aload_n hx hb dX5_enter_22 rfl (lv_at hl 1 rfl) ?_
  refine zget B hW 0 rfl lf_X5_22 rfl dX5_enter_23 ?_
  refine lv_iload hx hb dX5_enter_26 (lv_at hl 0 rfl) ?_
  refine lv_iload_n hx hb dX5_enter_28 rfl (lv_at hl 4 rfl) ?_
  refine ziast B hW 4 rfl (by rw [hc]; exact vp_in_nI hn (by decide)) dX5_enter_29 (fun H locs hW => ?_)
  refine lv_aload_n hx hb dX5_enter_30 rfl (lv_at hl 1 rfl) ?_
  refine zget B hW 0 rfl lf_X5_25 rfl dX5_enter_31 ?_
  refine lv_iload hx hb dX5_enter_34 (lv_at hl 0 rfl) ?_
  refine lv_iload hx hb dX5_enter_36 (lv_at hl 5 rfl) ?_
  refine ziast B hW 5 rfl (by rw [hc]; exact vp_in_nI hn (by decide)) dX5_enter_38 (fun H locs hW => ?_)
  refine lv_aload_n hx hb dX5_enter_39 rfl (lv_at hl 1 rfl) ?_
  refine lv_dup hx hb dX5_enter_40 rfl ?_
  refine zget B hW 0 rfl lf_X5_28 rfl dX5_enter_41 ?_
  refine lv_iconst (v := (1 : Int32)) hx hb dX5_enter_44 (by decide) ?_
  refine lv_iadd hx hb dX5_enter_45 ?_
  refine zput B hW 0 rfl lf_X5_28 ft_X5_5 rfl rfl (Nat.le_of_ble_eq_true rfl) dX5_enter_46 (fun H locs hW => ?_)
  refine lv_iload hx hb dX5_enter_49 (lv_at hl 0 rfl) ?_
  exact ziret B hr hlk hW ⟨rfl, rfl⟩ (Nat.le_refl _) (Nat.le_refl _) dX5_enter_51
def r_X5_hasHour (su_3 : Nat → Int32) (su_4 : Nat → Int32) (a : Int32) (b : Int32) : Int32 := (if (if (su_3 a.toNatClampNeg) ≤ (su_4 a.toNatClampNeg) then (0 : Int32) else (1 : Int32)) = (0 : Int32) then (if (if b < (su_3 a.toNatClampNeg) then (0 : Int32) else (1 : Int32)) = (0 : Int32) then (0 : Int32) else (if (if (su_4 a.toNatClampNeg) < b then (0 : Int32) else (1 : Int32)) = (0 : Int32) then (0 : Int32) else (1 : Int32))) else (if (if b < (su_3 a.toNatClampNeg) then (0 : Int32) else (1 : Int32)) = (0 : Int32) then (if (if (su_4 a.toNatClampNeg) < b then (0 : Int32) else (1 : Int32)) = (0 : Int32) then (0 : Int32) else (1 : Int32)) else (1 : Int32)))
abbrev po_X5_hasHour (G : zG) (h : Nat) (ad : Nat → Nat) (su : zSubs) (a : Int32) (b : Int32) : Option Value → va_W → Prop := fun r u => r = some (.int (r_X5_hasHour su.2.2.2.1 su.2.2.2.2.1 a b)) ∧ u = subW G h ad su
set_option maxHeartbeats 4000000 in
set_option maxRecDepth 100000 in
theorem c_X5_hasHour (l : Launch) (G : zG) (h : Nat) (ad : Nat → Nat) (su : zSubs) (a : Int32) (b : Int32) (ha : vp_in a 12) : zC l yX5_hasHour cX5_hasHour 6 (some .boolean) 0 0 0 G [.ref h, .int a, .int b] (subW G h ad su) (po_X5_hasHour G h ad su a b) := by
  refine zC.of RX5 rfl (by decide) (Nat.le_of_ble_eq_true rfl) ?_
  intro p e s m args below meth c A ls B hr hlk hnm hW hl
  have hx := B.x
  have hb := B.b
  have hl : lv_has ls 6 [(0, .ref h), (1, .int a), (2, .int b)] := hl
  refine lv_aload_n hx hb dX5_hasHour_0 rfl (lv_at hl 0 rfl) ?_
  refine zget B hW 0 rfl lf_X5_22 rfl dX5_hasHour_1 ?_
  refine lv_iload_n hx hb dX5_hasHour_4 rfl (lv_at hl 1 rfl) ?_
  refine ziald B hW 4 rfl (ha) dX5_hasHour_5 ?_
  refine lv_iload_n hx hb dX5_hasHour_6 rfl (lv_at hl 2 rfl) ?_
  have J_1 : ∀ (H : Heap) (locs : List Loc) (ls : Array Slot), zW G A s.heap H locs (subW G h ad su) → lv_has ls 6 [(0, .ref h), (1, .int a), (2, .int b)] → W p l e (zRm 0 0 0) s m args below meth c H locs 0 0 (MQ below (zQ G A (po_X5_hasHour G h ad su a b)) args s 0 0 A) (F0 m 15 ls [.int (if b < (su.2.2.2.1 a.toNatClampNeg) then (0 : Int32) else (1 : Int32))]) := by
    intro H locs ls hW hl
    refine lv_istore_n hx hb dX5_hasHour_15 rfl hl (by decide) rfl (fun ls hl => ?_)
    refine lv_iload_n hx hb dX5_hasHour_16 rfl (lv_at hl 3 rfl) ?_
    refine lv_aload_n hx hb dX5_hasHour_17 rfl (lv_at hl 1 rfl) ?_
    refine zget B hW 0 rfl lf_X5_25 rfl dX5_hasHour_18 ?_
    refine lv_iload_n hx hb dX5_hasHour_21 rfl (lv_at hl 2 rfl) ?_
    refine ziald B hW 5 rfl (ha) dX5_hasHour_22 ?_
    have J_2 : ∀ (H : Heap) (locs : List Loc) (ls : Array Slot), zW G A s.heap H locs (subW G h ad su) → lv_has ls 6 [(0, .ref h), (1, .int a), (3, .int (if b < (su.2.2.2.1 a.toNatClampNeg) then (0 : Int32) else (1 : Int32)))] → W p l e (zRm 0 0 0) s m args below meth c H locs 0 0 (MQ below (zQ G A (po_X5_hasHour G h ad su a b)) args s 0 0 A) (F0 m 31 ls [.int (if (su.2.2.2.2.1 a.toNatClampNeg) < b then (0 : Int32) else (1 : Int32))]) := by
      intro H locs ls hW hl
      refine lv_istore hx hb dX5_hasHour_31 hl (by decide) rfl (fun ls hl => ?_)
      refine lv_aload_n hx hb dX5_hasHour_33 rfl (lv_at hl 1 rfl) ?_
      refine zget B hW 0 rfl lf_X5_25 rfl dX5_hasHour_34 ?_
      refine lv_iload_n hx hb dX5_hasHour_37 rfl (lv_at hl 2 rfl) ?_
      refine ziald B hW 5 rfl (ha) dX5_hasHour_38 ?_
      refine lv_aload_n hx hb dX5_hasHour_39 rfl (lv_at hl 1 rfl) ?_
      refine zget B hW 0 rfl lf_X5_22 rfl dX5_hasHour_40 ?_
      refine lv_iload_n hx hb dX5_hasHour_43 rfl (lv_at hl 2 rfl) ?_
      refine ziald B hW 4 rfl (ha) dX5_hasHour_44 ?_
      have J_3 : ∀ (H : Heap) (locs : List Loc) (ls : Array Slot), zW G A s.heap H locs (subW G h ad su) → lv_has ls 6 [(3, .int (if b < (su.2.2.2.1 a.toNatClampNeg) then (0 : Int32) else (1 : Int32))), (4, .int (if (su.2.2.2.2.1 a.toNatClampNeg) < b then (0 : Int32) else (1 : Int32)))] → W p l e (zRm 0 0 0) s m args below meth c H locs 0 0 (MQ below (zQ G A (po_X5_hasHour G h ad su a b)) args s 0 0 A) (F0 m 53 ls [.int (if (su.2.2.2.1 a.toNatClampNeg) ≤ (su.2.2.2.2.1 a.toNatClampNeg) then (0 : Int32) else (1 : Int32))]) := by
        intro H locs ls hW hl
        refine lv_istore hx hb dX5_hasHour_53 hl (by decide) rfl (fun ls hl => ?_)
        refine lv_iload hx hb dX5_hasHour_55 (lv_at hl 0 rfl) ?_
        have J_4 : ∀ (H : Heap) (locs : List Loc) (ls : Array Slot), zW G A s.heap H locs (subW G h ad su) → lv_has ls 6 [] → W p l e (zRm 0 0 0) s m args below meth c H locs 0 0 (MQ below (zQ G A (po_X5_hasHour G h ad su a b)) args s 0 0 A) (F0 m 91 ls [.int (if (if (su.2.2.2.1 a.toNatClampNeg) ≤ (su.2.2.2.2.1 a.toNatClampNeg) then (0 : Int32) else (1 : Int32)) = (0 : Int32) then (if (if b < (su.2.2.2.1 a.toNatClampNeg) then (0 : Int32) else (1 : Int32)) = (0 : Int32) then (0 : Int32) else (if (if (su.2.2.2.2.1 a.toNatClampNeg) < b then (0 : Int32) else (1 : Int32)) = (0 : Int32) then (0 : Int32) else (1 : Int32))) else (if (if b < (su.2.2.2.1 a.toNatClampNeg) then (0 : Int32) else (1 : Int32)) = (0 : Int32) then (if (if (su.2.2.2.2.1 a.toNatClampNeg) < b then (0 : Int32) else (1 : Int32)) = (0 : Int32) then (0 : Int32) else (1 : Int32)) else (1 : Int32)))]) := by
          intro H locs ls hW hl
          exact zzret B hr hlk (by (repeat' split) <;> rfl) hW ⟨rfl, rfl⟩ (Nat.le_refl _) (Nat.le_refl _) dX5_hasHour_91
        refine lv_if_eq (tgt := 77) hx hb dX5_hasHour_57 (by decide) (fun c_57 => ?_) (fun c_57 => ?_)
        · refine lv_iload_n hx hb dX5_hasHour_77 rfl (lv_at hl 1 rfl) ?_
          refine lv_if_eq (tgt := 90) hx hb dX5_hasHour_78 (by decide) (fun c_78 => ?_) (fun c_78 => ?_)
          · refine lv_iconst (v := (0 : Int32)) hx hb dX5_hasHour_90 (by decide) ?_
            have e_0 : (if (if (su.2.2.2.1 a.toNatClampNeg) ≤ (su.2.2.2.2.1 a.toNatClampNeg) then (0 : Int32) else (1 : Int32)) = (0 : Int32) then (if (if b < (su.2.2.2.1 a.toNatClampNeg) then (0 : Int32) else (1 : Int32)) = (0 : Int32) then (0 : Int32) else (if (if (su.2.2.2.2.1 a.toNatClampNeg) < b then (0 : Int32) else (1 : Int32)) = (0 : Int32) then (0 : Int32) else (1 : Int32))) else (if (if b < (su.2.2.2.1 a.toNatClampNeg) then (0 : Int32) else (1 : Int32)) = (0 : Int32) then (if (if (su.2.2.2.2.1 a.toNatClampNeg) < b then (0 : Int32) else (1 : Int32)) = (0 : Int32) then (0 : Int32) else (1 : Int32)) else (1 : Int32))) = (0 : Int32) := (if_pos c_57).trans (if_pos c_78)
            refine W.eq (g2 := F0 m 91 ls [.int (if (if (su.2.2.2.1 a.toNatClampNeg) ≤ (su.2.2.2.2.1 a.toNatClampNeg) then (0 : Int32) else (1 : Int32)) = (0 : Int32) then (if (if b < (su.2.2.2.1 a.toNatClampNeg) then (0 : Int32) else (1 : Int32)) = (0 : Int32) then (0 : Int32) else (if (if (su.2.2.2.2.1 a.toNatClampNeg) < b then (0 : Int32) else (1 : Int32)) = (0 : Int32) then (0 : Int32) else (1 : Int32))) else (if (if b < (su.2.2.2.1 a.toNatClampNeg) then (0 : Int32) else (1 : Int32)) = (0 : Int32) then (if (if (su.2.2.2.2.1 a.toNatClampNeg) < b then (0 : Int32) else (1 : Int32)) = (0 : Int32) then (0 : Int32) else (1 : Int32)) else (1 : Int32)))]) (by (try rw [e_0]) <;> rfl) ?_
            exact J_4 _ _ _ (hW.eq (by (try rw [e_0]) <;> rfl)) (by (try rw [e_0]) <;> exact lv_sub hl [] rfl)
          · refine lv_iload hx hb dX5_hasHour_81 (lv_at hl 2 rfl) ?_
            refine lv_if_eq (tgt := 90) hx hb dX5_hasHour_83 (by decide) (fun c_83 => ?_) (fun c_83 => ?_)
            · refine lv_iconst (v := (0 : Int32)) hx hb dX5_hasHour_90 (by decide) ?_
              have e_0 : (if (if (su.2.2.2.1 a.toNatClampNeg) ≤ (su.2.2.2.2.1 a.toNatClampNeg) then (0 : Int32) else (1 : Int32)) = (0 : Int32) then (if (if b < (su.2.2.2.1 a.toNatClampNeg) then (0 : Int32) else (1 : Int32)) = (0 : Int32) then (0 : Int32) else (if (if (su.2.2.2.2.1 a.toNatClampNeg) < b then (0 : Int32) else (1 : Int32)) = (0 : Int32) then (0 : Int32) else (1 : Int32))) else (if (if b < (su.2.2.2.1 a.toNatClampNeg) then (0 : Int32) else (1 : Int32)) = (0 : Int32) then (if (if (su.2.2.2.2.1 a.toNatClampNeg) < b then (0 : Int32) else (1 : Int32)) = (0 : Int32) then (0 : Int32) else (1 : Int32)) else (1 : Int32))) = (0 : Int32) := (if_pos c_57).trans ((if_neg c_78).trans (if_pos c_83))
              refine W.eq (g2 := F0 m 91 ls [.int (if (if (su.2.2.2.1 a.toNatClampNeg) ≤ (su.2.2.2.2.1 a.toNatClampNeg) then (0 : Int32) else (1 : Int32)) = (0 : Int32) then (if (if b < (su.2.2.2.1 a.toNatClampNeg) then (0 : Int32) else (1 : Int32)) = (0 : Int32) then (0 : Int32) else (if (if (su.2.2.2.2.1 a.toNatClampNeg) < b then (0 : Int32) else (1 : Int32)) = (0 : Int32) then (0 : Int32) else (1 : Int32))) else (if (if b < (su.2.2.2.1 a.toNatClampNeg) then (0 : Int32) else (1 : Int32)) = (0 : Int32) then (if (if (su.2.2.2.2.1 a.toNatClampNeg) < b then (0 : Int32) else (1 : Int32)) = (0 : Int32) then (0 : Int32) else (1 : Int32)) else (1 : Int32)))]) (by (try rw [e_0]) <;> rfl) ?_
              exact J_4 _ _ _ (hW.eq (by (try rw [e_0]) <;> rfl)) (by (try rw [e_0]) <;> exact lv_sub hl [] rfl)
            · refine lv_iconst (v := (1 : Int32)) hx hb dX5_hasHour_86 (by decide) ?_
              refine lv_goto (tgt := 91) hx hb dX5_hasHour_87 (by decide) ?_
              have e_0 : (if (if (su.2.2.2.1 a.toNatClampNeg) ≤ (su.2.2.2.2.1 a.toNatClampNeg) then (0 : Int32) else (1 : Int32)) = (0 : Int32) then (if (if b < (su.2.2.2.1 a.toNatClampNeg) then (0 : Int32) else (1 : Int32)) = (0 : Int32) then (0 : Int32) else (if (if (su.2.2.2.2.1 a.toNatClampNeg) < b then (0 : Int32) else (1 : Int32)) = (0 : Int32) then (0 : Int32) else (1 : Int32))) else (if (if b < (su.2.2.2.1 a.toNatClampNeg) then (0 : Int32) else (1 : Int32)) = (0 : Int32) then (if (if (su.2.2.2.2.1 a.toNatClampNeg) < b then (0 : Int32) else (1 : Int32)) = (0 : Int32) then (0 : Int32) else (1 : Int32)) else (1 : Int32))) = (1 : Int32) := (if_pos c_57).trans ((if_neg c_78).trans (if_neg c_83))
              refine W.eq (g2 := F0 m 91 ls [.int (if (if (su.2.2.2.1 a.toNatClampNeg) ≤ (su.2.2.2.2.1 a.toNatClampNeg) then (0 : Int32) else (1 : Int32)) = (0 : Int32) then (if (if b < (su.2.2.2.1 a.toNatClampNeg) then (0 : Int32) else (1 : Int32)) = (0 : Int32) then (0 : Int32) else (if (if (su.2.2.2.2.1 a.toNatClampNeg) < b then (0 : Int32) else (1 : Int32)) = (0 : Int32) then (0 : Int32) else (1 : Int32))) else (if (if b < (su.2.2.2.1 a.toNatClampNeg) then (0 : Int32) else (1 : Int32)) = (0 : Int32) then (if (if (su.2.2.2.2.1 a.toNatClampNeg) < b then (0 : Int32) else (1 : Int32)) = (0 : Int32) then (0 : Int32) else (1 : Int32)) else (1 : Int32)))]) (by (try rw [e_0]) <;> rfl) ?_
              exact J_4 _ _ _ (hW.eq (by (try rw [e_0]) <;> rfl)) (by (try rw [e_0]) <;> exact lv_sub hl [] rfl)
        · refine lv_iload_n hx hb dX5_hasHour_60 rfl (lv_at hl 1 rfl) ?_
          refine lv_if_ne (tgt := 69) hx hb dX5_hasHour_61 (by decide) (fun c_61 => ?_) (fun c_61 => ?_)
          · refine lv_iconst (v := (1 : Int32)) hx hb dX5_hasHour_69 (by decide) ?_
            refine lv_goto (tgt := 91) hx hb dX5_hasHour_70 (by decide) ?_
            have e_0 : (if (if (su.2.2.2.1 a.toNatClampNeg) ≤ (su.2.2.2.2.1 a.toNatClampNeg) then (0 : Int32) else (1 : Int32)) = (0 : Int32) then (if (if b < (su.2.2.2.1 a.toNatClampNeg) then (0 : Int32) else (1 : Int32)) = (0 : Int32) then (0 : Int32) else (if (if (su.2.2.2.2.1 a.toNatClampNeg) < b then (0 : Int32) else (1 : Int32)) = (0 : Int32) then (0 : Int32) else (1 : Int32))) else (if (if b < (su.2.2.2.1 a.toNatClampNeg) then (0 : Int32) else (1 : Int32)) = (0 : Int32) then (if (if (su.2.2.2.2.1 a.toNatClampNeg) < b then (0 : Int32) else (1 : Int32)) = (0 : Int32) then (0 : Int32) else (1 : Int32)) else (1 : Int32))) = (1 : Int32) := (if_neg c_57).trans (if_neg c_61)
            refine W.eq (g2 := F0 m 91 ls [.int (if (if (su.2.2.2.1 a.toNatClampNeg) ≤ (su.2.2.2.2.1 a.toNatClampNeg) then (0 : Int32) else (1 : Int32)) = (0 : Int32) then (if (if b < (su.2.2.2.1 a.toNatClampNeg) then (0 : Int32) else (1 : Int32)) = (0 : Int32) then (0 : Int32) else (if (if (su.2.2.2.2.1 a.toNatClampNeg) < b then (0 : Int32) else (1 : Int32)) = (0 : Int32) then (0 : Int32) else (1 : Int32))) else (if (if b < (su.2.2.2.1 a.toNatClampNeg) then (0 : Int32) else (1 : Int32)) = (0 : Int32) then (if (if (su.2.2.2.2.1 a.toNatClampNeg) < b then (0 : Int32) else (1 : Int32)) = (0 : Int32) then (0 : Int32) else (1 : Int32)) else (1 : Int32)))]) (by (try rw [e_0]) <;> rfl) ?_
            exact J_4 _ _ _ (hW.eq (by (try rw [e_0]) <;> rfl)) (by (try rw [e_0]) <;> exact lv_sub hl [] rfl)
          · refine lv_iload hx hb dX5_hasHour_64 (lv_at hl 2 rfl) ?_
            refine lv_if_eq (tgt := 73) hx hb dX5_hasHour_66 (by decide) (fun c_66 => ?_) (fun c_66 => ?_)
            · refine lv_iconst (v := (0 : Int32)) hx hb dX5_hasHour_73 (by decide) ?_
              refine lv_goto (tgt := 91) hx hb dX5_hasHour_74 (by decide) ?_
              have e_0 : (if (if (su.2.2.2.1 a.toNatClampNeg) ≤ (su.2.2.2.2.1 a.toNatClampNeg) then (0 : Int32) else (1 : Int32)) = (0 : Int32) then (if (if b < (su.2.2.2.1 a.toNatClampNeg) then (0 : Int32) else (1 : Int32)) = (0 : Int32) then (0 : Int32) else (if (if (su.2.2.2.2.1 a.toNatClampNeg) < b then (0 : Int32) else (1 : Int32)) = (0 : Int32) then (0 : Int32) else (1 : Int32))) else (if (if b < (su.2.2.2.1 a.toNatClampNeg) then (0 : Int32) else (1 : Int32)) = (0 : Int32) then (if (if (su.2.2.2.2.1 a.toNatClampNeg) < b then (0 : Int32) else (1 : Int32)) = (0 : Int32) then (0 : Int32) else (1 : Int32)) else (1 : Int32))) = (0 : Int32) := (if_neg c_57).trans ((if_pos c_61).trans (if_pos c_66))
              refine W.eq (g2 := F0 m 91 ls [.int (if (if (su.2.2.2.1 a.toNatClampNeg) ≤ (su.2.2.2.2.1 a.toNatClampNeg) then (0 : Int32) else (1 : Int32)) = (0 : Int32) then (if (if b < (su.2.2.2.1 a.toNatClampNeg) then (0 : Int32) else (1 : Int32)) = (0 : Int32) then (0 : Int32) else (if (if (su.2.2.2.2.1 a.toNatClampNeg) < b then (0 : Int32) else (1 : Int32)) = (0 : Int32) then (0 : Int32) else (1 : Int32))) else (if (if b < (su.2.2.2.1 a.toNatClampNeg) then (0 : Int32) else (1 : Int32)) = (0 : Int32) then (if (if (su.2.2.2.2.1 a.toNatClampNeg) < b then (0 : Int32) else (1 : Int32)) = (0 : Int32) then (0 : Int32) else (1 : Int32)) else (1 : Int32)))]) (by (try rw [e_0]) <;> rfl) ?_
              exact J_4 _ _ _ (hW.eq (by (try rw [e_0]) <;> rfl)) (by (try rw [e_0]) <;> exact lv_sub hl [] rfl)
            · refine lv_iconst (v := (1 : Int32)) hx hb dX5_hasHour_69 (by decide) ?_
              refine lv_goto (tgt := 91) hx hb dX5_hasHour_70 (by decide) ?_
              have e_0 : (if (if (su.2.2.2.1 a.toNatClampNeg) ≤ (su.2.2.2.2.1 a.toNatClampNeg) then (0 : Int32) else (1 : Int32)) = (0 : Int32) then (if (if b < (su.2.2.2.1 a.toNatClampNeg) then (0 : Int32) else (1 : Int32)) = (0 : Int32) then (0 : Int32) else (if (if (su.2.2.2.2.1 a.toNatClampNeg) < b then (0 : Int32) else (1 : Int32)) = (0 : Int32) then (0 : Int32) else (1 : Int32))) else (if (if b < (su.2.2.2.1 a.toNatClampNeg) then (0 : Int32) else (1 : Int32)) = (0 : Int32) then (if (if (su.2.2.2.2.1 a.toNatClampNeg) < b then (0 : Int32) else (1 : Int32)) = (0 : Int32) then (0 : Int32) else (1 : Int32)) else (1 : Int32))) = (1 : Int32) := (if_neg c_57).trans ((if_pos c_61).trans (if_neg c_66))
              refine W.eq (g2 := F0 m 91 ls [.int (if (if (su.2.2.2.1 a.toNatClampNeg) ≤ (su.2.2.2.2.1 a.toNatClampNeg) then (0 : Int32) else (1 : Int32)) = (0 : Int32) then (if (if b < (su.2.2.2.1 a.toNatClampNeg) then (0 : Int32) else (1 : Int32)) = (0 : Int32) then (0 : Int32) else (if (if (su.2.2.2.2.1 a.toNatClampNeg) < b then (0 : Int32) else (1 : Int32)) = (0 : Int32) then (0 : Int32) else (1 : Int32))) else (if (if b < (su.2.2.2.1 a.toNatClampNeg) then (0 : Int32) else (1 : Int32)) = (0 : Int32) then (if (if (su.2.2.2.2.1 a.toNatClampNeg) < b then (0 : Int32) else (1 : Int32)) = (0 : Int32) then (0 : Int32) else (1 : Int32)) else (1 : Int32)))]) (by (try rw [e_0]) <;> rfl) ?_
              exact J_4 _ _ _ (hW.eq (by (try rw [e_0]) <;> rfl)) (by (try rw [e_0]) <;> exact lv_sub hl [] rfl)
      refine lv_icmp_ge (tgt := 52) hx hb dX5_hasHour_45 (by decide) (fun c_45 => ?_) (fun c_45 => ?_)
      · refine lv_iconst (v := (0 : Int32)) hx hb dX5_hasHour_52 (by decide) ?_
        have e_0 : (if (su.2.2.2.1 a.toNatClampNeg) ≤ (su.2.2.2.2.1 a.toNatClampNeg) then (0 : Int32) else (1 : Int32)) = (0 : Int32) := if_pos c_45
        refine W.eq (g2 := F0 m 53 ls [.int (if (su.2.2.2.1 a.toNatClampNeg) ≤ (su.2.2.2.2.1 a.toNatClampNeg) then (0 : Int32) else (1 : Int32))]) (by (try rw [e_0]) <;> rfl) ?_
        exact J_3 _ _ _ (hW.eq (by (try rw [e_0]) <;> rfl)) (by (try rw [e_0]) <;> exact lv_sub hl [3, 0] rfl)
      · refine lv_iconst (v := (1 : Int32)) hx hb dX5_hasHour_48 (by decide) ?_
        refine lv_goto (tgt := 53) hx hb dX5_hasHour_49 (by decide) ?_
        have e_0 : (if (su.2.2.2.1 a.toNatClampNeg) ≤ (su.2.2.2.2.1 a.toNatClampNeg) then (0 : Int32) else (1 : Int32)) = (1 : Int32) := if_neg c_45
        refine W.eq (g2 := F0 m 53 ls [.int (if (su.2.2.2.1 a.toNatClampNeg) ≤ (su.2.2.2.2.1 a.toNatClampNeg) then (0 : Int32) else (1 : Int32))]) (by (try rw [e_0]) <;> rfl) ?_
        exact J_3 _ _ _ (hW.eq (by (try rw [e_0]) <;> rfl)) (by (try rw [e_0]) <;> exact lv_sub hl [3, 0] rfl)
    refine lv_icmp_gt (tgt := 30) hx hb dX5_hasHour_23 (by decide) (fun c_23 => ?_) (fun c_23 => ?_)
    · refine lv_iconst (v := (0 : Int32)) hx hb dX5_hasHour_30 (by decide) ?_
      have e_0 : (if (su.2.2.2.2.1 a.toNatClampNeg) < b then (0 : Int32) else (1 : Int32)) = (0 : Int32) := if_pos c_23
      refine W.eq (g2 := F0 m 31 ls [.int (if (su.2.2.2.2.1 a.toNatClampNeg) < b then (0 : Int32) else (1 : Int32))]) (by (try rw [e_0]) <;> rfl) ?_
      exact J_2 _ _ _ (hW.eq (by (try rw [e_0]) <;> rfl)) (by (try rw [e_0]) <;> exact lv_sub hl [1, 2, 0] rfl)
    · refine lv_iconst (v := (1 : Int32)) hx hb dX5_hasHour_26 (by decide) ?_
      refine lv_goto (tgt := 31) hx hb dX5_hasHour_27 (by decide) ?_
      have e_0 : (if (su.2.2.2.2.1 a.toNatClampNeg) < b then (0 : Int32) else (1 : Int32)) = (1 : Int32) := if_neg c_23
      refine W.eq (g2 := F0 m 31 ls [.int (if (su.2.2.2.2.1 a.toNatClampNeg) < b then (0 : Int32) else (1 : Int32))]) (by (try rw [e_0]) <;> rfl) ?_
      exact J_2 _ _ _ (hW.eq (by (try rw [e_0]) <;> rfl)) (by (try rw [e_0]) <;> exact lv_sub hl [1, 2, 0] rfl)
  refine lv_icmp_gt (tgt := 14) hx hb dX5_hasHour_7 (by decide) (fun c_7 => ?_) (fun c_7 => ?_)
  · refine lv_iconst (v := (0 : Int32)) hx hb dX5_hasHour_14 (by decide) ?_
    have e_0 : (if b < (su.2.2.2.1 a.toNatClampNeg) then (0 : Int32) else (1 : Int32)) = (0 : Int32) := if_pos c_7
    refine W.eq (g2 := F0 m 15 ls [.int (if b < (su.2.2.2.1 a.toNatClampNeg) then (0 : Int32) else (1 : Int32))]) (by (try rw [e_0]) <;> rfl) ?_
    exact J_1 _ _ _ (hW.eq (by (try rw [e_0]) <;> rfl)) (by (try rw [e_0]) <;> exact lv_sub hl [0, 1, 2] rfl)
  · refine lv_iconst (v := (1 : Int32)) hx hb dX5_hasHour_10 (by decide) ?_
    refine lv_goto (tgt := 15) hx hb dX5_hasHour_11 (by decide) ?_
    have e_0 : (if b < (su.2.2.2.1 a.toNatClampNeg) then (0 : Int32) else (1 : Int32)) = (1 : Int32) := if_neg c_7
    refine W.eq (g2 := F0 m 15 ls [.int (if b < (su.2.2.2.1 a.toNatClampNeg) then (0 : Int32) else (1 : Int32))]) (by (try rw [e_0]) <;> rfl) ?_
    exact J_1 _ _ _ (hW.eq (by (try rw [e_0]) <;> rfl)) (by (try rw [e_0]) <;> exact lv_sub hl [0, 1, 2] rfl)
def g_X5_send_su_6 (su_6 : Nat → Int32) (su_9 : Nat) (su_10 : Nat) (a : Int32) : Nat → Int32 := (upd (if (nI su_9) < (nI su_10) then su_6 else (va_cpy su_6 (fun _ => 0) 0 0 su_10)) su_9 a)
def g_X5_send_su_7 (su_7 : Nat → Int32) (su_9 : Nat) (su_10 : Nat) (su_11 : Nat) (b : Int32) : Nat → Int32 := (upd (if (nI su_9) < (nI su_10) then su_7 else (va_cpy su_7 (fun _ => 0) 0 0 su_11)) su_9 b)
def g_X5_send_su_8 (su_8 : Nat → Int32) (su_9 : Nat) (su_10 : Nat) (su_12 : Nat) (d : Int32) : Nat → Int32 := (upd (if (nI su_9) < (nI su_10) then su_8 else (va_cpy su_8 (fun _ => 0) 0 0 su_12)) su_9 d)
def g_X5_send_su_9 (su_9 : Nat) : Nat := (su_9 + 1)
def g_X5_send_su_10 (su_9 : Nat) (su_10 : Nat) : Nat := (if (nI su_9) < (nI su_10) then su_10 else (su_9 * 2))
def g_X5_send_su_11 (su_9 : Nat) (su_10 : Nat) (su_11 : Nat) : Nat := (if (nI su_9) < (nI su_10) then su_11 else (su_9 * 2))
def g_X5_send_su_12 (su_9 : Nat) (su_10 : Nat) (su_12 : Nat) : Nat := (if (nI su_9) < (nI su_10) then su_12 else (su_9 * 2))
def f_X5_send_su (su : zSubs) (a : Int32) (b : Int32) (d : Int32) (K : Nat) : zSubs := (su.1, su.2.1, su.2.2.1, su.2.2.2.1, su.2.2.2.2.1, su.2.2.2.2.2.1, g_X5_send_su_6 su.2.2.2.2.2.2.1 su.2.2.2.2.2.2.2.2.2.1 su.2.2.2.2.2.2.2.2.2.2.1 a, g_X5_send_su_7 su.2.2.2.2.2.2.2.1 su.2.2.2.2.2.2.2.2.2.1 su.2.2.2.2.2.2.2.2.2.2.1 su.2.2.2.2.2.2.2.2.2.2.2.1 b, g_X5_send_su_8 su.2.2.2.2.2.2.2.2.1 su.2.2.2.2.2.2.2.2.2.1 su.2.2.2.2.2.2.2.2.2.2.1 su.2.2.2.2.2.2.2.2.2.2.2.2 d, g_X5_send_su_9 su.2.2.2.2.2.2.2.2.2.1, g_X5_send_su_10 su.2.2.2.2.2.2.2.2.2.1 su.2.2.2.2.2.2.2.2.2.2.1, g_X5_send_su_11 su.2.2.2.2.2.2.2.2.2.1 su.2.2.2.2.2.2.2.2.2.2.1 su.2.2.2.2.2.2.2.2.2.2.2.1, g_X5_send_su_12 su.2.2.2.2.2.2.2.2.2.1 su.2.2.2.2.2.2.2.2.2.2.1 su.2.2.2.2.2.2.2.2.2.2.2.2)
abbrev po_X5_send (G : zG) (h : Nat) (ad : Nat → Nat) (su : zSubs) (a : Int32) (b : Int32) (d : Int32) (K : Nat) : Option Value → va_W → Prop := fun r u => ∃ (ad_su : Nat → Nat), r = none ∧ u = subW G h ad_su (f_X5_send_su su a b d K)
set_option maxHeartbeats 4000000 in
set_option maxRecDepth 100000 in
theorem c_X5_send (l : Launch) (G : zG) (h : Nat) (ad : Nat → Nat) (su : zSubs) (a : Int32) (b : Int32) (d : Int32) (K : Nat) (hA : su.2.2.2.2.2.2.2.2.2.2.2.1 = su.2.2.2.2.2.2.2.2.2.2.1) (hB : su.2.2.2.2.2.2.2.2.2.2.2.2 = su.2.2.2.2.2.2.2.2.2.2.1) (hq : su.2.2.2.2.2.2.2.2.2.1 ≤ su.2.2.2.2.2.2.2.2.2.2.1) (h1 : 1 ≤ su.2.2.2.2.2.2.2.2.2.2.1) (h31 : su.2.2.2.2.2.2.2.2.2.2.1 ≤ 60000000) (hK : (if nI su.2.2.2.2.2.2.2.2.2.1 < nI su.2.2.2.2.2.2.2.2.2.2.1 then su.2.2.2.2.2.2.2.2.2.2.1 else su.2.2.2.2.2.2.2.2.2.1 * 2) ≤ K) : zC l yX5_send cX5_send 4 none 2 (3 * (K - su.2.2.2.2.2.2.2.2.2.2.1)) (6 * (K - su.2.2.2.2.2.2.2.2.2.2.1)) G [.ref h, .int a, .int b, .int d] (subW G h ad su) (po_X5_send G h ad su a b d K) := by
  refine zC.of RX5 rfl (by decide) (Nat.le_of_ble_eq_true rfl) ?_
  intro p e s m args below meth c A ls B hr hlk hnm hW hl
  have hx := B.x
  have hb := B.b
  have hl : lv_has ls 4 [(0, .ref h), (1, .int a), (2, .int b), (3, .int d)] := hl
  refine lv_aload_n hx hb dX5_send_0 rfl (lv_at hl 0 rfl) ?_
  refine zget B hW 0 rfl lf_X5_41 rfl dX5_send_1 ?_
  refine lv_aload_n hx hb dX5_send_4 rfl (lv_at hl 0 rfl) ?_
  refine zget B hW 0 rfl lf_X5_32 rfl dX5_send_5 ?_
  refine zalen B hW 6 0 rfl rfl dX5_send_8 ?_
  have J_1 : ∀ (ad_su_63 : Nat → Nat) (H : Heap) (locs : List Loc) (ls : Array Slot), zW G A s.heap H locs (subW G h ad_su_63 (su.1, su.2.1, su.2.2.1, su.2.2.2.1, su.2.2.2.2.1, su.2.2.2.2.2.1, (if (nI su.2.2.2.2.2.2.2.2.2.1) < (nI su.2.2.2.2.2.2.2.2.2.2.1) then su.2.2.2.2.2.2.1 else (va_cpy su.2.2.2.2.2.2.1 (fun _ => 0) 0 0 su.2.2.2.2.2.2.2.2.2.2.1)), (if (nI su.2.2.2.2.2.2.2.2.2.1) < (nI su.2.2.2.2.2.2.2.2.2.2.1) then su.2.2.2.2.2.2.2.1 else (va_cpy su.2.2.2.2.2.2.2.1 (fun _ => 0) 0 0 su.2.2.2.2.2.2.2.2.2.2.2.1)), (if (nI su.2.2.2.2.2.2.2.2.2.1) < (nI su.2.2.2.2.2.2.2.2.2.2.1) then su.2.2.2.2.2.2.2.2.1 else (va_cpy su.2.2.2.2.2.2.2.2.1 (fun _ => 0) 0 0 su.2.2.2.2.2.2.2.2.2.2.2.2)), su.2.2.2.2.2.2.2.2.2.1, (if (nI su.2.2.2.2.2.2.2.2.2.1) < (nI su.2.2.2.2.2.2.2.2.2.2.1) then su.2.2.2.2.2.2.2.2.2.2.1 else (su.2.2.2.2.2.2.2.2.2.1 * 2)), (if (nI su.2.2.2.2.2.2.2.2.2.1) < (nI su.2.2.2.2.2.2.2.2.2.2.1) then su.2.2.2.2.2.2.2.2.2.2.2.1 else (su.2.2.2.2.2.2.2.2.2.1 * 2)), (if (nI su.2.2.2.2.2.2.2.2.2.1) < (nI su.2.2.2.2.2.2.2.2.2.2.1) then su.2.2.2.2.2.2.2.2.2.2.2.2 else (su.2.2.2.2.2.2.2.2.2.1 * 2)))) → lv_has ls 4 [(0, .ref h), (1, .int a), (2, .int b), (3, .int d)] → W p l e (zRm 2 (3 * (K - su.2.2.2.2.2.2.2.2.2.2.1)) (6 * (K - su.2.2.2.2.2.2.2.2.2.2.1))) s m args below meth c H locs (3 * (K - su.2.2.2.2.2.2.2.2.2.2.1)) (6 * (K - su.2.2.2.2.2.2.2.2.2.2.1)) (MQ below (zQ G A (po_X5_send G h ad su a b d K)) args s (3 * (K - su.2.2.2.2.2.2.2.2.2.2.1)) (6 * (K - su.2.2.2.2.2.2.2.2.2.2.1)) A) (F0 m 63 ls []) := by
    intro ad_su_63 H locs ls hW hl
    have hix : su.2.2.2.2.2.2.2.2.2.1 < (if nI su.2.2.2.2.2.2.2.2.2.1 < nI su.2.2.2.2.2.2.2.2.2.2.1 then su.2.2.2.2.2.2.2.2.2.2.1 else su.2.2.2.2.2.2.2.2.2.1 * 2) ∧ (if nI su.2.2.2.2.2.2.2.2.2.1 < nI su.2.2.2.2.2.2.2.2.2.2.1 then su.2.2.2.2.2.2.2.2.2.2.1 else su.2.2.2.2.2.2.2.2.2.1 * 2) < 2 ^ 31 := by
      split
      · rename_i z
        exact ⟨(nI_ltI (by omega) (by omega)).mp z, by omega⟩
      · rename_i z
        have z2 : ¬ su.2.2.2.2.2.2.2.2.2.1 < su.2.2.2.2.2.2.2.2.2.2.1 := fun y => z (nI_lt y (by omega))
        exact ⟨by omega, by omega⟩
    refine lv_aload_n hx hb dX5_send_63 rfl (lv_at hl 0 rfl) ?_
    refine zget B hW 0 rfl lf_X5_32 rfl dX5_send_64 ?_
    refine lv_aload_n hx hb dX5_send_67 rfl (lv_at hl 0 rfl) ?_
    refine zget B hW 0 rfl lf_X5_41 rfl dX5_send_68 ?_
    refine lv_iload_n hx hb dX5_send_71 rfl (lv_at hl 1 rfl) ?_
    refine ziastN (n := (if (nI su.2.2.2.2.2.2.2.2.2.1) < (nI su.2.2.2.2.2.2.2.2.2.2.1) then su.2.2.2.2.2.2.2.2.2.2.1 else (su.2.2.2.2.2.2.2.2.2.1 * 2))) B hW 6 rfl su.2.2.2.2.2.2.2.2.2.1 rfl (hix.1) (hix.2) dX5_send_72 (fun H locs hW => ?_)
    refine lv_aload_n hx hb dX5_send_73 rfl (lv_at hl 0 rfl) ?_
    refine zget B hW 0 rfl lf_X5_35 rfl dX5_send_74 ?_
    refine lv_aload_n hx hb dX5_send_77 rfl (lv_at hl 0 rfl) ?_
    refine zget B hW 0 rfl lf_X5_41 rfl dX5_send_78 ?_
    refine lv_iload_n hx hb dX5_send_81 rfl (lv_at hl 2 rfl) ?_
    refine ziastN (n := (if (nI su.2.2.2.2.2.2.2.2.2.1) < (nI su.2.2.2.2.2.2.2.2.2.2.1) then su.2.2.2.2.2.2.2.2.2.2.2.1 else (su.2.2.2.2.2.2.2.2.2.1 * 2))) B hW 7 rfl su.2.2.2.2.2.2.2.2.2.1 rfl (by rw [hA]; exact hix.1) (by rw [hA]; exact hix.2) dX5_send_82 (fun H locs hW => ?_)
    refine lv_aload_n hx hb dX5_send_83 rfl (lv_at hl 0 rfl) ?_
    refine zget B hW 0 rfl lf_X5_38 rfl dX5_send_84 ?_
    refine lv_aload_n hx hb dX5_send_87 rfl (lv_at hl 0 rfl) ?_
    refine zget B hW 0 rfl lf_X5_41 rfl dX5_send_88 ?_
    refine lv_iload_n hx hb dX5_send_91 rfl (lv_at hl 3 rfl) ?_
    refine ziastN (n := (if (nI su.2.2.2.2.2.2.2.2.2.1) < (nI su.2.2.2.2.2.2.2.2.2.2.1) then su.2.2.2.2.2.2.2.2.2.2.2.2 else (su.2.2.2.2.2.2.2.2.2.1 * 2))) B hW 8 rfl su.2.2.2.2.2.2.2.2.2.1 rfl (by rw [hB]; exact hix.1) (by rw [hB]; exact hix.2) dX5_send_92 (fun H locs hW => ?_)
    refine lv_aload_n hx hb dX5_send_93 rfl (lv_at hl 0 rfl) ?_
    refine lv_dup hx hb dX5_send_94 rfl ?_
    refine zget B hW 0 rfl lf_X5_41 rfl dX5_send_95 ?_
    refine lv_iconst (v := (1 : Int32)) hx hb dX5_send_98 (by decide) ?_
    refine ziaddc (j := 1) hx hb rfl rfl dX5_send_99 ?_
    refine zput B hW 0 rfl lf_X5_41 ft_X5_9 rfl rfl (Nat.le_of_ble_eq_true rfl) dX5_send_100 (fun H locs hW => ?_)
    exact zvret B hr hlk hW ⟨ad_su_63, rfl, rfl⟩ (Nat.le_refl _) (Nat.le_refl _) dX5_send_103
  refine lv_icmp_lt (tgt := 63) hx hb dX5_send_9 (by decide) (fun c_9 => ?_) (fun c_9 => ?_)
  · have e_0 : (if (nI su.2.2.2.2.2.2.2.2.2.1) < (nI su.2.2.2.2.2.2.2.2.2.2.1) then su.2.2.2.2.2.2.1 else (va_cpy su.2.2.2.2.2.2.1 (fun _ => 0) 0 0 su.2.2.2.2.2.2.2.2.2.2.1)) = su.2.2.2.2.2.2.1 := if_pos c_9
    have e_1 : (if (nI su.2.2.2.2.2.2.2.2.2.1) < (nI su.2.2.2.2.2.2.2.2.2.2.1) then su.2.2.2.2.2.2.2.1 else (va_cpy su.2.2.2.2.2.2.2.1 (fun _ => 0) 0 0 su.2.2.2.2.2.2.2.2.2.2.2.1)) = su.2.2.2.2.2.2.2.1 := if_pos c_9
    have e_2 : (if (nI su.2.2.2.2.2.2.2.2.2.1) < (nI su.2.2.2.2.2.2.2.2.2.2.1) then su.2.2.2.2.2.2.2.2.1 else (va_cpy su.2.2.2.2.2.2.2.2.1 (fun _ => 0) 0 0 su.2.2.2.2.2.2.2.2.2.2.2.2)) = su.2.2.2.2.2.2.2.2.1 := if_pos c_9
    have e_3 : (if (nI su.2.2.2.2.2.2.2.2.2.1) < (nI su.2.2.2.2.2.2.2.2.2.2.1) then su.2.2.2.2.2.2.2.2.2.2.1 else (su.2.2.2.2.2.2.2.2.2.1 * 2)) = su.2.2.2.2.2.2.2.2.2.2.1 := if_pos c_9
    have e_4 : (if (nI su.2.2.2.2.2.2.2.2.2.1) < (nI su.2.2.2.2.2.2.2.2.2.2.1) then su.2.2.2.2.2.2.2.2.2.2.2.1 else (su.2.2.2.2.2.2.2.2.2.1 * 2)) = su.2.2.2.2.2.2.2.2.2.2.2.1 := if_pos c_9
    have e_5 : (if (nI su.2.2.2.2.2.2.2.2.2.1) < (nI su.2.2.2.2.2.2.2.2.2.2.1) then su.2.2.2.2.2.2.2.2.2.2.2.2 else (su.2.2.2.2.2.2.2.2.2.1 * 2)) = su.2.2.2.2.2.2.2.2.2.2.2.2 := if_pos c_9
    refine W.widen (k := (3 * (K - su.2.2.2.2.2.2.2.2.2.2.1))) (n := (6 * (K - su.2.2.2.2.2.2.2.2.2.2.1))) (by omega) (by omega) ?_
    exact J_1 ad _ _ _ (hW.eq (by (try rw [e_0]) <;> (try rw [e_1]) <;> (try rw [e_2]) <;> (try rw [e_3]) <;> (try rw [e_4]) <;> (try rw [e_5]) <;> rfl)) (by (try rw [e_0]) <;> (try rw [e_1]) <;> (try rw [e_2]) <;> (try rw [e_3]) <;> (try rw [e_4]) <;> (try rw [e_5]) <;> exact lv_sub hl [0, 1, 2, 3] rfl)
  · have hle : su.2.2.2.2.2.2.2.2.2.2.1 ≤ su.2.2.2.2.2.2.2.2.2.1 := by
      rcases Nat.lt_or_ge su.2.2.2.2.2.2.2.2.2.1 su.2.2.2.2.2.2.2.2.2.2.1 with z | z
      · exact absurd (nI_lt z (by omega)) c_9
      · exact z
    rw [if_neg c_9] at hK
    refine lv_aload_n hx hb dX5_send_12 rfl (lv_at hl 0 rfl) ?_
    refine lv_aload_n hx hb dX5_send_13 rfl (lv_at hl 0 rfl) ?_
    refine zget B hW 0 rfl lf_X5_32 rfl dX5_send_14 ?_
    refine lv_aload_n hx hb dX5_send_17 rfl (lv_at hl 0 rfl) ?_
    refine zget B hW 0 rfl lf_X5_41 rfl dX5_send_18 ?_
    refine lv_iconst (v := (2 : Int32)) hx hb dX5_send_21 (by decide) ?_
    refine zimulc (j := 2) hx hb rfl rfl dX5_send_22 ?_
    refine zcopyOf (n := su.2.2.2.2.2.2.2.2.2.2.1) B hW hl.1 ml_X5_57 6 rfl (su.2.2.2.2.2.2.2.2.2.1 * 2) (by omega) (by omega) (Nat.le_of_ble_eq_true rfl) (Nat.le_of_ble_eq_true rfl) (Nat.le_of_ble_eq_true rfl) (by show _ ≤ (3 * (K - su.2.2.2.2.2.2.2.2.2.2.1)); omega) (by show _ ≤ (6 * (K - su.2.2.2.2.2.2.2.2.2.2.1)); omega) dX5_send_23 (fun q_23 H locs hW => ?_)
    refine zput B hW 0 rfl lf_X5_32 ft_X5_6 rfl rfl (Nat.le_of_ble_eq_true rfl) dX5_send_26 (fun H locs hW => ?_)
    have hW := hW.sub (w' := subW G h (va_up ad 5 q_23) (su.1, su.2.1, su.2.2.1, su.2.2.2.1, su.2.2.2.2.1, su.2.2.2.2.2.1, (va_cpy su.2.2.2.2.2.2.1 (fun _ => 0) 0 0 su.2.2.2.2.2.2.2.2.2.2.1), su.2.2.2.2.2.2.2.1, su.2.2.2.2.2.2.2.2.1, su.2.2.2.2.2.2.2.2.2.1, (su.2.2.2.2.2.2.2.2.2.1 * 2), su.2.2.2.2.2.2.2.2.2.2.2.1, su.2.2.2.2.2.2.2.2.2.2.2.2)) [0, 1, 2, 3, 4, 5, 9, 7, 8] rfl rfl
    refine lv_aload_n hx hb dX5_send_29 rfl (lv_at hl 0 rfl) ?_
    refine lv_aload_n hx hb dX5_send_30 rfl (lv_at hl 0 rfl) ?_
    refine zget B hW 0 rfl lf_X5_35 rfl dX5_send_31 ?_
    refine lv_aload_n hx hb dX5_send_34 rfl (lv_at hl 0 rfl) ?_
    refine zget B hW 0 rfl lf_X5_41 rfl dX5_send_35 ?_
    refine lv_iconst (v := (2 : Int32)) hx hb dX5_send_38 (by decide) ?_
    refine zimulc (j := 2) hx hb rfl rfl dX5_send_39 ?_
    refine zcopyOf (n := su.2.2.2.2.2.2.2.2.2.2.2.1) B hW hl.1 ml_X5_57 7 rfl (su.2.2.2.2.2.2.2.2.2.1 * 2) (by omega) (by omega) (Nat.le_of_ble_eq_true rfl) (Nat.le_of_ble_eq_true rfl) (Nat.le_of_ble_eq_true rfl) (by show _ ≤ (3 * (K - su.2.2.2.2.2.2.2.2.2.2.1)); omega) (by show _ ≤ (6 * (K - su.2.2.2.2.2.2.2.2.2.2.1)); omega) dX5_send_40 (fun q_40 H locs hW => ?_)
    refine zput B hW 0 rfl lf_X5_35 ft_X5_7 rfl rfl (Nat.le_of_ble_eq_true rfl) dX5_send_43 (fun H locs hW => ?_)
    have hW := hW.sub (w' := subW G h (va_up (va_up ad 5 q_23) 6 q_40) (su.1, su.2.1, su.2.2.1, su.2.2.2.1, su.2.2.2.2.1, su.2.2.2.2.2.1, (va_cpy su.2.2.2.2.2.2.1 (fun _ => 0) 0 0 su.2.2.2.2.2.2.2.2.2.2.1), (va_cpy su.2.2.2.2.2.2.2.1 (fun _ => 0) 0 0 su.2.2.2.2.2.2.2.2.2.2.2.1), su.2.2.2.2.2.2.2.2.1, su.2.2.2.2.2.2.2.2.2.1, (su.2.2.2.2.2.2.2.2.2.1 * 2), (su.2.2.2.2.2.2.2.2.2.1 * 2), su.2.2.2.2.2.2.2.2.2.2.2.2)) [0, 1, 2, 3, 4, 5, 6, 9, 8] rfl rfl
    refine lv_aload_n hx hb dX5_send_46 rfl (lv_at hl 0 rfl) ?_
    refine lv_aload_n hx hb dX5_send_47 rfl (lv_at hl 0 rfl) ?_
    refine zget B hW 0 rfl lf_X5_38 rfl dX5_send_48 ?_
    refine lv_aload_n hx hb dX5_send_51 rfl (lv_at hl 0 rfl) ?_
    refine zget B hW 0 rfl lf_X5_41 rfl dX5_send_52 ?_
    refine lv_iconst (v := (2 : Int32)) hx hb dX5_send_55 (by decide) ?_
    refine zimulc (j := 2) hx hb rfl rfl dX5_send_56 ?_
    refine zcopyOf (n := su.2.2.2.2.2.2.2.2.2.2.2.2) B hW hl.1 ml_X5_57 8 rfl (su.2.2.2.2.2.2.2.2.2.1 * 2) (by omega) (by omega) (Nat.le_of_ble_eq_true rfl) (Nat.le_of_ble_eq_true rfl) (Nat.le_of_ble_eq_true rfl) (by show _ ≤ (3 * (K - su.2.2.2.2.2.2.2.2.2.2.1)); omega) (by show _ ≤ (6 * (K - su.2.2.2.2.2.2.2.2.2.2.1)); omega) dX5_send_57 (fun q_57 H locs hW => ?_)
    refine zput B hW 0 rfl lf_X5_38 ft_X5_8 rfl rfl (Nat.le_of_ble_eq_true rfl) dX5_send_60 (fun H locs hW => ?_)
    have hW := hW.sub (w' := subW G h (va_up (va_up (va_up ad 5 q_23) 6 q_40) 7 q_57) (su.1, su.2.1, su.2.2.1, su.2.2.2.1, su.2.2.2.2.1, su.2.2.2.2.2.1, (va_cpy su.2.2.2.2.2.2.1 (fun _ => 0) 0 0 su.2.2.2.2.2.2.2.2.2.2.1), (va_cpy su.2.2.2.2.2.2.2.1 (fun _ => 0) 0 0 su.2.2.2.2.2.2.2.2.2.2.2.1), (va_cpy su.2.2.2.2.2.2.2.2.1 (fun _ => 0) 0 0 su.2.2.2.2.2.2.2.2.2.2.2.2), su.2.2.2.2.2.2.2.2.2.1, (su.2.2.2.2.2.2.2.2.2.1 * 2), (su.2.2.2.2.2.2.2.2.2.1 * 2), (su.2.2.2.2.2.2.2.2.2.1 * 2))) [0, 1, 2, 3, 4, 5, 6, 7, 9] rfl rfl
    have e_0 : (if (nI su.2.2.2.2.2.2.2.2.2.1) < (nI su.2.2.2.2.2.2.2.2.2.2.1) then su.2.2.2.2.2.2.1 else (va_cpy su.2.2.2.2.2.2.1 (fun _ => 0) 0 0 su.2.2.2.2.2.2.2.2.2.2.1)) = (va_cpy su.2.2.2.2.2.2.1 (fun _ => 0) 0 0 su.2.2.2.2.2.2.2.2.2.2.1) := if_neg c_9
    have e_1 : (if (nI su.2.2.2.2.2.2.2.2.2.1) < (nI su.2.2.2.2.2.2.2.2.2.2.1) then su.2.2.2.2.2.2.2.1 else (va_cpy su.2.2.2.2.2.2.2.1 (fun _ => 0) 0 0 su.2.2.2.2.2.2.2.2.2.2.2.1)) = (va_cpy su.2.2.2.2.2.2.2.1 (fun _ => 0) 0 0 su.2.2.2.2.2.2.2.2.2.2.2.1) := if_neg c_9
    have e_2 : (if (nI su.2.2.2.2.2.2.2.2.2.1) < (nI su.2.2.2.2.2.2.2.2.2.2.1) then su.2.2.2.2.2.2.2.2.1 else (va_cpy su.2.2.2.2.2.2.2.2.1 (fun _ => 0) 0 0 su.2.2.2.2.2.2.2.2.2.2.2.2)) = (va_cpy su.2.2.2.2.2.2.2.2.1 (fun _ => 0) 0 0 su.2.2.2.2.2.2.2.2.2.2.2.2) := if_neg c_9
    have e_3 : (if (nI su.2.2.2.2.2.2.2.2.2.1) < (nI su.2.2.2.2.2.2.2.2.2.2.1) then su.2.2.2.2.2.2.2.2.2.2.1 else (su.2.2.2.2.2.2.2.2.2.1 * 2)) = (su.2.2.2.2.2.2.2.2.2.1 * 2) := if_neg c_9
    have e_4 : (if (nI su.2.2.2.2.2.2.2.2.2.1) < (nI su.2.2.2.2.2.2.2.2.2.2.1) then su.2.2.2.2.2.2.2.2.2.2.2.1 else (su.2.2.2.2.2.2.2.2.2.1 * 2)) = (su.2.2.2.2.2.2.2.2.2.1 * 2) := if_neg c_9
    have e_5 : (if (nI su.2.2.2.2.2.2.2.2.2.1) < (nI su.2.2.2.2.2.2.2.2.2.2.1) then su.2.2.2.2.2.2.2.2.2.2.2.2 else (su.2.2.2.2.2.2.2.2.2.1 * 2)) = (su.2.2.2.2.2.2.2.2.2.1 * 2) := if_neg c_9
    refine W.widen (k := (3 * (K - su.2.2.2.2.2.2.2.2.2.2.1))) (n := (6 * (K - su.2.2.2.2.2.2.2.2.2.2.1))) (by omega) (by omega) ?_
    exact J_1 (va_up (va_up (va_up ad 5 q_23) 6 q_40) 7 q_57) _ _ _ (hW.eq (by (try rw [e_0]) <;> (try rw [e_1]) <;> (try rw [e_2]) <;> (try rw [e_3]) <;> (try rw [e_4]) <;> (try rw [e_5]) <;> rfl)) (by (try rw [e_0]) <;> (try rw [e_1]) <;> (try rw [e_2]) <;> (try rw [e_3]) <;> (try rw [e_4]) <;> (try rw [e_5]) <;> exact lv_sub hl [0, 1, 2, 3] rfl)
