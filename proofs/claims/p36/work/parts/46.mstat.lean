abbrev zMl : Type := (Nat → Int32) × (Nat → Int32) × (Nat → Int32) × (Nat → Int32) × (Nat → Int32) × (Nat → Int32) × Int32 × Int32 × Int32 × Int32 × Int64 × Int64 × Int64
def mlW (G : zG) (h : Nat) (ad : Nat → Nat) (x : zMl) : va_W := [(h, .inr (12, [.ref (ad 0), .ref (ad 1), .ref (ad 2), .ref (ad 3), .ref (ad 4), .ref (ad 5), .int x.2.2.2.2.2.2.1, .int x.2.2.2.2.2.2.2.1, .int x.2.2.2.2.2.2.2.2.1, .int x.2.2.2.2.2.2.2.2.2.1, .long x.2.2.2.2.2.2.2.2.2.2.1, .long x.2.2.2.2.2.2.2.2.2.2.2.1, .long x.2.2.2.2.2.2.2.2.2.2.2.2])), (ad 0, .inl (G.2.1 0, 48, .inl x.1)), (ad 1, .inl (G.2.1 0, 3, .inl x.2.1)), (ad 2, .inl (G.2.1 0, 3, .inl x.2.2.1)), (ad 3, .inl (G.2.1 0, 48, .inl x.2.2.2.1)), (ad 4, .inl (G.2.1 0, 48, .inl x.2.2.2.2.1)), (ad 5, .inl (G.2.1 1, 48, .inl x.2.2.2.2.2.1))]
def r_X12_isBetween (a : Int32) (b : Int32) (d : Int32) : Int32 := (if a < b then (0 : Int32) else (if d < a then (0 : Int32) else (1 : Int32)))
abbrev po_X12_isBetween (G : zG)  (a : Int32) (b : Int32) (d : Int32) : Option Value → va_W → Prop := fun r u => r = some (.int (r_X12_isBetween a b d)) ∧ u = []
set_option maxHeartbeats 4000000 in
set_option maxRecDepth 100000 in
theorem c_X12_isBetween (l : Launch) (G : zG)  (a : Int32) (b : Int32) (d : Int32) : zC l yX12_isBetween cX12_isBetween 3 (some .boolean) 0 0 0 G [.int a, .int b, .int d] ([]) (po_X12_isBetween G a b d) := by
  refine zC.of RX12 rfl (by decide) (Nat.le_of_ble_eq_true rfl) ?_
  intro p e s m args below meth c A ls B hr hlk hnm hW hl
  have hx := B.x
  have hb := B.b
  have hl : lv_has ls 3 [(0, .int a), (1, .int b), (2, .int d)] := hl
  refine lv_iload_n hx hb dX12_isBetween_0 rfl (lv_at hl 1 rfl) ?_
  refine lv_iload_n hx hb dX12_isBetween_1 rfl (lv_at hl 0 rfl) ?_
  have J_1 : ∀ (H : Heap) (locs : List Loc) (ls : Array Slot), zW G A s.heap H locs ([]) → lv_has ls 3 [] → W p l e (zRm 0 0 0) s m args below meth c H locs 0 0 (MQ below (zQ G A (po_X12_isBetween G a b d)) args s 0 0 A) (F0 m 15 ls [.int (if a < b then (0 : Int32) else (if d < a then (0 : Int32) else (1 : Int32)))]) := by
    intro H locs ls hW hl
    exact zzret B hr hlk (by (repeat' split) <;> rfl) hW ⟨rfl, rfl⟩ (Nat.le_refl _) (Nat.le_refl _) dX12_isBetween_15
  refine lv_icmp_gt (tgt := 14) hx hb dX12_isBetween_2 (by decide) (fun c_2 => ?_) (fun c_2 => ?_)
  · refine lv_iconst (v := (0 : Int32)) hx hb dX12_isBetween_14 (by decide) ?_
    have e_0 : (if a < b then (0 : Int32) else (if d < a then (0 : Int32) else (1 : Int32))) = (0 : Int32) := if_pos c_2
    refine W.eq (g2 := F0 m 15 ls [.int (if a < b then (0 : Int32) else (if d < a then (0 : Int32) else (1 : Int32)))]) (by (try rw [e_0]) <;> rfl) ?_
    exact J_1 _ _ _ (hW.eq (by (try rw [e_0]) <;> rfl)) (by (try rw [e_0]) <;> exact lv_sub hl [] rfl)
  · refine lv_iload_n hx hb dX12_isBetween_5 rfl (lv_at hl 0 rfl) ?_
    refine lv_iload_n hx hb dX12_isBetween_6 rfl (lv_at hl 2 rfl) ?_
    refine lv_icmp_gt (tgt := 14) hx hb dX12_isBetween_7 (by decide) (fun c_7 => ?_) (fun c_7 => ?_)
    · refine lv_iconst (v := (0 : Int32)) hx hb dX12_isBetween_14 (by decide) ?_
      have e_0 : (if a < b then (0 : Int32) else (if d < a then (0 : Int32) else (1 : Int32))) = (0 : Int32) := (if_neg c_2).trans (if_pos c_7)
      refine W.eq (g2 := F0 m 15 ls [.int (if a < b then (0 : Int32) else (if d < a then (0 : Int32) else (1 : Int32)))]) (by (try rw [e_0]) <;> rfl) ?_
      exact J_1 _ _ _ (hW.eq (by (try rw [e_0]) <;> rfl)) (by (try rw [e_0]) <;> exact lv_sub hl [] rfl)
    · refine lv_iconst (v := (1 : Int32)) hx hb dX12_isBetween_10 (by decide) ?_
      refine lv_goto (tgt := 15) hx hb dX12_isBetween_11 (by decide) ?_
      have e_0 : (if a < b then (0 : Int32) else (if d < a then (0 : Int32) else (1 : Int32))) = (1 : Int32) := (if_neg c_2).trans (if_neg c_7)
      refine W.eq (g2 := F0 m 15 ls [.int (if a < b then (0 : Int32) else (if d < a then (0 : Int32) else (1 : Int32)))]) (by (try rw [e_0]) <;> rfl) ?_
      exact J_1 _ _ _ (hW.eq (by (try rw [e_0]) <;> rfl)) (by (try rw [e_0]) <;> exact lv_sub hl [] rfl)
def r_X12_isCell (a : Int32) (b : Int32) : Int32 := (if (r_X12_isBetween a (0 : Int32) (7 : Int32)) = (0 : Int32) then (0 : Int32) else (if (r_X12_isBetween b (0 : Int32) (5 : Int32)) = (0 : Int32) then (0 : Int32) else (1 : Int32)))
abbrev po_X12_isCell (G : zG)  (a : Int32) (b : Int32) : Option Value → va_W → Prop := fun r u => r = some (.int (r_X12_isCell a b)) ∧ u = []
set_option maxHeartbeats 4000000 in
set_option maxRecDepth 100000 in
theorem c_X12_isCell (l : Launch) (G : zG)  (a : Int32) (b : Int32) : zC l yX12_isCell cX12_isCell 2 (some .boolean) 1 0 0 G [.int a, .int b] ([]) (po_X12_isCell G a b) := by
  refine zC.of RX12 rfl (by decide) (Nat.le_of_ble_eq_true rfl) ?_
  intro p e s m args below meth c A ls B hr hlk hnm hW hl
  have hx := B.x
  have hb := B.b
  have hl : lv_has ls 2 [(0, .int a), (1, .int b)] := hl
  refine lv_iload_n hx hb dX12_isCell_0 rfl (lv_at hl 0 rfl) ?_
  refine lv_iconst (v := (0 : Int32)) hx hb dX12_isCell_1 (by decide) ?_
  refine lv_bipush (v := (7 : Int32)) hx hb dX12_isCell_2 (by decide) ?_
  refine zcS (w1 := []) (wc := []) (w2 := []) (As := [.int a, .int (0 : Int32), .int (7 : Int32)]) B (hW.eq rfl) (c_X12_isBetween l G a (0 : Int32) (7 : Int32)) yd_X12_isBetween ml_X12_36 rfl hl.1 rfl (Nat.le_of_ble_eq_true rfl) ⟨Nat.le_of_ble_eq_true rfl, Nat.le_of_ble_eq_true rfl⟩ ⟨(Nat.le_of_ble_eq_true rfl), (Nat.le_of_ble_eq_true rfl)⟩ dX12_isCell_4 (fun v u H locs hp hW => ?_)
  obtain ⟨rfl, rfl⟩ := hp
  have hW := hW.eq (w' := []) rfl
  have J_1 : ∀ (H : Heap) (locs : List Loc) (ls : Array Slot), zW G A s.heap H locs ([]) → lv_has ls 2 [] → W p l e (zRm 1 0 0) s m args below meth c H locs 0 0 (MQ below (zQ G A (po_X12_isCell G a b)) args s 0 0 A) (F0 m 24 ls [.int (if (r_X12_isBetween a (0 : Int32) (7 : Int32)) = (0 : Int32) then (0 : Int32) else (if (r_X12_isBetween b (0 : Int32) (5 : Int32)) = (0 : Int32) then (0 : Int32) else (1 : Int32)))]) := by
    intro H locs ls hW hl
    exact zzret B hr hlk (by (repeat' split) <;> rfl) hW ⟨rfl, rfl⟩ (Nat.le_refl _) (Nat.le_refl _) dX12_isCell_24
  refine lv_if_eq (tgt := 23) hx hb dX12_isCell_7 (by decide) (fun c_7 => ?_) (fun c_7 => ?_)
  · refine lv_iconst (v := (0 : Int32)) hx hb dX12_isCell_23 (by decide) ?_
    have e_0 : (if (r_X12_isBetween a (0 : Int32) (7 : Int32)) = (0 : Int32) then (0 : Int32) else (if (r_X12_isBetween b (0 : Int32) (5 : Int32)) = (0 : Int32) then (0 : Int32) else (1 : Int32))) = (0 : Int32) := if_pos c_7
    refine W.eq (g2 := F0 m 24 ls [.int (if (r_X12_isBetween a (0 : Int32) (7 : Int32)) = (0 : Int32) then (0 : Int32) else (if (r_X12_isBetween b (0 : Int32) (5 : Int32)) = (0 : Int32) then (0 : Int32) else (1 : Int32)))]) (by (try rw [e_0]) <;> rfl) ?_
    exact J_1 _ _ _ (hW.eq (by (try rw [e_0]) <;> rfl)) (by (try rw [e_0]) <;> exact lv_sub hl [] rfl)
  · refine lv_iload_n hx hb dX12_isCell_10 rfl (lv_at hl 1 rfl) ?_
    refine lv_iconst (v := (0 : Int32)) hx hb dX12_isCell_11 (by decide) ?_
    refine lv_iconst (v := (5 : Int32)) hx hb dX12_isCell_12 (by decide) ?_
    refine zcS (w1 := []) (wc := []) (w2 := []) (As := [.int b, .int (0 : Int32), .int (5 : Int32)]) B (hW.eq rfl) (c_X12_isBetween l G b (0 : Int32) (5 : Int32)) yd_X12_isBetween ml_X12_36 rfl hl.1 rfl (Nat.le_of_ble_eq_true rfl) ⟨Nat.le_of_ble_eq_true rfl, Nat.le_of_ble_eq_true rfl⟩ ⟨(Nat.le_of_ble_eq_true rfl), (Nat.le_of_ble_eq_true rfl)⟩ dX12_isCell_13 (fun v u H locs hp hW => ?_)
    obtain ⟨rfl, rfl⟩ := hp
    have hW := hW.eq (w' := []) rfl
    refine lv_if_eq (tgt := 23) hx hb dX12_isCell_16 (by decide) (fun c_16 => ?_) (fun c_16 => ?_)
    · refine lv_iconst (v := (0 : Int32)) hx hb dX12_isCell_23 (by decide) ?_
      have e_0 : (if (r_X12_isBetween a (0 : Int32) (7 : Int32)) = (0 : Int32) then (0 : Int32) else (if (r_X12_isBetween b (0 : Int32) (5 : Int32)) = (0 : Int32) then (0 : Int32) else (1 : Int32))) = (0 : Int32) := (if_neg c_7).trans (if_pos c_16)
      refine W.eq (g2 := F0 m 24 ls [.int (if (r_X12_isBetween a (0 : Int32) (7 : Int32)) = (0 : Int32) then (0 : Int32) else (if (r_X12_isBetween b (0 : Int32) (5 : Int32)) = (0 : Int32) then (0 : Int32) else (1 : Int32)))]) (by (try rw [e_0]) <;> rfl) ?_
      exact J_1 _ _ _ (hW.eq (by (try rw [e_0]) <;> rfl)) (by (try rw [e_0]) <;> exact lv_sub hl [] rfl)
    · refine lv_iconst (v := (1 : Int32)) hx hb dX12_isCell_19 (by decide) ?_
      refine lv_goto (tgt := 24) hx hb dX12_isCell_20 (by decide) ?_
      have e_0 : (if (r_X12_isBetween a (0 : Int32) (7 : Int32)) = (0 : Int32) then (0 : Int32) else (if (r_X12_isBetween b (0 : Int32) (5 : Int32)) = (0 : Int32) then (0 : Int32) else (1 : Int32))) = (1 : Int32) := (if_neg c_7).trans (if_neg c_16)
      refine W.eq (g2 := F0 m 24 ls [.int (if (r_X12_isBetween a (0 : Int32) (7 : Int32)) = (0 : Int32) then (0 : Int32) else (if (r_X12_isBetween b (0 : Int32) (5 : Int32)) = (0 : Int32) then (0 : Int32) else (1 : Int32)))]) (by (try rw [e_0]) <;> rfl) ?_
      exact J_1 _ _ _ (hW.eq (by (try rw [e_0]) <;> rfl)) (by (try rw [e_0]) <;> exact lv_sub hl [] rfl)
def r_X12_isCrew (a : Int32) : Int32 := (r_X12_isBetween a (0 : Int32) (2 : Int32))
abbrev po_X12_isCrew (G : zG)  (a : Int32) : Option Value → va_W → Prop := fun r u => r = some (.int (r_X12_isCrew a)) ∧ u = []
set_option maxHeartbeats 4000000 in
set_option maxRecDepth 100000 in
theorem c_X12_isCrew (l : Launch) (G : zG)  (a : Int32) : zC l yX12_isCrew cX12_isCrew 1 (some .boolean) 1 0 0 G [.int a] ([]) (po_X12_isCrew G a) := by
  refine zC.of RX12 rfl (by decide) (Nat.le_of_ble_eq_true rfl) ?_
  intro p e s m args below meth c A ls B hr hlk hnm hW hl
  have hx := B.x
  have hb := B.b
  have hl : lv_has ls 1 [(0, .int a)] := hl
  refine lv_iload_n hx hb dX12_isCrew_0 rfl (lv_at hl 0 rfl) ?_
  refine lv_iconst (v := (0 : Int32)) hx hb dX12_isCrew_1 (by decide) ?_
  refine lv_iconst (v := (2 : Int32)) hx hb dX12_isCrew_2 (by decide) ?_
  refine zcS (w1 := []) (wc := []) (w2 := []) (As := [.int a, .int (0 : Int32), .int (2 : Int32)]) B (hW.eq rfl) (c_X12_isBetween l G a (0 : Int32) (2 : Int32)) yd_X12_isBetween ml_X12_36 rfl hl.1 rfl (Nat.le_of_ble_eq_true rfl) ⟨Nat.le_of_ble_eq_true rfl, Nat.le_of_ble_eq_true rfl⟩ ⟨(Nat.le_of_ble_eq_true rfl), (Nat.le_of_ble_eq_true rfl)⟩ dX12_isCrew_3 (fun v u H locs hp hW => ?_)
  obtain ⟨rfl, rfl⟩ := hp
  have hW := hW.eq (w' := []) rfl
  exact zzret B hr hlk (by unfold r_X12_isBetween; (repeat' split) <;> rfl) hW ⟨rfl, rfl⟩ (Nat.le_refl _) (Nat.le_refl _) dX12_isCrew_6
def r_X12_at (a : Int32) (b : Int32) : Int32 := ((b * (8 : Int32)) + a)
abbrev po_X12_at (G : zG)  (a : Int32) (b : Int32) : Option Value → va_W → Prop := fun r u => r = some (.int (r_X12_at a b)) ∧ u = []
set_option maxHeartbeats 4000000 in
set_option maxRecDepth 100000 in
theorem c_X12_at (l : Launch) (G : zG)  (a : Int32) (b : Int32) : zC l yX12_at cX12_at 2 (some .int) 0 0 0 G [.int a, .int b] ([]) (po_X12_at G a b) := by
  refine zC.of RX12 rfl (by decide) (Nat.le_of_ble_eq_true rfl) ?_
  intro p e s m args below meth c A ls B hr hlk hnm hW hl
  have hx := B.x
  have hb := B.b
  have hl : lv_has ls 2 [(0, .int a), (1, .int b)] := hl
  refine lv_iload_n hx hb dX12_at_0 rfl (lv_at hl 1 rfl) ?_
  refine lv_bipush (v := (8 : Int32)) hx hb dX12_at_1 (by decide) ?_
  refine lv_imul hx hb dX12_at_3 ?_
  refine lv_iload_n hx hb dX12_at_4 rfl (lv_at hl 0 rfl) ?_
  refine lv_iadd hx hb dX12_at_5 ?_
  exact ziret B hr hlk hW ⟨rfl, rfl⟩ (Nat.le_refl _) (Nat.le_refl _) dX12_at_6
theorem zfit {x : Int32} (h : vp_nar .boolean x = x) : fits .boolean (.int x) = true := by
  have h1 : x &&& 1 = x := h
  have h2 := congrArg Int32.toBitVec h1
  rw [Int32.toBitVec_and] at h2
  have h3 := congrArg BitVec.toNat h2
  rw [BitVec.toNat_and] at h3
  have h4 : x.toBitVec.toNat &&& 1 = x.toBitVec.toNat := h3
  rw [Nat.and_one_is_mod] at h4
  have h5 : x.toBitVec.toNat = 0 ∨ x.toBitVec.toNat = 1 := by omega
  rcases h5 with h5 | h5
  · have : x = 0 := Int32.toBitVec_inj.mp (BitVec.eq_of_toNat_eq h5)
    subst this; rfl
  · have : x = 1 := Int32.toBitVec_inj.mp (BitVec.eq_of_toNat_eq h5)
    subst this; rfl
theorem zmbet {a b d : Int32} (h : ¬ r_X12_isBetween a b d = (0 : Int32)) : b ≤ a ∧ a ≤ d := by
  unfold r_X12_isBetween at h
  by_cases c1 : b ≤ a
  · by_cases c2 : a ≤ d
    · exact ⟨c1, c2⟩
    · exact absurd (by simp [c1, c2]) h
  · exact absurd (by simp [c1]) h
theorem zmix {a : Int32} {k n : Nat} (hk : k < n ∧ n < 2 ^ 31) (h : (0 : Int32) ≤ a ∧ a ≤ nI k) : vp_in a n ∧ a.toNatClampNeg ≤ k ∧ a = nI a.toNatClampNeg := by
  rcases pk_ix a (n := n) hk.2 with h1 | h1 | ⟨i, hi, rfl⟩
  · exact absurd (Int32.lt_of_lt_of_le h1 h.1) Int32.lt_irrefl
  · exact absurd (Int32.le_trans h1 h.2) (nI_ge hk.1 hk.2)
  · rw [nI_clamp (by omega)]
    refine ⟨vp_in_nI hi hk.2, ?_, rfl⟩
    rcases Nat.lt_or_ge k i with q | q
    · exact absurd h.2 (nI_ge q (by omega))
    · exact q
theorem zmcell {a b : Int32} (h : ¬ r_X12_isCell a b = (0 : Int32)) : ¬ r_X12_isBetween a (0 : Int32) (7 : Int32) = (0 : Int32) ∧ ¬ r_X12_isBetween b (0 : Int32) (5 : Int32) = (0 : Int32) := by
  unfold r_X12_isCell at h
  by_cases c1 : r_X12_isBetween a (0 : Int32) (7 : Int32) = (0 : Int32)
  · exact absurd (by simp [c1]) h
  · by_cases c2 : r_X12_isBetween b (0 : Int32) (5 : Int32) = (0 : Int32)
    · exact absurd (by simp [c1, c2]) h
    · exact ⟨c1, c2⟩
theorem zmcell_ix {a b : Int32} (h : ¬ r_X12_isCell a b = (0 : Int32)) : vp_in ((b * (8 : Int32)) + a) 48 := by
  obtain ⟨h1, h2⟩ := zmcell h
  obtain ⟨-, h3, h4⟩ := zmix (k := 7) (n := 8) ⟨by decide, by decide⟩ (zmbet h1)
  obtain ⟨-, h5, h6⟩ := zmix (k := 5) (n := 6) ⟨by decide, by decide⟩ (zmbet h2)
  rw [h4, h6, show (8 : Int32) = nI 8 from rfl, pk_mul, nI_add]
  exact vp_in_nI (by omega) (by decide)
theorem zmsz {a : Int32} {n : Nat} (hn : n < 2 ^ 31) (h : ¬ r_X12_isBetween a (0 : Int32) (nI n - (1 : Int32)) = (0 : Int32)) : a = nI a.toNatClampNeg ∧ a.toNatClampNeg < n := by
  have h1 := zmbet h
  rcases Nat.eq_zero_or_pos n with q | q
  · subst q
    exact absurd (Int32.le_trans h1.1 h1.2) (by decide)
  · obtain ⟨k, rfl⟩ : ∃ k, n = k + 1 := ⟨n - 1, by omega⟩
    have e : nI (k + 1) - (1 : Int32) = nI k := by rw [← nI_1]; exact Int32.add_sub_cancel _ _
    rw [e] at h1
    obtain ⟨-, h2, h3⟩ := zmix (k := k) (n := k + 1) ⟨by omega, hn⟩ h1
    exact ⟨h3, by omega⟩
