abbrev zScho : Type := (Nat → Int32) × (Nat → Int32) × (Nat → Int32) × Int32 × Int32
def schW (G : zG) (h : Nat) (ad : Nat → Nat) (x : zScho) : va_W := [(h, .inr (7, [.ref (ad 0), .ref (ad 1), .ref (ad 2), .int x.2.2.2.1, .int x.2.2.2.2])), (ad 0, .inl (G.2.1 1, 6, .inl x.1)), (ad 1, .inl (G.2.1 0, 6, .inl x.2.1)), (ad 2, .inl (G.2.1 0, 6, .inl x.2.2.1))]
def g_X3_enter_sc_0 (sc_0 : Nat → Int32) (sc_3 : Int32) : Nat → Int32 := (upd sc_0 sc_3.toNatClampNeg (1 : Int32))
def g_X3_enter_sc_1 (sc_1 : Nat → Int32) (sc_3 : Int32) (a : Int32) : Nat → Int32 := (upd sc_1 sc_3.toNatClampNeg a)
def g_X3_enter_sc_2 (sc_2 : Nat → Int32) (sc_3 : Int32) (b : Int32) : Nat → Int32 := (upd sc_2 sc_3.toNatClampNeg b)
def g_X3_enter_sc_3 (sc_3 : Int32) : Int32 := (sc_3 + (1 : Int32))
def f_X3_enter_sc (sc : zScho) (a : Int32) (b : Int32) (n : Nat) : zScho := (g_X3_enter_sc_0 sc.1 sc.2.2.2.1, g_X3_enter_sc_1 sc.2.1 sc.2.2.2.1 a, g_X3_enter_sc_2 sc.2.2.1 sc.2.2.2.1 b, g_X3_enter_sc_3 sc.2.2.2.1, sc.2.2.2.2)
def r_X3_enter (sc_3 : Int32) : Int32 := sc_3
abbrev po_X3_enter (G : zG) (h : Nat) (ad : Nat → Nat) (sc : zScho) (a : Int32) (b : Int32) (n : Nat) : Option Value → va_W → Prop := fun r u => r = some (.int (r_X3_enter sc.2.2.2.1)) ∧ u = schW G h ad (f_X3_enter_sc sc a b n)
set_option maxHeartbeats 4000000 in
set_option maxRecDepth 100000 in
theorem c_X3_enter (l : Launch) (G : zG) (h : Nat) (ad : Nat → Nat) (sc : zScho) (a : Int32) (b : Int32) (n : Nat) (hc : sc.2.2.2.1 = nI n) (hn : n < 6) : zC l yX3_enter cX3_enter 4 (some .int) 0 0 0 G [.ref h, .int a, .int b] (schW G h ad sc) (po_X3_enter G h ad sc a b n) := by
  refine zC.of RX3 rfl (by decide) (Nat.le_of_ble_eq_true rfl) ?_
  intro p e s m args below meth c A ls B hr hlk hnm hW hl
  have hx := B.x
  have hb := B.b
  have hl : lv_has ls 4 [(0, .ref h), (1, .int a), (2, .int b)] := hl
  refine lv_aload_n hx hb dX3_enter_0 rfl (lv_at hl 0 rfl) ?_
  refine zget B hW 0 rfl lf_X3_22 rfl dX3_enter_1 ?_
  refine lv_istore_n hx hb dX3_enter_4 rfl hl (by decide) rfl (fun ls hl => ?_)
  refine lv_aload_n hx hb dX3_enter_5 rfl (lv_at hl 1 rfl) ?_
  refine zget B hW 0 rfl lf_X3_15 rfl dX3_enter_6 ?_
  refine lv_iload_n hx hb dX3_enter_9 rfl (lv_at hl 0 rfl) ?_
  refine lv_iload_n hx hb dX3_enter_10 rfl (lv_at hl 2 rfl) ?_
  refine ziast B hW 2 rfl (by rw [hc]; exact vp_in_nI hn (by decide)) dX3_enter_11 (fun H locs hW => ?_)
  refine lv_aload_n hx hb dX3_enter_12 rfl (lv_at hl 1 rfl) ?_
  refine zget B hW 0 rfl lf_X3_19 rfl dX3_enter_13 ?_
  refine lv_iload_n hx hb dX3_enter_16 rfl (lv_at hl 0 rfl) ?_
  refine lv_iload_n hx hb dX3_enter_17 rfl (lv_at hl 3 rfl) ?_
  refine ziast B hW 3 rfl (by rw [hc]; exact vp_in_nI hn (by decide)) dX3_enter_18 (fun H locs hW => ?_)
  refine lv_aload_n hx hb dX3_enter_19 rfl (lv_at hl 1 rfl) ?_
  refine zget B hW 0 rfl lf_X3_9 rfl dX3_enter_20 ?_
  refine lv_iload_n hx hb dX3_enter_23 rfl (lv_at hl 0 rfl) ?_
  refine lv_iconst (v := (1 : Int32)) hx hb dX3_enter_24 (by decide) ?_
  refine zzast B hW 1 rfl (by first | decide | ((repeat' split) <;> rfl)) (by rw [hc]; exact vp_in_nI hn (by decide)) dX3_enter_25 (fun H locs hW => ?_)
  refine lv_aload_n hx hb dX3_enter_26 rfl (lv_at hl 1 rfl) ?_
  refine lv_dup hx hb dX3_enter_27 rfl ?_
  refine zget B hW 0 rfl lf_X3_22 rfl dX3_enter_28 ?_
  refine lv_iconst (v := (1 : Int32)) hx hb dX3_enter_31 (by decide) ?_
  refine lv_iadd hx hb dX3_enter_32 ?_
  refine zput B hW 0 rfl lf_X3_22 ft_X3_3 rfl rfl (Nat.le_of_ble_eq_true rfl) dX3_enter_33 (fun H locs hW => ?_)
  refine lv_iload_n hx hb dX3_enter_36 rfl (lv_at hl 0 rfl) ?_
  exact ziret B hr hlk hW ⟨rfl, rfl⟩ (Nat.le_refl _) (Nat.le_refl _) dX3_enter_37
def st_X3_decide_2 (q_o_0 : Nat → Int32) (q_sc_1 : Nat → Int32) (q_sc_2 : Nat → Int32) (i_2 : Nat) (y : (Nat → Int32) × Int32) : (Nat → Int32) × Int32 := ((upd y.1 i_2 (if (q_sc_2 i_2) ≤ (q_o_0 (q_sc_1 i_2).toNatClampNeg) then (0 : Int32) else (1 : Int32))), (if (y.1 i_2) = (0 : Int32) then y.2 else (if (if (q_sc_2 i_2) ≤ (q_o_0 (q_sc_1 i_2).toNatClampNeg) then (0 : Int32) else (1 : Int32)) = (0 : Int32) then (y.2 + (1 : Int32)) else y.2)))
def lp_X3_decide_2 (q_o_0 : Nat → Int32) (q_sc_1 : Nat → Int32) (q_sc_2 : Nat → Int32) (y0 : (Nat → Int32) × Int32) : Nat → (Nat → Int32) × Int32
  | 0 => y0
  | n0 + 1 => st_X3_decide_2 q_o_0 q_sc_1 q_sc_2 n0 (lp_X3_decide_2 q_o_0 q_sc_1 q_sc_2 y0 n0)
termination_by n0 => n0
theorem lp_X3_decide_2_0 (q_o_0 : Nat → Int32) (q_sc_1 : Nat → Int32) (q_sc_2 : Nat → Int32) (y0 : (Nat → Int32) × Int32) : lp_X3_decide_2 q_o_0 q_sc_1 q_sc_2 y0 0 = y0 := by rw [lp_X3_decide_2]
theorem lp_X3_decide_2_s (q_o_0 : Nat → Int32) (q_sc_1 : Nat → Int32) (q_sc_2 : Nat → Int32) (y0 : (Nat → Int32) × Int32) (n0 : Nat) : lp_X3_decide_2 q_o_0 q_sc_1 q_sc_2 y0 (n0 + 1) = st_X3_decide_2 q_o_0 q_sc_1 q_sc_2 n0 (lp_X3_decide_2 q_o_0 q_sc_1 q_sc_2 y0 n0) := by rw [lp_X3_decide_2]
def g_X3_decide_sc_0 (o_0 : Nat → Int32) (sc_0 : Nat → Int32) (sc_1 : Nat → Int32) (sc_2 : Nat → Int32) (sc_4 : Int32) (n : Nat) : Nat → Int32 := (lp_X3_decide_2 o_0 sc_1 sc_2 (sc_0, sc_4) n).1
def g_X3_decide_sc_4 (o_0 : Nat → Int32) (sc_0 : Nat → Int32) (sc_1 : Nat → Int32) (sc_2 : Nat → Int32) (sc_4 : Int32) (n : Nat) : Int32 := (lp_X3_decide_2 o_0 sc_1 sc_2 (sc_0, sc_4) n).2
def f_X3_decide_sc (sc : zScho) (o : zOutl) (n : Nat) : zScho := (g_X3_decide_sc_0 o sc.1 sc.2.1 sc.2.2.1 sc.2.2.2.2 n, sc.2.1, sc.2.2.1, sc.2.2.2.1, g_X3_decide_sc_4 o sc.1 sc.2.1 sc.2.2.1 sc.2.2.2.2 n)
abbrev po_X3_decide (G : zG) (h : Nat) (ad : Nat → Nat) (sc : zScho) (h2 : Nat) (ad2 : Nat → Nat) (o : zOutl) (n : Nat) : Option Value → va_W → Prop := fun r u => r = none ∧ u = schW G h ad (f_X3_decide_sc sc o n) ++ (outW G h2 ad2 o)
set_option maxHeartbeats 4000000 in
set_option maxRecDepth 100000 in
theorem c_X3_decide (l : Launch) (G : zG) (h : Nat) (ad : Nat → Nat) (sc : zScho) (h2 : Nat) (ad2 : Nat → Nat) (o : zOutl) (n : Nat) (hc : sc.2.2.2.1 = nI n) (hn : n ≤ 6) (hp : ∀ k, k < n → vp_in (sc.2.1 k) 48) : zC l yX3_decide cX3_decide 4 none 0 0 0 G [.ref h, .ref h2] (schW G h ad sc ++ (outW G h2 ad2 o)) (po_X3_decide G h ad sc h2 ad2 o n) := by
  refine zC.of RX3 rfl (by decide) (Nat.le_of_ble_eq_true rfl) ?_
  intro p e s m args below meth c A ls B hr hlk hnm hW hl
  have hx := B.x
  have hb := B.b
  have hl : lv_has ls 4 [(0, .ref h), (1, .ref h2)] := hl
  refine lv_iconst (v := (0 : Int32)) hx hb dX3_decide_0 (by decide) ?_
  refine lv_istore_n hx hb dX3_decide_1 rfl hl (by decide) rfl (fun ls hl => ?_)
  have L_1 : ∀ i_2 : Nat, i_2 ≤ n → ∀ (H : Heap) (locs : List Loc) (ls : Array Slot), zW G A s.heap H locs (schW G h ad ((lp_X3_decide_2 o sc.2.1 sc.2.2.1 (sc.1, sc.2.2.2.2) i_2).1, sc.2.1, sc.2.2.1, sc.2.2.2.1, (lp_X3_decide_2 o sc.2.1 sc.2.2.1 (sc.1, sc.2.2.2.2) i_2).2) ++ (outW G h2 ad2 o)) → lv_has ls 4 [(0, .ref h), (1, .ref h2), (2, .int (nI i_2))] → W p l e (zRm 0 0 0) s m args below meth c H locs 0 0 (MQ below (zQ G A (po_X3_decide G h ad sc h2 ad2 o n)) args s 0 0 A) (F0 m 2 ls []) := by
    refine zloop n ?_ ?_
    · intro H locs ls hW hl
      refine lv_iload_n hx hb dX3_decide_2 rfl (lv_at hl 2 rfl) ?_
      refine lv_aload_n hx hb dX3_decide_3 rfl (lv_at hl 0 rfl) ?_
      refine zget B hW 0 rfl lf_X3_22 rfl dX3_decide_4 ?_
      refine lv_icmp_ge (tgt := 72) hx hb dX3_decide_7 (by decide) (fun c_7 => ?_) (fun c_7 => absurd (zge (hc)) c_7)
      exact zvret B hr hlk hW ⟨rfl, rfl⟩ (Nat.le_refl _) (Nat.le_refl _) dX3_decide_72
    · intro i_2 hi_2 ih H locs ls hW hl
      refine lv_iload_n hx hb dX3_decide_2 rfl (lv_at hl 2 rfl) ?_
      refine lv_aload_n hx hb dX3_decide_3 rfl (lv_at hl 0 rfl) ?_
      refine zget B hW 0 rfl lf_X3_22 rfl dX3_decide_4 ?_
      refine lv_icmp_ge (tgt := 72) hx hb dX3_decide_7 (by decide) (fun c_7 => absurd c_7 (znle (hc) hi_2 (by omega))) (fun c_7 => ?_)
      refine lv_aload_n hx hb dX3_decide_10 rfl (lv_at hl 1 rfl) ?_
      refine zget B hW 4 rfl lf_X3_29 rfl dX3_decide_11 ?_
      refine lv_aload_n hx hb dX3_decide_14 rfl (lv_at hl 0 rfl) ?_
      refine zget B hW 0 rfl lf_X3_15 rfl dX3_decide_15 ?_
      refine lv_iload_n hx hb dX3_decide_18 rfl (lv_at hl 2 rfl) ?_
      refine zialdN B hW 2 rfl i_2 rfl (by omega) (by decide) dX3_decide_19 ?_
      refine ziald B hW 5 rfl (hp _ hi_2) dX3_decide_20 ?_
      refine lv_aload_n hx hb dX3_decide_21 rfl (lv_at hl 0 rfl) ?_
      refine zget B hW 0 rfl lf_X3_19 rfl dX3_decide_22 ?_
      refine lv_iload_n hx hb dX3_decide_25 rfl (lv_at hl 2 rfl) ?_
      refine zialdN B hW 3 rfl i_2 rfl (by omega) (by decide) dX3_decide_26 ?_
      have J_2 : ∀ (H : Heap) (locs : List Loc) (ls : Array Slot), zW G A s.heap H locs (schW G h ad ((lp_X3_decide_2 o sc.2.1 sc.2.2.1 (sc.1, sc.2.2.2.2) i_2).1, sc.2.1, sc.2.2.1, sc.2.2.2.1, (lp_X3_decide_2 o sc.2.1 sc.2.2.1 (sc.1, sc.2.2.2.2) i_2).2) ++ (outW G h2 ad2 o)) → lv_has ls 4 [(0, .ref h), (1, .ref h2), (2, .int (nI i_2))] → W p l e (zRm 0 0 0) s m args below meth c H locs 0 0 (MQ below (zQ G A (po_X3_decide G h ad sc h2 ad2 o n)) args s 0 0 A) (F0 m 35 ls [.int (if (sc.2.2.1 i_2) ≤ (o (sc.2.1 i_2).toNatClampNeg) then (0 : Int32) else (1 : Int32))]) := by
        intro H locs ls hW hl
        refine lv_istore_n hx hb dX3_decide_35 rfl hl (by decide) rfl (fun ls hl => ?_)
        refine lv_aload_n hx hb dX3_decide_36 rfl (lv_at hl 1 rfl) ?_
        refine zget B hW 0 rfl lf_X3_9 rfl dX3_decide_37 ?_
        refine lv_iload_n hx hb dX3_decide_40 rfl (lv_at hl 3 rfl) ?_
        refine zzaldN B hW 1 rfl i_2 rfl (by omega) (by decide) dX3_decide_41 ?_
        have J_3 : ∀ (H : Heap) (locs : List Loc) (ls : Array Slot), zW G A s.heap H locs (schW G h ad ((lp_X3_decide_2 o sc.2.1 sc.2.2.1 (sc.1, sc.2.2.2.2) i_2).1, sc.2.1, sc.2.2.1, sc.2.2.2.1, (if (((lp_X3_decide_2 o sc.2.1 sc.2.2.1 (sc.1, sc.2.2.2.2) i_2).1) i_2) = (0 : Int32) then (lp_X3_decide_2 o sc.2.1 sc.2.2.1 (sc.1, sc.2.2.2.2) i_2).2 else (if (if (sc.2.2.1 i_2) ≤ (o (sc.2.1 i_2).toNatClampNeg) then (0 : Int32) else (1 : Int32)) = (0 : Int32) then ((lp_X3_decide_2 o sc.2.1 sc.2.2.1 (sc.1, sc.2.2.2.2) i_2).2 + (1 : Int32)) else (lp_X3_decide_2 o sc.2.1 sc.2.2.1 (sc.1, sc.2.2.2.2) i_2).2))) ++ (outW G h2 ad2 o)) → lv_has ls 4 [(0, .ref h), (1, .ref h2), (2, .int (nI i_2)), (3, .int (if (sc.2.2.1 i_2) ≤ (o (sc.2.1 i_2).toNatClampNeg) then (0 : Int32) else (1 : Int32)))] → W p l e (zRm 0 0 0) s m args below meth c H locs 0 0 (MQ below (zQ G A (po_X3_decide G h ad sc h2 ad2 o n)) args s 0 0 A) (F0 m 59 ls []) := by
          intro H locs ls hW hl
          refine lv_aload_n hx hb dX3_decide_59 rfl (lv_at hl 0 rfl) ?_
          refine zget B hW 0 rfl lf_X3_9 rfl dX3_decide_60 ?_
          refine lv_iload_n hx hb dX3_decide_63 rfl (lv_at hl 2 rfl) ?_
          refine lv_iload_n hx hb dX3_decide_64 rfl (lv_at hl 3 rfl) ?_
          refine zzastN B hW 1 rfl i_2 (by first | decide | ((repeat' split) <;> rfl)) rfl (by omega) (by decide) dX3_decide_65 (fun H locs hW => ?_)
          refine lv_iinc (v := (nI (i_2 + 1))) hx hb dX3_decide_66 hl (k := 2) rfl (nI_1 _) (by decide) rfl (fun ls hl => ?_)
          refine lv_goto (tgt := 2) hx hb dX3_decide_69 (by decide) ?_
          exact ih _ _ _ (hW.eq (by rw [lp_X3_decide_2_s] <;> rfl)) (lv_sub hl [1, 2, 0] rfl)
        refine lv_if_eq (tgt := 59) hx hb dX3_decide_42 (by decide) (fun c_42 => ?_) (fun c_42 => ?_)
        · have e_0 : (if (((lp_X3_decide_2 o sc.2.1 sc.2.2.1 (sc.1, sc.2.2.2.2) i_2).1) i_2) = (0 : Int32) then (lp_X3_decide_2 o sc.2.1 sc.2.2.1 (sc.1, sc.2.2.2.2) i_2).2 else (if (if (sc.2.2.1 i_2) ≤ (o (sc.2.1 i_2).toNatClampNeg) then (0 : Int32) else (1 : Int32)) = (0 : Int32) then ((lp_X3_decide_2 o sc.2.1 sc.2.2.1 (sc.1, sc.2.2.2.2) i_2).2 + (1 : Int32)) else (lp_X3_decide_2 o sc.2.1 sc.2.2.1 (sc.1, sc.2.2.2.2) i_2).2)) = (lp_X3_decide_2 o sc.2.1 sc.2.2.1 (sc.1, sc.2.2.2.2) i_2).2 := if_pos c_42
          exact J_3 _ _ _ (hW.eq (by (try rw [e_0]) <;> rfl)) (by (try rw [e_0]) <;> exact lv_sub hl [1, 2, 3, 0] rfl)
        · refine lv_iload_n hx hb dX3_decide_45 rfl (lv_at hl 0 rfl) ?_
          refine lv_if_ne (tgt := 59) hx hb dX3_decide_46 (by decide) (fun c_46 => ?_) (fun c_46 => ?_)
          · have e_0 : (if (((lp_X3_decide_2 o sc.2.1 sc.2.2.1 (sc.1, sc.2.2.2.2) i_2).1) i_2) = (0 : Int32) then (lp_X3_decide_2 o sc.2.1 sc.2.2.1 (sc.1, sc.2.2.2.2) i_2).2 else (if (if (sc.2.2.1 i_2) ≤ (o (sc.2.1 i_2).toNatClampNeg) then (0 : Int32) else (1 : Int32)) = (0 : Int32) then ((lp_X3_decide_2 o sc.2.1 sc.2.2.1 (sc.1, sc.2.2.2.2) i_2).2 + (1 : Int32)) else (lp_X3_decide_2 o sc.2.1 sc.2.2.1 (sc.1, sc.2.2.2.2) i_2).2)) = (lp_X3_decide_2 o sc.2.1 sc.2.2.1 (sc.1, sc.2.2.2.2) i_2).2 := (if_neg c_42).trans (if_neg c_46)
            exact J_3 _ _ _ (hW.eq (by (try rw [e_0]) <;> rfl)) (by (try rw [e_0]) <;> exact lv_sub hl [1, 2, 3, 0] rfl)
          · refine lv_aload_n hx hb dX3_decide_49 rfl (lv_at hl 1 rfl) ?_
            refine lv_dup hx hb dX3_decide_50 rfl ?_
            refine zget B hW 0 rfl lf_X3_26 rfl dX3_decide_51 ?_
            refine lv_iconst (v := (1 : Int32)) hx hb dX3_decide_54 (by decide) ?_
            refine lv_iadd hx hb dX3_decide_55 ?_
            refine zput B hW 0 rfl lf_X3_26 ft_X3_4 rfl rfl (Nat.le_of_ble_eq_true rfl) dX3_decide_56 (fun H locs hW => ?_)
            have e_0 : (if (((lp_X3_decide_2 o sc.2.1 sc.2.2.1 (sc.1, sc.2.2.2.2) i_2).1) i_2) = (0 : Int32) then (lp_X3_decide_2 o sc.2.1 sc.2.2.1 (sc.1, sc.2.2.2.2) i_2).2 else (if (if (sc.2.2.1 i_2) ≤ (o (sc.2.1 i_2).toNatClampNeg) then (0 : Int32) else (1 : Int32)) = (0 : Int32) then ((lp_X3_decide_2 o sc.2.1 sc.2.2.1 (sc.1, sc.2.2.2.2) i_2).2 + (1 : Int32)) else (lp_X3_decide_2 o sc.2.1 sc.2.2.1 (sc.1, sc.2.2.2.2) i_2).2)) = ((lp_X3_decide_2 o sc.2.1 sc.2.2.1 (sc.1, sc.2.2.2.2) i_2).2 + (1 : Int32)) := (if_neg c_42).trans (if_pos c_46)
            exact J_3 _ _ _ (hW.eq (by (try rw [e_0]) <;> rfl)) (by (try rw [e_0]) <;> exact lv_sub hl [1, 2, 3, 0] rfl)
      refine lv_icmp_ge (tgt := 34) hx hb dX3_decide_27 (by decide) (fun c_27 => ?_) (fun c_27 => ?_)
      · refine lv_iconst (v := (0 : Int32)) hx hb dX3_decide_34 (by decide) ?_
        have e_0 : (if (sc.2.2.1 i_2) ≤ (o (sc.2.1 i_2).toNatClampNeg) then (0 : Int32) else (1 : Int32)) = (0 : Int32) := if_pos c_27
        refine W.eq (g2 := F0 m 35 ls [.int (if (sc.2.2.1 i_2) ≤ (o (sc.2.1 i_2).toNatClampNeg) then (0 : Int32) else (1 : Int32))]) (by (try rw [e_0]) <;> rfl) ?_
        exact J_2 _ _ _ (hW.eq (by (try rw [e_0]) <;> rfl)) (by (try rw [e_0]) <;> exact lv_sub hl [0, 1, 2] rfl)
      · refine lv_iconst (v := (1 : Int32)) hx hb dX3_decide_30 (by decide) ?_
        refine lv_goto (tgt := 35) hx hb dX3_decide_31 (by decide) ?_
        have e_0 : (if (sc.2.2.1 i_2) ≤ (o (sc.2.1 i_2).toNatClampNeg) then (0 : Int32) else (1 : Int32)) = (1 : Int32) := if_neg c_27
        refine W.eq (g2 := F0 m 35 ls [.int (if (sc.2.2.1 i_2) ≤ (o (sc.2.1 i_2).toNatClampNeg) then (0 : Int32) else (1 : Int32))]) (by (try rw [e_0]) <;> rfl) ?_
        exact J_2 _ _ _ (hW.eq (by (try rw [e_0]) <;> rfl)) (by (try rw [e_0]) <;> exact lv_sub hl [0, 1, 2] rfl)
  exact L_1 0 (Nat.zero_le _) _ _ _ (hW.eq (by rw [lp_X3_decide_2_0] <;> rfl)) (lv_sub hl [1, 2, 0] rfl)
