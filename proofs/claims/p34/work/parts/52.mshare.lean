set_option maxHeartbeats 4000000 in
set_option maxRecDepth 100000 in
theorem zro52mshare_0 {G : zG} {A : Nat → Prop} {H0 H : Heap} {locs : List Loc} {b0 b1 b2 b3 b4 : va_W} (h : zW G A H0 H locs (b0 ++ (b1 ++ (b2 ++ (b3 ++ (b4)))))) : zW G A H0 H locs (b2 ++ (b1 ++ (b0 ++ (b3 ++ (b4))))) := (h.blk [b0, b1, b2, b3, b4] [b2, b1, b0, b3, b4] [2, 1, 0, 3, 4] rfl rfl).eq rfl
set_option maxHeartbeats 4000000 in
set_option maxRecDepth 100000 in
theorem zro52mshare_1 {G : zG} {A : Nat → Prop} {H0 H : Heap} {locs : List Loc} {b0 b1 b2 b3 b4 : va_W} (h : zW G A H0 H locs (b0 ++ (b1 ++ (b2 ++ (b3 ++ (b4)))))) : zW G A H0 H locs (b0 ++ (b1 ++ (b3 ++ (b4)))) := (h.blk [b0, b1, b2, b3, b4] [b0, b1, b3, b4] [0, 1, 3, 4] rfl rfl).eq rfl
set_option maxHeartbeats 4000000 in
set_option maxRecDepth 100000 in
theorem zro52mshare_2 {G : zG} {A : Nat → Prop} {H0 H : Heap} {locs : List Loc} {b0 b1 b2 b3 b4 : va_W} (h : zW G A H0 H locs (b0 ++ (b1 ++ (b2 ++ (b3 ++ (b4)))))) : zW G A H0 H locs (b2 ++ (b1 ++ (b4 ++ (b0 ++ (b3))))) := (h.blk [b0, b1, b2, b3, b4] [b2, b1, b4, b0, b3] [2, 1, 4, 0, 3] rfl rfl).eq rfl
set_option maxHeartbeats 4000000 in
set_option maxRecDepth 100000 in
theorem zro52mshare_3 {G : zG} {A : Nat → Prop} {H0 H : Heap} {locs : List Loc} {b0 b1 b2 b3 b4 : va_W} (h : zW G A H0 H locs (b0 ++ (b1 ++ (b2 ++ (b3 ++ (b4)))))) : zW G A H0 H locs (b3 ++ (b1 ++ (b0 ++ (b4 ++ (b2))))) := (h.blk [b0, b1, b2, b3, b4] [b3, b1, b0, b4, b2] [3, 1, 0, 4, 2] rfl rfl).eq rfl
theorem zmemp {x : Int32} (h : r_X12_isWrong (if x = (0 : Int32) then (0 : Int32) else (1 : Int32)) = (0 : Int32)) : x = (0 : Int32) := by
  by_cases c : x = (0 : Int32)
  · exact c
  · rw [if_neg c] at h
    exact absurd h (by decide)
def st_X12_trustShare_12 (q_se_6 : Nat → Int32) (i_12 : Nat) (y : Int32) : Int32 := (y + (if (q_se_6 i_12) = (0 : Int32) then (1 : Int32) else (0 : Int32)))
def lp_X12_trustShare_12 (q_se_6 : Nat → Int32) (y0 : Int32) : Nat → Int32
  | 0 => y0
  | n0 + 1 => st_X12_trustShare_12 q_se_6 n0 (lp_X12_trustShare_12 q_se_6 y0 n0)
termination_by n0 => n0
theorem lp_X12_trustShare_12_0 (q_se_6 : Nat → Int32) (y0 : Int32) : lp_X12_trustShare_12 q_se_6 y0 0 = y0 := by rw [lp_X12_trustShare_12]
theorem lp_X12_trustShare_12_s (q_se_6 : Nat → Int32) (y0 : Int32) (n0 : Nat) : lp_X12_trustShare_12 q_se_6 y0 (n0 + 1) = st_X12_trustShare_12 q_se_6 n0 (lp_X12_trustShare_12 q_se_6 y0 n0) := by rw [lp_X12_trustShare_12]
def g_X12_trustShare_md_0 (se_0 : Nat) : Int32 := (g_X12_isWrong_md_0 (if (r_Jx4a65c_isEmpty_aae02 (nI se_0)) = (0 : Int32) then (0 : Int32) else (1 : Int32)))
def f_X12_trustShare_md (md : zMd) (l1 : zAL) (se : zMs) (r1 : zRn) : zMd := (g_X12_trustShare_md_0 se.1, md.2.1, md.2.2.1, md.2.2.2)
def r_X12_trustShare (se_0 : Nat) (se_6 : Nat → Int32) : UInt32 := (if (r_X12_isWrong (if (r_Jx4a65c_isEmpty_aae02 (nI se_0)) = (0 : Int32) then (0 : Int32) else (1 : Int32))) = (0 : Int32) then (FP.fdiv (FP.i2f (lp_X12_trustShare_12 se_6 (0 : Int32) se_0)) (FP.i2f (r_Jx4a65c_size_8abf5 (nI se_0)))) else FP.fconst0)
abbrev po_X12_trustShare (G : zG) (h : Nat) (ad : Nat → Nat) (md : zMd) (ad1 : Nat → Nat) (l1 : zAL) (a1 : Nat → Nat) (se : zMs) (q1 : Nat) (r1 : zRn) : Option Value → va_W → Prop := fun r u => r = some (.float (r_X12_trustShare se.1 se.2.2.2.2.2.2.1)) ∧ u = mdW G h ad (f_X12_trustShare_md md l1 se r1) ++ (alW G (ad 1) ad1 (l1.1, (zLv G r1 q1), (nI se.1)) ++ (msW G 0 a1 (se.1, se.2.1, se.2.2.1, se.2.2.2.1, se.2.2.2.2.1, se.2.2.2.2.2.1, se.2.2.2.2.2.2.1, se.2.2.2.2.2.2.2) ++ (rwW G q1 a1 (se.1, r1))))
set_option maxHeartbeats 4000000 in
set_option maxRecDepth 100000 in
theorem c_X12_trustShare (l : Launch) (G : zG) (h : Nat) (ad : Nat → Nat) (md : zMd) (ad1 : Nat → Nat) (l1 : zAL) (a1 : Nat → Nat) (se : zMs) (q1 : Nat) (r1 : zRn) (hk_l1 : zLk se.1 r1) (hf : ¬ r_Jx4a65c_isEmpty_aae02 (nI se.1) = (0 : Int32) ∨ vf_n32 (FP.fdiv (FP.i2f (lp_X12_trustShare_12 se.2.2.2.2.2.2.1 (0 : Int32) se.1)) (FP.i2f (nI se.1)))) : zC l yX12_trustShare cX12_trustShare 4 (some .float) 4 1 4 G [.ref h] (mdW G h ad md ++ (alW G (ad 1) ad1 (l1.1, (zLv G r1 q1), (nI se.1)) ++ (msW G 0 a1 se ++ (rwW G q1 a1 (se.1, r1))))) (po_X12_trustShare G h ad md ad1 l1 a1 se q1 r1) := by
  refine zC.of RX12 rfl (by decide) (Nat.le_of_ble_eq_true rfl) ?_
  intro p e s m args below meth c A ls B hr hlk hnm hW hl
  have hx := B.x
  have hb := B.b
  have hl : lv_has ls 4 [(0, .ref h)] := hl
  refine lv_iconst (v := (0 : Int32)) hx hb dX12_trustShare_0 (by decide) ?_
  refine lv_istore_n hx hb dX12_trustShare_1 rfl hl (by decide) rfl (fun ls hl => ?_)
  refine lv_aload_n hx hb dX12_trustShare_2 rfl (lv_at hl 1 rfl) ?_
  refine zget B hW 0 rfl lf_X12_19 rfl dX12_trustShare_3 ?_
  refine zcF (w1 := mdW G h ad md) (wc := alW G (ad 1) ad1 (l1.1, (zLv G r1 q1), (nI se.1))) (w2 := msW G 0 a1 se ++ (rwW G q1 a1 (se.1, r1))) (As := []) B (hW.eq (by simp only [List.append_assoc, List.nil_append, List.append_nil, List.cons_append] <;> rfl)) (c_Jx4a65c_iterator_32c93 l G (ad 1) ad1 (l1.1, (zLv G r1 q1), (nI se.1))) yf_Jx4a65c_iterator_32c93 ml_X12_109 0 rfl rfl rfl rfl hl.1 rfl (Nat.le_of_ble_eq_true rfl) ⟨Nat.le_of_ble_eq_true rfl, Nat.le_of_ble_eq_true rfl⟩ ⟨(Nat.le_of_ble_eq_true rfl), (Nat.le_of_ble_eq_true rfl)⟩ dX12_trustShare_6 (fun v u H locs hp hW => ?_)
  obtain ⟨h_it_6, rfl, rfl⟩ := hp
  have hW := hW.eq (w' := mdW G h ad md ++ (alW G (ad 1) ad1 (l1.1, (zLv G r1 q1), (nI se.1)) ++ (itW G h_it_6 (zads [(ad 1)]) ((i_Jx35411_init_45d68 (l1.1, (zLv G r1 q1), (nI se.1))).1, (i_Jx35411_init_45d68 (l1.1, (zLv G r1 q1), (nI se.1))).2.1, (i_Jx35411_init_45d68 (l1.1, (zLv G r1 q1), (nI se.1))).2.2) ++ (msW G 0 a1 se ++ (rwW G q1 a1 (se.1, r1)))))) (by simp only [List.append_assoc, List.nil_append, List.append_nil, List.cons_append] <;> rfl)
  refine lv_astore_n hx hb dX12_trustShare_11 rfl hl (by decide) rfl (fun ls hl => ?_)
  have L_1 : ∀ i_12 : Nat, i_12 ≤ se.1 → ∀ (H : Heap) (locs : List Loc) (ls : Array Slot), zW G A s.heap H locs (mdW G h ad md ++ (alW G (ad 1) ad1 (l1.1, (zLv G r1 q1), (nI se.1)) ++ (itW G h_it_6 (zads [(ad 1)]) ((nI i_12), (zLr i_12), l1.1) ++ (msW G 0 a1 se ++ (rwW G q1 a1 (se.1, r1)))))) → lv_has ls 4 [(0, .ref h), (1, .int (lp_X12_trustShare_12 se.2.2.2.2.2.2.1 (0 : Int32) i_12)), (2, .ref h_it_6)] → W p l e (zRm 4 1 4) s m args below meth c H locs 1 4 (MQ below (zQ G A (po_X12_trustShare G h ad md ad1 l1 a1 se q1 r1)) args s 1 4 A) (F0 m 12 ls []) := by
    refine zloop se.1 ?_ ?_
    · intro H locs ls hW hl
      refine lv_aload_n hx hb dX12_trustShare_12 rfl (lv_at hl 2 rfl) ?_
      have hW := zro52mshare_0 (hW.eq (w' := mdW G h ad md ++ (alW G (ad 1) ad1 (l1.1, (zLv G r1 q1), (nI se.1)) ++ (itW G h_it_6 (zads [(ad 1)]) ((nI se.1), (zLr se.1), l1.1) ++ (msW G 0 a1 se ++ (rwW G q1 a1 (se.1, r1)))))) rfl)
      refine zcF (w1 := []) (wc := itW G h_it_6 (zads [(ad 1)]) ((nI se.1), (zLr se.1), l1.1) ++ (alW G (ad 1) ad1 (l1.1, (zLv G r1 q1), (nI se.1)))) (w2 := mdW G h ad md ++ (msW G 0 a1 se ++ (rwW G q1 a1 (se.1, r1)))) (As := []) B (hW.eq (by simp only [List.append_assoc, List.nil_append, List.append_nil, List.cons_append] <;> rfl)) (c_Jx35411_hasNext_aae02 l G h_it_6 (zads [(ad 1)]) ((nI se.1), (zLr se.1), l1.1) ad1 (l1.1, (zLv G r1 q1), (nI se.1))) yf_Jx35411_hasNext_aae02 ml_X12_113 0 rfl rfl rfl rfl hl.1 rfl (Nat.le_of_ble_eq_true rfl) ⟨Nat.le_of_ble_eq_true rfl, Nat.le_of_ble_eq_true rfl⟩ ⟨(Nat.le_of_ble_eq_true rfl), (Nat.le_of_ble_eq_true rfl)⟩ dX12_trustShare_13 (fun v u H locs hp hW => ?_)
      obtain ⟨rfl, rfl⟩ := hp
      have hW := hW.eq (w' := itW G h_it_6 (zads [(ad 1)]) ((nI se.1), (zLr se.1), l1.1) ++ (alW G (ad 1) ad1 (l1.1, (zLv G r1 q1), (nI se.1)) ++ (mdW G h ad md ++ (msW G 0 a1 se ++ (rwW G q1 a1 (se.1, r1)))))) (by simp only [List.append_assoc, List.nil_append, List.append_nil, List.cons_append] <;> rfl)
      have hW := zro52mshare_0 (hW.eq (w' := itW G h_it_6 (zads [(ad 1)]) ((nI se.1), (zLr se.1), l1.1) ++ (alW G (ad 1) ad1 (l1.1, (zLv G r1 q1), (nI se.1)) ++ (mdW G h ad md ++ (msW G 0 a1 se ++ (rwW G q1 a1 (se.1, r1)))))) rfl)
      refine lv_if_eq (tgt := 49) hx hb dX12_trustShare_18 (by decide) (fun c_18 => ?_) (fun c_18 => absurd (zhn0 _) c_18)
      refine lv_aload_n hx hb dX12_trustShare_49 rfl (lv_at hl 0 rfl) ?_
      refine lv_aload_n hx hb dX12_trustShare_50 rfl (lv_at hl 0 rfl) ?_
      refine zget B hW 0 rfl lf_X12_19 rfl dX12_trustShare_51 ?_
      refine zcF (w1 := mdW G h ad md) (wc := alW G (ad 1) ad1 (l1.1, (zLv G r1 q1), (nI se.1))) (w2 := itW G h_it_6 (zads [(ad 1)]) ((nI se.1), (zLr se.1), l1.1) ++ (msW G 0 a1 se ++ (rwW G q1 a1 (se.1, r1)))) (As := []) B (hW.eq (by simp only [List.append_assoc, List.nil_append, List.append_nil, List.cons_append] <;> rfl)) (c_Jx4a65c_isEmpty_aae02 l G (ad 1) ad1 (l1.1, (zLv G r1 q1), (nI se.1))) yf_Jx4a65c_isEmpty_aae02 ml_X12_237 0 rfl rfl rfl rfl hl.1 rfl (Nat.le_of_ble_eq_true rfl) ⟨Nat.le_of_ble_eq_true rfl, Nat.le_of_ble_eq_true rfl⟩ ⟨(Nat.le_of_ble_eq_true rfl), (Nat.le_of_ble_eq_true rfl)⟩ dX12_trustShare_54 (fun v u H locs hp hW => ?_)
      obtain ⟨rfl, rfl⟩ := hp
      have hW := hW.eq (w' := mdW G h ad md ++ (alW G (ad 1) ad1 (l1.1, (zLv G r1 q1), (nI se.1)) ++ (itW G h_it_6 (zads [(ad 1)]) ((nI se.1), (zLr se.1), l1.1) ++ (msW G 0 a1 se ++ (rwW G q1 a1 (se.1, r1)))))) (by simp only [List.append_assoc, List.nil_append, List.append_nil, List.cons_append] <;> rfl)
      have J_2 : ∀ (H : Heap) (locs : List Loc) (ls : Array Slot), zW G A s.heap H locs (mdW G h ad md ++ (alW G (ad 1) ad1 (l1.1, (zLv G r1 q1), (nI se.1)) ++ (itW G h_it_6 (zads [(ad 1)]) ((nI se.1), (zLr se.1), l1.1) ++ (msW G 0 a1 se ++ (rwW G q1 a1 (se.1, r1)))))) → lv_has ls 4 [(0, .ref h), (1, .int (lp_X12_trustShare_12 se.2.2.2.2.2.2.1 (0 : Int32) se.1))] → W p l e (zRm 4 1 4) s m args below meth c H locs 1 4 (MQ below (zQ G A (po_X12_trustShare G h ad md ad1 l1 a1 se q1 r1)) args s 1 4 A) (F0 m 67 ls [.int (if (r_Jx4a65c_isEmpty_aae02 (nI se.1)) = (0 : Int32) then (0 : Int32) else (1 : Int32)), .ref h]) := by
        intro H locs ls hW hl
        refine zcV (w1 := []) (wc := mdW G h ad md) (w2 := alW G (ad 1) ad1 (l1.1, (zLv G r1 q1), (nI se.1)) ++ (itW G h_it_6 (zads [(ad 1)]) ((nI se.1), (zLr se.1), l1.1) ++ (msW G 0 a1 se ++ (rwW G q1 a1 (se.1, r1))))) (As := [.int (if (r_Jx4a65c_isEmpty_aae02 (nI se.1)) = (0 : Int32) then (0 : Int32) else (1 : Int32))]) B (hW.eq (by simp only [List.append_assoc, List.nil_append, List.append_nil, List.cons_append] <;> rfl)) (c_X12_isWrong l G h ad md (if (r_Jx4a65c_isEmpty_aae02 (nI se.1)) = (0 : Int32) then (0 : Int32) else (1 : Int32))) yd_X12_isWrong ml_X12_44 0 rfl rfl rfl rfl hl.1 rfl (Nat.le_of_ble_eq_true rfl) ⟨Nat.le_of_ble_eq_true rfl, Nat.le_of_ble_eq_true rfl⟩ ⟨(Nat.le_of_ble_eq_true rfl), (Nat.le_of_ble_eq_true rfl)⟩ dX12_trustShare_67 (fun v u H locs hp hW => ?_)
        obtain ⟨rfl, rfl⟩ := hp
        have hW := hW.eq (w' := mdW G h ad ((g_X12_isWrong_md_0 (if (r_Jx4a65c_isEmpty_aae02 (nI se.1)) = (0 : Int32) then (0 : Int32) else (1 : Int32))), md.2.1, md.2.2.1, md.2.2.2) ++ (alW G (ad 1) ad1 (l1.1, (zLv G r1 q1), (nI se.1)) ++ (itW G h_it_6 (zads [(ad 1)]) ((nI se.1), (zLr se.1), l1.1) ++ (msW G 0 a1 se ++ (rwW G q1 a1 (se.1, r1)))))) (by simp only [List.append_assoc, List.nil_append, List.append_nil, List.cons_append] <;> rfl)
        have J_3 : ∀ (H : Heap) (locs : List Loc) (ls : Array Slot), zW G A s.heap H locs (mdW G h ad ((g_X12_isWrong_md_0 (if (r_Jx4a65c_isEmpty_aae02 (nI se.1)) = (0 : Int32) then (0 : Int32) else (1 : Int32))), md.2.1, md.2.2.1, md.2.2.2) ++ (alW G (ad 1) ad1 (l1.1, (zLv G r1 q1), (nI se.1)) ++ (itW G h_it_6 (zads [(ad 1)]) ((nI se.1), (zLr se.1), l1.1) ++ (msW G 0 a1 se ++ (rwW G q1 a1 (se.1, r1)))))) → lv_has ls 4 [] → W p l e (zRm 4 1 4) s m args below meth c H locs 1 4 (MQ below (zQ G A (po_X12_trustShare G h ad md ad1 l1 a1 se q1 r1)) args s 1 4 A) (F0 m 90 ls [.float (if (r_X12_isWrong (if (r_Jx4a65c_isEmpty_aae02 (nI se.1)) = (0 : Int32) then (0 : Int32) else (1 : Int32))) = (0 : Int32) then (FP.fdiv (FP.i2f (lp_X12_trustShare_12 se.2.2.2.2.2.2.1 (0 : Int32) se.1)) (FP.i2f (r_Jx4a65c_size_8abf5 (nI se.1)))) else FP.fconst0)]) := by
          intro H locs ls hW hl
          have hW := zro52mshare_1 (hW.eq (w' := mdW G h ad ((g_X12_isWrong_md_0 (if (r_Jx4a65c_isEmpty_aae02 (nI se.1)) = (0 : Int32) then (0 : Int32) else (1 : Int32))), md.2.1, md.2.2.1, md.2.2.2) ++ (alW G (ad 1) ad1 (l1.1, (zLv G r1 q1), (nI se.1)) ++ (itW G h_it_6 (zads [(ad 1)]) ((nI se.1), (zLr se.1), l1.1) ++ (msW G 0 a1 se ++ (rwW G q1 a1 (se.1, r1)))))) rfl)
          exact zfret B hr hlk hW ⟨rfl, rfl⟩ (Nat.le_refl _) (Nat.le_refl _) dX12_trustShare_90
        refine lv_if_eq (tgt := 77) hx hb dX12_trustShare_70 (by decide) (fun c_70 => ?_) (fun c_70 => ?_)
        · refine lv_iload_n hx hb dX12_trustShare_77 rfl (lv_at hl 1 rfl) ?_
          refine lv_i2f hx hb dX12_trustShare_78 ?_
          refine lv_aload_n hx hb dX12_trustShare_79 rfl (lv_at hl 0 rfl) ?_
          refine zget B hW 0 rfl lf_X12_19 rfl dX12_trustShare_80 ?_
          refine zcF (w1 := mdW G h ad ((g_X12_isWrong_md_0 (if (r_Jx4a65c_isEmpty_aae02 (nI se.1)) = (0 : Int32) then (0 : Int32) else (1 : Int32))), md.2.1, md.2.2.1, md.2.2.2)) (wc := alW G (ad 1) ad1 (l1.1, (zLv G r1 q1), (nI se.1))) (w2 := itW G h_it_6 (zads [(ad 1)]) ((nI se.1), (zLr se.1), l1.1) ++ (msW G 0 a1 se ++ (rwW G q1 a1 (se.1, r1)))) (As := []) B (hW.eq (by simp only [List.append_assoc, List.nil_append, List.append_nil, List.cons_append] <;> rfl)) (c_Jx4a65c_size_8abf5 l G (ad 1) ad1 (l1.1, (zLv G r1 q1), (nI se.1))) yf_Jx4a65c_size_8abf5 ml_X12_84 0 rfl rfl rfl rfl hl.1 rfl (Nat.le_of_ble_eq_true rfl) ⟨Nat.le_of_ble_eq_true rfl, Nat.le_of_ble_eq_true rfl⟩ ⟨(Nat.le_of_ble_eq_true rfl), (Nat.le_of_ble_eq_true rfl)⟩ dX12_trustShare_83 (fun v u H locs hp hW => ?_)
          obtain ⟨rfl, rfl⟩ := hp
          have hW := hW.eq (w' := mdW G h ad ((g_X12_isWrong_md_0 (if (r_Jx4a65c_isEmpty_aae02 (nI se.1)) = (0 : Int32) then (0 : Int32) else (1 : Int32))), md.2.1, md.2.2.1, md.2.2.2) ++ (alW G (ad 1) ad1 (l1.1, (zLv G r1 q1), (nI se.1)) ++ (itW G h_it_6 (zads [(ad 1)]) ((nI se.1), (zLr se.1), l1.1) ++ (msW G 0 a1 se ++ (rwW G q1 a1 (se.1, r1)))))) (by simp only [List.append_assoc, List.nil_append, List.append_nil, List.cons_append] <;> rfl)
          refine lv_i2f hx hb dX12_trustShare_88 ?_
          refine lv_fdiv hx hb dX12_trustShare_89 (hf.resolve_left (fun z => z (zmemp c_70))) ?_
          have e_0 : (if (r_X12_isWrong (if (r_Jx4a65c_isEmpty_aae02 (nI se.1)) = (0 : Int32) then (0 : Int32) else (1 : Int32))) = (0 : Int32) then (FP.fdiv (FP.i2f (lp_X12_trustShare_12 se.2.2.2.2.2.2.1 (0 : Int32) se.1)) (FP.i2f (r_Jx4a65c_size_8abf5 (nI se.1)))) else FP.fconst0) = (FP.fdiv (FP.i2f (lp_X12_trustShare_12 se.2.2.2.2.2.2.1 (0 : Int32) se.1)) (FP.i2f (r_Jx4a65c_size_8abf5 (nI se.1)))) := if_pos c_70
          refine W.eq (g2 := F0 m 90 ls [.float (if (r_X12_isWrong (if (r_Jx4a65c_isEmpty_aae02 (nI se.1)) = (0 : Int32) then (0 : Int32) else (1 : Int32))) = (0 : Int32) then (FP.fdiv (FP.i2f (lp_X12_trustShare_12 se.2.2.2.2.2.2.1 (0 : Int32) se.1)) (FP.i2f (r_Jx4a65c_size_8abf5 (nI se.1)))) else FP.fconst0)]) (by (try rw [e_0]) <;> rfl) ?_
          exact J_3 _ _ _ (hW.eq (by (try rw [e_0]) <;> rfl)) (by (try rw [e_0]) <;> exact lv_sub hl [] rfl)
        · refine lv_fconst0 hx hb dX12_trustShare_73 ?_
          refine lv_goto (tgt := 90) hx hb dX12_trustShare_74 (by decide) ?_
          have e_0 : (if (r_X12_isWrong (if (r_Jx4a65c_isEmpty_aae02 (nI se.1)) = (0 : Int32) then (0 : Int32) else (1 : Int32))) = (0 : Int32) then (FP.fdiv (FP.i2f (lp_X12_trustShare_12 se.2.2.2.2.2.2.1 (0 : Int32) se.1)) (FP.i2f (r_Jx4a65c_size_8abf5 (nI se.1)))) else FP.fconst0) = FP.fconst0 := if_neg c_70
          refine W.eq (g2 := F0 m 90 ls [.float (if (r_X12_isWrong (if (r_Jx4a65c_isEmpty_aae02 (nI se.1)) = (0 : Int32) then (0 : Int32) else (1 : Int32))) = (0 : Int32) then (FP.fdiv (FP.i2f (lp_X12_trustShare_12 se.2.2.2.2.2.2.1 (0 : Int32) se.1)) (FP.i2f (r_Jx4a65c_size_8abf5 (nI se.1)))) else FP.fconst0)]) (by (try rw [e_0]) <;> rfl) ?_
          exact J_3 _ _ _ (hW.eq (by (try rw [e_0]) <;> rfl)) (by (try rw [e_0]) <;> exact lv_sub hl [] rfl)
      refine lv_if_eq (tgt := 66) hx hb dX12_trustShare_59 (by decide) (fun c_59 => ?_) (fun c_59 => ?_)
      · refine lv_iconst (v := (0 : Int32)) hx hb dX12_trustShare_66 (by decide) ?_
        have e_0 : (if (r_Jx4a65c_isEmpty_aae02 (nI se.1)) = (0 : Int32) then (0 : Int32) else (1 : Int32)) = (0 : Int32) := if_pos c_59
        refine W.eq (g2 := F0 m 67 ls [.int (if (r_Jx4a65c_isEmpty_aae02 (nI se.1)) = (0 : Int32) then (0 : Int32) else (1 : Int32)), .ref h]) (by (try rw [e_0]) <;> rfl) ?_
        exact J_2 _ _ _ (hW.eq (by (try rw [e_0]) <;> rfl)) (by (try rw [e_0]) <;> exact lv_sub hl [0, 1] rfl)
      · refine lv_iconst (v := (1 : Int32)) hx hb dX12_trustShare_62 (by decide) ?_
        refine lv_goto (tgt := 67) hx hb dX12_trustShare_63 (by decide) ?_
        have e_0 : (if (r_Jx4a65c_isEmpty_aae02 (nI se.1)) = (0 : Int32) then (0 : Int32) else (1 : Int32)) = (1 : Int32) := if_neg c_59
        refine W.eq (g2 := F0 m 67 ls [.int (if (r_Jx4a65c_isEmpty_aae02 (nI se.1)) = (0 : Int32) then (0 : Int32) else (1 : Int32)), .ref h]) (by (try rw [e_0]) <;> rfl) ?_
        exact J_2 _ _ _ (hW.eq (by (try rw [e_0]) <;> rfl)) (by (try rw [e_0]) <;> exact lv_sub hl [0, 1] rfl)
    · intro i_12 hi_12 ih H locs ls hW hl
      refine lv_aload_n hx hb dX12_trustShare_12 rfl (lv_at hl 2 rfl) ?_
      have hW := zro52mshare_0 (hW.eq (w' := mdW G h ad md ++ (alW G (ad 1) ad1 (l1.1, (zLv G r1 q1), (nI se.1)) ++ (itW G h_it_6 (zads [(ad 1)]) ((nI i_12), (zLr i_12), l1.1) ++ (msW G 0 a1 se ++ (rwW G q1 a1 (se.1, r1)))))) rfl)
      refine zcF (w1 := []) (wc := itW G h_it_6 (zads [(ad 1)]) ((nI i_12), (zLr i_12), l1.1) ++ (alW G (ad 1) ad1 (l1.1, (zLv G r1 q1), (nI se.1)))) (w2 := mdW G h ad md ++ (msW G 0 a1 se ++ (rwW G q1 a1 (se.1, r1)))) (As := []) B (hW.eq (by simp only [List.append_assoc, List.nil_append, List.append_nil, List.cons_append] <;> rfl)) (c_Jx35411_hasNext_aae02 l G h_it_6 (zads [(ad 1)]) ((nI i_12), (zLr i_12), l1.1) ad1 (l1.1, (zLv G r1 q1), (nI se.1))) yf_Jx35411_hasNext_aae02 ml_X12_113 0 rfl rfl rfl rfl hl.1 rfl (Nat.le_of_ble_eq_true rfl) ⟨Nat.le_of_ble_eq_true rfl, Nat.le_of_ble_eq_true rfl⟩ ⟨(Nat.le_of_ble_eq_true rfl), (Nat.le_of_ble_eq_true rfl)⟩ dX12_trustShare_13 (fun v u H locs hp hW => ?_)
      obtain ⟨rfl, rfl⟩ := hp
      have hW := hW.eq (w' := itW G h_it_6 (zads [(ad 1)]) ((nI i_12), (zLr i_12), l1.1) ++ (alW G (ad 1) ad1 (l1.1, (zLv G r1 q1), (nI se.1)) ++ (mdW G h ad md ++ (msW G 0 a1 se ++ (rwW G q1 a1 (se.1, r1)))))) (by simp only [List.append_assoc, List.nil_append, List.append_nil, List.cons_append] <;> rfl)
      have hW := zro52mshare_0 (hW.eq (w' := itW G h_it_6 (zads [(ad 1)]) ((nI i_12), (zLr i_12), l1.1) ++ (alW G (ad 1) ad1 (l1.1, (zLv G r1 q1), (nI se.1)) ++ (mdW G h ad md ++ (msW G 0 a1 se ++ (rwW G q1 a1 (se.1, r1)))))) rfl)
      refine lv_if_eq (tgt := 49) hx hb dX12_trustShare_18 (by decide) (fun c_18 => absurd c_18 (zhn1 hi_12 (zLk_n hk_l1))) (fun c_18 => ?_)
      refine lv_aload_n hx hb dX12_trustShare_21 rfl (lv_at hl 2 rfl) ?_
      have hW := zro52mshare_2 (hW.eq (w' := mdW G h ad md ++ (alW G (ad 1) ad1 (l1.1, (zLv G r1 q1), (nI se.1)) ++ (itW G h_it_6 (zads [(ad 1)]) ((nI i_12), (zLr i_12), l1.1) ++ (msW G 0 a1 se ++ (rwW G q1 a1 (se.1, r1)))))) rfl)
      refine zcF (w1 := []) (wc := itW G h_it_6 (zads [(ad 1)]) ((nI i_12), (zLr i_12), l1.1) ++ (alW G (ad 1) ad1 (l1.1, (zLv G r1 q1), (nI se.1)) ++ (rwW G q1 a1 (se.1, r1)))) (w2 := mdW G h ad md ++ (msW G 0 a1 se)) (As := []) B (hW.eq (by simp only [List.append_assoc, List.nil_append, List.append_nil, List.cons_append] <;> rfl)) (c_next l G h_it_6 (zads [(ad 1)]) ad1 (zLr i_12) l1.1 q1 se.1 r1 a1 i_12 hi_12 (hk_l1).1 (zLk_b hk_l1)) yf_Jx35411_next_0502b ml_X12_119 0 rfl rfl rfl rfl hl.1 rfl (Nat.le_of_ble_eq_true rfl) ⟨Nat.le_of_ble_eq_true rfl, Nat.le_of_ble_eq_true rfl⟩ ⟨(Nat.le_of_ble_eq_true rfl), (Nat.le_of_ble_eq_true rfl)⟩ dX12_trustShare_22 (fun v u H locs hp hW => ?_)
      obtain ⟨rfl, rfl⟩ := hp
      have hW := hW.eq (w' := itW G h_it_6 (zads [(ad 1)]) ((nI (i_12 + 1)), (nI i_12), l1.1) ++ (alW G (ad 1) ad1 (l1.1, (zLv G r1 q1), (nI se.1)) ++ (rwW G q1 a1 (se.1, r1) ++ (mdW G h ad md ++ (msW G 0 a1 se))))) (by simp only [List.append_assoc, List.nil_append, List.append_nil, List.cons_append] <;> rfl)
      have hW := zro52mshare_3 (hW.eq (w' := itW G h_it_6 (zads [(ad 1)]) ((nI (i_12 + 1)), (nI i_12), l1.1) ++ (alW G (ad 1) ad1 (l1.1, (zLv G r1 q1), (nI se.1)) ++ (rwW G q1 a1 (se.1, r1) ++ (mdW G h ad md ++ (msW G 0 a1 se))))) rfl)
      refine zcast B hW (3 + i_12) (sg_he (mdW G h ad md ++ (alW G (ad 1) ad1 (l1.1, (zLv G r1 q1), (nI se.1)) ++ (itW G h_it_6 (zads [(ad 1)]) ((nI (i_12 + 1)), (nI i_12), l1.1)))) rfl (sg_in (sg_at hi_12))) (show vwCl[14]? = some _ from rfl) kl_X12_90 dX12_trustShare_27 ?_
      refine lv_astore_n hx hb dX12_trustShare_30 rfl hl (by decide) rfl (fun ls hl => ?_)
      refine lv_iload_n hx hb dX12_trustShare_31 rfl (lv_at hl 2 rfl) ?_
      refine lv_aload_n hx hb dX12_trustShare_32 rfl (lv_at hl 0 rfl) ?_
      refine zgetN B hW (3 + i_12) (sg_he (mdW G h ad md ++ (alW G (ad 1) ad1 (l1.1, (zLv G r1 q1), (nI se.1)) ++ (itW G h_it_6 (zads [(ad 1)]) ((nI (i_12 + 1)), (nI i_12), l1.1)))) rfl (sg_in (sg_at hi_12))) lf_X12_129 rfl dX12_trustShare_33 ?_
      have J_4 : ∀ (H : Heap) (locs : List Loc) (ls : Array Slot), zW G A s.heap H locs (mdW G h ad md ++ (alW G (ad 1) ad1 (l1.1, (zLv G r1 q1), (nI se.1)) ++ (itW G h_it_6 (zads [(ad 1)]) ((nI (i_12 + 1)), (nI i_12), l1.1) ++ (msW G 0 a1 se ++ (rwW G q1 a1 (se.1, r1)))))) → lv_has ls 4 [(0, .ref h), (2, .ref h_it_6)] → W p l e (zRm 4 1 4) s m args below meth c H locs 1 4 (MQ below (zQ G A (po_X12_trustShare G h ad md ad1 l1 a1 se q1 r1)) args s 1 4 A) (F0 m 44 ls [.int (if (se.2.2.2.2.2.2.1 i_12) = (0 : Int32) then (1 : Int32) else (0 : Int32)), .int (lp_X12_trustShare_12 se.2.2.2.2.2.2.1 (0 : Int32) i_12)]) := by
        intro H locs ls hW hl
        refine lv_iadd hx hb dX12_trustShare_44 ?_
        refine lv_istore_n hx hb dX12_trustShare_45 rfl hl (by decide) rfl (fun ls hl => ?_)
        refine lv_goto (tgt := 12) hx hb dX12_trustShare_46 (by decide) ?_
        exact ih _ _ _ (hW.eq rfl) (by rw [lp_X12_trustShare_12_s]; exact lv_sub hl [1, 0, 2] rfl)
      refine lv_if_eq (tgt := 43) hx hb dX12_trustShare_36 (by decide) (fun c_36 => ?_) (fun c_36 => ?_)
      · refine lv_iconst (v := (1 : Int32)) hx hb dX12_trustShare_43 (by decide) ?_
        have e_0 : (if (se.2.2.2.2.2.2.1 i_12) = (0 : Int32) then (1 : Int32) else (0 : Int32)) = (1 : Int32) := if_pos c_36
        refine W.eq (g2 := F0 m 44 ls [.int (if (se.2.2.2.2.2.2.1 i_12) = (0 : Int32) then (1 : Int32) else (0 : Int32)), .int (lp_X12_trustShare_12 se.2.2.2.2.2.2.1 (0 : Int32) i_12)]) (by (try rw [e_0]) <;> rfl) ?_
        exact J_4 _ _ _ (hW.eq (by (try rw [e_0]) <;> rfl)) (by (try rw [e_0]) <;> exact lv_sub hl [1, 3] rfl)
      · refine lv_iconst (v := (0 : Int32)) hx hb dX12_trustShare_39 (by decide) ?_
        refine lv_goto (tgt := 44) hx hb dX12_trustShare_40 (by decide) ?_
        have e_0 : (if (se.2.2.2.2.2.2.1 i_12) = (0 : Int32) then (1 : Int32) else (0 : Int32)) = (0 : Int32) := if_neg c_36
        refine W.eq (g2 := F0 m 44 ls [.int (if (se.2.2.2.2.2.2.1 i_12) = (0 : Int32) then (1 : Int32) else (0 : Int32)), .int (lp_X12_trustShare_12 se.2.2.2.2.2.2.1 (0 : Int32) i_12)]) (by (try rw [e_0]) <;> rfl) ?_
        exact J_4 _ _ _ (hW.eq (by (try rw [e_0]) <;> rfl)) (by (try rw [e_0]) <;> exact lv_sub hl [1, 3] rfl)
  exact L_1 0 (Nat.zero_le _) _ _ _ (hW.eq rfl) (by rw [lp_X12_trustShare_12_0]; exact lv_sub hl [2, 1, 0] rfl)
