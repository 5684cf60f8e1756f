def zact (aq : zAcs) (i : Nat) : zAct := (aq.2.1 i, aq.2.2.1 i, aq.2.2.2.1 i, aq.2.2.2.2.1 i, aq.2.2.2.2.2 i)
def zrep (aq : zAcs) (r : Nat) (v : zWv) : Nat → zWv
  | 0 => v
  | j + 1 => zap (zrep aq r v j) (zact aq (r + j))
theorem zrmono {f : Nat → Nat} {N : Nat} (h : ∀ j, j < N → f j ≤ f (j + 1)) : ∀ d i, i + d ≤ N → f i ≤ f (i + d) := by
  intro d
  induction d with
  | zero => exact fun i _ => Nat.le_refl _
  | succ d ih => exact fun i hi => Nat.le_trans (ih i (by omega)) (h (i + d) (by omega))
set_option maxHeartbeats 4000000 in
set_option maxRecDepth 100000 in
theorem c_X7_isSame (l : Launch) (G : zG) (h0 : Nat) (ad0 ad : Nat → Nat) (wo : zWor) (adl : Nat → Nat) (la : zLand) (ads : Nat → Nat) (se : zSens) (adu : Nat → Nat) (su : zSubs) (ad2 vadl vado vada vads vadu vadc : Nat → Nat) (v : zWv) (aa : Nat → Nat) (aq : zAcs) (r ns : Nat) (hr : r ≤ aq.1) (hn5 : aq.1 ≤ 512) (hV : ∀ j, j < aq.1 - r → zVa (zrep aq r v j) (zact aq (r + j))) (hM : ∀ j, j < aq.1 - r → zcap (zrep aq r v j) ≤ zcap (zrep aq r v (j + 1)))
    (hcs : se.2.2.2.2.2.2.2.2.1 = nI ns) (hns : ns ≤ 10) (hC : zCap su.2.2.2.2.2.2.2.2.2.1 su.2.2.2.2.2.2.2.2.2.2.1 su.2.2.2.2.2.2.2.2.2.2.2.1 su.2.2.2.2.2.2.2.2.2.2.2.2) (h31 : su.2.2.2.2.2.2.2.2.2.2.1 ≤ 60000000) (hD : zCap ((zrep aq r v (aq.1 - r)).2.2.2.2.2.1).2.2.2.2.2.2.2.2.2.1 ((zrep aq r v (aq.1 - r)).2.2.2.2.2.1).2.2.2.2.2.2.2.2.2.2.1 ((zrep aq r v (aq.1 - r)).2.2.2.2.2.1).2.2.2.2.2.2.2.2.2.2.2.1 ((zrep aq r v (aq.1 - r)).2.2.2.2.2.1).2.2.2.2.2.2.2.2.2.2.2.2) (g31 : ((zrep aq r v (aq.1 - r)).2.2.2.2.2.1).2.2.2.2.2.2.2.2.2.2.1 ≤ 60000000) :
    zC l yX7_isSame cX7_isSame 2 (some .boolean) 9 (3 * (zcap (zrep aq r v (aq.1 - r)) - zcap v)) (6 * (zcap (zrep aq r v (aq.1 - r)) - zcap v)) G [.ref h0] (swW G h0 ad0 (laF aq.1 aa, nI aq.1, nI r) ++ (worW G (ad0 0) ad wo ++ (landW G (ad 0) adl la ++ (sensW G (ad 2) ads se ++ (subW G (ad 3) adu su ++ (wvW G (ad0 1) ad2 vadl vado vada vads vadu vadc v (acsW G 0 aa aq)))))))
      (fun q u => ∃ vadu' : Nat → Nat, q = some (.int (r_X6_isLike la.2.2.1 se.1 se.2.2.2.2.2.2.2.2.1 su.2.2.2.2.2.2.1 su.2.2.2.2.2.2.2.1 su.2.2.2.2.2.2.2.2.1 su.2.2.2.2.2.2.2.2.2.1 (((zrep aq r v (aq.1 - r)).2.1).2.2.1) (((zrep aq r v (aq.1 - r)).2.2.2.2.1).1) (((zrep aq r v (aq.1 - r)).2.2.2.2.1).2.2.2.2.2.2.2.2.1) (((zrep aq r v (aq.1 - r)).2.2.2.2.2.1).2.2.2.2.2.2.1) (((zrep aq r v (aq.1 - r)).2.2.2.2.2.1).2.2.2.2.2.2.2.1) (((zrep aq r v (aq.1 - r)).2.2.2.2.2.1).2.2.2.2.2.2.2.2.1) (((zrep aq r v (aq.1 - r)).2.2.2.2.2.1).2.2.2.2.2.2.2.2.2.1) ns)) ∧ u = swW G h0 ad0 (laF aq.1 aa, nI aq.1, nI aq.1) ++ (worW G (ad0 0) ad wo ++ (landW G (ad 0) adl la ++ (sensW G (ad 2) ads se ++ (subW G (ad 3) adu su ++ (wvW G (ad0 1) ad2 vadl vado vada vads vadu' vadc (zrep aq r v (aq.1 - r)) (acsW G 0 aa aq))))))) := by
  refine zC.of RX7 rfl (by decide) (Nat.le_of_ble_eq_true rfl) ?_
  intro p e s m args below meth c A ls B hr_ hlk hnm hW hl
  have hx := B.x
  have hb := B.b
  have hl : lv_has ls 2 [(0, .ref h0)] := hl
  have L : ∀ j : Nat, j ≤ aq.1 - r → ∀ (vadu : Nat → Nat) (H : Heap) (locs : List Loc) (ls : Array Slot), zW G A s.heap H locs (swW G h0 ad0 (laF aq.1 aa, nI aq.1, nI (r + j)) ++ (worW G (ad0 0) ad wo ++ (landW G (ad 0) adl la ++ (sensW G (ad 2) ads se ++ (subW G (ad 3) adu su ++ (wvW G (ad0 1) ad2 vadl vado vada vads vadu vadc (zrep aq r v j) (acsW G 0 aa aq))))))) → lv_has ls 2 [(0, .ref h0)] → W p l e (zRm 9 (3 * (zcap (zrep aq r v (aq.1 - r)) - zcap v)) (6 * (zcap (zrep aq r v (aq.1 - r)) - zcap v))) s m args below meth c H locs (3 * (zcap (zrep aq r v j) - zcap v)) (6 * (zcap (zrep aq r v j) - zcap v)) (MQ below (zQ G A (fun q u => ∃ vadu' : Nat → Nat, q = some (.int (r_X6_isLike la.2.2.1 se.1 se.2.2.2.2.2.2.2.2.1 su.2.2.2.2.2.2.1 su.2.2.2.2.2.2.2.1 su.2.2.2.2.2.2.2.2.1 su.2.2.2.2.2.2.2.2.2.1 (((zrep aq r v (aq.1 - r)).2.1).2.2.1) (((zrep aq r v (aq.1 - r)).2.2.2.2.1).1) (((zrep aq r v (aq.1 - r)).2.2.2.2.1).2.2.2.2.2.2.2.2.1) (((zrep aq r v (aq.1 - r)).2.2.2.2.2.1).2.2.2.2.2.2.1) (((zrep aq r v (aq.1 - r)).2.2.2.2.2.1).2.2.2.2.2.2.2.1) (((zrep aq r v (aq.1 - r)).2.2.2.2.2.1).2.2.2.2.2.2.2.2.1) (((zrep aq r v (aq.1 - r)).2.2.2.2.2.1).2.2.2.2.2.2.2.2.2.1) ns)) ∧ u = swW G h0 ad0 (laF aq.1 aa, nI aq.1, nI aq.1) ++ (worW G (ad0 0) ad wo ++ (landW G (ad 0) adl la ++ (sensW G (ad 2) ads se ++ (subW G (ad 3) adu su ++ (wvW G (ad0 1) ad2 vadl vado vada vads vadu' vadc (zrep aq r v (aq.1 - r)) (acsW G 0 aa aq)))))))) args s (3 * (zcap (zrep aq r v (aq.1 - r)) - zcap v)) (6 * (zcap (zrep aq r v (aq.1 - r)) - zcap v)) A) (F0 m 0 ls []) := by
    refine zloop (aq.1 - r) ?_ ?_
    · intro vadu H locs ls hW hl
      rw [show r + (aq.1 - r) = aq.1 by omega] at hW
      refine lv_aload_n hx hb dX7_isSame_0 rfl (lv_at hl 0 rfl) ?_
      refine zget B hW 0 rfl lf_X7_29 rfl dX7_isSame_1 ?_
      refine lv_aload_n hx hb dX7_isSame_4 rfl (lv_at hl 0 rfl) ?_
      refine zget B hW 0 rfl lf_X7_25 rfl dX7_isSame_5 ?_
      refine lv_icmp_ge (tgt := 47) hx hb dX7_isSame_8 (by decide) (fun c_8 => ?_) (fun c_8 => absurd (Int32.le_refl _) c_8)
      refine lv_aload_n hx hb dX7_isSame_47 rfl (lv_at hl 0 rfl) ?_
      refine zget B hW 0 rfl lf_X7_10 rfl dX7_isSame_48 ?_
      refine lv_aload_n hx hb dX7_isSame_51 rfl (lv_at hl 0 rfl) ?_
      refine zget B hW 0 rfl lf_X7_16 rfl dX7_isSame_52 ?_
      have hW := hW.blk [swW G h0 ad0 (laF aq.1 aa, nI aq.1, nI aq.1), worW G (ad0 0) ad wo, landW G (ad 0) adl la, sensW G (ad 2) ads se, subW G (ad 3) adu su, worW G (ad0 1) ad2 (zrep aq r v (aq.1 - r)).1, landW G (ad2 0) vadl (zrep aq r v (aq.1 - r)).2.1, outW G (ad2 1) vado (zrep aq r v (aq.1 - r)).2.2.1, landW G (vado 0) vada (zrep aq r v (aq.1 - r)).2.2.2.1, sensW G (ad2 2) vads (zrep aq r v (aq.1 - r)).2.2.2.2.1, subW G (ad2 3) vadu (zrep aq r v (aq.1 - r)).2.2.2.2.2.1, schW G (ad2 4) vadc (zrep aq r v (aq.1 - r)).2.2.2.2.2.2, acsW G 0 aa aq] [worW G (ad0 0) ad wo, landW G (ad 0) adl la, sensW G (ad 2) ads se, subW G (ad 3) adu su, worW G (ad0 1) ad2 (zrep aq r v (aq.1 - r)).1, landW G (ad2 0) vadl (zrep aq r v (aq.1 - r)).2.1, sensW G (ad2 2) vads (zrep aq r v (aq.1 - r)).2.2.2.2.1, subW G (ad2 3) vadu (zrep aq r v (aq.1 - r)).2.2.2.2.2.1, swW G h0 ad0 (laF aq.1 aa, nI aq.1, nI aq.1), outW G (ad2 1) vado (zrep aq r v (aq.1 - r)).2.2.1, landW G (vado 0) vada (zrep aq r v (aq.1 - r)).2.2.2.1, schW G (ad2 4) vadc (zrep aq r v (aq.1 - r)).2.2.2.2.2.2, acsW G 0 aa aq] [1, 2, 3, 4, 5, 6, 9, 10, 0, 7, 8, 11, 12] rfl rfl
      refine zcV (w1 := []) (wc := worW G (ad0 0) ad wo ++ (landW G (ad 0) adl la ++ (sensW G (ad 2) ads se ++ (subW G (ad 3) adu su ++ (worW G (ad0 1) ad2 (zrep aq r v (aq.1 - r)).1 ++ (landW G (ad2 0) vadl (zrep aq r v (aq.1 - r)).2.1 ++ (sensW G (ad2 2) vads (zrep aq r v (aq.1 - r)).2.2.2.2.1 ++ (subW G (ad2 3) vadu (zrep aq r v (aq.1 - r)).2.2.2.2.2.1)))))))) (w2 := swW G h0 ad0 (laF aq.1 aa, nI aq.1, nI aq.1) ++ (outW G (ad2 1) vado (zrep aq r v (aq.1 - r)).2.2.1 ++ (landW G (vado 0) vada (zrep aq r v (aq.1 - r)).2.2.2.1 ++ (schW G (ad2 4) vadc (zrep aq r v (aq.1 - r)).2.2.2.2.2.2 ++ (acsW G 0 aa aq))))) (As := [.ref (ad0 1)]) B (hW.eq (by (try simp only [List.append_assoc, List.nil_append, List.append_nil, List.cons_append]) <;> rfl)) (c_X6_isLike l G (ad0 0) ad wo adl la ads se adu su (ad0 1) ad2 (zrep aq r v (aq.1 - r)).1 vadl (zrep aq r v (aq.1 - r)).2.1 vads (zrep aq r v (aq.1 - r)).2.2.2.2.1 vadu (zrep aq r v (aq.1 - r)).2.2.2.2.2.1 ns hcs hns hC h31 hD g31) yd_X6_isLike ml_X7_208 0 rfl rfl rfl rfl hl.1 rfl (Nat.le_of_ble_eq_true rfl) ⟨Nat.le_of_ble_eq_true rfl, Nat.le_of_ble_eq_true rfl⟩ ⟨Nat.le_refl _, Nat.le_refl _⟩ dX7_isSame_55 (fun q u H locs hp hW => ?_)
      obtain ⟨rfl, rfl⟩ := hp
      have hW := (hW.eq (w' := zcat [worW G (ad0 0) ad wo, landW G (ad 0) adl la, sensW G (ad 2) ads se, subW G (ad 3) adu su, worW G (ad0 1) ad2 (zrep aq r v (aq.1 - r)).1, landW G (ad2 0) vadl (zrep aq r v (aq.1 - r)).2.1, sensW G (ad2 2) vads (zrep aq r v (aq.1 - r)).2.2.2.2.1, subW G (ad2 3) vadu (zrep aq r v (aq.1 - r)).2.2.2.2.2.1, swW G h0 ad0 (laF aq.1 aa, nI aq.1, nI aq.1), outW G (ad2 1) vado (zrep aq r v (aq.1 - r)).2.2.1, landW G (vado 0) vada (zrep aq r v (aq.1 - r)).2.2.2.1, schW G (ad2 4) vadc (zrep aq r v (aq.1 - r)).2.2.2.2.2.2, acsW G 0 aa aq]) (by (try simp only [List.append_assoc, List.nil_append, List.append_nil, List.cons_append]) <;> rfl)).blk [worW G (ad0 0) ad wo, landW G (ad 0) adl la, sensW G (ad 2) ads se, subW G (ad 3) adu su, worW G (ad0 1) ad2 (zrep aq r v (aq.1 - r)).1, landW G (ad2 0) vadl (zrep aq r v (aq.1 - r)).2.1, sensW G (ad2 2) vads (zrep aq r v (aq.1 - r)).2.2.2.2.1, subW G (ad2 3) vadu (zrep aq r v (aq.1 - r)).2.2.2.2.2.1, swW G h0 ad0 (laF aq.1 aa, nI aq.1, nI aq.1), outW G (ad2 1) vado (zrep aq r v (aq.1 - r)).2.2.1, landW G (vado 0) vada (zrep aq r v (aq.1 - r)).2.2.2.1, schW G (ad2 4) vadc (zrep aq r v (aq.1 - r)).2.2.2.2.2.2, acsW G 0 aa aq] [swW G h0 ad0 (laF aq.1 aa, nI aq.1, nI aq.1), worW G (ad0 0) ad wo, landW G (ad 0) adl la, sensW G (ad 2) ads se, subW G (ad 3) adu su, worW G (ad0 1) ad2 (zrep aq r v (aq.1 - r)).1, landW G (ad2 0) vadl (zrep aq r v (aq.1 - r)).2.1, outW G (ad2 1) vado (zrep aq r v (aq.1 - r)).2.2.1, landW G (vado 0) vada (zrep aq r v (aq.1 - r)).2.2.2.1, sensW G (ad2 2) vads (zrep aq r v (aq.1 - r)).2.2.2.2.1, subW G (ad2 3) vadu (zrep aq r v (aq.1 - r)).2.2.2.2.2.1, schW G (ad2 4) vadc (zrep aq r v (aq.1 - r)).2.2.2.2.2.2, acsW G 0 aa aq] [8, 0, 1, 2, 3, 4, 5, 9, 10, 6, 7, 11, 12] rfl rfl
      exact zzret B hr_ hlk (by unfold r_X6_isLike; (repeat' split) <;> rfl) hW ⟨vadu, rfl, rfl⟩ (Nat.le_refl _) (Nat.le_refl _) dX7_isSame_58
    · intro j hj ih vadu H locs ls hW hl
      refine lv_aload_n hx hb dX7_isSame_0 rfl (lv_at hl 0 rfl) ?_
      refine zget B hW 0 rfl lf_X7_29 rfl dX7_isSame_1 ?_
      refine lv_aload_n hx hb dX7_isSame_4 rfl (lv_at hl 0 rfl) ?_
      refine zget B hW 0 rfl lf_X7_25 rfl dX7_isSame_5 ?_
      refine lv_icmp_ge (tgt := 47) hx hb dX7_isSame_8 (by decide) (fun c_8 => absurd c_8 (nI_ge (by omega) (by omega))) (fun c_8 => ?_)
      refine lv_aload_n hx hb dX7_isSame_11 rfl (lv_at hl 0 rfl) ?_
      refine zget B hW 0 rfl lf_X7_21 rfl dX7_isSame_12 ?_
      refine lv_aload_n hx hb dX7_isSame_15 rfl (lv_at hl 0 rfl) ?_
      refine zget B hW 0 rfl lf_X7_29 rfl dX7_isSame_16 ?_
      refine va_aldq (D := G.1) (cl := vwCl) (tys := zTy G) B.x B.b B.K hW.1 1 2 rfl rfl (vp_in_nI (show r + j < 512 by omega) (by decide) : vp_in (nI (r + j)) 512) dX7_isSame_19 ?_
      have ea : laF aq.1 aa (nI (r + j)).toNatClampNeg = some (aa (r + j)) := by rw [nI_clamp (by omega), laF_i (show r + j < aq.1 by omega)]
      refine W.eq (g2 := F0 m 20 ls [.ref (aa (r + j))]) (by first | (show F0 m 20 ls [va_rf (laF aq.1 aa (nI (r + j)).toNatClampNeg)] = _; rw [ea]; rfl) | (show _ = F0 m 20 ls [va_rf (laF aq.1 aa (nI (r + j)).toNatClampNeg)]; rw [ea]; rfl)) ?_
      refine lv_astore_n hx hb dX7_isSame_20 rfl hl (by decide) rfl (fun ls hl => ?_)
      refine lv_aload_n hx hb dX7_isSame_21 rfl (lv_at hl 0 rfl) ?_
      refine lv_ifnull hx hb dX7_isSame_22 ?_
      refine lv_aload_n hx hb dX7_isSame_25 rfl (lv_at hl 1 rfl) ?_
      refine zget B hW 0 rfl lf_X7_16 rfl dX7_isSame_26 ?_
      refine lv_aload_n hx hb dX7_isSame_29 rfl (lv_at hl 0 rfl) ?_
      have es : acsW G 0 aa aq = sgW (r + j) aa (acsWC G aq) ++ (([(aa (r + j), acsWC G aq (r + j))] : va_W) ++ (sgW (aq.1 - (r + j + 1)) (fun i => aa (r + j + 1 + i)) (fun i => acsWC G aq (r + j + 1 + i)))) := sg_split (show r + j < aq.1 by omega)
      rw [es] at hW
      have hW := hW.blk [swW G h0 ad0 (laF aq.1 aa, nI aq.1, nI (r + j)), worW G (ad0 0) ad wo, landW G (ad 0) adl la, sensW G (ad 2) ads se, subW G (ad 3) adu su, worW G (ad0 1) ad2 (zrep aq r v j).1, landW G (ad2 0) vadl (zrep aq r v j).2.1, outW G (ad2 1) vado (zrep aq r v j).2.2.1, landW G (vado 0) vada (zrep aq r v j).2.2.2.1, sensW G (ad2 2) vads (zrep aq r v j).2.2.2.2.1, subW G (ad2 3) vadu (zrep aq r v j).2.2.2.2.2.1, schW G (ad2 4) vadc (zrep aq r v j).2.2.2.2.2.2, sgW (r + j) aa (acsWC G aq), ([(aa (r + j), acsWC G aq (r + j))] : va_W), sgW (aq.1 - (r + j + 1)) (fun i => aa (r + j + 1 + i)) (fun i => acsWC G aq (r + j + 1 + i))] [worW G (ad0 1) ad2 (zrep aq r v j).1, landW G (ad2 0) vadl (zrep aq r v j).2.1, outW G (ad2 1) vado (zrep aq r v j).2.2.1, landW G (vado 0) vada (zrep aq r v j).2.2.2.1, sensW G (ad2 2) vads (zrep aq r v j).2.2.2.2.1, subW G (ad2 3) vadu (zrep aq r v j).2.2.2.2.2.1, schW G (ad2 4) vadc (zrep aq r v j).2.2.2.2.2.2, ([(aa (r + j), acsWC G aq (r + j))] : va_W), swW G h0 ad0 (laF aq.1 aa, nI aq.1, nI (r + j)), worW G (ad0 0) ad wo, landW G (ad 0) adl la, sensW G (ad 2) ads se, subW G (ad 3) adu su, sgW (r + j) aa (acsWC G aq), sgW (aq.1 - (r + j + 1)) (fun i => aa (r + j + 1 + i)) (fun i => acsWC G aq (r + j + 1 + i))] [5, 6, 7, 8, 9, 10, 11, 13, 0, 1, 2, 3, 4, 12, 14] rfl rfl
      have m1 := zrmono (f := fun i => zcap (zrep aq r v i)) hM j 0 (by omega)
      have m2 := hM j hj
      have m3 := zrmono (f := fun i => zcap (zrep aq r v i)) hM (aq.1 - r - (j + 1)) (j + 1) (by omega)
      rw [show j + 1 + (aq.1 - r - (j + 1)) = aq.1 - r by omega] at m3
      rw [show 0 + j = j by omega] at m1
      have m1 : zcap v ≤ zcap (zrep aq r v j) := m1
      have m2 : zcap (zrep aq r v j) ≤ zcap (zap (zrep aq r v j) (zact aq (r + j))) := m2
      have m3 : zcap (zap (zrep aq r v j) (zact aq (r + j))) ≤ zcap (zrep aq r v (aq.1 - r)) := m3
      refine zperf B (v := zrep aq r v j) (x := zact aq (r + j)) (hV j hj) hW hl.1 ⟨by omega, by omega⟩ (fun i vadu H locs hW => ?_)
      have hW := hW.blk [worW G (ad0 1) ad2 (zap (zrep aq r v j) (zact aq (r + j))).1, landW G (ad2 0) vadl (zap (zrep aq r v j) (zact aq (r + j))).2.1, outW G (ad2 1) vado (zap (zrep aq r v j) (zact aq (r + j))).2.2.1, landW G (vado 0) vada (zap (zrep aq r v j) (zact aq (r + j))).2.2.2.1, sensW G (ad2 2) vads (zap (zrep aq r v j) (zact aq (r + j))).2.2.2.2.1, subW G (ad2 3) vadu (zap (zrep aq r v j) (zact aq (r + j))).2.2.2.2.2.1, schW G (ad2 4) vadc (zap (zrep aq r v j) (zact aq (r + j))).2.2.2.2.2.2, ([(aa (r + j), acsWC G aq (r + j))] : va_W), swW G h0 ad0 (laF aq.1 aa, nI aq.1, nI (r + j)), worW G (ad0 0) ad wo, landW G (ad 0) adl la, sensW G (ad 2) ads se, subW G (ad 3) adu su, sgW (r + j) aa (acsWC G aq), sgW (aq.1 - (r + j + 1)) (fun i => aa (r + j + 1 + i)) (fun i => acsWC G aq (r + j + 1 + i))] [swW G h0 ad0 (laF aq.1 aa, nI aq.1, nI (r + j)), worW G (ad0 0) ad wo, landW G (ad 0) adl la, sensW G (ad 2) ads se, subW G (ad 3) adu su, worW G (ad0 1) ad2 (zap (zrep aq r v j) (zact aq (r + j))).1, landW G (ad2 0) vadl (zap (zrep aq r v j) (zact aq (r + j))).2.1, outW G (ad2 1) vado (zap (zrep aq r v j) (zact aq (r + j))).2.2.1, landW G (vado 0) vada (zap (zrep aq r v j) (zact aq (r + j))).2.2.2.1, sensW G (ad2 2) vads (zap (zrep aq r v j) (zact aq (r + j))).2.2.2.2.1, subW G (ad2 3) vadu (zap (zrep aq r v j) (zact aq (r + j))).2.2.2.2.2.1, schW G (ad2 4) vadc (zap (zrep aq r v j) (zact aq (r + j))).2.2.2.2.2.2, sgW (r + j) aa (acsWC G aq), ([(aa (r + j), acsWC G aq (r + j))] : va_W), sgW (aq.1 - (r + j + 1)) (fun i => aa (r + j + 1 + i)) (fun i => acsWC G aq (r + j + 1 + i))] [8, 9, 10, 11, 12, 0, 1, 2, 3, 4, 5, 6, 13, 7, 14] rfl rfl
      have hW := hW.eq (w' := swW G h0 ad0 (laF aq.1 aa, nI aq.1, nI (r + j)) ++ (worW G (ad0 0) ad wo ++ (landW G (ad 0) adl la ++ (sensW G (ad 2) ads se ++ (subW G (ad 3) adu su ++ (wvW G (ad0 1) ad2 vadl vado vada vads vadu vadc (zap (zrep aq r v j) (zact aq (r + j))) (acsW G 0 aa aq))))))) (by rw [es] <;> rfl)
      refine lv_pop hx hb dX7_isSame_33 rfl ?_
      refine lv_aload_n hx hb dX7_isSame_34 rfl (lv_at hl 1 rfl) ?_
      refine lv_dup hx hb dX7_isSame_35 rfl ?_
      refine zget B hW 0 rfl lf_X7_29 rfl dX7_isSame_36 ?_
      refine lv_iconst (v := (1 : Int32)) hx hb dX7_isSame_39 (by decide) ?_
      refine lv_iadd hx hb dX7_isSame_40 ?_
      refine zput B hW 0 rfl lf_X7_29 ft_X7_4 rfl rfl (Nat.le_of_ble_eq_true rfl) dX7_isSame_41 (fun H locs hW => ?_)
      refine lv_goto (tgt := 0) hx hb dX7_isSame_44 (by decide) ?_
      refine W.widen (k := 3 * (zcap (zrep aq r v (j + 1)) - zcap v)) (n := 6 * (zcap (zrep aq r v (j + 1)) - zcap v)) ?_ ?_ (ih vadu _ _ _ (hW.eq (by rw [nI_1 (r + j)] <;> rfl)) (lv_sub hl [1] rfl))
      · show _ ≤ 3 * (zcap (zap (zrep aq r v j) (zact aq (r + j))) - zcap v)
        omega
      · show _ ≤ 6 * (zcap (zap (zrep aq r v j) (zact aq (r + j))) - zcap v)
        omega
  exact W.widen (Nat.zero_le _) (Nat.zero_le _) (L 0 (Nat.zero_le _) vadu _ _ _ hW hl)
