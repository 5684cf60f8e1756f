/-! joined: 26.islike, 27.ctors, 28.throwrows -/
section
def r_X6_isLike (la_2 : Nat → Int32) (se_0 : Nat → Int32) (se_8 : Int32) (su_6 : Nat → Int32) (su_7 : Nat → Int32) (su_8 : Nat → Int32) (su_9 : Nat) (vla_2 : Nat → Int32) (vse_0 : Nat → Int32) (vse_8 : Int32) (vsu_6 : Nat → Int32) (vsu_7 : Nat → Int32) (vsu_8 : Nat → Int32) (vsu_9 : Nat) (ns : Nat) : Int32 := (if ∀ j : Nat, j < 48 → (la_2 j) = (vla_2 j) then (if (r_X4_trustsAreLike se_0 se_8 vse_0 vse_8 ns) = (0 : Int32) then (0 : Int32) else (if (r_X5_sentAreLike vsu_6 vsu_7 vsu_8 vsu_9 su_6 su_7 su_8 su_9) = (0 : Int32) then (0 : Int32) else (1 : Int32))) else (0 : Int32))
abbrev po_X6_isLike (G : zG) (h : Nat) (ad : Nat → Nat) (wo : zWor) (adl : Nat → Nat) (la : zLand) (ads : Nat → Nat) (se : zSens) (adu : Nat → Nat) (su : zSubs) (h2 : Nat) (ad2 : Nat → Nat) (vwo : zWor) (vadl : Nat → Nat) (vla : zLand) (vads : Nat → Nat) (vse : zSens) (vadu : Nat → Nat) (vsu : zSubs) (ns : Nat) : Option Value → va_W → Prop := fun r u => r = some (.int (r_X6_isLike la.2.2.1 se.1 se.2.2.2.2.2.2.2.2.1 su.2.2.2.2.2.2.1 su.2.2.2.2.2.2.2.1 su.2.2.2.2.2.2.2.2.1 su.2.2.2.2.2.2.2.2.2.1 vla.2.2.1 vse.1 vse.2.2.2.2.2.2.2.2.1 vsu.2.2.2.2.2.2.1 vsu.2.2.2.2.2.2.2.1 vsu.2.2.2.2.2.2.2.2.1 vsu.2.2.2.2.2.2.2.2.2.1 ns)) ∧ u = worW G h ad wo ++ (landW G (ad 0) adl la ++ (sensW G (ad 2) ads se ++ (subW G (ad 3) adu su ++ (worW G h2 ad2 vwo ++ (landW G (ad2 0) vadl vla ++ (sensW G (ad2 2) vads vse ++ (subW G (ad2 3) vadu vsu)))))))
set_option maxHeartbeats 4000000 in
set_option maxRecDepth 100000 in
theorem c_X6_isLike (l : Launch) (G : zG) (h : Nat) (ad : Nat → Nat) (wo : zWor) (adl : Nat → Nat) (la : zLand) (ads : Nat → Nat) (se : zSens) (adu : Nat → Nat) (su : zSubs) (h2 : Nat) (ad2 : Nat → Nat) (vwo : zWor) (vadl : Nat → Nat) (vla : zLand) (vads : Nat → Nat) (vse : zSens) (vadu : Nat → Nat) (vsu : zSubs) (ns : Nat) (hcs : se.2.2.2.2.2.2.2.2.1 = nI ns) (hns : ns ≤ 10) (hC : zCap su.2.2.2.2.2.2.2.2.2.1 su.2.2.2.2.2.2.2.2.2.2.1 su.2.2.2.2.2.2.2.2.2.2.2.1 su.2.2.2.2.2.2.2.2.2.2.2.2) (h31 : su.2.2.2.2.2.2.2.2.2.2.1 ≤ 60000000) (hD : zCap vsu.2.2.2.2.2.2.2.2.2.1 vsu.2.2.2.2.2.2.2.2.2.2.1 vsu.2.2.2.2.2.2.2.2.2.2.2.1 vsu.2.2.2.2.2.2.2.2.2.2.2.2) (g31 : vsu.2.2.2.2.2.2.2.2.2.2.1 ≤ 60000000) : zC l yX6_isLike cX6_isLike 3 (some .boolean) 1 0 0 G [.ref h, .ref h2] (worW G h ad wo ++ (landW G (ad 0) adl la ++ (sensW G (ad 2) ads se ++ (subW G (ad 3) adu su ++ (worW G h2 ad2 vwo ++ (landW G (ad2 0) vadl vla ++ (sensW G (ad2 2) vads vse ++ (subW G (ad2 3) vadu vsu)))))))) (po_X6_isLike G h ad wo adl la ads se adu su h2 ad2 vwo vadl vla vads vse vadu vsu ns) := by
  refine zC.of RX6 rfl (by decide) (Nat.le_of_ble_eq_true rfl) ?_
  intro p e s m args below meth c A ls B hr hlk hnm hW hl
  have hx := B.x
  have hb := B.b
  have hl : lv_has ls 3 [(0, .ref h), (1, .ref h2)] := hl
  refine lv_iconst (v := (0 : Int32)) hx hb dX6_isLike_0 (by decide) ?_
  refine lv_istore_n hx hb dX6_isLike_1 rfl hl (by decide) rfl (fun ls hl => ?_)
  have L_1 : ∀ i_2 : Nat, i_2 ≤ 48 → (∀ j : Nat, j < i_2 → (la.2.2.1 j) = (vla.2.2.1 j)) → ∀ (H : Heap) (locs : List Loc) (ls : Array Slot), zW G A s.heap H locs (worW G h ad wo ++ (landW G (ad 0) adl la ++ (sensW G (ad 2) ads se ++ (subW G (ad 3) adu su ++ (worW G h2 ad2 vwo ++ (landW G (ad2 0) vadl vla ++ (sensW G (ad2 2) vads vse ++ (subW G (ad2 3) vadu vsu)))))))) → lv_has ls 3 [(0, .ref h), (1, .ref h2), (2, .int (nI i_2))] → W p l e (zRm 1 0 0) s m args below meth c H locs 0 0 (MQ below (zQ G A (po_X6_isLike G h ad wo adl la ads se adu su h2 ad2 vwo vadl vla vads vse vadu vsu ns)) args s 0 0 A) (F0 m 2 ls []) := by
    refine zloop 48 ?_ ?_
    · intro hj H locs ls hW hl
      have hall : ∀ j : Nat, j < 48 → (la.2.2.1 j) = (vla.2.2.1 j) := hj
      have hl : lv_has ls 3 [(0, .ref h), (1, .ref h2), (2, .int (48 : Int32))] := hl
      refine lv_iload_n hx hb dX6_isLike_2 rfl (lv_at hl 2 rfl) ?_
      refine lv_bipush (v := (48 : Int32)) hx hb dX6_isLike_3 (by decide) ?_
      refine lv_icmp_ge (tgt := 37) hx hb dX6_isLike_5 (by decide) (fun c_5 => ?_) (fun c_5 => absurd (zge (by decide)) c_5)
      refine lv_aload_n hx hb dX6_isLike_37 rfl (lv_at hl 0 rfl) ?_
      refine zget B hW 0 rfl lf_X6_28 rfl dX6_isLike_38 ?_
      refine lv_aload_n hx hb dX6_isLike_41 rfl (lv_at hl 1 rfl) ?_
      refine zget B hW 27 rfl lf_X6_28 rfl dX6_isLike_42 ?_
      have hW := hW.sub (w' := sensW G (ad 2) ads se ++ (sensW G (ad2 2) vads vse ++ (worW G h ad wo ++ (landW G (ad 0) adl la ++ (subW G (ad 3) adu su ++ (worW G h2 ad2 vwo ++ (landW G (ad2 0) vadl vla ++ (subW G (ad2 3) vadu vsu)))))))) [9, 10, 11, 12, 13, 14, 15, 16, 17, 36, 37, 38, 39, 40, 41, 42, 43, 44, 0, 1, 2, 3, 4, 5, 6, 7, 8, 18, 19, 20, 21, 22, 23, 24, 25, 26, 27, 28, 29, 30, 31, 32, 33, 34, 35, 45, 46, 47, 48, 49, 50, 51, 52, 53] rfl rfl
      refine zcV (w1 := []) (wc := sensW G (ad 2) ads se ++ (sensW G (ad2 2) vads vse)) (w2 := worW G h ad wo ++ (landW G (ad 0) adl la ++ (subW G (ad 3) adu su ++ (worW G h2 ad2 vwo ++ (landW G (ad2 0) vadl vla ++ (subW G (ad2 3) vadu vsu)))))) (As := [.ref (ad2 2)]) B (hW.eq rfl) (c_X4_trustsAreLike l G (ad 2) ads se (ad2 2) vads vse ns (hcs) (hns)) yd_X4_trustsAreLike ml_X6_131 0 rfl rfl rfl rfl hl.1 rfl (Nat.le_of_ble_eq_true rfl) ⟨Nat.le_of_ble_eq_true rfl, Nat.le_of_ble_eq_true rfl⟩ ⟨(Nat.le_of_ble_eq_true rfl), (Nat.le_of_ble_eq_true rfl)⟩ dX6_isLike_45 (fun v u H locs hp hW => ?_)
      obtain ⟨rfl, rfl⟩ := hp
      have hW := hW.eq (w' := sensW G (ad 2) ads se ++ (sensW G (ad2 2) vads vse ++ (worW G h ad wo ++ (landW G (ad 0) adl la ++ (subW G (ad 3) adu su ++ (worW G h2 ad2 vwo ++ (landW G (ad2 0) vadl vla ++ (subW G (ad2 3) vadu vsu)))))))) rfl
      have J_2 : ∀ (H : Heap) (locs : List Loc) (ls : Array Slot), zW G A s.heap H locs (worW G h ad wo ++ (landW G (ad 0) adl la ++ (sensW G (ad 2) ads se ++ (subW G (ad 3) adu su ++ (worW G h2 ad2 vwo ++ (landW G (ad2 0) vadl vla ++ (sensW G (ad2 2) vads vse ++ (subW G (ad2 3) vadu vsu)))))))) → lv_has ls 3 [] → W p l e (zRm 1 0 0) s m args below meth c H locs 0 0 (MQ below (zQ G A (po_X6_isLike G h ad wo adl la ads se adu su h2 ad2 vwo vadl vla vads vse vadu vsu ns)) args s 0 0 A) (F0 m 70 ls [.int (if (r_X4_trustsAreLike se.1 se.2.2.2.2.2.2.2.2.1 vse.1 vse.2.2.2.2.2.2.2.2.1 ns) = (0 : Int32) then (0 : Int32) else (if (r_X5_sentAreLike vsu.2.2.2.2.2.2.1 vsu.2.2.2.2.2.2.2.1 vsu.2.2.2.2.2.2.2.2.1 vsu.2.2.2.2.2.2.2.2.2.1 su.2.2.2.2.2.2.1 su.2.2.2.2.2.2.2.1 su.2.2.2.2.2.2.2.2.1 su.2.2.2.2.2.2.2.2.2.1) = (0 : Int32) then (0 : Int32) else (1 : Int32)))]) := by
        intro H locs ls hW hl
        have e_0 : (if ∀ j : Nat, j < 48 → (la.2.2.1 j) = (vla.2.2.1 j) then (if (r_X4_trustsAreLike se.1 se.2.2.2.2.2.2.2.2.1 vse.1 vse.2.2.2.2.2.2.2.2.1 ns) = (0 : Int32) then (0 : Int32) else (if (r_X5_sentAreLike vsu.2.2.2.2.2.2.1 vsu.2.2.2.2.2.2.2.1 vsu.2.2.2.2.2.2.2.2.1 vsu.2.2.2.2.2.2.2.2.2.1 su.2.2.2.2.2.2.1 su.2.2.2.2.2.2.2.1 su.2.2.2.2.2.2.2.2.1 su.2.2.2.2.2.2.2.2.2.1) = (0 : Int32) then (0 : Int32) else (1 : Int32))) else (0 : Int32)) = (if (r_X4_trustsAreLike se.1 se.2.2.2.2.2.2.2.2.1 vse.1 vse.2.2.2.2.2.2.2.2.1 ns) = (0 : Int32) then (0 : Int32) else (if (r_X5_sentAreLike vsu.2.2.2.2.2.2.1 vsu.2.2.2.2.2.2.2.1 vsu.2.2.2.2.2.2.2.2.1 vsu.2.2.2.2.2.2.2.2.2.1 su.2.2.2.2.2.2.1 su.2.2.2.2.2.2.2.1 su.2.2.2.2.2.2.2.2.1 su.2.2.2.2.2.2.2.2.2.1) = (0 : Int32) then (0 : Int32) else (1 : Int32))) := if_pos hall
        exact zzret B hr hlk (by (repeat' split) <;> rfl) hW ⟨by show _ = some (Value.int (if ∀ j : Nat, j < 48 → (la.2.2.1 j) = (vla.2.2.1 j) then (if (r_X4_trustsAreLike se.1 se.2.2.2.2.2.2.2.2.1 vse.1 vse.2.2.2.2.2.2.2.2.1 ns) = (0 : Int32) then (0 : Int32) else (if (r_X5_sentAreLike vsu.2.2.2.2.2.2.1 vsu.2.2.2.2.2.2.2.1 vsu.2.2.2.2.2.2.2.2.1 vsu.2.2.2.2.2.2.2.2.2.1 su.2.2.2.2.2.2.1 su.2.2.2.2.2.2.2.1 su.2.2.2.2.2.2.2.2.1 su.2.2.2.2.2.2.2.2.2.1) = (0 : Int32) then (0 : Int32) else (1 : Int32))) else (0 : Int32))) <;> (try rw [e_0]) <;> rfl, by show _ = worW G h ad wo ++ (landW G (ad 0) adl la ++ (sensW G (ad 2) ads se ++ (subW G (ad 3) adu su ++ (worW G h2 ad2 vwo ++ (landW G (ad2 0) vadl vla ++ (sensW G (ad2 2) vads vse ++ (subW G (ad2 3) vadu vsu))))))) <;> (try rw [e_0]) <;> rfl⟩ (Nat.le_refl _) (Nat.le_refl _) dX6_isLike_70
      refine lv_if_eq (tgt := 69) hx hb dX6_isLike_48 (by decide) (fun c_48 => ?_) (fun c_48 => ?_)
      · refine lv_iconst (v := (0 : Int32)) hx hb dX6_isLike_69 (by decide) ?_
        have hW := hW.sub (w' := worW G h ad wo ++ (landW G (ad 0) adl la ++ (sensW G (ad 2) ads se ++ (subW G (ad 3) adu su ++ (worW G h2 ad2 vwo ++ (landW G (ad2 0) vadl vla ++ (sensW G (ad2 2) vads vse ++ (subW G (ad2 3) vadu vsu)))))))) [18, 19, 20, 21, 22, 23, 24, 25, 26, 0, 1, 2, 3, 4, 5, 6, 7, 8, 27, 28, 29, 30, 31, 32, 33, 34, 35, 36, 37, 38, 39, 40, 41, 42, 43, 44, 9, 10, 11, 12, 13, 14, 15, 16, 17, 45, 46, 47, 48, 49, 50, 51, 52, 53] rfl rfl
        have e_0 : (if (r_X4_trustsAreLike se.1 se.2.2.2.2.2.2.2.2.1 vse.1 vse.2.2.2.2.2.2.2.2.1 ns) = (0 : Int32) then (0 : Int32) else (if (r_X5_sentAreLike vsu.2.2.2.2.2.2.1 vsu.2.2.2.2.2.2.2.1 vsu.2.2.2.2.2.2.2.2.1 vsu.2.2.2.2.2.2.2.2.2.1 su.2.2.2.2.2.2.1 su.2.2.2.2.2.2.2.1 su.2.2.2.2.2.2.2.2.1 su.2.2.2.2.2.2.2.2.2.1) = (0 : Int32) then (0 : Int32) else (1 : Int32))) = (0 : Int32) := if_pos c_48
        refine W.eq (g2 := F0 m 70 ls [.int (if (r_X4_trustsAreLike se.1 se.2.2.2.2.2.2.2.2.1 vse.1 vse.2.2.2.2.2.2.2.2.1 ns) = (0 : Int32) then (0 : Int32) else (if (r_X5_sentAreLike vsu.2.2.2.2.2.2.1 vsu.2.2.2.2.2.2.2.1 vsu.2.2.2.2.2.2.2.2.1 vsu.2.2.2.2.2.2.2.2.2.1 su.2.2.2.2.2.2.1 su.2.2.2.2.2.2.2.1 su.2.2.2.2.2.2.2.2.1 su.2.2.2.2.2.2.2.2.2.1) = (0 : Int32) then (0 : Int32) else (1 : Int32)))]) (by (try rw [e_0]) <;> rfl) ?_
        exact J_2 _ _ _ (hW.eq (by (try rw [e_0]) <;> rfl)) (by (try rw [e_0]) <;> exact lv_sub hl [] rfl)
      · refine lv_aload_n hx hb dX6_isLike_51 rfl (lv_at hl 0 rfl) ?_
        refine zget B hW 18 rfl lf_X6_35 rfl dX6_isLike_52 ?_
        refine lv_aload_n hx hb dX6_isLike_55 rfl (lv_at hl 1 rfl) ?_
        refine zget B hW 36 rfl lf_X6_35 rfl dX6_isLike_56 ?_
        have hW := hW.sub (w' := subW G (ad 3) adu su ++ (subW G (ad2 3) vadu vsu ++ (sensW G (ad 2) ads se ++ (sensW G (ad2 2) vads vse ++ (worW G h ad wo ++ (landW G (ad 0) adl la ++ (worW G h2 ad2 vwo ++ (landW G (ad2 0) vadl vla)))))))) [27, 28, 29, 30, 31, 32, 33, 34, 35, 45, 46, 47, 48, 49, 50, 51, 52, 53, 0, 1, 2, 3, 4, 5, 6, 7, 8, 9, 10, 11, 12, 13, 14, 15, 16, 17, 18, 19, 20, 21, 22, 23, 24, 25, 26, 36, 37, 38, 39, 40, 41, 42, 43, 44] rfl rfl
        refine zcV (w1 := []) (wc := subW G (ad 3) adu su ++ (subW G (ad2 3) vadu vsu)) (w2 := sensW G (ad 2) ads se ++ (sensW G (ad2 2) vads vse ++ (worW G h ad wo ++ (landW G (ad 0) adl la ++ (worW G h2 ad2 vwo ++ (landW G (ad2 0) vadl vla)))))) (As := [.ref (ad2 3)]) B (hW.eq rfl) (c_X5_sentAreLike l G (ad 3) adu su (ad2 3) vadu vsu (hC.1) (hC.2.1) (hC.2.2.1) (h31) (hD.1) (hD.2.1) (hD.2.2.1) (g31)) yd_X5_sentAreLike ml_X6_135 0 rfl rfl rfl rfl hl.1 rfl (Nat.le_of_ble_eq_true rfl) ⟨Nat.le_of_ble_eq_true rfl, Nat.le_of_ble_eq_true rfl⟩ ⟨(Nat.le_of_ble_eq_true rfl), (Nat.le_of_ble_eq_true rfl)⟩ dX6_isLike_59 (fun v u H locs hp hW => ?_)
        obtain ⟨rfl, rfl⟩ := hp
        have hW := hW.eq (w' := subW G (ad 3) adu su ++ (subW G (ad2 3) vadu vsu ++ (sensW G (ad 2) ads se ++ (sensW G (ad2 2) vads vse ++ (worW G h ad wo ++ (landW G (ad 0) adl la ++ (worW G h2 ad2 vwo ++ (landW G (ad2 0) vadl vla)))))))) rfl
        refine lv_if_eq (tgt := 69) hx hb dX6_isLike_62 (by decide) (fun c_62 => ?_) (fun c_62 => ?_)
        · refine lv_iconst (v := (0 : Int32)) hx hb dX6_isLike_69 (by decide) ?_
          have hW := hW.sub (w' := worW G h ad wo ++ (landW G (ad 0) adl la ++ (sensW G (ad 2) ads se ++ (subW G (ad 3) adu su ++ (worW G h2 ad2 vwo ++ (landW G (ad2 0) vadl vla ++ (sensW G (ad2 2) vads vse ++ (subW G (ad2 3) vadu vsu)))))))) [36, 37, 38, 39, 40, 41, 42, 43, 44, 18, 19, 20, 21, 22, 23, 24, 25, 26, 0, 1, 2, 3, 4, 5, 6, 7, 8, 45, 46, 47, 48, 49, 50, 51, 52, 53, 27, 28, 29, 30, 31, 32, 33, 34, 35, 9, 10, 11, 12, 13, 14, 15, 16, 17] rfl rfl
          have e_0 : (if (r_X4_trustsAreLike se.1 se.2.2.2.2.2.2.2.2.1 vse.1 vse.2.2.2.2.2.2.2.2.1 ns) = (0 : Int32) then (0 : Int32) else (if (r_X5_sentAreLike vsu.2.2.2.2.2.2.1 vsu.2.2.2.2.2.2.2.1 vsu.2.2.2.2.2.2.2.2.1 vsu.2.2.2.2.2.2.2.2.2.1 su.2.2.2.2.2.2.1 su.2.2.2.2.2.2.2.1 su.2.2.2.2.2.2.2.2.1 su.2.2.2.2.2.2.2.2.2.1) = (0 : Int32) then (0 : Int32) else (1 : Int32))) = (0 : Int32) := (if_neg c_48).trans (if_pos c_62)
          refine W.eq (g2 := F0 m 70 ls [.int (if (r_X4_trustsAreLike se.1 se.2.2.2.2.2.2.2.2.1 vse.1 vse.2.2.2.2.2.2.2.2.1 ns) = (0 : Int32) then (0 : Int32) else (if (r_X5_sentAreLike vsu.2.2.2.2.2.2.1 vsu.2.2.2.2.2.2.2.1 vsu.2.2.2.2.2.2.2.2.1 vsu.2.2.2.2.2.2.2.2.2.1 su.2.2.2.2.2.2.1 su.2.2.2.2.2.2.2.1 su.2.2.2.2.2.2.2.2.1 su.2.2.2.2.2.2.2.2.2.1) = (0 : Int32) then (0 : Int32) else (1 : Int32)))]) (by (try rw [e_0]) <;> rfl) ?_
          exact J_2 _ _ _ (hW.eq (by (try rw [e_0]) <;> rfl)) (by (try rw [e_0]) <;> exact lv_sub hl [] rfl)
        · refine lv_iconst (v := (1 : Int32)) hx hb dX6_isLike_65 (by decide) ?_
          refine lv_goto (tgt := 70) hx hb dX6_isLike_66 (by decide) ?_
          have hW := hW.sub (w' := worW G h ad wo ++ (landW G (ad 0) adl la ++ (sensW G (ad 2) ads se ++ (subW G (ad 3) adu su ++ (worW G h2 ad2 vwo ++ (landW G (ad2 0) vadl vla ++ (sensW G (ad2 2) vads vse ++ (subW G (ad2 3) vadu vsu)))))))) [36, 37, 38, 39, 40, 41, 42, 43, 44, 18, 19, 20, 21, 22, 23, 24, 25, 26, 0, 1, 2, 3, 4, 5, 6, 7, 8, 45, 46, 47, 48, 49, 50, 51, 52, 53, 27, 28, 29, 30, 31, 32, 33, 34, 35, 9, 10, 11, 12, 13, 14, 15, 16, 17] rfl rfl
          have e_0 : (if (r_X4_trustsAreLike se.1 se.2.2.2.2.2.2.2.2.1 vse.1 vse.2.2.2.2.2.2.2.2.1 ns) = (0 : Int32) then (0 : Int32) else (if (r_X5_sentAreLike vsu.2.2.2.2.2.2.1 vsu.2.2.2.2.2.2.2.1 vsu.2.2.2.2.2.2.2.2.1 vsu.2.2.2.2.2.2.2.2.2.1 su.2.2.2.2.2.2.1 su.2.2.2.2.2.2.2.1 su.2.2.2.2.2.2.2.2.1 su.2.2.2.2.2.2.2.2.2.1) = (0 : Int32) then (0 : Int32) else (1 : Int32))) = (1 : Int32) := (if_neg c_48).trans (if_neg c_62)
          refine W.eq (g2 := F0 m 70 ls [.int (if (r_X4_trustsAreLike se.1 se.2.2.2.2.2.2.2.2.1 vse.1 vse.2.2.2.2.2.2.2.2.1 ns) = (0 : Int32) then (0 : Int32) else (if (r_X5_sentAreLike vsu.2.2.2.2.2.2.1 vsu.2.2.2.2.2.2.2.1 vsu.2.2.2.2.2.2.2.2.1 vsu.2.2.2.2.2.2.2.2.2.1 su.2.2.2.2.2.2.1 su.2.2.2.2.2.2.2.1 su.2.2.2.2.2.2.2.2.1 su.2.2.2.2.2.2.2.2.2.1) = (0 : Int32) then (0 : Int32) else (1 : Int32)))]) (by (try rw [e_0]) <;> rfl) ?_
          exact J_2 _ _ _ (hW.eq (by (try rw [e_0]) <;> rfl)) (by (try rw [e_0]) <;> exact lv_sub hl [] rfl)
    · intro i_2 hi_2 ih hj H locs ls hW hl
      refine lv_iload_n hx hb dX6_isLike_2 rfl (lv_at hl 2 rfl) ?_
      refine lv_bipush (v := (48 : Int32)) hx hb dX6_isLike_3 (by decide) ?_
      refine lv_icmp_ge (tgt := 37) hx hb dX6_isLike_5 (by decide) (fun c_5 => absurd c_5 (znle (by decide) hi_2 (by decide))) (fun c_5 => ?_)
      refine lv_aload_n hx hb dX6_isLike_8 rfl (lv_at hl 0 rfl) ?_
      refine zget B hW 0 rfl lf_X6_12 rfl dX6_isLike_9 ?_
      refine zget B hW 1 rfl lf_X6_127 rfl dX6_isLike_12 ?_
      refine lv_iload_n hx hb dX6_isLike_15 rfl (lv_at hl 2 rfl) ?_
      refine zialdN B hW 4 rfl i_2 rfl (by omega) (by decide) dX6_isLike_16 ?_
      refine lv_aload_n hx hb dX6_isLike_17 rfl (lv_at hl 1 rfl) ?_
      refine zget B hW 27 rfl lf_X6_12 rfl dX6_isLike_18 ?_
      refine zget B hW 28 rfl lf_X6_127 rfl dX6_isLike_21 ?_
      refine lv_iload_n hx hb dX6_isLike_24 rfl (lv_at hl 2 rfl) ?_
      refine zialdN B hW 31 rfl i_2 rfl (by omega) (by decide) dX6_isLike_25 ?_
      refine lv_icmp_eq (tgt := 31) hx hb dX6_isLike_26 (by decide) (fun c_26 => ?_) (fun c_26 => ?_)
      · refine lv_iinc (v := (nI (i_2 + 1))) hx hb dX6_isLike_31 hl (k := 2) rfl (nI_1 _) (by decide) rfl (fun ls hl => ?_)
        refine lv_goto (tgt := 2) hx hb dX6_isLike_34 (by decide) ?_
        exact ih (lt_s hj (by first | exact (by assumption) | exact ⟨by assumption, by assumption, by assumption⟩)) _ _ _ (hW.eq rfl) (lv_sub hl [1, 2, 0] rfl)
      · refine lv_iconst (v := (0 : Int32)) hx hb dX6_isLike_29 (by decide) ?_
        have hall : ¬ (∀ j : Nat, j < 48 → (la.2.2.1 j) = (vla.2.2.1 j)) := fun z => by
                            have z1 := z _ hi_2
                            first | exact absurd z1 (by assumption) | exact absurd z1.1 (by assumption) | exact absurd z1.2.1 (by assumption) | exact absurd z1.2.2 (by assumption)
        have e_0 : (if ∀ j : Nat, j < 48 → (la.2.2.1 j) = (vla.2.2.1 j) then (if (r_X4_trustsAreLike se.1 se.2.2.2.2.2.2.2.2.1 vse.1 vse.2.2.2.2.2.2.2.2.1 ns) = (0 : Int32) then (0 : Int32) else (if (r_X5_sentAreLike vsu.2.2.2.2.2.2.1 vsu.2.2.2.2.2.2.2.1 vsu.2.2.2.2.2.2.2.2.1 vsu.2.2.2.2.2.2.2.2.2.1 su.2.2.2.2.2.2.1 su.2.2.2.2.2.2.2.1 su.2.2.2.2.2.2.2.2.1 su.2.2.2.2.2.2.2.2.2.1) = (0 : Int32) then (0 : Int32) else (1 : Int32))) else (0 : Int32)) = (0 : Int32) := if_neg hall
        exact zzret B hr hlk (by (repeat' split) <;> rfl) hW ⟨by show _ = some (Value.int (if ∀ j : Nat, j < 48 → (la.2.2.1 j) = (vla.2.2.1 j) then (if (r_X4_trustsAreLike se.1 se.2.2.2.2.2.2.2.2.1 vse.1 vse.2.2.2.2.2.2.2.2.1 ns) = (0 : Int32) then (0 : Int32) else (if (r_X5_sentAreLike vsu.2.2.2.2.2.2.1 vsu.2.2.2.2.2.2.2.1 vsu.2.2.2.2.2.2.2.2.1 vsu.2.2.2.2.2.2.2.2.2.1 su.2.2.2.2.2.2.1 su.2.2.2.2.2.2.2.1 su.2.2.2.2.2.2.2.2.1 su.2.2.2.2.2.2.2.2.2.1) = (0 : Int32) then (0 : Int32) else (1 : Int32))) else (0 : Int32))) <;> (try rw [e_0]) <;> rfl, by show _ = worW G h ad wo ++ (landW G (ad 0) adl la ++ (sensW G (ad 2) ads se ++ (subW G (ad 3) adu su ++ (worW G h2 ad2 vwo ++ (landW G (ad2 0) vadl vla ++ (sensW G (ad2 2) vads vse ++ (subW G (ad2 3) vadu vsu))))))) <;> (try rw [e_0]) <;> rfl⟩ (Nat.le_refl _) (Nat.le_refl _) dX6_isLike_30
  exact L_1 0 (Nat.zero_le _) (fun j hj => absurd hj (Nat.not_lt_zero j)) _ _ _ (hW.eq rfl) (lv_sub hl [1, 2, 0] rfl)
end
section
def i_X0_init (a : Int32) (b : Int32) (c1 : Int32) (d1 : Int32) (f : Int32) : zAct := (a, b, c1, d1, f)
abbrev po_X0_init (G : zG) (h : Nat) (a : Int32) (b : Int32) (c1 : Int32) (d1 : Int32) (f : Int32) : Option Value → va_W → Prop := fun r u => ∃ (ad : Nat → Nat), r = none ∧ u = actW G h ad (i_X0_init a b c1 d1 f)
set_option maxHeartbeats 4000000 in
set_option maxRecDepth 100000 in
theorem c_X0_init (l : Launch) (G : zG) (h : Nat) (a : Int32) (b : Int32) (c1 : Int32) (d1 : Int32) (f : Int32) : zC l yX0_init cX0_init 6 none 1 0 0 G [.ref h, .int a, .int b, .int c1, .int d1, .int f] (([(h, .inr (4, [.int 0, .int 0, .int 0, .int 0, .int 0]))] : va_W)) (po_X0_init G h a b c1 d1 f) := by
  refine zC.of RX0 rfl (by decide) (Nat.le_of_ble_eq_true rfl) ?_
  intro p e s m args below meth c A ls B hr hlk hnm hW hl
  have hx := B.x
  have hb := B.b
  have hl : lv_has ls 6 [(0, .ref h), (1, .int a), (2, .int b), (3, .int c1), (4, .int d1), (5, .int f)] := hl
  refine lv_aload_n hx hb dX0_init_0 rfl (lv_at hl 0 rfl) ?_
  refine zobj B hl.1 ml_X0_1 (Nat.le_of_ble_eq_true rfl) (Nat.le_of_ble_eq_true rfl) dX0_init_1 ?_
  refine lv_aload_n hx hb dX0_init_4 rfl (lv_at hl 0 rfl) ?_
  refine lv_iload_n hx hb dX0_init_5 rfl (lv_at hl 1 rfl) ?_
  refine zputF B hW hnm 0 rfl lf_X0_7 ft_X0_0 (fun C T N h => by have e := Option.some.inj h; cases e; rfl) rfl rfl (Nat.le_of_ble_eq_true rfl) dX0_init_6 (fun H locs hW => ?_)
  have hW := hW.eq (w' := ([(h, .inr (4, [.int a, .int 0, .int 0, .int 0, .int 0]))] : va_W)) rfl
  refine lv_aload_n hx hb dX0_init_9 rfl (lv_at hl 0 rfl) ?_
  refine lv_iload_n hx hb dX0_init_10 rfl (lv_at hl 2 rfl) ?_
  refine zputF B hW hnm 0 rfl lf_X0_13 ft_X0_1 (fun C T N h => by have e := Option.some.inj h; cases e; rfl) rfl rfl (Nat.le_of_ble_eq_true rfl) dX0_init_11 (fun H locs hW => ?_)
  have hW := hW.eq (w' := ([(h, .inr (4, [.int a, .int b, .int 0, .int 0, .int 0]))] : va_W)) rfl
  refine lv_aload_n hx hb dX0_init_14 rfl (lv_at hl 0 rfl) ?_
  refine lv_iload_n hx hb dX0_init_15 rfl (lv_at hl 3 rfl) ?_
  refine zputF B hW hnm 0 rfl lf_X0_16 ft_X0_2 (fun C T N h => by have e := Option.some.inj h; cases e; rfl) rfl rfl (Nat.le_of_ble_eq_true rfl) dX0_init_16 (fun H locs hW => ?_)
  have hW := hW.eq (w' := ([(h, .inr (4, [.int a, .int b, .int c1, .int 0, .int 0]))] : va_W)) rfl
  refine lv_aload_n hx hb dX0_init_19 rfl (lv_at hl 0 rfl) ?_
  refine lv_iload hx hb dX0_init_20 (lv_at hl 4 rfl) ?_
  refine zputF B hW hnm 0 rfl lf_X0_19 ft_X0_3 (fun C T N h => by have e := Option.some.inj h; cases e; rfl) rfl rfl (Nat.le_of_ble_eq_true rfl) dX0_init_22 (fun H locs hW => ?_)
  have hW := hW.eq (w' := ([(h, .inr (4, [.int a, .int b, .int c1, .int d1, .int 0]))] : va_W)) rfl
  refine lv_aload_n hx hb dX0_init_25 rfl (lv_at hl 0 rfl) ?_
  refine lv_iload hx hb dX0_init_26 (lv_at hl 5 rfl) ?_
  refine zputF B hW hnm 0 rfl lf_X0_22 ft_X0_4 (fun C T N h => by have e := Option.some.inj h; cases e; rfl) rfl rfl (Nat.le_of_ble_eq_true rfl) dX0_init_28 (fun H locs hW => ?_)
  have hW := hW.eq (w' := ([(h, .inr (4, [.int a, .int b, .int c1, .int d1, .int f]))] : va_W)) rfl
  have hW := hW.sub (w' := actW G h (zads []) (a, b, c1, d1, f)) [0] rfl rfl
  exact zvret B hr hlk hW ⟨(zads []), rfl, rfl⟩ (Nat.le_of_ble_eq_true rfl) (Nat.le_of_ble_eq_true rfl) dX0_init_31
def i_X1_init : zLand := ((fun _ => (10 : Int32)), (fun _ => 0), (fun _ => 0), (fun _ => 0), (fun _ => 0), (fun _ => 0), (fun _ => 0), (0 : Int32), (0 : Int32), (0 : Int32), (0 : Int32), (0 : Int64), (0 : Int64), (0 : Int64))
abbrev po_X1_init (G : zG) (h : Nat) : Option Value → va_W → Prop := fun r u => ∃ (ad : Nat → Nat), r = none ∧ u = landW G h ad (i_X1_init)
set_option maxHeartbeats 4000000 in
set_option maxRecDepth 100000 in
theorem c_X1_init (l : Launch) (G : zG) (h : Nat) : zC l yX1_init cX1_init 1 none 1 7 246 G [.ref h] (([(h, .inr (5, [.null, .null, .null, .null, .null, .null, .null, .int 0, .int 0, .int 0, .int 0, .long 0, .long 0, .long 0]))] : va_W)) (po_X1_init G h) := by
  refine zC.of RX1 rfl (by decide) (Nat.le_of_ble_eq_true rfl) ?_
  intro p e s m args below meth c A ls B hr hlk hnm hW hl
  have hx := B.x
  have hb := B.b
  have hl : lv_has ls 1 [(0, .ref h)] := hl
  refine lv_aload_n hx hb dX1_init_0 rfl (lv_at hl 0 rfl) ?_
  refine zobj B hl.1 ml_X1_3 (Nat.le_of_ble_eq_true rfl) (Nat.le_of_ble_eq_true rfl) dX1_init_1 ?_
  refine lv_aload_n hx hb dX1_init_4 rfl (lv_at hl 0 rfl) ?_
  refine lv_bipush (v := (48 : Int32)) hx hb dX1_init_5 (by decide) ?_
  refine znewi B hW 48 (by decide) (Nat.le_of_ble_eq_true rfl) (Nat.le_of_ble_eq_true rfl) (Nat.le_of_ble_eq_true rfl) dX1_init_7 (fun q_7 H hW => ?_)
  have hW := hW.eq (w' := ([(h, .inr (5, [.null, .null, .null, .null, .null, .null, .null, .int 0, .int 0, .int 0, .int 0, .long 0, .long 0, .long 0]))] : va_W) ++ (([(q_7, .inl (G.2.1 0, 48, .inl (fun _ => 0)))] : va_W))) rfl
  refine zputF B hW hnm 0 rfl lf_X1_9 ft_X1_0 (fun C T N h => by have e := Option.some.inj h; cases e; rfl) rfl rfl (Nat.le_of_ble_eq_true rfl) dX1_init_9 (fun H locs hW => ?_)
  have hW := hW.eq (w' := ([(h, .inr (5, [.ref q_7, .null, .null, .null, .null, .null, .null, .int 0, .int 0, .int 0, .int 0, .long 0, .long 0, .long 0]))] : va_W) ++ (([(q_7, .inl (G.2.1 0, 48, .inl (fun _ => 0)))] : va_W))) rfl
  refine lv_aload_n hx hb dX1_init_12 rfl (lv_at hl 0 rfl) ?_
  refine lv_bipush (v := (48 : Int32)) hx hb dX1_init_13 (by decide) ?_
  refine znewi B hW 48 (by decide) (Nat.le_of_ble_eq_true rfl) (Nat.le_of_ble_eq_true rfl) (Nat.le_of_ble_eq_true rfl) dX1_init_15 (fun q_15 H hW => ?_)
  have hW := hW.eq (w' := ([(h, .inr (5, [.ref q_7, .null, .null, .null, .null, .null, .null, .int 0, .int 0, .int 0, .int 0, .long 0, .long 0, .long 0]))] : va_W) ++ (([(q_7, .inl (G.2.1 0, 48, .inl (fun _ => 0)))] : va_W) ++ (([(q_15, .inl (G.2.1 0, 48, .inl (fun _ => 0)))] : va_W)))) rfl
  refine zputF B hW hnm 0 rfl lf_X1_15 ft_X1_1 (fun C T N h => by have e := Option.some.inj h; cases e; rfl) rfl rfl (Nat.le_of_ble_eq_true rfl) dX1_init_17 (fun H locs hW => ?_)
  have hW := hW.eq (w' := ([(h, .inr (5, [.ref q_7, .ref q_15, .null, .null, .null, .null, .null, .int 0, .int 0, .int 0, .int 0, .long 0, .long 0, .long 0]))] : va_W) ++ (([(q_7, .inl (G.2.1 0, 48, .inl (fun _ => 0)))] : va_W) ++ (([(q_15, .inl (G.2.1 0, 48, .inl (fun _ => 0)))] : va_W)))) rfl
  refine lv_aload_n hx hb dX1_init_20 rfl (lv_at hl 0 rfl) ?_
  refine lv_bipush (v := (48 : Int32)) hx hb dX1_init_21 (by decide) ?_
  refine znewi B hW 48 (by decide) (Nat.le_of_ble_eq_true rfl) (Nat.le_of_ble_eq_true rfl) (Nat.le_of_ble_eq_true rfl) dX1_init_23 (fun q_23 H hW => ?_)
  have hW := hW.eq (w' := ([(h, .inr (5, [.ref q_7, .ref q_15, .null, .null, .null, .null, .null, .int 0, .int 0, .int 0, .int 0, .long 0, .long 0, .long 0]))] : va_W) ++ (([(q_7, .inl (G.2.1 0, 48, .inl (fun _ => 0)))] : va_W) ++ (([(q_15, .inl (G.2.1 0, 48, .inl (fun _ => 0)))] : va_W) ++ (([(q_23, .inl (G.2.1 0, 48, .inl (fun _ => 0)))] : va_W))))) rfl
  refine zputF B hW hnm 0 rfl lf_X1_18 ft_X1_2 (fun C T N h => by have e := Option.some.inj h; cases e; rfl) rfl rfl (Nat.le_of_ble_eq_true rfl) dX1_init_25 (fun H locs hW => ?_)
  have hW := hW.eq (w' := ([(h, .inr (5, [.ref q_7, .ref q_15, .ref q_23, .null, .null, .null, .null, .int 0, .int 0, .int 0, .int 0, .long 0, .long 0, .long 0]))] : va_W) ++ (([(q_7, .inl (G.2.1 0, 48, .inl (fun _ => 0)))] : va_W) ++ (([(q_15, .inl (G.2.1 0, 48, .inl (fun _ => 0)))] : va_W) ++ (([(q_23, .inl (G.2.1 0, 48, .inl (fun _ => 0)))] : va_W))))) rfl
  refine lv_aload_n hx hb dX1_init_28 rfl (lv_at hl 0 rfl) ?_
  refine lv_bipush (v := (48 : Int32)) hx hb dX1_init_29 (by decide) ?_
  refine znewz B hW 48 (by decide) (Nat.le_of_ble_eq_true rfl) (Nat.le_of_ble_eq_true rfl) (Nat.le_of_ble_eq_true rfl) dX1_init_31 (fun q_31 H hW => ?_)
  have hW := hW.eq (w' := ([(h, .inr (5, [.ref q_7, .ref q_15, .ref q_23, .null, .null, .null, .null, .int 0, .int 0, .int 0, .int 0, .long 0, .long 0, .long 0]))] : va_W) ++ (([(q_7, .inl (G.2.1 0, 48, .inl (fun _ => 0)))] : va_W) ++ (([(q_15, .inl (G.2.1 0, 48, .inl (fun _ => 0)))] : va_W) ++ (([(q_23, .inl (G.2.1 0, 48, .inl (fun _ => 0)))] : va_W) ++ (([(q_31, .inl (G.2.1 1, 48, .inl (fun _ => 0)))] : va_W)))))) rfl
  refine zputF B hW hnm 0 rfl lf_X1_21 ft_X1_3 (fun C T N h => by have e := Option.some.inj h; cases e; rfl) rfl rfl (Nat.le_of_ble_eq_true rfl) dX1_init_33 (fun H locs hW => ?_)
  have hW := hW.eq (w' := ([(h, .inr (5, [.ref q_7, .ref q_15, .ref q_23, .ref q_31, .null, .null, .null, .int 0, .int 0, .int 0, .int 0, .long 0, .long 0, .long 0]))] : va_W) ++ (([(q_7, .inl (G.2.1 0, 48, .inl (fun _ => 0)))] : va_W) ++ (([(q_15, .inl (G.2.1 0, 48, .inl (fun _ => 0)))] : va_W) ++ (([(q_23, .inl (G.2.1 0, 48, .inl (fun _ => 0)))] : va_W) ++ (([(q_31, .inl (G.2.1 1, 48, .inl (fun _ => 0)))] : va_W)))))) rfl
  refine lv_aload_n hx hb dX1_init_36 rfl (lv_at hl 0 rfl) ?_
  refine lv_iconst (v := (3 : Int32)) hx hb dX1_init_37 (by decide) ?_
  refine znewi B hW 3 (by decide) (Nat.le_of_ble_eq_true rfl) (Nat.le_of_ble_eq_true rfl) (Nat.le_of_ble_eq_true rfl) dX1_init_38 (fun q_38 H hW => ?_)
  have hW := hW.eq (w' := ([(h, .inr (5, [.ref q_7, .ref q_15, .ref q_23, .ref q_31, .null, .null, .null, .int 0, .int 0, .int 0, .int 0, .long 0, .long 0, .long 0]))] : va_W) ++ (([(q_7, .inl (G.2.1 0, 48, .inl (fun _ => 0)))] : va_W) ++ (([(q_15, .inl (G.2.1 0, 48, .inl (fun _ => 0)))] : va_W) ++ (([(q_23, .inl (G.2.1 0, 48, .inl (fun _ => 0)))] : va_W) ++ (([(q_31, .inl (G.2.1 1, 48, .inl (fun _ => 0)))] : va_W) ++ (([(q_38, .inl (G.2.1 0, 3, .inl (fun _ => 0)))] : va_W))))))) rfl
  refine zputF B hW hnm 0 rfl lf_X1_25 ft_X1_4 (fun C T N h => by have e := Option.some.inj h; cases e; rfl) rfl rfl (Nat.le_of_ble_eq_true rfl) dX1_init_40 (fun H locs hW => ?_)
  have hW := hW.eq (w' := ([(h, .inr (5, [.ref q_7, .ref q_15, .ref q_23, .ref q_31, .ref q_38, .null, .null, .int 0, .int 0, .int 0, .int 0, .long 0, .long 0, .long 0]))] : va_W) ++ (([(q_7, .inl (G.2.1 0, 48, .inl (fun _ => 0)))] : va_W) ++ (([(q_15, .inl (G.2.1 0, 48, .inl (fun _ => 0)))] : va_W) ++ (([(q_23, .inl (G.2.1 0, 48, .inl (fun _ => 0)))] : va_W) ++ (([(q_31, .inl (G.2.1 1, 48, .inl (fun _ => 0)))] : va_W) ++ (([(q_38, .inl (G.2.1 0, 3, .inl (fun _ => 0)))] : va_W))))))) rfl
  refine lv_aload_n hx hb dX1_init_43 rfl (lv_at hl 0 rfl) ?_
  refine lv_iconst (v := (3 : Int32)) hx hb dX1_init_44 (by decide) ?_
  refine znewi B hW 3 (by decide) (Nat.le_of_ble_eq_true rfl) (Nat.le_of_ble_eq_true rfl) (Nat.le_of_ble_eq_true rfl) dX1_init_45 (fun q_45 H hW => ?_)
  have hW := hW.eq (w' := ([(h, .inr (5, [.ref q_7, .ref q_15, .ref q_23, .ref q_31, .ref q_38, .null, .null, .int 0, .int 0, .int 0, .int 0, .long 0, .long 0, .long 0]))] : va_W) ++ (([(q_7, .inl (G.2.1 0, 48, .inl (fun _ => 0)))] : va_W) ++ (([(q_15, .inl (G.2.1 0, 48, .inl (fun _ => 0)))] : va_W) ++ (([(q_23, .inl (G.2.1 0, 48, .inl (fun _ => 0)))] : va_W) ++ (([(q_31, .inl (G.2.1 1, 48, .inl (fun _ => 0)))] : va_W) ++ (([(q_38, .inl (G.2.1 0, 3, .inl (fun _ => 0)))] : va_W) ++ (([(q_45, .inl (G.2.1 0, 3, .inl (fun _ => 0)))] : va_W)))))))) rfl
  refine zputF B hW hnm 0 rfl lf_X1_28 ft_X1_5 (fun C T N h => by have e := Option.some.inj h; cases e; rfl) rfl rfl (Nat.le_of_ble_eq_true rfl) dX1_init_47 (fun H locs hW => ?_)
  have hW := hW.eq (w' := ([(h, .inr (5, [.ref q_7, .ref q_15, .ref q_23, .ref q_31, .ref q_38, .ref q_45, .null, .int 0, .int 0, .int 0, .int 0, .long 0, .long 0, .long 0]))] : va_W) ++ (([(q_7, .inl (G.2.1 0, 48, .inl (fun _ => 0)))] : va_W) ++ (([(q_15, .inl (G.2.1 0, 48, .inl (fun _ => 0)))] : va_W) ++ (([(q_23, .inl (G.2.1 0, 48, .inl (fun _ => 0)))] : va_W) ++ (([(q_31, .inl (G.2.1 1, 48, .inl (fun _ => 0)))] : va_W) ++ (([(q_38, .inl (G.2.1 0, 3, .inl (fun _ => 0)))] : va_W) ++ (([(q_45, .inl (G.2.1 0, 3, .inl (fun _ => 0)))] : va_W)))))))) rfl
  refine lv_aload_n hx hb dX1_init_50 rfl (lv_at hl 0 rfl) ?_
  refine lv_bipush (v := (48 : Int32)) hx hb dX1_init_51 (by decide) ?_
  refine znewi B hW 48 (by decide) (Nat.le_of_ble_eq_true rfl) (Nat.le_of_ble_eq_true rfl) (Nat.le_of_ble_eq_true rfl) dX1_init_53 (fun q_53 H hW => ?_)
  have hW := hW.eq (w' := ([(h, .inr (5, [.ref q_7, .ref q_15, .ref q_23, .ref q_31, .ref q_38, .ref q_45, .null, .int 0, .int 0, .int 0, .int 0, .long 0, .long 0, .long 0]))] : va_W) ++ (([(q_7, .inl (G.2.1 0, 48, .inl (fun _ => 0)))] : va_W) ++ (([(q_15, .inl (G.2.1 0, 48, .inl (fun _ => 0)))] : va_W) ++ (([(q_23, .inl (G.2.1 0, 48, .inl (fun _ => 0)))] : va_W) ++ (([(q_31, .inl (G.2.1 1, 48, .inl (fun _ => 0)))] : va_W) ++ (([(q_38, .inl (G.2.1 0, 3, .inl (fun _ => 0)))] : va_W) ++ (([(q_45, .inl (G.2.1 0, 3, .inl (fun _ => 0)))] : va_W) ++ (([(q_53, .inl (G.2.1 0, 48, .inl (fun _ => 0)))] : va_W))))))))) rfl
  refine zputF B hW hnm 0 rfl lf_X1_31 ft_X1_6 (fun C T N h => by have e := Option.some.inj h; cases e; rfl) rfl rfl (Nat.le_of_ble_eq_true rfl) dX1_init_55 (fun H locs hW => ?_)
  have hW := hW.eq (w' := ([(h, .inr (5, [.ref q_7, .ref q_15, .ref q_23, .ref q_31, .ref q_38, .ref q_45, .ref q_53, .int 0, .int 0, .int 0, .int 0, .long 0, .long 0, .long 0]))] : va_W) ++ (([(q_7, .inl (G.2.1 0, 48, .inl (fun _ => 0)))] : va_W) ++ (([(q_15, .inl (G.2.1 0, 48, .inl (fun _ => 0)))] : va_W) ++ (([(q_23, .inl (G.2.1 0, 48, .inl (fun _ => 0)))] : va_W) ++ (([(q_31, .inl (G.2.1 1, 48, .inl (fun _ => 0)))] : va_W) ++ (([(q_38, .inl (G.2.1 0, 3, .inl (fun _ => 0)))] : va_W) ++ (([(q_45, .inl (G.2.1 0, 3, .inl (fun _ => 0)))] : va_W) ++ (([(q_53, .inl (G.2.1 0, 48, .inl (fun _ => 0)))] : va_W))))))))) rfl
  refine lv_aload_n hx hb dX1_init_58 rfl (lv_at hl 0 rfl) ?_
  refine lv_iconst (v := (0 : Int32)) hx hb dX1_init_59 (by decide) ?_
  refine zput B hW 0 rfl lf_X1_34 ft_X1_7 rfl rfl (Nat.le_of_ble_eq_true rfl) dX1_init_60 (fun H locs hW => ?_)
  have hW := hW.eq (w' := ([(h, .inr (5, [.ref q_7, .ref q_15, .ref q_23, .ref q_31, .ref q_38, .ref q_45, .ref q_53, .int (0 : Int32), .int 0, .int 0, .int 0, .long 0, .long 0, .long 0]))] : va_W) ++ (([(q_7, .inl (G.2.1 0, 48, .inl (fun _ => 0)))] : va_W) ++ (([(q_15, .inl (G.2.1 0, 48, .inl (fun _ => 0)))] : va_W) ++ (([(q_23, .inl (G.2.1 0, 48, .inl (fun _ => 0)))] : va_W) ++ (([(q_31, .inl (G.2.1 1, 48, .inl (fun _ => 0)))] : va_W) ++ (([(q_38, .inl (G.2.1 0, 3, .inl (fun _ => 0)))] : va_W) ++ (([(q_45, .inl (G.2.1 0, 3, .inl (fun _ => 0)))] : va_W) ++ (([(q_53, .inl (G.2.1 0, 48, .inl (fun _ => 0)))] : va_W))))))))) rfl
  refine lv_aload_n hx hb dX1_init_63 rfl (lv_at hl 0 rfl) ?_
  refine lv_iconst (v := (0 : Int32)) hx hb dX1_init_64 (by decide) ?_
  refine zput B hW 0 rfl lf_X1_38 ft_X1_8 rfl rfl (Nat.le_of_ble_eq_true rfl) dX1_init_65 (fun H locs hW => ?_)
  have hW := hW.eq (w' := ([(h, .inr (5, [.ref q_7, .ref q_15, .ref q_23, .ref q_31, .ref q_38, .ref q_45, .ref q_53, .int (0 : Int32), .int (0 : Int32), .int 0, .int 0, .long 0, .long 0, .long 0]))] : va_W) ++ (([(q_7, .inl (G.2.1 0, 48, .inl (fun _ => 0)))] : va_W) ++ (([(q_15, .inl (G.2.1 0, 48, .inl (fun _ => 0)))] : va_W) ++ (([(q_23, .inl (G.2.1 0, 48, .inl (fun _ => 0)))] : va_W) ++ (([(q_31, .inl (G.2.1 1, 48, .inl (fun _ => 0)))] : va_W) ++ (([(q_38, .inl (G.2.1 0, 3, .inl (fun _ => 0)))] : va_W) ++ (([(q_45, .inl (G.2.1 0, 3, .inl (fun _ => 0)))] : va_W) ++ (([(q_53, .inl (G.2.1 0, 48, .inl (fun _ => 0)))] : va_W))))))))) rfl
  refine lv_aload_n hx hb dX1_init_68 rfl (lv_at hl 0 rfl) ?_
  refine lv_iconst (v := (0 : Int32)) hx hb dX1_init_69 (by decide) ?_
  refine zput B hW 0 rfl lf_X1_41 ft_X1_9 rfl rfl (Nat.le_of_ble_eq_true rfl) dX1_init_70 (fun H locs hW => ?_)
  have hW := hW.eq (w' := ([(h, .inr (5, [.ref q_7, .ref q_15, .ref q_23, .ref q_31, .ref q_38, .ref q_45, .ref q_53, .int (0 : Int32), .int (0 : Int32), .int (0 : Int32), .int 0, .long 0, .long 0, .long 0]))] : va_W) ++ (([(q_7, .inl (G.2.1 0, 48, .inl (fun _ => 0)))] : va_W) ++ (([(q_15, .inl (G.2.1 0, 48, .inl (fun _ => 0)))] : va_W) ++ (([(q_23, .inl (G.2.1 0, 48, .inl (fun _ => 0)))] : va_W) ++ (([(q_31, .inl (G.2.1 1, 48, .inl (fun _ => 0)))] : va_W) ++ (([(q_38, .inl (G.2.1 0, 3, .inl (fun _ => 0)))] : va_W) ++ (([(q_45, .inl (G.2.1 0, 3, .inl (fun _ => 0)))] : va_W) ++ (([(q_53, .inl (G.2.1 0, 48, .inl (fun _ => 0)))] : va_W))))))))) rfl
  refine lv_aload_n hx hb dX1_init_73 rfl (lv_at hl 0 rfl) ?_
  refine lv_iconst (v := (0 : Int32)) hx hb dX1_init_74 (by decide) ?_
  refine zput B hW 0 rfl lf_X1_44 ft_X1_10 rfl rfl (Nat.le_of_ble_eq_true rfl) dX1_init_75 (fun H locs hW => ?_)
  have hW := hW.eq (w' := ([(h, .inr (5, [.ref q_7, .ref q_15, .ref q_23, .ref q_31, .ref q_38, .ref q_45, .ref q_53, .int (0 : Int32), .int (0 : Int32), .int (0 : Int32), .int (0 : Int32), .long 0, .long 0, .long 0]))] : va_W) ++ (([(q_7, .inl (G.2.1 0, 48, .inl (fun _ => 0)))] : va_W) ++ (([(q_15, .inl (G.2.1 0, 48, .inl (fun _ => 0)))] : va_W) ++ (([(q_23, .inl (G.2.1 0, 48, .inl (fun _ => 0)))] : va_W) ++ (([(q_31, .inl (G.2.1 1, 48, .inl (fun _ => 0)))] : va_W) ++ (([(q_38, .inl (G.2.1 0, 3, .inl (fun _ => 0)))] : va_W) ++ (([(q_45, .inl (G.2.1 0, 3, .inl (fun _ => 0)))] : va_W) ++ (([(q_53, .inl (G.2.1 0, 48, .inl (fun _ => 0)))] : va_W))))))))) rfl
  refine lv_aload_n hx hb dX1_init_78 rfl (lv_at hl 0 rfl) ?_
  refine lv_lconst (v := (0 : Int64)) hx hb dX1_init_79 (by decide) ?_
  refine zput B hW 0 rfl lf_X1_47 ft_X1_11 rfl rfl (Nat.le_of_ble_eq_true rfl) dX1_init_80 (fun H locs hW => ?_)
  have hW := hW.eq (w' := ([(h, .inr (5, [.ref q_7, .ref q_15, .ref q_23, .ref q_31, .ref q_38, .ref q_45, .ref q_53, .int (0 : Int32), .int (0 : Int32), .int (0 : Int32), .int (0 : Int32), .long (0 : Int64), .long 0, .long 0]))] : va_W) ++ (([(q_7, .inl (G.2.1 0, 48, .inl (fun _ => 0)))] : va_W) ++ (([(q_15, .inl (G.2.1 0, 48, .inl (fun _ => 0)))] : va_W) ++ (([(q_23, .inl (G.2.1 0, 48, .inl (fun _ => 0)))] : va_W) ++ (([(q_31, .inl (G.2.1 1, 48, .inl (fun _ => 0)))] : va_W) ++ (([(q_38, .inl (G.2.1 0, 3, .inl (fun _ => 0)))] : va_W) ++ (([(q_45, .inl (G.2.1 0, 3, .inl (fun _ => 0)))] : va_W) ++ (([(q_53, .inl (G.2.1 0, 48, .inl (fun _ => 0)))] : va_W))))))))) rfl
  refine lv_aload_n hx hb dX1_init_83 rfl (lv_at hl 0 rfl) ?_
  refine lv_lconst (v := (0 : Int64)) hx hb dX1_init_84 (by decide) ?_
  refine zput B hW 0 rfl lf_X1_51 ft_X1_12 rfl rfl (Nat.le_of_ble_eq_true rfl) dX1_init_85 (fun H locs hW => ?_)
  have hW := hW.eq (w' := ([(h, .inr (5, [.ref q_7, .ref q_15, .ref q_23, .ref q_31, .ref q_38, .ref q_45, .ref q_53, .int (0 : Int32), .int (0 : Int32), .int (0 : Int32), .int (0 : Int32), .long (0 : Int64), .long (0 : Int64), .long 0]))] : va_W) ++ (([(q_7, .inl (G.2.1 0, 48, .inl (fun _ => 0)))] : va_W) ++ (([(q_15, .inl (G.2.1 0, 48, .inl (fun _ => 0)))] : va_W) ++ (([(q_23, .inl (G.2.1 0, 48, .inl (fun _ => 0)))] : va_W) ++ (([(q_31, .inl (G.2.1 1, 48, .inl (fun _ => 0)))] : va_W) ++ (([(q_38, .inl (G.2.1 0, 3, .inl (fun _ => 0)))] : va_W) ++ (([(q_45, .inl (G.2.1 0, 3, .inl (fun _ => 0)))] : va_W) ++ (([(q_53, .inl (G.2.1 0, 48, .inl (fun _ => 0)))] : va_W))))))))) rfl
  refine lv_aload_n hx hb dX1_init_88 rfl (lv_at hl 0 rfl) ?_
  refine lv_lconst (v := (0 : Int64)) hx hb dX1_init_89 (by decide) ?_
  refine zput B hW 0 rfl lf_X1_54 ft_X1_13 rfl rfl (Nat.le_of_ble_eq_true rfl) dX1_init_90 (fun H locs hW => ?_)
  have hW := hW.eq (w' := ([(h, .inr (5, [.ref q_7, .ref q_15, .ref q_23, .ref q_31, .ref q_38, .ref q_45, .ref q_53, .int (0 : Int32), .int (0 : Int32), .int (0 : Int32), .int (0 : Int32), .long (0 : Int64), .long (0 : Int64), .long (0 : Int64)]))] : va_W) ++ (([(q_7, .inl (G.2.1 0, 48, .inl (fun _ => 0)))] : va_W) ++ (([(q_15, .inl (G.2.1 0, 48, .inl (fun _ => 0)))] : va_W) ++ (([(q_23, .inl (G.2.1 0, 48, .inl (fun _ => 0)))] : va_W) ++ (([(q_31, .inl (G.2.1 1, 48, .inl (fun _ => 0)))] : va_W) ++ (([(q_38, .inl (G.2.1 0, 3, .inl (fun _ => 0)))] : va_W) ++ (([(q_45, .inl (G.2.1 0, 3, .inl (fun _ => 0)))] : va_W) ++ (([(q_53, .inl (G.2.1 0, 48, .inl (fun _ => 0)))] : va_W))))))))) rfl
  refine lv_aload_n hx hb dX1_init_93 rfl (lv_at hl 0 rfl) ?_
  refine zget B hW 0 rfl lf_X1_9 rfl dX1_init_94 ?_
  refine lv_bipush (v := (10 : Int32)) hx hb dX1_init_97 (by decide) ?_
  refine zfill B hW hl.1 ml_X1_57 1 rfl (by decide) (Nat.le_of_ble_eq_true rfl) (Nat.le_of_ble_eq_true rfl) (Nat.le_of_ble_eq_true rfl) ⟨(Nat.le_of_ble_eq_true rfl), (Nat.le_of_ble_eq_true rfl)⟩ dX1_init_99 (fun H locs hW => ?_)
  have hW := hW.sub (w' := landW G h (zads [q_7, q_15, q_23, q_31, q_38, q_45, q_53]) ((fun _ => (10 : Int32)), (fun _ => 0), (fun _ => 0), (fun _ => 0), (fun _ => 0), (fun _ => 0), (fun _ => 0), (0 : Int32), (0 : Int32), (0 : Int32), (0 : Int32), (0 : Int64), (0 : Int64), (0 : Int64))) [0, 1, 2, 3, 4, 5, 6, 7] rfl rfl
  exact zvret B hr hlk hW ⟨(zads [q_7, q_15, q_23, q_31, q_38, q_45, q_53]), rfl, rfl⟩ (Nat.le_of_ble_eq_true rfl) (Nat.le_of_ble_eq_true rfl) dX1_init_102
def i_X2_init : zOutl := (fun _ => 0)
abbrev po_X2_init (G : zG) (h : Nat) : Option Value → va_W → Prop := fun r u => ∃ (ad adw : Nat → Nat), r = none ∧ u = outW G h ad (i_X2_init) ++ (landW G (ad 0) adw (i_X1_init))
set_option maxHeartbeats 4000000 in
set_option maxRecDepth 100000 in
theorem c_X2_init (l : Launch) (G : zG) (h : Nat) : zC l yX2_init cX2_init 1 none 2 9 308 G [.ref h] (([(h, .inr (6, [.null, .null]))] : va_W)) (po_X2_init G h) := by
  refine zC.of RX2 rfl (by decide) (Nat.le_of_ble_eq_true rfl) ?_
  intro p e s m args below meth c A ls B hr hlk hnm hW hl
  have hx := B.x
  have hb := B.b
  have hl : lv_has ls 1 [(0, .ref h)] := hl
  refine lv_aload_n hx hb dX2_init_0 rfl (lv_at hl 0 rfl) ?_
  refine zobj B hl.1 ml_X2_3 (Nat.le_of_ble_eq_true rfl) (Nat.le_of_ble_eq_true rfl) dX2_init_1 ?_
  refine lv_aload_n hx hb dX2_init_4 rfl (lv_at hl 0 rfl) ?_
  refine znew B hW 5 14 tyX1 rfl in_X1 tyX1_ok kl_X2_9 ki_X1 kz_X1 rfl (Nat.le_of_ble_eq_true rfl) (Nat.le_of_ble_eq_true rfl) dX2_init_5 (fun q_5 H hW => ?_)
  have hW := hW.eq (w' := ([(h, .inr (6, [.null, .null]))] : va_W) ++ (([(q_5, .inr (5, [.null, .null, .null, .null, .null, .null, .null, .int 0, .int 0, .int 0, .int 0, .long 0, .long 0, .long 0]))] : va_W))) rfl
  refine lv_dup hx hb dX2_init_8 rfl ?_
  have hW := hW.sub (w' := ([(q_5, .inr (5, [.null, .null, .null, .null, .null, .null, .null, .int 0, .int 0, .int 0, .int 0, .long 0, .long 0, .long 0]))] : va_W) ++ (([(h, .inr (6, [.null, .null]))] : va_W))) [1, 0] rfl rfl
  refine zcI (w1 := []) (wc := ([(q_5, .inr (5, [.null, .null, .null, .null, .null, .null, .null, .int 0, .int 0, .int 0, .int 0, .long 0, .long 0, .long 0]))] : va_W)) (w2 := ([(h, .inr (6, [.null, .null]))] : va_W)) (As := []) B (hW.eq rfl) (c_X1_init l G q_5) yd_X1_init ml_X2_11 rfl hl.1 rfl (Nat.le_of_ble_eq_true rfl) ⟨Nat.le_of_ble_eq_true rfl, Nat.le_of_ble_eq_true rfl⟩ ⟨(Nat.le_of_ble_eq_true rfl), (Nat.le_of_ble_eq_true rfl)⟩ dX2_init_9 (fun v u H locs hp hW => ?_)
  obtain ⟨ad0_9, rfl, rfl⟩ := hp
  have hW := hW.eq (w' := landW G q_5 ad0_9 (i_X1_init) ++ (([(h, .inr (6, [.null, .null]))] : va_W))) rfl
  refine zputF B hW hnm 8 rfl lf_X2_12 ft_X2_0 (fun C T N h => by have e := Option.some.inj h; cases e; rfl) rfl rfl (Nat.le_of_ble_eq_true rfl) dX2_init_12 (fun H locs hW => ?_)
  have hW := hW.eq (w' := landW G q_5 ad0_9 (i_X1_init) ++ (([(h, .inr (6, [.ref q_5, .null]))] : va_W))) rfl
  refine lv_aload_n hx hb dX2_init_15 rfl (lv_at hl 0 rfl) ?_
  refine lv_bipush (v := (48 : Int32)) hx hb dX2_init_16 (by decide) ?_
  refine znewi B hW 48 (by decide) (Nat.le_of_ble_eq_true rfl) (Nat.le_of_ble_eq_true rfl) (Nat.le_of_ble_eq_true rfl) dX2_init_18 (fun q_18 H hW => ?_)
  have hW := hW.eq (w' := landW G q_5 ad0_9 (i_X1_init) ++ (([(h, .inr (6, [.ref q_5, .null]))] : va_W) ++ (([(q_18, .inl (G.2.1 0, 48, .inl (fun _ => 0)))] : va_W)))) rfl
  refine zputF B hW hnm 8 rfl lf_X2_18 ft_X2_1 (fun C T N h => by have e := Option.some.inj h; cases e; rfl) rfl rfl (Nat.le_of_ble_eq_true rfl) dX2_init_20 (fun H locs hW => ?_)
  have hW := hW.eq (w' := landW G q_5 ad0_9 (i_X1_init) ++ (([(h, .inr (6, [.ref q_5, .ref q_18]))] : va_W) ++ (([(q_18, .inl (G.2.1 0, 48, .inl (fun _ => 0)))] : va_W)))) rfl
  have hW := hW.sub (w' := landW G q_5 ad0_9 (i_X1_init) ++ (outW G h (zads [q_5, q_18]) (fun _ => 0))) [0, 1, 2, 3, 4, 5, 6, 7, 8, 9] rfl rfl
  have hW := hW.sub (w' := outW G h (zads [q_5, q_18]) (fun _ => 0) ++ (landW G q_5 ad0_9 (i_X1_init))) [8, 9, 0, 1, 2, 3, 4, 5, 6, 7] rfl rfl
  exact zvret B hr hlk hW ⟨(zads [q_5, q_18]), ad0_9, rfl, rfl⟩ (Nat.le_of_ble_eq_true rfl) (Nat.le_of_ble_eq_true rfl) dX2_init_23
def i_X3_init : zScho := ((fun _ => 0), (fun _ => 0), (fun _ => 0), (0 : Int32), (0 : Int32))
abbrev po_X3_init (G : zG) (h : Nat) : Option Value → va_W → Prop := fun r u => ∃ (ad : Nat → Nat), r = none ∧ u = schW G h ad (i_X3_init)
set_option maxHeartbeats 4000000 in
set_option maxRecDepth 100000 in
theorem c_X3_init (l : Launch) (G : zG) (h : Nat) : zC l yX3_init cX3_init 1 none 1 3 18 G [.ref h] (([(h, .inr (7, [.null, .null, .null, .int 0, .int 0]))] : va_W)) (po_X3_init G h) := by
  refine zC.of RX3 rfl (by decide) (Nat.le_of_ble_eq_true rfl) ?_
  intro p e s m args below meth c A ls B hr hlk hnm hW hl
  have hx := B.x
  have hb := B.b
  have hl : lv_has ls 1 [(0, .ref h)] := hl
  refine lv_aload_n hx hb dX3_init_0 rfl (lv_at hl 0 rfl) ?_
  refine zobj B hl.1 ml_X3_3 (Nat.le_of_ble_eq_true rfl) (Nat.le_of_ble_eq_true rfl) dX3_init_1 ?_
  refine lv_aload_n hx hb dX3_init_4 rfl (lv_at hl 0 rfl) ?_
  refine lv_bipush (v := (6 : Int32)) hx hb dX3_init_5 (by decide) ?_
  refine znewz B hW 6 (by decide) (Nat.le_of_ble_eq_true rfl) (Nat.le_of_ble_eq_true rfl) (Nat.le_of_ble_eq_true rfl) dX3_init_7 (fun q_7 H hW => ?_)
  have hW := hW.eq (w' := ([(h, .inr (7, [.null, .null, .null, .int 0, .int 0]))] : va_W) ++ (([(q_7, .inl (G.2.1 1, 6, .inl (fun _ => 0)))] : va_W))) rfl
  refine zputF B hW hnm 0 rfl lf_X3_9 ft_X3_0 (fun C T N h => by have e := Option.some.inj h; cases e; rfl) rfl rfl (Nat.le_of_ble_eq_true rfl) dX3_init_9 (fun H locs hW => ?_)
  have hW := hW.eq (w' := ([(h, .inr (7, [.ref q_7, .null, .null, .int 0, .int 0]))] : va_W) ++ (([(q_7, .inl (G.2.1 1, 6, .inl (fun _ => 0)))] : va_W))) rfl
  refine lv_aload_n hx hb dX3_init_12 rfl (lv_at hl 0 rfl) ?_
  refine lv_bipush (v := (6 : Int32)) hx hb dX3_init_13 (by decide) ?_
  refine znewi B hW 6 (by decide) (Nat.le_of_ble_eq_true rfl) (Nat.le_of_ble_eq_true rfl) (Nat.le_of_ble_eq_true rfl) dX3_init_15 (fun q_15 H hW => ?_)
  have hW := hW.eq (w' := ([(h, .inr (7, [.ref q_7, .null, .null, .int 0, .int 0]))] : va_W) ++ (([(q_7, .inl (G.2.1 1, 6, .inl (fun _ => 0)))] : va_W) ++ (([(q_15, .inl (G.2.1 0, 6, .inl (fun _ => 0)))] : va_W)))) rfl
  refine zputF B hW hnm 0 rfl lf_X3_15 ft_X3_1 (fun C T N h => by have e := Option.some.inj h; cases e; rfl) rfl rfl (Nat.le_of_ble_eq_true rfl) dX3_init_17 (fun H locs hW => ?_)
  have hW := hW.eq (w' := ([(h, .inr (7, [.ref q_7, .ref q_15, .null, .int 0, .int 0]))] : va_W) ++ (([(q_7, .inl (G.2.1 1, 6, .inl (fun _ => 0)))] : va_W) ++ (([(q_15, .inl (G.2.1 0, 6, .inl (fun _ => 0)))] : va_W)))) rfl
  refine lv_aload_n hx hb dX3_init_20 rfl (lv_at hl 0 rfl) ?_
  refine lv_bipush (v := (6 : Int32)) hx hb dX3_init_21 (by decide) ?_
  refine znewi B hW 6 (by decide) (Nat.le_of_ble_eq_true rfl) (Nat.le_of_ble_eq_true rfl) (Nat.le_of_ble_eq_true rfl) dX3_init_23 (fun q_23 H hW => ?_)
  have hW := hW.eq (w' := ([(h, .inr (7, [.ref q_7, .ref q_15, .null, .int 0, .int 0]))] : va_W) ++ (([(q_7, .inl (G.2.1 1, 6, .inl (fun _ => 0)))] : va_W) ++ (([(q_15, .inl (G.2.1 0, 6, .inl (fun _ => 0)))] : va_W) ++ (([(q_23, .inl (G.2.1 0, 6, .inl (fun _ => 0)))] : va_W))))) rfl
  refine zputF B hW hnm 0 rfl lf_X3_19 ft_X3_2 (fun C T N h => by have e := Option.some.inj h; cases e; rfl) rfl rfl (Nat.le_of_ble_eq_true rfl) dX3_init_25 (fun H locs hW => ?_)
  have hW := hW.eq (w' := ([(h, .inr (7, [.ref q_7, .ref q_15, .ref q_23, .int 0, .int 0]))] : va_W) ++ (([(q_7, .inl (G.2.1 1, 6, .inl (fun _ => 0)))] : va_W) ++ (([(q_15, .inl (G.2.1 0, 6, .inl (fun _ => 0)))] : va_W) ++ (([(q_23, .inl (G.2.1 0, 6, .inl (fun _ => 0)))] : va_W))))) rfl
  refine lv_aload_n hx hb dX3_init_28 rfl (lv_at hl 0 rfl) ?_
  refine lv_iconst (v := (0 : Int32)) hx hb dX3_init_29 (by decide) ?_
  refine zput B hW 0 rfl lf_X3_22 ft_X3_3 rfl rfl (Nat.le_of_ble_eq_true rfl) dX3_init_30 (fun H locs hW => ?_)
  have hW := hW.eq (w' := ([(h, .inr (7, [.ref q_7, .ref q_15, .ref q_23, .int (0 : Int32), .int 0]))] : va_W) ++ (([(q_7, .inl (G.2.1 1, 6, .inl (fun _ => 0)))] : va_W) ++ (([(q_15, .inl (G.2.1 0, 6, .inl (fun _ => 0)))] : va_W) ++ (([(q_23, .inl (G.2.1 0, 6, .inl (fun _ => 0)))] : va_W))))) rfl
  refine lv_aload_n hx hb dX3_init_33 rfl (lv_at hl 0 rfl) ?_
  refine lv_iconst (v := (0 : Int32)) hx hb dX3_init_34 (by decide) ?_
  refine zput B hW 0 rfl lf_X3_26 ft_X3_4 rfl rfl (Nat.le_of_ble_eq_true rfl) dX3_init_35 (fun H locs hW => ?_)
  have hW := hW.eq (w' := ([(h, .inr (7, [.ref q_7, .ref q_15, .ref q_23, .int (0 : Int32), .int (0 : Int32)]))] : va_W) ++ (([(q_7, .inl (G.2.1 1, 6, .inl (fun _ => 0)))] : va_W) ++ (([(q_15, .inl (G.2.1 0, 6, .inl (fun _ => 0)))] : va_W) ++ (([(q_23, .inl (G.2.1 0, 6, .inl (fun _ => 0)))] : va_W))))) rfl
  have hW := hW.sub (w' := schW G h (zads [q_7, q_15, q_23]) ((fun _ => 0), (fun _ => 0), (fun _ => 0), (0 : Int32), (0 : Int32))) [0, 1, 2, 3] rfl rfl
  exact zvret B hr hlk hW ⟨(zads [q_7, q_15, q_23]), rfl, rfl⟩ (Nat.le_of_ble_eq_true rfl) (Nat.le_of_ble_eq_true rfl) dX3_init_38
def i_X4_init : zSens := ((fun _ => 0), (fun _ => 0), (fun _ => 0), (fun _ => 0), (fun _ => 0), (fun _ => 0), (fun _ => 0), (fun _ => 0), (0 : Int32), (0 : Int64))
abbrev po_X4_init (G : zG) (h : Nat) : Option Value → va_W → Prop := fun r u => ∃ (ad : Nat → Nat), r = none ∧ u = sensW G h ad (i_X4_init)
set_option maxHeartbeats 4000000 in
set_option maxRecDepth 100000 in
theorem c_X4_init (l : Launch) (G : zG) (h : Nat) : zC l yX4_init cX4_init 1 none 1 8 80 G [.ref h] (([(h, .inr (8, [.null, .null, .null, .null, .null, .null, .null, .null, .int 0, .long 0]))] : va_W)) (po_X4_init G h) := by
  refine zC.of RX4 rfl (by decide) (Nat.le_of_ble_eq_true rfl) ?_
  intro p e s m args below meth c A ls B hr hlk hnm hW hl
  have hx := B.x
  have hb := B.b
  have hl : lv_has ls 1 [(0, .ref h)] := hl
  refine lv_aload_n hx hb dX4_init_0 rfl (lv_at hl 0 rfl) ?_
  refine zobj B hl.1 ml_X4_3 (Nat.le_of_ble_eq_true rfl) (Nat.le_of_ble_eq_true rfl) dX4_init_1 ?_
  refine lv_aload_n hx hb dX4_init_4 rfl (lv_at hl 0 rfl) ?_
  refine lv_bipush (v := (10 : Int32)) hx hb dX4_init_5 (by decide) ?_
  refine znewi B hW 10 (by decide) (Nat.le_of_ble_eq_true rfl) (Nat.le_of_ble_eq_true rfl) (Nat.le_of_ble_eq_true rfl) dX4_init_7 (fun q_7 H hW => ?_)
  have hW := hW.eq (w' := ([(h, .inr (8, [.null, .null, .null, .null, .null, .null, .null, .null, .int 0, .long 0]))] : va_W) ++ (([(q_7, .inl (G.2.1 0, 10, .inl (fun _ => 0)))] : va_W))) rfl
  refine zputF B hW hnm 0 rfl lf_X4_9 ft_X4_0 (fun C T N h => by have e := Option.some.inj h; cases e; rfl) rfl rfl (Nat.le_of_ble_eq_true rfl) dX4_init_9 (fun H locs hW => ?_)
  have hW := hW.eq (w' := ([(h, .inr (8, [.ref q_7, .null, .null, .null, .null, .null, .null, .null, .int 0, .long 0]))] : va_W) ++ (([(q_7, .inl (G.2.1 0, 10, .inl (fun _ => 0)))] : va_W))) rfl
  refine lv_aload_n hx hb dX4_init_12 rfl (lv_at hl 0 rfl) ?_
  refine lv_bipush (v := (10 : Int32)) hx hb dX4_init_13 (by decide) ?_
  refine znewi B hW 10 (by decide) (Nat.le_of_ble_eq_true rfl) (Nat.le_of_ble_eq_true rfl) (Nat.le_of_ble_eq_true rfl) dX4_init_15 (fun q_15 H hW => ?_)
  have hW := hW.eq (w' := ([(h, .inr (8, [.ref q_7, .null, .null, .null, .null, .null, .null, .null, .int 0, .long 0]))] : va_W) ++ (([(q_7, .inl (G.2.1 0, 10, .inl (fun _ => 0)))] : va_W) ++ (([(q_15, .inl (G.2.1 0, 10, .inl (fun _ => 0)))] : va_W)))) rfl
  refine zputF B hW hnm 0 rfl lf_X4_15 ft_X4_1 (fun C T N h => by have e := Option.some.inj h; cases e; rfl) rfl rfl (Nat.le_of_ble_eq_true rfl) dX4_init_17 (fun H locs hW => ?_)
  have hW := hW.eq (w' := ([(h, .inr (8, [.ref q_7, .ref q_15, .null, .null, .null, .null, .null, .null, .int 0, .long 0]))] : va_W) ++ (([(q_7, .inl (G.2.1 0, 10, .inl (fun _ => 0)))] : va_W) ++ (([(q_15, .inl (G.2.1 0, 10, .inl (fun _ => 0)))] : va_W)))) rfl
  refine lv_aload_n hx hb dX4_init_20 rfl (lv_at hl 0 rfl) ?_
  refine lv_bipush (v := (10 : Int32)) hx hb dX4_init_21 (by decide) ?_
  refine znewz B hW 10 (by decide) (Nat.le_of_ble_eq_true rfl) (Nat.le_of_ble_eq_true rfl) (Nat.le_of_ble_eq_true rfl) dX4_init_23 (fun q_23 H hW => ?_)
  have hW := hW.eq (w' := ([(h, .inr (8, [.ref q_7, .ref q_15, .null, .null, .null, .null, .null, .null, .int 0, .long 0]))] : va_W) ++ (([(q_7, .inl (G.2.1 0, 10, .inl (fun _ => 0)))] : va_W) ++ (([(q_15, .inl (G.2.1 0, 10, .inl (fun _ => 0)))] : va_W) ++ (([(q_23, .inl (G.2.1 1, 10, .inl (fun _ => 0)))] : va_W))))) rfl
  refine zputF B hW hnm 0 rfl lf_X4_18 ft_X4_2 (fun C T N h => by have e := Option.some.inj h; cases e; rfl) rfl rfl (Nat.le_of_ble_eq_true rfl) dX4_init_25 (fun H locs hW => ?_)
  have hW := hW.eq (w' := ([(h, .inr (8, [.ref q_7, .ref q_15, .ref q_23, .null, .null, .null, .null, .null, .int 0, .long 0]))] : va_W) ++ (([(q_7, .inl (G.2.1 0, 10, .inl (fun _ => 0)))] : va_W) ++ (([(q_15, .inl (G.2.1 0, 10, .inl (fun _ => 0)))] : va_W) ++ (([(q_23, .inl (G.2.1 1, 10, .inl (fun _ => 0)))] : va_W))))) rfl
  refine lv_aload_n hx hb dX4_init_28 rfl (lv_at hl 0 rfl) ?_
  refine lv_bipush (v := (10 : Int32)) hx hb dX4_init_29 (by decide) ?_
  refine znewi B hW 10 (by decide) (Nat.le_of_ble_eq_true rfl) (Nat.le_of_ble_eq_true rfl) (Nat.le_of_ble_eq_true rfl) dX4_init_31 (fun q_31 H hW => ?_)
  have hW := hW.eq (w' := ([(h, .inr (8, [.ref q_7, .ref q_15, .ref q_23, .null, .null, .null, .null, .null, .int 0, .long 0]))] : va_W) ++ (([(q_7, .inl (G.2.1 0, 10, .inl (fun _ => 0)))] : va_W) ++ (([(q_15, .inl (G.2.1 0, 10, .inl (fun _ => 0)))] : va_W) ++ (([(q_23, .inl (G.2.1 1, 10, .inl (fun _ => 0)))] : va_W) ++ (([(q_31, .inl (G.2.1 0, 10, .inl (fun _ => 0)))] : va_W)))))) rfl
  refine zputF B hW hnm 0 rfl lf_X4_22 ft_X4_3 (fun C T N h => by have e := Option.some.inj h; cases e; rfl) rfl rfl (Nat.le_of_ble_eq_true rfl) dX4_init_33 (fun H locs hW => ?_)
  have hW := hW.eq (w' := ([(h, .inr (8, [.ref q_7, .ref q_15, .ref q_23, .ref q_31, .null, .null, .null, .null, .int 0, .long 0]))] : va_W) ++ (([(q_7, .inl (G.2.1 0, 10, .inl (fun _ => 0)))] : va_W) ++ (([(q_15, .inl (G.2.1 0, 10, .inl (fun _ => 0)))] : va_W) ++ (([(q_23, .inl (G.2.1 1, 10, .inl (fun _ => 0)))] : va_W) ++ (([(q_31, .inl (G.2.1 0, 10, .inl (fun _ => 0)))] : va_W)))))) rfl
  refine lv_aload_n hx hb dX4_init_36 rfl (lv_at hl 0 rfl) ?_
  refine lv_bipush (v := (10 : Int32)) hx hb dX4_init_37 (by decide) ?_
  refine znewz B hW 10 (by decide) (Nat.le_of_ble_eq_true rfl) (Nat.le_of_ble_eq_true rfl) (Nat.le_of_ble_eq_true rfl) dX4_init_39 (fun q_39 H hW => ?_)
  have hW := hW.eq (w' := ([(h, .inr (8, [.ref q_7, .ref q_15, .ref q_23, .ref q_31, .null, .null, .null, .null, .int 0, .long 0]))] : va_W) ++ (([(q_7, .inl (G.2.1 0, 10, .inl (fun _ => 0)))] : va_W) ++ (([(q_15, .inl (G.2.1 0, 10, .inl (fun _ => 0)))] : va_W) ++ (([(q_23, .inl (G.2.1 1, 10, .inl (fun _ => 0)))] : va_W) ++ (([(q_31, .inl (G.2.1 0, 10, .inl (fun _ => 0)))] : va_W) ++ (([(q_39, .inl (G.2.1 1, 10, .inl (fun _ => 0)))] : va_W))))))) rfl
  refine zputF B hW hnm 0 rfl lf_X4_25 ft_X4_4 (fun C T N h => by have e := Option.some.inj h; cases e; rfl) rfl rfl (Nat.le_of_ble_eq_true rfl) dX4_init_41 (fun H locs hW => ?_)
  have hW := hW.eq (w' := ([(h, .inr (8, [.ref q_7, .ref q_15, .ref q_23, .ref q_31, .ref q_39, .null, .null, .null, .int 0, .long 0]))] : va_W) ++ (([(q_7, .inl (G.2.1 0, 10, .inl (fun _ => 0)))] : va_W) ++ (([(q_15, .inl (G.2.1 0, 10, .inl (fun _ => 0)))] : va_W) ++ (([(q_23, .inl (G.2.1 1, 10, .inl (fun _ => 0)))] : va_W) ++ (([(q_31, .inl (G.2.1 0, 10, .inl (fun _ => 0)))] : va_W) ++ (([(q_39, .inl (G.2.1 1, 10, .inl (fun _ => 0)))] : va_W))))))) rfl
  refine lv_aload_n hx hb dX4_init_44 rfl (lv_at hl 0 rfl) ?_
  refine lv_bipush (v := (10 : Int32)) hx hb dX4_init_45 (by decide) ?_
  refine znewi B hW 10 (by decide) (Nat.le_of_ble_eq_true rfl) (Nat.le_of_ble_eq_true rfl) (Nat.le_of_ble_eq_true rfl) dX4_init_47 (fun q_47 H hW => ?_)
  have hW := hW.eq (w' := ([(h, .inr (8, [.ref q_7, .ref q_15, .ref q_23, .ref q_31, .ref q_39, .null, .null, .null, .int 0, .long 0]))] : va_W) ++ (([(q_7, .inl (G.2.1 0, 10, .inl (fun _ => 0)))] : va_W) ++ (([(q_15, .inl (G.2.1 0, 10, .inl (fun _ => 0)))] : va_W) ++ (([(q_23, .inl (G.2.1 1, 10, .inl (fun _ => 0)))] : va_W) ++ (([(q_31, .inl (G.2.1 0, 10, .inl (fun _ => 0)))] : va_W) ++ (([(q_39, .inl (G.2.1 1, 10, .inl (fun _ => 0)))] : va_W) ++ (([(q_47, .inl (G.2.1 0, 10, .inl (fun _ => 0)))] : va_W)))))))) rfl
  refine zputF B hW hnm 0 rfl lf_X4_28 ft_X4_5 (fun C T N h => by have e := Option.some.inj h; cases e; rfl) rfl rfl (Nat.le_of_ble_eq_true rfl) dX4_init_49 (fun H locs hW => ?_)
  have hW := hW.eq (w' := ([(h, .inr (8, [.ref q_7, .ref q_15, .ref q_23, .ref q_31, .ref q_39, .ref q_47, .null, .null, .int 0, .long 0]))] : va_W) ++ (([(q_7, .inl (G.2.1 0, 10, .inl (fun _ => 0)))] : va_W) ++ (([(q_15, .inl (G.2.1 0, 10, .inl (fun _ => 0)))] : va_W) ++ (([(q_23, .inl (G.2.1 1, 10, .inl (fun _ => 0)))] : va_W) ++ (([(q_31, .inl (G.2.1 0, 10, .inl (fun _ => 0)))] : va_W) ++ (([(q_39, .inl (G.2.1 1, 10, .inl (fun _ => 0)))] : va_W) ++ (([(q_47, .inl (G.2.1 0, 10, .inl (fun _ => 0)))] : va_W)))))))) rfl
  refine lv_aload_n hx hb dX4_init_52 rfl (lv_at hl 0 rfl) ?_
  refine lv_bipush (v := (10 : Int32)) hx hb dX4_init_53 (by decide) ?_
  refine znewi B hW 10 (by decide) (Nat.le_of_ble_eq_true rfl) (Nat.le_of_ble_eq_true rfl) (Nat.le_of_ble_eq_true rfl) dX4_init_55 (fun q_55 H hW => ?_)
  have hW := hW.eq (w' := ([(h, .inr (8, [.ref q_7, .ref q_15, .ref q_23, .ref q_31, .ref q_39, .ref q_47, .null, .null, .int 0, .long 0]))] : va_W) ++ (([(q_7, .inl (G.2.1 0, 10, .inl (fun _ => 0)))] : va_W) ++ (([(q_15, .inl (G.2.1 0, 10, .inl (fun _ => 0)))] : va_W) ++ (([(q_23, .inl (G.2.1 1, 10, .inl (fun _ => 0)))] : va_W) ++ (([(q_31, .inl (G.2.1 0, 10, .inl (fun _ => 0)))] : va_W) ++ (([(q_39, .inl (G.2.1 1, 10, .inl (fun _ => 0)))] : va_W) ++ (([(q_47, .inl (G.2.1 0, 10, .inl (fun _ => 0)))] : va_W) ++ (([(q_55, .inl (G.2.1 0, 10, .inl (fun _ => 0)))] : va_W))))))))) rfl
  refine zputF B hW hnm 0 rfl lf_X4_31 ft_X4_6 (fun C T N h => by have e := Option.some.inj h; cases e; rfl) rfl rfl (Nat.le_of_ble_eq_true rfl) dX4_init_57 (fun H locs hW => ?_)
  have hW := hW.eq (w' := ([(h, .inr (8, [.ref q_7, .ref q_15, .ref q_23, .ref q_31, .ref q_39, .ref q_47, .ref q_55, .null, .int 0, .long 0]))] : va_W) ++ (([(q_7, .inl (G.2.1 0, 10, .inl (fun _ => 0)))] : va_W) ++ (([(q_15, .inl (G.2.1 0, 10, .inl (fun _ => 0)))] : va_W) ++ (([(q_23, .inl (G.2.1 1, 10, .inl (fun _ => 0)))] : va_W) ++ (([(q_31, .inl (G.2.1 0, 10, .inl (fun _ => 0)))] : va_W) ++ (([(q_39, .inl (G.2.1 1, 10, .inl (fun _ => 0)))] : va_W) ++ (([(q_47, .inl (G.2.1 0, 10, .inl (fun _ => 0)))] : va_W) ++ (([(q_55, .inl (G.2.1 0, 10, .inl (fun _ => 0)))] : va_W))))))))) rfl
  refine lv_aload_n hx hb dX4_init_60 rfl (lv_at hl 0 rfl) ?_
  refine lv_bipush (v := (10 : Int32)) hx hb dX4_init_61 (by decide) ?_
  refine znewi B hW 10 (by decide) (Nat.le_of_ble_eq_true rfl) (Nat.le_of_ble_eq_true rfl) (Nat.le_of_ble_eq_true rfl) dX4_init_63 (fun q_63 H hW => ?_)
  have hW := hW.eq (w' := ([(h, .inr (8, [.ref q_7, .ref q_15, .ref q_23, .ref q_31, .ref q_39, .ref q_47, .ref q_55, .null, .int 0, .long 0]))] : va_W) ++ (([(q_7, .inl (G.2.1 0, 10, .inl (fun _ => 0)))] : va_W) ++ (([(q_15, .inl (G.2.1 0, 10, .inl (fun _ => 0)))] : va_W) ++ (([(q_23, .inl (G.2.1 1, 10, .inl (fun _ => 0)))] : va_W) ++ (([(q_31, .inl (G.2.1 0, 10, .inl (fun _ => 0)))] : va_W) ++ (([(q_39, .inl (G.2.1 1, 10, .inl (fun _ => 0)))] : va_W) ++ (([(q_47, .inl (G.2.1 0, 10, .inl (fun _ => 0)))] : va_W) ++ (([(q_55, .inl (G.2.1 0, 10, .inl (fun _ => 0)))] : va_W) ++ (([(q_63, .inl (G.2.1 0, 10, .inl (fun _ => 0)))] : va_W)))))))))) rfl
  refine zputF B hW hnm 0 rfl lf_X4_34 ft_X4_7 (fun C T N h => by have e := Option.some.inj h; cases e; rfl) rfl rfl (Nat.le_of_ble_eq_true rfl) dX4_init_65 (fun H locs hW => ?_)
  have hW := hW.eq (w' := ([(h, .inr (8, [.ref q_7, .ref q_15, .ref q_23, .ref q_31, .ref q_39, .ref q_47, .ref q_55, .ref q_63, .int 0, .long 0]))] : va_W) ++ (([(q_7, .inl (G.2.1 0, 10, .inl (fun _ => 0)))] : va_W) ++ (([(q_15, .inl (G.2.1 0, 10, .inl (fun _ => 0)))] : va_W) ++ (([(q_23, .inl (G.2.1 1, 10, .inl (fun _ => 0)))] : va_W) ++ (([(q_31, .inl (G.2.1 0, 10, .inl (fun _ => 0)))] : va_W) ++ (([(q_39, .inl (G.2.1 1, 10, .inl (fun _ => 0)))] : va_W) ++ (([(q_47, .inl (G.2.1 0, 10, .inl (fun _ => 0)))] : va_W) ++ (([(q_55, .inl (G.2.1 0, 10, .inl (fun _ => 0)))] : va_W) ++ (([(q_63, .inl (G.2.1 0, 10, .inl (fun _ => 0)))] : va_W)))))))))) rfl
  refine lv_aload_n hx hb dX4_init_68 rfl (lv_at hl 0 rfl) ?_
  refine lv_iconst (v := (0 : Int32)) hx hb dX4_init_69 (by decide) ?_
  refine zput B hW 0 rfl lf_X4_37 ft_X4_8 rfl rfl (Nat.le_of_ble_eq_true rfl) dX4_init_70 (fun H locs hW => ?_)
  have hW := hW.eq (w' := ([(h, .inr (8, [.ref q_7, .ref q_15, .ref q_23, .ref q_31, .ref q_39, .ref q_47, .ref q_55, .ref q_63, .int (0 : Int32), .long 0]))] : va_W) ++ (([(q_7, .inl (G.2.1 0, 10, .inl (fun _ => 0)))] : va_W) ++ (([(q_15, .inl (G.2.1 0, 10, .inl (fun _ => 0)))] : va_W) ++ (([(q_23, .inl (G.2.1 1, 10, .inl (fun _ => 0)))] : va_W) ++ (([(q_31, .inl (G.2.1 0, 10, .inl (fun _ => 0)))] : va_W) ++ (([(q_39, .inl (G.2.1 1, 10, .inl (fun _ => 0)))] : va_W) ++ (([(q_47, .inl (G.2.1 0, 10, .inl (fun _ => 0)))] : va_W) ++ (([(q_55, .inl (G.2.1 0, 10, .inl (fun _ => 0)))] : va_W) ++ (([(q_63, .inl (G.2.1 0, 10, .inl (fun _ => 0)))] : va_W)))))))))) rfl
  refine lv_aload_n hx hb dX4_init_73 rfl (lv_at hl 0 rfl) ?_
  refine lv_lconst (v := (0 : Int64)) hx hb dX4_init_74 (by decide) ?_
  refine zput B hW 0 rfl lf_X4_41 ft_X4_9 rfl rfl (Nat.le_of_ble_eq_true rfl) dX4_init_75 (fun H locs hW => ?_)
  have hW := hW.eq (w' := ([(h, .inr (8, [.ref q_7, .ref q_15, .ref q_23, .ref q_31, .ref q_39, .ref q_47, .ref q_55, .ref q_63, .int (0 : Int32), .long (0 : Int64)]))] : va_W) ++ (([(q_7, .inl (G.2.1 0, 10, .inl (fun _ => 0)))] : va_W) ++ (([(q_15, .inl (G.2.1 0, 10, .inl (fun _ => 0)))] : va_W) ++ (([(q_23, .inl (G.2.1 1, 10, .inl (fun _ => 0)))] : va_W) ++ (([(q_31, .inl (G.2.1 0, 10, .inl (fun _ => 0)))] : va_W) ++ (([(q_39, .inl (G.2.1 1, 10, .inl (fun _ => 0)))] : va_W) ++ (([(q_47, .inl (G.2.1 0, 10, .inl (fun _ => 0)))] : va_W) ++ (([(q_55, .inl (G.2.1 0, 10, .inl (fun _ => 0)))] : va_W) ++ (([(q_63, .inl (G.2.1 0, 10, .inl (fun _ => 0)))] : va_W)))))))))) rfl
  have hW := hW.sub (w' := sensW G h (zads [q_7, q_15, q_23, q_31, q_39, q_47, q_55, q_63]) ((fun _ => 0), (fun _ => 0), (fun _ => 0), (fun _ => 0), (fun _ => 0), (fun _ => 0), (fun _ => 0), (fun _ => 0), (0 : Int32), (0 : Int64))) [0, 1, 2, 3, 4, 5, 6, 7, 8] rfl rfl
  exact zvret B hr hlk hW ⟨(zads [q_7, q_15, q_23, q_31, q_39, q_47, q_55, q_63]), rfl, rfl⟩ (Nat.le_of_ble_eq_true rfl) (Nat.le_of_ble_eq_true rfl) dX4_init_78
def i_X5_init : zSubs := ((fun _ => 0), (fun _ => 0), (fun _ => 0), (fun _ => 0), (fun _ => 0), (0 : Int32), (fun _ => 0), (fun _ => 0), (fun _ => 0), 0, 32, 32, 32)
abbrev po_X5_init (G : zG) (h : Nat) : Option Value → va_W → Prop := fun r u => ∃ (ad : Nat → Nat), r = none ∧ u = subW G h ad (i_X5_init)
set_option maxHeartbeats 4000000 in
set_option maxRecDepth 100000 in
theorem c_X5_init (l : Launch) (G : zG) (h : Nat) : zC l yX5_init cX5_init 1 none 1 8 156 G [.ref h] (([(h, .inr (9, [.null, .null, .null, .null, .null, .int 0, .null, .null, .null, .int 0]))] : va_W)) (po_X5_init G h) := by
  refine zC.of RX5 rfl (by decide) (Nat.le_of_ble_eq_true rfl) ?_
  intro p e s m args below meth c A ls B hr hlk hnm hW hl
  have hx := B.x
  have hb := B.b
  have hl : lv_has ls 1 [(0, .ref h)] := hl
  refine lv_aload_n hx hb dX5_init_0 rfl (lv_at hl 0 rfl) ?_
  refine zobj B hl.1 ml_X5_3 (Nat.le_of_ble_eq_true rfl) (Nat.le_of_ble_eq_true rfl) dX5_init_1 ?_
  refine lv_aload_n hx hb dX5_init_4 rfl (lv_at hl 0 rfl) ?_
  refine lv_bipush (v := (12 : Int32)) hx hb dX5_init_5 (by decide) ?_
  refine znewz B hW 12 (by decide) (Nat.le_of_ble_eq_true rfl) (Nat.le_of_ble_eq_true rfl) (Nat.le_of_ble_eq_true rfl) dX5_init_7 (fun q_7 H hW => ?_)
  have hW := hW.eq (w' := ([(h, .inr (9, [.null, .null, .null, .null, .null, .int 0, .null, .null, .null, .int 0]))] : va_W) ++ (([(q_7, .inl (G.2.1 1, 12, .inl (fun _ => 0)))] : va_W))) rfl
  refine zputF B hW hnm 0 rfl lf_X5_9 ft_X5_0 (fun C T N h => by have e := Option.some.inj h; cases e; rfl) rfl rfl (Nat.le_of_ble_eq_true rfl) dX5_init_9 (fun H locs hW => ?_)
  have hW := hW.eq (w' := ([(h, .inr (9, [.ref q_7, .null, .null, .null, .null, .int 0, .null, .null, .null, .int 0]))] : va_W) ++ (([(q_7, .inl (G.2.1 1, 12, .inl (fun _ => 0)))] : va_W))) rfl
  refine lv_aload_n hx hb dX5_init_12 rfl (lv_at hl 0 rfl) ?_
  refine lv_bipush (v := (12 : Int32)) hx hb dX5_init_13 (by decide) ?_
  refine znewi B hW 12 (by decide) (Nat.le_of_ble_eq_true rfl) (Nat.le_of_ble_eq_true rfl) (Nat.le_of_ble_eq_true rfl) dX5_init_15 (fun q_15 H hW => ?_)
  have hW := hW.eq (w' := ([(h, .inr (9, [.ref q_7, .null, .null, .null, .null, .int 0, .null, .null, .null, .int 0]))] : va_W) ++ (([(q_7, .inl (G.2.1 1, 12, .inl (fun _ => 0)))] : va_W) ++ (([(q_15, .inl (G.2.1 0, 12, .inl (fun _ => 0)))] : va_W)))) rfl
  refine zputF B hW hnm 0 rfl lf_X5_15 ft_X5_1 (fun C T N h => by have e := Option.some.inj h; cases e; rfl) rfl rfl (Nat.le_of_ble_eq_true rfl) dX5_init_17 (fun H locs hW => ?_)
  have hW := hW.eq (w' := ([(h, .inr (9, [.ref q_7, .ref q_15, .null, .null, .null, .int 0, .null, .null, .null, .int 0]))] : va_W) ++ (([(q_7, .inl (G.2.1 1, 12, .inl (fun _ => 0)))] : va_W) ++ (([(q_15, .inl (G.2.1 0, 12, .inl (fun _ => 0)))] : va_W)))) rfl
  refine lv_aload_n hx hb dX5_init_20 rfl (lv_at hl 0 rfl) ?_
  refine lv_bipush (v := (12 : Int32)) hx hb dX5_init_21 (by decide) ?_
  refine znewi B hW 12 (by decide) (Nat.le_of_ble_eq_true rfl) (Nat.le_of_ble_eq_true rfl) (Nat.le_of_ble_eq_true rfl) dX5_init_23 (fun q_23 H hW => ?_)
  have hW := hW.eq (w' := ([(h, .inr (9, [.ref q_7, .ref q_15, .null, .null, .null, .int 0, .null, .null, .null, .int 0]))] : va_W) ++ (([(q_7, .inl (G.2.1 1, 12, .inl (fun _ => 0)))] : va_W) ++ (([(q_15, .inl (G.2.1 0, 12, .inl (fun _ => 0)))] : va_W) ++ (([(q_23, .inl (G.2.1 0, 12, .inl (fun _ => 0)))] : va_W))))) rfl
  refine zputF B hW hnm 0 rfl lf_X5_19 ft_X5_2 (fun C T N h => by have e := Option.some.inj h; cases e; rfl) rfl rfl (Nat.le_of_ble_eq_true rfl) dX5_init_25 (fun H locs hW => ?_)
  have hW := hW.eq (w' := ([(h, .inr (9, [.ref q_7, .ref q_15, .ref q_23, .null, .null, .int 0, .null, .null, .null, .int 0]))] : va_W) ++ (([(q_7, .inl (G.2.1 1, 12, .inl (fun _ => 0)))] : va_W) ++ (([(q_15, .inl (G.2.1 0, 12, .inl (fun _ => 0)))] : va_W) ++ (([(q_23, .inl (G.2.1 0, 12, .inl (fun _ => 0)))] : va_W))))) rfl
  refine lv_aload_n hx hb dX5_init_28 rfl (lv_at hl 0 rfl) ?_
  refine lv_bipush (v := (12 : Int32)) hx hb dX5_init_29 (by decide) ?_
  refine znewi B hW 12 (by decide) (Nat.le_of_ble_eq_true rfl) (Nat.le_of_ble_eq_true rfl) (Nat.le_of_ble_eq_true rfl) dX5_init_31 (fun q_31 H hW => ?_)
  have hW := hW.eq (w' := ([(h, .inr (9, [.ref q_7, .ref q_15, .ref q_23, .null, .null, .int 0, .null, .null, .null, .int 0]))] : va_W) ++ (([(q_7, .inl (G.2.1 1, 12, .inl (fun _ => 0)))] : va_W) ++ (([(q_15, .inl (G.2.1 0, 12, .inl (fun _ => 0)))] : va_W) ++ (([(q_23, .inl (G.2.1 0, 12, .inl (fun _ => 0)))] : va_W) ++ (([(q_31, .inl (G.2.1 0, 12, .inl (fun _ => 0)))] : va_W)))))) rfl
  refine zputF B hW hnm 0 rfl lf_X5_22 ft_X5_3 (fun C T N h => by have e := Option.some.inj h; cases e; rfl) rfl rfl (Nat.le_of_ble_eq_true rfl) dX5_init_33 (fun H locs hW => ?_)
  have hW := hW.eq (w' := ([(h, .inr (9, [.ref q_7, .ref q_15, .ref q_23, .ref q_31, .null, .int 0, .null, .null, .null, .int 0]))] : va_W) ++ (([(q_7, .inl (G.2.1 1, 12, .inl (fun _ => 0)))] : va_W) ++ (([(q_15, .inl (G.2.1 0, 12, .inl (fun _ => 0)))] : va_W) ++ (([(q_23, .inl (G.2.1 0, 12, .inl (fun _ => 0)))] : va_W) ++ (([(q_31, .inl (G.2.1 0, 12, .inl (fun _ => 0)))] : va_W)))))) rfl
  refine lv_aload_n hx hb dX5_init_36 rfl (lv_at hl 0 rfl) ?_
  refine lv_bipush (v := (12 : Int32)) hx hb dX5_init_37 (by decide) ?_
  refine znewi B hW 12 (by decide) (Nat.le_of_ble_eq_true rfl) (Nat.le_of_ble_eq_true rfl) (Nat.le_of_ble_eq_true rfl) dX5_init_39 (fun q_39 H hW => ?_)
  have hW := hW.eq (w' := ([(h, .inr (9, [.ref q_7, .ref q_15, .ref q_23, .ref q_31, .null, .int 0, .null, .null, .null, .int 0]))] : va_W) ++ (([(q_7, .inl (G.2.1 1, 12, .inl (fun _ => 0)))] : va_W) ++ (([(q_15, .inl (G.2.1 0, 12, .inl (fun _ => 0)))] : va_W) ++ (([(q_23, .inl (G.2.1 0, 12, .inl (fun _ => 0)))] : va_W) ++ (([(q_31, .inl (G.2.1 0, 12, .inl (fun _ => 0)))] : va_W) ++ (([(q_39, .inl (G.2.1 0, 12, .inl (fun _ => 0)))] : va_W))))))) rfl
  refine zputF B hW hnm 0 rfl lf_X5_25 ft_X5_4 (fun C T N h => by have e := Option.some.inj h; cases e; rfl) rfl rfl (Nat.le_of_ble_eq_true rfl) dX5_init_41 (fun H locs hW => ?_)
  have hW := hW.eq (w' := ([(h, .inr (9, [.ref q_7, .ref q_15, .ref q_23, .ref q_31, .ref q_39, .int 0, .null, .null, .null, .int 0]))] : va_W) ++ (([(q_7, .inl (G.2.1 1, 12, .inl (fun _ => 0)))] : va_W) ++ (([(q_15, .inl (G.2.1 0, 12, .inl (fun _ => 0)))] : va_W) ++ (([(q_23, .inl (G.2.1 0, 12, .inl (fun _ => 0)))] : va_W) ++ (([(q_31, .inl (G.2.1 0, 12, .inl (fun _ => 0)))] : va_W) ++ (([(q_39, .inl (G.2.1 0, 12, .inl (fun _ => 0)))] : va_W))))))) rfl
  refine lv_aload_n hx hb dX5_init_44 rfl (lv_at hl 0 rfl) ?_
  refine lv_iconst (v := (0 : Int32)) hx hb dX5_init_45 (by decide) ?_
  refine zput B hW 0 rfl lf_X5_28 ft_X5_5 rfl rfl (Nat.le_of_ble_eq_true rfl) dX5_init_46 (fun H locs hW => ?_)
  have hW := hW.eq (w' := ([(h, .inr (9, [.ref q_7, .ref q_15, .ref q_23, .ref q_31, .ref q_39, .int (0 : Int32), .null, .null, .null, .int 0]))] : va_W) ++ (([(q_7, .inl (G.2.1 1, 12, .inl (fun _ => 0)))] : va_W) ++ (([(q_15, .inl (G.2.1 0, 12, .inl (fun _ => 0)))] : va_W) ++ (([(q_23, .inl (G.2.1 0, 12, .inl (fun _ => 0)))] : va_W) ++ (([(q_31, .inl (G.2.1 0, 12, .inl (fun _ => 0)))] : va_W) ++ (([(q_39, .inl (G.2.1 0, 12, .inl (fun _ => 0)))] : va_W))))))) rfl
  refine lv_aload_n hx hb dX5_init_49 rfl (lv_at hl 0 rfl) ?_
  refine lv_bipush (v := (32 : Int32)) hx hb dX5_init_50 (by decide) ?_
  refine znewi B hW 32 (by decide) (Nat.le_of_ble_eq_true rfl) (Nat.le_of_ble_eq_true rfl) (Nat.le_of_ble_eq_true rfl) dX5_init_52 (fun q_52 H hW => ?_)
  have hW := hW.eq (w' := ([(h, .inr (9, [.ref q_7, .ref q_15, .ref q_23, .ref q_31, .ref q_39, .int (0 : Int32), .null, .null, .null, .int 0]))] : va_W) ++ (([(q_7, .inl (G.2.1 1, 12, .inl (fun _ => 0)))] : va_W) ++ (([(q_15, .inl (G.2.1 0, 12, .inl (fun _ => 0)))] : va_W) ++ (([(q_23, .inl (G.2.1 0, 12, .inl (fun _ => 0)))] : va_W) ++ (([(q_31, .inl (G.2.1 0, 12, .inl (fun _ => 0)))] : va_W) ++ (([(q_39, .inl (G.2.1 0, 12, .inl (fun _ => 0)))] : va_W) ++ (([(q_52, .inl (G.2.1 0, 32, .inl (fun _ => 0)))] : va_W)))))))) rfl
  refine zput B hW 0 rfl lf_X5_32 ft_X5_6 rfl rfl (Nat.le_of_ble_eq_true rfl) dX5_init_54 (fun H locs hW => ?_)
  have hW := hW.eq (w' := ([(h, .inr (9, [.ref q_7, .ref q_15, .ref q_23, .ref q_31, .ref q_39, .int (0 : Int32), .ref q_52, .null, .null, .int 0]))] : va_W) ++ (([(q_7, .inl (G.2.1 1, 12, .inl (fun _ => 0)))] : va_W) ++ (([(q_15, .inl (G.2.1 0, 12, .inl (fun _ => 0)))] : va_W) ++ (([(q_23, .inl (G.2.1 0, 12, .inl (fun _ => 0)))] : va_W) ++ (([(q_31, .inl (G.2.1 0, 12, .inl (fun _ => 0)))] : va_W) ++ (([(q_39, .inl (G.2.1 0, 12, .inl (fun _ => 0)))] : va_W) ++ (([(q_52, .inl (G.2.1 0, 32, .inl (fun _ => 0)))] : va_W)))))))) rfl
  refine lv_aload_n hx hb dX5_init_57 rfl (lv_at hl 0 rfl) ?_
  refine lv_bipush (v := (32 : Int32)) hx hb dX5_init_58 (by decide) ?_
  refine znewi B hW 32 (by decide) (Nat.le_of_ble_eq_true rfl) (Nat.le_of_ble_eq_true rfl) (Nat.le_of_ble_eq_true rfl) dX5_init_60 (fun q_60 H hW => ?_)
  have hW := hW.eq (w' := ([(h, .inr (9, [.ref q_7, .ref q_15, .ref q_23, .ref q_31, .ref q_39, .int (0 : Int32), .ref q_52, .null, .null, .int 0]))] : va_W) ++ (([(q_7, .inl (G.2.1 1, 12, .inl (fun _ => 0)))] : va_W) ++ (([(q_15, .inl (G.2.1 0, 12, .inl (fun _ => 0)))] : va_W) ++ (([(q_23, .inl (G.2.1 0, 12, .inl (fun _ => 0)))] : va_W) ++ (([(q_31, .inl (G.2.1 0, 12, .inl (fun _ => 0)))] : va_W) ++ (([(q_39, .inl (G.2.1 0, 12, .inl (fun _ => 0)))] : va_W) ++ (([(q_52, .inl (G.2.1 0, 32, .inl (fun _ => 0)))] : va_W) ++ (([(q_60, .inl (G.2.1 0, 32, .inl (fun _ => 0)))] : va_W))))))))) rfl
  refine zput B hW 0 rfl lf_X5_35 ft_X5_7 rfl rfl (Nat.le_of_ble_eq_true rfl) dX5_init_62 (fun H locs hW => ?_)
  have hW := hW.eq (w' := ([(h, .inr (9, [.ref q_7, .ref q_15, .ref q_23, .ref q_31, .ref q_39, .int (0 : Int32), .ref q_52, .ref q_60, .null, .int 0]))] : va_W) ++ (([(q_7, .inl (G.2.1 1, 12, .inl (fun _ => 0)))] : va_W) ++ (([(q_15, .inl (G.2.1 0, 12, .inl (fun _ => 0)))] : va_W) ++ (([(q_23, .inl (G.2.1 0, 12, .inl (fun _ => 0)))] : va_W) ++ (([(q_31, .inl (G.2.1 0, 12, .inl (fun _ => 0)))] : va_W) ++ (([(q_39, .inl (G.2.1 0, 12, .inl (fun _ => 0)))] : va_W) ++ (([(q_52, .inl (G.2.1 0, 32, .inl (fun _ => 0)))] : va_W) ++ (([(q_60, .inl (G.2.1 0, 32, .inl (fun _ => 0)))] : va_W))))))))) rfl
  refine lv_aload_n hx hb dX5_init_65 rfl (lv_at hl 0 rfl) ?_
  refine lv_bipush (v := (32 : Int32)) hx hb dX5_init_66 (by decide) ?_
  refine znewi B hW 32 (by decide) (Nat.le_of_ble_eq_true rfl) (Nat.le_of_ble_eq_true rfl) (Nat.le_of_ble_eq_true rfl) dX5_init_68 (fun q_68 H hW => ?_)
  have hW := hW.eq (w' := ([(h, .inr (9, [.ref q_7, .ref q_15, .ref q_23, .ref q_31, .ref q_39, .int (0 : Int32), .ref q_52, .ref q_60, .null, .int 0]))] : va_W) ++ (([(q_7, .inl (G.2.1 1, 12, .inl (fun _ => 0)))] : va_W) ++ (([(q_15, .inl (G.2.1 0, 12, .inl (fun _ => 0)))] : va_W) ++ (([(q_23, .inl (G.2.1 0, 12, .inl (fun _ => 0)))] : va_W) ++ (([(q_31, .inl (G.2.1 0, 12, .inl (fun _ => 0)))] : va_W) ++ (([(q_39, .inl (G.2.1 0, 12, .inl (fun _ => 0)))] : va_W) ++ (([(q_52, .inl (G.2.1 0, 32, .inl (fun _ => 0)))] : va_W) ++ (([(q_60, .inl (G.2.1 0, 32, .inl (fun _ => 0)))] : va_W) ++ (([(q_68, .inl (G.2.1 0, 32, .inl (fun _ => 0)))] : va_W)))))))))) rfl
  refine zput B hW 0 rfl lf_X5_38 ft_X5_8 rfl rfl (Nat.le_of_ble_eq_true rfl) dX5_init_70 (fun H locs hW => ?_)
  have hW := hW.eq (w' := ([(h, .inr (9, [.ref q_7, .ref q_15, .ref q_23, .ref q_31, .ref q_39, .int (0 : Int32), .ref q_52, .ref q_60, .ref q_68, .int 0]))] : va_W) ++ (([(q_7, .inl (G.2.1 1, 12, .inl (fun _ => 0)))] : va_W) ++ (([(q_15, .inl (G.2.1 0, 12, .inl (fun _ => 0)))] : va_W) ++ (([(q_23, .inl (G.2.1 0, 12, .inl (fun _ => 0)))] : va_W) ++ (([(q_31, .inl (G.2.1 0, 12, .inl (fun _ => 0)))] : va_W) ++ (([(q_39, .inl (G.2.1 0, 12, .inl (fun _ => 0)))] : va_W) ++ (([(q_52, .inl (G.2.1 0, 32, .inl (fun _ => 0)))] : va_W) ++ (([(q_60, .inl (G.2.1 0, 32, .inl (fun _ => 0)))] : va_W) ++ (([(q_68, .inl (G.2.1 0, 32, .inl (fun _ => 0)))] : va_W)))))))))) rfl
  refine lv_aload_n hx hb dX5_init_73 rfl (lv_at hl 0 rfl) ?_
  refine lv_iconst (v := (0 : Int32)) hx hb dX5_init_74 (by decide) ?_
  refine zput B hW 0 rfl lf_X5_41 ft_X5_9 rfl rfl (Nat.le_of_ble_eq_true rfl) dX5_init_75 (fun H locs hW => ?_)
  have hW := hW.eq (w' := ([(h, .inr (9, [.ref q_7, .ref q_15, .ref q_23, .ref q_31, .ref q_39, .int (0 : Int32), .ref q_52, .ref q_60, .ref q_68, .int (0 : Int32)]))] : va_W) ++ (([(q_7, .inl (G.2.1 1, 12, .inl (fun _ => 0)))] : va_W) ++ (([(q_15, .inl (G.2.1 0, 12, .inl (fun _ => 0)))] : va_W) ++ (([(q_23, .inl (G.2.1 0, 12, .inl (fun _ => 0)))] : va_W) ++ (([(q_31, .inl (G.2.1 0, 12, .inl (fun _ => 0)))] : va_W) ++ (([(q_39, .inl (G.2.1 0, 12, .inl (fun _ => 0)))] : va_W) ++ (([(q_52, .inl (G.2.1 0, 32, .inl (fun _ => 0)))] : va_W) ++ (([(q_60, .inl (G.2.1 0, 32, .inl (fun _ => 0)))] : va_W) ++ (([(q_68, .inl (G.2.1 0, 32, .inl (fun _ => 0)))] : va_W)))))))))) rfl
  have hW := hW.sub (w' := subW G h (zads [q_7, q_15, q_23, q_31, q_39, q_52, q_60, q_68]) ((fun _ => 0), (fun _ => 0), (fun _ => 0), (fun _ => 0), (fun _ => 0), (0 : Int32), (fun _ => 0), (fun _ => 0), (fun _ => 0), 0, 32, 32, 32)) [0, 1, 2, 3, 4, 5, 6, 7, 8] rfl rfl
  exact zvret B hr hlk hW ⟨(zads [q_7, q_15, q_23, q_31, q_39, q_52, q_60, q_68]), rfl, rfl⟩ (Nat.le_of_ble_eq_true rfl) (Nat.le_of_ble_eq_true rfl) dX5_init_78
def i_X6_init : zWor := (0 : Int32)
abbrev po_X6_init (G : zG) (h : Nat) : Option Value → va_W → Prop := fun r u => ∃ (ad adl ado ada ads adu adc : Nat → Nat), r = none ∧ u = worW G h ad (i_X6_init) ++ (landW G (ad 0) adl (i_X1_init) ++ (outW G (ad 1) ado (i_X2_init) ++ (landW G (ado 0) ada (i_X1_init) ++ (sensW G (ad 2) ads (i_X4_init) ++ (subW G (ad 3) adu (i_X5_init) ++ (schW G (ad 4) adc (i_X3_init)))))))
set_option maxHeartbeats 4000000 in
set_option maxRecDepth 100000 in
theorem c_X6_init (l : Launch) (G : zG) (h : Nat) : zC l yX6_init cX6_init 1 none 3 40 849 G [.ref h] (([(h, .inr (10, [.null, .null, .null, .null, .null, .int 0]))] : va_W)) (po_X6_init G h) := by
  refine zC.of RX6 rfl (by decide) (Nat.le_of_ble_eq_true rfl) ?_
  intro p e s m args below meth c A ls B hr hlk hnm hW hl
  have hx := B.x
  have hb := B.b
  have hl : lv_has ls 1 [(0, .ref h)] := hl
  refine lv_aload_n hx hb dX6_init_0 rfl (lv_at hl 0 rfl) ?_
  refine zobj B hl.1 ml_X6_3 (Nat.le_of_ble_eq_true rfl) (Nat.le_of_ble_eq_true rfl) dX6_init_1 ?_
  refine lv_aload_n hx hb dX6_init_4 rfl (lv_at hl 0 rfl) ?_
  refine znew B hW 5 14 tyX1 rfl in_X1 tyX1_ok kl_X6_9 ki_X1 kz_X1 rfl (Nat.le_of_ble_eq_true rfl) (Nat.le_of_ble_eq_true rfl) dX6_init_5 (fun q_5 H hW => ?_)
  have hW := hW.eq (w' := ([(h, .inr (10, [.null, .null, .null, .null, .null, .int 0]))] : va_W) ++ (([(q_5, .inr (5, [.null, .null, .null, .null, .null, .null, .null, .int 0, .int 0, .int 0, .int 0, .long 0, .long 0, .long 0]))] : va_W))) rfl
  refine lv_dup hx hb dX6_init_8 rfl ?_
  have hW := hW.sub (w' := ([(q_5, .inr (5, [.null, .null, .null, .null, .null, .null, .null, .int 0, .int 0, .int 0, .int 0, .long 0, .long 0, .long 0]))] : va_W) ++ (([(h, .inr (10, [.null, .null, .null, .null, .null, .int 0]))] : va_W))) [1, 0] rfl rfl
  refine zcI (w1 := []) (wc := ([(q_5, .inr (5, [.null, .null, .null, .null, .null, .null, .null, .int 0, .int 0, .int 0, .int 0, .long 0, .long 0, .long 0]))] : va_W)) (w2 := ([(h, .inr (10, [.null, .null, .null, .null, .null, .int 0]))] : va_W)) (As := []) B (hW.eq rfl) (c_X1_init l G q_5) yd_X1_init ml_X6_11 rfl hl.1 rfl (Nat.le_of_ble_eq_true rfl) ⟨Nat.le_of_ble_eq_true rfl, Nat.le_of_ble_eq_true rfl⟩ ⟨(Nat.le_of_ble_eq_true rfl), (Nat.le_of_ble_eq_true rfl)⟩ dX6_init_9 (fun v u H locs hp hW => ?_)
  obtain ⟨ad0_9, rfl, rfl⟩ := hp
  have hW := hW.eq (w' := landW G q_5 ad0_9 (i_X1_init) ++ (([(h, .inr (10, [.null, .null, .null, .null, .null, .int 0]))] : va_W))) rfl
  refine zputF B hW hnm 8 rfl lf_X6_12 ft_X6_0 (fun C T N h => by have e := Option.some.inj h; cases e; rfl) rfl rfl (Nat.le_of_ble_eq_true rfl) dX6_init_12 (fun H locs hW => ?_)
  have hW := hW.eq (w' := landW G q_5 ad0_9 (i_X1_init) ++ (([(h, .inr (10, [.ref q_5, .null, .null, .null, .null, .int 0]))] : va_W))) rfl
  refine lv_aload_n hx hb dX6_init_15 rfl (lv_at hl 0 rfl) ?_
  refine znew B hW 6 2 tyX2 rfl in_X2 tyX2_ok kl_X6_18 ki_X2 kz_X2 rfl (Nat.le_of_ble_eq_true rfl) (Nat.le_of_ble_eq_true rfl) dX6_init_16 (fun q_16 H hW => ?_)
  have hW := hW.eq (w' := landW G q_5 ad0_9 (i_X1_init) ++ (([(h, .inr (10, [.ref q_5, .null, .null, .null, .null, .int 0]))] : va_W) ++ (([(q_16, .inr (6, [.null, .null]))] : va_W)))) rfl
  refine lv_dup hx hb dX6_init_19 rfl ?_
  have hW := hW.sub (w' := ([(q_16, .inr (6, [.null, .null]))] : va_W) ++ (landW G q_5 ad0_9 (i_X1_init) ++ (([(h, .inr (10, [.ref q_5, .null, .null, .null, .null, .int 0]))] : va_W)))) [9, 0, 1, 2, 3, 4, 5, 6, 7, 8] rfl rfl
  refine zcIN (w1 := []) (wc := ([(q_16, .inr (6, [.null, .null]))] : va_W)) (w2 := landW G q_5 ad0_9 (i_X1_init) ++ (([(h, .inr (10, [.ref q_5, .null, .null, .null, .null, .int 0]))] : va_W))) (As := []) B (hW.eq rfl) (c_X2_init l G q_16) yd_X2_init ml_X6_20 rfl hl.1 rfl (Nat.le_of_ble_eq_true rfl) ⟨Nat.le_of_ble_eq_true rfl, Nat.le_of_ble_eq_true rfl⟩ ⟨(Nat.le_of_ble_eq_true rfl), (Nat.le_of_ble_eq_true rfl)⟩ dX6_init_20 (fun v u H locs hp hW => ?_)
  obtain ⟨ad0_20, ad1_20, rfl, rfl⟩ := hp
  have hW := hW.eq (w' := outW G q_16 ad0_20 (i_X2_init) ++ (landW G (ad0_20 0) ad1_20 (i_X1_init) ++ (landW G q_5 ad0_9 (i_X1_init) ++ (([(h, .inr (10, [.ref q_5, .null, .null, .null, .null, .int 0]))] : va_W))))) rfl
  refine zputF B hW hnm 18 rfl lf_X6_21 ft_X6_1 (fun C T N h => by have e := Option.some.inj h; cases e; rfl) rfl rfl (Nat.le_of_ble_eq_true rfl) dX6_init_23 (fun H locs hW => ?_)
  have hW := hW.eq (w' := outW G q_16 ad0_20 (i_X2_init) ++ (landW G (ad0_20 0) ad1_20 (i_X1_init) ++ (landW G q_5 ad0_9 (i_X1_init) ++ (([(h, .inr (10, [.ref q_5, .ref q_16, .null, .null, .null, .int 0]))] : va_W))))) rfl
  refine lv_aload_n hx hb dX6_init_26 rfl (lv_at hl 0 rfl) ?_
  refine znew B hW 8 10 tyX4 rfl in_X4 tyX4_ok kl_X6_25 ki_X4 kz_X4 rfl (Nat.le_of_ble_eq_true rfl) (Nat.le_of_ble_eq_true rfl) dX6_init_27 (fun q_27 H hW => ?_)
  have hW := hW.eq (w' := outW G q_16 ad0_20 (i_X2_init) ++ (landW G (ad0_20 0) ad1_20 (i_X1_init) ++ (landW G q_5 ad0_9 (i_X1_init) ++ (([(h, .inr (10, [.ref q_5, .ref q_16, .null, .null, .null, .int 0]))] : va_W) ++ (([(q_27, .inr (8, [.null, .null, .null, .null, .null, .null, .null, .null, .int 0, .long 0]))] : va_W)))))) rfl
  refine lv_dup hx hb dX6_init_30 rfl ?_
  have hW := hW.sub (w' := ([(q_27, .inr (8, [.null, .null, .null, .null, .null, .null, .null, .null, .int 0, .long 0]))] : va_W) ++ (outW G q_16 ad0_20 (i_X2_init) ++ (landW G (ad0_20 0) ad1_20 (i_X1_init) ++ (landW G q_5 ad0_9 (i_X1_init) ++ (([(h, .inr (10, [.ref q_5, .ref q_16, .null, .null, .null, .int 0]))] : va_W)))))) [19, 0, 1, 2, 3, 4, 5, 6, 7, 8, 9, 10, 11, 12, 13, 14, 15, 16, 17, 18] rfl rfl
  refine zcIN (w1 := []) (wc := ([(q_27, .inr (8, [.null, .null, .null, .null, .null, .null, .null, .null, .int 0, .long 0]))] : va_W)) (w2 := outW G q_16 ad0_20 (i_X2_init) ++ (landW G (ad0_20 0) ad1_20 (i_X1_init) ++ (landW G q_5 ad0_9 (i_X1_init) ++ (([(h, .inr (10, [.ref q_5, .ref q_16, .null, .null, .null, .int 0]))] : va_W))))) (As := []) B (hW.eq rfl) (c_X4_init l G q_27) yd_X4_init ml_X6_27 rfl hl.1 rfl (Nat.le_of_ble_eq_true rfl) ⟨Nat.le_of_ble_eq_true rfl, Nat.le_of_ble_eq_true rfl⟩ ⟨(Nat.le_of_ble_eq_true rfl), (Nat.le_of_ble_eq_true rfl)⟩ dX6_init_31 (fun v u H locs hp hW => ?_)
  obtain ⟨ad0_31, rfl, rfl⟩ := hp
  have hW := hW.eq (w' := sensW G q_27 ad0_31 (i_X4_init) ++ (outW G q_16 ad0_20 (i_X2_init) ++ (landW G (ad0_20 0) ad1_20 (i_X1_init) ++ (landW G q_5 ad0_9 (i_X1_init) ++ (([(h, .inr (10, [.ref q_5, .ref q_16, .null, .null, .null, .int 0]))] : va_W)))))) rfl
  refine zputF B hW hnm 27 rfl lf_X6_28 ft_X6_2 (fun C T N h => by have e := Option.some.inj h; cases e; rfl) rfl rfl (Nat.le_of_ble_eq_true rfl) dX6_init_34 (fun H locs hW => ?_)
  have hW := hW.eq (w' := sensW G q_27 ad0_31 (i_X4_init) ++ (outW G q_16 ad0_20 (i_X2_init) ++ (landW G (ad0_20 0) ad1_20 (i_X1_init) ++ (landW G q_5 ad0_9 (i_X1_init) ++ (([(h, .inr (10, [.ref q_5, .ref q_16, .ref q_27, .null, .null, .int 0]))] : va_W)))))) rfl
  refine lv_aload_n hx hb dX6_init_37 rfl (lv_at hl 0 rfl) ?_
  refine znew B hW 9 10 tyX5 rfl in_X5 tyX5_ok kl_X6_32 ki_X5 kz_X5 rfl (Nat.le_of_ble_eq_true rfl) (Nat.le_of_ble_eq_true rfl) dX6_init_38 (fun q_38 H hW => ?_)
  have hW := hW.eq (w' := sensW G q_27 ad0_31 (i_X4_init) ++ (outW G q_16 ad0_20 (i_X2_init) ++ (landW G (ad0_20 0) ad1_20 (i_X1_init) ++ (landW G q_5 ad0_9 (i_X1_init) ++ (([(h, .inr (10, [.ref q_5, .ref q_16, .ref q_27, .null, .null, .int 0]))] : va_W) ++ (([(q_38, .inr (9, [.null, .null, .null, .null, .null, .int 0, .null, .null, .null, .int 0]))] : va_W))))))) rfl
  refine lv_dup hx hb dX6_init_41 rfl ?_
  have hW := hW.sub (w' := ([(q_38, .inr (9, [.null, .null, .null, .null, .null, .int 0, .null, .null, .null, .int 0]))] : va_W) ++ (sensW G q_27 ad0_31 (i_X4_init) ++ (outW G q_16 ad0_20 (i_X2_init) ++ (landW G (ad0_20 0) ad1_20 (i_X1_init) ++ (landW G q_5 ad0_9 (i_X1_init) ++ (([(h, .inr (10, [.ref q_5, .ref q_16, .ref q_27, .null, .null, .int 0]))] : va_W))))))) [28, 0, 1, 2, 3, 4, 5, 6, 7, 8, 9, 10, 11, 12, 13, 14, 15, 16, 17, 18, 19, 20, 21, 22, 23, 24, 25, 26, 27] rfl rfl
  refine zcIN (w1 := []) (wc := ([(q_38, .inr (9, [.null, .null, .null, .null, .null, .int 0, .null, .null, .null, .int 0]))] : va_W)) (w2 := sensW G q_27 ad0_31 (i_X4_init) ++ (outW G q_16 ad0_20 (i_X2_init) ++ (landW G (ad0_20 0) ad1_20 (i_X1_init) ++ (landW G q_5 ad0_9 (i_X1_init) ++ (([(h, .inr (10, [.ref q_5, .ref q_16, .ref q_27, .null, .null, .int 0]))] : va_W)))))) (As := []) B (hW.eq rfl) (c_X5_init l G q_38) yd_X5_init ml_X6_34 rfl hl.1 rfl (Nat.le_of_ble_eq_true rfl) ⟨Nat.le_of_ble_eq_true rfl, Nat.le_of_ble_eq_true rfl⟩ ⟨(Nat.le_of_ble_eq_true rfl), (Nat.le_of_ble_eq_true rfl)⟩ dX6_init_42 (fun v u H locs hp hW => ?_)
  obtain ⟨ad0_42, rfl, rfl⟩ := hp
  have hW := hW.eq (w' := subW G q_38 ad0_42 (i_X5_init) ++ (sensW G q_27 ad0_31 (i_X4_init) ++ (outW G q_16 ad0_20 (i_X2_init) ++ (landW G (ad0_20 0) ad1_20 (i_X1_init) ++ (landW G q_5 ad0_9 (i_X1_init) ++ (([(h, .inr (10, [.ref q_5, .ref q_16, .ref q_27, .null, .null, .int 0]))] : va_W))))))) rfl
  refine zputF B hW hnm 36 rfl lf_X6_35 ft_X6_3 (fun C T N h => by have e := Option.some.inj h; cases e; rfl) rfl rfl (Nat.le_of_ble_eq_true rfl) dX6_init_45 (fun H locs hW => ?_)
  have hW := hW.eq (w' := subW G q_38 ad0_42 (i_X5_init) ++ (sensW G q_27 ad0_31 (i_X4_init) ++ (outW G q_16 ad0_20 (i_X2_init) ++ (landW G (ad0_20 0) ad1_20 (i_X1_init) ++ (landW G q_5 ad0_9 (i_X1_init) ++ (([(h, .inr (10, [.ref q_5, .ref q_16, .ref q_27, .ref q_38, .null, .int 0]))] : va_W))))))) rfl
  refine lv_aload_n hx hb dX6_init_48 rfl (lv_at hl 0 rfl) ?_
  refine znew B hW 7 5 tyX3 rfl in_X3 tyX3_ok kl_X6_39 ki_X3 kz_X3 rfl (Nat.le_of_ble_eq_true rfl) (Nat.le_of_ble_eq_true rfl) dX6_init_49 (fun q_49 H hW => ?_)
  have hW := hW.eq (w' := subW G q_38 ad0_42 (i_X5_init) ++ (sensW G q_27 ad0_31 (i_X4_init) ++ (outW G q_16 ad0_20 (i_X2_init) ++ (landW G (ad0_20 0) ad1_20 (i_X1_init) ++ (landW G q_5 ad0_9 (i_X1_init) ++ (([(h, .inr (10, [.ref q_5, .ref q_16, .ref q_27, .ref q_38, .null, .int 0]))] : va_W) ++ (([(q_49, .inr (7, [.null, .null, .null, .int 0, .int 0]))] : va_W)))))))) rfl
  refine lv_dup hx hb dX6_init_52 rfl ?_
  have hW := hW.sub (w' := ([(q_49, .inr (7, [.null, .null, .null, .int 0, .int 0]))] : va_W) ++ (subW G q_38 ad0_42 (i_X5_init) ++ (sensW G q_27 ad0_31 (i_X4_init) ++ (outW G q_16 ad0_20 (i_X2_init) ++ (landW G (ad0_20 0) ad1_20 (i_X1_init) ++ (landW G q_5 ad0_9 (i_X1_init) ++ (([(h, .inr (10, [.ref q_5, .ref q_16, .ref q_27, .ref q_38, .null, .int 0]))] : va_W)))))))) [37, 0, 1, 2, 3, 4, 5, 6, 7, 8, 9, 10, 11, 12, 13, 14, 15, 16, 17, 18, 19, 20, 21, 22, 23, 24, 25, 26, 27, 28, 29, 30, 31, 32, 33, 34, 35, 36] rfl rfl
  refine zcIN (w1 := []) (wc := ([(q_49, .inr (7, [.null, .null, .null, .int 0, .int 0]))] : va_W)) (w2 := subW G q_38 ad0_42 (i_X5_init) ++ (sensW G q_27 ad0_31 (i_X4_init) ++ (outW G q_16 ad0_20 (i_X2_init) ++ (landW G (ad0_20 0) ad1_20 (i_X1_init) ++ (landW G q_5 ad0_9 (i_X1_init) ++ (([(h, .inr (10, [.ref q_5, .ref q_16, .ref q_27, .ref q_38, .null, .int 0]))] : va_W))))))) (As := []) B (hW.eq rfl) (c_X3_init l G q_49) yd_X3_init ml_X6_41 rfl hl.1 rfl (Nat.le_of_ble_eq_true rfl) ⟨Nat.le_of_ble_eq_true rfl, Nat.le_of_ble_eq_true rfl⟩ ⟨(Nat.le_of_ble_eq_true rfl), (Nat.le_of_ble_eq_true rfl)⟩ dX6_init_53 (fun v u H locs hp hW => ?_)
  obtain ⟨ad0_53, rfl, rfl⟩ := hp
  have hW := hW.eq (w' := schW G q_49 ad0_53 (i_X3_init) ++ (subW G q_38 ad0_42 (i_X5_init) ++ (sensW G q_27 ad0_31 (i_X4_init) ++ (outW G q_16 ad0_20 (i_X2_init) ++ (landW G (ad0_20 0) ad1_20 (i_X1_init) ++ (landW G q_5 ad0_9 (i_X1_init) ++ (([(h, .inr (10, [.ref q_5, .ref q_16, .ref q_27, .ref q_38, .null, .int 0]))] : va_W)))))))) rfl
  refine zputF B hW hnm 40 rfl lf_X6_42 ft_X6_4 (fun C T N h => by have e := Option.some.inj h; cases e; rfl) rfl rfl (Nat.le_of_ble_eq_true rfl) dX6_init_56 (fun H locs hW => ?_)
  have hW := hW.eq (w' := schW G q_49 ad0_53 (i_X3_init) ++ (subW G q_38 ad0_42 (i_X5_init) ++ (sensW G q_27 ad0_31 (i_X4_init) ++ (outW G q_16 ad0_20 (i_X2_init) ++ (landW G (ad0_20 0) ad1_20 (i_X1_init) ++ (landW G q_5 ad0_9 (i_X1_init) ++ (([(h, .inr (10, [.ref q_5, .ref q_16, .ref q_27, .ref q_38, .ref q_49, .int 0]))] : va_W)))))))) rfl
  refine lv_aload_n hx hb dX6_init_59 rfl (lv_at hl 0 rfl) ?_
  refine lv_iconst (v := (0 : Int32)) hx hb dX6_init_60 (by decide) ?_
  refine zput B hW 40 rfl lf_X6_46 ft_X6_5 rfl rfl (Nat.le_of_ble_eq_true rfl) dX6_init_61 (fun H locs hW => ?_)
  have hW := hW.eq (w' := schW G q_49 ad0_53 (i_X3_init) ++ (subW G q_38 ad0_42 (i_X5_init) ++ (sensW G q_27 ad0_31 (i_X4_init) ++ (outW G q_16 ad0_20 (i_X2_init) ++ (landW G (ad0_20 0) ad1_20 (i_X1_init) ++ (landW G q_5 ad0_9 (i_X1_init) ++ (([(h, .inr (10, [.ref q_5, .ref q_16, .ref q_27, .ref q_38, .ref q_49, .int (0 : Int32)]))] : va_W)))))))) rfl
  have hW := hW.sub (w' := schW G q_49 ad0_53 (i_X3_init) ++ (subW G q_38 ad0_42 (i_X5_init) ++ (sensW G q_27 ad0_31 (i_X4_init) ++ (outW G q_16 ad0_20 (i_X2_init) ++ (landW G (ad0_20 0) ad1_20 (i_X1_init) ++ (landW G q_5 ad0_9 (i_X1_init) ++ (worW G h (zads [q_5, q_16, q_27, q_38, q_49]) (0 : Int32)))))))) [0, 1, 2, 3, 4, 5, 6, 7, 8, 9, 10, 11, 12, 13, 14, 15, 16, 17, 18, 19, 20, 21, 22, 23, 24, 25, 26, 27, 28, 29, 30, 31, 32, 33, 34, 35, 36, 37, 38, 39, 40] rfl rfl
  have hW := hW.sub (w' := worW G h (zads [q_5, q_16, q_27, q_38, q_49]) (0 : Int32) ++ (landW G q_5 ad0_9 (i_X1_init) ++ (outW G q_16 ad0_20 (i_X2_init) ++ (landW G (ad0_20 0) ad1_20 (i_X1_init) ++ (sensW G q_27 ad0_31 (i_X4_init) ++ (subW G q_38 ad0_42 (i_X5_init) ++ (schW G q_49 ad0_53 (i_X3_init)))))))) [40, 32, 33, 34, 35, 36, 37, 38, 39, 22, 23, 24, 25, 26, 27, 28, 29, 30, 31, 13, 14, 15, 16, 17, 18, 19, 20, 21, 4, 5, 6, 7, 8, 9, 10, 11, 12, 0, 1, 2, 3] rfl rfl
  exact zvret B hr hlk hW ⟨(zads [q_5, q_16, q_27, q_38, q_49]), ad0_9, ad0_20, ad1_20, ad0_31, ad0_42, ad0_53, rfl, rfl⟩ (Nat.le_of_ble_eq_true rfl) (Nat.le_of_ble_eq_true rfl) dX6_init_64
end
section
/-! contracts of methods that return or throw; calls of them; what is thrown goes out, or is caught -/
def zXC (G : zG) (A : Nat → Prop) (px : String → va_W → Prop) : String → State → State → Prop := fun E st t => (∃ u, px E u ∧ zB G A u t) ∧ va_F A st t
/-- like zC; or y throws an object of the class E with a world u, 'px E u' -/
def zX (l : Launch) (y : MethodName) (cc : ByteArray) (n : Nat) (ret : Option FieldType) (d mc ms : Nat) (G : zG) (av : List Value) (w : va_W) (post : Option Value → va_W → Prop) (px : String → va_W → Prop) : Prop :=
  ∀ sz : Nat, vx_Met l y (Cond.code y cc n ret :: zAll) (zRm d mc ms) (zPc G sz av w) (zQ G (va_A w sz) post) (zXC G (va_A w sz) px) mc ms (va_A w sz)
/-- like zC, of a method with handlers -/
def zCH (l : Launch) (y : MethodName) (cc : ByteArray) (n : Nat) (ret : Option FieldType) (hh : List (Nat × Nat × Nat × Nat)) (d mc ms : Nat) (G : zG) (av : List Value) (w : va_W) (post : Option Value → va_W → Prop) : Prop :=
  ∀ sz : Nat, Met l y (Cond.codeWith y cc n ret hh :: zAll) (zRm d mc ms) (zPc G sz av w) (zQ G (va_A w sz) post) mc ms (va_A w sz)
/-- the exceptions by number -/
def zExn : Int32 → String := fun k => if k = 1 then "java/lang/IndexOutOfBoundsException" else if k = 2 then "java/lang/IllegalArgumentException" else if k = 3 then "java/lang/IllegalStateException" else if k = 4 then "java/lang/UnsupportedOperationException" else "java/lang/ArithmeticException"
section ZXS
variable {l : Launch} {y : MethodName} {cc : ByteArray} {n d mc ms : Nat} {ret : Option FieldType} {G : zG} {av : List Value} {w : va_W} {post : Option Value → va_W → Prop} {px : String → va_W → Prop}
theorem zX.of (own : String) (ho : y.cls = own) (hy : plainName y.cls = true) (hn : (lg_sl av).length ≤ n)
    (body : ∀ (p : Program) (e : Env) (s : State) (m : MethodId) (args : Array Value) (below : List Frame) (meth : Method) (c : Code) (A : Nat → Prop) (ls : Array Slot), zM p s m args c cc n own G A → meth.sig.returnType = ret → meth.locks = false → meth.name = y.name → (∀ x ∈ c.exceptionTable.toList, False) → zW G A s.heap s.heap [] w → lv_has ls n (lv_args 0 av) →
      W p l e (zRm d mc ms) s m args below meth c s.heap [] 0 0 (vx_MQ below (zQ G A post) (zXC G A px) args s mc ms A) (F0 m 0 ls [])) : zX l y cc n ret d mc ms G av w post px := by
  intro sz
  refine vx_ofW (cc := cc) (maxL := n) (ret := ret) hy rfl ?_
  intro p e s m args below meth c s₁ B hml hex hv
  obtain ⟨rfl, hsz, hP, hD0, hE⟩ := hv
  have hts := atoms_spec (ws := Cond.code y cc n ret :: zAll) B.pre
  subst hsz
  subst ho
  rw [lg_entry_eq]
  exact body p e s m _ below meth c (va_A w s.heap.size) _ ⟨B.exec, B.bytes, hml, findClass_of_methodNamed B.named, fun w hw => hts w (List.mem_cons_of_mem _ hw), hE, fun q h => Or.inr h⟩ B.returns B.notSynchronized (name_of_methodNamed B.named B.method).1 hex ⟨hP, hD0.self, va_S.rf⟩ (lv_entry av hn)
theorem zCH.of {hh : List (Nat × Nat × Nat × Nat)} (own : String) (ho : y.cls = own) (hy : plainName y.cls = true) (hn : (lg_sl av).length ≤ n)
    (body : ∀ (p : Program) (e : Env) (s : State) (m : MethodId) (args : Array Value) (below : List Frame) (meth : Method) (c : Code) (A : Nat → Prop) (ls : Array Slot), zM p s m args c cc n own G A → meth.sig.returnType = ret → meth.locks = false → meth.name = y.name → c.exceptionTable.toList = tableOf hh → zW G A s.heap s.heap [] w → lv_has ls n (lv_args 0 av) →
      W p l e (zRm d mc ms) s m args below meth c s.heap [] 0 0 (MQ below (zQ G A post) args s mc ms A) (F0 m 0 ls [])) : zCH l y cc n ret hh d mc ms G av w post := by
  intro sz
  show MetFree l y _ _ _ _
  refine MetFree.of_bodyS (code := cc) (maxLocals := n) (ret := ret) hy ?_ ?_
  · intro args s m h hn
    obtain ⟨m9, meth, c, hn9, h1, h2, h3, h4, -, h5, h6, -⟩ := Cond.codeWith_spec (atoms_spec (ws := Cond.codeWith y cc n ret hh :: zAll) h _ List.mem_cons_self)
    cases hn.symm.trans hn9
    exact ⟨meth, c, h1, h2, h3, h4, h5, h6⟩
  · intro p e s m args below meth c s₁ B hml hP _
    have hts := atoms_spec (ws := Cond.codeWith y cc n ret hh :: zAll) B.pre
    have htab := vx_table (x := y) B (hts _ List.mem_cons_self)
    have hh0 : s₁.heap = s.heap := by rw [B.state]; rfl
    obtain ⟨rfl, hsz, hP1, hD0, hE⟩ := hP
    subst hsz
    subst ho
    obtain ⟨t, a1, o, b1, b2, b3⟩ := body p e s m _ below meth c (va_A w s.heap.size) _ ⟨B.exec, B.bytes, hml, findClass_of_methodNamed B.named, fun w hw => hts w (List.mem_cons_of_mem _ hw), hE, fun q h => Or.inr h⟩ B.returns B.notSynchronized (name_of_methodNamed B.named B.method).1 htab ⟨hP1, hD0.self, va_S.rf⟩ (lv_entry av hn) s₁ hh0 (by have := Stand.of_body B; exact this)
    exact ⟨t, o, by rw [← lg_entry_eq] at a1; exact a1, b1, b2, b3⟩
end ZXS
section ZXK
variable {p : Program} {l : Launch} {e : Env} {R : Room} {s : State} {m : MethodId} {args : Array Value} {below : List Frame} {meth : Method} {c : Code} {H : Heap} {locs : List Loc} {cells slots : Nat} {Q : State → Prop}
variable {cc bytes : ByteArray} {nL pc maxL n d mc ms idx : Nat} {own C host : String} {G : zG} {A : Nat → Prop} {w w1 w2 wc : va_W} {ls : Array Slot} {rest As : List Value} {b : Nat} {y : MethodName} {ret : Option FieldType} {post : Option Value → va_W → Prop} {px : String → va_W → Prop}
theorem zxback (B : zM p s m args c cc nL own G A) (hW : zW G A s.heap H locs (w1 ++ (wc ++ w2))) {st0 : List Value} {a : Array Value}
    (hr : vx_Run p l e R s m args below meth c H locs cells slots mc ms (F0 m pc ls st0) rest (zQ G (va_A wc H.size) post a) (zXC G (va_A wc H.size) px) (va_A wc H.size))
    (kk : ∀ (v : Option Value) (u : va_W) (H1 : Heap) (locs1 : List Loc), post v u → zW G A s.heap H1 locs1 (w1 ++ (u ++ w2)) → W p l e R s m args below meth c H1 locs1 (cells + mc) (slots + ms) Q (F0 m (pc + 3) ls (v.toList ++ rest)))
    (kx : ∀ (E : String) (q : Nat) (ce : Cell) (u : va_W) (H1 : Heap) (locs1 : List Loc), px E u → zW G A s.heap H1 locs1 (w1 ++ (u ++ w2)) → H1[q]? = some ce → ce.vm = .none → s.vm.findClass E = some ce.cls → vx_W p l e R s m args below meth c H1 locs1 (cells + mc) (slots + ms) Q (F0 m pc ls rest) q) :
    W p l e R s m args below meth c H locs cells slots Q (F0 m pc ls st0) := by
  have hF := zfree hW B.nA
  intro T hT X
  have key : ∀ {t : State} {st₀ T' : State} {L : List Loc} {u : va_W}, st₀.heap = H → T'.heap = t.heap → (∀ q ∈ L, va_A wc H.size q.base) → va_P G.1 vwCl u t.heap → va_D (va_A wc H.size) u → va_F (va_A wc H.size) st₀ t → zW G A s.heap T'.heap (locs ++ L) (w1 ++ (u ++ w2)) := by
    intro t st₀ T' L u h0 e1 hL hPu hDu hFt
    obtain ⟨hz, hk⟩ := hFt
    rw [h0] at hz hk
    exact zjoin hW (fun q h1 h2 => by rw [e1]; exact hk q h1 h2) hF (by rw [e1]; exact hPu) hDu
      ⟨Nat.le_trans hW.2.2.1 (by rw [e1]; exact hz), fun q h1 h2 => by rw [e1, hk q (Nat.lt_of_lt_of_le h1 hW.2.2.1) (fun z => h2 (hF q z))]; exact hW.2.2.2.1 q h1 h2, fun q hq => by
        rcases List.mem_append.mp hq with h | h
        · exact hW.2.2.2.2 q h
        · exact hF _ (hL q h)⟩
  rcases hr T hT X with ⟨v, st₀, t, T', L, h0, X', hL, e1, e2, ⟨⟨v', u, hv, hp, hPu, hDu⟩, hFt⟩, st⟩ | ⟨q, st₀, t, T', L, E, ce, h0, X', hL, e1, e2, ⟨⟨u, hp, hPu, hDu⟩, hFt⟩, hce, hcv, hcl, st⟩
  · cases hv
    obtain ⟨t2, a1, b1⟩ := kk v u T'.heap (locs ++ L) hp (key h0 e1 hL hPu hDu hFt) T' rfl X'
    exact ⟨t2, st t2 a1, b1⟩
  · obtain ⟨t2, a1, b1⟩ := kx E q ce u T'.heap (locs ++ L) hp (key h0 e1 hL hPu hDu hFt) (by rw [e1]; exact hce) hcv hcl T' rfl X'
    exact ⟨t2, Steps.trans st a1, b1⟩
theorem zxV (B : zM p s m args c cc nL own G A) (hW : zW G A s.heap H locs (w1 ++ (wc ++ w2))) (hM : zX l y bytes maxL ret d mc ms G (.ref b :: As) wc post px) (Y : zYv y bytes maxL ret n) (hl : Cond.methodLink own idx y ∈ zAll)
    (q0 : Nat) {ci : Nat} {fs : List Value} {r : vw_C} (he : wc[q0]? = some (b, .inr (ci, fs))) (hcl : vwCl[ci]? = some r) (hcn : r.1 = y.cls) {st0 : List Value}
    (hn : As.length = n) (hsz : ls.size = nL) (hst : st0 = As.reverse ++ .ref b :: rest) (hrm : (rest.map fun v => v.category).sum ≤ 8) (hR : d + 1 ≤ R.frames ∧ 8 + (maxL + 11) + 80 * d ≤ R.locals) (hf : cells + mc ≤ R.cells ∧ slots + ms ≤ R.slots) (hdg : decode cc pc = .ok (.invokevirtual idx, 3))
    (kk : ∀ (v : Option Value) (u : va_W) (H1 : Heap) (locs1 : List Loc), post v u → zW G A s.heap H1 locs1 (w1 ++ (u ++ w2)) → W p l e R s m args below meth c H1 locs1 (cells + mc) (slots + ms) Q (F0 m (pc + 3) ls (v.toList ++ rest)))
    (kx : ∀ (E : String) (q : Nat) (ce : Cell) (u : va_W) (H1 : Heap) (locs1 : List Loc), px E u → zW G A s.heap H1 locs1 (w1 ++ (u ++ w2)) → H1[q]? = some ce → ce.vm = .none → s.vm.findClass E = some ce.cls → vx_W p l e R s m args below meth c H1 locs1 (cells + mc) (slots + ms) Q (F0 m pc ls rest) q) :
    W p l e R s m args below meth c H locs cells slots Q (F0 m pc ls st0) := by
  obtain ⟨Y1, Y2, Y3, Y4, Y5⟩ := Y
  subst hst
  exact zxback B hW (vx_runV (Ts := zAll) (As := As) (rest := rest) (C := y.cls) ⟨B.x, B.b, B.ml, B.o, B.ts⟩ (hM H.size) ⟨zCB B.ts Y1 Y2 hl Y3 hR, B.ts _ Y4, B.ts _ Y5⟩ ⟨zPc_blind _ _ _ _, by rw [← hcn]; exact va_recv B.K (va_P_l (va_P_r hW.1)) hcl he, zpre B hW⟩ rfl hn hsz rfl (lv_room hrm) hdg hf) kk kx
theorem zxS (B : zM p s m args c cc nL own G A) (hW : zW G A s.heap H locs (w1 ++ (wc ++ w2))) (hM : zX l y bytes maxL ret d mc ms G As wc post px) (Y : zYs y bytes maxL ret n) (hl : Cond.methodLink own idx y ∈ zAll) {st0 : List Value}
    (hn : As.length = n) (hsz : ls.size = nL) (hst : st0 = As.reverse ++ rest) (hrm : (rest.map fun v => v.category).sum ≤ 8) (hR : d + 1 ≤ R.frames ∧ 8 + (maxL + 11) + 80 * d ≤ R.locals) (hf : cells + mc ≤ R.cells ∧ slots + ms ≤ R.slots) (hdg : decode cc pc = .ok (.invokestatic idx, 3))
    (kk : ∀ (v : Option Value) (u : va_W) (H1 : Heap) (locs1 : List Loc), post v u → zW G A s.heap H1 locs1 (w1 ++ (u ++ w2)) → W p l e R s m args below meth c H1 locs1 (cells + mc) (slots + ms) Q (F0 m (pc + 3) ls (v.toList ++ rest)))
    (kx : ∀ (E : String) (q : Nat) (ce : Cell) (u : va_W) (H1 : Heap) (locs1 : List Loc), px E u → zW G A s.heap H1 locs1 (w1 ++ (u ++ w2)) → H1[q]? = some ce → ce.vm = .none → s.vm.findClass E = some ce.cls → vx_W p l e R s m args below meth c H1 locs1 (cells + mc) (slots + ms) Q (F0 m pc ls rest) q) :
    W p l e R s m args below meth c H locs cells slots Q (F0 m pc ls st0) := by
  obtain ⟨Y1, Y2, Y3, Y4⟩ := Y
  subst hst
  exact zxback B hW (vx_runS (Ts := zAll) (As := As) (rest := rest) ⟨B.x, B.b, B.ml, B.o, B.ts⟩ (hM H.size) ⟨zCB B.ts Y1 Y2 hl Y3 hR, B.ts _ Y4⟩ ⟨zPc_blind _ _ _ _, zpre B hW⟩ rfl hn hsz rfl (lv_room hrm) hdg hf) kk kx
/-- a static method with handlers, called -/
def zYh (y : MethodName) (bytes : ByteArray) (maxL : Nat) (ret : Option FieldType) (hh : List (Nat × Nat × Nat × Nat)) (n : Nat) : Prop := Cond.codeWith y bytes maxL ret hh ∈ zAll ∧ Cond.initialized y.cls ∈ zAll ∧ (y.cls ≠ "java/lang/invoke/MethodHandle" ∧ y.cls ≠ "java/lang/invoke/VarHandle" ∧ (parseMethodDescriptor y.desc).map (fun d => d.parameters.length) = some n) ∧ Cond.static y ∈ zAll
theorem zcH {hh : List (Nat × Nat × Nat × Nat)} (B : zM p s m args c cc nL own G A) (hW : zW G A s.heap H locs (w1 ++ (wc ++ w2))) (hM : zCH l y bytes maxL ret hh d mc ms G As wc post) (Y : zYh y bytes maxL ret hh n) (hl : Cond.methodLink own idx y ∈ zAll) {st0 : List Value}
    (hn : As.length = n) (hsz : ls.size = nL) (hst : st0 = As.reverse ++ rest) (hrm : (rest.map fun v => v.category).sum ≤ 8) (hR : d + 1 ≤ R.frames ∧ 8 + (maxL + 11) + 80 * d ≤ R.locals) (hf : cells + mc ≤ R.cells ∧ slots + ms ≤ R.slots) (hdg : decode cc pc = .ok (.invokestatic idx, 3))
    (kk : ∀ (v : Option Value) (u : va_W) (H1 : Heap) (locs1 : List Loc), post v u → zW G A s.heap H1 locs1 (w1 ++ (u ++ w2)) → W p l e R s m args below meth c H1 locs1 (cells + mc) (slots + ms) Q (F0 m (pc + 3) ls (v.toList ++ rest))) :
    W p l e R s m args below meth c H locs cells slots Q (F0 m pc ls st0) := by
  obtain ⟨Y1, Y2, Y3, Y4⟩ := Y
  subst hst
  refine zback B hW (vx_runSW (hh := hh) (Ts := zAll) (As := As) (rest := rest) ⟨B.x, B.b, B.ml, B.o, B.ts⟩ (hM H.size) (vx_cwSW (Ts := zAll) n B.ts (fun w hw => ?_) rfl rfl rfl Y3 hR) ⟨zPc_blind _ _ _ _, zpre B hW⟩ rfl hn hsz rfl (lv_room hrm) hdg hf) kk
  have hw2 : w ∈ zAll := by
    unfold va_wsS at hw
    rcases List.mem_append.mp hw with h | h
    · rcases List.mem_cons.mp h with rfl | h
      · exact hl
      · rcases List.mem_cons.mp h with rfl | h
        · exact Y4
        · rcases List.mem_cons.mp h with rfl | h
          · exact Y2
          · cases h
    · rcases List.mem_cons.mp h with rfl | h
      · exact Y1
      · exact h
  exact ⟨hw2, good_of_word (zAll_good _ hw2)⟩
/-- not caught here: it goes on to the caller -/
theorem zxout (B : zM p s m args c cc nL own G A) (hex : ∀ x ∈ c.exceptionTable.toList, False) (hlk : meth.locks = false) {E : String} {q : Nat} {ce : Cell} (hce : H[q]? = some ce) (hcv : ce.vm = .none) (hcl : s.vm.findClass E = some ce.cls)
    (hW : zW G A s.heap H locs w) (hp : px E w) (hc : cells ≤ mc) (hs : slots ≤ ms) : vx_W p l e R s m args below meth c H locs cells slots (vx_MQ below (zQ G A post) (zXC G A px) args s mc ms A) (F0 m pc ls rest) q :=
  vx_out (fun x hx => (hex x hx).elim) hlk hce hcv hcl (fun t ht _ => ⟨⟨w, hp, by rw [ht]; exact hW.1, hW.2.1⟩, hW.2.2.F ht⟩) hW.2.2.2.2 hc hs
/-- what the tables say of 'throw new cls(text)' in the class own -/
def zThr (own cls text : String) (names : List String) (ik is ic : Nat) : Prop := Bundle.fit cls = true ∧ (∀ n ∈ names, Bundle.fit n = true) ∧ Cond.classLink own ik cls ∈ zAll ∧ Cond.initialized cls ∈ zAll ∧ (own, is, text) ∈ zStr ∧ (∀ w ∈ vx_atS own ic cls names, w ∈ zAll ∨ w ∈ zNest) ∧ (∀ w ∈ Cond.classLink own ik cls :: Cond.initialized cls :: vx_atS own ic cls names, vx_ot w = true)
theorem zNw_use {w : Cond} (hg : zOdd w = true) (h : va_Nw w s) : w.before args s = true := by
  cases w <;> first | exact va_Nw.use rfl h | exact absurd hg (by simp [zOdd])
theorem zthrow (B : zM p s m args c cc nL own G A) (hst : l.stackTraces = false) (hex : ∀ x ∈ c.exceptionTable.toList, False) (hlk : meth.locks = false) {cls text : String} {names : List String} {ik is ic : Nat} (Y : zThr own cls text names ik is ic)
    (hW : zW G A s.heap H locs w) (hp : px cls w) (hsz : ls.size = nL)
    (d0 : decode cc pc = .ok (.new ik, 3)) (d3 : decode cc (pc + 3) = .ok (.dup, 1)) (d4 : decode cc (pc + 4) = .ok (.ldc is, 2)) (d6 : decode cc (pc + 6) = .ok (.invokespecial ic, 3)) (d9 : decode cc (pc + 9) = .ok (.athrow, 1))
    (hRf : names.length + 3 < R.frames) (hRl : (rest.map fun v => v.category).sum + (13 * (names.length + 1) + 43) ≤ R.locals) (hRc : cells + 1 ≤ R.cells) (hRs : slots + 6 ≤ R.slots) (hc : cells + 1 ≤ mc) (hs : slots + 6 ≤ ms) :
    W p l e R s m args below meth c H locs cells slots (vx_MQ below (zQ G A post) (zXC G A px) args s mc ms A) (F0 m pc ls rest) := by
  obtain ⟨Y1, Y2, Y3, Y4, Y5, Y6, Y7⟩ := Y
  obtain ⟨sa, hsa⟩ := B.E.2.2.2.1 _ Y5
  refine vx_throwS B.x B.b hst B.o Y1 Y2 (B.ts _ Y3) (B.ts _ Y4) hsa (fun w hw => (Y6 w hw).elim (fun z => B.ts _ z) (fun z => zNw_use (zNest_odd w z) (B.nw z))) Y7 B.E.2.2.2.2.1 B.E.2.2.2.2.2.1 hW.2.2 (hsz.trans B.ml.symm) d0 d3 d4 d6 d9 (fun x hx => (hex x hx).elim) hRf hRl hRc hRs hlk (fun t hal hz hk => ⟨⟨w, hp, fun k q hq => ?_, hW.2.1⟩, ?_⟩) hW.2.2.2.2 hc hs
  · exact (hW.1 k q hq).kept (hk q.1 (hW.1 k q hq).lt)
  · exact ⟨Nat.le_trans hW.2.2.1 hz, fun q h1 h2 => (hk q (Nat.lt_of_lt_of_le h1 hW.2.2.1)).trans (hW.2.2.2.1 q h1 h2)⟩
/-- caught by the row x of the method's table -/
theorem zcatch (B : zM p s m args c cc nL own G A) {hh : List (Nat × Nat × Nat × Nat)} (htab : c.exceptionTable.toList = tableOf hh) {E : String} {q : Nat} {ce : Cell} (hce : H[q]? = some ce) (hcv : ce.vm = .none) (hcl : s.vm.findClass E = some ce.cls)
    (pre : List ExceptionTableEntry) (x : ExceptionTableEntry) (suf : List ExceptionTableEntry) (hsplit : tableOf hh = pre ++ x :: suf) (hpass : ∀ z ∈ pre, z.catchType ≠ 0 ∧ ∃ nm : String, Cond.classLink own z.catchType nm ∈ zAll ∧ (E, nm) ∈ zNcs) (hx : covers x pc = true) (h0 : x.catchType ≠ 0)
    (hlink : Cond.classLink own x.catchType E ∈ zAll) (hcast : Cond.castable E E ∈ zNest) (kk : W p l e R s m args below meth c H locs cells slots Q (F0 m x.handlerPc ls [.ref q])) : vx_W p l e R s m args below meth c H locs cells slots Q (F0 m pc ls rest) q :=
  vx_catch B.o pre x suf (htab.trans hsplit) (fun z hz => by
    obtain ⟨a1, nm, a2, a3⟩ := hpass z hz
    exact Or.inr ⟨a1, nm, B.ts _ a2, B.E.2.2.2.2.2.2.2.2.2.1 _ a3⟩) hx h0 (B.ts _ hlink) (zNw_use rfl (B.nw hcast)) hce hcv hcl kk
theorem zSubO {ws : List Cond} (is : List Nat) (h : ws = is.filterMap zAt) (g : ws.all (fun w => goodWord w || zOdd w) = true) : ∀ w ∈ ws, w ∈ zAll ∨ w ∈ zNest := fun w hw => by
  have h1 := List.all_eq_true.mp g w hw
  rw [h] at hw
  obtain ⟨i, -, hi⟩ := List.mem_filterMap.mp hw
  rcases (Bool.or_eq_true _ _).mp h1 with h2 | h2
  · exact Or.inl (zMem i hi h2)
  · exact Or.inr (zMemN i hi h2)
/-- a long, a double into an array -/
theorem zlast (B : zM p s m args c cc nL own G A) (hW : zW G A s.heap H locs w) (q0 : Nat) {a n : Nat} {f : Nat → Int64} (he : w[q0]? = some (a, .inl (G.2.1 4, n, .inr (.inl f)))) {i : Int32} {x : Int64} (hin : vp_in i n) (hdg : decode cc pc = .ok (.lastore, 1))
    (kk : ∀ (H1 : Heap) (locs1 : List Loc), zW G A s.heap H1 locs1 (w.set q0 (a, .inl (G.2.1 4, n, .inr (.inl (vp_updL f i.toNatClampNeg x))))) → W p l e R s m args below meth c H1 locs1 cells slots Q (F0 m (pc + 1) ls rest)) : W p l e R s m args below meth c H locs cells slots Q (F0 m pc ls (.long x :: .int i :: .ref a :: rest)) :=
  va_last (D := G.1) (cl := vwCl) (tys := zTy G) (A := A) B.x B.b B.K hW.1 hW.2.1 hW.2.2 q0 4 he rfl hin hdg (fun H1 l1 h1 h2 h3 => kk H1 l1 ⟨h1, h2, h3⟩)
theorem zlald (B : zM p s m args c cc nL own G A) (hW : zW G A s.heap H locs w) (q0 : Nat) {a n : Nat} {f : Nat → Int64} (he : w[q0]? = some (a, .inl (G.2.1 4, n, .inr (.inl f)))) {i : Int32} (hin : vp_in i n) (hdg : decode cc pc = .ok (.laload, 1))
    (kk : W p l e R s m args below meth c H locs cells slots Q (F0 m (pc + 1) ls (.long (f i.toNatClampNeg) :: rest))) : W p l e R s m args below meth c H locs cells slots Q (F0 m pc ls (.int i :: .ref a :: rest)) :=
  va_lald (D := G.1) (cl := vwCl) (tys := zTy G) B.x B.b B.K hW.1 q0 4 he rfl hin hdg kk
/-- an int array cloned, and cast back -/
theorem zclone (B : zM p s m args c cc nL own G A) (hW : zW G A s.heap H locs w) (hsz : ls.size = nL) (q0 : Nat) {a n ix : Nat} {f : Nat → Int32} (he : w[q0]? = some (a, .inl (G.2.1 0, n, .inl f)))
    (hl : Cond.methodLink own idx ⟨"[I", "clone", "()Ljava/lang/Object;"⟩ ∈ zAll) (h1 : Cond.sameMethod "[I" "java/lang/Object" "clone" "()Ljava/lang/Object;" ∈ zAll) (h2 : Cond.native ⟨"java/lang/Object", "clone", "()Ljava/lang/Object;"⟩ ∈ zAll) (h3 : Cond.instanceMethod ⟨"java/lang/Object", "clone", "()Ljava/lang/Object;"⟩ ∈ zAll) (h4 : Cond.selects "[I" ⟨"[I", "clone", "()Ljava/lang/Object;"⟩ ⟨"java/lang/Object", "clone", "()Ljava/lang/Object;"⟩ ∈ zAll) (h5 : Cond.castable "[I" "java/lang/Cloneable" ∈ zNest) (h6 : Cond.classLink own ix "[I" ∈ zAll)
    (hf : 1 ≤ R.frames) (hlo : (rest.map fun v => v.category).sum + 14 ≤ R.locals) (hc : cells + 1 ≤ R.cells) (hs : slots + n ≤ R.slots) (hdg : decode cc pc = .ok (.invokevirtual idx, 3)) (hdc : decode cc (pc + 3) = .ok (.checkcast ix, 3))
    (kk : ∀ (q : Nat) (H1 : Heap), zW G A s.heap H1 locs (w ++ [(q, .inl (G.2.1 0, n, .inl f))]) → W p l e R s m args below meth c H1 locs (cells + 1) (slots + n) Q (F0 m (pc + 6) ls (.ref q :: rest))) : W p l e R s m args below meth c H locs cells slots Q (F0 m pc ls (.ref a :: rest)) := by
  have hnm : s.vm.findClass "[I" = some (G.2.1 0) := (B.K.2 0 _ rfl).2
  refine va_clone (D := G.1) (cl := vwCl) (tys := zTy G) (A := A) B.x B.b (B.ml.trans hsz.symm) B.o (B.ts _ hl) (B.ts _ h1) (B.ts _ h2) (B.ts _ h3) (B.ts _ h4) (B.nw h5) B.K hW.1 hW.2.1 hW.2.2 B.nA q0 0 he rfl hnm (fun i v hv => ?_) hf hlo hc hs hdg (fun q H1 _ a1 a2 a3 => ?_)
  · rw [show vp_cell (G.2.1 0) (n, .inl f) = arrV (G.2.1 0) n (fun j => .int (f j)) from rfl] at hv
    have hlt : i < n := by
      have := (Array.getElem?_eq_some_iff.mp hv).1
      rw [arrV_size] at this
      exact this
    rw [arrV_read _ _ hlt] at hv
    cases hv
    rfl
  · refine va_castA (D := G.1) (cl := vwCl) (nm := "[I") (index := ix) B.x B.b B.o (B.ts _ h6) a1 w.length (cA := G.2.1 0) (x := (n, .inl f)) (by rw [List.getElem?_append_right (Nat.le_refl _), Nat.sub_self]; rfl) hnm hdc ?_
    exact kk q H1 ⟨a1, a2, a3⟩
/-- System.arraycopy of booleans, all of a row onto another of the same length -/
theorem zcopyz (B : zM p s m args c cc nL own G A) (hW : zW G A s.heap H locs w) (hsz : ls.size = nL) (hl : Cond.methodLink own idx arraycopyName ∈ zAll) (q0 q1 : Nat) {a a0 n0 n1 : Nat} {f g : Nat → Int32} (h0 : w[q0]? = some (a0, .inl (G.2.1 1, n0, .inl f))) (h1 : w[q1]? = some (a, .inl (G.2.1 1, n1, .inl g)))
    (k : Nat) {x : Int32} (hx : x = nI k) (hk0 : k ≤ n0) (hk1 : k ≤ n1) (hk : k < 2 ^ 31) (hfit : ∀ i, i < k → fits .boolean (.int (f i)) = true) (hf : 1 ≤ R.frames) (hlo : (rest.map fun v => v.category).sum + (nativeFrameWords "java/lang/System" "arraycopy" 5 + 11) ≤ R.locals) (hdg : decode cc pc = .ok (.invokestatic idx, 3))
    (kk : ∀ (H1 : Heap) (locs1 : List Loc), zW G A s.heap H1 locs1 (w.set q1 (a, .inl (G.2.1 1, n1, .inl (va_cpy f g 0 0 k)))) → W p l e R s m args below meth c H1 locs1 cells slots Q (F0 m (pc + 3) ls rest)) : W p l e R s m args below meth c H locs cells slots Q (F0 m pc ls (.int x :: .int 0 :: .ref a :: .int 0 :: .ref a0 :: rest)) := by
  subst hx
  have ek : (nI k).toNatClampNeg = k := nI_clamp hk
  have e0 : (0 : Int32).toNatClampNeg = 0 := rfl
  refine va_copyi (D := G.1) (cl := vwCl) (tys := zTy G) (A := A) B.x B.b (B.ml.trans hsz.symm) B.o (B.ts _ hl) (B.ts _ kc_nat) (B.ts _ kc_st) (B.ts _ kc_in) B.K hW.1 hW.2.1 hW.2.2 q0 q1 1 1 h0 h1 rfl rfl rfl (by decide) (by decide) (nI_pos hk) (by rw [ek, e0]; omega) (by rw [ek, e0]; omega) (fun i hi => by rw [ek] at hi; rw [e0, Nat.zero_add]; exact hfit i hi) hf hlo hdg (fun H1 l1 b1 b2 b3 => ?_)
  rw [ek, e0] at b1 b2
  exact kk H1 l1 ⟨b1, b2, b3⟩
end ZXK
end
