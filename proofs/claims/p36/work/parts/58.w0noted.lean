abbrev zAcs : Type := Nat × (Nat → Int32) × (Nat → Int32) × (Nat → Int32) × (Nat → Int32) × (Nat → Int32)
def acsWC (G : zG) (x : zAcs) (i : Nat) : va_E := .inr (4, [.int (x.2.1 i), .int (x.2.2.1 i), .int (x.2.2.2.1 i), .int (x.2.2.2.2.1 i), .int (x.2.2.2.2.2 i)])
def acsW (G : zG) (h : Nat) (ad : Nat → Nat) (x : zAcs) : va_W := sgW x.1 ad (acsWC G x)
abbrev po_X7_noted (G : zG) (h0 : Nat) (ad0 : Nat → Nat) (sw : zSw) (n : Nat) (aa : Nat → Nat) (a : Int32) (b : Int32) (f : Int32) (g : Int32) (k1 : Int32) : Option Value → va_W → Prop := fun r u => ∃ (h_oa : Nat) (ad_oa : Nat → Nat), r = some (.ref h_oa) ∧ u = swW G h0 ad0 (laF (n + 1) (va_up aa n h_oa), nI (n + 1), sw.2.2) ++ actW G h_oa ad_oa (i_X0_init a b f g k1)
set_option maxHeartbeats 4000000 in
set_option maxRecDepth 100000 in
theorem c_X7_noted (l : Launch) (G : zG) (h0 : Nat) (ad0 : Nat → Nat) (sw : zSw) (n : Nat) (aa : Nat → Nat) (a : Int32) (b : Int32) (f : Int32) (g : Int32) (k1 : Int32) (hn5 : n < 512) : zC l yX7_noted cX7_noted 7 (some (.object "SmokeWard$Act")) 2 1 5 G [.ref h0, .int a, .int b, .int f, .int g, .int k1] (swW G h0 ad0 ((laF n aa), (nI n), sw.2.2)) (po_X7_noted G h0 ad0 sw n aa a b f g k1) := by
  refine zC.of RX7 rfl (by decide) (Nat.le_of_ble_eq_true rfl) ?_
  intro p e s m args below meth c A ls B hr hlk hnm hW hl
  have hx := B.x
  have hb := B.b
  have hl : lv_has ls 7 [(0, .ref h0), (1, .int a), (2, .int b), (3, .int f), (4, .int g), (5, .int k1)] := hl
  refine znew B hW 4 5 tyX0 rfl in_X0 tyX0_ok kl_X7_19 ki_X0 kz_X0 rfl (Nat.le_of_ble_eq_true rfl) (Nat.le_of_ble_eq_true rfl) dX7_noted_0 (fun q_0 H hW => ?_)
  have hW := hW.eq (w' := swW G h0 ad0 ((laF n aa), (nI n), sw.2.2) ++ (([(q_0, .inr (4, [.int 0, .int 0, .int 0, .int 0, .int 0]))] : va_W))) rfl
  refine lv_dup hx hb dX7_noted_3 rfl ?_
  refine lv_iload_n hx hb dX7_noted_4 rfl (lv_at hl 1 rfl) ?_
  refine lv_iload_n hx hb dX7_noted_5 rfl (lv_at hl 2 rfl) ?_
  refine lv_iload_n hx hb dX7_noted_6 rfl (lv_at hl 3 rfl) ?_
  refine lv_iload hx hb dX7_noted_7 (lv_at hl 4 rfl) ?_
  refine lv_iload hx hb dX7_noted_9 (lv_at hl 5 rfl) ?_
  have hW := hW.sub (w' := ([(q_0, .inr (4, [.int 0, .int 0, .int 0, .int 0, .int 0]))] : va_W) ++ (swW G h0 ad0 ((laF n aa), (nI n), sw.2.2))) [2, 0, 1] rfl rfl
  refine zcI (w1 := []) (wc := ([(q_0, .inr (4, [.int 0, .int 0, .int 0, .int 0, .int 0]))] : va_W)) (w2 := swW G h0 ad0 ((laF n aa), (nI n), sw.2.2)) (As := [.int a, .int b, .int f, .int g, .int k1]) B (hW.eq rfl) (c_X0_init l G q_0 a b f g k1) yd_X0_init ml_X7_230 rfl hl.1 rfl (Nat.le_of_ble_eq_true rfl) ⟨Nat.le_of_ble_eq_true rfl, Nat.le_of_ble_eq_true rfl⟩ ⟨(Nat.le_of_ble_eq_true rfl), (Nat.le_of_ble_eq_true rfl)⟩ dX7_noted_11 (fun v u H locs hp hW => ?_)
  obtain ⟨ad0_11, rfl, rfl⟩ := hp
  have hW := hW.eq (w' := actW G q_0 ad0_11 (i_X0_init a b f g k1) ++ (swW G h0 ad0 ((laF n aa), (nI n), sw.2.2))) rfl
  refine lv_astore hx hb dX7_noted_14 hl (by decide) rfl (fun ls hl => ?_)
  refine lv_aload_n hx hb dX7_noted_16 rfl (lv_at hl 1 rfl) ?_
  refine zget B hW 1 rfl lf_X7_25 rfl dX7_noted_17 ?_
  refine lv_aload_n hx hb dX7_noted_20 rfl (lv_at hl 1 rfl) ?_
  refine zget B hW 1 rfl lf_X7_21 rfl dX7_noted_21 ?_
  refine zalen B hW 2 2 rfl rfl dX7_noted_24 ?_
  refine lv_icmp_ge (tgt := 49) hx hb dX7_noted_25 (by decide) (fun c_25 => absurd c_25 (show ¬ ((nI 512) ≤ (nI n)) from nI_ge hn5 (by decide))) (fun c_25 => ?_)
  refine lv_aload_n hx hb dX7_noted_28 rfl (lv_at hl 1 rfl) ?_
  refine zget B hW 1 rfl lf_X7_21 rfl dX7_noted_29 ?_
  refine lv_aload_n hx hb dX7_noted_32 rfl (lv_at hl 1 rfl) ?_
  refine zget B hW 1 rfl lf_X7_25 rfl dX7_noted_33 ?_
  refine lv_aload hx hb dX7_noted_36 (lv_at hl 0 rfl) ?_
  refine zqast B hW 2 0 4 rfl rfl rfl ((vp_in_nI hn5 (by decide) : vp_in (nI n) 512)) dX7_noted_38 (fun H locs hW => ?_)
  refine lv_aload_n hx hb dX7_noted_39 rfl (lv_at hl 1 rfl) ?_
  refine lv_dup hx hb dX7_noted_40 rfl ?_
  refine zget B hW 1 rfl lf_X7_25 rfl dX7_noted_41 ?_
  refine lv_iconst (v := (1 : Int32)) hx hb dX7_noted_44 (by decide) ?_
  refine lv_iadd hx hb dX7_noted_45 ?_
  refine zput B hW 1 rfl lf_X7_25 ft_X7_3 rfl rfl (Nat.le_of_ble_eq_true rfl) dX7_noted_46 (fun H locs hW => ?_)
  refine lv_aload hx hb dX7_noted_49 (lv_at hl 0 rfl) ?_
  have hW := hW.sub (w' := swW G h0 ad0 (va_up (laF n aa) (nI n).toNatClampNeg (some q_0), nI n + 1, sw.2.2) ++ actW G q_0 ad0_11 (i_X0_init a b f g k1)) [1, 2, 0] rfl rfl
  rw [nI_clamp (by omega), laF_up, nI_1] at hW
  exact zaret B hr hlk (Or.inl ⟨_, rfl⟩) (Or.inr ⟨_, rfl⟩) hW ⟨q_0, ad0_11, rfl, rfl⟩ (Nat.le_refl _) (Nat.le_refl _) dX7_noted_51
theorem zplace {a b : Int32} (h : x_X7_placeOf a b = (0 : Int32)) : vp_in (r_X7_placeOf a b) 48 := by
  unfold x_X7_placeOf at h
  unfold r_X7_placeOf
  by_cases c : r_X7_isCell a b = (0 : Int32)
  · rw [if_pos c] at h
    exact absurd h (by decide)
  · rw [if_neg c]
    exact zcell_ix c
theorem znum {a c : Int32} {k n : Nat} (hc : c = nI k) (hk : k ≤ n) (hn : n < 2 ^ 31) (h : x_X7_checkNumber a c = (0 : Int32)) : vp_in a n := by
  unfold x_X7_checkNumber at h
  subst hc
  by_cases c1 : a < (0 : Int32)
  · rw [if_pos c1] at h; exact absurd h (by decide)
  · rw [if_neg c1] at h
    by_cases c2 : a < nI k
    · rcases pk_ix a (n := k) (by omega) with h1 | h1 | ⟨i, hi, rfl⟩
      · exact absurd h1 c1
      · exact absurd (Int32.lt_of_lt_of_le c2 h1) Int32.lt_irrefl
      · exact vp_in_nI (by omega) hn
    · rw [if_neg c2] at h; exact absurd h (by decide)
theorem zrng {a u : Int32} {k n : Nat} (hu : u = nI k) (hk : k < n ∧ n < 2 ^ 31) (h : x_X7_checkRange a (0 : Int32) u = (0 : Int32)) : vp_in a n := by
  unfold x_X7_checkRange at h
  subst hu
  by_cases c1 : a < (0 : Int32)
  · rw [if_pos c1] at h; exact absurd h (by decide)
  · rw [if_neg c1] at h
    by_cases c2 : a ≤ nI k
    · rcases pk_ix a (n := n) hk.2 with h1 | h1 | ⟨i, hi, rfl⟩
      · exact absurd h1 c1
      · exact absurd (Int32.le_trans h1 c2) (nI_ge hk.1 hk.2)
      · exact vp_in_nI (by omega) hk.2
    · rw [if_neg c2] at h; exact absurd h (by decide)
theorem zroomy {c u : Int32} {k n : Nat} (hc : c = nI k) (hu : u = nI n) (hk : k ≤ n) (hn : n < 2 ^ 31) (h : x_X7_checkRoom c u = (0 : Int32)) : k < n := by
  unfold x_X7_checkRoom at h
  subst hc; subst hu
  by_cases c1 : nI k < nI n
  · exact (nI_ltI (by omega) hn).mp c1
  · rw [if_neg c1] at h; exact absurd h (by decide)
