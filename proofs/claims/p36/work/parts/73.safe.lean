theorem zBo_ite {c : Prop} [Decidable c] {f g : Nat → Int32} (hf : zBo f) (hg : zBo g) : zBo (if c then f else g) := by
  by_cases h : c
  · rw [if_pos h]; exact hf
  · rw [if_neg h]; exact hg
theorem zbo_warn {u1 u2 u3 u4 sm : Nat → Int32} {hr hd : Int32} {y0 : (Nat → Int32) × (Nat → Int32) × (Nat → Int32) × (Nat → Int32) × Nat × Nat × Nat × Nat} (h : zBo y0.1) : ∀ i, zBo (lp_X5_warnAll_3 u1 u2 u3 u4 sm hr hd y0 i).1 := by
  intro i
  induction i with
  | zero => rw [lp_X5_warnAll_3_0]; exact h
  | succ i ih =>
    rw [lp_X5_warnAll_3_s]
    unfold st_X5_warnAll_3
    dsimp only
    (repeat' split) <;> first | exact ih | exact zBo_upd ih (by decide) _
theorem zbo_dec {u1 u2 u3 : Nat → Int32} {y0 : (Nat → Int32) × Int32} (h : zBo y0.1) : ∀ i, zBo (lp_X3_decide_2 u1 u2 u3 y0 i).1 := by
  intro i
  induction i with
  | zero => rw [lp_X3_decide_2_0]; exact h
  | succ i ih =>
    rw [lp_X3_decide_2_s]
    unfold st_X3_decide_2
    dsimp only
    exact zBo_upd ih (by split <;> decide) _
theorem zpk2 (la : zLand) (ou : zOutl) (al : zLand) (se : zSens) (su : zSubs) (sc : zScho) (wo : zWor) {ns nu nc k hr : Nat} (hsu : zBo su.1) (hsc : zBo sc.1) (hwo : wo = nI hr) : ∀ i : Nat, zBo ((lp_X6_perform_10_210 la.2.2.2.2.2.1 la.2.2.2.2.2.2.2.1 la.2.2.2.2.2.2.2.2.1 la.2.2.2.2.2.2.2.2.2.1 la.2.2.2.2.2.2.2.2.2.2.1 sc.2.1 sc.2.2.1 sc.2.2.2.1 se.2.1 se.2.2.2.1 su.2.1 su.2.2.1 su.2.2.2.1 su.2.2.2.2.1 ns nu nc k (al.1, al.2.1, al.2.2.1, al.2.2.2.1, al.2.2.2.2.1, al.2.2.2.2.2.1, al.2.2.2.2.2.2.1, al.2.2.2.2.2.2.2.1, al.2.2.2.2.2.2.2.2.1, al.2.2.2.2.2.2.2.2.2.1, al.2.2.2.2.2.2.2.2.2.2.1, al.2.2.2.2.2.2.2.2.2.2.2.1, al.2.2.2.2.2.2.2.2.2.2.2.2.1, al.2.2.2.2.2.2.2.2.2.2.2.2.2, la.1, la.2.1, la.2.2.1, la.2.2.2.1, la.2.2.2.2.1, la.2.2.2.2.2.2.1, la.2.2.2.2.2.2.2.2.2.2.2.1, la.2.2.2.2.2.2.2.2.2.2.2.2.1, la.2.2.2.2.2.2.2.2.2.2.2.2.2, ou, sc.1, sc.2.2.2.2, se.1, se.2.2.1, se.2.2.2.2.1, se.2.2.2.2.2.1, se.2.2.2.2.2.2.1, se.2.2.2.2.2.2.2.1, se.2.2.2.2.2.2.2.2.2, su.1, su.2.2.2.2.2.2.1, su.2.2.2.2.2.2.2.1, su.2.2.2.2.2.2.2.2.1, su.2.2.2.2.2.2.2.2.2.1, su.2.2.2.2.2.2.2.2.2.2.1, su.2.2.2.2.2.2.2.2.2.2.2.1, su.2.2.2.2.2.2.2.2.2.2.2.2, wo) i).2.2.2.2.2.2.2.2.2.2.2.2.2.2.2.2.2.2.2.2.2.2.2.2.2.2.2.2.2.2.2.2.2.1) ∧ zBo ((lp_X6_perform_10_210 la.2.2.2.2.2.1 la.2.2.2.2.2.2.2.1 la.2.2.2.2.2.2.2.2.1 la.2.2.2.2.2.2.2.2.2.1 la.2.2.2.2.2.2.2.2.2.2.1 sc.2.1 sc.2.2.1 sc.2.2.2.1 se.2.1 se.2.2.2.1 su.2.1 su.2.2.1 su.2.2.2.1 su.2.2.2.2.1 ns nu nc k (al.1, al.2.1, al.2.2.1, al.2.2.2.1, al.2.2.2.2.1, al.2.2.2.2.2.1, al.2.2.2.2.2.2.1, al.2.2.2.2.2.2.2.1, al.2.2.2.2.2.2.2.2.1, al.2.2.2.2.2.2.2.2.2.1, al.2.2.2.2.2.2.2.2.2.2.1, al.2.2.2.2.2.2.2.2.2.2.2.1, al.2.2.2.2.2.2.2.2.2.2.2.2.1, al.2.2.2.2.2.2.2.2.2.2.2.2.2, la.1, la.2.1, la.2.2.1, la.2.2.2.1, la.2.2.2.2.1, la.2.2.2.2.2.2.1, la.2.2.2.2.2.2.2.2.2.2.2.1, la.2.2.2.2.2.2.2.2.2.2.2.2.1, la.2.2.2.2.2.2.2.2.2.2.2.2.2, ou, sc.1, sc.2.2.2.2, se.1, se.2.2.1, se.2.2.2.2.1, se.2.2.2.2.2.1, se.2.2.2.2.2.2.1, se.2.2.2.2.2.2.2.1, se.2.2.2.2.2.2.2.2.2, su.1, su.2.2.2.2.2.2.1, su.2.2.2.2.2.2.2.1, su.2.2.2.2.2.2.2.2.1, su.2.2.2.2.2.2.2.2.2.1, su.2.2.2.2.2.2.2.2.2.2.1, su.2.2.2.2.2.2.2.2.2.2.2.1, su.2.2.2.2.2.2.2.2.2.2.2.2, wo) i).2.2.2.2.2.2.2.2.2.2.2.2.2.2.2.2.2.2.2.2.2.2.2.2.1) ∧ ((lp_X6_perform_10_210 la.2.2.2.2.2.1 la.2.2.2.2.2.2.2.1 la.2.2.2.2.2.2.2.2.1 la.2.2.2.2.2.2.2.2.2.1 la.2.2.2.2.2.2.2.2.2.2.1 sc.2.1 sc.2.2.1 sc.2.2.2.1 se.2.1 se.2.2.2.1 su.2.1 su.2.2.1 su.2.2.2.1 su.2.2.2.2.1 ns nu nc k (al.1, al.2.1, al.2.2.1, al.2.2.2.1, al.2.2.2.2.1, al.2.2.2.2.2.1, al.2.2.2.2.2.2.1, al.2.2.2.2.2.2.2.1, al.2.2.2.2.2.2.2.2.1, al.2.2.2.2.2.2.2.2.2.1, al.2.2.2.2.2.2.2.2.2.2.1, al.2.2.2.2.2.2.2.2.2.2.2.1, al.2.2.2.2.2.2.2.2.2.2.2.2.1, al.2.2.2.2.2.2.2.2.2.2.2.2.2, la.1, la.2.1, la.2.2.1, la.2.2.2.1, la.2.2.2.2.1, la.2.2.2.2.2.2.1, la.2.2.2.2.2.2.2.2.2.2.2.1, la.2.2.2.2.2.2.2.2.2.2.2.2.1, la.2.2.2.2.2.2.2.2.2.2.2.2.2, ou, sc.1, sc.2.2.2.2, se.1, se.2.2.1, se.2.2.2.2.1, se.2.2.2.2.2.1, se.2.2.2.2.2.2.1, se.2.2.2.2.2.2.2.1, se.2.2.2.2.2.2.2.2.2, su.1, su.2.2.2.2.2.2.1, su.2.2.2.2.2.2.2.1, su.2.2.2.2.2.2.2.2.1, su.2.2.2.2.2.2.2.2.2.1, su.2.2.2.2.2.2.2.2.2.2.1, su.2.2.2.2.2.2.2.2.2.2.2.1, su.2.2.2.2.2.2.2.2.2.2.2.2, wo) i).2.2.2.2.2.2.2.2.2.2.2.2.2.2.2.2.2.2.2.2.2.2.2.2.2.2.2.2.2.2.2.2.2.2.2.2.2.2.2.2.2) = nI (hr + i) := by
  intro i
  induction i with
  | zero => rw [lp_X6_perform_10_210_0]; exact ⟨hsu, hsc, hwo⟩
  | succ i ih =>
    obtain ⟨j1, j2, j3⟩ := ih
    rw [lp_X6_perform_10_210_s]
    exact ⟨zbo_warn j1 nu, zBo_ite (zBo_ite j2 (zbo_dec j2 nc)) j2, by rw [← Nat.add_assoc]; exact zpi5 j3⟩
def zSf (hr : Nat) (v : zWv) : Prop := zW10 v ∧ kv v ≤ 4 ∧ v.1 = nI hr ∧ hr ≤ 999 ∧ v.2.2.2.2.2.1.2.2.2.2.2.2.2.2.2.1 ≤ 12 * hr ∧ (v.2.2.2.2.2.1.2.2.2.2.2.2.2.2.2.2.1 ≤ 32 ∨ v.2.2.2.2.2.1.2.2.2.2.2.2.2.2.2.2.1 ≤ 24 * hr) ∧ zBo v.2.2.2.2.2.1.1 ∧ zBo v.2.2.2.2.2.2.1
def zck (aq : zAcs) (kd : Int32) : Nat → Nat
  | 0 => 0
  | j + 1 => zck aq kd j + (if aq.2.1 j = kd then 1 else 0)
def zch (aq : zAcs) : Nat → Nat
  | 0 => 0
  | j + 1 => zch aq j + (if aq.2.1 j = (10 : Int32) then (aq.2.2.1 j).toNatClampNeg else 0)
def zA1 (hr ns nu nc : Nat) (x : zAct) : Prop := (x.1 = (1 : Int32) ∧ vp_in x.2.1 48) ∨ (x.1 = (2 : Int32) ∧ vp_in x.2.1 48) ∨ (x.1 = (3 : Int32) ∧ x.2.2.2.1 = nI x.2.2.2.1.toNatClampNeg ∧ x.2.2.2.1.toNatClampNeg ≤ 4) ∨ (x.1 = (4 : Int32)) ∨ (x.1 = (5 : Int32) ∧ vp_in x.2.1 48 ∧ vp_in x.2.2.1 3) ∨ (x.1 = (6 : Int32) ∧ vp_in x.2.1 48 ∧ ns < 10) ∨ (x.1 = (7 : Int32) ∧ vp_in x.2.1 10) ∨ (x.1 = (8 : Int32) ∧ vp_in x.2.1 48 ∧ nu < 12) ∨ (x.1 = (9 : Int32) ∧ vp_in x.2.1 48 ∧ nc < 6) ∨ (x.1 = (10 : Int32) ∧ x.2.1 = nI x.2.1.toNatClampNeg ∧ x.2.1.toNatClampNeg ≤ 24 ∧ hr + x.2.1.toNatClampNeg ≤ 999)
theorem zA1_va {hr : Nat} {v : zWv} {x : zAct} (s : zSf hr v) (h : zA1 hr (nsv v) (nuv v) (ncv v) x) : zVa v x := by
  obtain ⟨w, -⟩ := s
  rcases h with ⟨h, hp⟩ | ⟨h, hp⟩ | ⟨h, -, -⟩ | h | ⟨h, hp, hc⟩ | ⟨h, hp, hn⟩ | ⟨h, hp⟩ | ⟨h, hp, hn⟩ | ⟨h, hp, hn⟩ | ⟨h, hn, h24, -⟩
  · exact Or.inl ⟨h, hp⟩
  · exact Or.inr (Or.inl ⟨h, hp⟩)
  · exact Or.inr (Or.inr (Or.inl h))
  · exact Or.inr (Or.inr (Or.inr (Or.inl h)))
  · exact Or.inr (Or.inr (Or.inr (Or.inr (Or.inl ⟨h, hp, hc⟩))))
  · exact Or.inr (Or.inr (Or.inr (Or.inr (Or.inr (Or.inl ⟨h, w.hcs, hn⟩)))))
  · exact Or.inr (Or.inr (Or.inr (Or.inr (Or.inr (Or.inr (Or.inl ⟨h, w.hcs, w.hns, hp⟩))))))
  · exact Or.inr (Or.inr (Or.inr (Or.inr (Or.inr (Or.inr (Or.inr (Or.inl ⟨h, w.hcu, hn⟩)))))))
  · exact Or.inr (Or.inr (Or.inr (Or.inr (Or.inr (Or.inr (Or.inr (Or.inr (Or.inl ⟨h, w.hcc, hn⟩))))))))
  · exact Or.inr (Or.inr (Or.inr (Or.inr (Or.inr (Or.inr (Or.inr (Or.inr (Or.inr ⟨h, w, hn, h24⟩))))))))
set_option maxHeartbeats 4000000 in
theorem zstep {hr : Nat} {v : zWv} {x : zAct} (s : zSf hr v) (h : zA1 hr (nsv v) (nuv v) (ncv v) x) : zSf (hr + (if x.1 = (10 : Int32) then x.2.1.toNatClampNeg else 0)) (zap v x) ∧ nsv (zap v x) = nsv v + (if x.1 = (6 : Int32) then 1 else 0) ∧ nuv (zap v x) = nuv v + (if x.1 = (8 : Int32) then 1 else 0) ∧ ncv (zap v x) = ncv v + (if x.1 = (9 : Int32) then 1 else 0) ∧ zcap v ≤ zcap (zap v x) := by
  obtain ⟨kd, a⟩ := x
  obtain ⟨w, k4, hwo, h9, hse, hca, hbu, hbs⟩ := s
  rcases h with ⟨h, hp⟩ | ⟨h, hp⟩ | ⟨h, hn, h4⟩ | h | ⟨h, hp, hc⟩ | ⟨h, hp, hn⟩ | ⟨h, hp⟩ | ⟨h, hp, hn⟩ | ⟨h, hp, hn⟩ | ⟨h, hn, h24, hm⟩
  · change kd = (1 : Int32) at h
    subst h
    rw [zap_1]
    show zSf (hr + (if (1 : Int32) = (10 : Int32) then a.1.toNatClampNeg else 0)) _ ∧ _ = _ + (if (1 : Int32) = (6 : Int32) then 1 else 0) ∧ _ = _ + (if (1 : Int32) = (8 : Int32) then 1 else 0) ∧ _ = _ + (if (1 : Int32) = (9 : Int32) then 1 else 0) ∧ _
    rw [if_neg (by decide : ¬ (1 : Int32) = (10 : Int32)), if_neg (by decide : ¬ (1 : Int32) = (6 : Int32)), if_neg (by decide : ¬ (1 : Int32) = (8 : Int32)), if_neg (by decide : ¬ (1 : Int32) = (9 : Int32))]
    exact ⟨⟨w, k4, hwo, h9, hse, hca, hbu, hbs⟩, rfl, rfl, rfl, Nat.le_refl _⟩
  · change kd = (2 : Int32) at h
    subst h
    rw [zap_2]
    show zSf (hr + (if (2 : Int32) = (10 : Int32) then a.1.toNatClampNeg else 0)) _ ∧ _ = _ + (if (2 : Int32) = (6 : Int32) then 1 else 0) ∧ _ = _ + (if (2 : Int32) = (8 : Int32) then 1 else 0) ∧ _ = _ + (if (2 : Int32) = (9 : Int32) then 1 else 0) ∧ _
    rw [if_neg (by decide : ¬ (2 : Int32) = (10 : Int32)), if_neg (by decide : ¬ (2 : Int32) = (6 : Int32)), if_neg (by decide : ¬ (2 : Int32) = (8 : Int32)), if_neg (by decide : ¬ (2 : Int32) = (9 : Int32))]
    exact ⟨⟨w, k4, hwo, h9, hse, hca, hbu, hbs⟩, rfl, rfl, rfl, Nat.le_refl _⟩
  · change kd = (3 : Int32) at h
    subst h
    rw [zap_3]
    show zSf (hr + (if (3 : Int32) = (10 : Int32) then a.1.toNatClampNeg else 0)) _ ∧ _ = _ + (if (3 : Int32) = (6 : Int32) then 1 else 0) ∧ _ = _ + (if (3 : Int32) = (8 : Int32) then 1 else 0) ∧ _ = _ + (if (3 : Int32) = (9 : Int32) then 1 else 0) ∧ _
    rw [if_neg (by decide : ¬ (3 : Int32) = (10 : Int32)), if_neg (by decide : ¬ (3 : Int32) = (6 : Int32)), if_neg (by decide : ¬ (3 : Int32) = (8 : Int32)), if_neg (by decide : ¬ (3 : Int32) = (9 : Int32))]
    exact ⟨⟨⟨w.hcs, w.hns, w.hT, w.hcu, w.hnu, w.hpu, w.hcc, w.hnc, w.hpc, w.hq, hn, Nat.lt_of_le_of_lt h4 (by decide), w.hbo, w.hC, w.hq0, w.ha0⟩, h4, hwo, h9, hse, hca, hbu, hbs⟩, rfl, rfl, rfl, Nat.le_refl _⟩
  · change kd = (4 : Int32) at h
    subst h
    rw [zap_4]
    show zSf (hr + (if (4 : Int32) = (10 : Int32) then a.1.toNatClampNeg else 0)) _ ∧ _ = _ + (if (4 : Int32) = (6 : Int32) then 1 else 0) ∧ _ = _ + (if (4 : Int32) = (8 : Int32) then 1 else 0) ∧ _ = _ + (if (4 : Int32) = (9 : Int32) then 1 else 0) ∧ _
    rw [if_neg (by decide : ¬ (4 : Int32) = (10 : Int32)), if_neg (by decide : ¬ (4 : Int32) = (6 : Int32)), if_neg (by decide : ¬ (4 : Int32) = (8 : Int32)), if_neg (by decide : ¬ (4 : Int32) = (9 : Int32))]
    exact ⟨⟨w, k4, hwo, h9, hse, hca, hbu, hbs⟩, rfl, rfl, rfl, Nat.le_refl _⟩
  · change kd = (5 : Int32) at h
    subst h
    rw [zap_5]
    show zSf (hr + (if (5 : Int32) = (10 : Int32) then a.1.toNatClampNeg else 0)) _ ∧ _ = _ + (if (5 : Int32) = (6 : Int32) then 1 else 0) ∧ _ = _ + (if (5 : Int32) = (8 : Int32) then 1 else 0) ∧ _ = _ + (if (5 : Int32) = (9 : Int32) then 1 else 0) ∧ _
    rw [if_neg (by decide : ¬ (5 : Int32) = (10 : Int32)), if_neg (by decide : ¬ (5 : Int32) = (6 : Int32)), if_neg (by decide : ¬ (5 : Int32) = (8 : Int32)), if_neg (by decide : ¬ (5 : Int32) = (9 : Int32))]
    have q : ∀ j0, j0 < 3 → vp_in (upd v.2.1.2.2.2.2.2.1 a.2.1.toNatClampNeg a.1 j0) 48 := by
      intro j0 hj
      by_cases e : j0 = a.2.1.toNatClampNeg
      · rw [e, upd_i]; exact hp
      · rw [upd_o e]; exact w.hq j0 hj
    exact ⟨⟨⟨w.hcs, w.hns, w.hT, w.hcu, w.hnu, w.hpu, w.hcc, w.hnc, w.hpc, q, w.hw, w.hk, w.hbo, w.hC, w.hq0, w.ha0⟩, k4, hwo, h9, hse, hca, hbu, hbs⟩, rfl, rfl, rfl, Nat.le_refl _⟩
  · change kd = (6 : Int32) at h
    subst h
    rw [zap_6]
    show zSf (hr + (if (6 : Int32) = (10 : Int32) then a.1.toNatClampNeg else 0)) _ ∧ _ = _ + (if (6 : Int32) = (6 : Int32) then 1 else 0) ∧ _ = _ + (if (6 : Int32) = (8 : Int32) then 1 else 0) ∧ _ = _ + (if (6 : Int32) = (9 : Int32) then 1 else 0) ∧ _
    rw [if_neg (by decide : ¬ (6 : Int32) = (10 : Int32)), if_pos (by decide : (6 : Int32) = (6 : Int32)), if_neg (by decide : ¬ (6 : Int32) = (8 : Int32)), if_neg (by decide : ¬ (6 : Int32) = (9 : Int32))]
    have e : v.2.2.2.2.1.2.2.2.2.2.2.2.2.1 + (1 : Int32) = nI (nsv v + 1) := zpi5 w.hcs
    have e2 : (v.2.2.2.2.1.2.2.2.2.2.2.2.2.1 + (1 : Int32)).toNatClampNeg = nsv v + 1 := by rw [e, nI_clamp (by omega)]
    exact ⟨⟨⟨e.trans (congrArg nI e2.symm), Nat.le_trans (Nat.le_of_eq e2) hn, zTR_upd w.hT (by decide) _, w.hcu, w.hnu, w.hpu, w.hcc, w.hnc, w.hpc, w.hq, w.hw, w.hk, w.hbo, w.hC, w.hq0, w.ha0⟩, k4, hwo, h9, hse, hca, hbu, hbs⟩, e2, rfl, rfl, Nat.le_refl _⟩
  · change kd = (7 : Int32) at h
    subst h
    rw [zap_7]
    show zSf (hr + (if (7 : Int32) = (10 : Int32) then a.1.toNatClampNeg else 0)) _ ∧ _ = _ + (if (7 : Int32) = (6 : Int32) then 1 else 0) ∧ _ = _ + (if (7 : Int32) = (8 : Int32) then 1 else 0) ∧ _ = _ + (if (7 : Int32) = (9 : Int32) then 1 else 0) ∧ _
    rw [if_neg (by decide : ¬ (7 : Int32) = (10 : Int32)), if_neg (by decide : ¬ (7 : Int32) = (6 : Int32)), if_neg (by decide : ¬ (7 : Int32) = (8 : Int32)), if_neg (by decide : ¬ (7 : Int32) = (9 : Int32))]
    exact ⟨⟨w, k4, hwo, h9, hse, hca, hbu, hbs⟩, rfl, rfl, rfl, Nat.le_refl _⟩
  · change kd = (8 : Int32) at h
    subst h
    rw [zap_8]
    show zSf (hr + (if (8 : Int32) = (10 : Int32) then a.1.toNatClampNeg else 0)) _ ∧ _ = _ + (if (8 : Int32) = (6 : Int32) then 1 else 0) ∧ _ = _ + (if (8 : Int32) = (8 : Int32) then 1 else 0) ∧ _ = _ + (if (8 : Int32) = (9 : Int32) then 1 else 0) ∧ _
    rw [if_neg (by decide : ¬ (8 : Int32) = (10 : Int32)), if_neg (by decide : ¬ (8 : Int32) = (6 : Int32)), if_pos (by decide : (8 : Int32) = (8 : Int32)), if_neg (by decide : ¬ (8 : Int32) = (9 : Int32))]
    have e : v.2.2.2.2.2.1.2.2.2.2.2.1 + (1 : Int32) = nI (nuv v + 1) := zpi5 w.hcu
    have e2 : (v.2.2.2.2.2.1.2.2.2.2.2.1 + (1 : Int32)).toNatClampNeg = nuv v + 1 := by rw [e, nI_clamp (by omega)]
    have q : ∀ j0, j0 < nuv v + 1 → vp_in (upd v.2.2.2.2.2.1.2.1 (nuv v) a.1 j0) 48 := by
      intro j0 hj
      by_cases e : j0 = nuv v
      · rw [e, upd_i]; exact hp
      · rw [upd_o e]; exact w.hpu j0 (by omega)
    exact ⟨⟨⟨w.hcs, w.hns, w.hT, e.trans (congrArg nI e2.symm), Nat.le_trans (Nat.le_of_eq e2) hn, fun j0 hj => q j0 (Nat.lt_of_lt_of_eq hj e2), w.hcc, w.hnc, w.hpc, w.hq, w.hw, w.hk, w.hbo, w.hC, w.hq0, w.ha0⟩, k4, hwo, h9, hse, hca, hbu, hbs⟩, rfl, e2, rfl, Nat.le_refl _⟩
  · change kd = (9 : Int32) at h
    subst h
    rw [zap_9]
    show zSf (hr + (if (9 : Int32) = (10 : Int32) then a.1.toNatClampNeg else 0)) _ ∧ _ = _ + (if (9 : Int32) = (6 : Int32) then 1 else 0) ∧ _ = _ + (if (9 : Int32) = (8 : Int32) then 1 else 0) ∧ _ = _ + (if (9 : Int32) = (9 : Int32) then 1 else 0) ∧ _
    rw [if_neg (by decide : ¬ (9 : Int32) = (10 : Int32)), if_neg (by decide : ¬ (9 : Int32) = (6 : Int32)), if_neg (by decide : ¬ (9 : Int32) = (8 : Int32)), if_pos (by decide : (9 : Int32) = (9 : Int32))]
    have e : v.2.2.2.2.2.2.2.2.2.1 + (1 : Int32) = nI (ncv v + 1) := zpi5 w.hcc
    have e2 : (v.2.2.2.2.2.2.2.2.2.1 + (1 : Int32)).toNatClampNeg = ncv v + 1 := by rw [e, nI_clamp (by omega)]
    have q : ∀ j0, j0 < ncv v + 1 → vp_in (upd v.2.2.2.2.2.2.2.1 (ncv v) a.1 j0) 48 := by
      intro j0 hj
      by_cases e : j0 = ncv v
      · rw [e, upd_i]; exact hp
      · rw [upd_o e]; exact w.hpc j0 (by omega)
    exact ⟨⟨⟨w.hcs, w.hns, w.hT, w.hcu, w.hnu, w.hpu, e.trans (congrArg nI e2.symm), Nat.le_trans (Nat.le_of_eq e2) hn, fun j0 hj => q j0 (Nat.lt_of_lt_of_eq hj e2), w.hq, w.hw, w.hk, w.hbo, w.hC, w.hq0, w.ha0⟩, k4, hwo, h9, hse, hca, hbu, zBo_upd hbs (by decide) _⟩, rfl, rfl, e2, Nat.le_refl _⟩
  · change kd = (10 : Int32) at h
    subst h
    rw [zap_10]
    show zSf (hr + (if (10 : Int32) = (10 : Int32) then a.1.toNatClampNeg else 0)) _ ∧ _ = _ + (if (10 : Int32) = (6 : Int32) then 1 else 0) ∧ _ = _ + (if (10 : Int32) = (8 : Int32) then 1 else 0) ∧ _ = _ + (if (10 : Int32) = (9 : Int32) then 1 else 0) ∧ _
    rw [if_pos (by decide : (10 : Int32) = (10 : Int32)), if_neg (by decide : ¬ (10 : Int32) = (6 : Int32)), if_neg (by decide : ¬ (10 : Int32) = (8 : Int32)), if_neg (by decide : ¬ (10 : Int32) = (9 : Int32))]
    have h24 : a.1.toNatClampNeg ≤ 24 := h24
    have hm : hr + a.1.toNatClampNeg ≤ 999 := hm
    obtain ⟨p1, p2, p3, p4, p5, p6⟩ := zpk (ns := nsv v) (nc := ncv v) (k := kv v) v.2.1 v.2.2.1 v.2.2.2.1 v.2.2.2.2.1 v.2.2.2.2.2.1 v.2.2.2.2.2.2 v.1 w.hnu w.hT w.hC w.hq0 w.ha0 w.hbo a.1.toNatClampNeg h24
    obtain ⟨q1, q2, q3⟩ := zpk2 (ns := nsv v) (nu := nuv v) (nc := ncv v) (k := kv v) v.2.1 v.2.2.1 v.2.2.2.1 v.2.2.2.2.1 v.2.2.2.2.2.1 v.2.2.2.2.2.2 v.1 hbu hbs hwo a.1.toNatClampNeg
    exact ⟨⟨⟨w.hcs, w.hns, p1, w.hcu, w.hnu, w.hpu, w.hcc, w.hnc, w.hpc, w.hq, w.hw, w.hk, p6, p2, Nat.le_trans p3 (by omega), p5.elim (fun z => Nat.le_trans z w.ha0) (fun z => Nat.le_trans z (by omega))⟩, k4, q3, hm, Nat.le_trans p3 (by omega), p5.elim (fun z => hca.elim (fun y => Or.inl (Nat.le_trans z y)) (fun y => Or.inr (Nat.le_trans z (by omega)))) (fun z => Or.inr (Nat.le_trans z (by omega))), q1, q2⟩, rfl, rfl, rfl, p4⟩

