theorem zcnt (f : Nat → Int32) : ∀ n : Nat, ∃ t : Nat, t ≤ n ∧ r_X4_counting f n = nI t := by
  intro n
  unfold r_X4_counting
  induction n with
  | zero => exact ⟨0, Nat.le_refl _, by rw [lp_X4_counting_4_0] <;> rfl⟩
  | succ n ih =>
    obtain ⟨t, h1, h2⟩ := ih
    rw [lp_X4_counting_4_s, h2]
    unfold st_X4_counting_4
    by_cases c : f n = (0 : Int32)
    · rw [if_pos c, nI_1]; exact ⟨t + 1, by omega, rfl⟩
    · rw [if_neg c]; exact ⟨t, by omega, rfl⟩
theorem zmcnt (f : Nat → Int32) : ∀ n : Nat, ∃ t : Nat, t ≤ n ∧ lp_X12_trustShare_12 f (0 : Int32) n = nI t := by
  intro n
  induction n with
  | zero => exact ⟨0, Nat.le_refl _, by rw [lp_X12_trustShare_12_0] <;> rfl⟩
  | succ n ih =>
    obtain ⟨t, h1, h2⟩ := ih
    rw [lp_X12_trustShare_12_s, h2]
    unfold st_X12_trustShare_12
    by_cases c : f n = (0 : Int32)
    · rw [if_pos c, nI_1]; exact ⟨t + 1, by omega, rfl⟩
    · rw [if_neg c, show nI t + (0 : Int32) = nI t from Int32.add_zero _]; exact ⟨t, by omega, rfl⟩
theorem zcshare {f : Nat → Int32} {c : Int32} {n : Nat} (hc : c = nI n) (hn : n ≤ 10) : (c = (0 : Int32) ∨ vf_n32 (FP.fdiv (FP.i2f (r_X4_counting f n)) (FP.i2f c))) ∧ (c = (0 : Int32) ∨ vf_n64 (FP.f2d (FP.fdiv (FP.i2f (r_X4_counting f n)) (FP.i2f c)))) := by
  subst hc
  obtain ⟨t, h1, h2⟩ := zcnt f n
  rw [h2]
  rcases Nat.eq_zero_or_pos n with z | z
  · subst z; exact ⟨Or.inl rfl, Or.inl rfl⟩
  · have h := zfshare t (by omega) n (by omega) z
    exact ⟨Or.inr h.1, Or.inr h.2⟩
theorem zmshare {f : Nat → Int32} {n : Nat} (hn : n ≤ 10) : ¬ r_Jx4a65c_isEmpty_aae02 (nI n) = (0 : Int32) ∨ vf_n32 (FP.fdiv (FP.i2f (lp_X12_trustShare_12 f (0 : Int32) n)) (FP.i2f (nI n))) := by
  obtain ⟨t, h1, h2⟩ := zmcnt f n
  rw [h2]
  rcases Nat.eq_zero_or_pos n with z | z
  · subst z; exact Or.inl (by decide)
  · exact Or.inr (zfshare t (by omega) n (by omega) z).1
/-- the acts noted so far may come one after the other -/
def zAcOk (aq : zAcs) : Prop := ∀ j, j < aq.1 → zA1 (zch aq j) (zck aq (6 : Int32) j) (zck aq (8 : Int32) j) (zck aq (9 : Int32) j) (zact aq j)
/-- a safe world that stands where j acts have been -/
def zAtJ (aq : zAcs) (j : Nat) (v : zWv) : Prop := zSf (zch aq j) v ∧ nsv v = zck aq (6 : Int32) j ∧ nuv v = zck aq (8 : Int32) j ∧ ncv v = zck aq (9 : Int32) j
theorem zAtJ_s {aq : zAcs} (h : zAcOk aq) {j : Nat} (hj : j < aq.1) {v : zWv} (s : zAtJ aq j v) : zVa v (zact aq j) ∧ zAtJ aq (j + 1) (zap v (zact aq j)) ∧ zcap v ≤ zcap (zap v (zact aq j)) := by
  obtain ⟨s, e1, e2, e3⟩ := s
  have a := h j hj
  rw [← e1, ← e2, ← e3] at a
  obtain ⟨s2, f1, f2, f3, f4⟩ := zstep s a
  exact ⟨zA1_va s a, ⟨s2, f1.trans (congrArg (· + _) e1), f2.trans (congrArg (· + _) e2), f3.trans (congrArg (· + _) e3)⟩, f4⟩
theorem zrep_at {aq : zAcs} (h : zAcOk aq) {r : Nat} {v : zWv} (s : zAtJ aq r v) : ∀ j, j ≤ aq.1 - r → zAtJ aq (r + j) (zrep aq r v j) := by
  intro j
  induction j with
  | zero => exact fun _ => s
  | succ j ih => exact fun hj => (zAtJ_s h (by omega) (ih (by omega))).2.1
theorem zrep_va {aq : zAcs} (h : zAcOk aq) {r : Nat} {v : zWv} (s : zAtJ aq r v) (j : Nat) (hj : j < aq.1 - r) : zVa (zrep aq r v j) (zact aq (r + j)) := (zAtJ_s h (by omega) (zrep_at h s j (by omega))).1
theorem zrep_cap {aq : zAcs} (h : zAcOk aq) {r : Nat} {v : zWv} (s : zAtJ aq r v) (j : Nat) (hj : j < aq.1 - r) : zcap (zrep aq r v j) ≤ zcap (zrep aq r v (j + 1)) := (zAtJ_s h (by omega) (zrep_at h s j (by omega))).2.2
