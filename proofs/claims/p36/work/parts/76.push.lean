def zpush (aq : zAcs) (x : zAct) : zAcs := (aq.1 + 1, upd aq.2.1 aq.1 x.1, upd aq.2.2.1 aq.1 x.2.1, upd aq.2.2.2.1 aq.1 x.2.2.1, upd aq.2.2.2.2.1 aq.1 x.2.2.2.1, upd aq.2.2.2.2.2 aq.1 x.2.2.2.2)
theorem zact_push {aq : zAcs} {x : zAct} {j : Nat} (hj : j < aq.1) : zact (zpush aq x) j = zact aq j := by
  unfold zact zpush
  dsimp only
  rw [upd_o (Nat.ne_of_lt hj), upd_o (Nat.ne_of_lt hj), upd_o (Nat.ne_of_lt hj), upd_o (Nat.ne_of_lt hj), upd_o (Nat.ne_of_lt hj)]
theorem zact_new {aq : zAcs} {x : zAct} : zact (zpush aq x) aq.1 = x := by
  unfold zact zpush
  dsimp only
  rw [upd_i, upd_i, upd_i, upd_i, upd_i]
theorem zck_push {aq : zAcs} {x : zAct} {kd : Int32} : ∀ j, j ≤ aq.1 → zck (zpush aq x) kd j = zck aq kd j
  | 0, _ => rfl
  | j + 1, hj => by
    have h : (zpush aq x).2.1 j = aq.2.1 j := upd_o (Nat.ne_of_lt hj)
    rw [zck, zck, zck_push j (by omega), h]
theorem zch_push {aq : zAcs} {x : zAct} : ∀ j, j ≤ aq.1 → zch (zpush aq x) j = zch aq j
  | 0, _ => rfl
  | j + 1, hj => by
    have h : (zpush aq x).2.1 j = aq.2.1 j := upd_o (Nat.ne_of_lt hj)
    have h2 : (zpush aq x).2.2.1 j = aq.2.2.1 j := upd_o (Nat.ne_of_lt hj)
    rw [zch, zch, zch_push j (by omega), h, h2]
theorem zAcOk_push {aq : zAcs} {x : zAct} (h : zAcOk aq) (hx : zA1 (zch aq aq.1) (zck aq (6 : Int32) aq.1) (zck aq (8 : Int32) aq.1) (zck aq (9 : Int32) aq.1) x) : zAcOk (zpush aq x) := by
  intro j hj
  have hj : j < aq.1 + 1 := hj
  rw [zch_push j (by omega), zck_push j (by omega), zck_push j (by omega), zck_push j (by omega)]
  rcases Nat.lt_or_ge j aq.1 with q | q
  · rw [zact_push q]; exact h j q
  · have e : j = aq.1 := by omega
    rw [e, zact_new]; exact hx
theorem zAtJ_push {aq : zAcs} {x : zAct} {j : Nat} (hj : j ≤ aq.1) {v : zWv} (s : zAtJ aq j v) : zAtJ (zpush aq x) j v := by
  unfold zAtJ at s ⊢
  rw [zch_push j hj, zck_push j hj, zck_push j hj, zck_push j hj]
  exact s
/-- a new act, done now -/
theorem zAtJ_new {aq : zAcs} {x : zAct} (h : zAcOk aq) (hx : zA1 (zch aq aq.1) (zck aq (6 : Int32) aq.1) (zck aq (8 : Int32) aq.1) (zck aq (9 : Int32) aq.1) x) {v : zWv} (s : zAtJ aq aq.1 v) : zAtJ (zpush aq x) (aq.1 + 1) (zap v x) := by
  have h1 := (zAtJ_s (zAcOk_push h hx) (Nat.lt_succ_self aq.1) (zAtJ_push (Nat.le_refl _) s)).2.1
  rwa [zact_new] at h1
