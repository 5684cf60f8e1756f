/-! the sensors, class and reference alike -/
theorem zuu {f : Nat → Int32} {i : Nat} {x y : Int32} : upd (upd f i x) i y = upd f i y := by
  funext k
  by_cases e : k = i
  · rw [e, upd_i, upd_i]
  · rw [upd_o e, upd_o e, upd_o e]
/-- does a reading q agree with a mean a (the reference's words) -/
def zAg (q a : Int32) : Int32 := (if (if (20 : Int32) < (a / (2 : Int32)) then (a / (2 : Int32)) else (20 : Int32)) < (if 0 ≤ (q - a) then (q - a) else 0 - (q - a)) then (0 : Int32) else (1 : Int32))
def zR1 (A out row : Int32) : Int32 := if A = out then row + (1 : Int32) else (0 : Int32)
def zLim (out : Int32) : Int32 := if out = (0 : Int32) then (2 : Int32) else (3 : Int32)
def zTq (A t : Int32) : Int32 := if A = (0 : Int32) then (if (0 : Int32) < (t - (20 : Int32)) then (t - (20 : Int32)) else (0 : Int32)) else (if (t + (10 : Int32)) < (100 : Int32) then (t + (10 : Int32)) else (100 : Int32))
theorem je5 {va row out : Nat → Int32} {i : Nat} {a : Int32} : g_X12_judge__se_5 va row out i a = upd row i (if zLim (out i) ≤ zR1 (zAg (va i) a) (out i) (row i) then (0 : Int32) else zR1 (zAg (va i) a) (out i) (row i)) := by
  show (if zLim (out i) ≤ (upd row i (zR1 (zAg (va i) a) (out i) (row i))) i then upd (upd row i (zR1 (zAg (va i) a) (out i) (row i))) i (0 : Int32) else upd row i (zR1 (zAg (va i) a) (out i) (row i))) = _
  rw [upd_i, zuu]
  by_cases c : zLim (out i) ≤ zR1 (zAg (va i) a) (out i) (row i)
  · rw [if_pos c, if_pos c]
  · rw [if_neg c, if_neg c]
theorem je6 {va row out : Nat → Int32} {i : Nat} {a : Int32} : g_X12_judge__se_6 va row out i a = upd out i (if zLim (out i) ≤ zR1 (zAg (va i) a) (out i) (row i) then (if out i = (0 : Int32) then (1 : Int32) else (0 : Int32)) else out i) := by
  show (if zLim (out i) ≤ (upd row i (zR1 (zAg (va i) a) (out i) (row i))) i then upd out i (if out i = (0 : Int32) then (1 : Int32) else (0 : Int32)) else out) = _
  rw [upd_i]
  by_cases c : zLim (out i) ≤ zR1 (zAg (va i) a) (out i) (row i)
  · rw [if_pos c, if_pos c]
  · rw [if_neg c, if_neg c]
    funext k
    by_cases e : k = i
    · rw [e, upd_i]
    · rw [upd_o e]
theorem je3 {tr va row out : Nat → Int32} {i : Nat} {a : Int32} : g_X12_judge__se_3 tr va row out i a = upd tr i (if zLim (out i) ≤ zR1 (zAg (va i) a) (out i) (row i) then (if (if out i = (0 : Int32) then (1 : Int32) else (0 : Int32)) = (0 : Int32) then (30 : Int32) else zTq (zAg (va i) a) (tr i)) else zTq (zAg (va i) a) (tr i)) := by
  show (if zLim (out i) ≤ (upd row i (zR1 (zAg (va i) a) (out i) (row i))) i then upd (upd tr i (zTq (zAg (va i) a) (tr i))) i (if (upd out i (if out i = (0 : Int32) then (1 : Int32) else (0 : Int32))) i = (0 : Int32) then (30 : Int32) else (upd tr i (zTq (zAg (va i) a) (tr i))) i) else upd tr i (zTq (zAg (va i) a) (tr i))) = _
  rw [upd_i, zuu, upd_i, upd_i]
  by_cases c : zLim (out i) ≤ zR1 (zAg (va i) a) (out i) (row i)
  · rw [if_pos c, if_pos c]
  · rw [if_neg c, if_neg c]
theorem je7 {va wd : Nat → Int32} {i : Nat} {a : Int32} : g_X12_judge__se_7 va wd i a = upd wd i (if zAg (va i) a = (0 : Int32) then (1 : Int32) else (0 : Int32)) := rfl
def zInc (t : Int32) : Int32 := if (t + (10 : Int32)) ≤ (100 : Int32) then (t + (10 : Int32)) else (100 : Int32)
def zDec (t : Int32) : Int32 := if (0 : Int32) ≤ (t - (20 : Int32)) then (t - (20 : Int32)) else (0 : Int32)
section ZBE
variable {tr lo db ag : Nat → Int32} {i : Nat}
theorem be0 (hi : i < 10) : g_X4_believe_se_0 tr lo ag (nI i) = upd tr i (if lo i = (0 : Int32) then zInc (tr i) else (if ag i + (1 : Int32) < (3 : Int32) then zInc (tr i) else (30 : Int32))) := by
  unfold g_X4_believe_se_0
  rw [nI_clamp (by omega), upd_i, zuu]
  show (if lo i = (0 : Int32) then upd tr i (zInc (tr i)) else (if ag i + (1 : Int32) < (3 : Int32) then upd tr i (zInc (tr i)) else upd tr i (30 : Int32))) = _
  (repeat' split) <;> rfl
theorem be4 (hi : i < 10) : g_X4_believe_se_4 lo ag (nI i) = upd lo i (if lo i = (0 : Int32) then lo i else (if ag i + (1 : Int32) < (3 : Int32) then lo i else (0 : Int32))) := by
  unfold g_X4_believe_se_4
  rw [nI_clamp (by omega), upd_i]
  have q : upd lo i (lo i) = lo := by
    funext k
    by_cases e : k = i
    · rw [e, upd_i]
    · rw [upd_o e]
  by_cases c : lo i = (0 : Int32)
  · rw [if_pos c, if_pos c, q]
  · rw [if_neg c, if_neg c]
    by_cases d : ag i + (1 : Int32) < (3 : Int32)
    · rw [if_pos d, if_pos d, q]
    · rw [if_neg d, if_neg d]
theorem be5 (hi : i < 10) : g_X4_believe_se_5 db (nI i) = upd db i (0 : Int32) := by unfold g_X4_believe_se_5; rw [nI_clamp (by omega)]
theorem be6 (hi : i < 10) : g_X4_believe_se_6 ag (nI i) = upd ag i (ag i + (1 : Int32)) := by unfold g_X4_believe_se_6; rw [nI_clamp (by omega)]
theorem do0 (hi : i < 10) : g_X4_doubt_se_0 tr (nI i) = upd tr i (zDec (tr i)) := by unfold g_X4_doubt_se_0; rw [nI_clamp (by omega)]; rfl
theorem do4 (hi : i < 10) : g_X4_doubt_se_4 lo db (nI i) = upd lo i (if db i + (1 : Int32) < (2 : Int32) then lo i else (1 : Int32)) := by
  unfold g_X4_doubt_se_4
  rw [nI_clamp (by omega), upd_i]
  by_cases d : db i + (1 : Int32) < (2 : Int32)
  · rw [if_pos d, if_pos d]
    funext k
    by_cases e : k = i
    · rw [e, upd_i]
    · rw [upd_o e]
  · rw [if_neg d, if_neg d]
theorem do5 (hi : i < 10) : g_X4_doubt_se_5 db (nI i) = upd db i (db i + (1 : Int32)) := by unfold g_X4_doubt_se_5; rw [nI_clamp (by omega)]
theorem do6 (hi : i < 10) : g_X4_doubt_se_6 ag (nI i) = upd ag i (0 : Int32) := by unfold g_X4_doubt_se_6; rw [nI_clamp (by omega)]
end ZBE
/-- trust and state of one sensor: in the class, in the reference -/
def zStv (t lo db ag t' row out wd : Int32) : Prop := (∃ m, m ≤ 100 ∧ t = nI m ∧ t' = nI m) ∧ ((lo = (0 : Int32) ∧ out = (0 : Int32) ∧ ∃ d, d ≤ 1 ∧ db = nI d ∧ row = nI d ∧ wd = nI d) ∨ (lo = (1 : Int32) ∧ out = (1 : Int32) ∧ ∃ a, a ≤ 2 ∧ ag = nI a ∧ row = nI a))
theorem zinc : ∀ m, m < 101 → zInc (nI m) = nI (min (m + 10) 100) ∧ zTq (1 : Int32) (nI m) = nI (min (m + 10) 100) := by decide +kernel
theorem zdec : ∀ m, m < 101 → zDec (nI m) = nI (m - 20) ∧ zTq (0 : Int32) (nI m) = nI (m - 20) := by decide +kernel
theorem zagree {t lo db ag t' row out wd : Int32} (h : zStv t lo db ag t' row out wd) : zStv (if lo = (0 : Int32) then zInc t else (if ag + (1 : Int32) < (3 : Int32) then zInc t else (30 : Int32))) (if lo = (0 : Int32) then lo else (if ag + (1 : Int32) < (3 : Int32) then lo else (0 : Int32))) (0 : Int32) (ag + (1 : Int32)) (if zLim out ≤ zR1 (1 : Int32) out row then (if (if out = (0 : Int32) then (1 : Int32) else (0 : Int32)) = (0 : Int32) then (30 : Int32) else zTq (1 : Int32) t') else zTq (1 : Int32) t') (if zLim out ≤ zR1 (1 : Int32) out row then (0 : Int32) else zR1 (1 : Int32) out row) (if zLim out ≤ zR1 (1 : Int32) out row then (if out = (0 : Int32) then (1 : Int32) else (0 : Int32)) else out) (if (1 : Int32) = (0 : Int32) then (1 : Int32) else (0 : Int32)) := by
  obtain ⟨⟨m, hm, rfl, rfl⟩, ⟨rfl, rfl, d, hd, rfl, rfl, rfl⟩ | ⟨rfl, rfl, a, ha, rfl, rfl⟩⟩ := h
  · have q : ∀ x y : Int32, (if zLim (0 : Int32) ≤ zR1 (1 : Int32) (0 : Int32) (nI d) then x else y) = y := fun x y => by
      unfold zR1
      rw [if_neg (by decide : ¬ (1 : Int32) = (0 : Int32)), if_neg (by decide)]
    rw [q, q, q]
    exact ⟨⟨_, by omega, (zinc m (by omega)).1, (zinc m (by omega)).2⟩, Or.inl ⟨rfl, rfl, 0, by decide, rfl, rfl, rfl⟩⟩
  · rcases (by omega : a = 0 ∨ a = 1 ∨ a = 2) with rfl | rfl | rfl
    · exact ⟨⟨_, by omega, (zinc m (by omega)).1, (zinc m (by omega)).2⟩, Or.inr ⟨rfl, rfl, 1, by decide, rfl, rfl⟩⟩
    · exact ⟨⟨_, by omega, (zinc m (by omega)).1, (zinc m (by omega)).2⟩, Or.inr ⟨rfl, rfl, 2, by decide, rfl, rfl⟩⟩
    · exact ⟨⟨30, by decide, rfl, rfl⟩, Or.inl ⟨rfl, rfl, 0, by decide, rfl, rfl, rfl⟩⟩
theorem zdoubt {t lo db ag t' row out wd : Int32} (h : zStv t lo db ag t' row out wd) : zStv (zDec t) (if db + (1 : Int32) < (2 : Int32) then lo else (1 : Int32)) (db + (1 : Int32)) (0 : Int32) (if zLim out ≤ zR1 (0 : Int32) out row then (if (if out = (0 : Int32) then (1 : Int32) else (0 : Int32)) = (0 : Int32) then (30 : Int32) else zTq (0 : Int32) t') else zTq (0 : Int32) t') (if zLim out ≤ zR1 (0 : Int32) out row then (0 : Int32) else zR1 (0 : Int32) out row) (if zLim out ≤ zR1 (0 : Int32) out row then (if out = (0 : Int32) then (1 : Int32) else (0 : Int32)) else out) (if (0 : Int32) = (0 : Int32) then (1 : Int32) else (0 : Int32)) := by
  obtain ⟨⟨m, hm, rfl, rfl⟩, ⟨rfl, rfl, d, hd, rfl, rfl, rfl⟩ | ⟨rfl, rfl, a, ha, rfl, rfl⟩⟩ := h
  · rcases (by omega : d = 0 ∨ d = 1) with rfl | rfl
    · exact ⟨⟨_, by omega, (zdec m (by omega)).1, (zdec m (by omega)).2⟩, Or.inl ⟨rfl, rfl, 1, by decide, rfl, rfl, rfl⟩⟩
    · exact ⟨⟨m - 20, by omega, (zdec m (by omega)).1, (zdec m (by omega)).2⟩, Or.inr ⟨rfl, rfl, 0, by decide, rfl, rfl⟩⟩
  · have q : ∀ x y : Int32, (if zLim (1 : Int32) ≤ zR1 (0 : Int32) (1 : Int32) (nI a) then x else y) = y := fun x y => by
      unfold zR1
      rw [if_neg (by decide : ¬ (0 : Int32) = (1 : Int32)), if_neg (by decide)]
    have q2 : (if db + (1 : Int32) < (2 : Int32) then (1 : Int32) else (1 : Int32)) = (1 : Int32) := by split <;> rfl
    rw [q, q, q, q2]
    exact ⟨⟨_, by omega, (zdec m (by omega)).1, (zdec m (by omega)).2⟩, Or.inr ⟨rfl, rfl, 0, by decide, rfl, rfl⟩⟩
/-! what the neighbours tell -/
def zSv (p x y : Int32) : Prop := ∃ P, P < 48 ∧ p = nI P ∧ x = nI (P % 8) ∧ y = nI (P / 8)
def zSr (hd va va' : Int32) : Prop := (hd = (0 : Int32) ∧ va' = (-1 : Int32)) ∨ (∃ q, q ≤ 9999 ∧ hd = (1 : Int32) ∧ va = nI q ∧ va' = nI q)
theorem zNear : ∀ P, P < 48 → ∀ Q, Q < 48 → r_X4_isNear (nI P) (nI Q) = (if (2 : Int32) < (if 0 ≤ (nI (P % 8) - nI (Q % 8)) then (nI (P % 8) - nI (Q % 8)) else 0 - (nI (P % 8) - nI (Q % 8))) then (0 : Int32) else (if (if 0 ≤ (nI (P / 8) - nI (Q / 8)) then (nI (P / 8) - nI (Q / 8)) else 0 - (nI (P / 8) - nI (Q / 8))) ≤ (2 : Int32) then (1 : Int32) else (0 : Int32))) := by decide +kernel
section ZME
variable {pl hd va lo x y va' out : Nat → Int32} {n i : Nat}
theorem zhasr {k : Nat} (h : zSr (hd k) (va k) (va' k)) : (r_X10_hasRead va' k = (0 : Int32) ↔ hd k = (0 : Int32)) ∧ (¬ hd k = (0 : Int32) → ∃ q, q ≤ 9999 ∧ va k = nI q ∧ va' k = nI q) := by
  unfold r_X10_hasRead
  rcases h with ⟨h1, h2⟩ | ⟨q, hq, h1, h2, h3⟩
  · rw [h1, h2]
    exact ⟨by decide, fun z => absurd rfl z⟩
  · rw [h1, h3, if_neg (nI_pos (by omega))]
    exact ⟨by decide, fun _ => ⟨q, hq, h2, rfl⟩⟩
theorem zmeanl (hp : ∀ k, k < n → zSv (pl k) (x k) (y k)) (hr : ∀ k, k < n → zSr (hd k) (va k) (va' k)) (ho : ∀ k, k < n → lo k = out k) (hn : n ≤ 10) (hi : i < n) : ∀ j, j ≤ n → ∃ c s, c ≤ j ∧ s ≤ 9999 * j ∧ (lp_X4_meanAround_18 pl hd va lo (nI i) ((0 : Int32), (0 : Int32)) j) = (nI c, nI s) ∧ (lp_X12_meanOf_15 x y va' out i ((0 : Int32), (0 : Int32)) j) = (nI s, nI c) := by
  intro j
  induction j with
  | zero => intro _; rw [lp_X4_meanAround_18_0, lp_X12_meanOf_15_0]; exact ⟨0, 0, Nat.le_refl _, Nat.zero_le _, rfl, rfl⟩
  | succ j ih =>
    intro hj
    obtain ⟨c, s, hc, hs, e1, e2⟩ := ih (by omega)
    rw [lp_X4_meanAround_18_s, lp_X12_meanOf_15_s, e1, e2]
    unfold st_X4_meanAround_18 st_X12_meanOf_15
    dsimp only
    rw [nI_clamp (by omega)]
    by_cases c1 : j = i
    · rw [if_pos (by rw [c1]), if_pos (by rw [c1]), if_pos c1, if_pos c1]
      exact ⟨c, s, by omega, by omega, rfl, rfl⟩
    · have c1' : ¬ nI j = nI i := fun z => c1 ((nI_eq (by omega) (by omega)).mp z)
      rw [if_neg c1', if_neg c1', if_neg c1, if_neg c1]
      obtain ⟨g1, g2⟩ := zhasr (hr j (by omega))
      by_cases c2 : hd j = (0 : Int32)
      · rw [if_pos c2, if_pos c2, if_pos (g1.mpr c2), if_pos (g1.mpr c2)]
        exact ⟨c, s, by omega, by omega, rfl, rfl⟩
      · rw [if_neg c2, if_neg c2, if_neg (fun z => c2 (g1.mp z)), if_neg (fun z => c2 (g1.mp z))]
        rw [← ho j (by omega)]
        by_cases c3 : lo j = (0 : Int32)
        · rw [if_pos c3, if_pos c3, if_pos c3, if_pos c3]
          obtain ⟨P, hP, p1, p2, p3⟩ := hp j (by omega)
          obtain ⟨P', hP', q1, q2, q3⟩ := hp i hi
          obtain ⟨q, hq, v1, v2⟩ := g2 c2
          rw [p1, p2, p3, q1, q2, q3, zNear P hP P' hP', v1, v2]
          generalize (if 0 ≤ (nI (P % 8) - nI (P' % 8)) then (nI (P % 8) - nI (P' % 8)) else 0 - (nI (P % 8) - nI (P' % 8))) = X
          generalize (if 0 ≤ (nI (P / 8) - nI (P' / 8)) then (nI (P / 8) - nI (P' / 8)) else 0 - (nI (P / 8) - nI (P' / 8))) = Y
          by_cases d1 : (2 : Int32) < X
          · rw [if_pos d1, if_pos rfl, if_pos rfl, if_pos d1, if_pos d1]
            exact ⟨c, s, by omega, by omega, rfl, rfl⟩
          · rw [if_neg d1, if_neg d1, if_neg d1]
            by_cases d2 : Y ≤ (2 : Int32)
            · rw [if_pos d2, if_neg (by decide), if_neg (by decide), if_pos d2, if_pos d2]
              exact ⟨c + 1, s + q, by omega, by omega, by rw [nI_1, nI_add], by rw [nI_1, nI_add]⟩
            · rw [if_neg d2, if_pos rfl, if_pos rfl, if_neg d2, if_neg d2]
              exact ⟨c, s, by omega, by omega, rfl, rfl⟩
        · rw [if_neg c3, if_neg c3, if_neg c3, if_neg c3]
          exact ⟨c, s, by omega, by omega, rfl, rfl⟩
/-- the means are alike: none, or a number -/
theorem zmean (hp : ∀ k, k < n → zSv (pl k) (x k) (y k)) (hr : ∀ k, k < n → zSr (hd k) (va k) (va' k)) (ho : ∀ k, k < n → lo k = out k) (hn : n ≤ 10) (hi : i < n) : (r_X4_meanAround pl hd va lo (nI i) n = (-1 : Int32) ∧ r_X12_meanOf n x y va' out i = (-1 : Int32)) ∨ (∃ m q, m ≤ 99990 ∧ q ≤ 9999 ∧ va i = nI q ∧ va' i = nI q ∧ r_X4_meanAround pl hd va lo (nI i) n = nI m ∧ r_X12_meanOf n x y va' out i = nI m) := by
  obtain ⟨c, s, hc, hs, e1, e2⟩ := zmeanl hp hr ho hn hi n (Nat.le_refl _)
  obtain ⟨g1, g2⟩ := zhasr (hr i hi)
  unfold r_X4_meanAround r_X12_meanOf
  rw [e1, e2, nI_clamp (by omega)]
  dsimp only
  by_cases c1 : hd i = (0 : Int32)
  · rw [if_pos c1, if_pos (g1.mpr c1)]; exact Or.inl ⟨rfl, rfl⟩
  · rw [if_neg c1, if_neg (fun z => c1 (g1.mp z))]
    by_cases c2 : 2 ≤ c
    · rw [if_pos (show (2 : Int32) ≤ nI c from (nI_leI (a := 2) (by decide) (by omega)).mpr c2), if_neg (show ¬ nI c < (2 : Int32) from fun z => absurd ((nI_ltI (b := 2) (by omega) (by decide)).mp z) (by omega))]
      obtain ⟨q, hq, v1, v2⟩ := g2 c1
      refine Or.inr ⟨s / c, q, ?_, hq, v1, v2, pk_div (by omega) (by omega) (by omega), pk_div (by omega) (by omega) (by omega)⟩
      exact Nat.le_trans (Nat.div_le_self s c) (by omega)
    · rw [if_neg (show ¬ (2 : Int32) ≤ nI c from fun z => c2 ((nI_leI (a := 2) (by decide) (by omega)).mp z)), if_pos (show nI c < (2 : Int32) from (nI_ltI (b := 2) (by omega) (by decide)).mpr (by omega))]
      exact Or.inl ⟨rfl, rfl⟩
end ZME
theorem zdist {q m : Nat} (hq : q ≤ 99999) (hm : m ≤ 99999) : (if nI m ≤ nI q then nI q - nI m else nI m - nI q) = nI (max q m - min q m) ∧ (if 0 ≤ (nI q - nI m) then (nI q - nI m) else 0 - (nI q - nI m)) = nI (max q m - min q m) := by
  have t : ∀ a b : Nat, a ≤ 99999 → b ≤ 99999 → (nI a - nI b).toInt = (a : Int) - b := by
    intro a b ha hb
    have h1 := nI_toInt (show a < 2 ^ 31 by omega)
    have h2 := nI_toInt (show b < 2 ^ 31 by omega)
    rw [zsub (by omega) (by omega), h1, h2]
  have ge : ∀ a b : Nat, a ≤ 99999 → b ≤ 99999 → (0 ≤ nI a - nI b ↔ b ≤ a) := by
    intro a b ha hb
    rw [zle, t a b ha hb, show (0 : Int32).toInt = 0 by decide]
    omega
  by_cases c : m ≤ q
  · rw [if_pos ((nI_leI (by omega) (by omega)).mpr c), if_pos ((ge q m hq hm).mpr c), zsubN c, Nat.max_eq_left c, Nat.min_eq_right c]
    exact ⟨rfl, rfl⟩
  · have e : (0 : Int32) - (nI q - nI m) = nI m - nI q := by rw [Int32.zero_sub, Int32.neg_sub]
    rw [if_neg (fun z => c ((nI_leI (by omega) (by omega)).mp z)), if_neg (fun z => c ((ge q m hq hm).mp z)), e, zsubN (by omega : q ≤ m), Nat.max_eq_right (by omega), Nat.min_eq_left (by omega)]
    exact ⟨rfl, rfl⟩
/-- the class's verdict on a sensor, and what the reference says -/
theorem zverd {q m : Nat} (hq : q ≤ 9999) (hm : m ≤ 99990) : (if (if nI m ≤ nI q then nI q - nI m else nI m - nI q) ≤ (nI m / (2 : Int32)) then (1 : Int32) else (if (20 : Int32) < (if nI m ≤ nI q then nI q - nI m else nI m - nI q) then (2 : Int32) else (1 : Int32))) = (if zAg (nI q) (nI m) = (0 : Int32) then (2 : Int32) else (1 : Int32)) := by
  unfold zAg
  rw [(zdist (q := q) (m := m) (by omega) (by omega)).1, (zdist (q := q) (m := m) (by omega) (by omega)).2, show nI m / (2 : Int32) = nI (m / 2) from pk_div (by omega) (by decide) (by decide)]
  generalize hD : max q m - min q m = D
  have hD2 : D ≤ 99999 := by omega
  by_cases c1 : D ≤ m / 2
  · rw [if_pos ((nI_leI (by omega) (by omega)).mpr c1)]
    have z : ¬ (if (20 : Int32) < nI (m / 2) then nI (m / 2) else (20 : Int32)) < nI D := by
      by_cases y : (20 : Int32) < nI (m / 2)
      · rw [if_pos y]; exact fun w => absurd ((nI_ltI (by omega) (by omega)).mp w) (by omega)
      · rw [if_neg y]
        intro w
        have w1 := (nI_ltI (a := 20) (by decide) (by omega)).mp w
        exact y ((nI_ltI (a := 20) (by decide) (by omega)).mpr (by omega))
    rw [if_neg z, if_neg (by decide)]
  · rw [if_neg (fun z => c1 ((nI_leI (by omega) (by omega)).mp z))]
    by_cases c2 : 20 < D
    · rw [if_pos (show (20 : Int32) < nI D from (nI_ltI (a := 20) (by decide) (by omega)).mpr c2)]
      have z : (if (20 : Int32) < nI (m / 2) then nI (m / 2) else (20 : Int32)) < nI D := by
        by_cases y : (20 : Int32) < nI (m / 2)
        · rw [if_pos y]; exact (nI_ltI (by omega) (by omega)).mpr (by omega)
        · rw [if_neg y]; exact (nI_ltI (a := 20) (by decide) (by omega)).mpr c2
      rw [if_pos z, if_pos rfl]
    · rw [if_neg (show ¬ (20 : Int32) < nI D from fun z => c2 ((nI_ltI (a := 20) (by decide) (by omega)).mp z))]
      have z : ¬ (if (20 : Int32) < nI (m / 2) then nI (m / 2) else (20 : Int32)) < nI D := by
        by_cases y : (20 : Int32) < nI (m / 2)
        · have := (nI_ltI (a := 20) (by decide) (by omega)).mp y
          omega
        · rw [if_neg y]; exact fun w => c2 ((nI_ltI (a := 20) (by decide) (by omega)).mp w)
      rw [if_neg z, if_neg (by decide)]
/-! judging all -/
section ZJA
variable {tr pl hd va lo db ag vd x y tr' va' row out wd : Nat → Int32} {n : Nat}
theorem zvds : ∀ i, i ≤ n → ∀ k, k < n → lp_X4_judgeAll_2 pl hd va lo n vd i k = (if k < i then r_X4_verdictOn pl hd va lo (nI k) n else vd k) := by
  intro i
  induction i with
  | zero => intro _ k _; rw [lp_X4_judgeAll_2_0, if_neg (Nat.not_lt_zero k)]
  | succ i ih =>
    intro hi k hk
    rw [lp_X4_judgeAll_2_s]
    unfold st_X4_judgeAll_2
    by_cases e : k = i
    · rw [e, upd_i, if_pos (Nat.lt_succ_self i)]
    · rw [upd_o e, ih (by omega) k hk]
      by_cases q : k < i
      · rw [if_pos q, if_pos (by omega)]
      · rw [if_neg q, if_neg (by omega)]
theorem zmns {f : Nat → Int32} : ∀ i, i ≤ n → ∀ k, k < n → lp_X12_judge_14 n x y va' out f i k = (if k < i then r_X12_meanOf n x y va' out k else f k) := by
  intro i
  induction i with
  | zero => intro _ k _; rw [lp_X12_judge_14_0, if_neg (Nat.not_lt_zero k)]
  | succ i ih =>
    intro hi k hk
    rw [lp_X12_judge_14_s]
    unfold st_X12_judge_14
    by_cases e : k = i
    · rw [e, upd_i, if_pos (Nat.lt_succ_self i)]
    · rw [upd_o e, ih (by omega) k hk]
      by_cases q : k < i
      · rw [if_pos q, if_pos (by omega)]
      · rw [if_neg q, if_neg (by omega)]
theorem zAg01 (q a : Int32) : zAg q a = (0 : Int32) ∨ zAg q a = (1 : Int32) := by
  unfold zAg
  by_cases c : (if (20 : Int32) < (a / (2 : Int32)) then (a / (2 : Int32)) else (20 : Int32)) < (if 0 ≤ (q - a) then (q - a) else 0 - (q - a))
  · rw [if_pos c]; exact Or.inl rfl
  · rw [if_neg c]; exact Or.inr rfl
theorem zjudge (hp : ∀ k, k < n → zSv (pl k) (x k) (y k)) (hr : ∀ k, k < n → zSr (hd k) (va k) (va' k)) (hs : ∀ k, k < n → zStv (tr k) (lo k) (db k) (ag k) (tr' k) (row k) (out k) (wd k)) (hn : n ≤ 10) (V M : Nat → Int32) (hV : ∀ k, k < n → V k = r_X4_verdictOn pl hd va lo (nI k) n) (hM : ∀ k, k < n → M k = r_X12_meanOf n x y va' out k) :
    ∀ i, i ≤ n → ∀ k, k < n → zStv ((lp_X4_judgeAll_29 V (tr, lo, db, ag) i).1 k) ((lp_X4_judgeAll_29 V (tr, lo, db, ag) i).2.1 k) ((lp_X4_judgeAll_29 V (tr, lo, db, ag) i).2.2.1 k) ((lp_X4_judgeAll_29 V (tr, lo, db, ag) i).2.2.2 k) ((lp_X12_judge_48 va' M (tr', row, out, wd) i).1 k) ((lp_X12_judge_48 va' M (tr', row, out, wd) i).2.1 k) ((lp_X12_judge_48 va' M (tr', row, out, wd) i).2.2.1 k) ((lp_X12_judge_48 va' M (tr', row, out, wd) i).2.2.2 k) := by
  intro i
  induction i with
  | zero => intro _ k hk; rw [lp_X4_judgeAll_29_0, lp_X12_judge_48_0]; exact hs k hk
  | succ i ih =>
    intro hi
    have j := ih (by omega)
    have hi : i < n := hi
    rw [lp_X4_judgeAll_29_s, lp_X12_judge_48_s]
    generalize lp_X4_judgeAll_29 V (tr, lo, db, ag) i = u at j ⊢
    generalize lp_X12_judge_48 va' M (tr', row, out, wd) i = w at j ⊢
    unfold st_X4_judgeAll_29 st_X12_judge_48
    dsimp only
    have ho : ∀ k, k < n → lo k = out k := fun k hk => by
      obtain ⟨-, h⟩ := hs k hk
      rcases h with ⟨a, b, -⟩ | ⟨a, b, -⟩ <;> rw [a, b]
    have ji := j i hi
    rcases zmean hp hr ho hn hi with ⟨e1, e2⟩ | ⟨m, q, hm, hq, v1, v2, e1, e2⟩
    · have ev : V i = (0 : Int32) := by rw [hV i hi]; unfold r_X4_verdictOn; rw [if_pos e1]
      have h1 : ¬ V i = (1 : Int32) := by rw [ev]; decide
      have h2 : ¬ V i = (2 : Int32) := by rw [ev]; decide
      have h3 : M i < (0 : Int32) := by rw [hM i hi, e2]; decide
      simp only [if_neg h1, if_neg h2, if_pos h3]
      exact j
    · have nm1 : ¬ nI m = (-1 : Int32) := fun z => by
        have h := nI_pos' (show m < 2 ^ 31 by omega)
        rw [z] at h
        exact absurd h (by decide)
      have ev : V i = (if zAg (nI q) (nI m) = (0 : Int32) then (2 : Int32) else (1 : Int32)) := by
        rw [hV i hi]
        unfold r_X4_verdictOn
        rw [e1, if_neg nm1, nI_clamp (by omega), v1]
        exact zverd hq hm
      have em : M i = nI m := (hM i hi).trans e2
      have nm : ¬ M i < (0 : Int32) := by rw [em]; exact nI_pos (by omega)
      simp only [if_neg nm]
      rw [je3, je5, je6, je7, em, v2]
      rcases zAg01 (nI q) (nI m) with c | c
      · rw [c] at ev ⊢
        have h1 : ¬ V i = (1 : Int32) := by rw [ev]; decide
        have h2 : V i = (2 : Int32) := by rw [ev]; decide
        rw [if_neg h1, if_neg h1, if_neg h1, if_neg h1, if_pos h2, if_pos h2, if_pos h2, if_pos h2, do0 (by omega), do4 (by omega), do5 (by omega), do6 (by omega)]
        intro k hk
        by_cases e : k = i
        · rw [e, upd_i, upd_i, upd_i, upd_i, upd_i, upd_i, upd_i, upd_i]
          exact zdoubt ji
        · rw [upd_o e, upd_o e, upd_o e, upd_o e, upd_o e, upd_o e, upd_o e, upd_o e]
          exact j k hk
      · rw [c] at ev ⊢
        have h1 : V i = (1 : Int32) := by rw [ev]; decide
        rw [if_pos h1, if_pos h1, if_pos h1, if_pos h1, be0 (by omega), be4 (by omega), be5 (by omega), be6 (by omega)]
        intro k hk
        by_cases e : k = i
        · rw [e, upd_i, upd_i, upd_i, upd_i, upd_i, upd_i, upd_i, upd_i]
          exact zagree ji
        · rw [upd_o e, upd_o e, upd_o e, upd_o e, upd_o e, upd_o e, upd_o e, upd_o e]
          exact j k hk
end ZJA
/-! mending -/
section ZMD
variable {tr pl hd va lo x y tr' va' out sm sm' : Nat → Int32} {n : Nat} {me : Int64}
theorem zatP {P : Nat} : r_X12_at (nI (P % 8)) (nI (P / 8)) = nI P := by
  unfold r_X12_at
  rw [show (8 : Int32) = nI 8 from rfl, pk_mul, nI_add]
  exact congrArg nI (by omega)
theorem zmendl (hp : ∀ k, k < n → zSv (pl k) (x k) (y k)) (hr : ∀ k, k < n → zSr (hd k) (va k) (va' k)) (ht : ∀ k, k < n → ∃ m, m ≤ 100 ∧ tr k = nI m ∧ tr' k = nI m) (ho : ∀ k, k < n → lo k = out k) (v : Nat) : ∀ j, j ≤ n → ∃ T W, T ≤ 100 * j ∧ lp_X4_mendAll_16 tr pl hd va lo v ((0 : Int32), (0 : Int32)) j = (nI T, W) ∧ lp_X12_mend_23 x y tr' va' out v ((0 : Int32), (0 : Int32)) j = (nI T, W) := by
  intro j
  induction j with
  | zero => intro _; rw [lp_X4_mendAll_16_0, lp_X12_mend_23_0]; exact ⟨0, 0, Nat.le_refl _, rfl, rfl⟩
  | succ j ih =>
    intro hj
    obtain ⟨T, W, hT, e1, e2⟩ := ih (by omega)
    rw [lp_X4_mendAll_16_s, lp_X12_mend_23_s, e1, e2]
    unfold st_X4_mendAll_16 st_X12_mend_23
    dsimp only
    obtain ⟨P, hP, p1, p2, p3⟩ := hp j (by omega)
    obtain ⟨m, hm, t1, t2⟩ := ht j (by omega)
    obtain ⟨g1, g2⟩ := zhasr (hr j (by omega))
    rw [p1, p2, p3, zatP, ← ho j (by omega), t1, t2]
    by_cases c1 : nI P = nI v
    · by_cases c2 : hd j = (0 : Int32)
      · simp only [if_pos c1, if_pos c2, if_pos (g1.mpr c2)]
        exact ⟨T, W, by omega, rfl, rfl⟩
      · have g3 : ¬ r_X10_hasRead va' j = (0 : Int32) := fun z => c2 (g1.mp z)
        by_cases c3 : lo j = (0 : Int32)
        · obtain ⟨q, hq, v1, v2⟩ := g2 c2
          simp only [if_pos c1, if_neg c2, if_neg g3, if_pos c3]
          rw [v1, v2]
          exact ⟨T + m, W + nI m * nI q, by omega, by rw [nI_add], by rw [nI_add]⟩
        · simp only [if_pos c1, if_neg c2, if_neg g3, if_neg c3]
          exact ⟨T, W, by omega, rfl, rfl⟩
    · simp only [if_neg c1]
      exact ⟨T, W, by omega, rfl, rfl⟩
theorem zmend2 (hp : ∀ k, k < n → zSv (pl k) (x k) (y k)) (hr : ∀ k, k < n → zSr (hd k) (va k) (va' k)) (ht : ∀ k, k < n → ∃ m, m ≤ 100 ∧ tr k = nI m ∧ tr' k = nI m) (ho : ∀ k, k < n → lo k = out k) (hn : n ≤ 10) (hs : zEq 48 sm sm') : ∀ i, i ≤ 48 → (lp_X4_mendAll_2 tr pl hd va lo n (me, sm) i).1 = (lp_X12_mend_2 n x y tr' va' out (me, sm') i).1 ∧ zEq 48 (lp_X4_mendAll_2 tr pl hd va lo n (me, sm) i).2 (lp_X12_mend_2 n x y tr' va' out (me, sm') i).2 := by
  intro i
  induction i with
  | zero => intro _; rw [lp_X4_mendAll_2_0, lp_X12_mend_2_0]; exact ⟨rfl, hs⟩
  | succ i ih =>
    intro hi
    obtain ⟨j1, j2⟩ := ih (by omega)
    rw [lp_X4_mendAll_2_s, lp_X12_mend_2_s]
    generalize lp_X4_mendAll_2 tr pl hd va lo n (me, sm) i = u at j1 j2 ⊢
    generalize lp_X12_mend_2 n x y tr' va' out (me, sm') i = w at j1 j2 ⊢
    unfold st_X4_mendAll_2 st_X12_mend_2
    obtain ⟨T, W, hT, e1, e2⟩ := zmendl hp hr ht ho i n (Nat.le_refl _)
    have e := j2 i (by omega)
    rw [e1, e2]
    dsimp only
    rw [e, j1, Int32.add_comm (nI T) (100 : Int32)]
    by_cases z : T = 0
    · subst z
      simp only [if_pos (by decide : nI 0 ≤ (0 : Int32)), if_pos (by decide : nI 0 = (0 : Int32))]
      exact ⟨trivial, j2⟩
    · have z1 : ¬ nI T ≤ (0 : Int32) := nI_nle (by omega) (by omega)
      have z2 : ¬ nI T = (0 : Int32) := nI_ne0 (by omega) (by omega)
      simp only [if_neg z1, if_neg z2]
      exact ⟨trivial, zEq_u j2 rfl⟩
end ZMD
