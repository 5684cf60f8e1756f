/-! the outlook; schools; warnings -/
section ZLO
variable {cp cp' : Nat → Int32} {dw w ra : Nat}
/-- peaks after an hour -/
theorem zpeak {sm : Nat → Int32} {pk : Nat → Int32} : ∀ i, i ≤ 48 → ∀ k, k < 48 → lp_X2_look_33 sm pk i k = (if k < i then (if sm k ≤ pk k then pk k else sm k) else pk k) := by
  intro i
  induction i with
  | zero => intro _ k _; rw [lp_X2_look_33_0, if_neg (Nat.not_lt_zero k)]
  | succ i ih =>
    intro hi k hk
    rw [lp_X2_look_33_s]
    unfold st_X2_look_33
    have ei := ih (by omega) i (by omega)
    rw [if_neg (Nat.lt_irrefl i)] at ei
    rw [ei]
    by_cases c : sm i ≤ pk i
    · rw [if_pos c, ih (by omega) k hk]
      by_cases e : k = i
      · rw [e, if_neg (Nat.lt_irrefl i), if_pos (Nat.lt_succ_self i), if_pos c]
      · by_cases q : k < i
        · rw [if_pos q, if_pos (show k < i + 1 by omega)]
        · rw [if_neg q, if_neg (show ¬ k < i + 1 by omega)]
    · rw [if_neg c]
      by_cases e : k = i
      · rw [e, upd_i, if_pos (Nat.lt_succ_self i), if_neg c]
      · rw [upd_o e, ih (by omega) k hk]
        by_cases q : k < i
        · rw [if_pos q, if_pos (show k < i + 1 by omega)]
        · rw [if_neg q, if_neg (show ¬ k < i + 1 by omega)]
theorem zlook {pk fu fi sm ln cl br fu' fi' sm' ln' cl' : Nat → Int32} {mk mk' bl bl' st st' : Int64} {a w0 : Int32} (h : zLnd fu fi sm ln cl cp fu' fi' sm' ln' cl' cp') (hd : dw < 9) (hw : w ≤ 4) (h4 : 0 < w → dw ≠ 4) (hr : ra ≤ 9) (ha : a.toNatClampNeg < 48) (hp : pk a.toNatClampNeg = w0) : ∀ n,
    zLnd (lp_X2_look_18 cp (ze dw) (zf dw) (nI w) (nI ra) w (pk, fu, fi, sm, ln, cl, br, mk, bl, st) n).2.1 (lp_X2_look_18 cp (ze dw) (zf dw) (nI w) (nI ra) w (pk, fu, fi, sm, ln, cl, br, mk, bl, st) n).2.2.1 (lp_X2_look_18 cp (ze dw) (zf dw) (nI w) (nI ra) w (pk, fu, fi, sm, ln, cl, br, mk, bl, st) n).2.2.2.1 (lp_X2_look_18 cp (ze dw) (zf dw) (nI w) (nI ra) w (pk, fu, fi, sm, ln, cl, br, mk, bl, st) n).2.2.2.2.1 (lp_X2_look_18 cp (ze dw) (zf dw) (nI w) (nI ra) w (pk, fu, fi, sm, ln, cl, br, mk, bl, st) n).2.2.2.2.2.1 cp
      (lp_X12_worstOf_18 cp' (ze dw) (zf dw) (nI w) (nI ra) w a (fu', cl', fi', sm', ln', mk', bl', st', w0) n).1 (lp_X12_worstOf_18 cp' (ze dw) (zf dw) (nI w) (nI ra) w a (fu', cl', fi', sm', ln', mk', bl', st', w0) n).2.2.1 (lp_X12_worstOf_18 cp' (ze dw) (zf dw) (nI w) (nI ra) w a (fu', cl', fi', sm', ln', mk', bl', st', w0) n).2.2.2.1 (lp_X12_worstOf_18 cp' (ze dw) (zf dw) (nI w) (nI ra) w a (fu', cl', fi', sm', ln', mk', bl', st', w0) n).2.2.2.2.1 (lp_X12_worstOf_18 cp' (ze dw) (zf dw) (nI w) (nI ra) w a (fu', cl', fi', sm', ln', mk', bl', st', w0) n).2.1 cp' ∧
    (lp_X2_look_18 cp (ze dw) (zf dw) (nI w) (nI ra) w (pk, fu, fi, sm, ln, cl, br, mk, bl, st) n).1 a.toNatClampNeg = (lp_X12_worstOf_18 cp' (ze dw) (zf dw) (nI w) (nI ra) w a (fu', cl', fi', sm', ln', mk', bl', st', w0) n).2.2.2.2.2.2.2.2 := by
  intro n
  induction n with
  | zero => rw [lp_X2_look_18_0, lp_X12_worstOf_18_0]; exact ⟨h, hp⟩
  | succ n ih =>
    obtain ⟨j1, j2⟩ := ih
    rw [lp_X2_look_18_s, lp_X12_worstOf_18_s]
    generalize lp_X2_look_18 cp (ze dw) (zf dw) (nI w) (nI ra) w (pk, fu, fi, sm, ln, cl, br, mk, bl, st) n = y at j1 j2 ⊢
    generalize lp_X12_worstOf_18 cp' (ze dw) (zf dw) (nI w) (nI ra) w a (fu', cl', fi', sm', ln', mk', bl', st', w0) n = z at j1 j2 ⊢
    unfold st_X2_look_18 st_X12_worstOf_18
    have q := (zhour (mk := y.2.2.2.2.2.2.2.1) (mk' := z.2.2.2.2.2.1) (bl := y.2.2.2.2.2.2.2.2.1) (bl' := z.2.2.2.2.2.2.1) (st := y.2.2.2.2.2.2.2.2.2) (st' := z.2.2.2.2.2.2.2.1) j1 hd hw h4 hr).1
    refine ⟨q, ?_⟩
    show lp_X2_look_33 (g_X1_runModel_x_2 y.2.1 y.2.2.1 y.2.2.2.1 y.2.2.2.2.1 y.2.2.2.2.2.1 cp (ze dw) (zf dw) (nI w) (nI ra) y.2.2.2.2.2.2.2.1 y.2.2.2.2.2.2.2.2.1 y.2.2.2.2.2.2.2.2.2 w) y.1 48 a.toNatClampNeg = (if z.2.2.2.2.2.2.2.2 < (g_X8_hour_ml_4 z.1 z.2.1 cp' z.2.2.1 z.2.2.2.1 z.2.2.2.2.1 (ze dw) (zf dw) (nI ra) z.2.2.2.2.2.1 z.2.2.2.2.2.2.1 z.2.2.2.2.2.2.2.1 w) a.toNatClampNeg then (g_X8_hour_ml_4 z.1 z.2.1 cp' z.2.2.1 z.2.2.2.1 z.2.2.2.2.1 (ze dw) (zf dw) (nI ra) z.2.2.2.2.2.1 z.2.2.2.2.2.2.1 z.2.2.2.2.2.2.2.1 w) a.toNatClampNeg else z.2.2.2.2.2.2.2.2)
    rw [zpeak 48 (Nat.le_refl _) _ ha, if_pos ha, j2, q.2.2.1 _ ha]
    generalize (g_X8_hour_ml_4 z.1 z.2.1 cp' z.2.2.1 z.2.2.2.1 z.2.2.2.2.1 (ze dw) (zf dw) (nI ra) z.2.2.2.2.2.1 z.2.2.2.2.2.2.1 z.2.2.2.2.2.2.2.1 w) a.toNatClampNeg = S
    by_cases c : S ≤ z.2.2.2.2.2.2.2.2
    · rw [if_pos c, if_neg (Int32.not_lt.mpr c)]
    · rw [if_neg c, if_pos (Int32.not_le.mp c)]
theorem zfore {pk fu fi sm ln cl br fu' fi' sm' ln' cl' : Nat → Int32} {mk mk' bl bl' st st' : Int64} (h : zLnd fu fi sm ln cl cp fu' fi' sm' ln' cl' cp') (hd : dw < 9) (hw : w ≤ 4) (h4 : 0 < w → dw ≠ 4) (hr : ra ≤ 9) : ∀ n,
    zLnd (lp_X2_look_18 cp (ze dw) (zf dw) (nI w) (nI ra) w (pk, fu, fi, sm, ln, cl, br, mk, bl, st) n).2.1 (lp_X2_look_18 cp (ze dw) (zf dw) (nI w) (nI ra) w (pk, fu, fi, sm, ln, cl, br, mk, bl, st) n).2.2.1 (lp_X2_look_18 cp (ze dw) (zf dw) (nI w) (nI ra) w (pk, fu, fi, sm, ln, cl, br, mk, bl, st) n).2.2.2.1 (lp_X2_look_18 cp (ze dw) (zf dw) (nI w) (nI ra) w (pk, fu, fi, sm, ln, cl, br, mk, bl, st) n).2.2.2.2.1 (lp_X2_look_18 cp (ze dw) (zf dw) (nI w) (nI ra) w (pk, fu, fi, sm, ln, cl, br, mk, bl, st) n).2.2.2.2.2.1 cp
      (lp_X12_forecast_49 cp' (ze dw) (zf dw) (nI w) (nI ra) w (fu', cl', fi', sm', ln', mk', bl', st') n).1 (lp_X12_forecast_49 cp' (ze dw) (zf dw) (nI w) (nI ra) w (fu', cl', fi', sm', ln', mk', bl', st') n).2.2.1 (lp_X12_forecast_49 cp' (ze dw) (zf dw) (nI w) (nI ra) w (fu', cl', fi', sm', ln', mk', bl', st') n).2.2.2.1 (lp_X12_forecast_49 cp' (ze dw) (zf dw) (nI w) (nI ra) w (fu', cl', fi', sm', ln', mk', bl', st') n).2.2.2.2.1 (lp_X12_forecast_49 cp' (ze dw) (zf dw) (nI w) (nI ra) w (fu', cl', fi', sm', ln', mk', bl', st') n).2.1 cp' := by
  intro n
  induction n with
  | zero => rw [lp_X2_look_18_0, lp_X12_forecast_49_0]; exact h
  | succ n ih =>
    rw [lp_X2_look_18_s, lp_X12_forecast_49_s]
    exact (zhour ih hd hw h4 hr).1
end ZLO
theorem zcp {n : Nat} {f g : Nat → Int32} : zEq n (va_cpy f g 0 0 n) f := fun k hk => by rw [pk_cpy_in (Nat.zero_le k) (by omega), Nat.sub_zero, Nat.zero_add]
theorem zEq_s {n : Nat} {f g : Nat → Int32} (h : zEq n f g) : zEq n g f := fun k hk => (h k hk).symm
theorem zEq_t {n : Nat} {f g e : Nat → Int32} (h : zEq n f g) (h2 : zEq n g e) : zEq n f e := fun k hk => (h k hk).trans (h2 k hk)
theorem zcpl {f g : Nat → Int32} : ∀ i, i ≤ 48 → ∀ k, k < 48 → lp_X1_copyFrom_47 f g i k = (if k < i then f k else g k) := by
  intro i
  induction i with
  | zero => intro _ k _; rw [lp_X1_copyFrom_47_0, if_neg (Nat.not_lt_zero k)]
  | succ i ih =>
    intro hi k hk
    rw [lp_X1_copyFrom_47_s]
    unfold st_X1_copyFrom_47
    by_cases e : k = i
    · rw [e, upd_i, if_pos (Nat.lt_succ_self i)]
    · rw [upd_o e, ih (by omega) k hk]
      by_cases q : k < i
      · rw [if_pos q, if_pos (by omega)]
      · rw [if_neg q, if_neg (by omega)]
/-- copies of a land are alike too -/
theorem zcopyl {fu fi sm ln cl cp fu' fi' sm' ln' cl' cp' a0 a1 a2 a3 a4 a5 b0 b3 b4 b5 : Nat → Int32} (h : zLnd fu fi sm ln cl cp fu' fi' sm' ln' cl' cp') : zLnd (va_cpy fu a0 0 0 48) (va_cpy fi a1 0 0 48) (va_cpy sm a2 0 0 48) (lp_X1_copyFrom_47 ln a3 48) (va_cpy cl a4 0 0 3) (va_cpy cp a5 0 0 3) (va_cpy fu' b0 0 0 48) fi' sm' (va_cpy ln' b3 0 0 48) (va_cpy cl' b4 0 0 3) (va_cpy cp' b5 0 0 3) := by
  obtain ⟨h1, h2, h3, h5, h6, h7, e1, e2, e3⟩ := h
  have hl : zEq 48 (lp_X1_copyFrom_47 ln a3 48) ln := fun k hk => by rw [zcpl 48 (Nat.le_refl _) k hk, if_pos hk]
  exact ⟨zEq_t zcp (zEq_t h1 (zEq_s zcp)), zEq_t zcp h2, zEq_t zcp h3, zEq_t hl (zEq_t h5 (zEq_s zcp)), zEq_t zcp (zEq_t h6 (zEq_s zcp)), zEq_t zcp (zEq_t h7 (zEq_s zcp)), zBd_e e1 (zEq_s zcp), zBd_e e2 (zEq_s zcp), zBd_e e3 (zEq_s zcp)⟩
/-! schools -/
def zOp (op ic : Int32) : Prop := (op = (1 : Int32) ∧ ic = (0 : Int32)) ∨ (op = (0 : Int32) ∧ ic = (1 : Int32))
theorem zdecide {pk pl bd op at' bd' ic f0 f1 f2 f3 f4 f5 : Nat → Int32} {x6 x7 x8 x9 : Int32} {cl cl' : Int32} {n sn : Nat} (ha : ∀ k, k < n → pl k = at' k) (hb : ∀ k, k < n → bd k = bd' k) (ho : ∀ k, k < n → zOp (op k) (ic k)) (hc : cl = cl') (hw : ∀ k, k < n → pk (pl k).toNatClampNeg = r_X12_worstOf f0 f1 f2 f3 f4 f5 x6 x7 x8 x9 (at' k) 12 sn) :
    ∀ i, i ≤ n → (∀ k, k < n → zOp ((lp_X3_decide_2 pk pl bd (op, cl) i).1 k) ((lp_X12_close_10 f0 f1 f2 f3 f4 f5 x6 x7 x8 x9 at' bd' sn (cl', ic) i).2 k)) ∧ (lp_X3_decide_2 pk pl bd (op, cl) i).2 = (lp_X12_close_10 f0 f1 f2 f3 f4 f5 x6 x7 x8 x9 at' bd' sn (cl', ic) i).1 := by
  intro i
  induction i with
  | zero => intro _; rw [lp_X3_decide_2_0, lp_X12_close_10_0]; exact ⟨ho, hc⟩
  | succ i ih =>
    intro hi
    obtain ⟨j1, j2⟩ := ih (by omega)
    rw [lp_X3_decide_2_s, lp_X12_close_10_s]
    generalize lp_X3_decide_2 pk pl bd (op, cl) i = y at j1 j2 ⊢
    generalize lp_X12_close_10 f0 f1 f2 f3 f4 f5 x6 x7 x8 x9 at' bd' sn (cl', ic) i = z at j1 j2 ⊢
    unfold st_X3_decide_2 st_X12_close_10
    have e := j1 i (by omega)
    dsimp only
    rw [hw i (by omega), hb i (by omega), j2]
    generalize r_X12_worstOf f0 f1 f2 f3 f4 f5 x6 x7 x8 x9 (at' i) 12 sn = S
    by_cases c : bd' i ≤ S
    · rw [if_pos c, if_neg (Int32.not_lt.mpr c)]
      refine ⟨fun k hk => ?_, ?_⟩
      · by_cases q : k = i
        · rw [q, upd_i, upd_i]; exact Or.inr ⟨rfl, rfl⟩
        · rw [upd_o q, upd_o q]; exact j1 k hk
      · rcases e with ⟨e1, e2⟩ | ⟨e1, e2⟩
        · rw [e1, e2, if_neg (by decide), if_pos rfl, if_neg (by decide), if_pos rfl]
        · rw [e1, e2, if_pos rfl, if_neg (by decide), if_neg (by decide)]; exact (Int32.add_zero _).symm
    · rw [if_neg c, if_pos (Int32.not_le.mp c)]
      refine ⟨fun k hk => ?_, ?_⟩
      · by_cases q : k = i
        · rw [q, upd_i, upd_i]; exact Or.inl ⟨rfl, rfl⟩
        · rw [upd_o q, upd_o q]; exact j1 k hk
      · rw [if_neg (by decide : ¬ (1 : Int32) = (0 : Int32)), if_pos (rfl : (0 : Int32) = (0 : Int32))]
        have q : (if y.1 i = (0 : Int32) then z.1 else z.1) = z.1 := by split <;> rfl
        rw [q]; exact (Int32.add_zero _).symm
/-! warnings -/
theorem zhas {f t : Nat → Int32} {f' t' : Nat → Int32} {i : Nat} {h : Int32} (hi : i < 100) (hf : f i = f' i) (ht : t i = t' i) : r_X5_hasHour f t (nI i) h = r_X11_has f' t' i h := by
  unfold r_X5_hasHour r_X11_has r_X12_isBetween
  rw [nI_clamp (by omega), hf, ht]
  by_cases c1 : f' i ≤ t' i
  · rw [if_pos c1, if_pos rfl, if_neg (Int32.not_lt.mpr c1)]
    by_cases c2 : h < f' i
    · rw [if_pos c2, if_pos rfl, if_pos c2]
    · rw [if_neg c2, if_neg (by decide)]
      by_cases c3 : t' i < h
      · rw [if_pos c3, if_pos rfl, if_neg c2]
      · rw [if_neg c3, if_neg (by decide), if_neg c2]
  · rw [if_neg c1, if_neg (by decide), if_pos (Int32.not_le.mp c1)]
    by_cases c2 : h < f' i
    · rw [if_pos c2, if_pos rfl, if_neg (Int32.not_le.mpr c2)]
      by_cases c3 : t' i < h
      · rw [if_pos c3, if_pos rfl]
      · rw [if_neg c3, if_neg (by decide)]
    · rw [if_neg c2, if_neg (by decide), if_pos (Int32.not_lt.mp c2)]
theorem zover {b s : Nat} (hb : b ≤ 9999) (hs : s ≤ 1000000000) : (nI b - (10 : Int32)) ≤ nI s ↔ (nI b - nI s) ≤ (10 : Int32) := by
  have h1 := nI_toInt (show b < 2 ^ 31 by omega)
  have h2 := nI_toInt (show s < 2 ^ 31 by omega)
  have h3 : (10 : Int32).toInt = 10 := by decide
  rw [zle, zle, zsub (by omega) (by omega), zsub (by omega) (by omega), h1, h2, h3]
  omega
/-- what is sent so far: in the class, in the reference -/
def zSn (s : Nat) (A T B A' T' B' : Nat → Int32) : Prop := ∀ k, k < s → A k = A' k ∧ T k = T' k ∧ B k = B' k
theorem zSn_s {s c a b : Nat} {A T B A' T' B' : Nat → Int32} {x y z : Int32} (hC : zCap s c a b) (h : zSn s A T B A' T' B') : zSn (s + 1) (g_X5_send_su_6 A s c x) (g_X5_send_su_7 T s c a y) (g_X5_send_su_8 B s c b z) (upd A' s x) (upd T' s y) (upd B' s z) := by
  obtain ⟨c1, c2, c3, c4⟩ := hC
  intro k hk
  unfold g_X5_send_su_6 g_X5_send_su_7 g_X5_send_su_8
  by_cases e : k = s
  · rw [e, upd_i, upd_i, upd_i, upd_i, upd_i, upd_i]; exact ⟨rfl, rfl, rfl⟩
  · rw [upd_o e, upd_o e, upd_o e, upd_o e, upd_o e, upd_o e]
    have hk2 : k < s := by omega
    have q := h k hk2
    have p : ∀ {F : Nat → Int32} {n : Nat}, s ≤ n → (if (nI s) < (nI c) then F else (va_cpy F (fun _ => 0) 0 0 n)) k = F k := by
      intro F n hn
      by_cases d : (nI s) < (nI c)
      · rw [if_pos d]
      · rw [if_neg d, pk_cpy_in (Nat.zero_le k) (by omega), Nat.sub_zero, Nat.zero_add]
    rw [p c3, p (by omega), p (by omega)]
    exact q
section ZWR
variable {pl bd fr to sm at' bd' fr' to' sm' wn A T B w' A' T' B' : Nat → Int32} {hr l4 : Int32} {s c a b N n : Nat}
theorem zwarnR (hp : ∀ k, k < n → pl k = at' k ∧ vp_in (pl k) 48) (hb : ∀ k, k < n → bd k = bd' k ∧ ∃ m, m ≤ 9999 ∧ bd' k = nI m) (hf : ∀ k, k < n → fr k = fr' k) (ht : ∀ k, k < n → to k = to' k) (hs : zEq 48 sm sm') (hS : zBd 48 1000000000 sm) (hn : n ≤ 12) (hw : ∀ k, k < n → wn k = w' k) (h0 : zSn s A T B A' T' B') (hcap : ∀ i, i ≤ n → zCap (lp_X5_warnAll_3 pl bd fr to sm hr (hr - hr / (24 : Int32) * (24 : Int32)) (wn, A, T, B, s, c, a, b) i).2.2.2.2.1 (lp_X5_warnAll_3 pl bd fr to sm hr (hr - hr / (24 : Int32) * (24 : Int32)) (wn, A, T, B, s, c, a, b) i).2.2.2.2.2.1 (lp_X5_warnAll_3 pl bd fr to sm hr (hr - hr / (24 : Int32) * (24 : Int32)) (wn, A, T, B, s, c, a, b) i).2.2.2.2.2.2.1 (lp_X5_warnAll_3 pl bd fr to sm hr (hr - hr / (24 : Int32) * (24 : Int32)) (wn, A, T, B, s, c, a, b) i).2.2.2.2.2.2.2) :
    ∀ i, i ≤ n → (∀ k, k < n → (lp_X5_warnAll_3 pl bd fr to sm hr (hr - hr / (24 : Int32) * (24 : Int32)) (wn, A, T, B, s, c, a, b) i).1 k = (lp_X12_warn_2 hr sm' at' bd' fr' to' (l4, N, w', s, A', T', B') i).2.2.1 k) ∧ (lp_X5_warnAll_3 pl bd fr to sm hr (hr - hr / (24 : Int32) * (24 : Int32)) (wn, A, T, B, s, c, a, b) i).2.2.2.2.1 = (lp_X12_warn_2 hr sm' at' bd' fr' to' (l4, N, w', s, A', T', B') i).2.2.2.1 ∧ zSn (lp_X5_warnAll_3 pl bd fr to sm hr (hr - hr / (24 : Int32) * (24 : Int32)) (wn, A, T, B, s, c, a, b) i).2.2.2.2.1 (lp_X5_warnAll_3 pl bd fr to sm hr (hr - hr / (24 : Int32) * (24 : Int32)) (wn, A, T, B, s, c, a, b) i).2.1 (lp_X5_warnAll_3 pl bd fr to sm hr (hr - hr / (24 : Int32) * (24 : Int32)) (wn, A, T, B, s, c, a, b) i).2.2.1 (lp_X5_warnAll_3 pl bd fr to sm hr (hr - hr / (24 : Int32) * (24 : Int32)) (wn, A, T, B, s, c, a, b) i).2.2.2.1 (lp_X12_warn_2 hr sm' at' bd' fr' to' (l4, N, w', s, A', T', B') i).2.2.2.2.1 (lp_X12_warn_2 hr sm' at' bd' fr' to' (l4, N, w', s, A', T', B') i).2.2.2.2.2.1 (lp_X12_warn_2 hr sm' at' bd' fr' to' (l4, N, w', s, A', T', B') i).2.2.2.2.2.2 := by
  intro i
  induction i with
  | zero => intro _; rw [lp_X5_warnAll_3_0, lp_X12_warn_2_0]; exact ⟨hw, rfl, h0⟩
  | succ i ih =>
    intro hi
    obtain ⟨j1, j2, j3⟩ := ih (by omega)
    have hC := hcap i (by omega)
    rw [lp_X5_warnAll_3_s, lp_X12_warn_2_s]
    generalize lp_X5_warnAll_3 pl bd fr to sm hr (hr - hr / (24 : Int32) * (24 : Int32)) (wn, A, T, B, s, c, a, b) i = y at j1 j2 j3 hC ⊢
    generalize lp_X12_warn_2 hr sm' at' bd' fr' to' (l4, N, w', s, A', T', B') i = z at j1 j2 j3 ⊢
    unfold st_X5_warnAll_3 st_X12_warn_2
    have e := j1 i (by omega)
    obtain ⟨hpi, hin⟩ := hp i (by omega)
    obtain ⟨hbi, m, hm, ebm⟩ := hb i (by omega)
    obtain ⟨P, hP, eP⟩ := vp_in_of hin (by decide)
    have eQ : at' i = nI P := hpi.symm.trans eP
    have es : sm P = sm' P := hs P hP
    obtain ⟨q, hq, eq⟩ := hS P hP
    have eq' : sm' P = nI q := es.symm.trans eq
    have hov := zover (b := m) (s := q) hm hq
    dsimp only
    rw [zhas (f' := fr') (t' := to') (by omega : i < 100) (hf i (by omega)) (ht i (by omega)), eP, eQ, nI_clamp (by omega), eq, eq', hbi, ebm, e]
    generalize r_X11_has fr' to' i (hr - hr / (24 : Int32) * (24 : Int32)) = hh
    by_cases c1 : z.2.2.1 i = (0 : Int32)
    · simp only [if_pos c1]
      by_cases c2 : nI q < nI m
      · simp only [if_pos c2]; exact ⟨j1, j2, j3⟩
      · simp only [if_neg c2]
        by_cases c3 : hh = (0 : Int32)
        · simp only [if_pos c3]; exact ⟨j1, j2, j3⟩
        · simp only [if_neg c3]
          refine ⟨fun k hk => ?_, ?_, ?_⟩
          · by_cases y0 : k = i
            · rw [y0, upd_i, upd_i]
            · rw [upd_o y0, upd_o y0]; exact j1 k hk
          · rw [← j2]; rfl
          · rw [← j2]; exact zSn_s hC j3
    · simp only [if_neg c1]
      by_cases c2 : (nI m - (10 : Int32)) ≤ nI q
      · simp only [if_pos c2, if_pos (hov.mp c2)]; exact ⟨j1, j2, j3⟩
      · simp only [if_neg c2, if_neg (fun z => c2 (hov.mpr z))]
        refine ⟨fun k hk => ?_, j2, j3⟩
        by_cases y0 : k = i
        · rw [y0, upd_i, upd_i]
        · rw [upd_o y0, upd_o y0]; exact j1 k hk
end ZWR
/-! the smoke's bounds -/
section ZSB
theorem zSmB_burn {fu fi sm : Nat → Int32} {mk : Int64} {ra M : Nat} (bu : zBd 48 99 fu) (bi : zBd 48 9 fi) (bs : zBd 48 M sm) (hr : ra ≤ 9) (hM : M ≤ 1000000) : ∀ i, i ≤ 48 → (∀ k, k < 48 → ∃ m, (m ≤ M ∨ (k < i ∧ m ≤ M + 90)) ∧ (lp_X1_burn_9 (nI ra / (3 : Int32)) (fu, fi, sm, mk) i).2.2.1 k = nI m) ∧ (∀ k, k < 48 → i ≤ k → (lp_X1_burn_9 (nI ra / (3 : Int32)) (fu, fi, sm, mk) i).2.2.1 k = sm k) := by
  intro i
  induction i with
  | zero =>
    intro _
    rw [lp_X1_burn_9_0]
    exact ⟨fun k hk => by obtain ⟨m, h1, h2⟩ := bs k hk; exact ⟨m, Or.inl h1, h2⟩, fun _ _ _ => rfl⟩
  | succ i ih =>
    intro hi
    obtain ⟨j1, j2⟩ := ih (by omega)
    obtain ⟨-, -, -, -, b1, b2⟩ := zburn (mk := mk) (mk' := mk) zEq_r zEq_r (zEq_r (f := sm)) bu bi hr i (by omega)
    rw [lp_X1_burn_9_s]
    generalize lp_X1_burn_9 (nI ra / (3 : Int32)) (fu, fi, sm, mk) i = y at j1 j2 b1 b2 ⊢
    unfold st_X1_burn_9
    obtain ⟨a, ha, ea⟩ := b1 i (by omega)
    obtain ⟨b, hb, eb⟩ := b2 i (by omega)
    obtain ⟨s, hs, es⟩ := bs i (by omega)
    dsimp only
    rw [j2 i (by omega) (Nat.le_refl i), ea, eb, (zburnt ha hb).1, es, show (10 : Int32) = nI 10 from rfl, pk_mul, nI_add]
    refine ⟨fun k hk => ?_, fun k hk hk2 => ?_⟩
    · by_cases e : k = i
      · rw [e, upd_i]
        exact ⟨s + min a b * 10, Or.inr ⟨Nat.lt_succ_self i, by omega⟩, rfl⟩
      · rw [upd_o e]
        obtain ⟨m, h1, h2⟩ := j1 k hk
        exact ⟨m, by omega, h2⟩
    · rw [upd_o (by omega)]; exact j2 k hk (by omega)
theorem zSmB_settle {sm : Nat → Int32} {se : Int64} {ra M : Nat} (bs : zBd 48 M sm) (hr : ra ≤ 9) (hM : M ≤ 2000000) : ∀ i, i ≤ 48 → zBd 48 M (lp_X1_settle_2 (nI ra) (sm, se) i).1 := by
  intro i
  induction i with
  | zero => intro _; rw [lp_X1_settle_2_0]; exact bs
  | succ i ih =>
    intro hi
    have j := ih (by omega)
    rw [lp_X1_settle_2_s]
    unfold st_X1_settle_2
    obtain ⟨m, hm, em⟩ := j i (by omega)
    have hl : m * (ra + 1) ≤ 2000000 * 10 := Nat.mul_le_mul (by omega) (by omega)
    have hq : m * (ra + 1) / 20 ≤ m := by
      have h1 : m * (ra + 1) ≤ m * 20 := Nat.mul_le_mul_left m (by omega)
      exact Nat.div_le_of_le_mul (by omega)
    have e : (nI m - nI m * (nI ra + (1 : Int32)) / (20 : Int32)) = nI (m - m * (ra + 1) / 20) := by
      rw [nI_1, pk_mul, show nI (m * (ra + 1)) / (20 : Int32) = nI (m * (ra + 1) / 20) from pk_div (by omega) (by decide) (by decide), zsubN hq]
    dsimp only
    rw [em, e]
    exact zBd_u j (by omega : m - m * (ra + 1) / 20 ≤ M) rfl
end ZSB
section ZSC
variable {s : Nat → Int32} {dw M : Nat} {bl : Int64}
theorem zbrc (hd : dw < 9) : ∀ i, i ≤ 48 → ∀ k, k < 48 → (lp_X1_carry_10 (ze dw) (zf dw) (s, (fun _ => (0 : Int32)), bl) i).2.1 k = (if zt k (8 - dw) < i then s (zt k (8 - dw)) / (4 : Int32) else (0 : Int32)) := by
  intro i
  induction i with
  | zero => intro _ k _; rw [lp_X1_carry_10_0, if_neg (Nat.not_lt_zero _)]
  | succ i ih =>
    intro hi k hk
    have hi : i < 48 := hi
    have j := ih (by omega)
    have j1 := (zcar (wx := ze dw) (wy := zf dw) (bl := bl) (bl' := bl) (zEq_r (f := s)) i (by omega)).1 i hi
    rw [if_neg (Nat.lt_irrefl i)] at j1
    rw [lp_X1_carry_10_s]
    generalize lp_X1_carry_10 (ze dw) (zf dw) (s, (fun _ => (0 : Int32)), bl) i = y at j j1 ⊢
    unfold st_X1_carry_10
    dsimp only
    rw [j1]
    have g := zt_geo dw hd i hi
    have du := zt_dual2 (d := 8 - dw) hi hk (by omega)
    rw [show 8 - (8 - dw) = dw by omega] at du
    show (if r_X7_isCell (zgX i + ze dw) (zgY i + zf dw) = (0 : Int32) then y.2.1 else upd y.2.1 ((((zgY i + zf dw) * (8 : Int32)) + (zgX i + ze dw))).toNatClampNeg (y.2.1 ((((zgY i + zf dw) * (8 : Int32)) + (zgX i + ze dw))).toNatClampNeg + s i / (4 : Int32))) k = _
    by_cases c : r_X7_isCell (zgX i + ze dw) (zgY i + zf dw) = (0 : Int32)
    · rw [if_pos c] at g ⊢
      have ne : zt k (8 - dw) ≠ i := fun z => absurd (du.mp z) (by omega)
      rw [j k hk]
      by_cases q : zt k (8 - dw) < i
      · rw [if_pos q, if_pos (by omega)]
      · rw [if_neg q, if_neg (by omega)]
    · rw [if_neg c] at g ⊢
      rw [g]
      by_cases e : zt i dw = k
      · have e2 := du.mpr e
        rw [e, upd_i, j k hk, e2, if_neg (Nat.lt_irrefl i), if_pos (Nat.lt_succ_self i)]
        exact Int32.zero_add _
      · have ne : zt k (8 - dw) ≠ i := fun z => e (du.mp z)
        rw [upd_o (fun z => e z.symm), j k hk]
        by_cases q : zt k (8 - dw) < i
        · rw [if_pos q, if_pos (by omega)]
        · rw [if_neg q, if_neg (by omega)]
theorem zSmB_carry (hd : dw < 9) (bs : zBd 48 M s) (hM : M ≤ 2000000) : zBd 48 M (g_X1_carry_x_2 s (ze dw) (zf dw) bl) := by
  intro k hk
  show ∃ m, m ≤ M ∧ lp_X1_carry_103 _ _ 48 k = nI m
  rw [zcar2 48 (Nat.le_refl _) k hk, if_pos hk, (zcar (wx := ze dw) (wy := zf dw) (bl := bl) (bl' := bl) (zEq_r (f := s)) 48 (Nat.le_refl _)).1 k hk, if_pos hk, zbrc hd 48 (Nat.le_refl _) k hk]
  obtain ⟨m, hm, em⟩ := bs k hk
  have d4 : ∀ x, x ≤ M → nI x / (4 : Int32) = nI (x / 4) := fun x hx => pk_div (by omega) (by decide) (by decide)
  rw [em, d4 m hm, zsubN (Nat.div_le_self m 4)]
  by_cases c : zt k (8 - dw) < 48
  · rw [if_pos c]
    obtain ⟨m', hm', em'⟩ := bs _ c
    rw [em', d4 m' hm', nI_add]
    exact ⟨_, by omega, rfl⟩
  · rw [if_neg c]
    exact ⟨m - m / 4, by omega, Int32.add_zero _⟩
theorem zSmB_carN {br : Nat → Int32} (hd : dw < 9) (bs : zBd 48 M s) (hM : M ≤ 2000000) : ∀ n, zBd 48 M (lp_X1_runModel_14 (ze dw) (zf dw) (s, br, bl) n).1 := by
  intro n
  induction n with
  | zero => rw [lp_X1_runModel_14_0]; exact bs
  | succ n ih =>
    rw [lp_X1_runModel_14_s]
    exact zSmB_carry hd ih hM
theorem zSmB_hour {fu fi ln cl cp : Nat → Int32} {w ra : Nat} {mk st : Int64} (hd : dw < 9) (bu : zBd 48 99 fu) (bi : zBd 48 9 fi) (bs : zBd 48 M s) (hr : ra ≤ 9) (hM : M ≤ 1000000) : zBd 48 (M + 90) (g_X1_runModel_x_2 fu fi s ln cl cp (ze dw) (zf dw) (nI w) (nI ra) mk bl st w) := by
  have d5 := zdigb (p := cp) (c := cl) (ln := ln) bi 3
  obtain ⟨h, -⟩ := zSmB_burn (mk := mk) bu d5 bs hr hM 48 (Nat.le_refl _)
  have b1 : zBd 48 (M + 90) (lp_X1_burn_9 (nI ra / (3 : Int32)) (fu, (lp_X1_dig_2 cp (fi, ln, cl) 3).1, s, mk) 48).2.2.1 := fun k hk => by
    obtain ⟨m, h1, h2⟩ := h k hk
    exact ⟨m, by omega, h2⟩
  exact zSmB_settle (zSmB_carN hd b1 (by omega) w) hr (by omega) 48 (Nat.le_refl _)
end ZSC
/-! mended smoke stays within its bounds -/
theorem zIof {x : Int32} {n : Nat} (h : x.toInt = (n : Int)) : x = nI n := by
  apply Int32.toInt_inj.mp
  have hb : n < 2 ^ 31 := by have := x.toInt_lt; omega
  rw [h, nI_toInt hb]
theorem zmendv {a s T M : Nat} (ha : a ≤ 9999) (hs : s ≤ M) (hM : 9999 ≤ M ∧ M ≤ 1000000) (hT : 1 ≤ T ∧ T ≤ 1000) : ∃ m, m ≤ M ∧ (nI s + ((nI a - nI s) * nI T) / (nI T + (100 : Int32))) = nI m := by
  have t1 := nI_toInt (show a < 2 ^ 31 by omega)
  have t2 := nI_toInt (show s < 2 ^ 31 by omega)
  have t3 := nI_toInt (show T < 2 ^ 31 by omega)
  have hden : nI T + (100 : Int32) = nI (T + 100) := by rw [show (100 : Int32) = nI 100 from rfl, nI_add]
  have t4 := nI_toInt (show T + 100 < 2 ^ 31 by omega)
  have d1 : (nI a - nI s).toInt = (a : Int) - s := by rw [zsub (by omega) (by omega), t1, t2]
  by_cases c : s ≤ a
  · refine ⟨s + (a - s) * T / (T + 100), ?_, ?_⟩
    · have h1 : (a - s) * T / (T + 100) ≤ a - s := by
        apply Nat.div_le_of_le_mul
        rw [Nat.mul_comm (T + 100)]
        exact Nat.mul_le_mul_left _ (by omega)
      omega
    · have hl : (a - s) * T ≤ 9999 * 1000 := Nat.mul_le_mul (by omega) hT.2
      rw [zsubN c, pk_mul, hden, pk_div (by omega) (by omega) (by omega), nI_add]
  · have hc : a < s := by omega
    have hl : (s - a) * T ≤ 1000000 * 1000 := Nat.mul_le_mul (by omega) hT.2
    have h1 : (s - a) * T / (T + 100) ≤ s - a := by
      apply Nat.div_le_of_le_mul
      rw [Nat.mul_comm (T + 100)]
      exact Nat.mul_le_mul_left _ (by omega)
    have e1 : nI a - nI s = -(nI (s - a)) := by
      rw [← zsubN (Nat.le_of_lt hc), Int32.neg_sub]
    have e2 : (nI a - nI s) * nI T = -(nI ((s - a) * T)) := by rw [e1, Int32.neg_mul, pk_mul]
    have t5 := nI_toInt (show (s - a) * T < 2 ^ 31 by omega)
    have e3 : (-(nI ((s - a) * T))).toInt = -(((s - a) * T : Nat) : Int) := by
      have h := zsub (a := (0 : Int32)) (b := nI ((s - a) * T)) (by rw [t5, show (0 : Int32).toInt = 0 by decide]; omega) (by rw [t5, show (0 : Int32).toInt = 0 by decide]; omega)
      rw [Int32.zero_sub, t5, show (0 : Int32).toInt = 0 by decide] at h
      rw [h]; omega
    have e4 : (-(nI ((s - a) * T)) / nI (T + 100)).toInt = -(((s - a) * T / (T + 100) : Nat) : Int) := by
      rw [Int32.toInt_div, e3, t4, Int.neg_tdiv, ← Int.ofNat_tdiv]
      simp only [Int.bmod]
      generalize (s - a) * T / (T + 100) = z at h1 ⊢
      split <;> omega
    rw [e2, hden]
    generalize (s - a) * T / (T + 100) = z at h1 e4 ⊢
    refine ⟨s - z, by omega, ?_⟩
    have e5 : -(nI ((s - a) * T)) / nI (T + 100) = -(nI (z)) := by
      apply Int32.toInt_inj.mp
      rw [e4]
      have t6 := nI_toInt (show z < 2 ^ 31 by omega)
      have h := zsub (a := (0 : Int32)) (b := nI (z)) (by rw [t6, show (0 : Int32).toInt = 0 by decide]; omega) (by rw [t6, show (0 : Int32).toInt = 0 by decide]; omega)
      rw [Int32.zero_sub, t6, show (0 : Int32).toInt = 0 by decide] at h
      rw [h]; omega
    rw [e5, ← Int32.sub_eq_add_neg, zsubN (by omega)]
section ZSM
variable {tr pl hd va lo x y tr' va' out sm : Nat → Int32} {n M : Nat} {me : Int64}
theorem zmendW (hp : ∀ k, k < n → zSv (pl k) (x k) (y k)) (hr : ∀ k, k < n → zSr (hd k) (va k) (va' k)) (ht : ∀ k, k < n → ∃ m, m ≤ 100 ∧ tr k = nI m ∧ tr' k = nI m) (v : Nat) : ∀ j, j ≤ n → ∃ T W, T ≤ 100 * j ∧ W ≤ 9999 * T ∧ lp_X4_mendAll_16 tr pl hd va lo v ((0 : Int32), (0 : Int32)) j = (nI T, nI W) := by
  intro j
  induction j with
  | zero => intro _; rw [lp_X4_mendAll_16_0]; exact ⟨0, 0, Nat.le_refl _, Nat.le_refl _, rfl⟩
  | succ j ih =>
    intro hj
    obtain ⟨T, W, hT, hW, e1⟩ := ih (by omega)
    rw [lp_X4_mendAll_16_s, e1]
    unfold st_X4_mendAll_16
    dsimp only
    obtain ⟨m, hm, t1, t2⟩ := ht j (by omega)
    obtain ⟨g1, g2⟩ := zhasr (hr j (by omega))
    rw [t1]
    by_cases c1 : pl j = nI v
    · rw [if_pos c1, if_pos c1]
      by_cases c2 : hd j = (0 : Int32)
      · rw [if_pos c2, if_pos c2]
        exact ⟨T, W, by omega, hW, rfl⟩
      · rw [if_neg c2, if_neg c2]
        by_cases c3 : lo j = (0 : Int32)
        · rw [if_pos c3, if_pos c3]
          obtain ⟨q, hq, v1, v2⟩ := g2 c2
          rw [v1, pk_mul, nI_add, nI_add]
          have hmq : m * q ≤ m * 9999 := Nat.mul_le_mul_left m hq
          exact ⟨T + m, W + m * q, by omega, by omega, rfl⟩
        · rw [if_neg c3, if_neg c3]
          exact ⟨T, W, by omega, hW, rfl⟩
    · rw [if_neg c1, if_neg c1]
      exact ⟨T, W, by omega, hW, rfl⟩
theorem zSmB_mend (hp : ∀ k, k < n → zSv (pl k) (x k) (y k)) (hr : ∀ k, k < n → zSr (hd k) (va k) (va' k)) (ht : ∀ k, k < n → ∃ m, m ≤ 100 ∧ tr k = nI m ∧ tr' k = nI m) (hn : n ≤ 10) (hM : 9999 ≤ M ∧ M ≤ 1000000) (bs : zBd 48 M sm) : ∀ i, i ≤ 48 → zBd 48 M (lp_X4_mendAll_2 tr pl hd va lo n (me, sm) i).2 := by
  intro i
  induction i with
  | zero => intro _; rw [lp_X4_mendAll_2_0]; exact bs
  | succ i ih =>
    intro hi
    have j := ih (by omega)
    rw [lp_X4_mendAll_2_s]
    generalize lp_X4_mendAll_2 tr pl hd va lo n (me, sm) i = u at j ⊢
    unfold st_X4_mendAll_2
    obtain ⟨T, W, hT, hW, e1⟩ := zmendW (lo := lo) hp hr ht i n (Nat.le_refl _)
    rw [e1]
    dsimp only
    by_cases z : nI T ≤ (0 : Int32)
    · rw [if_pos z]; exact j
    · rw [if_neg z]
      have hT0 : 1 ≤ T := by
        rcases Nat.eq_zero_or_pos T with q | q
        · rw [q] at z; exact absurd Int32.le_rfl z
        · exact q
      obtain ⟨s, hs, es⟩ := j i (by omega)
      rw [es, show nI W / nI T = nI (W / T) from pk_div (by omega) (by omega) (by omega)]
      have ha : W / T ≤ 9999 := Nat.div_le_of_le_mul (by rw [Nat.mul_comm]; exact hW)
      obtain ⟨m, hm, em⟩ := zmendv ha hs hM ⟨hT0, by omega⟩
      exact zBd_u j hm em
end ZSM
