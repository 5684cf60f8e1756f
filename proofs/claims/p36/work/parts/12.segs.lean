/-! worlds by blocks; objects of a kind in any number -/
def zcat : List va_W → va_W
  | [] => []
  | [a] => a
  | a :: b :: l => a ++ zcat (b :: l)
theorem zcat_fl : ∀ bs : List va_W, zcat bs = bs.flatten
  | [] => rfl
  | [a] => by rw [zcat, List.flatten_cons, List.flatten_nil, List.append_nil]
  | a :: b :: l => by
    show a ++ zcat (b :: l) = _
    rw [zcat_fl (b :: l)]
    rfl
def zAp (x y : Nat × va_E) : Prop := x.1 ≠ y.1
theorem zD_iff {A : Nat → Prop} {w : va_W} : va_D A w ↔ w.Pairwise zAp ∧ ∀ q ∈ w, A q.1 := by
  constructor
  · intro h
    refine ⟨List.pairwise_iff_getElem.mpr fun i j hi hj hij e => ?_, fun q hq => ?_⟩
    · have := h.1 i j w[i] w[j] (List.getElem?_eq_getElem hi) (List.getElem?_eq_getElem hj) e
      omega
    · obtain ⟨k, hk⟩ := List.getElem?_of_mem hq
      exact h.2 k q hk
  · intro h
    refine ⟨fun i j x y hi hj e => ?_, fun k q hq => h.2 q (List.mem_of_getElem? hq)⟩
    obtain ⟨hi1, hi2⟩ := List.getElem?_eq_some_iff.mp hi
    obtain ⟨hj1, hj2⟩ := List.getElem?_eq_some_iff.mp hj
    have hp := List.pairwise_iff_getElem.mp h.1
    rcases Nat.lt_trichotomy i j with q | q | q
    · exact absurd (by rw [hi2, hj2]; exact e) (hp i j hi1 hj1 q)
    · exact q
    · exact absurd (by rw [hi2, hj2]; exact e.symm) (hp j i hj1 hi1 q)
theorem zP_iff {D : va_G} {cl : List vw_C} {w : va_W} {H : Heap} : va_P D cl w H ↔ ∀ q ∈ w, va_at D cl q H := by
  constructor
  · intro h q hq
    obtain ⟨k, hk⟩ := List.getElem?_of_mem hq
    exact h k q hk
  · exact fun h k q hk => h q (List.mem_of_getElem? hk)
/-- some of its blocks, in any order -/
theorem zW.blk {G : zG} {A : Nat → Prop} {H0 H : Heap} {locs : List Loc} (bs bs' : List va_W) (h : zW G A H0 H locs (zcat bs)) (is : List Nat) (hn : va_nd is = true) (hs : is.map (fun i => bs[i]?) = bs'.map some) : zW G A H0 H locs (zcat bs') := by
  rw [zcat_fl] at h ⊢
  obtain ⟨hP, hD, hS⟩ := h
  have hP := zP_iff.mp hP
  obtain ⟨hD1, hD2⟩ := zD_iff.mp hD
  have hl : ∀ (k : Nat) (b : va_W), bs'[k]? = some b → ∃ i : Nat, is[k]? = some i ∧ bs[i]? = some b := by
    intro k b hk
    have h1 : (is.map (fun i => bs[i]?))[k]? = some (some b) := by rw [hs, List.getElem?_map, hk]; rfl
    rw [List.getElem?_map] at h1
    cases hi : is[k]? with
    | none => rw [hi] at h1; cases h1
    | some i => rw [hi] at h1; exact ⟨i, rfl, Option.some.inj h1⟩
  have hm : ∀ q, q ∈ bs'.flatten → q ∈ bs.flatten := by
    intro q hq
    obtain ⟨b, hb, hq⟩ := List.mem_flatten.mp hq
    obtain ⟨k, hk⟩ := List.getElem?_of_mem hb
    obtain ⟨i, -, hi⟩ := hl k b hk
    exact List.mem_flatten.mpr ⟨b, List.mem_of_getElem? hi, hq⟩
  refine ⟨zP_iff.mpr fun q hq => hP q (hm q hq), zD_iff.mpr ⟨?_, fun q hq => hD2 q (hm q hq)⟩, hS⟩
  obtain ⟨h1, h2⟩ := List.pairwise_flatten.mp hD1
  have hp2 := List.pairwise_iff_getElem.mp h2
  refine List.pairwise_flatten.mpr ⟨fun b hb => ?_, List.pairwise_iff_getElem.mpr fun k j hk hj hkj x hx y hy => ?_⟩
  · obtain ⟨k, hk⟩ := List.getElem?_of_mem hb
    obtain ⟨i, -, hi⟩ := hl k b hk
    exact h1 b (List.mem_of_getElem? hi)
  · obtain ⟨i1, g1, e1⟩ := hl k _ (List.getElem?_eq_getElem hk)
    obtain ⟨i2, g2, e2⟩ := hl j _ (List.getElem?_eq_getElem hj)
    obtain ⟨b1, c1⟩ := List.getElem?_eq_some_iff.mp e1
    obtain ⟨b2, c2⟩ := List.getElem?_eq_some_iff.mp e2
    have hne : i1 ≠ i2 := by
      intro e
      subst e
      exact absurd (va_nd_inj is hn k j i1 g1 g2) (Nat.ne_of_lt hkj)
    rw [← c1] at hx
    rw [← c2] at hy
    rcases Nat.lt_or_gt_of_ne hne with q | q
    · exact hp2 i1 i2 b1 b2 q x hx y hy
    · exact fun e => hp2 i2 i1 b2 b1 q y hy x hx e.symm
/-- objects of a kind: n of them, at the addresses a, with the contents c -/
def sgW (n : Nat) (a : Nat → Nat) (c : Nat → va_E) : va_W := (List.range n).map (fun i => (a i, c i))
theorem sg_len {n : Nat} {a : Nat → Nat} {c : Nat → va_E} : (sgW n a c).length = n := by
  unfold sgW
  rw [List.length_map, List.length_range]
theorem sg_at {n i : Nat} {a : Nat → Nat} {c : Nat → va_E} (h : i < n) : (sgW n a c)[i]? = some (a i, c i) := by
  unfold sgW
  rw [List.getElem?_map, List.getElem?_range h]
  rfl
theorem sg_ext {n m : Nat} {a b : Nat → Nat} {c d : Nat → va_E} (h : n = m) (h1 : ∀ i, i < n → a i = b i) (h2 : ∀ i, i < n → c i = d i) : sgW n a c = sgW m b d := by
  subst h
  unfold sgW
  refine List.map_congr_left fun i hi => ?_
  have := List.mem_range.mp hi
  rw [h1 i this, h2 i this]
theorem sg_set {n i : Nat} {a : Nat → Nat} {c d : Nat → va_E} {e : va_E} (h : i < n) (he : d i = e) (hd : ∀ j, j < n → j ≠ i → d j = c j) : (sgW n a c).set i (a i, e) = sgW n a d := by
  apply List.ext_getElem?
  intro k
  rw [List.getElem?_set]
  by_cases hk : i = k
  · subst hk
    rw [if_pos rfl, sg_len, if_pos h, sg_at h, he]
  · rw [if_neg hk]
    by_cases hn : k < n
    · rw [sg_at hn, sg_at hn, hd k hn (fun z => hk z.symm)]
    · rw [List.getElem?_eq_none (by rw [sg_len]; omega), List.getElem?_eq_none (by rw [sg_len]; omega)]
theorem sg_push {n q : Nat} {a b : Nat → Nat} {c d : Nat → va_E} {e : va_E} (hq : b n = q) (he : d n = e) (hb : ∀ j, j < n → b j = a j) (hd : ∀ j, j < n → d j = c j) : sgW n a c ++ [(q, e)] = sgW (n + 1) b d := by
  unfold sgW
  rw [List.range_succ, List.map_append]
  refine congr (congrArg _ ?_) ?_
  · refine List.map_congr_left fun i hi => ?_
    have := List.mem_range.mp hi
    rw [hb i this, hd i this]
  · rw [List.map_singleton, hq, he]
theorem sg_0 {a : Nat → Nat} {c : Nat → va_E} : sgW 0 a c = [] := rfl
/-- a place behind k cells -/
theorem sg_he {S : va_W} {k i : Nat} {q : Nat × va_E} (cs : va_W) (hk : cs.length = k) (h : S[i]? = some q) : (cs ++ S)[k + i]? = some q := by
  subst hk
  rw [List.getElem?_append_right (Nat.le_add_right _ _), Nat.add_sub_cancel_left]
  exact h
theorem sg_in {S T : va_W} {i : Nat} {q : Nat × va_E} (h : S[i]? = some q) : (S ++ T)[i]? = some q := by
  rw [List.getElem?_append_left (List.getElem?_eq_some_iff.mp h).1]
  exact h
theorem sg_hset {S S' : va_W} {k i : Nat} {q : Nat × va_E} (cs : va_W) (hk : cs.length = k) (h : S.set i q = S') : (cs ++ S).set (k + i) q = cs ++ S' := by
  subst hk
  rw [List.set_append_right _ _ (Nat.le_add_right _ _), Nat.add_sub_cancel_left, h]
theorem sg_iset {S S' T : va_W} {i : Nat} {q : Nat × va_E} (hi : i < S.length) (h : S.set i q = S') : (S ++ T).set i q = S' ++ T := by
  rw [List.set_append_left _ _ hi, h]
theorem upd_o {f : Nat → Int32} {i j : Nat} {v : Int32} (h : j ≠ i) : upd f i v j = f j := if_neg h
theorem upd_i {f : Nat → Int32} {i : Nat} {v : Int32} : upd f i v i = v := if_pos rfl
