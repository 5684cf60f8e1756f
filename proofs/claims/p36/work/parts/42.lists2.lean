/-! lists of any size: the header (alW), its row (rwW: none at all while the list is new), its entries (a segment) -/
def zEl (G : zG) (e : va_E) : Prop := (∃ (ci : Nat) (vs : List Value) (r : vw_C), e = .inr (ci, vs) ∧ vwCl[ci]? = some r ∧ Cond.castable r.1 "java/lang/Object" ∈ zNest) ∨ (∃ (n : Nat) (f : Nat → Int32), e = .inl (G.2.1 0, n, .inl f) ∧ Cond.castable "[I" "java/lang/Object" ∈ zNest)
def laF (n : Nat) (a : Nat → Nat) : Nat → Option Nat := fun j => if j < n then some (a j) else none
def zLv (G : zG) (N q : Nat) : Value := .ref (if N = 0 then G.2.2 else q)
abbrev zRw : Type := Nat × Nat
def rwW (G : zG) (q : Nat) (a : Nat → Nat) (x : zRw) : va_W := if x.2 = 0 then [] else [(q, .inl (G.2.1 3, x.2, .inr (.inr (.inr (.inr (laF x.1 a))))))]
def zNc (n N : Nat) : Nat := if n < N then N else if N = 0 then 10 else N + N / 2
theorem rw_p {G : zG} {q n N : Nat} {a : Nat → Nat} (h : 0 < N) : rwW G q a (n, N) = [(q, .inl (G.2.1 3, N, .inr (.inr (.inr (.inr (laF n a))))))] := if_neg (by show ¬ N = 0; omega)
theorem rw_0 {G : zG} {q n : Nat} {a : Nat → Nat} : rwW G q a (n, 0) = [] := rfl
theorem zLv_p {G : zG} {N q : Nat} (h : 0 < N) : zLv G N q = .ref q := by unfold zLv; rw [if_neg (by omega)]
theorem zLv_0 {G : zG} {q : Nat} : zLv G 0 q = .ref G.2.2 := rfl
theorem laF_i {n j : Nat} {a : Nat → Nat} (h : j < n) : laF n a j = some (a j) := if_pos h
theorem laF_up {n v : Nat} {a : Nat → Nat} : va_up (laF n a) n (some v) = laF (n + 1) (va_up a n v) := by
  funext j
  show (if j = n then some v else (if j < n then some (a j) else none)) = (if j < n + 1 then some (if j = n then v else a j) else none)
  by_cases h : j = n
  · rw [if_pos h, if_pos (by omega), if_pos h]
  · rw [if_neg h, if_neg h]
    by_cases h1 : j < n
    · rw [if_pos h1, if_pos (by omega)]
    · rw [if_neg h1, if_neg (by omega)]
theorem laF_cpy {n : Nat} {a : Nat → Nat} : va_cpy (laF n a) (fun _ => none) 0 0 n = laF n a := by
  funext j
  unfold va_cpy
  by_cases h : j < n
  · rw [if_pos ⟨Nat.zero_le _, by omega⟩]
    congr 1
    omega
  · rw [if_neg (by omega)]
    unfold laF
    rw [if_neg h]
section ZL2
variable {p : Program} {l : Launch} {e : Env} {R : Room} {s : State} {m : MethodId} {args : Array Value} {below : List Frame} {meth : Method} {c : Code} {H : Heap} {locs : List Loc} {cells slots : Nat} {Q : State → Prop}
variable {cc bytes : ByteArray} {nL pc idx : Nat} {own : String} {G : zG} {A : Nat → Prop} {w : va_W} {ls : Array Slot} {rest : List Value} {a b : Nat}
theorem zEl.any (B : zM p s m args c cc nL own G A) (hP : va_P G.1 vwCl w H) {k v : Nat} {x : va_E} (he : w[k]? = some (v, x)) (h : zEl G x) : va_Any "java/lang/Object" s H v := by
  rcases h with ⟨ci, vs, r, rfl, hc, hca⟩ | ⟨n, f, rfl, hca⟩
  · refine va_rAny B.K hP he hc (fun comp c0 h1 h2 => ?_)
    obtain ⟨x, t, f1, f2, f3⟩ := Cond.castable_spec (va_Nw.use (A := #[]) rfl (B.nw hca))
    cases h2.symm.trans f1
    cases h1.symm.trans f2
    exact f3
  · obtain ⟨-, k0, hk0, cm, hkk⟩ := (B.K.2 0 _ rfl).1 n (fun j => .int (f j))
    refine ⟨_, hP k _ he, rfl, ⟨k0, hk0⟩, fun comp hcomp => ?_⟩
    obtain ⟨x, t, f1, f2, f3⟩ := Cond.castable_spec (va_Nw.use (A := #[]) rfl (B.nw hca))
    have h2 : s.vm.findClass "[I" = some (G.2.1 0) := (B.K.2 0 _ rfl).2
    cases h2.symm.trans f1
    cases hcomp.symm.trans f2
    exact f3
/-- anything into a row of objects -/
theorem zmast (B : zM p s m args c cc nL own G A) (hW : zW G A s.heap H locs w) (q0 : Nat) {a n v : Nat} {f : Nat → Option Nat} (he : w[q0]? = some (a, .inl (G.2.1 3, n, .inr (.inr (.inr (.inr f)))))) (hv : va_Any "java/lang/Object" s H v) {i : Int32} (hin : vp_in i n) (hdg : decode cc pc = .ok (.aastore, 1))
    (kk : ∀ (H1 : Heap) (locs1 : List Loc), zW G A s.heap H1 locs1 (w.set q0 (a, .inl (G.2.1 3, n, .inr (.inr (.inr (.inr (va_up f i.toNatClampNeg (some v)))))))) → W p l e R s m args below meth c H1 locs1 cells slots Q (F0 m (pc + 1) ls rest)) : W p l e R s m args below meth c H locs cells slots Q (F0 m pc ls (.ref v :: .int i :: .ref a :: rest)) :=
  va_astqM (D := G.1) (cl := vwCl) (tys := zTy G) (A := A) B.x B.b B.K hW.1 hW.2.1 hW.2.2 q0 3 he rfl hv hin hdg (fun H1 l1 h1 h2 h3 => kk H1 l1 ⟨h1, h2, h3⟩)
/-- an entry of a row of objects -/
theorem zmald (B : zM p s m args c cc nL own G A) (hW : zW G A s.heap H locs w) (q0 : Nat) {a n v : Nat} {f : Nat → Option Nat} (he : w[q0]? = some (a, .inl (G.2.1 3, n, .inr (.inr (.inr (.inr f)))))) {i : Int32} (hin : vp_in i n) (hv : f i.toNatClampNeg = some v) (hdg : decode cc pc = .ok (.aaload, 1))
    (kk : W p l e R s m args below meth c H locs cells slots Q (F0 m (pc + 1) ls (.ref v :: rest))) : W p l e R s m args below meth c H locs cells slots Q (F0 m pc ls (.int i :: .ref a :: rest)) :=
  va_aldq (D := G.1) (cl := vwCl) (tys := zTy G) B.x B.b B.K hW.1 q0 3 he rfl hin hdg (by rw [hv]; exact kk)
/-- a row's length -/
theorem zmlen (B : zM p s m args c cc nL own G A) (hW : zW G A s.heap H locs w) (q0 : Nat) {a n : Nat} {f : Nat → Option Nat} (he : w[q0]? = some (a, .inl (G.2.1 3, n, .inr (.inr (.inr (.inr f)))))) (hdg : decode cc pc = .ok (.arraylength, 1))
    (kk : W p l e R s m args below meth c H locs cells slots Q (F0 m (pc + 1) ls (.int (nI n) :: rest))) : W p l e R s m args below meth c H locs cells slots Q (F0 m pc ls (.ref a :: rest)) :=
  zalen B hW q0 3 he rfl hdg kk
end ZL2
/-! Objects.checkIndex -/
set_option maxHeartbeats 4000000 in
set_option maxRecDepth 100000 in
theorem c_J3_checkIndex (l : Launch) (G : zG) (i n : Nat) (hi : i < n) (hn : n < 2 ^ 31) : zC l yJ3_checkIndex_8e157 cJ3_checkIndex_8e157 3 (some .int) 0 0 0 G [.int (nI i), .int (nI n), .null] [] (fun r u => r = some (.int (nI i)) ∧ u = []) := by
  refine zC.of RJ3 rfl (by decide) (Nat.le_of_ble_eq_true rfl) ?_
  intro p e s m args below meth c A ls B hr hlk hnm hW hl
  have hx := B.x
  have hb := B.b
  have hl : lv_has ls 3 [(0, .int (nI i)), (1, .int (nI n)), (2, .null)] := hl
  refine lv_iload_n hx hb dJ3_checkIndex_8e157_0 rfl (lv_at hl 0 rfl) ?_
  refine lv_if_lt (tgt := 9) hx hb dJ3_checkIndex_8e157_1 (by decide) (fun c_1 => absurd c_1 (nI_pos (by omega))) (fun c_1 => ?_)
  refine lv_iload_n hx hb dJ3_checkIndex_8e157_4 rfl (lv_at hl 0 rfl) ?_
  refine lv_iload_n hx hb dJ3_checkIndex_8e157_5 rfl (lv_at hl 1 rfl) ?_
  refine lv_icmp_lt (tgt := 16) hx hb dJ3_checkIndex_8e157_6 (by decide) (fun c_6 => ?_) (fun c_6 => absurd (nI_lt hi hn) c_6)
  refine lv_iload_n hx hb dJ3_checkIndex_8e157_16 rfl (lv_at hl 0 rfl) ?_
  exact ziret B hr hlk hW ⟨rfl, rfl⟩ (Nat.le_refl _) (Nat.le_refl _) dJ3_checkIndex_8e157_17
set_option maxHeartbeats 4000000 in
set_option maxRecDepth 100000 in
theorem c_J15_checkIndex (l : Launch) (G : zG) (i n : Nat) (hi : i < n) (hn : n < 2 ^ 31) : zC l yJ15_checkIndex_7cf53 cJ15_checkIndex_7cf53 2 (some .int) 1 0 0 G [.int (nI i), .int (nI n)] [] (fun r u => r = some (.int (nI i)) ∧ u = []) := by
  refine zC.of RJ15 rfl (by decide) (Nat.le_of_ble_eq_true rfl) ?_
  intro p e s m args below meth c A ls B hr hlk hnm hW hl
  have hx := B.x
  have hb := B.b
  have hl : lv_has ls 2 [(0, .int (nI i)), (1, .int (nI n))] := hl
  refine lv_iload_n hx hb dJ15_checkIndex_7cf53_0 rfl (lv_at hl 0 rfl) ?_
  refine lv_iload_n hx hb dJ15_checkIndex_7cf53_1 rfl (lv_at hl 1 rfl) ?_
  refine lv_null hx hb dJ15_checkIndex_7cf53_2 ?_
  refine zcS (w1 := []) (wc := []) (w2 := []) (As := [.int (nI i), .int (nI n), .null]) B (hW.eq rfl) (c_J3_checkIndex l G i n hi hn) yd_J3_checkIndex_8e157 ml_J15_105 rfl hl.1 rfl (Nat.le_of_ble_eq_true rfl) ⟨Nat.le_of_ble_eq_true rfl, Nat.le_of_ble_eq_true rfl⟩ ⟨(Nat.le_of_ble_eq_true rfl), (Nat.le_of_ble_eq_true rfl)⟩ dJ15_checkIndex_7cf53_3 (fun v u H locs hp hW => ?_)
  obtain ⟨rfl, rfl⟩ := hp
  exact ziret B hr hlk (hW.eq rfl) ⟨rfl, rfl⟩ (Nat.le_refl _) (Nat.le_refl _) dJ15_checkIndex_7cf53_6
/-! get -/
set_option maxHeartbeats 4000000 in
set_option maxRecDepth 100000 in
theorem c_elementData (l : Launch) (G : zG) (h q i n N : Nat) (a : Nat → Nat) (mc : Int32) (hi : i < n) (hnN : n ≤ N) (hN : N < 2 ^ 31) : zC l yJx4a65c_elementData_915e3 cJx4a65c_elementData_915e3 2 (some (.object "java/lang/Object")) 0 0 0 G [.ref h, .int (nI i)] ([(h, .inr (3, [.int mc, .ref q, .int (nI n)])), (q, .inl (G.2.1 3, N, .inr (.inr (.inr (.inr (laF n a))))))]) (fun r u => r = some (.ref (a i)) ∧ u = [(h, .inr (3, [.int mc, .ref q, .int (nI n)])), (q, .inl (G.2.1 3, N, .inr (.inr (.inr (.inr (laF n a))))))]) := by
  refine zC.of RJx4a65c rfl (by decide) (Nat.le_of_ble_eq_true rfl) ?_
  intro p e s m args below meth c A ls B hr hlk hnm hW hl
  have hx := B.x
  have hb := B.b
  have hl : lv_has ls 2 [(0, .ref h), (1, .int (nI i))] := hl
  refine lv_aload_n hx hb dJx4a65c_elementData_915e3_0 rfl (lv_at hl 0 rfl) ?_
  refine zget B hW 0 rfl lf_Jx4a65c_9 rfl dJx4a65c_elementData_915e3_1 ?_
  refine lv_iload_n hx hb dJx4a65c_elementData_915e3_4 rfl (lv_at hl 1 rfl) ?_
  refine zmald B hW 1 rfl (vp_in_nI (by omega) hN) (by rw [nI_clamp (by omega)]; exact laF_i hi) dJx4a65c_elementData_915e3_5 ?_
  exact zaret B hr hlk (Or.inl ⟨_, rfl⟩) (Or.inr ⟨_, rfl⟩) hW ⟨rfl, rfl⟩ (Nat.le_refl _) (Nat.le_refl _) dJx4a65c_elementData_915e3_6
set_option maxHeartbeats 4000000 in
set_option maxRecDepth 100000 in
theorem c_get (l : Launch) (G : zG) (h : Nat) (ad : Nat → Nat) (mc : Int32) (q n N : Nat) (a : Nat → Nat) (x : Int32) (i : Nat) (hx0 : x = nI i) (hi : i < n) (hnN : n ≤ N) (hN : N < 2 ^ 31) : zC l yJx4a65c_get_915e3 cJx4a65c_get_915e3 2 (some (.object "java/lang/Object")) 2 0 0 G [.ref h, .int x] (alW G h ad (mc, zLv G N q, nI n) ++ rwW G q a (n, N)) (fun r u => r = some (.ref (a i)) ∧ u = alW G h ad (mc, zLv G N q, nI n) ++ rwW G q a (n, N)) := by
  subst hx0
  rw [rw_p (by omega), zLv_p (by omega)]
  refine zC.of RJx4a65c rfl (by decide) (Nat.le_of_ble_eq_true rfl) ?_
  intro p e s m args below meth c A ls B hr hlk hnm hW hl
  have hx := B.x
  have hb := B.b
  have hl : lv_has ls 2 [(0, .ref h), (1, .int (nI i))] := hl
  refine lv_iload_n hx hb dJx4a65c_get_915e3_0 rfl (lv_at hl 1 rfl) ?_
  refine lv_aload_n hx hb dJx4a65c_get_915e3_1 rfl (lv_at hl 0 rfl) ?_
  refine zget B hW 0 rfl lf_Jx4a65c_48 rfl dJx4a65c_get_915e3_2 ?_
  refine zcS (w1 := []) (wc := []) (w2 := [(h, .inr (3, [.int mc, .ref q, .int (nI n)])), (q, .inl (G.2.1 3, N, .inr (.inr (.inr (.inr (laF n a))))))]) (As := [.int (nI i), .int (nI n)]) B (hW.eq rfl) (c_J15_checkIndex l G i n hi (by omega)) yd_J15_checkIndex_7cf53 ml_Jx4a65c_118 rfl hl.1 rfl (Nat.le_of_ble_eq_true rfl) ⟨Nat.le_of_ble_eq_true rfl, Nat.le_of_ble_eq_true rfl⟩ ⟨(Nat.le_of_ble_eq_true rfl), (Nat.le_of_ble_eq_true rfl)⟩ dJx4a65c_get_915e3_5 (fun v u H locs hp hW => ?_)
  obtain ⟨rfl, rfl⟩ := hp
  refine lv_pop hx hb dJx4a65c_get_915e3_8 rfl ?_
  refine lv_aload_n hx hb dJx4a65c_get_915e3_9 rfl (lv_at hl 0 rfl) ?_
  refine lv_iload_n hx hb dJx4a65c_get_915e3_10 rfl (lv_at hl 1 rfl) ?_
  refine zcV (w1 := []) (wc := [(h, .inr (3, [.int mc, .ref q, .int (nI n)])), (q, .inl (G.2.1 3, N, .inr (.inr (.inr (.inr (laF n a))))))]) (w2 := []) (As := [.int (nI i)]) B (hW.eq rfl) (c_elementData l G h q i n N a mc hi hnN hN) yd_Jx4a65c_elementData_915e3 ml_Jx4a65c_123 0 rfl rfl rfl rfl hl.1 rfl (Nat.le_of_ble_eq_true rfl) ⟨Nat.le_of_ble_eq_true rfl, Nat.le_of_ble_eq_true rfl⟩ ⟨(Nat.le_of_ble_eq_true rfl), (Nat.le_of_ble_eq_true rfl)⟩ dJx4a65c_get_915e3_11 (fun v u H locs hp hW => ?_)
  obtain ⟨rfl, rfl⟩ := hp
  exact zaret B hr hlk (Or.inl ⟨_, rfl⟩) (Or.inr ⟨_, rfl⟩) (hW.eq rfl) ⟨rfl, rfl⟩ (Nat.le_refl _) (Nat.le_refl _) dJx4a65c_get_915e3_14
/-! an iterator's next -/
set_option maxHeartbeats 4000000 in
set_option maxRecDepth 100000 in
theorem c_checkMod (l : Launch) (G : zG) (h h2 : Nat) (cu la mc : Int32) (v z : Value) : zC l yJx35411_checkForComodification_da8c8 cJx35411_checkForComodification_da8c8 1 none 0 0 0 G [.ref h] ([(h, .inr (2, [.int cu, .int la, .int mc, .ref h2])), (h2, .inr (3, [.int mc, v, z]))]) (fun r u => r = none ∧ u = [(h, .inr (2, [.int cu, .int la, .int mc, .ref h2])), (h2, .inr (3, [.int mc, v, z]))]) := by
  refine zC.of RJx35411 rfl (by decide) (Nat.le_of_ble_eq_true rfl) ?_
  intro p e s m args below meth c A ls B hr hlk hnm hW hl
  have hx := B.x
  have hb := B.b
  have hl : lv_has ls 1 [(0, .ref h)] := hl
  refine lv_aload_n hx hb dJx35411_checkForComodification_da8c8_0 rfl (lv_at hl 0 rfl) ?_
  refine zget B hW 0 rfl lf_Jx35411_1 rfl dJx35411_checkForComodification_da8c8_1 ?_
  refine zgetS B hW 1 rfl lf_Jx35411_17 rfl dJx35411_checkForComodification_da8c8_4 ?_
  refine lv_aload_n hx hb dJx35411_checkForComodification_da8c8_7 rfl (lv_at hl 0 rfl) ?_
  refine zget B hW 0 rfl lf_Jx35411_22 rfl dJx35411_checkForComodification_da8c8_8 ?_
  refine lv_icmp_eq (tgt := 22) hx hb dJx35411_checkForComodification_da8c8_11 (by decide) (fun c_11 => ?_) (fun c_11 => absurd rfl c_11)
  exact zvret B hr hlk hW ⟨rfl, rfl⟩ (Nat.le_refl _) (Nat.le_refl _) dJx35411_checkForComodification_da8c8_22
set_option maxHeartbeats 4000000 in
set_option maxRecDepth 100000 in
theorem c_next (l : Launch) (G : zG) (h : Nat) (ad ad2 : Nat → Nat) (la mc : Int32) (q n N : Nat) (a : Nat → Nat) (i : Nat) (hi : i < n) (hnN : n ≤ N) (hN : N < 2 ^ 31) : zC l yJx35411_next_0502b cJx35411_next_0502b 3 (some (.object "java/lang/Object")) 1 0 0 G [.ref h] (itW G h ad (nI i, la, mc) ++ (alW G (ad 0) ad2 (mc, zLv G N q, nI n) ++ rwW G q a (n, N))) (fun r u => r = some (.ref (a i)) ∧ u = itW G h ad (nI (i + 1), nI i, mc) ++ (alW G (ad 0) ad2 (mc, zLv G N q, nI n) ++ rwW G q a (n, N))) := by
  rw [rw_p (by omega), zLv_p (by omega)]
  refine zC.of RJx35411 rfl (by decide) (Nat.le_of_ble_eq_true rfl) ?_
  intro p e s m args below meth c A ls B hr hlk hnm hW hl
  have hx := B.x
  have hb := B.b
  have hl : lv_has ls 3 [(0, .ref h)] := hl
  refine lv_aload_n hx hb dJx35411_next_0502b_0 rfl (lv_at hl 0 rfl) ?_
  refine zcV (w1 := []) (wc := [(h, .inr (2, [.int (nI i), .int la, .int mc, .ref (ad 0)])), (ad 0, .inr (3, [.int mc, .ref q, .int (nI n)]))]) (w2 := [(q, .inl (G.2.1 3, N, .inr (.inr (.inr (.inr (laF n a))))))]) (As := []) B (hW.eq rfl) (c_checkMod l G h (ad 0) (nI i) la mc _ _) yd_Jx35411_checkForComodification_da8c8 ml_Jx35411_31 0 rfl rfl rfl rfl hl.1 rfl (Nat.le_of_ble_eq_true rfl) ⟨Nat.le_of_ble_eq_true rfl, Nat.le_of_ble_eq_true rfl⟩ ⟨(Nat.le_of_ble_eq_true rfl), (Nat.le_of_ble_eq_true rfl)⟩ dJx35411_next_0502b_1 (fun v u H locs hp hW => ?_)
  obtain ⟨rfl, rfl⟩ := hp
  have hW := hW.eq (w' := [(h, .inr (2, [.int (nI i), .int la, .int mc, .ref (ad 0)])), (ad 0, .inr (3, [.int mc, .ref q, .int (nI n)])), (q, .inl (G.2.1 3, N, .inr (.inr (.inr (.inr (laF n a))))))]) rfl
  refine lv_aload_n hx hb dJx35411_next_0502b_4 rfl (lv_at hl 0 rfl) ?_
  refine zget B hW 0 rfl lf_Jx35411_25 rfl dJx35411_next_0502b_5 ?_
  refine lv_istore_n hx hb dJx35411_next_0502b_8 rfl hl (by decide) rfl (fun ls hl => ?_)
  refine lv_iload_n hx hb dJx35411_next_0502b_9 rfl (lv_at hl 0 rfl) ?_
  refine lv_aload_n hx hb dJx35411_next_0502b_10 rfl (lv_at hl 1 rfl) ?_
  refine zget B hW 0 rfl lf_Jx35411_1 rfl dJx35411_next_0502b_11 ?_
  refine zgetN B hW 1 rfl lf_Jx35411_28 rfl dJx35411_next_0502b_14 ?_
  refine lv_icmp_lt (tgt := 28) hx hb dJx35411_next_0502b_17 (by decide) (fun c_17 => ?_) (fun c_17 => absurd (nI_lt hi (by omega)) c_17)
  refine lv_aload_n hx hb dJx35411_next_0502b_28 rfl (lv_at hl 1 rfl) ?_
  refine zget B hW 0 rfl lf_Jx35411_1 rfl dJx35411_next_0502b_29 ?_
  refine zget B hW 1 rfl lf_Jx35411_37 rfl dJx35411_next_0502b_32 ?_
  refine lv_astore_n hx hb dJx35411_next_0502b_35 rfl hl (by decide) rfl (fun ls hl => ?_)
  refine lv_iload_n hx hb dJx35411_next_0502b_36 rfl (lv_at hl 1 rfl) ?_
  refine lv_aload_n hx hb dJx35411_next_0502b_37 rfl (lv_at hl 0 rfl) ?_
  refine zmlen B hW 2 rfl dJx35411_next_0502b_38 ?_
  refine lv_icmp_lt (tgt := 50) hx hb dJx35411_next_0502b_39 (by decide) (fun c_39 => ?_) (fun c_39 => absurd (nI_lt (by omega) hN) c_39)
  refine lv_aload_n hx hb dJx35411_next_0502b_50 rfl (lv_at hl 2 rfl) ?_
  refine lv_iload_n hx hb dJx35411_next_0502b_51 rfl (lv_at hl 1 rfl) ?_
  refine lv_iconst (v := (1 : Int32)) hx hb dJx35411_next_0502b_52 (by decide) ?_
  refine lv_iadd hx hb dJx35411_next_0502b_53 ?_
  refine W.eq (g2 := F0 m 54 ls [.int (nI (i + 1)), .ref h]) (by rw [← nI_1] <;> rfl) ?_
  refine zput B hW 0 rfl lf_Jx35411_25 ft_Jx35411_0 rfl rfl (Nat.le_of_ble_eq_true rfl) dJx35411_next_0502b_54 (fun H locs hW => ?_)
  refine lv_aload_n hx hb dJx35411_next_0502b_57 rfl (lv_at hl 0 rfl) ?_
  refine lv_aload_n hx hb dJx35411_next_0502b_58 rfl (lv_at hl 2 rfl) ?_
  refine lv_iload_n hx hb dJx35411_next_0502b_59 rfl (lv_at hl 1 rfl) ?_
  refine lv_dup_x1 hx hb dJx35411_next_0502b_60 rfl rfl ?_
  refine zput B hW 0 rfl lf_Jx35411_13 ft_Jx35411_1 rfl rfl (Nat.le_of_ble_eq_true rfl) dJx35411_next_0502b_61 (fun H locs hW => ?_)
  refine zmald B hW 2 rfl (vp_in_nI (by omega) hN) (by rw [nI_clamp (by omega)]; exact laF_i hi) dJx35411_next_0502b_64 ?_
  exact zaret B hr hlk (Or.inl ⟨_, rfl⟩) (Or.inr ⟨_, rfl⟩) (hW.eq rfl) ⟨rfl, rfl⟩ (Nat.le_refl _) (Nat.le_refl _) dJx35411_next_0502b_65
