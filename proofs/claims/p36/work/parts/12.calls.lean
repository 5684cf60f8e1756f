section ZK
variable {p : Program} {l : Launch} {e : Env} {R : Room} {s : State} {m : MethodId} {args : Array Value} {below : List Frame} {meth : Method} {c : Code} {H : Heap} {locs : List Loc} {cells slots : Nat} {Q : State → Prop}
variable {cc bytes : ByteArray} {nL pc maxL n d mc ms idx : Nat} {own C host : String} {G : zG} {A : Nat → Prop} {w w1 w2 wc : va_W} {ls : Array Slot} {rest As : List Value} {b : Nat} {y : MethodName} {ret : Option FieldType} {post : Option Value → va_W → Prop}
theorem va_P_l {D : va_G} {cl : List vw_C} {u v : va_W} {H : Heap} (h : va_P D cl (u ++ v) H) : va_P D cl u H := fun k q hk => h k q (by rw [List.getElem?_append_left (List.getElem?_eq_some_iff.mp hk).1]; exact hk)
theorem va_P_r {D : va_G} {cl : List vw_C} {u v : va_W} {H : Heap} (h : va_P D cl (u ++ v) H) : va_P D cl v H := fun k q hk => h (u.length + k) q (by rw [List.getElem?_append_right (Nat.le_add_right _ _), Nat.add_sub_cancel_left]; exact hk)
theorem va_D_l {A : Nat → Prop} {u v : va_W} (h : va_D A (u ++ v)) : va_D A u := ⟨fun i j x y hi hj e => h.1 i j x y (by rw [List.getElem?_append_left (List.getElem?_eq_some_iff.mp hi).1]; exact hi) (by rw [List.getElem?_append_left (List.getElem?_eq_some_iff.mp hj).1]; exact hj) e, fun k q hk => h.2 k q (by rw [List.getElem?_append_left (List.getElem?_eq_some_iff.mp hk).1]; exact hk)⟩
theorem va_D_r {A : Nat → Prop} {u v : va_W} (h : va_D A (u ++ v)) : va_D A v := ⟨fun i j x y hi hj e => by
  have := h.1 (u.length + i) (u.length + j) x y (by rw [List.getElem?_append_right (Nat.le_add_right _ _), Nat.add_sub_cancel_left]; exact hi) (by rw [List.getElem?_append_right (Nat.le_add_right _ _), Nat.add_sub_cancel_left]; exact hj) e
  omega, fun k q hk => h.2 (u.length + k) q (by rw [List.getElem?_append_right (Nat.le_add_right _ _), Nat.add_sub_cancel_left]; exact hk)⟩
theorem va_D_x {A : Nat → Prop} {u v : va_W} (h : va_D A (u ++ v)) {i j : Nat} {x y : Nat × va_E} (hi : u[i]? = some x) (hj : v[j]? = some y) : x.1 ≠ y.1 := fun e => by
  have hl := (List.getElem?_eq_some_iff.mp hi).1
  have := h.1 i (u.length + j) x y (by rw [List.getElem?_append_left hl]; exact hi) (by rw [List.getElem?_append_right (Nat.le_add_right _ _), Nat.add_sub_cancel_left]; exact hj) e
  omega
/-- behind a call on the middle part of a world -/
theorem zjoin {H1 : Heap} {locs1 : List Loc} {u : va_W} (hW : zW G A s.heap H locs (w1 ++ (wc ++ w2))) (hk : ∀ q : Nat, q < H.size → ¬ va_A wc H.size q → H1[q]? = H[q]?) (hF : ∀ q, va_A wc H.size q → A q) (hP1 : va_P G.1 vwCl u H1) (hD1 : va_D (va_A wc H.size) u) (hS1 : va_S A s.heap H1 locs1) : zW G A s.heap H1 locs1 (w1 ++ (u ++ w2)) := by
  obtain ⟨hP, hD, hS⟩ := hW
  have out1 : ∀ (k : Nat) (q : Nat × va_E), w1[k]? = some q → q.1 < H.size ∧ ¬ va_A wc H.size q.1 := fun k q hq => by
    have hl := (va_P_l hP k q hq).lt
    refine ⟨hl, fun h => h.elim (fun ⟨k2, e, h2⟩ => ?_) (fun h2 => by omega)⟩
    have hl2 := (List.getElem?_eq_some_iff.mp h2).1
    exact va_D_x hD hq (show (wc ++ w2)[k2]? = some (q.1, e) by rw [List.getElem?_append_left hl2]; exact h2) rfl
  have out2 : ∀ (k : Nat) (q : Nat × va_E), w2[k]? = some q → q.1 < H.size ∧ ¬ va_A wc H.size q.1 := fun k q hq => by
    have hl := (va_P_r (va_P_r hP) k q hq).lt
    exact ⟨hl, fun h => h.elim (fun ⟨k2, e, h2⟩ => va_D_x (va_D_r hD) h2 hq rfl) (fun h2 => by omega)⟩
  have in1 : ∀ (k : Nat) (q : Nat × va_E), u[k]? = some q → va_A wc H.size q.1 := fun k q hq => hD1.2 k q hq
  refine ⟨va_P.app (fun k q hq => ?_) (va_P.app hP1 (fun k q hq => ?_)), va_D.app (va_D_l hD) (va_D.app (hD1.weaken (fun k q _ h => hF q.1 h)) (va_D_r (va_D_r hD)) (fun i j x z hi hj e => (out2 j z hj).2 (e ▸ in1 i x hi))) (fun i j x z hi hj e => ?_), hS1⟩
  · exact (va_P_l hP k q hq).kept (hk q.1 (out1 k q hq).1 (out1 k q hq).2)
  · exact (va_P_r (va_P_r hP) k q hq).kept (hk q.1 (out2 k q hq).1 (out2 k q hq).2)
  · by_cases hl : j < u.length
    · rw [List.getElem?_append_left hl] at hj
      exact (out1 i x hi).2 (e ▸ in1 j z hj)
    · rw [List.getElem?_append_right (by omega)] at hj
      have hl2 : j - u.length < w2.length := (List.getElem?_eq_some_iff.mp hj).1
      exact va_D_x hD hi (show (wc ++ w2)[wc.length + (j - u.length)]? = some z by rw [List.getElem?_append_right (Nat.le_add_right _ _), Nat.add_sub_cancel_left]; exact hj) e
theorem zfree (hW : zW G A s.heap H locs (w1 ++ (wc ++ w2))) (hA : ∀ q, s.heap.size ≤ q → A q) : ∀ q, va_A wc H.size q → A q := fun q h => h.elim (fun ⟨k, e, h⟩ => (va_D_l (va_D_r hW.2.1)).2 k (q, e) h) (fun h => hA q (Nat.le_trans hW.2.2.1 h))
/-- what a callee finds -/
theorem zpre (B : zM p s m args c cc nL own G A) (hW : zW G A s.heap H locs (w1 ++ (wc ++ w2))) {av : List Value} : ∀ U : State, U.heap = H → s.WarmedH U.vm → zPc G H.size av wc av.toArray U := fun U hU hWm =>
  ⟨rfl, by rw [hU], by rw [hU]; exact va_P_l (va_P_r hW.1), (va_D_l (va_D_r hW.2.1)).weaken (fun _ _ _ _ => trivial), B.E.go (Or.inl hWm) (fun a h1 h2 => by rw [hU]; exact hW.2.2.2.1 a h1 h2) (zfree hW B.nA)⟩
/-- the words and the room of a call -/
theorem zCB (ts : ∀ w ∈ zAll, w.before args s = true) (hc : Cond.code y bytes maxL ret ∈ zAll) (hi : Cond.initialized y.cls ∈ zAll) (hl : Cond.methodLink own idx y ∈ zAll)
    (hd : y.cls ≠ "java/lang/invoke/MethodHandle" ∧ y.cls ≠ "java/lang/invoke/VarHandle" ∧ (parseMethodDescriptor y.desc).map (fun d => d.parameters.length) = some n) (hR : d + 1 ≤ R.frames ∧ 8 + (maxL + 11) + 80 * d ≤ R.locals) :
    CallB R s args own idx y bytes maxL ret (Cond.code y bytes maxL ret :: zAll) (zRm d mc ms) mc ms n :=
  callB_of (Ts := zAll) n ts (zGI hc) rfl rfl rfl (ts _ hi) (ts _ hl) hd hR
theorem zback (B : zM p s m args c cc nL own G A) (hW : zW G A s.heap H locs (w1 ++ (wc ++ w2))) {st0 : List Value} {a : Array Value}
    (hr : va_Run p l e R s m args below meth c H locs cells slots mc ms (F0 m pc ls st0) rest (zQ G (va_A wc H.size) post a) (va_A wc H.size))
    (kk : ∀ (v : Option Value) (u : va_W) (H1 : Heap) (locs1 : List Loc), post v u → zW G A s.heap H1 locs1 (w1 ++ (u ++ w2)) → W p l e R s m args below meth c H1 locs1 (cells + mc) (slots + ms) Q (F0 m (pc + 3) ls (v.toList ++ rest))) :
    W p l e R s m args below meth c H locs cells slots Q (F0 m pc ls st0) := by
  have hF := zfree hW B.nA
  intro T hT X
  obtain ⟨v, st₀, t, T', L, h0, X', hL, e1, e2, ⟨⟨v', u, hv, hp, hPu, hDu⟩, hz, hk⟩, st⟩ := hr T hT X
  cases hv
  rw [h0] at hz hk
  obtain ⟨t2, a1, b1⟩ := kk v u T'.heap (locs ++ L) hp (zjoin hW (fun q h1 h2 => by rw [e1]; exact hk q h1 h2) hF (by rw [e1]; exact hPu) hDu
    ⟨Nat.le_trans hW.2.2.1 (by rw [e1]; exact hz), fun q h1 h2 => by rw [e1, hk q (Nat.lt_of_lt_of_le h1 hW.2.2.1) (fun z => h2 (hF q z))]; exact hW.2.2.2.1 q h1 h2, fun q hq => by
      rcases List.mem_append.mp hq with h | h
      · exact hW.2.2.2.2 q h
      · exact hF _ (hL q h)⟩) T' rfl X'
  exact ⟨t2, st t2 a1, b1⟩
/-- what the tables say of a callee: its code, its class; found by class and name (virtual), or static -/
def zYv (y : MethodName) (bytes : ByteArray) (maxL : Nat) (ret : Option FieldType) (n : Nat) : Prop := Cond.code y bytes maxL ret ∈ zAll ∧ Cond.initialized y.cls ∈ zAll ∧ (y.cls ≠ "java/lang/invoke/MethodHandle" ∧ y.cls ≠ "java/lang/invoke/VarHandle" ∧ (parseMethodDescriptor y.desc).map (fun d => d.parameters.length) = some n) ∧ Cond.instanceMethod y ∈ zAll ∧ Cond.selects y.cls y y ∈ zAll
def zYs (y : MethodName) (bytes : ByteArray) (maxL : Nat) (ret : Option FieldType) (n : Nat) : Prop := Cond.code y bytes maxL ret ∈ zAll ∧ Cond.initialized y.cls ∈ zAll ∧ (y.cls ≠ "java/lang/invoke/MethodHandle" ∧ y.cls ≠ "java/lang/invoke/VarHandle" ∧ (parseMethodDescriptor y.desc).map (fun d => d.parameters.length) = some n) ∧ Cond.static y ∈ zAll
def zYi (y : MethodName) (bytes : ByteArray) (maxL : Nat) (n : Nat) : Prop := Cond.code y bytes maxL none ∈ zAll ∧ Cond.initialized y.cls ∈ zAll ∧ (y.cls ≠ "java/lang/invoke/MethodHandle" ∧ y.cls ≠ "java/lang/invoke/VarHandle" ∧ (parseMethodDescriptor y.desc).map (fun d => d.parameters.length) = some n) ∧ Cond.instanceMethod y ∈ zAll ∧ y.name = "<init>"
/-- x.y(..) on an object of y's own class, whose world is wc -/
theorem zcV (B : zM p s m args c cc nL own G A) (hW : zW G A s.heap H locs (w1 ++ (wc ++ w2))) (hM : zC l y bytes maxL ret d mc ms G (.ref b :: As) wc post) (Y : zYv y bytes maxL ret n) (hl : Cond.methodLink own idx y ∈ zAll)
    (q0 : Nat) {ci : Nat} {fs : List Value} {r : vw_C} (he : wc[q0]? = some (b, .inr (ci, fs))) (hcl : vwCl[ci]? = some r) (hcn : r.1 = y.cls) {st0 : List Value}
    (hn : As.length = n) (hsz : ls.size = nL) (hst : st0 = As.reverse ++ .ref b :: rest) (hrm : (rest.map fun v => v.category).sum ≤ 8) (hR : d + 1 ≤ R.frames ∧ 8 + (maxL + 11) + 80 * d ≤ R.locals) (hf : cells + mc ≤ R.cells ∧ slots + ms ≤ R.slots) (hdg : decode cc pc = .ok (.invokevirtual idx, 3))
    (kk : ∀ (v : Option Value) (u : va_W) (H1 : Heap) (locs1 : List Loc), post v u → zW G A s.heap H1 locs1 (w1 ++ (u ++ w2)) → W p l e R s m args below meth c H1 locs1 (cells + mc) (slots + ms) Q (F0 m (pc + 3) ls (v.toList ++ rest))) :
    W p l e R s m args below meth c H locs cells slots Q (F0 m pc ls st0) := by
  obtain ⟨Y1, Y2, Y3, Y4, Y5⟩ := Y
  subst hst
  exact zback B hW (va_runV (Ts := zAll) (As := As) (rest := rest) (C := y.cls) ⟨B.x, B.b, B.ml, B.o, B.ts⟩ (hM H.size) ⟨zCB B.ts Y1 Y2 hl Y3 hR, B.ts _ Y4, B.ts _ Y5⟩ ⟨zPc_blind _ _ _ _, by rw [← hcn]; exact va_recv B.K (va_P_l (va_P_r hW.1)) hcl he, zpre B hW⟩ rfl hn hsz rfl (lv_room hrm) hdg hf) kk
/-- a static method, called by its own class or another -/
theorem zcS (B : zM p s m args c cc nL own G A) (hW : zW G A s.heap H locs (w1 ++ (wc ++ w2))) (hM : zC l y bytes maxL ret d mc ms G As wc post) (Y : zYs y bytes maxL ret n) (hl : Cond.methodLink own idx y ∈ zAll) {st0 : List Value}
    (hn : As.length = n) (hsz : ls.size = nL) (hst : st0 = As.reverse ++ rest) (hrm : (rest.map fun v => v.category).sum ≤ 8) (hR : d + 1 ≤ R.frames ∧ 8 + (maxL + 11) + 80 * d ≤ R.locals) (hf : cells + mc ≤ R.cells ∧ slots + ms ≤ R.slots) (hdg : decode cc pc = .ok (.invokestatic idx, 3))
    (kk : ∀ (v : Option Value) (u : va_W) (H1 : Heap) (locs1 : List Loc), post v u → zW G A s.heap H1 locs1 (w1 ++ (u ++ w2)) → W p l e R s m args below meth c H1 locs1 (cells + mc) (slots + ms) Q (F0 m (pc + 3) ls (v.toList ++ rest))) :
    W p l e R s m args below meth c H locs cells slots Q (F0 m pc ls st0) := by
  obtain ⟨Y1, Y2, Y3, Y4⟩ := Y
  subst hst
  exact zback B hW (va_runS (Ts := zAll) (As := As) (rest := rest) ⟨B.x, B.b, B.ml, B.o, B.ts⟩ (hM H.size) ⟨zCB B.ts Y1 Y2 hl Y3 hR, B.ts _ Y4⟩ ⟨zPc_blind _ _ _ _, zpre B hW⟩ rfl hn hsz rfl (lv_room hrm) hdg hf) kk
/-- a private static of a nest mate -/
theorem zcSN (B : zM p s m args c cc nL own G A) (hW : zW G A s.heap H locs (w1 ++ (wc ++ w2))) (hM : zC l y bytes maxL ret d mc ms G As wc post) (Y : zYs y bytes maxL ret n) (hl : Cond.methodLinkNest own idx y host ∈ zNest) {st0 : List Value}
    (hn : As.length = n) (hsz : ls.size = nL) (hst : st0 = As.reverse ++ rest) (hrm : (rest.map fun v => v.category).sum ≤ 8) (hR : d + 1 ≤ R.frames ∧ 8 + (maxL + 11) + 80 * d ≤ R.locals) (hf : cells + mc ≤ R.cells ∧ slots + ms ≤ R.slots) (hdg : decode cc pc = .ok (.invokestatic idx, 3))
    (kk : ∀ (v : Option Value) (u : va_W) (H1 : Heap) (locs1 : List Loc), post v u → zW G A s.heap H1 locs1 (w1 ++ (u ++ w2)) → W p l e R s m args below meth c H1 locs1 (cells + mc) (slots + ms) Q (F0 m (pc + 3) ls (v.toList ++ rest))) :
    W p l e R s m args below meth c H locs cells slots Q (F0 m pc ls st0) := by
  obtain ⟨Y1, Y2, Y3, Y4⟩ := Y
  subst hst
  exact zback B hW (va_runSN (Ts := zAll) (As := As) (rest := rest) ⟨B.x, B.b, B.ml, B.o, B.ts⟩ (hM H.size) ⟨va_cnB n B.ts (zGI Y1) rfl rfl rfl (B.nw hl) (B.ts _ Y2) Y3 hR, B.ts _ Y4, trivial⟩ ⟨zPc_blind _ _ _ _, zpre B hW⟩ rfl hn hsz rfl (lv_room hrm) hdg hf) kk
/-- a constructor -/
theorem zcI (B : zM p s m args c cc nL own G A) (hW : zW G A s.heap H locs (w1 ++ (wc ++ w2))) (hM : zC l y bytes maxL none d mc ms G (.ref b :: As) wc post) (Y : zYi y bytes maxL n) (hl : Cond.methodLink own idx y ∈ zAll) {st0 : List Value}
    (hn : As.length = n) (hsz : ls.size = nL) (hst : st0 = As.reverse ++ .ref b :: rest) (hrm : (rest.map fun v => v.category).sum ≤ 8) (hR : d + 1 ≤ R.frames ∧ 8 + (maxL + 11) + 80 * d ≤ R.locals) (hf : cells + mc ≤ R.cells ∧ slots + ms ≤ R.slots) (hdg : decode cc pc = .ok (.invokespecial idx, 3))
    (kk : ∀ (v : Option Value) (u : va_W) (H1 : Heap) (locs1 : List Loc), post v u → zW G A s.heap H1 locs1 (w1 ++ (u ++ w2)) → W p l e R s m args below meth c H1 locs1 (cells + mc) (slots + ms) Q (F0 m (pc + 3) ls (v.toList ++ rest))) :
    W p l e R s m args below meth c H locs cells slots Q (F0 m pc ls st0) := by
  obtain ⟨Y1, Y2, Y3, Y4, Y5⟩ := Y
  subst hst
  exact zback B hW (va_runI (Ts := zAll) (As := As) (rest := rest) ⟨B.x, B.b, B.ml, B.o, B.ts⟩ (hM H.size) ⟨zCB B.ts Y1 Y2 hl Y3 hR, Y5, B.ts _ Y4⟩ ⟨zPc_blind _ _ _ _, zpre B hW⟩ rfl hn hsz rfl (lv_room hrm) hdg hf) kk
/-- a private constructor of a nest mate -/
theorem zcIN (B : zM p s m args c cc nL own G A) (hW : zW G A s.heap H locs (w1 ++ (wc ++ w2))) (hM : zC l y bytes maxL none d mc ms G (.ref b :: As) wc post) (Y : zYi y bytes maxL n) (hl : Cond.methodLinkNest own idx y host ∈ zNest) {st0 : List Value}
    (hn : As.length = n) (hsz : ls.size = nL) (hst : st0 = As.reverse ++ .ref b :: rest) (hrm : (rest.map fun v => v.category).sum ≤ 8) (hR : d + 1 ≤ R.frames ∧ 8 + (maxL + 11) + 80 * d ≤ R.locals) (hf : cells + mc ≤ R.cells ∧ slots + ms ≤ R.slots) (hdg : decode cc pc = .ok (.invokespecial idx, 3))
    (kk : ∀ (v : Option Value) (u : va_W) (H1 : Heap) (locs1 : List Loc), post v u → zW G A s.heap H1 locs1 (w1 ++ (u ++ w2)) → W p l e R s m args below meth c H1 locs1 (cells + mc) (slots + ms) Q (F0 m (pc + 3) ls (v.toList ++ rest))) :
    W p l e R s m args below meth c H locs cells slots Q (F0 m pc ls st0) := by
  obtain ⟨Y1, Y2, Y3, Y4, Y5⟩ := Y
  subst hst
  exact zback B hW (va_runIN (Ts := zAll) (As := As) (rest := rest) ⟨B.x, B.b, B.ml, B.o, B.ts⟩ (hM H.size) ⟨va_cnB n B.ts (zGI Y1) rfl rfl rfl (B.nw hl) (B.ts _ Y2) Y3 hR, Y5, B.ts _ Y4⟩ ⟨zPc_blind _ _ _ _, zpre B hW⟩ rfl hn hsz rfl (lv_room hrm) hdg hf) kk
/-! loops from 0 to N -/
theorem zloop {P : Nat → Prop} (N : Nat) (hx : P N) (hs : ∀ i, i < N → P (i + 1) → P i) : ∀ i, i ≤ N → P i := by
  have key : ∀ k i, i + k = N → P i := by
    intro k
    induction k with
    | zero => intro i h; rw [show i = N by omega]; exact hx
    | succ k ih => intro i h; exact hs i (by omega) (ih (i + 1) (by omega))
  exact fun i h => key (N - i) i (by omega)
theorem zge {b : Int32} {N : Nat} (h : b = nI N) : b ≤ nI N := by rw [h]; exact Int32.le_refl _
theorem znle {b : Int32} {N i : Nat} (h : b = nI N) (hi : i < N) (hN : N < 2 ^ 31) : ¬ b ≤ nI i := by rw [h]; exact nI_ge hi hN
end ZK
