section ZR
variable {p : Program} {l : Launch} {e : Env} {R : Room} {s : State} {m : MethodId} {args : Array Value} {below : List Frame} {meth : Method} {c : Code} {H : Heap} {locs : List Loc} {cells slots : Nat} {Q : State → Prop}
variable {cc : ByteArray} {nL pc : Nat} {own : String} {G : zG} {A : Nat → Prop} {w : va_W} {ls : Array Slot} {rest : List Value} {a : Nat}
theorem zM.x (B : zM p s m args c cc nL own G A) : p.tables.exec = Jvm.exec := B.1
theorem zM.b (B : zM p s m args c cc nL own G A) : c.code = cc := B.2.1
theorem zM.ml (B : zM p s m args c cc nL own G A) : c.maxLocals = nL := B.2.2.1
theorem zM.o (B : zM p s m args c cc nL own G A) : s.vm.findClass own = some m.cls := B.2.2.2.1
theorem zM.ts (B : zM p s m args c cc nL own G A) : ∀ w ∈ zAll, w.before args s = true := B.2.2.2.2.1
theorem zM.E (B : zM p s m args c cc nL own G A) : zE G A s s.heap := B.2.2.2.2.2.1
theorem zM.nA (B : zM p s m args c cc nL own G A) : ∀ q, s.heap.size ≤ q → A q := B.2.2.2.2.2.2
theorem zM.K (B : zM p s m args c cc nL own G A) : va_K G.1 vwCl (zTy G) s := B.E.1
theorem zM.nw (B : zM p s m args c cc nL own G A) {w : Cond} (h : w ∈ zNest) : va_Nw w s := B.E.2.1 w h
/-! fields -/
def zFl (own : String) (idx ci k : Nat) : Prop := ∃ (C : String) (T : u_T) (N : Nat), vwCl[ci]? = some (C, T, N) ∧ k < N ∧ (∀ w ∈ u_ws C T N, w ∈ zAll) ∧ Cond.fieldLink own idx (T k).1 (T k).2.1 (T k).2.2.1 ∈ zAll
def zFn (own : String) (idx : Nat) (host : String) (ci k : Nat) : Prop := ∃ (C : String) (T : u_T) (N : Nat), vwCl[ci]? = some (C, T, N) ∧ k < N ∧ (∀ w ∈ u_ws C T N, w ∈ zAll) ∧ Cond.fieldLinkNest own idx (T k).1 (T k).2.1 (T k).2.2.1 host ∈ zNest
/-- what a store into a field of class ci wants: its table of types, and that the names differ -/
def zFt (ci k : Nat) (fin : Bool) (ty : FieldType) : Prop := ∃ (C : String) (T : u_T) (N : Nat) (ty0 : Nat → FieldType), vwCl[ci]? = some (C, T, N) ∧ (∀ k, k < N → parseFieldDescriptor (T k).2.2.1 = some (ty0 k)) ∧ (∀ a, a < N → ∀ b, b < N → a ≠ b → (T a).2.1 ≠ (T b).2.1) ∧ (T k).2.2.2 = fin ∧ parseFieldDescriptor (T k).2.2.1 = some ty
theorem zget (B : zM p s m args c cc nL own G A) (hW : zW G A s.heap H locs w) (q0 : Nat) {ci : Nat} {fs : List Value} (he : w[q0]? = some (a, .inr (ci, fs))) {idx k : Nat} (L : zFl own idx ci k) {v : Value} (hv : fs[k]? = some v) (hdg : decode cc pc = .ok (.getfield idx, 3))
    (kk : W p l e R s m args below meth c H locs cells slots Q (F0 m (pc + 3) ls (v :: rest))) : W p l e R s m args below meth c H locs cells slots Q (F0 m pc ls (.ref a :: rest)) := by
  obtain ⟨C, T, N, h1, h2, h3, h4⟩ := L
  exact va_get (D := G.1) (ci := ci) (C := C) (T := T) (N := N) B.x B.b B.ts h3 B.o B.K hW.1 q0 he h1 k h2 (B.ts _ h4) (fun _ h => h) hv hdg kk
theorem zgetN (B : zM p s m args c cc nL own G A) (hW : zW G A s.heap H locs w) (q0 : Nat) {ci : Nat} {fs : List Value} (he : w[q0]? = some (a, .inr (ci, fs))) {host : String} {idx k : Nat} (L : zFn own idx host ci k) {v : Value} (hv : fs[k]? = some v) (hdg : decode cc pc = .ok (.getfield idx, 3))
    (kk : W p l e R s m args below meth c H locs cells slots Q (F0 m (pc + 3) ls (v :: rest))) : W p l e R s m args below meth c H locs cells slots Q (F0 m pc ls (.ref a :: rest)) := by
  obtain ⟨C, T, N, h1, h2, h3, h4⟩ := L
  exact va_getN (D := G.1) (ci := ci) (C := C) (T := T) (N := N) B.x B.b B.ts h3 B.o B.K hW.1 q0 he h1 k h2 (va_Nw.use rfl (B.nw h4)) (fun _ h => h) hv hdg kk
theorem zput (B : zM p s m args c cc nL own G A) (hW : zW G A s.heap H locs w) (q0 : Nat) {ci : Nat} {fs : List Value} (he : w[q0]? = some (a, .inr (ci, fs))) {idx k : Nat} (L : zFl own idx ci k) {ty : FieldType} (F : zFt ci k false ty) {v : Value} (hn : narrow ty v = v) (hfit : fits ty v = true) (hl : k < fs.length) (hdg : decode cc pc = .ok (.putfield idx, 3))
    (kk : ∀ (H1 : Heap) (locs1 : List Loc), zW G A s.heap H1 locs1 (w.set q0 (a, .inr (ci, fs.set k v))) → W p l e R s m args below meth c H1 locs1 cells slots Q (F0 m (pc + 3) ls rest)) : W p l e R s m args below meth c H locs cells slots Q (F0 m pc ls (v :: .ref a :: rest)) := by
  obtain ⟨C, T, N, h1, h2, h3, h4⟩ := L
  obtain ⟨C', T', N', ty0, g1, g2, g3, g4, g5⟩ := F
  cases Option.some.inj (h1.symm.trans g1)
  exact va_put (D := G.1) (ci := ci) (C := C) (T := T) (N := N) B.x B.b B.ts h3 ty0 g2 g3 B.o B.K hW.1 hW.2.1 hW.2.2 q0 he h1 k h2 (B.ts _ h4) (fun _ h => h) g4 g5 hn hfit hl hdg (fun H1 locs1 a1 a2 a3 => kk H1 locs1 ⟨a1, a2, a3⟩)
theorem zputN (B : zM p s m args c cc nL own G A) (hW : zW G A s.heap H locs w) (q0 : Nat) {ci : Nat} {fs : List Value} (he : w[q0]? = some (a, .inr (ci, fs))) {host : String} {idx k : Nat} (L : zFn own idx host ci k) {ty : FieldType} (F : zFt ci k false ty) {v : Value} (hn : narrow ty v = v) (hfit : fits ty v = true) (hl : k < fs.length) (hdg : decode cc pc = .ok (.putfield idx, 3))
    (kk : ∀ (H1 : Heap) (locs1 : List Loc), zW G A s.heap H1 locs1 (w.set q0 (a, .inr (ci, fs.set k v))) → W p l e R s m args below meth c H1 locs1 cells slots Q (F0 m (pc + 3) ls rest)) : W p l e R s m args below meth c H locs cells slots Q (F0 m pc ls (v :: .ref a :: rest)) := by
  obtain ⟨C, T, N, h1, h2, h3, h4⟩ := L
  obtain ⟨C', T', N', ty0, g1, g2, g3, g4, g5⟩ := F
  cases Option.some.inj (h1.symm.trans g1)
  exact va_putN (D := G.1) (ci := ci) (C := C) (T := T) (N := N) B.x B.b B.ts h3 ty0 g2 g3 B.o B.K hW.1 hW.2.1 hW.2.2 q0 he h1 k h2 (va_Nw.use rfl (B.nw h4)) (fun _ h => h) g4 g5 hn hfit hl hdg (fun H1 locs1 a1 a2 a3 => kk H1 locs1 ⟨a1, a2, a3⟩)
/-- a final field, in a constructor of its class -/
theorem zputF (B : zM p s m args c cc nL own G A) (hW : zW G A s.heap H locs w) (hin : meth.name = "<init>") (q0 : Nat) {ci : Nat} {fs : List Value} (he : w[q0]? = some (a, .inr (ci, fs))) {idx k : Nat} (L : zFl own idx ci k) {ty : FieldType} (F : zFt ci k true ty) (hdc : ∀ (C : String) (T : u_T) (N : Nat), vwCl[ci]? = some (C, T, N) → (T k).1 = own) {v : Value} (hn : narrow ty v = v) (hfit : fits ty v = true) (hl : k < fs.length) (hdg : decode cc pc = .ok (.putfield idx, 3))
    (kk : ∀ (H1 : Heap) (locs1 : List Loc), zW G A s.heap H1 locs1 (w.set q0 (a, .inr (ci, fs.set k v))) → W p l e R s m args below meth c H1 locs1 cells slots Q (F0 m (pc + 3) ls rest)) : W p l e R s m args below meth c H locs cells slots Q (F0 m pc ls (v :: .ref a :: rest)) := by
  obtain ⟨C, T, N, h1, h2, h3, h4⟩ := L
  obtain ⟨C', T', N', ty0, g1, g2, g3, g4, g5⟩ := F
  cases Option.some.inj (h1.symm.trans g1)
  exact va_putF (D := G.1) (ci := ci) (C := C) (T := T) (N := N) B.x B.b B.ts h3 ty0 g2 g3 B.o B.K hW.1 hW.2.1 hW.2.2 q0 he h1 k h2 (B.ts _ h4) (fun _ h => h) g4 hin (hdc C T N h1) g5 hn hfit hl hdg (fun H1 locs1 a1 a2 a3 => kk H1 locs1 ⟨a1, a2, a3⟩)
/-! arrays -/
theorem ziald (B : zM p s m args c cc nL own G A) (hW : zW G A s.heap H locs w) (q0 : Nat) {n : Nat} {f : Nat → Int32} (he : w[q0]? = some (a, .inl (G.2.1 0, n, .inl f))) {i : Int32} (hin : vp_in i n) (hdg : decode cc pc = .ok (.iaload, 1))
    (kk : W p l e R s m args below meth c H locs cells slots Q (F0 m (pc + 1) ls (.int (f i.toNatClampNeg) :: rest))) : W p l e R s m args below meth c H locs cells slots Q (F0 m pc ls (.int i :: .ref a :: rest)) :=
  va_iald (D := G.1) B.x B.b B.K hW.1 q0 0 he rfl hin hdg kk
theorem zzald (B : zM p s m args c cc nL own G A) (hW : zW G A s.heap H locs w) (q0 : Nat) {n : Nat} {f : Nat → Int32} (he : w[q0]? = some (a, .inl (G.2.1 1, n, .inl f))) {i : Int32} (hin : vp_in i n) (hdg : decode cc pc = .ok (.baload, 1))
    (kk : W p l e R s m args below meth c H locs cells slots Q (F0 m (pc + 1) ls (.int (f i.toNatClampNeg) :: rest))) : W p l e R s m args below meth c H locs cells slots Q (F0 m pc ls (.int i :: .ref a :: rest)) :=
  va_zald (D := G.1) B.x B.b B.K hW.1 q0 1 he rfl hin hdg kk
/-- .. at a place that is a natural number -/
theorem zialdN (B : zM p s m args c cc nL own G A) (hW : zW G A s.heap H locs w) (q0 : Nat) {n : Nat} {f : Nat → Int32} (he : w[q0]? = some (a, .inl (G.2.1 0, n, .inl f))) (j : Nat) {i : Int32} (hi : i = nI j) (hj : j < n) (hn : n < 2 ^ 31) (hdg : decode cc pc = .ok (.iaload, 1))
    (kk : W p l e R s m args below meth c H locs cells slots Q (F0 m (pc + 1) ls (.int (f j) :: rest))) : W p l e R s m args below meth c H locs cells slots Q (F0 m pc ls (.int i :: .ref a :: rest)) := by
  refine ziald B hW q0 he (by rw [hi]; exact vp_in_nI hj hn) hdg ?_
  rw [hi, nI_clamp (Nat.lt_trans hj hn)]
  exact kk
theorem zzaldN (B : zM p s m args c cc nL own G A) (hW : zW G A s.heap H locs w) (q0 : Nat) {n : Nat} {f : Nat → Int32} (he : w[q0]? = some (a, .inl (G.2.1 1, n, .inl f))) (j : Nat) {i : Int32} (hi : i = nI j) (hj : j < n) (hn : n < 2 ^ 31) (hdg : decode cc pc = .ok (.baload, 1))
    (kk : W p l e R s m args below meth c H locs cells slots Q (F0 m (pc + 1) ls (.int (f j) :: rest))) : W p l e R s m args below meth c H locs cells slots Q (F0 m pc ls (.int i :: .ref a :: rest)) := by
  refine zzald B hW q0 he (by rw [hi]; exact vp_in_nI hj hn) hdg ?_
  rw [hi, nI_clamp (Nat.lt_trans hj hn)]
  exact kk
theorem ziast (B : zM p s m args c cc nL own G A) (hW : zW G A s.heap H locs w) (q0 : Nat) {n : Nat} {f : Nat → Int32} (he : w[q0]? = some (a, .inl (G.2.1 0, n, .inl f))) {i x : Int32} (hin : vp_in i n) (hdg : decode cc pc = .ok (.iastore, 1))
    (kk : ∀ (H1 : Heap) (locs1 : List Loc), zW G A s.heap H1 locs1 (w.set q0 (a, .inl (G.2.1 0, n, .inl (upd f i.toNatClampNeg x)))) → W p l e R s m args below meth c H1 locs1 cells slots Q (F0 m (pc + 1) ls rest)) : W p l e R s m args below meth c H locs cells slots Q (F0 m pc ls (.int x :: .int i :: .ref a :: rest)) :=
  va_iast (D := G.1) B.x B.b B.K hW.1 hW.2.1 hW.2.2 q0 0 he rfl hin hdg (fun H1 locs1 a1 a2 a3 => kk H1 locs1 ⟨a1, a2, a3⟩)
theorem ziastN (B : zM p s m args c cc nL own G A) (hW : zW G A s.heap H locs w) (q0 : Nat) {n : Nat} {f : Nat → Int32} (he : w[q0]? = some (a, .inl (G.2.1 0, n, .inl f))) (j : Nat) {i x : Int32} (hi : i = nI j) (hj : j < n) (hn : n < 2 ^ 31) (hdg : decode cc pc = .ok (.iastore, 1))
    (kk : ∀ (H1 : Heap) (locs1 : List Loc), zW G A s.heap H1 locs1 (w.set q0 (a, .inl (G.2.1 0, n, .inl (upd f j x)))) → W p l e R s m args below meth c H1 locs1 cells slots Q (F0 m (pc + 1) ls rest)) : W p l e R s m args below meth c H locs cells slots Q (F0 m pc ls (.int x :: .int i :: .ref a :: rest)) := by
  refine ziast B hW q0 he (by rw [hi]; exact vp_in_nI hj hn) hdg (fun H1 locs1 h => ?_)
  rw [hi, nI_clamp (Nat.lt_trans hj hn)] at h
  exact kk H1 locs1 h
theorem zzast (B : zM p s m args c cc nL own G A) (hW : zW G A s.heap H locs w) (q0 : Nat) {n : Nat} {f : Nat → Int32} (he : w[q0]? = some (a, .inl (G.2.1 1, n, .inl f))) {i x : Int32} (hx : vp_nar .boolean x = x) (hin : vp_in i n) (hdg : decode cc pc = .ok (.bastore, 1))
    (kk : ∀ (H1 : Heap) (locs1 : List Loc), zW G A s.heap H1 locs1 (w.set q0 (a, .inl (G.2.1 1, n, .inl (upd f i.toNatClampNeg x)))) → W p l e R s m args below meth c H1 locs1 cells slots Q (F0 m (pc + 1) ls rest)) : W p l e R s m args below meth c H locs cells slots Q (F0 m pc ls (.int x :: .int i :: .ref a :: rest)) :=
  va_zast (D := G.1) B.x B.b B.K hW.1 hW.2.1 hW.2.2 q0 1 he rfl hin hdg (fun H1 locs1 a1 a2 a3 => kk H1 locs1 (by rw [hx] at a1 a2; exact ⟨a1, a2, a3⟩))
theorem zzastN (B : zM p s m args c cc nL own G A) (hW : zW G A s.heap H locs w) (q0 : Nat) {n : Nat} {f : Nat → Int32} (he : w[q0]? = some (a, .inl (G.2.1 1, n, .inl f))) (j : Nat) {i x : Int32} (hx : vp_nar .boolean x = x) (hi : i = nI j) (hj : j < n) (hn : n < 2 ^ 31) (hdg : decode cc pc = .ok (.bastore, 1))
    (kk : ∀ (H1 : Heap) (locs1 : List Loc), zW G A s.heap H1 locs1 (w.set q0 (a, .inl (G.2.1 1, n, .inl (upd f j x)))) → W p l e R s m args below meth c H1 locs1 cells slots Q (F0 m (pc + 1) ls rest)) : W p l e R s m args below meth c H locs cells slots Q (F0 m pc ls (.int x :: .int i :: .ref a :: rest)) := by
  refine zzast B hW q0 he hx (by rw [hi]; exact vp_in_nI hj hn) hdg (fun H1 locs1 h => ?_)
  rw [hi, nI_clamp (Nat.lt_trans hj hn)] at h
  exact kk H1 locs1 h
theorem zalen (B : zM p s m args c cc nL own G A) (hW : zW G A s.heap H locs w) (q0 t0 : Nat) {cA : ClassId} {x : vp_A} (he : w[q0]? = some (a, .inl (cA, x))) {ty : FieldType} (ht : (zTy G)[t0]? = some (cA, ty)) (hdg : decode cc pc = .ok (.arraylength, 1))
    (kk : W p l e R s m args below meth c H locs cells slots Q (F0 m (pc + 1) ls (.int (nI x.1) :: rest))) : W p l e R s m args below meth c H locs cells slots Q (F0 m pc ls (.ref a :: rest)) :=
  va_alen (D := G.1) B.x B.b B.K hW.1 q0 t0 he ht rfl hdg kk
/-! ends -/
theorem zend {mc ms : Nat} {post : Option Value → va_W → Prop} {v : Option Value} (hW : zW G A s.heap H locs w) (hp : post v w) : ∀ t : State, t.heap = H → s.WarmedH t.vm → zQ G A post args s (.returned v) t :=
  fun t ht _ => ⟨⟨v, w, rfl, hp, by rw [show zB G A w t = (va_P G.1 vwCl w t.heap ∧ va_D A w) from rfl, ht]; exact ⟨hW.1, hW.2.1⟩⟩, hW.2.2.F ht⟩
theorem ziret {mc ms : Nat} {post : Option Value → va_W → Prop} {v : Int32} (B : zM p s m args c cc nL own G A) (hr : meth.sig.returnType = some .int) (hlk : meth.locks = false) (hW : zW G A s.heap H locs w) (hp : post (some (.int v)) w) (hc : cells ≤ mc) (hs : slots ≤ ms) (hdg : decode cc pc = .ok (.ireturn, 1)) :
    W p l e R s m args below meth c H locs cells slots (MQ below (zQ G A post) args s mc ms A) (F0 m pc ls [.int v]) :=
  W.widen hc hs (W.iret B.x B.b hr (zend (mc := mc) (ms := ms) hW hp) hW.2.2.2.2 hdg hlk)
theorem zzret {mc ms : Nat} {post : Option Value → va_W → Prop} {v : Int32} {ty : FieldType} (B : zM p s m args c cc nL own G A) (hr : meth.sig.returnType = some ty) (hlk : meth.locks = false) (hn : narrow ty (.int v) = .int v) (hW : zW G A s.heap H locs w) (hp : post (some (.int v)) w) (hc : cells ≤ mc) (hs : slots ≤ ms) (hdg : decode cc pc = .ok (.ireturn, 1)) :
    W p l e R s m args below meth c H locs cells slots (MQ below (zQ G A post) args s mc ms A) (F0 m pc ls [.int v]) :=
  W.widen hc hs (W.zret B.x B.b hr hn (zend (mc := mc) (ms := ms) hW hp) hW.2.2.2.2 hdg hlk)
theorem zvret {mc ms : Nat} {post : Option Value → va_W → Prop} (B : zM p s m args c cc nL own G A) (hr : meth.sig.returnType = none) (hlk : meth.locks = false) (hW : zW G A s.heap H locs w) (hp : post none w) (hc : cells ≤ mc) (hs : slots ≤ ms) (hdg : decode cc pc = .ok (.return_, 1)) :
    W p l e R s m args below meth c H locs cells slots (MQ below (zQ G A post) args s mc ms A) (F0 m pc ls []) :=
  W.widen hc hs (W.vret B.x B.b hr (zend (mc := mc) (ms := ms) hW hp) hW.2.2.2.2 hdg hlk)
theorem zlret {mc ms : Nat} {post : Option Value → va_W → Prop} {v : Int64} (B : zM p s m args c cc nL own G A) (hr : meth.sig.returnType = some .long) (hlk : meth.locks = false) (hW : zW G A s.heap H locs w) (hp : post (some (.long v)) w) (hc : cells ≤ mc) (hs : slots ≤ ms) (hdg : decode cc pc = .ok (.lreturn, 1)) :
    W p l e R s m args below meth c H locs cells slots (MQ below (zQ G A post) args s mc ms A) (F0 m pc ls [.long v]) :=
  W.widen hc hs (W.lret B.x B.b hr (zend (mc := mc) (ms := ms) hW hp) hW.2.2.2.2 hdg hlk)
theorem zaret {mc ms : Nat} {post : Option Value → va_W → Prop} {v : Value} {rt : FieldType} (B : zM p s m args c cc nL own G A) (hr : meth.sig.returnType = some rt) (hlk : meth.locks = false) (hrt : (∃ n, rt = .object n) ∨ ∃ t, rt = .array t) (hv : v = .null ∨ ∃ a, v = .ref a) (hW : zW G A s.heap H locs w) (hp : post (some v) w) (hc : cells ≤ mc) (hs : slots ≤ ms) (hdg : decode cc pc = .ok (.areturn, 1)) :
    W p l e R s m args below meth c H locs cells slots (MQ below (zQ G A post) args s mc ms A) (F0 m pc ls [v]) :=
  W.widen hc hs (W.aret B.x B.b hr hrt hv (zend (mc := mc) (ms := ms) hW hp) hW.2.2.2.2 hdg hlk)
end ZR
