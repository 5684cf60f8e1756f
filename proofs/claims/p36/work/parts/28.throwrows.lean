/-! contracts of methods that return or throw; calls of them; what is thrown goes out, or is caught -/
def zXC (G : zG) (A : Nat → Prop) (px : String → va_W → Prop) : String → State → State → Prop := fun E st t => (∃ u, px E u ∧ zB G A u t) ∧ va_F A st t
/-- like zC; or y throws an object of the class E with a world u, 'px E u' -/
def zX (l : Launch) (y : MethodName) (cc : ByteArray) (n : Nat) (ret : Option FieldType) (d mc ms : Nat) (G : zG) (av : List Value) (w : va_W) (post : Option Value → va_W → Prop) (px : String → va_W → Prop) : Prop :=
  ∀ sz : Nat, vx_Met l y (Cond.code y cc n ret :: zAll) (zRm d mc ms) (zPc G sz av w) (zQ G (va_A w sz) post) (zXC G (va_A w sz) px) mc ms (va_A w sz)
/-- like zC, of a method with handlers -/
def zCH (l : Launch) (y : MethodName) (cc : ByteArray) (n : Nat) (ret : Option FieldType) (hh : List (Nat × Nat × Nat × Nat)) (d mc ms : Nat) (G : zG) (av : List Value) (w : va_W) (post : Option Value → va_W → Prop) : Prop :=
  ∀ sz : Nat, Met l y (Cond.codeWith y cc n ret hh :: zAll) (zRm d mc ms) (zPc G sz av w) (zQ G (va_A w sz) post) mc ms (va_A w sz)
/-- the exceptions by number -/
def zExn : Int32 → String := fun k => if k = 1 then "java/lang/IndexOutOfBoundsException" else if k = 2 then "java/lang/IllegalArgumentException" else if k = 3 then "java/lang/IllegalStateException" else if k = 4 then "java/lang/UnsupportedOperationException" else "java/lang/ArithmeticException"
section ZXS
variable {l : Launch} {y : MethodName} {cc : ByteArray} {n d mc ms : Nat} {ret : Option FieldType} {G : zG} {av : List Value} {w : va_W} {post : Option Value → va_W → Prop} {px : String → va_W → Prop}
theorem zX.of (own : String) (ho : y.cls = own) (hy : plainName y.cls = true) (hn : (lg_sl av).length ≤ n)
    (body : ∀ (p : Program) (e : Env) (s : State) (m : MethodId) (args : Array Value) (below : List Frame) (meth : Method) (c : Code) (A : Nat → Prop) (ls : Array Slot), zM p s m args c cc n own G A → meth.sig.returnType = ret → meth.locks = false → meth.name = y.name → (∀ x ∈ c.exceptionTable.toList, False) → zW G A s.heap s.heap [] w → lv_has ls n (lv_args 0 av) →
      W p l e (zRm d mc ms) s m args below meth c s.heap [] 0 0 (vx_MQ below (zQ G A post) (zXC G A px) args s mc ms A) (F0 m 0 ls [])) : zX l y cc n ret d mc ms G av w post px := by
  intro sz
  refine vx_ofW (cc := cc) (maxL := n) (ret := ret) hy rfl ?_
  intro p e s m args below meth c s₁ B hml hex hv
  obtain ⟨rfl, hsz, hP, hD0, hE⟩ := hv
  have hts := atoms_spec (ws := Cond.code y cc n ret :: zAll) B.pre
  subst hsz
  subst ho
  rw [lg_entry_eq]
  exact body p e s m _ below meth c (va_A w s.heap.size) _ ⟨B.exec, B.bytes, hml, findClass_of_methodNamed B.named, fun w hw => hts w (List.mem_cons_of_mem _ hw), hE, fun q h => Or.inr h⟩ B.returns B.notSynchronized (name_of_methodNamed B.named B.method).1 hex ⟨hP, hD0.self, va_S.rf⟩ (lv_entry av hn)
theorem zCH.of {hh : List (Nat × Nat × Nat × Nat)} (own : String) (ho : y.cls = own) (hy : plainName y.cls = true) (hn : (lg_sl av).length ≤ n)
    (body : ∀ (p : Program) (e : Env) (s : State) (m : MethodId) (args : Array Value) (below : List Frame) (meth : Method) (c : Code) (A : Nat → Prop) (ls : Array Slot), zM p s m args c cc n own G A → meth.sig.returnType = ret → meth.locks = false → meth.name = y.name → c.exceptionTable.toList = tableOf hh → zW G A s.heap s.heap [] w → lv_has ls n (lv_args 0 av) →
      W p l e (zRm d mc ms) s m args below meth c s.heap [] 0 0 (MQ below (zQ G A post) args s mc ms A) (F0 m 0 ls [])) : zCH l y cc n ret hh d mc ms G av w post := by
  intro sz
  show MetFree l y _ _ _ _
  refine MetFree.of_bodyS (code := cc) (maxLocals := n) (ret := ret) hy ?_ ?_
  · intro args s m h hn
    obtain ⟨m9, meth, c, hn9, h1, h2, h3, h4, -, h5, h6, -⟩ := Cond.codeWith_spec (atoms_spec (ws := Cond.codeWith y cc n ret hh :: zAll) h _ List.mem_cons_self)
    cases hn.symm.trans hn9
    exact ⟨meth, c, h1, h2, h3, h4, h5, h6⟩
  · intro p e s m args below meth c s₁ B hml hP _
    have hts := atoms_spec (ws := Cond.codeWith y cc n ret hh :: zAll) B.pre
    have htab := vx_table (x := y) B (hts _ List.mem_cons_self)
    have hh0 : s₁.heap = s.heap := by rw [B.state]; rfl
    obtain ⟨rfl, hsz, hP1, hD0, hE⟩ := hP
    subst hsz
    subst ho
    obtain ⟨t, a1, o, b1, b2, b3⟩ := body p e s m _ below meth c (va_A w s.heap.size) _ ⟨B.exec, B.bytes, hml, findClass_of_methodNamed B.named, fun w hw => hts w (List.mem_cons_of_mem _ hw), hE, fun q h => Or.inr h⟩ B.returns B.notSynchronized (name_of_methodNamed B.named B.method).1 htab ⟨hP1, hD0.self, va_S.rf⟩ (lv_entry av hn) s₁ hh0 (by have := Stand.of_body B; exact this)
    exact ⟨t, o, by rw [← lg_entry_eq] at a1; exact a1, b1, b2, b3⟩
end ZXS
section ZXK
variable {p : Program} {l : Launch} {e : Env} {R : Room} {s : State} {m : MethodId} {args : Array Value} {below : List Frame} {meth : Method} {c : Code} {H : Heap} {locs : List Loc} {cells slots : Nat} {Q : State → Prop}
variable {cc bytes : ByteArray} {nL pc maxL n d mc ms idx : Nat} {own C host : String} {G : zG} {A : Nat → Prop} {w w1 w2 wc : va_W} {ls : Array Slot} {rest As : List Value} {b : Nat} {y : MethodName} {ret : Option FieldType} {post : Option Value → va_W → Prop} {px : String → va_W → Prop}
theorem zxback (B : zM p s m args c cc nL own G A) (hW : zW G A s.heap H locs (w1 ++ (wc ++ w2))) {st0 : List Value} {a : Array Value}
    (hr : vx_Run p l e R s m args below meth c H locs cells slots mc ms (F0 m pc ls st0) rest (zQ G (va_A wc H.size) post a) (zXC G (va_A wc H.size) px) (va_A wc H.size))
    (kk : ∀ (v : Option Value) (u : va_W) (H1 : Heap) (locs1 : List Loc), post v u → zW G A s.heap H1 locs1 (w1 ++ (u ++ w2)) → W p l e R s m args below meth c H1 locs1 (cells + mc) (slots + ms) Q (F0 m (pc + 3) ls (v.toList ++ rest)))
    (kx : ∀ (E : String) (q : Nat) (ce : Cell) (u : va_W) (H1 : Heap) (locs1 : List Loc), px E u → zW G A s.heap H1 locs1 (w1 ++ (u ++ w2)) → H1[q]? = some ce → ce.vm = .none → s.vm.findClass E = some ce.cls → vx_W p l e R s m args below meth c H1 locs1 (cells + mc) (slots + ms) Q (F0 m pc ls rest) q) :
    W p l e R s m args below meth c H locs cells slots Q (F0 m pc ls st0) := by
  have hF := zfree hW B.nA
  intro T hT X
  have key : ∀ {t : State} {st₀ T' : State} {L : List Loc} {u : va_W}, st₀.heap = H → T'.heap = t.heap → (∀ q ∈ L, va_A wc H.size q.base) → va_P G.1 vwCl u t.heap → va_D (va_A wc H.size) u → va_F (va_A wc H.size) st₀ t → zW G A s.heap T'.heap (locs ++ L) (w1 ++ (u ++ w2)) := by
    intro t st₀ T' L u h0 e1 hL hPu hDu hFt
    obtain ⟨hz, hk⟩ := hFt
    rw [h0] at hz hk
    exact zjoin hW (fun q h1 h2 => by rw [e1]; exact hk q h1 h2) hF (by rw [e1]; exact hPu) hDu
      ⟨Nat.le_trans hW.2.2.1 (by rw [e1]; exact hz), fun q h1 h2 => by rw [e1, hk q (Nat.lt_of_lt_of_le h1 hW.2.2.1) (fun z => h2 (hF q z))]; exact hW.2.2.2.1 q h1 h2, fun q hq => by
        rcases List.mem_append.mp hq with h | h
        · exact hW.2.2.2.2 q h
        · exact hF _ (hL q h)⟩
  rcases hr T hT X with ⟨v, st₀, t, T', L, h0, X', hL, e1, e2, ⟨⟨v', u, hv, hp, hPu, hDu⟩, hFt⟩, st⟩ | ⟨q, st₀, t, T', L, E, ce, h0, X', hL, e1, e2, ⟨⟨u, hp, hPu, hDu⟩, hFt⟩, hce, hcv, hcl, st⟩
  · cases hv
    obtain ⟨t2, a1, b1⟩ := kk v u T'.heap (locs ++ L) hp (key h0 e1 hL hPu hDu hFt) T' rfl X'
    exact ⟨t2, st t2 a1, b1⟩
  · obtain ⟨t2, a1, b1⟩ := kx E q ce u T'.heap (locs ++ L) hp (key h0 e1 hL hPu hDu hFt) (by rw [e1]; exact hce) hcv hcl T' rfl X'
    exact ⟨t2, Steps.trans st a1, b1⟩
theorem zxV (B : zM p s m args c cc nL own G A) (hW : zW G A s.heap H locs (w1 ++ (wc ++ w2))) (hM : zX l y bytes maxL ret d mc ms G (.ref b :: As) wc post px) (Y : zYv y bytes maxL ret n) (hl : Cond.methodLink own idx y ∈ zAll)
    (q0 : Nat) {ci : Nat} {fs : List Value} {r : vw_C} (he : wc[q0]? = some (b, .inr (ci, fs))) (hcl : vwCl[ci]? = some r) (hcn : r.1 = y.cls) {st0 : List Value}
    (hn : As.length = n) (hsz : ls.size = nL) (hst : st0 = As.reverse ++ .ref b :: rest) (hrm : (rest.map fun v => v.category).sum ≤ 8) (hR : d + 1 ≤ R.frames ∧ 8 + (maxL + 11) + 80 * d ≤ R.locals) (hf : cells + mc ≤ R.cells ∧ slots + ms ≤ R.slots) (hdg : decode cc pc = .ok (.invokevirtual idx, 3))
    (kk : ∀ (v : Option Value) (u : va_W) (H1 : Heap) (locs1 : List Loc), post v u → zW G A s.heap H1 locs1 (w1 ++ (u ++ w2)) → W p l e R s m args below meth c H1 locs1 (cells + mc) (slots + ms) Q (F0 m (pc + 3) ls (v.toList ++ rest)))
    (kx : ∀ (E : String) (q : Nat) (ce : Cell) (u : va_W) (H1 : Heap) (locs1 : List Loc), px E u → zW G A s.heap H1 locs1 (w1 ++ (u ++ w2)) → H1[q]? = some ce → ce.vm = .none → s.vm.findClass E = some ce.cls → vx_W p l e R s m args below meth c H1 locs1 (cells + mc) (slots + ms) Q (F0 m pc ls rest) q) :
    W p l e R s m args below meth c H locs cells slots Q (F0 m pc ls st0) := by
  obtain ⟨Y1, Y2, Y3, Y4, Y5⟩ := Y
  subst hst
  exact zxback B hW (vx_runV (Ts := zAll) (As := As) (rest := rest) (C := y.cls) ⟨B.x, B.b, B.ml, B.o, B.ts⟩ (hM H.size) ⟨zCB B.ts Y1 Y2 hl Y3 hR, B.ts _ Y4, B.ts _ Y5⟩ ⟨zPc_blind _ _ _ _, by rw [← hcn]; exact va_recv B.K (va_P_l (va_P_r hW.1)) hcl he, zpre B hW⟩ rfl hn hsz rfl (lv_room hrm) hdg hf) kk kx
theorem zxS (B : zM p s m args c cc nL own G A) (hW : zW G A s.heap H locs (w1 ++ (wc ++ w2))) (hM : zX l y bytes maxL ret d mc ms G As wc post px) (Y : zYs y bytes maxL ret n) (hl : Cond.methodLink own idx y ∈ zAll) {st0 : List Value}
    (hn : As.length = n) (hsz : ls.size = nL) (hst : st0 = As.reverse ++ rest) (hrm : (rest.map fun v => v.category).sum ≤ 8) (hR : d + 1 ≤ R.frames ∧ 8 + (maxL + 11) + 80 * d ≤ R.locals) (hf : cells + mc ≤ R.cells ∧ slots + ms ≤ R.slots) (hdg : decode cc pc = .ok (.invokestatic idx, 3))
    (kk : ∀ (v : Option Value) (u : va_W) (H1 : Heap) (locs1 : List Loc), post v u → zW G A s.heap H1 locs1 (w1 ++ (u ++ w2)) → W p l e R s m args below meth c H1 locs1 (cells + mc) (slots + ms) Q (F0 m (pc + 3) ls (v.toList ++ rest)))
    (kx : ∀ (E : String) (q : Nat) (ce : Cell) (u : va_W) (H1 : Heap) (locs1 : List Loc), px E u → zW G A s.heap H1 locs1 (w1 ++ (u ++ w2)) → H1[q]? = some ce → ce.vm = .none → s.vm.findClass E = some ce.cls → vx_W p l e R s m args below meth c H1 locs1 (cells + mc) (slots + ms) Q (F0 m pc ls rest) q) :
    W p l e R s m args below meth c H locs cells slots Q (F0 m pc ls st0) := by
  obtain ⟨Y1, Y2, Y3, Y4⟩ := Y
  subst hst
  exact zxback B hW (vx_runS (Ts := zAll) (As := As) (rest := rest) ⟨B.x, B.b, B.ml, B.o, B.ts⟩ (hM H.size) ⟨zCB B.ts Y1 Y2 hl Y3 hR, B.ts _ Y4⟩ ⟨zPc_blind _ _ _ _, zpre B hW⟩ rfl hn hsz rfl (lv_room hrm) hdg hf) kk kx
/-- a static method with handlers, called -/
def zYh (y : MethodName) (bytes : ByteArray) (maxL : Nat) (ret : Option FieldType) (hh : List (Nat × Nat × Nat × Nat)) (n : Nat) : Prop := Cond.codeWith y bytes maxL ret hh ∈ zAll ∧ Cond.initialized y.cls ∈ zAll ∧ (y.cls ≠ "java/lang/invoke/MethodHandle" ∧ y.cls ≠ "java/lang/invoke/VarHandle" ∧ (parseMethodDescriptor y.desc).map (fun d => d.parameters.length) = some n) ∧ Cond.static y ∈ zAll
theorem zcH {hh : List (Nat × Nat × Nat × Nat)} (B : zM p s m args c cc nL own G A) (hW : zW G A s.heap H locs (w1 ++ (wc ++ w2))) (hM : zCH l y bytes maxL ret hh d mc ms G As wc post) (Y : zYh y bytes maxL ret hh n) (hl : Cond.methodLink own idx y ∈ zAll) {st0 : List Value}
    (hn : As.length = n) (hsz : ls.size = nL) (hst : st0 = As.reverse ++ rest) (hrm : (rest.map fun v => v.category).sum ≤ 8) (hR : d + 1 ≤ R.frames ∧ 8 + (maxL + 11) + 80 * d ≤ R.locals) (hf : cells + mc ≤ R.cells ∧ slots + ms ≤ R.slots) (hdg : decode cc pc = .ok (.invokestatic idx, 3))
    (kk : ∀ (v : Option Value) (u : va_W) (H1 : Heap) (locs1 : List Loc), post v u → zW G A s.heap H1 locs1 (w1 ++ (u ++ w2)) → W p l e R s m args below meth c H1 locs1 (cells + mc) (slots + ms) Q (F0 m (pc + 3) ls (v.toList ++ rest))) :
    W p l e R s m args below meth c H locs cells slots Q (F0 m pc ls st0) := by
  obtain ⟨Y1, Y2, Y3, Y4⟩ := Y
  subst hst
  refine zback B hW (vx_runSW (hh := hh) (Ts := zAll) (As := As) (rest := rest) ⟨B.x, B.b, B.ml, B.o, B.ts⟩ (hM H.size) (vx_cwSW (Ts := zAll) n B.ts (fun w hw => ?_) rfl rfl rfl Y3 hR) ⟨zPc_blind _ _ _ _, zpre B hW⟩ rfl hn hsz rfl (lv_room hrm) hdg hf) kk
  have hw2 : w ∈ zAll := by
    unfold va_wsS at hw
    rcases List.mem_append.mp hw with h | h
    · rcases List.mem_cons.mp h with rfl | h
      · exact hl
      · rcases List.mem_cons.mp h with rfl | h
        · exact Y4
        · rcases List.mem_cons.mp h with rfl | h
          · exact Y2
          · cases h
    · rcases List.mem_cons.mp h with rfl | h
      · exact Y1
      · exact h
  exact ⟨hw2, good_of_word (zAll_good _ hw2)⟩
/-- not caught here: it goes on to the caller -/
theorem zxout (B : zM p s m args c cc nL own G A) (hex : ∀ x ∈ c.exceptionTable.toList, False) (hlk : meth.locks = false) {E : String} {q : Nat} {ce : Cell} (hce : H[q]? = some ce) (hcv : ce.vm = .none) (hcl : s.vm.findClass E = some ce.cls)
    (hW : zW G A s.heap H locs w) (hp : px E w) (hc : cells ≤ mc) (hs : slots ≤ ms) : vx_W p l e R s m args below meth c H locs cells slots (vx_MQ below (zQ G A post) (zXC G A px) args s mc ms A) (F0 m pc ls rest) q :=
  vx_out (fun x hx => (hex x hx).elim) hlk hce hcv hcl (fun t ht _ => ⟨⟨w, hp, by rw [ht]; exact hW.1, hW.2.1⟩, hW.2.2.F ht⟩) hW.2.2.2.2 hc hs
/-- what the tables say of 'throw new cls(text)' in the class own -/
def zThr (own cls text : String) (names : List String) (ik is ic : Nat) : Prop := Bundle.fit cls = true ∧ (∀ n ∈ names, Bundle.fit n = true) ∧ Cond.classLink own ik cls ∈ zAll ∧ Cond.initialized cls ∈ zAll ∧ (own, is, text) ∈ zStr ∧ (∀ w ∈ vx_atS own ic cls names, w ∈ zAll ∨ w ∈ zNest) ∧ (∀ w ∈ Cond.classLink own ik cls :: Cond.initialized cls :: vx_atS own ic cls names, vx_ot w = true)
theorem zNw_use {w : Cond} (hg : zOdd w = true) (h : va_Nw w s) : w.before args s = true := by
  cases w <;> first | exact va_Nw.use rfl h | exact absurd hg (by simp [zOdd])
theorem zthrow (B : zM p s m args c cc nL own G A) (hst : l.stackTraces = false) (hex : ∀ x ∈ c.exceptionTable.toList, False) (hlk : meth.locks = false) {cls text : String} {names : List String} {ik is ic : Nat} (Y : zThr own cls text names ik is ic)
    (hW : zW G A s.heap H locs w) (hp : px cls w) (hsz : ls.size = nL)
    (d0 : decode cc pc = .ok (.new ik, 3)) (d3 : decode cc (pc + 3) = .ok (.dup, 1)) (d4 : decode cc (pc + 4) = .ok (.ldc is, 2)) (d6 : decode cc (pc + 6) = .ok (.invokespecial ic, 3)) (d9 : decode cc (pc + 9) = .ok (.athrow, 1))
    (hRf : names.length + 3 < R.frames) (hRl : (rest.map fun v => v.category).sum + (13 * (names.length + 1) + 43) ≤ R.locals) (hRc : cells + 1 ≤ R.cells) (hRs : slots + 6 ≤ R.slots) (hc : cells + 1 ≤ mc) (hs : slots + 6 ≤ ms) :
    W p l e R s m args below meth c H locs cells slots (vx_MQ below (zQ G A post) (zXC G A px) args s mc ms A) (F0 m pc ls rest) := by
  obtain ⟨Y1, Y2, Y3, Y4, Y5, Y6, Y7⟩ := Y
  obtain ⟨sa, hsa⟩ := B.E.2.2.2.1 _ Y5
  refine vx_throwS B.x B.b hst B.o Y1 Y2 (B.ts _ Y3) (B.ts _ Y4) hsa (fun w hw => (Y6 w hw).elim (fun z => B.ts _ z) (fun z => zNw_use (zNest_odd w z) (B.nw z))) Y7 B.E.2.2.2.2.1 B.E.2.2.2.2.2.1 hW.2.2 (hsz.trans B.ml.symm) d0 d3 d4 d6 d9 (fun x hx => (hex x hx).elim) hRf hRl hRc hRs hlk (fun t hal hz hk => ⟨⟨w, hp, fun k q hq => ?_, hW.2.1⟩, ?_⟩) hW.2.2.2.2 hc hs
  · exact (hW.1 k q hq).kept (hk q.1 (hW.1 k q hq).lt)
  · exact ⟨Nat.le_trans hW.2.2.1 hz, fun q h1 h2 => (hk q (Nat.lt_of_lt_of_le h1 hW.2.2.1)).trans (hW.2.2.2.1 q h1 h2)⟩
/-- caught by the row x of the method's table -/
theorem zcatch (B : zM p s m args c cc nL own G A) {hh : List (Nat × Nat × Nat × Nat)} (htab : c.exceptionTable.toList = tableOf hh) {E : String} {q : Nat} {ce : Cell} (hce : H[q]? = some ce) (hcv : ce.vm = .none) (hcl : s.vm.findClass E = some ce.cls)
    (pre : List ExceptionTableEntry) (x : ExceptionTableEntry) (suf : List ExceptionTableEntry) (hsplit : tableOf hh = pre ++ x :: suf) (hpass : ∀ z ∈ pre, z.catchType ≠ 0 ∧ ∃ nm : String, Cond.classLink own z.catchType nm ∈ zAll ∧ (E, nm) ∈ zNcs) (hx : covers x pc = true) (h0 : x.catchType ≠ 0)
    (hlink : Cond.classLink own x.catchType E ∈ zAll) (hcast : Cond.castable E E ∈ zNest) (kk : W p l e R s m args below meth c H locs cells slots Q (F0 m x.handlerPc ls [.ref q])) : vx_W p l e R s m args below meth c H locs cells slots Q (F0 m pc ls rest) q :=
  vx_catch B.o pre x suf (htab.trans hsplit) (fun z hz => by
    obtain ⟨a1, nm, a2, a3⟩ := hpass z hz
    exact Or.inr ⟨a1, nm, B.ts _ a2, B.E.2.2.2.2.2.2.2.2.2.1 _ a3⟩) hx h0 (B.ts _ hlink) (zNw_use rfl (B.nw hcast)) hce hcv hcl kk
theorem zSubO {ws : List Cond} (is : List Nat) (h : ws = is.filterMap zAt) (g : ws.all (fun w => goodWord w || zOdd w) = true) : ∀ w ∈ ws, w ∈ zAll ∨ w ∈ zNest := fun w hw => by
  have h1 := List.all_eq_true.mp g w hw
  rw [h] at hw
  obtain ⟨i, -, hi⟩ := List.mem_filterMap.mp hw
  rcases (Bool.or_eq_true _ _).mp h1 with h2 | h2
  · exact Or.inl (zMem i hi h2)
  · exact Or.inr (zMemN i hi h2)
/-- a long, a double into an array -/
theorem zlast (B : zM p s m args c cc nL own G A) (hW : zW G A s.heap H locs w) (q0 : Nat) {a n : Nat} {f : Nat → Int64} (he : w[q0]? = some (a, .inl (G.2.1 4, n, .inr (.inl f)))) {i : Int32} {x : Int64} (hin : vp_in i n) (hdg : decode cc pc = .ok (.lastore, 1))
    (kk : ∀ (H1 : Heap) (locs1 : List Loc), zW G A s.heap H1 locs1 (w.set q0 (a, .inl (G.2.1 4, n, .inr (.inl (vp_updL f i.toNatClampNeg x))))) → W p l e R s m args below meth c H1 locs1 cells slots Q (F0 m (pc + 1) ls rest)) : W p l e R s m args below meth c H locs cells slots Q (F0 m pc ls (.long x :: .int i :: .ref a :: rest)) :=
  va_last (D := G.1) (cl := vwCl) (tys := zTy G) (A := A) B.x B.b B.K hW.1 hW.2.1 hW.2.2 q0 4 he rfl hin hdg (fun H1 l1 h1 h2 h3 => kk H1 l1 ⟨h1, h2, h3⟩)
theorem zlald (B : zM p s m args c cc nL own G A) (hW : zW G A s.heap H locs w) (q0 : Nat) {a n : Nat} {f : Nat → Int64} (he : w[q0]? = some (a, .inl (G.2.1 4, n, .inr (.inl f)))) {i : Int32} (hin : vp_in i n) (hdg : decode cc pc = .ok (.laload, 1))
    (kk : W p l e R s m args below meth c H locs cells slots Q (F0 m (pc + 1) ls (.long (f i.toNatClampNeg) :: rest))) : W p l e R s m args below meth c H locs cells slots Q (F0 m pc ls (.int i :: .ref a :: rest)) :=
  va_lald (D := G.1) (cl := vwCl) (tys := zTy G) B.x B.b B.K hW.1 q0 4 he rfl hin hdg kk
/-- an int array cloned, and cast back -/
theorem zclone (B : zM p s m args c cc nL own G A) (hW : zW G A s.heap H locs w) (hsz : ls.size = nL) (q0 : Nat) {a n ix : Nat} {f : Nat → Int32} (he : w[q0]? = some (a, .inl (G.2.1 0, n, .inl f)))
    (hl : Cond.methodLink own idx ⟨"[I", "clone", "()Ljava/lang/Object;"⟩ ∈ zAll) (h1 : Cond.sameMethod "[I" "java/lang/Object" "clone" "()Ljava/lang/Object;" ∈ zAll) (h2 : Cond.native ⟨"java/lang/Object", "clone", "()Ljava/lang/Object;"⟩ ∈ zAll) (h3 : Cond.instanceMethod ⟨"java/lang/Object", "clone", "()Ljava/lang/Object;"⟩ ∈ zAll) (h4 : Cond.selects "[I" ⟨"[I", "clone", "()Ljava/lang/Object;"⟩ ⟨"java/lang/Object", "clone", "()Ljava/lang/Object;"⟩ ∈ zAll) (h5 : Cond.castable "[I" "java/lang/Cloneable" ∈ zNest) (h6 : Cond.classLink own ix "[I" ∈ zAll)
    (hf : 1 ≤ R.frames) (hlo : (rest.map fun v => v.category).sum + 14 ≤ R.locals) (hc : cells + 1 ≤ R.cells) (hs : slots + n ≤ R.slots) (hdg : decode cc pc = .ok (.invokevirtual idx, 3)) (hdc : decode cc (pc + 3) = .ok (.checkcast ix, 3))
    (kk : ∀ (q : Nat) (H1 : Heap), zW G A s.heap H1 locs (w ++ [(q, .inl (G.2.1 0, n, .inl f))]) → W p l e R s m args below meth c H1 locs (cells + 1) (slots + n) Q (F0 m (pc + 6) ls (.ref q :: rest))) : W p l e R s m args below meth c H locs cells slots Q (F0 m pc ls (.ref a :: rest)) := by
  have hnm : s.vm.findClass "[I" = some (G.2.1 0) := (B.K.2 0 _ rfl).2
  refine va_clone (D := G.1) (cl := vwCl) (tys := zTy G) (A := A) B.x B.b (B.ml.trans hsz.symm) B.o (B.ts _ hl) (B.ts _ h1) (B.ts _ h2) (B.ts _ h3) (B.ts _ h4) (B.nw h5) B.K hW.1 hW.2.1 hW.2.2 B.nA q0 0 he rfl hnm (fun i v hv => ?_) hf hlo hc hs hdg (fun q H1 _ a1 a2 a3 => ?_)
  · rw [show vp_cell (G.2.1 0) (n, .inl f) = arrV (G.2.1 0) n (fun j => .int (f j)) from rfl] at hv
    have hlt : i < n := by
      have := (Array.getElem?_eq_some_iff.mp hv).1
      rw [arrV_size] at this
      exact this
    rw [arrV_read _ _ hlt] at hv
    cases hv
    rfl
  · refine va_castA (D := G.1) (cl := vwCl) (nm := "[I") (index := ix) B.x B.b B.o (B.ts _ h6) a1 w.length (cA := G.2.1 0) (x := (n, .inl f)) (by rw [List.getElem?_append_right (Nat.le_refl _), Nat.sub_self]; rfl) hnm hdc ?_
    exact kk q H1 ⟨a1, a2, a3⟩
/-- System.arraycopy of booleans, all of a row onto another of the same length -/
theorem zcopyz (B : zM p s m args c cc nL own G A) (hW : zW G A s.heap H locs w) (hsz : ls.size = nL) (hl : Cond.methodLink own idx arraycopyName ∈ zAll) (q0 q1 : Nat) {a a0 n0 n1 : Nat} {f g : Nat → Int32} (h0 : w[q0]? = some (a0, .inl (G.2.1 1, n0, .inl f))) (h1 : w[q1]? = some (a, .inl (G.2.1 1, n1, .inl g)))
    (k : Nat) {x : Int32} (hx : x = nI k) (hk0 : k ≤ n0) (hk1 : k ≤ n1) (hk : k < 2 ^ 31) (hfit : ∀ i, i < k → fits .boolean (.int (f i)) = true) (hf : 1 ≤ R.frames) (hlo : (rest.map fun v => v.category).sum + (nativeFrameWords "java/lang/System" "arraycopy" 5 + 11) ≤ R.locals) (hdg : decode cc pc = .ok (.invokestatic idx, 3))
    (kk : ∀ (H1 : Heap) (locs1 : List Loc), zW G A s.heap H1 locs1 (w.set q1 (a, .inl (G.2.1 1, n1, .inl (va_cpy f g 0 0 k)))) → W p l e R s m args below meth c H1 locs1 cells slots Q (F0 m (pc + 3) ls rest)) : W p l e R s m args below meth c H locs cells slots Q (F0 m pc ls (.int x :: .int 0 :: .ref a :: .int 0 :: .ref a0 :: rest)) := by
  subst hx
  have ek : (nI k).toNatClampNeg = k := nI_clamp hk
  have e0 : (0 : Int32).toNatClampNeg = 0 := rfl
  refine va_copyi (D := G.1) (cl := vwCl) (tys := zTy G) (A := A) B.x B.b (B.ml.trans hsz.symm) B.o (B.ts _ hl) (B.ts _ kc_nat) (B.ts _ kc_st) (B.ts _ kc_in) B.K hW.1 hW.2.1 hW.2.2 q0 q1 1 1 h0 h1 rfl rfl rfl (by decide) (by decide) (nI_pos hk) (by rw [ek, e0]; omega) (by rw [ek, e0]; omega) (fun i hi => by rw [ek] at hi; rw [e0, Nat.zero_add]; exact hfit i hi) hf hlo hdg (fun H1 l1 b1 b2 b3 => ?_)
  rw [ek, e0] at b1 b2
  exact kk H1 l1 ⟨b1, b2, b3⟩
end ZXK
