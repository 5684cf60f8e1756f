/-! the words of every method: the tables' good ones, one list for all -/
def zAll : List Cond := lw_tbl.filter goodWord
theorem zAll_good : ∀ w ∈ zAll, goodWord w = true := fun _ h => (List.mem_filter.mp h).2
theorem zAll_of {w : Cond} (h : w ∈ lw_tbl) (g : goodWord w = true) : w ∈ zAll := List.mem_filter.mpr ⟨h, g⟩
theorem zMem {w : Cond} (i : Nat) (h : zAt i = some w) (g : goodWord w = true) : w ∈ zAll := zAll_of (zAt_mem h) g
theorem zGI {w : Cond} (h : w ∈ zAll) : GoodIn zAll (w :: zAll) := fun x hx => by
  rcases List.mem_cons.mp hx with rfl | hx
  · exact ⟨h, good_of_word (zAll_good _ h)⟩
  · exact ⟨hx, good_of_word (zAll_good _ hx)⟩
/-! words that only stay true: of private members of nest mates, casts, faces -/
def zOdd : Cond → Bool
  | .fieldLinkNest .. => true
  | .methodLinkNest .. => true
  | .castable .. => true
  | .declares _ => true
  | .publicMethod _ => true
  | .unhidden .. => true
  | .privateMethod _ => true
  | _ => false
def zNest : List Cond := lw_tbl.filter zOdd
theorem zNest_odd : ∀ w ∈ zNest, zOdd w = true := fun _ h => (List.mem_filter.mp h).2
theorem zMemN {w : Cond} (i : Nat) (h : zAt i = some w) (g : zOdd w = true) : w ∈ zNest := List.mem_filter.mpr ⟨zAt_mem h, g⟩
theorem zNw_warm {w : Cond} (g : zOdd w = true) {s U : State} (hW : s.WarmedH U.vm) (h : va_Nw w s) : va_Nw w U := by
  have tr : ∀ {c : Cond}, c.onTables = true → c.before #[] (s.setVm U.vm) = true → c.before #[] U = true := fun hc h => va_tabs hc (rfl : (s.setVm U.vm).vm = U.vm) h
  cases w with
  | fieldLinkNest a i b n d h9 => exact va_Nw.warmF hW h
  | methodLinkNest a i x h9 => exact va_Nw.warmM hW h
  | castable a b => exact tr rfl (by rw [Cond.castable_setVm hW.alike]; exact h)
  | declares x => exact tr rfl (by rw [Cond.declares_setVm hW.alike]; exact h)
  | publicMethod x => exact tr rfl (by rw [Cond.publicMethod_setVm hW.alike]; exact h)
  | privateMethod x => exact tr rfl (by rw [Cond.privateMethod_setVm hW.alike]; exact h)
  | unhidden a b d => exact tr rfl (by rw [Cond.unhidden_setVm hW.alike]; exact h)
  | _ => exact absurd g (by simp [zOdd])
theorem zNw_same {w : Cond} (g : zOdd w = true) {s U : State} (hv : s.vm = U.vm) (h : va_Nw w s) : va_Nw w U := by
  cases w <;> first | exact va_tabs rfl hv h | exact absurd g (by simp [zOdd])
/-! what holds of a state beside its world: classes and array classes, such words, statics, texts -/
abbrev zG : Type := va_G × (Nat → ClassId) × Nat
def zTy (G : zG) : List (ClassId × FieldType) := [(G.2.1 0, .int), (G.2.1 1, .boolean), (G.2.1 2, .object "SmokeWard$Act"), (G.2.1 3, .object "java/lang/Object"), (G.2.1 4, .long), (G.2.1 5, .double)]
def zStr : List (String × Nat × String) := tables_1.filterMap fun w => match w with
  | .stringRef a k t => some (a, k, t)
  | _ => none
def zFw : List (String × MethodName × MethodName) := [("java/util/ArrayList", ⟨"java/util/List", "size", "()I"⟩, ⟨"java/util/ArrayList", "size", "()I"⟩), ("java/util/ArrayList", ⟨"java/util/List", "add", "(Ljava/lang/Object;)Z"⟩, ⟨"java/util/ArrayList", "add", "(Ljava/lang/Object;)Z"⟩), ("java/util/ArrayList", ⟨"java/util/List", "get", "(I)Ljava/lang/Object;"⟩, ⟨"java/util/ArrayList", "get", "(I)Ljava/lang/Object;"⟩), ("java/util/ArrayList", ⟨"java/util/List", "iterator", "()Ljava/util/Iterator;"⟩, ⟨"java/util/ArrayList", "iterator", "()Ljava/util/Iterator;"⟩), ("java/util/ArrayList", ⟨"java/util/List", "isEmpty", "()Z"⟩, ⟨"java/util/ArrayList", "isEmpty", "()Z"⟩), ("java/util/ArrayList$Itr", ⟨"java/util/Iterator", "hasNext", "()Z"⟩, ⟨"java/util/ArrayList$Itr", "hasNext", "()Z"⟩), ("java/util/ArrayList$Itr", ⟨"java/util/Iterator", "next", "()Ljava/lang/Object;"⟩, ⟨"java/util/ArrayList$Itr", "next", "()Ljava/lang/Object;"⟩)]
def zNcs : List (String × String) :=
  let E := ["java/lang/IndexOutOfBoundsException", "java/lang/IllegalArgumentException", "java/lang/IllegalStateException", "java/lang/UnsupportedOperationException", "java/lang/ArithmeticException"]
  (E.flatMap fun a => E.map fun b => (a, b)).filter fun q => q.1 != q.2
/-- the class object of rows of objects -/
def zMi (G : zG) : Nat := G.1.2 99 0
def zE (G : zG) (A : Nat → Prop) (U : State) (H : Heap) : Prop :=
  va_K G.1 vwCl (zTy G) U ∧ (∀ w ∈ zNest, va_Nw w U) ∧ (∀ q ∈ zFw, va_Fw q.1 q.2.1 q.2.2 U) ∧ (∀ q ∈ zStr, ∃ a, vk_R q.1 q.2.1 q.2.2 a U) ∧
  vx_Zq Bundle.tN "UNASSIGNED_STACK" Bundle.steD A U H ∧ vx_Zq Bundle.tN "SUPPRESSED_SENTINEL" Bundle.listD A U H ∧
  (va_Z "java/util/ArrayList" "DEFAULTCAPACITY_EMPTY_ELEMENTDATA" "[Ljava/lang/Object;" (.ref G.2.2) A U H ∧ va_T (.object "java/lang/Object") G.2.2 0 (fun _ => .null) A U H) ∧
  va_AO "SmokeWard$Act" U ∧ va_AO "java/lang/Object" U ∧ (∀ q ∈ zNcs, va_Nc q.1 q.2 U) ∧ va_Mi "[Ljava/lang/Object;" (zMi G) U ∧ va_Dc U
theorem zFw_ok : ∀ q ∈ zFw, q.2.1.cls ≠ "java/lang/invoke/MethodHandle" ∧ q.2.1.cls ≠ "java/lang/invoke/VarHandle" := by decide +kernel
theorem zE.go {G : zG} {A B : Nat → Prop} {s U : State} {Hs : Heap} (h : zE G A s Hs) (hW : s.WarmedH U.vm ∨ s.vm = U.vm) (hk : ∀ a : Nat, a < Hs.size → ¬ A a → U.heap[a]? = Hs[a]?) (hAB : ∀ q, B q → A q) : zE G B U U.heap := by
  obtain ⟨h1, h2, h3, h4, h5, h6, ⟨h7, h8⟩, h9, h10, h11, h12, h13⟩ := h
  have hal : s.vm.Alike U.vm := hW.elim (fun w => w.alike) (fun e => e ▸ Vm.Alike.refl s.vm)
  refine ⟨h1.moved hal, fun w hw => ?_, fun q hq => (h3 q hq).moved (zFw_ok q hq) hal, fun q hq => ?_, ((h5.kept hk).narrow hAB).moved hal, ((h6.kept hk).narrow hAB).moved hal, ⟨((h7.kept hk).narrow hAB).moved hal, ((h8.kept hk).narrow hAB).moved hal⟩, h9.moved hal, h10.moved hal, fun q hq => (h11 q hq).moved hal, h12.moved hal, h13.moved hal⟩
  · exact hW.elim (fun x => zNw_warm (zNest_odd w hw) x (h2 w hw)) (fun x => zNw_same (zNest_odd w hw) x (h2 w hw))
  · obtain ⟨a, ha⟩ := h4 q hq
    exact ⟨a, hW.elim (fun x => ha.warm x) (fun x => ha.same x.symm)⟩
/-! the world of a moment of a method -/
def zW (G : zG) (A : Nat → Prop) (H0 H : Heap) (locs : List Loc) (w : va_W) : Prop := va_P G.1 vwCl w H ∧ va_D A w ∧ va_S A H0 H locs
theorem zW.P {G : zG} {A : Nat → Prop} {H0 H : Heap} {locs : List Loc} {w : va_W} (h : zW G A H0 H locs w) : va_P G.1 vwCl w H := h.1
theorem zW.D {G : zG} {A : Nat → Prop} {H0 H : Heap} {locs : List Loc} {w : va_W} (h : zW G A H0 H locs w) : va_D A w := h.2.1
theorem zW.S {G : zG} {A : Nat → Prop} {H0 H : Heap} {locs : List Loc} {w : va_W} (h : zW G A H0 H locs w) : va_S A H0 H locs := h.2.2
theorem zW.eq {G : zG} {A : Nat → Prop} {H0 H : Heap} {locs : List Loc} {w w' : va_W} (h : zW G A H0 H locs w) (e : w = w') : zW G A H0 H locs w' := e ▸ h
/-- some of its cells, in any order -/
theorem zW.sub {G : zG} {A : Nat → Prop} {H0 H : Heap} {locs : List Loc} {w w' : va_W} (h : zW G A H0 H locs w) (is : List Nat) (hn : va_nd is = true) (hs : is.map (fun i => w[i]?) = w'.map some) : zW G A H0 H locs w' := by
  refine ⟨?_, h.2.1.sub is hn hs, h.2.2⟩
  intro k q hk
  have h1 : (is.map (fun i => w[i]?))[k]? = some (some q) := by rw [hs, List.getElem?_map, hk]; rfl
  rw [List.getElem?_map] at h1
  cases hi : is[k]? with
  | none => rw [hi] at h1; cases h1
  | some i => rw [hi] at h1; exact h.1 i q (Option.some.inj h1)
/-! a method's start and its end -/
def zPc (G : zG) (sz : Nat) (av : List Value) (w : va_W) : Array Value → State → Prop := va_Pc av (fun U => U.heap.size = sz ∧ va_P G.1 vwCl w U.heap ∧ va_D (fun _ => True) w ∧ zE G (va_A w sz) U U.heap)
theorem zPc_blind (G : zG) (sz : Nat) (av : List Value) (w : va_W) : FrameBlind (zPc G sz av w) := fun a U g mk ⟨h1, h2, h3, h4, h5⟩ => ⟨h1, h2, h3, h4, zE.go (U := U.calling g mk a) h5 (Or.inr rfl) (fun _ _ _ => rfl) (fun _ h => h)⟩
def zB (G : zG) (A : Nat → Prop) (u : va_W) (t : State) : Prop := va_P G.1 vwCl u t.heap ∧ va_D A u
def zQ (G : zG) (A : Nat → Prop) (post : Option Value → va_W → Prop) : Array Value → State → Outcome → State → Prop := fun _ st oc t => (∃ (v : Option Value) (u : va_W), oc = .returned v ∧ post v u ∧ zB G A u t) ∧ va_F A st t
abbrev zRm (d mc ms : Nat) : Room := { frames := d, cells := mc, slots := ms, locals := 80 * d }
/-- A CONTRACT: from every state that holds the world w (and its statics, classes, texts), y returns v with a world u, 'post v u'; at most mc cells of ms slots are new; nothing else changed -/
def zC (l : Launch) (y : MethodName) (cc : ByteArray) (n : Nat) (ret : Option FieldType) (d mc ms : Nat) (G : zG) (av : List Value) (w : va_W) (post : Option Value → va_W → Prop) : Prop :=
  ∀ sz : Nat, Met l y (Cond.code y cc n ret :: zAll) (zRm d mc ms) (zPc G sz av w) (zQ G (va_A w sz) post) mc ms (va_A w sz)
/-- what a method has at hand -/
def zM (p : Program) (s : State) (m : MethodId) (args : Array Value) (c : Code) (cc : ByteArray) (nL : Nat) (own : String) (G : zG) (A : Nat → Prop) : Prop :=
  p.tables.exec = Jvm.exec ∧ c.code = cc ∧ c.maxLocals = nL ∧ s.vm.findClass own = some m.cls ∧ (∀ w ∈ zAll, w.before args s = true) ∧ zE G A s s.heap ∧ (∀ q, s.heap.size ≤ q → A q)
section ZS
variable {l : Launch} {y : MethodName} {cc : ByteArray} {n d mc ms : Nat} {ret : Option FieldType} {G : zG} {av : List Value} {w : va_W} {post : Option Value → va_W → Prop}
theorem zC.of (own : String) (ho : y.cls = own) (hy : plainName y.cls = true) (hn : (lg_sl av).length ≤ n)
    (body : ∀ (p : Program) (e : Env) (s : State) (m : MethodId) (args : Array Value) (below : List Frame) (meth : Method) (c : Code) (A : Nat → Prop) (ls : Array Slot), zM p s m args c cc n own G A → meth.sig.returnType = ret → meth.locks = false → meth.name = y.name → zW G A s.heap s.heap [] w → lv_has ls n (lv_args 0 av) →
      W p l e (zRm d mc ms) s m args below meth c s.heap [] 0 0 (MQ below (zQ G A post) args s mc ms A) (F0 m 0 ls [])) : zC l y cc n ret d mc ms G av w post := by
  intro sz
  refine Met.ofW (cc := cc) (maxL := n) (ret := ret) hy rfl ?_
  intro p e s m args below meth c s₁ B hml hv
  obtain ⟨rfl, hsz, hP, hD0, hE⟩ := hv
  have hts := atoms_spec (ws := Cond.code y cc n ret :: zAll) B.pre
  subst hsz
  subst ho
  rw [lg_entry_eq]
  exact body p e s m _ below meth c (va_A w s.heap.size) _ ⟨B.exec, B.bytes, hml, findClass_of_methodNamed B.named, fun w hw => hts w (List.mem_cons_of_mem _ hw), hE, fun q h => Or.inr h⟩ B.returns B.notSynchronized (name_of_methodNamed B.named B.method).1 ⟨hP, hD0.self, va_S.rf⟩ (lv_entry av hn)
end ZS
