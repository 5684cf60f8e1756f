section ZLR
variable {p : Program} {l : Launch} {e : Env} {R : Room} {s : State} {m : MethodId} {args : Array Value} {below : List Frame} {meth : Method} {c : Code} {H : Heap} {locs : List Loc} {cells slots : Nat} {Q : State → Prop}
variable {cc bytes : ByteArray} {nL pc maxL n d mc ms idx cnt : Nat} {own C host : String} {G : zG} {A : Nat → Prop} {w w1 w2 wc : va_W} {ls : Array Slot} {rest As : List Value} {a b : Nat} {x y : MethodName} {ret : Option FieldType} {post : Option Value → va_W → Prop}
/-- an inherited field by the name of the class below -/
def zFs (own : String) (idx : Nat) (ci k : Nat) : Prop := ∃ (C : String) (T : u_T) (N : Nat) (ref : String), vwCl[ci]? = some (C, T, N) ∧ k < N ∧ (∀ w ∈ u_ws C T N, w ∈ zAll) ∧ Cond.fieldLink own idx ref (T k).2.1 (T k).2.2.1 ∈ zAll ∧ Cond.sameField ref (T k).1 (T k).2.1 (T k).2.2.1 ∈ zAll
theorem zgetS (B : zM p s m args c cc nL own G A) (hW : zW G A s.heap H locs w) (q0 : Nat) {ci : Nat} {fs : List Value} (he : w[q0]? = some (a, .inr (ci, fs))) {idx k : Nat} (L : zFs own idx ci k) {v : Value} (hv : fs[k]? = some v) (hdg : decode cc pc = .ok (.getfield idx, 3))
    (kk : W p l e R s m args below meth c H locs cells slots Q (F0 m (pc + 3) ls (v :: rest))) : W p l e R s m args below meth c H locs cells slots Q (F0 m pc ls (.ref a :: rest)) := by
  obtain ⟨C, T, N, ref, h1, h2, h3, h4, h5⟩ := L
  exact va_get (D := G.1) (ci := ci) (C := C) (T := T) (N := N) B.x B.b B.ts h3 B.o B.K hW.1 q0 he h1 k h2 (B.ts _ h4) (u_same (B.ts _ h5)) hv hdg kk
theorem zputS (B : zM p s m args c cc nL own G A) (hW : zW G A s.heap H locs w) (q0 : Nat) {ci : Nat} {fs : List Value} (he : w[q0]? = some (a, .inr (ci, fs))) {idx k : Nat} (L : zFs own idx ci k) {ty : FieldType} (F : zFt ci k false ty) {v : Value} (hn : narrow ty v = v) (hfit : fits ty v = true) (hl : k < fs.length) (hdg : decode cc pc = .ok (.putfield idx, 3))
    (kk : ∀ (H1 : Heap) (locs1 : List Loc), zW G A s.heap H1 locs1 (w.set q0 (a, .inr (ci, fs.set k v))) → W p l e R s m args below meth c H1 locs1 cells slots Q (F0 m (pc + 3) ls rest)) : W p l e R s m args below meth c H locs cells slots Q (F0 m pc ls (v :: .ref a :: rest)) := by
  obtain ⟨C, T, N, ref, h1, h2, h3, h4, h5⟩ := L
  obtain ⟨C', T', N', ty0, g1, g2, g3, g4, g5⟩ := F
  cases Option.some.inj (h1.symm.trans g1)
  exact va_put (D := G.1) (ci := ci) (C := C) (T := T) (N := N) B.x B.b B.ts h3 ty0 g2 g3 B.o B.K hW.1 hW.2.1 hW.2.2 q0 he h1 k h2 (B.ts _ h4) (u_same (B.ts _ h5)) g4 g5 hn hfit hl hdg (fun H1 locs1 a1 a2 a3 => kk H1 locs1 ⟨a1, a2, a3⟩)
/-- ArrayList's row of empty lists -/
theorem zgetD (B : zM p s m args c cc nL own G A) (hW : zW G A s.heap H locs w) (hl : Cond.fieldLink own idx "java/util/ArrayList" "DEFAULTCAPACITY_EMPTY_ELEMENTDATA" "[Ljava/lang/Object;" ∈ zAll) (hdg : decode cc pc = .ok (.getstatic idx, 3))
    (kk : W p l e R s m args below meth c H locs cells slots Q (F0 m (pc + 3) ls (.ref G.2.2 :: rest))) : W p l e R s m args below meth c H locs cells slots Q (F0 m pc ls rest) :=
  va_gets (A := A) B.x B.b B.E.2.2.2.2.2.2.1.1 hW.2.2 B.o (B.ts _ hl) (fun _ h => h) hdg kk
theorem zlenD (B : zM p s m args c cc nL own G A) (hW : zW G A s.heap H locs w) (hdg : decode cc pc = .ok (.arraylength, 1))
    (kk : W p l e R s m args below meth c H locs cells slots Q (F0 m (pc + 1) ls (.int 0 :: rest))) : W p l e R s m args below meth c H locs cells slots Q (F0 m pc ls (.ref G.2.2 :: rest)) :=
  va_tlen (A := A) B.x B.b B.E.2.2.2.2.2.2.1.2 hW.2.2 rfl hdg kk
/-- a new row of objects -/
theorem znewo (B : zM p s m args c cc nL own G A) (hW : zW G A s.heap H locs w) (k : Nat) {n : Int32} (hn : n = nI k) (hk : k ≤ 1000000) (hl : Cond.classLink own idx "java/lang/Object" ∈ zAll) (hcells : cells + 1 ≤ R.cells) (hslots : slots + k ≤ R.slots) (hdg : decode cc pc = .ok (.anewarray idx, 3))
    (kk : ∀ (q : Nat) (H1 : Heap), zW G A s.heap H1 locs (w ++ [(q, .inl (G.2.1 3, k, .inr (.inr (.inr (.inr (fun _ => none))))))]) → W p l e R s m args below meth c H1 locs (cells + 1) (slots + k) Q (F0 m (pc + 3) ls (.ref q :: rest))) : W p l e R s m args below meth c H locs cells slots Q (F0 m pc ls (.int n :: rest)) := by
  subst hn
  refine va_newq (D := G.1) (cl := vwCl) (tys := zTy G) (A := A) (N' := k) B.x B.b B.o (B.ts _ hl) B.E.2.2.2.2.2.2.2.2.1 B.K hW.1 hW.2.1 hW.2.2 B.nA (nI_pos (by omega)) (nI_clamp (by omega)) (by omega) hcells hslots hdg (fun q cA H1 a0 a1 a2 a3 => ?_)
  have e : cA = G.2.1 3 := va_RA_inj (a0.2 6 _ rfl).2 (a0.2 3 _ rfl).2
  subst e
  exact kk q H1 ⟨a1, a2, a3⟩
/-- an object of any class into a row of objects -/
theorem zoast (B : zM p s m args c cc nL own G A) (hW : zW G A s.heap H locs w) (q0 qk ci : Nat) {a n v : Nat} {vs : List Value} {f : Nat → Option Nat} {r : vw_C} (he : w[q0]? = some (a, .inl (G.2.1 3, n, .inr (.inr (.inr (.inr f)))))) (hv : w[qk]? = some (v, .inr (ci, vs))) (hc : vwCl[ci]? = some r) (hca : Cond.castable r.1 "java/lang/Object" ∈ zNest) {i : Int32} (hin : vp_in i n) (hdg : decode cc pc = .ok (.aastore, 1))
    (kk : ∀ (H1 : Heap) (locs1 : List Loc), zW G A s.heap H1 locs1 (w.set q0 (a, .inl (G.2.1 3, n, .inr (.inr (.inr (.inr (va_up f i.toNatClampNeg (some v)))))))) → W p l e R s m args below meth c H1 locs1 cells slots Q (F0 m (pc + 1) ls rest)) : W p l e R s m args below meth c H locs cells slots Q (F0 m pc ls (.ref v :: .int i :: .ref a :: rest)) :=
  va_astqO (D := G.1) (cl := vwCl) (tys := zTy G) (A := A) B.x B.b B.K hW.1 hW.2.1 hW.2.2 q0 3 qk ci (r := r) he rfl (B.nw hca) hv hc hin hdg (fun H1 l1 h1 h2 h3 => kk H1 l1 ⟨h1, h2, h3⟩)
theorem zback5 (B : zM p s m args c cc nL own G A) (hW : zW G A s.heap H locs (w1 ++ (wc ++ w2))) {st0 : List Value} {a : Array Value}
    (hr : va_Run5 p l e R s m args below meth c H locs cells slots mc ms (F0 m pc ls st0) rest (zQ G (va_A wc H.size) post a) (va_A wc H.size))
    (kk : ∀ (v : Option Value) (u : va_W) (H1 : Heap) (locs1 : List Loc), post v u → zW G A s.heap H1 locs1 (w1 ++ (u ++ w2)) → W p l e R s m args below meth c H1 locs1 (cells + mc) (slots + ms) Q (F0 m (pc + 5) ls (v.toList ++ rest))) :
    W p l e R s m args below meth c H locs cells slots Q (F0 m pc ls st0) := by
  have hF := zfree hW B.nA
  intro T hT X
  obtain ⟨v, st₀, t, T', L, h0, X', hL, e1, e2, ⟨⟨v', u, hv, hp, hPu, hDu⟩, hz, hk⟩, st⟩ := hr T hT X
  cases hv
  rw [h0] at hz hk
  obtain ⟨t2, a1, b1⟩ := kk v u T'.heap (locs ++ L) hp (zjoin hW (fun q h1 h2 => by rw [e1]; exact hk q h1 h2) hF (by rw [e1]; exact hPu) hDu
    ⟨Nat.le_trans hW.2.2.1 (by rw [e1]; exact hz), fun q h1 h2 => by rw [e1, hk q (Nat.lt_of_lt_of_le h1 hW.2.2.1) (fun z => h2 (hF q z))]; exact hW.2.2.2.1 q h1 h2, fun q hq => by
      rcases List.mem_append.mp hq with h | h
      · exact hW.2.2.2.2 q h
      · exact hF _ (hL q h)⟩) T' rfl X'
  exact ⟨t2, st t2 a1, b1⟩
/-- what the tables say of y, called as x on an object of y's class -/
def zYf (x y : MethodName) (bytes : ByteArray) (maxL : Nat) (ret : Option FieldType) (n : Nat) : Prop := Cond.code y bytes maxL ret ∈ zAll ∧ Cond.initialized y.cls ∈ zAll ∧ (x.cls ≠ "java/lang/invoke/MethodHandle" ∧ x.cls ≠ "java/lang/invoke/VarHandle" ∧ (parseMethodDescriptor x.desc).map (fun d => d.parameters.length) = some n) ∧ Cond.instanceMethod y ∈ zAll ∧ Cond.selects y.cls x y ∈ zAll ∧ (y.cls, x, y) ∈ zFw
theorem zcF (B : zM p s m args c cc nL own G A) (hW : zW G A s.heap H locs (w1 ++ (wc ++ w2))) (hM : zC l y bytes maxL ret d mc ms G (.ref b :: As) wc post) (Y : zYf x y bytes maxL ret n) (hl : Cond.methodLink own idx x ∈ zAll)
    (q0 : Nat) {ci : Nat} {fs : List Value} {r : vw_C} (he : wc[q0]? = some (b, .inr (ci, fs))) (hcl : vwCl[ci]? = some r) (hcn : r.1 = y.cls) {st0 : List Value}
    (hn : As.length = n) (hsz : ls.size = nL) (hst : st0 = As.reverse ++ .ref b :: rest) (hrm : (rest.map fun v => v.category).sum ≤ 8) (hR : d + 1 ≤ R.frames ∧ 8 + (maxL + 11) + 80 * d ≤ R.locals) (hf : cells + mc ≤ R.cells ∧ slots + ms ≤ R.slots) (hdg : decode cc pc = .ok (.invokeinterface idx cnt, 5))
    (kk : ∀ (v : Option Value) (u : va_W) (H1 : Heap) (locs1 : List Loc), post v u → zW G A s.heap H1 locs1 (w1 ++ (u ++ w2)) → W p l e R s m args below meth c H1 locs1 (cells + mc) (slots + ms) Q (F0 m (pc + 5) ls (v.toList ++ rest))) :
    W p l e R s m args below meth c H locs cells slots Q (F0 m pc ls st0) := by
  obtain ⟨Y1, Y2, Y3, Y4, Y5, Y6⟩ := Y
  subst hst
  have hat := (B.K.1 ci r hcl).2
  rw [hcn] at hat
  refine zback5 B hW (va_runF (Ts := zAll) (As := As) (rest := rest) (C := y.cls) hat ⟨B.x, B.b, B.ml, B.o, B.ts⟩ (hM H.size) (va_cwF (Ts := zAll) n B.ts (fun w hw => ?_) rfl rfl rfl (B.E.2.2.1 _ Y6) Y3 hR) ⟨zPc_blind _ _ _ _, by rw [← hcn]; exact va_recv B.K (va_P_l (va_P_r hW.1)) hcl he, zpre B hW⟩ rfl hn hsz rfl (lv_room hrm) hdg hf) kk
  have hw2 : w ∈ zAll := by
    unfold va_wsF at hw
    rcases List.mem_append.mp hw with h | h
    · rcases List.mem_cons.mp h with rfl | h
      · exact hl
      · rcases List.mem_cons.mp h with rfl | h
        · exact Y5
        · rcases List.mem_cons.mp h with rfl | h
          · exact Y4
          · rcases List.mem_cons.mp h with rfl | h
            · exact Y2
            · cases h
    · rcases List.mem_cons.mp h with rfl | h
      · exact Y1
      · exact h
  exact ⟨hw2, good_of_word (zAll_good _ hw2)⟩
end ZLR
theorem yf_Jx4a65c_size_8abf5 : zYf ⟨"java/util/List", "size", "()I"⟩ yJx4a65c_size_8abf5 cJx4a65c_size_8abf5 1 (some .int) 0 := ⟨zMem 5105 (by decide +kernel) rfl, zMem 1013 (by decide +kernel) rfl, ⟨by decide +kernel, by decide +kernel, by decide +kernel⟩, zMem 5103 (by decide +kernel) rfl, zMem 5101 (by decide +kernel) rfl, by decide +kernel⟩
theorem yf_Jx4a65c_add_9ea2d : zYf ⟨"java/util/List", "add", "(Ljava/lang/Object;)Z"⟩ yJx4a65c_add_9ea2d cJx4a65c_add_9ea2d 2 (some .boolean) 1 := ⟨zMem 5146 (by decide +kernel) rfl, zMem 1013 (by decide +kernel) rfl, ⟨by decide +kernel, by decide +kernel, by decide +kernel⟩, zMem 5144 (by decide +kernel) rfl, zMem 5142 (by decide +kernel) rfl, by decide +kernel⟩
theorem yf_Jx4a65c_get_915e3 : zYf ⟨"java/util/List", "get", "(I)Ljava/lang/Object;"⟩ yJx4a65c_get_915e3 cJx4a65c_get_915e3 2 (some (.object "java/lang/Object")) 1 := ⟨zMem 5221 (by decide +kernel) rfl, zMem 1013 (by decide +kernel) rfl, ⟨by decide +kernel, by decide +kernel, by decide +kernel⟩, zMem 5219 (by decide +kernel) rfl, zMem 5217 (by decide +kernel) rfl, by decide +kernel⟩
theorem yf_Jx4a65c_iterator_32c93 : zYf ⟨"java/util/List", "iterator", "()Ljava/util/Iterator;"⟩ yJx4a65c_iterator_32c93 cJx4a65c_iterator_32c93 1 (some (.object "java/util/Iterator")) 0 := ⟨zMem 6000 (by decide +kernel) rfl, zMem 1013 (by decide +kernel) rfl, ⟨by decide +kernel, by decide +kernel, by decide +kernel⟩, zMem 5238 (by decide +kernel) rfl, zMem 5236 (by decide +kernel) rfl, by decide +kernel⟩
theorem yf_Jx4a65c_isEmpty_aae02 : zYf ⟨"java/util/List", "isEmpty", "()Z"⟩ yJx4a65c_isEmpty_aae02 cJx4a65c_isEmpty_aae02 1 (some .boolean) 0 := ⟨zMem 7045 (by decide +kernel) rfl, zMem 1013 (by decide +kernel) rfl, ⟨by decide +kernel, by decide +kernel, by decide +kernel⟩, zMem 7043 (by decide +kernel) rfl, zMem 7041 (by decide +kernel) rfl, by decide +kernel⟩
theorem yf_Jx35411_hasNext_aae02 : zYf ⟨"java/util/Iterator", "hasNext", "()Z"⟩ yJx35411_hasNext_aae02 cJx35411_hasNext_aae02 1 (some .boolean) 0 := ⟨zMem 6029 (by decide +kernel) rfl, zMem 1030 (by decide +kernel) rfl, ⟨by decide +kernel, by decide +kernel, by decide +kernel⟩, zMem 6027 (by decide +kernel) rfl, zMem 6025 (by decide +kernel) rfl, by decide +kernel⟩
theorem yf_Jx35411_next_0502b : zYf ⟨"java/util/Iterator", "next", "()Ljava/lang/Object;"⟩ yJx35411_next_0502b cJx35411_next_0502b 3 (some (.object "java/lang/Object")) 0 := ⟨zMem 6038 (by decide +kernel) rfl, zMem 1030 (by decide +kernel) rfl, ⟨by decide +kernel, by decide +kernel, by decide +kernel⟩, zMem 6036 (by decide +kernel) rfl, zMem 6034 (by decide +kernel) rfl, by decide +kernel⟩
theorem lf_Jx35411_17 : zFs RJx35411 17 3 0 := ⟨RJx4a65c, TJx4a65c, 3, "java/util/ArrayList", rfl, by decide, in_Jx4a65c, zMem 5018 (by decide +kernel) rfl, zMem 5019 (by decide +kernel) rfl⟩
theorem lf_Jx4a65c_63 : zFs RJx4a65c 63 3 0 := ⟨RJx4a65c, TJx4a65c, 3, "java/util/ArrayList", rfl, by decide, in_Jx4a65c, zMem 5020 (by decide +kernel) rfl, zMem 5019 (by decide +kernel) rfl⟩
theorem ko_X10 : Cond.castable RX10 "java/lang/Object" ∈ zNest := zMemN 7079 (by decide +kernel) rfl
theorem ko_X11 : Cond.castable RX11 "java/lang/Object" ∈ zNest := zMemN 7081 (by decide +kernel) rfl
theorem ko_X9 : Cond.castable RX9 "java/lang/Object" ∈ zNest := zMemN 7082 (by decide +kernel) rfl
