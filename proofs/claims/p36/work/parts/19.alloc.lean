section ZN
variable {p : Program} {l : Launch} {e : Env} {R : Room} {s : State} {m : MethodId} {args : Array Value} {below : List Frame} {meth : Method} {c : Code} {H : Heap} {locs : List Loc} {cells slots : Nat} {Q : State → Prop}
variable {cc : ByteArray} {nL pc idx : Nat} {own : String} {G : zG} {A : Nat → Prop} {w : va_W} {ls : Array Slot} {rest : List Value} {a : Nat}
theorem ziaddc (hx : p.tables.exec = Jvm.exec) (hb : c.code = cc) {k j : Nat} {x y : Int32} (hy : y = nI j) (h : x = nI k) (hdg : decode cc pc = .ok (.iadd, 1)) (kk : W p l e R s m args below meth c H locs cells slots Q (F0 m (pc + 1) ls (.int (nI (k + j)) :: rest))) : W p l e R s m args below meth c H locs cells slots Q (F0 m pc ls (.int y :: .int x :: rest)) :=
  lv_iadd hx hb hdg (by rw [hy, h, nI_add]; exact kk)
theorem zimulc (hx : p.tables.exec = Jvm.exec) (hb : c.code = cc) {k j : Nat} {x y : Int32} (hy : y = nI j) (h : x = nI k) (hdg : decode cc pc = .ok (.imul, 1)) (kk : W p l e R s m args below meth c H locs cells slots Q (F0 m (pc + 1) ls (.int (nI (k * j)) :: rest))) : W p l e R s m args below meth c H locs cells slots Q (F0 m pc ls (.int y :: .int x :: rest)) :=
  lv_imul hx hb hdg (by rw [hy, h, pk_mul]; exact kk)
theorem va_RA_inj {U : State} {cA cB : ClassId} {ty : FieldType} (h1 : va_RA U cA ty) (h2 : va_RA U cB ty) : cA = cB := by
  cases ty with
  | object C =>
    obtain ⟨_, _, _, _, _, a1⟩ := h1
    obtain ⟨_, _, _, _, _, a2⟩ := h2
    exact Option.some.inj (a1.symm.trans a2)
  | _ => exact Option.some.inj (Eq.trans (Eq.symm h1) h2)
/-- a new array of ints, booleans, longs, doubles -/
theorem znewi (B : zM p s m args c cc nL own G A) (hW : zW G A s.heap H locs w) (k : Nat) {n : Int32} (hn : n = nI k) (hk : k ≤ 134217728) (hcells : cells + 1 ≤ R.cells) (hslots : slots + k ≤ R.slots) (hdg : decode cc pc = .ok (.newarray .int, 2))
    (kk : ∀ (q : Nat) (H1 : Heap), zW G A s.heap H1 locs (w ++ [(q, .inl (G.2.1 0, k, .inl (fun _ => 0)))]) → W p l e R s m args below meth c H1 locs (cells + 1) (slots + k) Q (F0 m (pc + 2) ls (.ref q :: rest))) : W p l e R s m args below meth c H locs cells slots Q (F0 m pc ls (.int n :: rest)) := by
  subst hn
  refine va_newa (D := G.1) (atype := .int) (ty := .int) (a0 := (k, .inl (fun _ => 0))) (N' := k) B.x B.b (B.ts _ ka_int) rfl B.K hW.1 hW.2.1 hW.2.2 B.nA (fun _ => rfl) (nI_pos (by omega)) (nI_clamp (by omega)) (by show k * 4 ≤ _; omega) hcells hslots hdg (fun q cA H1 a0 a1 a2 a3 => ?_)
  have e : cA = G.2.1 0 := va_RA_inj (a0.2 6 _ rfl).2 (a0.2 0 _ rfl).2
  subst e
  exact kk q H1 ⟨a1, a2, a3⟩
theorem znewz (B : zM p s m args c cc nL own G A) (hW : zW G A s.heap H locs w) (k : Nat) {n : Int32} (hn : n = nI k) (hk : k ≤ 134217728) (hcells : cells + 1 ≤ R.cells) (hslots : slots + k ≤ R.slots) (hdg : decode cc pc = .ok (.newarray .boolean, 2))
    (kk : ∀ (q : Nat) (H1 : Heap), zW G A s.heap H1 locs (w ++ [(q, .inl (G.2.1 1, k, .inl (fun _ => 0)))]) → W p l e R s m args below meth c H1 locs (cells + 1) (slots + k) Q (F0 m (pc + 2) ls (.ref q :: rest))) : W p l e R s m args below meth c H locs cells slots Q (F0 m pc ls (.int n :: rest)) := by
  subst hn
  refine va_newa (D := G.1) (atype := .boolean) (ty := .boolean) (a0 := (k, .inl (fun _ => 0))) (N' := k) B.x B.b (B.ts _ ka_boolean) rfl B.K hW.1 hW.2.1 hW.2.2 B.nA (fun _ => rfl) (nI_pos (by omega)) (nI_clamp (by omega)) (by show k * 1 ≤ _; omega) hcells hslots hdg (fun q cA H1 a0 a1 a2 a3 => ?_)
  have e : cA = G.2.1 1 := va_RA_inj (a0.2 6 _ rfl).2 (a0.2 1 _ rfl).2
  subst e
  exact kk q H1 ⟨a1, a2, a3⟩
theorem znewl (B : zM p s m args c cc nL own G A) (hW : zW G A s.heap H locs w) (k : Nat) {n : Int32} (hn : n = nI k) (hk : k ≤ 1342177) (hcells : cells + 1 ≤ R.cells) (hslots : slots + k ≤ R.slots) (hdg : decode cc pc = .ok (.newarray .long, 2))
    (kk : ∀ (q : Nat) (H1 : Heap), zW G A s.heap H1 locs (w ++ [(q, .inl (G.2.1 4, k, .inr (.inl (fun _ => 0))))]) → W p l e R s m args below meth c H1 locs (cells + 1) (slots + k) Q (F0 m (pc + 2) ls (.ref q :: rest))) : W p l e R s m args below meth c H locs cells slots Q (F0 m pc ls (.int n :: rest)) := by
  subst hn
  refine va_newa (D := G.1) (atype := .long) (ty := .long) (a0 := (k, .inr (.inl (fun _ => 0)))) (N' := k) B.x B.b (B.ts _ ka_long) rfl B.K hW.1 hW.2.1 hW.2.2 B.nA (fun _ => rfl) (nI_pos (by omega)) (nI_clamp (by omega)) (by show k * 8 ≤ _; omega) hcells hslots hdg (fun q cA H1 a0 a1 a2 a3 => ?_)
  have e : cA = G.2.1 4 := va_RA_inj (a0.2 6 _ rfl).2 (a0.2 4 _ rfl).2
  subst e
  exact kk q H1 ⟨a1, a2, a3⟩
theorem znewd (B : zM p s m args c cc nL own G A) (hW : zW G A s.heap H locs w) (k : Nat) {n : Int32} (hn : n = nI k) (hk : k ≤ 1342177) (hcells : cells + 1 ≤ R.cells) (hslots : slots + k ≤ R.slots) (hdg : decode cc pc = .ok (.newarray .double, 2))
    (kk : ∀ (q : Nat) (H1 : Heap), zW G A s.heap H1 locs (w ++ [(q, .inl (G.2.1 5, k, .inr (.inr (.inr (.inl (fun _ => 0))))))]) → W p l e R s m args below meth c H1 locs (cells + 1) (slots + k) Q (F0 m (pc + 2) ls (.ref q :: rest))) : W p l e R s m args below meth c H locs cells slots Q (F0 m pc ls (.int n :: rest)) := by
  subst hn
  refine va_newa (D := G.1) (atype := .double) (ty := .double) (a0 := (k, .inr (.inr (.inr (.inl (fun _ => 0)))))) (N' := k) B.x B.b (B.ts _ ka_double) rfl B.K hW.1 hW.2.1 hW.2.2 B.nA (fun _ => rfl) (nI_pos (by omega)) (nI_clamp (by omega)) (by show k * 8 ≤ _; omega) hcells hslots hdg (fun q cA H1 a0 a1 a2 a3 => ?_)
  have e : cA = G.2.1 5 := va_RA_inj (a0.2 6 _ rfl).2 (a0.2 5 _ rfl).2
  subst e
  exact kk q H1 ⟨a1, a2, a3⟩
/-- a new object: its fields at their defaults -/
theorem znew (B : zM p s m args c cc nL own G A) (hW : zW G A s.heap H locs w) {C : String} (ci N : Nat) {T : u_T} (ty : Nat → FieldType) (hc : vwCl[ci]? = some (C, T, N)) (hin : ∀ w ∈ u_ws C T N, w ∈ zAll) (hty : ∀ k, k < N → parseFieldDescriptor (T k).2.2.1 = some (ty k)) (hcl : Cond.classLink own idx C ∈ zAll) (hinst : Cond.instantiable C N ∈ zAll) (hini : Cond.initialized C ∈ zAll) {fs : List Value} (hfs : (List.range N).map (fun j => defaultValue (ty j)) = fs) (hcells : cells + 1 ≤ R.cells) (hslots : slots + N ≤ R.slots) (hdg : decode cc pc = .ok (.new idx, 3))
    (kk : ∀ (q : Nat) (H1 : Heap), zW G A s.heap H1 locs (w ++ [(q, .inr (ci, fs))]) → W p l e R s m args below meth c H1 locs (cells + 1) (slots + N) Q (F0 m (pc + 3) ls (.ref q :: rest))) : W p l e R s m args below meth c H locs cells slots Q (F0 m pc ls rest) := by
  refine va_new (D := G.1) (ci := ci) B.x B.b B.ts hin ty hty B.o (B.ts _ hcl) (B.ts _ hinst) (B.ts _ hini) B.K hW.1 hW.2.1 hW.2.2 B.nA hc (fs := fs) (fun j hj => ?_) hcells hslots hdg (fun q H1 a1 a2 a3 => kk q H1 ⟨a1, a2, a3⟩)
  subst hfs
  show defaultValue (ty j) = ((List.range N).map (fun j => defaultValue (ty j))).getD j Value.null
  simp [List.getD, hj]
/-- Object.<init> -/
theorem zobj (B : zM p s m args c cc nL own G A) (hsz : ls.size = nL) (hl : Cond.methodLink own idx objectInit ∈ zAll) (hframes : 1 ≤ R.frames) (hlocals : (rest.map fun v => v.category).sum + 12 ≤ R.locals) (hdg : decode cc pc = .ok (.invokespecial idx, 3))
    (kk : W p l e R s m args below meth c H locs cells slots Q (F0 m (pc + 3) ls rest)) : W p l e R s m args below meth c H locs cells slots Q (F0 m pc ls (.ref a :: rest)) :=
  W.objInit B.x B.b B.o (B.ts _ hl) (B.ts _ ko_im) (B.ts _ ko_cd) rfl (hsz.trans B.ml.symm) rfl hdg hframes (by show 2 * 0 + _ + 12 ≤ _; omega) kk
end ZN
set_option maxHeartbeats 4000000 in
set_option maxRecDepth 100000 in
/-- Arrays.copyOf of ints to a greater length -/
theorem c_J7_copyOf (l : Launch) (G : zG) (q n k : Nat) (f : Nat → Int32) (hk : n < k) (hk2 : k ≤ 134217728) : zC l yJ7_copyOf_59c91 cJ7_copyOf_59c91 3 (some (.array .int)) 1 1 k G [.ref q, .int (nI k)] [(q, .inl (G.2.1 0, n, .inl f))] (fun r u => ∃ q2 : Nat, r = some (.ref q2) ∧ u = [(q, .inl (G.2.1 0, n, .inl f)), (q2, .inl (G.2.1 0, k, .inl (va_cpy f (fun _ => 0) 0 0 n)))]) := by
  refine zC.of RJ7 rfl (by decide) (Nat.le_of_ble_eq_true rfl) ?_
  intro p e s m args below meth c A ls B hr hlk hnm hW hl
  have hx := B.x
  have hb := B.b
  have hl : lv_has ls 3 [(0, .ref q), (1, .int (nI k))] := hl
  refine lv_iload_n hx hb dJ7_copyOf_59c91_0 rfl (lv_at hl 1 rfl) ?_
  refine lv_aload_n hx hb dJ7_copyOf_59c91_1 rfl (lv_at hl 0 rfl) ?_
  refine zalen B hW 0 0 rfl rfl dJ7_copyOf_59c91_2 ?_
  refine lv_icmp_ne (tgt := 14) hx hb dJ7_copyOf_59c91_3 (by decide) (fun c_3 => ?_) (fun c_3 => absurd ((nI_eq (by omega) (by omega)).mp c_3) (by omega))
  refine lv_iload_n hx hb dJ7_copyOf_59c91_14 rfl (lv_at hl 1 rfl) ?_
  refine znewi B hW k rfl hk2 (Nat.le_of_ble_eq_true rfl) (by show 0 + k ≤ k; omega) dJ7_copyOf_59c91_15 (fun q2 H hW => ?_)
  refine lv_astore_n hx hb dJ7_copyOf_59c91_17 rfl hl (by decide) rfl (fun ls hl => ?_)
  refine lv_aload_n hx hb dJ7_copyOf_59c91_18 rfl (lv_at hl 1 rfl) ?_
  refine lv_iconst (v := (0 : Int32)) hx hb dJ7_copyOf_59c91_19 (by decide) ?_
  refine lv_aload_n hx hb dJ7_copyOf_59c91_20 rfl (lv_at hl 0 rfl) ?_
  refine lv_iconst (v := (0 : Int32)) hx hb dJ7_copyOf_59c91_21 (by decide) ?_
  refine lv_aload_n hx hb dJ7_copyOf_59c91_22 rfl (lv_at hl 1 rfl) ?_
  refine zalen B hW 0 0 rfl rfl dJ7_copyOf_59c91_23 ?_
  refine lv_iload_n hx hb dJ7_copyOf_59c91_24 rfl (lv_at hl 2 rfl) ?_
  refine va_mmin hx hb (B.ml.trans hl.1.symm) B.o (B.ts _ ml_J7_304) (B.ts _ km_min_s) (B.ts _ km_i) (B.ts _ km_min_c) (Nat.le_of_ble_eq_true rfl) (Nat.le_of_ble_eq_true rfl) (Nat.le_of_ble_eq_true rfl) (by show 0 + k ≤ k; omega) dJ7_copyOf_59c91_25 ?_
  refine W.eq (g2 := F0 m 28 ls [.int (nI n), .int (0 : Int32), .ref q2, .int (0 : Int32), .ref q]) (by rw [if_neg (nI_nlt (show n ≤ k by omega) (by omega))]) ?_
  refine zcopy B hW hl.1 ml_J7_150 0 1 rfl rfl 0 0 n ⟨by omega, by omega⟩ rfl rfl rfl (by omega) (by omega) (Nat.le_of_ble_eq_true rfl) (Nat.le_of_ble_eq_true rfl) dJ7_copyOf_59c91_28 (fun H locs hW => ?_)
  refine lv_aload_n hx hb dJ7_copyOf_59c91_31 rfl (lv_at hl 0 rfl) ?_
  exact zaret B hr hlk (Or.inr ⟨_, rfl⟩) (Or.inr ⟨_, rfl⟩) hW ⟨q2, rfl, rfl⟩ (Nat.le_refl _) (by show 0 + k ≤ k; omega) dJ7_copyOf_59c91_32
theorem va_P_mem {D : va_G} {cl : List vw_C} {w : va_W} {H : Heap} : va_P D cl w H ↔ ∀ q ∈ w, va_at D cl q H :=
  ⟨fun h q hq => by obtain ⟨k, hk⟩ := List.getElem?_of_mem hq; exact h k q hk, fun h k q hk => h q (List.mem_of_getElem? hk)⟩
theorem va_D_nodup {A : Nat → Prop} {w : va_W} : va_D A w ↔ (w.map (fun q => q.1)).Nodup ∧ ∀ q ∈ w, A q.1 := by
  constructor
  · intro h
    refine ⟨?_, fun q hq => by obtain ⟨k, hk⟩ := List.getElem?_of_mem hq; exact h.2 k q hk⟩
    refine List.pairwise_iff_getElem.mpr (fun i j hi hj hij e => ?_)
    rw [List.length_map] at hi hj
    rw [List.getElem_map, List.getElem_map] at e
    have := h.1 i j _ _ (List.getElem?_eq_getElem hi) (List.getElem?_eq_getElem hj) e
    omega
  · intro h
    refine ⟨fun i j x y hi hj e => ?_, fun k q hk => h.2 q (List.mem_of_getElem? hk)⟩
    obtain ⟨li, rfl⟩ := List.getElem?_eq_some_iff.mp hi
    obtain ⟨lj, rfl⟩ := List.getElem?_eq_some_iff.mp hj
    have hp := List.pairwise_iff_getElem.mp h.1
    rcases Nat.lt_trichotomy i j with q | q | q
    · exact absurd (by rw [List.getElem_map, List.getElem_map]; exact e) (hp i j (by rw [List.length_map]; exact li) (by rw [List.length_map]; exact lj) q)
    · exact q
    · exact absurd (by rw [List.getElem_map, List.getElem_map]; exact e.symm) (hp j i (by rw [List.length_map]; exact lj) (by rw [List.length_map]; exact li) q)
/-- the cells in another order -/
theorem zW.perm {G : zG} {A : Nat → Prop} {H0 H : Heap} {locs : List Loc} {w w' : va_W} (h : zW G A H0 H locs w) (p : w.Perm w') : zW G A H0 H locs w' :=
  ⟨va_P_mem.mpr fun q hq => va_P_mem.mp h.1 q (p.mem_iff.mpr hq), va_D_nodup.mpr ⟨(p.map _).nodup_iff.mp (va_D_nodup.mp h.2.1).1, fun q hq => (va_D_nodup.mp h.2.1).2 q (p.mem_iff.mpr hq)⟩, h.2.2⟩
section ZN2
variable {p : Program} {l : Launch} {e : Env} {R : Room} {s : State} {m : MethodId} {args : Array Value} {below : List Frame} {meth : Method} {c : Code} {H : Heap} {locs : List Loc} {cells slots : Nat} {Q : State → Prop}
variable {cc : ByteArray} {nL pc idx : Nat} {own : String} {G : zG} {A : Nat → Prop} {w : va_W} {ls : Array Slot} {rest : List Value} {a : Nat}
theorem zcopyOf (B : zM p s m args c cc nL own G A) (hW : zW G A s.heap H locs w) (hsz : ls.size = nL) (hl : Cond.methodLink own idx yJ7_copyOf_59c91 ∈ zAll) (q0 : Nat) {n : Nat} {f : Nat → Int32} (he : w[q0]? = some (a, .inl (G.2.1 0, n, .inl f))) (k : Nat) (hk : n < k) (hk2 : k ≤ 134217728) (hR : 2 ≤ R.frames) (hR2 : 102 ≤ R.locals) (hrm : (rest.map fun v => v.category).sum ≤ 8) (hc1 : cells + 1 ≤ R.cells) (hs1 : slots + k ≤ R.slots) (hdg : decode cc pc = .ok (.invokestatic idx, 3))
    (kk : ∀ (q : Nat) (H1 : Heap) (locs1 : List Loc), zW G A s.heap H1 locs1 (w ++ [(q, .inl (G.2.1 0, k, .inl (va_cpy f (fun _ => 0) 0 0 n)))]) → W p l e R s m args below meth c H1 locs1 (cells + 1) (slots + k) Q (F0 m (pc + 3) ls (.ref q :: rest))) : W p l e R s m args below meth c H locs cells slots Q (F0 m pc ls (.int (nI k) :: .ref a :: rest)) := by
  refine zcS (w1 := w.take q0) (wc := [(a, .inl (G.2.1 0, n, .inl f))]) (w2 := w.drop (q0 + 1)) (As := [.ref a, .int (nI k)]) B (hW.eq (zcut he)) (c_J7_copyOf l G a n k f hk hk2) yd_J7_copyOf_59c91 hl rfl hsz rfl hrm ⟨by omega, by omega⟩ ⟨hc1, hs1⟩ hdg (fun v u H locs hp hW => ?_)
  obtain ⟨q2, rfl, rfl⟩ := hp
  refine kk q2 H locs (hW.perm ?_)
  conv => rhs; rw [zcut he]
  rw [List.append_assoc, List.append_assoc]
  exact List.Perm.append_left _ (List.Perm.cons _ (List.perm_append_comm (l₁ := [_])))
end ZN2
def zads (L : List Nat) : Nat → Nat := fun k => L.getD k 0
