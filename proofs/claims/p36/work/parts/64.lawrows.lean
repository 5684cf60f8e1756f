/-! rows of the law's body -/
section ZLW
variable {p : Program} {l : Launch} {e : Env} {R : Room} {s : State} {m : MethodId} {args : Array Value} {below : List Frame} {meth : Method} {c : Code} {H : Heap} {locs : List Loc} {cells slots : Nat} {Q : State → Prop}
variable {cc : ByteArray} {nL pc : Nat} {own : String} {G : zG} {A : Nat → Prop} {w : va_W} {ls : Array Slot} {rest : List Value}
theorem ziaddv (hexec : p.tables.exec = Jvm.exec) (hb : c.code = cc) {x y v : Int32} (h : x + y = v) (hdg : decode cc pc = .ok (.iadd, 1))
    (k : W p l e R s m args below meth c H locs cells slots Q (F0 m (pc + 1) ls (.int v :: rest))) : W p l e R s m args below meth c H locs cells slots Q (F0 m pc ls (.int y :: .int x :: rest)) := by
  subst h
  exact lv_iadd hexec hb hdg k
theorem zsld (B : zM p s m args c cc nL own G A) {b L : Nat} {xs : Nat → Int32} (hX : va_X b L xs s s.heap) (hbl : b < s.heap.size) (hbA : ¬ A b) (hW : zW G A s.heap H locs w) (j : Nat) {i : Int32} (hi : i = nI j) (hj : j < L) (hL : L < 2 ^ 31) (hdg : decode cc pc = .ok (.iaload, 1))
    (k : W p l e R s m args below meth c H locs cells slots Q (F0 m (pc + 1) ls (.int (xs j) :: rest))) : W p l e R s m args below meth c H locs cells slots Q (F0 m pc ls (.int i :: .ref b :: rest)) := by
  subst hi
  refine va_sld B.x B.b hX hbl hbA hW.2.2 (vp_in_nI hj hL) hdg ?_
  rw [nI_clamp (by omega)]
  exact k
theorem zslen (B : zM p s m args c cc nL own G A) {b L : Nat} {xs : Nat → Int32} (hX : va_X b L xs s s.heap) (hbl : b < s.heap.size) (hbA : ¬ A b) (hS : va_S A s.heap H locs) (hdg : decode cc pc = .ok (.arraylength, 1))
    (k : W p l e R s m args below meth c H locs cells slots Q (F0 m (pc + 1) ls (.int (nI L) :: rest))) : W p l e R s m args below meth c H locs cells slots Q (F0 m pc ls (.ref b :: rest)) :=
  va_slen B.x B.b hX hbl hbA hS hdg k
theorem znewJ (B : zM p s m args c cc nL own G A) (hW : zW G A s.heap H locs w) (hk : Cond.arrayClass .long ∈ zAll) (hcells : cells + 1 ≤ R.cells) (hslots : slots + 1 ≤ R.slots) (hdg : decode cc pc = .ok (.newarray .long, 2))
    (kk : ∀ (q : Nat) (H1 : Heap), zW G A s.heap H1 locs (w ++ [(q, .inl (G.2.1 4, 1, .inr (.inl (fun _ => 0))))]) → W p l e R s m args below meth c H1 locs (cells + 1) (slots + 1) Q (F0 m (pc + 2) ls (.ref q :: rest))) : W p l e R s m args below meth c H locs cells slots Q (F0 m pc ls (.int (1 : Int32) :: rest)) := by
  refine va_newa (D := G.1) (atype := .long) (ty := .long) (a0 := (1, .inr (.inl (fun _ => 0)))) (N' := 1) B.x B.b (B.ts _ hk) rfl B.K hW.1 hW.2.1 hW.2.2 B.nA (fun _ => rfl) (by decide) (by decide) (by decide) hcells hslots hdg (fun q cA H1 a0 a1 a2 a3 => ?_)
  have e : cA = G.2.1 4 := va_RA_inj (a0.2 6 _ rfl).2 (a0.2 4 _ rfl).2
  subst e
  exact kk q H1 ⟨a1, a2, a3⟩
theorem znewD (B : zM p s m args c cc nL own G A) (hW : zW G A s.heap H locs w) (hk : Cond.arrayClass .double ∈ zAll) (hcells : cells + 1 ≤ R.cells) (hslots : slots + 1 ≤ R.slots) (hdg : decode cc pc = .ok (.newarray .double, 2))
    (kk : ∀ (q : Nat) (H1 : Heap), zW G A s.heap H1 locs (w ++ [(q, .inl (G.2.1 5, 1, .inr (.inr (.inr (.inl (fun _ => 0))))))]) → W p l e R s m args below meth c H1 locs (cells + 1) (slots + 1) Q (F0 m (pc + 2) ls (.ref q :: rest))) : W p l e R s m args below meth c H locs cells slots Q (F0 m pc ls (.int (1 : Int32) :: rest)) := by
  refine va_newa (D := G.1) (atype := .double) (ty := .double) (a0 := (1, .inr (.inr (.inr (.inl (fun _ => 0)))))) (N' := 1) B.x B.b (B.ts _ hk) rfl B.K hW.1 hW.2.1 hW.2.2 B.nA (fun _ => rfl) (by decide) (by decide) (by decide) hcells hslots hdg (fun q cA H1 a0 a1 a2 a3 => ?_)
  have e : cA = G.2.1 5 := va_RA_inj (a0.2 6 _ rfl).2 (a0.2 5 _ rfl).2
  subst e
  exact kk q H1 ⟨a1, a2, a3⟩
end ZLW
section ZLD
variable {p : Program} {l : Launch} {e : Env} {R : Room} {s : State} {m : MethodId} {args : Array Value} {below : List Frame} {meth : Method} {c : Code} {H : Heap} {locs : List Loc} {cells slots : Nat} {Q : State → Prop}
variable {cc : ByteArray} {nL pc idx : Nat} {own : String} {G : zG} {A : Nat → Prop} {w : va_W} {ls : Array Slot} {rest : List Value} {a : Nat}
theorem zdast (B : zM p s m args c cc nL own G A) (hW : zW G A s.heap H locs w) (q0 : Nat) {a n : Nat} {f : Nat → UInt64} (he : w[q0]? = some (a, .inl (G.2.1 5, n, .inr (.inr (.inr (.inl f)))))) {i : Int32} {x : UInt64} (hin : vp_in i n) (hdg : decode cc pc = .ok (.dastore, 1))
    (kk : ∀ (H1 : Heap) (locs1 : List Loc), zW G A s.heap H1 locs1 (w.set q0 (a, .inl (G.2.1 5, n, .inr (.inr (.inr (.inl (vf_upd f i.toNatClampNeg x))))))) → W p l e R s m args below meth c H1 locs1 cells slots Q (F0 m (pc + 1) ls rest)) : W p l e R s m args below meth c H locs cells slots Q (F0 m pc ls (.double x :: .int i :: .ref a :: rest)) :=
  va_dast (D := G.1) (cl := vwCl) (tys := zTy G) (A := A) B.x B.b B.K hW.1 hW.2.1 hW.2.2 q0 5 he rfl hin hdg (fun H1 l1 h1 h2 h3 => kk H1 l1 ⟨h1, h2, h3⟩)
end ZLD
theorem zlts {f : Nat → Int32} {c : Int32} {n : Nat} (h : x_X7_trustShare c = (0 : Int32)) (hg : c = (0 : Int32) ∨ vf_n64 (FP.f2d (FP.fdiv (FP.i2f (r_X4_counting f n)) (FP.i2f c)))) : vf_n64 (FP.f2d (r_X7_trustShare f c n)) := by
  have hc : ¬ c = (0 : Int32) := fun e => by
    rw [x_X7_trustShare, if_pos e] at h
    exact absurd h (by decide)
  unfold r_X7_trustShare
  rw [if_neg hc]
  exact hg.resolve_left hc
