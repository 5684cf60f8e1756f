/-! rows for entries of lists -/
def zLr : Nat → Int32
  | 0 => -1
  | i + 1 => nI i
def zLk (n N : Nat) : Prop := n ≤ N ∧ (N = 0 ∨ 2 ≤ N) ∧ N ≤ 300000
theorem zLk_b {n N : Nat} (h : zLk n N) : N < 2 ^ 31 := by have := h.2.2; omega
theorem zLk_s {n N : Nat} (h : zLk n N) (hn : n < 200000) : zLk (n + 1) (zNc n N) := by
  obtain ⟨h1, h2, h3⟩ := h
  unfold zNc zLk
  by_cases c : n < N
  · rw [if_pos c]; exact ⟨by omega, h2, h3⟩
  · rw [if_neg c]
    by_cases c2 : N = 0
    · rw [if_pos c2]; exact ⟨by omega, by omega, by omega⟩
    · rw [if_neg c2]; exact ⟨by omega, by omega, by omega⟩
theorem zhn0 (a : Int32) : r_Jx35411_hasNext_aae02 a a = 0 := if_pos rfl
theorem zhn1 {i n : Nat} (hi : i < n) (hn : n < 2 ^ 31) : ¬ r_Jx35411_hasNext_aae02 (nI i) (nI n) = 0 := by
  unfold r_Jx35411_hasNext_aae02
  rw [if_neg (fun z => absurd ((nI_eq (by omega) hn).mp z) (by omega))]
  decide
def zW3 (x y z : Int32) : Nat → Int32 := upd (upd (upd (fun _ => 0) 0 x) 1 y) 2 z
section ZSR
variable {p : Program} {l : Launch} {e : Env} {R : Room} {s : State} {m : MethodId} {args : Array Value} {below : List Frame} {meth : Method} {c : Code} {H : Heap} {locs : List Loc} {cells slots : Nat} {Q : State → Prop}
variable {cc bytes : ByteArray} {nL pc idx : Nat} {own : String} {G : zG} {A : Nat → Prop} {w : va_W} {ls : Array Slot} {rest : List Value} {a : Nat}
theorem zcast (B : zM p s m args c cc nL own G A) (hW : zW G A s.heap H locs w) (q0 : Nat) {ci : Nat} {fs : List Value} {r : vw_C} (he : w[q0]? = some (a, .inr (ci, fs))) (hc : vwCl[ci]? = some r) (hl : Cond.classLink own idx r.1 ∈ zAll) (hdg : decode cc pc = .ok (.checkcast idx, 3))
    (k : W p l e R s m args below meth c H locs cells slots Q (F0 m (pc + 3) ls (.ref a :: rest))) : W p l e R s m args below meth c H locs cells slots Q (F0 m pc ls (.ref a :: rest)) :=
  va_castS B.x B.b B.o (B.ts _ hl) (B.K.1 ci r hc).2 (va_recv B.K hW.1 hc he) hdg k
theorem zcastI (B : zM p s m args c cc nL own G A) (hW : zW G A s.heap H locs w) (q0 : Nat) {x : vp_A} (he : w[q0]? = some (a, .inl (G.2.1 0, x))) (hl : Cond.classLink own idx "[I" ∈ zAll) (hdg : decode cc pc = .ok (.checkcast idx, 3))
    (k : W p l e R s m args below meth c H locs cells slots Q (F0 m (pc + 3) ls (.ref a :: rest))) : W p l e R s m args below meth c H locs cells slots Q (F0 m pc ls (.ref a :: rest)) :=
  va_castA B.x B.b B.o (B.ts _ hl) hW.1 q0 he (B.K.2 0 _ rfl).2 hdg k
theorem zacmp_eq {x y : Nat} {P : Prop} (hP : x = y ↔ P) (hexec : p.tables.exec = Jvm.exec) (hb : c.code = cc) {off : Int} {tgt : Nat} (hdg : decode cc pc = .ok (.if_acmp .eq off, 3)) (ht : (pc : Int) + off = (tgt : Int))
    (kt : P → W p l e R s m args below meth c H locs cells slots Q (F0 m tgt ls rest)) (kf : ¬ P → W p l e R s m args below meth c H locs cells slots Q (F0 m (pc + 3) ls rest)) : W p l e R s m args below meth c H locs cells slots Q (F0 m pc ls (.ref y :: .ref x :: rest)) :=
  lv_acmp_eq (rx := some x) (ry := some y) hexec hb hdg ht (fun h => kt (hP.mp (Option.some.inj h))) (fun h => kf (fun z => h (congrArg some (hP.mpr z))))
end ZSR
theorem ko_I : Cond.castable "[I" "java/lang/Object" ∈ zNest := zMemN 7089 (by decide +kernel) rfl
