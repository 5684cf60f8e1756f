/-! the JDK's own: Arrays.fill, System.arraycopy, Math -/
theorem vp_cell_cong {cA : ClassId} {n : Nat} {f g : Nat → Int32} (h : ∀ k, k < n → f k = g k) : vp_cell cA (n, .inl f) = vp_cell cA (n, .inl g) := by
  show arrV cA n (fun j => .int (f j)) = arrV cA n (fun j => .int (g j))
  unfold arrV
  congr 1
  apply Array.ext
  · simp
  · intro i h1 h2
    simp at h1
    simp [h i h1]
/-- an array's contents are what they are below its length -/
theorem zW.cong {G : zG} {A : Nat → Prop} {H0 H : Heap} {locs : List Loc} {w : va_W} (h : zW G A H0 H locs w) (p : Nat) {a n : Nat} {cA : ClassId} {f g : Nat → Int32} (he : w[p]? = some (a, .inl (cA, n, .inl f))) (hfg : ∀ k, k < n → f k = g k) : zW G A H0 H locs (w.set p (a, .inl (cA, n, .inl g))) := by
  refine ⟨h.1.set h.2.1 he ?_ (fun _ _ => rfl), h.2.1.set he, h.2.2⟩
  have h1 := h.1 p _ he
  show H[a]? = some (vp_cell cA (n, .inl g))
  rw [← vp_cell_cong hfg]
  exact h1
set_option maxHeartbeats 4000000 in
set_option maxRecDepth 100000 in
theorem c_J7_fill (l : Launch) (G : zG) (q n : Nat) (f : Nat → Int32) (v : Int32) (hn : n < 2 ^ 31) : zC l yJ7_fill_53178 cJ7_fill_53178 4 none 0 0 0 G [.ref q, .int v] [(q, .inl (G.2.1 0, n, .inl f))] (fun r u => r = none ∧ u = [(q, .inl (G.2.1 0, n, .inl (fun _ => v)))]) := by
  refine zC.of RJ7 rfl (by decide) (Nat.le_of_ble_eq_true rfl) ?_
  intro p e s m args below meth c A ls B hr hlk hnm hW hl
  have hx := B.x
  have hb := B.b
  have hl : lv_has ls 4 [(0, .ref q), (1, .int v)] := hl
  refine lv_iconst (v := (0 : Int32)) hx hb dJ7_fill_53178_0 (by decide) ?_
  refine lv_istore_n hx hb dJ7_fill_53178_1 rfl hl (by decide) rfl (fun ls hl => ?_)
  refine lv_aload_n hx hb dJ7_fill_53178_2 rfl (lv_at hl 1 rfl) ?_
  refine zalen B hW 0 0 rfl rfl dJ7_fill_53178_3 ?_
  refine lv_istore_n hx hb dJ7_fill_53178_4 rfl hl (by decide) rfl (fun ls hl => ?_)
  have L : ∀ i : Nat, i ≤ n → ∀ (H : Heap) (locs : List Loc) (ls : Array Slot) (g : Nat → Int32), (∀ k, k < i → g k = v) → zW G A s.heap H locs [(q, .inl (G.2.1 0, n, .inl g))] → lv_has ls 4 [(0, .ref q), (1, .int v), (2, .int (nI i)), (3, .int (nI n))] → W p l e (zRm 0 0 0) s m args below meth c H locs 0 0 (MQ below (zQ G A (fun r u => r = none ∧ u = [(q, .inl (G.2.1 0, n, .inl (fun _ => v)))])) args s 0 0 A) (F0 m 5 ls []) := by
    refine zloop n ?_ ?_
    · intro H locs ls g hg hW hl
      refine lv_iload_n hx hb dJ7_fill_53178_5 rfl (lv_at hl 2 rfl) ?_
      refine lv_iload_n hx hb dJ7_fill_53178_6 rfl (lv_at hl 3 rfl) ?_
      refine lv_icmp_ge (tgt := 20) hx hb dJ7_fill_53178_7 (by decide) (fun c_7 => ?_) (fun c_7 => absurd (zge rfl) c_7)
      exact zvret B hr hlk (hW.cong 0 rfl hg) ⟨rfl, rfl⟩ (Nat.le_refl _) (Nat.le_refl _) dJ7_fill_53178_20
    · intro i hi ih H locs ls g hg hW hl
      refine lv_iload_n hx hb dJ7_fill_53178_5 rfl (lv_at hl 2 rfl) ?_
      refine lv_iload_n hx hb dJ7_fill_53178_6 rfl (lv_at hl 3 rfl) ?_
      refine lv_icmp_ge (tgt := 20) hx hb dJ7_fill_53178_7 (by decide) (fun c_7 => absurd c_7 (znle rfl hi hn)) (fun c_7 => ?_)
      refine lv_aload_n hx hb dJ7_fill_53178_10 rfl (lv_at hl 0 rfl) ?_
      refine lv_iload_n hx hb dJ7_fill_53178_11 rfl (lv_at hl 2 rfl) ?_
      refine lv_iload_n hx hb dJ7_fill_53178_12 rfl (lv_at hl 1 rfl) ?_
      refine ziastN B hW 0 rfl i rfl hi hn dJ7_fill_53178_13 (fun H locs hW => ?_)
      refine lv_iinc (v := nI (i + 1)) hx hb dJ7_fill_53178_14 hl (k := 2) rfl (nI_1 _) (by decide) rfl (fun ls hl => ?_)
      refine lv_goto (tgt := 5) hx hb dJ7_fill_53178_17 (by decide) ?_
      refine ih _ _ _ _ (fun k hk => ?_) hW (lv_sub hl [1, 2, 0, 3] rfl)
      by_cases h : k = i
      · rw [h]; exact pk_us
      · rw [pk_un h]; exact hg k (by omega)
  exact L 0 (Nat.zero_le _) _ _ _ f (fun k hk => absurd hk (Nat.not_lt_zero k)) hW (lv_sub hl [2, 3, 1, 0] rfl)
section ZJ
variable {p : Program} {l : Launch} {e : Env} {R : Room} {s : State} {m : MethodId} {args : Array Value} {below : List Frame} {meth : Method} {c : Code} {H : Heap} {locs : List Loc} {cells slots : Nat} {Q : State → Prop}
variable {cc : ByteArray} {nL pc idx : Nat} {own : String} {G : zG} {A : Nat → Prop} {w : va_W} {ls : Array Slot} {rest : List Value} {a : Nat}
theorem zcut {w : va_W} {p : Nat} {x : Nat × va_E} (h : w[p]? = some x) : w = w.take p ++ ([x] ++ w.drop (p + 1)) := by
  obtain ⟨hl, hx⟩ := List.getElem?_eq_some_iff.mp h
  conv => lhs; rw [← List.take_append_drop p w, List.drop_eq_getElem_cons hl, hx]
  rfl
theorem zset {w : va_W} {p : Nat} {x u : Nat × va_E} (h : w[p]? = some x) : w.take p ++ ([u] ++ w.drop (p + 1)) = w.set p u := by
  obtain ⟨hl, hx⟩ := List.getElem?_eq_some_iff.mp h
  rw [List.set_eq_take_append_cons_drop, if_pos hl]
  rfl
theorem zfill (B : zM p s m args c cc nL own G A) (hW : zW G A s.heap H locs w) (hsz : ls.size = nL) (hl : Cond.methodLink own idx yJ7_fill_53178 ∈ zAll) (q0 : Nat) {n : Nat} {f : Nat → Int32} {v : Int32} (he : w[q0]? = some (a, .inl (G.2.1 0, n, .inl f))) (hn : n < 2 ^ 31) (hR : 1 ≤ R.frames) (hR2 : 23 ≤ R.locals) (hrm : (rest.map fun v => v.category).sum ≤ 8) (hf : cells ≤ R.cells ∧ slots ≤ R.slots) (hdg : decode cc pc = .ok (.invokestatic idx, 3))
    (kk : ∀ (H1 : Heap) (locs1 : List Loc), zW G A s.heap H1 locs1 (w.set q0 (a, .inl (G.2.1 0, n, .inl (fun _ => v)))) → W p l e R s m args below meth c H1 locs1 cells slots Q (F0 m (pc + 3) ls rest)) : W p l e R s m args below meth c H locs cells slots Q (F0 m pc ls (.int v :: .ref a :: rest)) := by
  refine zcS (w1 := w.take q0) (wc := [(a, .inl (G.2.1 0, n, .inl f))]) (w2 := w.drop (q0 + 1)) (As := [.ref a, .int v]) B (hW.eq (zcut he)) (c_J7_fill l G a n f v hn) yd_J7_fill_53178 hl rfl hsz rfl hrm ⟨by omega, by omega⟩ ⟨by omega, by omega⟩ hdg (fun v u H locs hp hW => ?_)
  obtain ⟨rfl, rfl⟩ := hp
  exact kk H locs (hW.eq (zset he))
theorem zcopy (B : zM p s m args c cc nL own G A) (hW : zW G A s.heap H locs w) (hsz : ls.size = nL) (hl : Cond.methodLink own idx arraycopyName ∈ zAll) (q0 q1 : Nat) {a0 n0 n1 : Nat} {f g : Nat → Int32} (ha0 : w[q0]? = some (a0, .inl (G.2.1 0, n0, .inl f))) (ha1 : w[q1]? = some (a, .inl (G.2.1 0, n1, .inl g))) (sp dp n : Nat) (hb : sp + n < 2 ^ 31 ∧ dp + n < 2 ^ 31) {spI dpI nN : Int32} (e1 : spI = nI sp) (e2 : dpI = nI dp) (e3 : nN = nI n) (h4 : sp + n ≤ n0) (h5 : dp + n ≤ n1)
    (hframes : 1 ≤ R.frames) (hlocals : (rest.map fun v => v.category).sum + (nativeFrameWords "java/lang/System" "arraycopy" 5 + 11) ≤ R.locals) (hdg : decode cc pc = .ok (.invokestatic idx, 3))
    (kk : ∀ (H1 : Heap) (locs1 : List Loc), zW G A s.heap H1 locs1 (w.set q1 (a, .inl (G.2.1 0, n1, .inl (va_cpy f g sp dp n)))) → W p l e R s m args below meth c H1 locs1 cells slots Q (F0 m (pc + 3) ls rest)) : W p l e R s m args below meth c H locs cells slots Q (F0 m pc ls (.int nN :: .int dpI :: .ref a :: .int spI :: .ref a0 :: rest)) := by
  subst e1; subst e2; subst e3
  have c1 := nI_clamp (show sp < 2 ^ 31 by omega)
  have c2 := nI_clamp (show dp < 2 ^ 31 by omega)
  have c3 := nI_clamp (show n < 2 ^ 31 by omega)
  refine va_copyi (D := G.1) B.x B.b (B.ml.trans hsz.symm) B.o (B.ts _ hl) (B.ts _ kc_nat) (B.ts _ kc_st) (B.ts _ kc_in) B.K hW.1 hW.2.1 hW.2.2 q0 q1 0 0 ha0 ha1 rfl rfl rfl (nI_pos (by omega)) (nI_pos (by omega)) (nI_pos (by omega)) (by rw [c1, c3]; exact h4) (by rw [c2, c3]; exact h5) (fun _ _ => rfl) hframes hlocals hdg (fun H1 locs1 a1 a2 a3 => kk H1 locs1 ?_)
  rw [c1, c2, c3] at a1 a2
  exact ⟨a1, a2, a3⟩
end ZJ
