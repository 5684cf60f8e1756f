theorem kg_sel : Cond.selects "[Ljava/lang/Object;" ⟨"java/lang/Object", "getClass", "()Ljava/lang/Class;"⟩ ⟨"java/lang/Object", "getClass", "()Ljava/lang/Class;"⟩ ∈ zAll := zMem 7087 (by decide +kernel) rfl
theorem kg_im : Cond.instanceMethod ⟨"java/lang/Object", "getClass", "()Ljava/lang/Class;"⟩ ∈ zAll := zMem 5173 (by decide +kernel) rfl
theorem kg_nat : Cond.native ⟨"java/lang/Object", "getClass", "()Ljava/lang/Class;"⟩ ∈ zAll := zMem 5196 (by decide +kernel) rfl
theorem kv_J8_200 : Cond.constant RJ8 200 (2147483639 : Int32) ∈ zAll := zMem 5165 (by decide +kernel) rfl
section ZL3
variable {p : Program} {l : Launch} {e : Env} {R : Room} {s : State} {m : MethodId} {args : Array Value} {below : List Frame} {meth : Method} {c : Code} {H : Heap} {locs : List Loc} {cells slots : Nat} {Q : State → Prop}
variable {cc bytes : ByteArray} {nL pc idx : Nat} {own : String} {G : zG} {A : Nat → Prop} {w : va_W} {ls : Array Slot} {rest : List Value} {a b : Nat}
/-- System.arraycopy of references -/
theorem zcopyM (B : zM p s m args c cc nL own G A) (hW : zW G A s.heap H locs w) (hsz : ls.size = nL) (hl : Cond.methodLink own idx arraycopyName ∈ zAll) (q0 q1 : Nat) {a a0 n0 n1 : Nat} {f g : Nat → Option Nat} (h0 : w[q0]? = some (a0, .inl (G.2.1 3, n0, .inr (.inr (.inr (.inr f)))))) (h1 : w[q1]? = some (a, .inl (G.2.1 3, n1, .inr (.inr (.inr (.inr g))))))
    (k : Nat) {x : Int32} (hx : x = nI k) (hk0 : k ≤ n0) (hk1 : k ≤ n1) (hk : k < 2 ^ 31) (hel : ∀ i, i < k → ∀ y, f i = some y → va_Any "java/lang/Object" s H y) (hf : 1 ≤ R.frames) (hlo : (rest.map fun v => v.category).sum + (nativeFrameWords "java/lang/System" "arraycopy" 5 + 11) ≤ R.locals) (hdg : decode cc pc = .ok (.invokestatic idx, 3))
    (kk : ∀ (H1 : Heap) (locs1 : List Loc), zW G A s.heap H1 locs1 (w.set q1 (a, .inl (G.2.1 3, n1, .inr (.inr (.inr (.inr (va_cpy f g 0 0 k))))))) → W p l e R s m args below meth c H1 locs1 cells slots Q (F0 m (pc + 3) ls rest)) : W p l e R s m args below meth c H locs cells slots Q (F0 m pc ls (.int x :: .int 0 :: .ref a :: .int 0 :: .ref a0 :: rest)) := by
  subst hx
  have ek : (nI k).toNatClampNeg = k := nI_clamp hk
  have e0 : (0 : Int32).toNatClampNeg = 0 := rfl
  refine va_copyM (D := G.1) (cl := vwCl) (tys := zTy G) (A := A) B.x B.b (B.ml.trans hsz.symm) B.o (B.ts _ hl) (B.ts _ kc_nat) (B.ts _ kc_st) (B.ts _ kc_in) B.K hW.1 hW.2.1 hW.2.2 q0 q1 3 3 h0 h1 rfl rfl (by decide) (by decide) (nI_pos hk) (by rw [ek, e0]; omega) (by rw [ek, e0]; omega) (fun i hi y hy => by rw [ek] at hi; rw [e0, Nat.zero_add] at hy; exact hel i hi y hy) hf hlo hdg (fun H1 l1 b1 b2 b3 => ?_)
  rw [ek, e0] at b1 b2
  exact kk H1 l1 ⟨b1, b2, b3⟩
theorem zldcM (B : zM p s m args c cc nL own G A) (hl : Cond.classLink own idx "[Ljava/lang/Object;" ∈ zAll) (hdg : decode cc pc = .ok (.ldc idx, 2))
    (k : W p l e R s m args below meth c H locs cells slots Q (F0 m (pc + 2) ls (.ref (zMi G) :: rest))) : W p l e R s m args below meth c H locs cells slots Q (F0 m pc ls rest) := va_ldcM B.x B.b B.o (B.ts _ hl) B.E.2.2.2.2.2.2.2.2.2.2.1 hdg k
theorem zgetC (B : zM p s m args c cc nL own G A) (hW : zW G A s.heap H locs w) (hsz : ls.size = nL) (hl : Cond.methodLink own idx ⟨"java/lang/Object", "getClass", "()Ljava/lang/Class;"⟩ ∈ zAll) (q0 : Nat) {a n : Nat} {f : Nat → Option Nat} (he : w[q0]? = some (a, .inl (G.2.1 3, n, .inr (.inr (.inr (.inr f)))))) (hframes : 1 ≤ R.frames) (hlocals : (rest.map fun v => v.category).sum + 14 ≤ R.locals) (hdg : decode cc pc = .ok (.invokevirtual idx, 3))
    (k : W p l e R s m args below meth c H locs cells slots Q (F0 m (pc + 3) ls (.ref (zMi G) :: rest))) : W p l e R s m args below meth c H locs cells slots Q (F0 m pc ls (.ref a :: rest)) :=
  va_getC B.x B.b (B.ml.trans hsz.symm) B.o (B.ts _ hl) (va_Dc.use B.E.2.2.2.2.2.2.2.2.2.2.2) (B.ts _ kg_sel) (B.ts _ kg_im) (B.ts _ kg_nat) B.E.2.2.2.2.2.2.2.2.2.2.1 ⟨_, hW.1 q0 _ he, rfl, va_nmO (B.K.2 3 _ rfl).2 (by decide +kernel)⟩ hframes hlocals hdg k
end ZL3
set_option maxHeartbeats 4000000 in
set_option maxRecDepth 100000 in
/-- Arrays.copyOf of references: a longer row -/
theorem c_copyOf3 (l : Launch) (G : zG) (q n N M : Nat) (a : Nat → Nat) (c0 : Nat → va_E) (hc : ∀ i, i < n → zEl G (c0 i)) (hnN : n ≤ N) (hNM : N ≤ M) (hM : M ≤ 1000000) : zC l yJ7_copyOf_6403c cJ7_copyOf_6403c 4 (some (.array (.object "java/lang/Object"))) 1 1 M G [.ref q, .int (nI M), .ref (zMi G)] ([(q, .inl (G.2.1 3, N, .inr (.inr (.inr (.inr (laF n a))))))] ++ sgW n a c0) (fun r u => ∃ q2 : Nat, r = some (.ref q2) ∧ u = [(q, .inl (G.2.1 3, N, .inr (.inr (.inr (.inr (laF n a)))))), (q2, .inl (G.2.1 3, M, .inr (.inr (.inr (.inr (laF n a))))))] ++ sgW n a c0) := by
  refine zC.of RJ7 rfl (by decide) (Nat.le_of_ble_eq_true rfl) ?_
  intro p e s m args below meth c A ls B hr hlk hnm hW hl
  have hx := B.x
  have hb := B.b
  have hl : lv_has ls 4 [(0, .ref q), (1, .int (nI M)), (2, .ref (zMi G))] := hl
  refine lv_aload_n hx hb dJ7_copyOf_6403c_0 rfl (lv_at hl 2 rfl) ?_
  refine zldcM B kl_J7_110 dJ7_copyOf_6403c_1 ?_
  refine lv_acmp_ne (rx := some (zMi G)) (ry := some (zMi G)) (tgt := 13) hx hb dJ7_copyOf_6403c_3 (by decide) (fun c_3 => absurd rfl c_3) (fun c_3 => ?_)
  refine lv_iload_n hx hb dJ7_copyOf_6403c_6 rfl (lv_at hl 1 rfl) ?_
  refine znewo B hW M rfl hM kl_J7_2 (by show 0 + 1 ≤ 1; omega) (by show 0 + M ≤ M; omega) dJ7_copyOf_6403c_7 (fun q2 H hW => ?_)
  have hW : zW G A s.heap H [] ([(q, .inl (G.2.1 3, N, .inr (.inr (.inr (.inr (laF n a))))))] ++ (sgW n a c0 ++ [(q2, .inl (G.2.1 3, M, .inr (.inr (.inr (.inr (fun _ => none))))))])) := hW.eq (by simp only [List.append_assoc, List.nil_append])
  have hW : zW G A s.heap H [] ([(q, .inl (G.2.1 3, N, .inr (.inr (.inr (.inr (laF n a))))))] ++ ([(q2, .inl (G.2.1 3, M, .inr (.inr (.inr (.inr (fun _ => none))))))] ++ sgW n a c0)) := hW.blk [[(q, .inl (G.2.1 3, N, .inr (.inr (.inr (.inr (laF n a))))))], sgW n a c0, [(q2, .inl (G.2.1 3, M, .inr (.inr (.inr (.inr (fun _ => none))))))]] [[(q, .inl (G.2.1 3, N, .inr (.inr (.inr (.inr (laF n a))))))], [(q2, .inl (G.2.1 3, M, .inr (.inr (.inr (.inr (fun _ => none))))))], sgW n a c0] [0, 2, 1] rfl rfl
  refine lv_goto (tgt := 24) hx hb dJ7_copyOf_6403c_10 (by decide) ?_
  refine lv_astore_n hx hb dJ7_copyOf_6403c_24 rfl hl (by decide) rfl (fun ls hl => ?_)
  refine lv_aload_n hx hb dJ7_copyOf_6403c_25 rfl (lv_at hl 1 rfl) ?_
  refine lv_iconst (v := (0 : Int32)) hx hb dJ7_copyOf_6403c_26 (by decide) ?_
  refine lv_aload_n hx hb dJ7_copyOf_6403c_27 rfl (lv_at hl 0 rfl) ?_
  refine lv_iconst (v := (0 : Int32)) hx hb dJ7_copyOf_6403c_28 (by decide) ?_
  refine lv_aload_n hx hb dJ7_copyOf_6403c_29 rfl (lv_at hl 1 rfl) ?_
  refine zmlen B hW 0 rfl dJ7_copyOf_6403c_30 ?_
  refine lv_iload_n hx hb dJ7_copyOf_6403c_31 rfl (lv_at hl 2 rfl) ?_
  refine va_mmin hx hb (B.ml.trans hl.1.symm) B.o (B.ts _ ml_J7_304) (B.ts _ km_min_s) (B.ts _ km_i) (B.ts _ km_min_c) (Nat.le_of_ble_eq_true rfl) (Nat.le_of_ble_eq_true rfl) (by show 0 + 1 ≤ 1; omega) (by show 0 + M ≤ M; omega) dJ7_copyOf_6403c_32 ?_
  refine zcopyM B hW hl.1 ml_J7_150 0 1 rfl rfl N (if_neg (fun z => absurd ((nI_ltI (by omega) (by omega)).mp z) (by omega))) (Nat.le_refl _) hNM (by omega) (fun i hi y hy => ?_) (Nat.le_of_ble_eq_true rfl) (Nat.le_of_ble_eq_true rfl) dJ7_copyOf_6403c_35 (fun H locs hW => ?_)
  · have hin : i < n := by
      unfold laF at hy
      by_cases h : i < n
      · exact h
      · rw [if_neg h] at hy; cases hy
    rw [laF_i hin] at hy
    cases hy
    exact zEl.any B hW.1 (k := 2 + i) (sg_he [(q, .inl (G.2.1 3, N, .inr (.inr (.inr (.inr (laF n a)))))), (q2, .inl (G.2.1 3, M, .inr (.inr (.inr (.inr (fun _ => none))))))] rfl (sg_at hin)) (hc i hin)
  have e9 : va_cpy (laF n a) (fun _ => none) 0 0 N = laF n a := by
    funext j
    unfold va_cpy laF
    by_cases h : j < n
    · rw [if_pos ⟨Nat.zero_le _, by omega⟩, if_pos (by omega), if_pos h]
      congr 2
      omega
    · rw [if_neg h]
      split
      · rw [if_neg (by omega)]
      · rfl
  have hW : zW G A s.heap H locs ([(q, .inl (G.2.1 3, N, .inr (.inr (.inr (.inr (laF n a)))))), (q2, .inl (G.2.1 3, M, .inr (.inr (.inr (.inr (laF n a))))))] ++ sgW n a c0) := by
    rw [e9] at hW
    exact hW.eq rfl
  refine lv_aload_n hx hb dJ7_copyOf_6403c_38 rfl (lv_at hl 0 rfl) ?_
  exact zaret B hr hlk (Or.inr ⟨_, rfl⟩) (Or.inr ⟨_, rfl⟩) hW ⟨q2, rfl, rfl⟩ (by show 0 + 1 ≤ 1; omega) (by show 0 + M ≤ M; omega) dJ7_copyOf_6403c_39
set_option maxHeartbeats 4000000 in
set_option maxRecDepth 100000 in
theorem c_copyOf2 (l : Launch) (G : zG) (q n N M : Nat) (a : Nat → Nat) (c0 : Nat → va_E) (hc : ∀ i, i < n → zEl G (c0 i)) (hnN : n ≤ N) (hNM : N ≤ M) (hM : M ≤ 1000000) : zC l yJ7_copyOf_1904c cJ7_copyOf_1904c 2 (some (.array (.object "java/lang/Object"))) 2 1 M G [.ref q, .int (nI M)] ([(q, .inl (G.2.1 3, N, .inr (.inr (.inr (.inr (laF n a))))))] ++ sgW n a c0) (fun r u => ∃ q2 : Nat, r = some (.ref q2) ∧ u = [(q, .inl (G.2.1 3, N, .inr (.inr (.inr (.inr (laF n a)))))), (q2, .inl (G.2.1 3, M, .inr (.inr (.inr (.inr (laF n a))))))] ++ sgW n a c0) := by
  refine zC.of RJ7 rfl (by decide) (Nat.le_of_ble_eq_true rfl) ?_
  intro p e s m args below meth c A ls B hr hlk hnm hW hl
  have hx := B.x
  have hb := B.b
  have hl : lv_has ls 2 [(0, .ref q), (1, .int (nI M))] := hl
  refine lv_aload_n hx hb dJ7_copyOf_1904c_0 rfl (lv_at hl 0 rfl) ?_
  refine lv_iload_n hx hb dJ7_copyOf_1904c_1 rfl (lv_at hl 1 rfl) ?_
  refine lv_aload_n hx hb dJ7_copyOf_1904c_2 rfl (lv_at hl 0 rfl) ?_
  refine zgetC B hW hl.1 ml_J7_86 0 rfl (Nat.le_of_ble_eq_true rfl) (Nat.le_of_ble_eq_true rfl) dJ7_copyOf_1904c_3 ?_
  refine zcS (w1 := []) (wc := [(q, .inl (G.2.1 3, N, .inr (.inr (.inr (.inr (laF n a))))))] ++ sgW n a c0) (w2 := []) (As := [.ref q, .int (nI M), .ref (zMi G)]) B (hW.eq (by simp only [List.append_nil, List.nil_append])) (c_copyOf3 l G q n N M a c0 hc hnN hNM hM) yd_J7_copyOf_6403c ml_J7_300 rfl hl.1 rfl (Nat.le_of_ble_eq_true rfl) ⟨Nat.le_of_ble_eq_true rfl, Nat.le_of_ble_eq_true rfl⟩ ⟨by show 0 + 1 ≤ 1; omega, by show 0 + M ≤ M; omega⟩ dJ7_copyOf_1904c_6 (fun v u H locs hp hW => ?_)
  obtain ⟨q2, rfl, rfl⟩ := hp
  exact zaret B hr hlk (Or.inr ⟨_, rfl⟩) (Or.inr ⟨_, rfl⟩) (hW.eq (by simp only [List.append_nil, List.nil_append])) ⟨q2, rfl, rfl⟩ (by show 0 + 1 ≤ 1; omega) (by show 0 + M ≤ M; omega) dJ7_copyOf_1904c_9
set_option maxHeartbeats 4000000 in
set_option maxRecDepth 100000 in
theorem c_newLength (l : Launch) (G : zG) (N g t : Nat) (hg : 1 ≤ g ∧ g ≤ 1000000) (ht : t ≤ 1000000) (hN : N ≤ 1000000) : zC l yJ8_newLength_cabcc cJ8_newLength_cabcc 4 (some .int) 1 0 0 G [.int (nI N), .int (nI g), .int (nI t)] [] (fun r u => r = some (.int (nI (N + (if g < t then t else g)))) ∧ u = []) := by
  refine zC.of RJ8 rfl (by decide) (Nat.le_of_ble_eq_true rfl) ?_
  intro p e s m args below meth c A ls B hr hlk hnm hW hl
  have hx := B.x
  have hb := B.b
  have hl : lv_has ls 4 [(0, .int (nI N)), (1, .int (nI g)), (2, .int (nI t))] := hl
  refine lv_iload_n hx hb dJ8_newLength_cabcc_0 rfl (lv_at hl 0 rfl) ?_
  refine lv_iload_n hx hb dJ8_newLength_cabcc_1 rfl (lv_at hl 1 rfl) ?_
  refine lv_iload_n hx hb dJ8_newLength_cabcc_2 rfl (lv_at hl 2 rfl) ?_
  refine va_mmax hx hb (B.ml.trans hl.1.symm) B.o (B.ts _ ml_J8_194) (B.ts _ km_max_s) (B.ts _ km_i) (B.ts _ km_max_c) (Nat.le_of_ble_eq_true rfl) (Nat.le_of_ble_eq_true rfl) (Nat.le_refl _) (Nat.le_refl _) dJ8_newLength_cabcc_3 ?_
  refine lv_iadd hx hb dJ8_newLength_cabcc_6 ?_
  have e6 : nI N + (if nI g < nI t then nI t else nI g) = nI (N + (if g < t then t else g)) := by
    by_cases h : g < t
    · rw [if_pos h, if_pos (nI_lt h (by omega)), nI_add]
    · rw [if_neg h, if_neg (fun z => h ((nI_ltI (by omega) (by omega)).mp z)), nI_add]
  have h7 : 1 ≤ (if g < t then t else g) ∧ (if g < t then t else g) ≤ 1000000 := by split <;> omega
  generalize hv : N + (if g < t then t else g) = v at e6 ⊢
  rw [e6]
  refine lv_istore_n hx hb dJ8_newLength_cabcc_7 rfl hl (by decide) rfl (fun ls hl => ?_)
  refine lv_iconst (v := (0 : Int32)) hx hb dJ8_newLength_cabcc_8 (by decide) ?_
  refine lv_iload_n hx hb dJ8_newLength_cabcc_9 rfl (lv_at hl 0 rfl) ?_
  refine lv_icmp_ge (tgt := 21) hx hb dJ8_newLength_cabcc_10 (by decide) (fun z => absurd z (nI_ge (show 0 < v by omega) (by omega))) (fun _ => ?_)
  refine lv_iload_n hx hb dJ8_newLength_cabcc_13 rfl (lv_at hl 0 rfl) ?_
  refine lv_ldc hx hb B.o (B.ts _ kv_J8_200) dJ8_newLength_cabcc_14 ?_
  refine lv_icmp_gt (tgt := 21) hx hb dJ8_newLength_cabcc_16 (by decide) (fun z => absurd (show nI 2147483639 < nI v from z) (fun z => absurd ((nI_ltI (by decide) (by omega)).mp z) (by omega))) (fun _ => ?_)
  refine lv_iload_n hx hb dJ8_newLength_cabcc_19 rfl (lv_at hl 0 rfl) ?_
  exact ziret B hr hlk hW ⟨rfl, rfl⟩ (Nat.le_refl _) (Nat.le_refl _) dJ8_newLength_cabcc_20
set_option maxHeartbeats 4000000 in
set_option maxRecDepth 100000 in
/-- a full row grows by half -/
theorem c_grow1 (l : Launch) (G : zG) (h q n : Nat) (a : Nat → Nat) (c0 : Nat → va_E) (mc z : Int32) (hc : ∀ i, i < n → zEl G (c0 i)) (h2 : 2 ≤ n) (hn : n ≤ 500000) : zC l yJx4a65c_grow_92f84 cJx4a65c_grow_92f84 4 (some (.array (.object "java/lang/Object"))) 3 1 (n + n / 2) G [.ref h, .int (nI (n + 1))] ([(h, .inr (3, [.int mc, .ref q, .int z])), (q, .inl (G.2.1 3, n, .inr (.inr (.inr (.inr (laF n a))))))] ++ sgW n a c0) (fun r u => ∃ q2 : Nat, r = some (.ref q2) ∧ u = [(h, .inr (3, [.int mc, .ref q2, .int z])), (q2, .inl (G.2.1 3, (n + n / 2), .inr (.inr (.inr (.inr (laF n a))))))] ++ sgW n a c0) := by
  refine zC.of RJx4a65c rfl (by decide) (Nat.le_of_ble_eq_true rfl) ?_
  intro p e s m args below meth c A ls B hr hlk hnm hW hl
  have hx := B.x
  have hb := B.b
  have hl : lv_has ls 4 [(0, .ref h), (1, .int (nI (n + 1)))] := hl
  refine lv_aload_n hx hb dJx4a65c_grow_92f84_0 rfl (lv_at hl 0 rfl) ?_
  refine zget B hW 0 rfl lf_Jx4a65c_9 rfl dJx4a65c_grow_92f84_1 ?_
  refine zmlen B hW 1 rfl dJx4a65c_grow_92f84_4 ?_
  refine lv_istore_n hx hb dJx4a65c_grow_92f84_5 rfl hl (by decide) rfl (fun ls hl => ?_)
  refine lv_iload_n hx hb dJx4a65c_grow_92f84_6 rfl (lv_at hl 0 rfl) ?_
  refine lv_if_gt (tgt := 20) hx hb dJx4a65c_grow_92f84_7 (by decide) (fun c_7 => ?_) (fun c_7 => absurd (show (0 : Int32) < nI n from nI_lt (a := 0) (by omega) (by omega)) c_7)
  refine lv_iload_n hx hb dJx4a65c_grow_92f84_20 rfl (lv_at hl 0 rfl) ?_
  refine lv_iload_n hx hb dJx4a65c_grow_92f84_21 rfl (lv_at hl 2 rfl) ?_
  refine lv_iload_n hx hb dJx4a65c_grow_92f84_22 rfl (lv_at hl 0 rfl) ?_
  refine lv_isub hx hb dJx4a65c_grow_92f84_23 ?_
  refine lv_iload_n hx hb dJx4a65c_grow_92f84_24 rfl (lv_at hl 0 rfl) ?_
  refine lv_iconst (v := (1 : Int32)) hx hb dJx4a65c_grow_92f84_25 (by decide) ?_
  refine lv_ishr hx hb dJx4a65c_grow_92f84_26 ?_
  have es : nI n >>> ((1 : Int32) &&& 31) = nI (n / 2) := by
    have k := pk_shrN (n := n) (by omega) ((1 : Int32) &&& 31) 1 (by decide)
    rw [Nat.pow_one] at k
    exact k
  have e1 : nI (n + 1) - nI n = nI 1 := by
    have k := pk_sub (a := n + 1) (b := n) (by omega)
    rw [Nat.add_sub_cancel_left] at k
    exact k
  rw [es, e1]
  refine zcS (w1 := []) (wc := []) (w2 := [(h, .inr (3, [.int mc, .ref q, .int z])), (q, .inl (G.2.1 3, n, .inr (.inr (.inr (.inr (laF n a))))))] ++ sgW n a c0) (As := [.int (nI n), .int (nI 1), .int (nI (n / 2))]) B (hW.eq rfl) (c_newLength l G n 1 (n / 2) (by omega) (by omega) (by omega)) yd_J8_newLength_cabcc ml_Jx4a65c_73 rfl hl.1 rfl (Nat.le_of_ble_eq_true rfl) ⟨Nat.le_of_ble_eq_true rfl, Nat.le_of_ble_eq_true rfl⟩ ⟨by show 0 + 0 ≤ 1; omega, by show 0 + 0 ≤ n + n / 2; omega⟩ dJx4a65c_grow_92f84_27 (fun v u H locs hp hW => ?_)
  obtain ⟨rfl, rfl⟩ := hp
  have ev : n + (if 1 < n / 2 then n / 2 else 1) = n + n / 2 := by
    by_cases h9 : 1 < n / 2
    · rw [if_pos h9]
    · rw [if_neg h9]; omega
  rw [ev]
  have hW := hW.eq (w' := [(h, .inr (3, [.int mc, .ref q, .int z])), (q, .inl (G.2.1 3, n, .inr (.inr (.inr (.inr (laF n a))))))] ++ sgW n a c0) rfl
  refine lv_istore_n hx hb dJx4a65c_grow_92f84_30 rfl hl (by decide) rfl (fun ls hl => ?_)
  refine lv_aload_n hx hb dJx4a65c_grow_92f84_31 rfl (lv_at hl 2 rfl) ?_
  refine lv_aload_n hx hb dJx4a65c_grow_92f84_32 rfl (lv_at hl 2 rfl) ?_
  refine zget B hW 0 rfl lf_Jx4a65c_9 rfl dJx4a65c_grow_92f84_33 ?_
  refine lv_iload_n hx hb dJx4a65c_grow_92f84_36 rfl (lv_at hl 0 rfl) ?_
  refine zcS (w1 := [(h, .inr (3, [.int mc, .ref q, .int z]))]) (wc := [(q, .inl (G.2.1 3, n, .inr (.inr (.inr (.inr (laF n a))))))] ++ sgW n a c0) (w2 := []) (As := [.ref q, .int (nI (n + n / 2))]) B (hW.eq (by simp only [List.append_nil, List.cons_append, List.nil_append])) (c_copyOf2 l G q n n (n + n / 2) a c0 hc (Nat.le_refl _) (by omega) (by omega)) yd_J7_copyOf_1904c ml_Jx4a65c_66 rfl hl.1 rfl (Nat.le_of_ble_eq_true rfl) ⟨Nat.le_of_ble_eq_true rfl, Nat.le_of_ble_eq_true rfl⟩ ⟨by show 0 + 0 + 1 ≤ 1; omega, by show 0 + 0 + (n + n / 2) ≤ n + n / 2; omega⟩ dJx4a65c_grow_92f84_37 (fun v u H locs hp hW => ?_)
  obtain ⟨q2, rfl, rfl⟩ := hp
  have hW := hW.eq (w' := [(h, .inr (3, [.int mc, .ref q, .int z])), (q, .inl (G.2.1 3, n, .inr (.inr (.inr (.inr (laF n a)))))), (q2, .inl (G.2.1 3, (n + n / 2), .inr (.inr (.inr (.inr (laF n a))))))] ++ sgW n a c0) (by simp only [List.append_nil, List.cons_append, List.nil_append])
  refine lv_dup_x1 hx hb dJx4a65c_grow_92f84_40 rfl rfl ?_
  refine zput B hW 0 rfl lf_Jx4a65c_9 ft_Jx4a65c_1 rfl rfl (Nat.le_of_ble_eq_true rfl) dJx4a65c_grow_92f84_41 (fun H locs hW => ?_)
  have hW := hW.blk [[(h, .inr (3, [.int mc, .ref q2, .int z]))], [(q, .inl (G.2.1 3, n, .inr (.inr (.inr (.inr (laF n a))))))], [(q2, .inl (G.2.1 3, (n + n / 2), .inr (.inr (.inr (.inr (laF n a))))))], sgW n a c0] [[(h, .inr (3, [.int mc, .ref q2, .int z]))], [(q2, .inl (G.2.1 3, (n + n / 2), .inr (.inr (.inr (.inr (laF n a))))))], sgW n a c0] [0, 2, 3] rfl rfl
  exact zaret B hr hlk (Or.inr ⟨_, rfl⟩) (Or.inr ⟨_, rfl⟩) (hW.eq rfl) ⟨q2, rfl, rfl⟩ (by show 0 + 0 + 1 ≤ 1; omega) (by show 0 + 0 + (n + n / 2) ≤ n + n / 2; omega) dJx4a65c_grow_92f84_44
