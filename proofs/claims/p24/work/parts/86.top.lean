/-! THE CLAIM OUT OF ONE WALK OF THE LAW'S BODY. Your part is whole_start (and what it stands on); all else here is the same for every law, but numbers. -/
def R_law : String := "SmokeWardLaw"
def lw_P (b : Addr) (xs : List Int32) (args : Array Value) (s : State) : Prop := args = #[.ref b] ∧ s.IntsAt b xs ∧ xs.length ≤ 3072 ∧ (Jvm.Cond.and given_1 narrow_1).before args s = true
/-- what a walk over the start with the record d0 says of its end, said of the start itself -/
theorem lw_closed {s t : State} {o : Outcome} {d0 : Drawn} {L : List Loc} {k n : Nat} (hd0 : s.drawn.sameBut d0 lw_cs) (hv : ∃ v, o = .returned v) (hW : (s.setDrawn d0).WarmedH t.vm) (hs : (s.setDrawn d0).sameButNew ({ t with vm := s.vm } : State) L k n) : State.butDraws s t lw_cs (fun t1 => Framed s o t1 L k n) := by
  have h2 : t.drawn = d0 := congrArg State.drawn hs.1
  refine ⟨⟨hv, hW, State.sameButNew.setDrawn hs s.drawn⟩, ?_, by decide⟩
  rw [h2]
  exact hd0
def lw_Q (_ : Array Value) (s : State) (o : Outcome) (t : State) : Prop := o = .returned (some (.int 1)) ∧ State.butDraws s t lw_cs (fun t1 => Framed s o t1 [] 708394 6870569)
def lw_Z (below : List Frame) (a : Array Value) (s : State) : State → Prop := fun t => ∃ o, t.status = .running ∧ Ended t below o ∧ lw_Q a s o t
/-- the law's own end, with 1 on the stack, nothing written that was there before, its room as the claim has it; d0: the record of draws at this point (at the entry s.drawn: begin with 'refine W.base ?_' and 'have hd0 := Drawn.sameBut.refl s.drawn lw_cs') -/
theorem lw_ret {p : Program} {l : Launch} {e : Env} {s : State} {m : MethodId} {below : List Frame} {meth : Method} {c : Code} {b : Nat} {d0 : Drawn} (hd0 : s.drawn.sameBut d0 lw_cs) (hx : p.tables.exec = Jvm.exec) (hb : c.code = code) (hr : meth.sig.returnType = ret) (hlocks : meth.locks = false) {pc : Nat} {H : Heap} {ls : Array Slot} (hdg : decode code pc = .ok (.ireturn, 1)) : W p l e room_1 (s.setDrawn d0) m #[Value.ref b] below meth c H [] 708394 6870569 (lw_Z below #[Value.ref b] s) (F0 m pc ls [.int 1]) := by
  intro T hT X
  obtain ⟨fs, hret, hrun, hended, hW, hframe⟩ := X.leave (v := some (.int 1)) (hlocks := hlocks) (fun h => by rw [hr] at h; cases h)
  have hmeth' : T.vm.method? m = some meth := X.method'
  refine ⟨T.setFrames fs, ?_, .returned (some (.int 1)), hrun, hended, rfl, lw_closed hd0 ⟨_, rfl⟩ hW hframe⟩
  jvm_step X.here [X.here.top, hx, hb, hdg, hmeth', hr, ret, narrow_b1]
  (try refine ⟨rfl, ?_⟩); (try refine ⟨rfl, ?_⟩)
  first | (intro acts; rw [hret _ acts rfl rfl rfl]) | rw [hret _ _ rfl rfl rfl]
  exact Steps.refl _
/-- what holds at the law's entry: the machine, the code, the tables' words (any of lw_tbl by 'hts w (by decide +kernel)'), the script of L ints xs at the cell b, what the Statement gives of the start (any of its parts by flat_of_before) -/
def lw_At (p : Program) (s : State) (m : MethodId) (meth : Method) (c : Code) (b L : Nat) (xs : Nat → Int32) : Prop :=
  p.tables.exec = Jvm.exec ∧ c.code = code ∧ meth.sig.returnType = ret ∧ c.maxLocals = 10 ∧ s.vm.findClass R_law = some m.cls ∧ (∀ w ∈ lw_tbl, w.before #[Value.ref b] s = true) ∧ va_X b L xs s s.heap ∧ b < s.heap.size ∧ meth.locks = false ∧ (Jvm.Cond.and given_1 narrow_1).before #[Value.ref b] s = true
set_option maxHeartbeats 4000000 in
set_option maxRecDepth 100000 in
theorem whole_start {p : Program} {e : Env} {s : State} {m : MethodId} {below : List Frame} {meth : Method} {c : Code} (l : Launch) (hflags : l.flags = flags0) {b L : Nat} {xs : Nat → Int32} (hL : L ≤ 3072) (C0 : lw_At p s m meth c b L xs) : W p l e room_1 s m #[Value.ref b] below meth c s.heap [] 0 0 (lw_Z below #[Value.ref b] s) (entryFrame m ([Value.ref b] : List Value).toArray 10) := by
  obtain ⟨hx, hb, hr, hml, hown, hts, hX, hbl, hlocks, hgv⟩ := C0
  have hst : l.stackTraces = false := by unfold Launch.stackTraces; rw [hflags]; decide +kernel
  obtain ⟨G, hE⟩ := zst_start hts hgv
  have hbA : ¬ (fun q : Nat => s.heap.size ≤ q) b := Nat.not_le.mpr hbl
  have B : zM p s m #[Value.ref b] c cL_law 10 RL G (fun q => s.heap.size ≤ q) := ⟨hx, hb, hml, hown, zst_all hts, hE, fun _ h => h⟩
  have kend : ∀ (H : Heap) (locs : List Loc) (ls : Array Slot) (cells slots : Nat), va_S (fun q => s.heap.size ≤ q) s.heap H locs → cells ≤ 708394 → slots ≤ 6870569 → W p l e room_1 s m #[Value.ref b] below meth c H locs cells slots (lw_Z below #[Value.ref b] s) (F0 m 1375 ls []) := by
    intro H locs ls cells slots hS hc hs
    refine lv_iconst (v := (1 : Int32)) hx hb dL_law_1375 (by decide) ?_
    refine va_forget (fun q hq => hS.2.2 q hq) ?_
    refine W.widen (k := 708394) (n := 6870569) hc hs ?_
    exact W.base (lw_ret (Drawn.sameBut.refl s.drawn lw_cs) hx hb hr hlocks dL_law_1376)
  have hW : zW G (fun q => s.heap.size ≤ q) s.heap s.heap [] [] := ⟨fun k q h => by simp at h, ⟨fun i j p q h => by simp at h, fun k q h => by simp at h⟩, va_S.rf⟩
  have hl := lv_entry ([.ref b]) (n := 10) (Nat.le_of_ble_eq_true rfl)
  rw [lg_entry_eq]
  generalize (lg_sl ([.ref b]) ++ List.replicate (10 - (lg_sl ([.ref b])).length) Slot.unset).toArray = ls at hl ⊢
  have hl : lv_has ls 10 [(0, .ref b)] := hl
  refine znew B hW 11 5 tyX7 rfl in_X7 tyX7_ok kl_L_8 ki_X7 kz_X7 rfl (Nat.le_of_ble_eq_true rfl) (Nat.le_of_ble_eq_true rfl) dL_law_0 (fun q_0 H hW => ?_)
  have hW := hW.eq (w' := ([(q_0, .inr (11, [.null, .null, .null, .int 0, .int 0]))] : va_W)) rfl
  refine lv_dup hx hb dL_law_3 rfl ?_
  refine zcI (w1 := []) (wc := ([(q_0, .inr (11, [.null, .null, .null, .int 0, .int 0]))] : va_W)) (w2 := []) (As := []) B (hW.eq rfl) (c_X7_init l G q_0) yd_X7_init ml_L_106 rfl hl.1 rfl (Nat.le_of_ble_eq_true rfl) ⟨Nat.le_of_ble_eq_true rfl, Nat.le_of_ble_eq_true rfl⟩ ⟨(Nat.le_of_ble_eq_true rfl), (Nat.le_of_ble_eq_true rfl)⟩ dL_law_4 (fun v u H locs hp hW => ?_)
  obtain ⟨ad0_4, ad1_4, ad2_4, ad3_4, ad4_4, ad5_4, ad6_4, ad7_4, ad8_4, ad9_4, ad10_4, ad11_4, ad12_4, ad13_4, ad14_4, rfl, rfl⟩ := hp
  have hW := hW.eq (w' := swW G q_0 ad0_4 (i_X7_init) ++ (worW G (ad0_4 0) ad1_4 (i_X6_init) ++ (landW G (ad1_4 0) ad2_4 (i_X1_init) ++ (outW G (ad1_4 1) ad3_4 (i_X2_init) ++ (landW G (ad3_4 0) ad4_4 (i_X1_init) ++ (sensW G (ad1_4 2) ad5_4 (i_X4_init) ++ (subW G (ad1_4 3) ad6_4 (i_X5_init) ++ (schW G (ad1_4 4) ad7_4 (i_X3_init) ++ (worW G (ad0_4 1) ad8_4 (i_X6_init) ++ (landW G (ad8_4 0) ad9_4 (i_X1_init) ++ (outW G (ad8_4 1) ad10_4 (i_X2_init) ++ (landW G (ad10_4 0) ad11_4 (i_X1_init) ++ (sensW G (ad8_4 2) ad12_4 (i_X4_init) ++ (subW G (ad8_4 3) ad13_4 (i_X5_init) ++ (schW G (ad8_4 4) ad14_4 (i_X3_init)))))))))))))))) rfl
  refine lv_astore_n hx hb dL_law_7 rfl hl (by decide) rfl (fun ls hl => ?_)
  refine znew B hW 16 9 tyX12 rfl in_X12 tyX12_ok kl_L_107 ki_X12 kz_X12 rfl (Nat.le_of_ble_eq_true rfl) (Nat.le_of_ble_eq_true rfl) dL_law_8 (fun q_8 H hW => ?_)
  have hW := hW.eq (w' := swW G q_0 ad0_4 (i_X7_init) ++ (worW G (ad0_4 0) ad1_4 (i_X6_init) ++ (landW G (ad1_4 0) ad2_4 (i_X1_init) ++ (outW G (ad1_4 1) ad3_4 (i_X2_init) ++ (landW G (ad3_4 0) ad4_4 (i_X1_init) ++ (sensW G (ad1_4 2) ad5_4 (i_X4_init) ++ (subW G (ad1_4 3) ad6_4 (i_X5_init) ++ (schW G (ad1_4 4) ad7_4 (i_X3_init) ++ (worW G (ad0_4 1) ad8_4 (i_X6_init) ++ (landW G (ad8_4 0) ad9_4 (i_X1_init) ++ (outW G (ad8_4 1) ad10_4 (i_X2_init) ++ (landW G (ad10_4 0) ad11_4 (i_X1_init) ++ (sensW G (ad8_4 2) ad12_4 (i_X4_init) ++ (subW G (ad8_4 3) ad13_4 (i_X5_init) ++ (schW G (ad8_4 4) ad14_4 (i_X3_init) ++ (([(q_8, .inr (16, [.int 0, .null, .int 0, .long 0, .null, .null, .null, .null, .int 0]))] : va_W))))))))))))))))) rfl
  refine lv_dup hx hb dL_law_11 rfl ?_
  have hW := hW.sub (w' := ([(q_8, .inr (16, [.int 0, .null, .int 0, .long 0, .null, .null, .null, .null, .int 0]))] : va_W) ++ (swW G q_0 ad0_4 (i_X7_init) ++ (worW G (ad0_4 0) ad1_4 (i_X6_init) ++ (landW G (ad1_4 0) ad2_4 (i_X1_init) ++ (outW G (ad1_4 1) ad3_4 (i_X2_init) ++ (landW G (ad3_4 0) ad4_4 (i_X1_init) ++ (sensW G (ad1_4 2) ad5_4 (i_X4_init) ++ (subW G (ad1_4 3) ad6_4 (i_X5_init) ++ (schW G (ad1_4 4) ad7_4 (i_X3_init) ++ (worW G (ad0_4 1) ad8_4 (i_X6_init) ++ (landW G (ad8_4 0) ad9_4 (i_X1_init) ++ (outW G (ad8_4 1) ad10_4 (i_X2_init) ++ (landW G (ad10_4 0) ad11_4 (i_X1_init) ++ (sensW G (ad8_4 2) ad12_4 (i_X4_init) ++ (subW G (ad8_4 3) ad13_4 (i_X5_init) ++ (schW G (ad8_4 4) ad14_4 (i_X3_init))))))))))))))))) [84, 0, 1, 2, 3, 4, 5, 6, 7, 8, 9, 10, 11, 12, 13, 14, 15, 16, 17, 18, 19, 20, 21, 22, 23, 24, 25, 26, 27, 28, 29, 30, 31, 32, 33, 34, 35, 36, 37, 38, 39, 40, 41, 42, 43, 44, 45, 46, 47, 48, 49, 50, 51, 52, 53, 54, 55, 56, 57, 58, 59, 60, 61, 62, 63, 64, 65, 66, 67, 68, 69, 70, 71, 72, 73, 74, 75, 76, 77, 78, 79, 80, 81, 82, 83] rfl rfl
  refine zcI (w1 := []) (wc := ([(q_8, .inr (16, [.int 0, .null, .int 0, .long 0, .null, .null, .null, .null, .int 0]))] : va_W)) (w2 := swW G q_0 ad0_4 (i_X7_init) ++ (worW G (ad0_4 0) ad1_4 (i_X6_init) ++ (landW G (ad1_4 0) ad2_4 (i_X1_init) ++ (outW G (ad1_4 1) ad3_4 (i_X2_init) ++ (landW G (ad3_4 0) ad4_4 (i_X1_init) ++ (sensW G (ad1_4 2) ad5_4 (i_X4_init) ++ (subW G (ad1_4 3) ad6_4 (i_X5_init) ++ (schW G (ad1_4 4) ad7_4 (i_X3_init) ++ (worW G (ad0_4 1) ad8_4 (i_X6_init) ++ (landW G (ad8_4 0) ad9_4 (i_X1_init) ++ (outW G (ad8_4 1) ad10_4 (i_X2_init) ++ (landW G (ad10_4 0) ad11_4 (i_X1_init) ++ (sensW G (ad8_4 2) ad12_4 (i_X4_init) ++ (subW G (ad8_4 3) ad13_4 (i_X5_init) ++ (schW G (ad8_4 4) ad14_4 (i_X3_init)))))))))))))))) (As := []) B (hW.eq rfl) (c_X12_init l G q_8) yd_X12_init ml_L_109 rfl hl.1 rfl (Nat.le_of_ble_eq_true rfl) ⟨Nat.le_of_ble_eq_true rfl, Nat.le_of_ble_eq_true rfl⟩ ⟨(Nat.le_of_ble_eq_true rfl), (Nat.le_of_ble_eq_true rfl)⟩ dL_law_12 (fun v u H locs hp hW => ?_)
  obtain ⟨ad0_12, ad1_12, ad2_12, ad3_12, ad4_12, ad5_12, rfl, rfl⟩ := hp
  have hW := hW.eq (w' := mdW G q_8 ad0_12 (i_X12_init) ++ (mlW G (ad0_12 0) ad1_12 (i_X8_init) ++ (alW G (ad0_12 1) ad2_12 (i_Jx4a65c_init G) ++ (alW G (ad0_12 2) ad3_12 (i_Jx4a65c_init G) ++ (alW G (ad0_12 3) ad4_12 (i_Jx4a65c_init G) ++ (alW G (ad0_12 4) ad5_12 (i_Jx4a65c_init G) ++ (swW G q_0 ad0_4 (i_X7_init) ++ (worW G (ad0_4 0) ad1_4 (i_X6_init) ++ (landW G (ad1_4 0) ad2_4 (i_X1_init) ++ (outW G (ad1_4 1) ad3_4 (i_X2_init) ++ (landW G (ad3_4 0) ad4_4 (i_X1_init) ++ (sensW G (ad1_4 2) ad5_4 (i_X4_init) ++ (subW G (ad1_4 3) ad6_4 (i_X5_init) ++ (schW G (ad1_4 4) ad7_4 (i_X3_init) ++ (worW G (ad0_4 1) ad8_4 (i_X6_init) ++ (landW G (ad8_4 0) ad9_4 (i_X1_init) ++ (outW G (ad8_4 1) ad10_4 (i_X2_init) ++ (landW G (ad10_4 0) ad11_4 (i_X1_init) ++ (sensW G (ad8_4 2) ad12_4 (i_X4_init) ++ (subW G (ad8_4 3) ad13_4 (i_X5_init) ++ (schW G (ad8_4 4) ad14_4 (i_X3_init)))))))))))))))))))))) rfl
  refine lv_astore_n hx hb dL_law_15 rfl hl (by decide) rfl (fun ls hl => ?_)
  refine lv_iconst (v := (1 : Int32)) hx hb dL_law_16 (by decide) ?_
  refine znewJ B hW ka_long (Nat.le_of_ble_eq_true rfl) (Nat.le_of_ble_eq_true rfl) dL_law_17 (fun q_17 H hW => ?_)
  have hW := hW.eq (w' := mdW G q_8 ad0_12 (i_X12_init) ++ (mlW G (ad0_12 0) ad1_12 (i_X8_init) ++ (alW G (ad0_12 1) ad2_12 (i_Jx4a65c_init G) ++ (alW G (ad0_12 2) ad3_12 (i_Jx4a65c_init G) ++ (alW G (ad0_12 3) ad4_12 (i_Jx4a65c_init G) ++ (alW G (ad0_12 4) ad5_12 (i_Jx4a65c_init G) ++ (swW G q_0 ad0_4 (i_X7_init) ++ (worW G (ad0_4 0) ad1_4 (i_X6_init) ++ (landW G (ad1_4 0) ad2_4 (i_X1_init) ++ (outW G (ad1_4 1) ad3_4 (i_X2_init) ++ (landW G (ad3_4 0) ad4_4 (i_X1_init) ++ (sensW G (ad1_4 2) ad5_4 (i_X4_init) ++ (subW G (ad1_4 3) ad6_4 (i_X5_init) ++ (schW G (ad1_4 4) ad7_4 (i_X3_init) ++ (worW G (ad0_4 1) ad8_4 (i_X6_init) ++ (landW G (ad8_4 0) ad9_4 (i_X1_init) ++ (outW G (ad8_4 1) ad10_4 (i_X2_init) ++ (landW G (ad10_4 0) ad11_4 (i_X1_init) ++ (sensW G (ad8_4 2) ad12_4 (i_X4_init) ++ (subW G (ad8_4 3) ad13_4 (i_X5_init) ++ (schW G (ad8_4 4) ad14_4 (i_X3_init) ++ (loW G q_17 (fun _ => 0) (fun _ => (0 : Int64)))))))))))))))))))))))) rfl
  refine lv_astore_n hx hb dL_law_19 rfl hl (by decide) rfl (fun ls hl => ?_)
  refine lv_iconst (v := (1 : Int32)) hx hb dL_law_20 (by decide) ?_
  refine znewD B hW ka_double (Nat.le_of_ble_eq_true rfl) (Nat.le_of_ble_eq_true rfl) dL_law_21 (fun q_21 H hW => ?_)
  have hW := hW.eq (w' := mdW G q_8 ad0_12 (i_X12_init) ++ (mlW G (ad0_12 0) ad1_12 (i_X8_init) ++ (alW G (ad0_12 1) ad2_12 (i_Jx4a65c_init G) ++ (alW G (ad0_12 2) ad3_12 (i_Jx4a65c_init G) ++ (alW G (ad0_12 3) ad4_12 (i_Jx4a65c_init G) ++ (alW G (ad0_12 4) ad5_12 (i_Jx4a65c_init G) ++ (swW G q_0 ad0_4 (i_X7_init) ++ (worW G (ad0_4 0) ad1_4 (i_X6_init) ++ (landW G (ad1_4 0) ad2_4 (i_X1_init) ++ (outW G (ad1_4 1) ad3_4 (i_X2_init) ++ (landW G (ad3_4 0) ad4_4 (i_X1_init) ++ (sensW G (ad1_4 2) ad5_4 (i_X4_init) ++ (subW G (ad1_4 3) ad6_4 (i_X5_init) ++ (schW G (ad1_4 4) ad7_4 (i_X3_init) ++ (worW G (ad0_4 1) ad8_4 (i_X6_init) ++ (landW G (ad8_4 0) ad9_4 (i_X1_init) ++ (outW G (ad8_4 1) ad10_4 (i_X2_init) ++ (landW G (ad10_4 0) ad11_4 (i_X1_init) ++ (sensW G (ad8_4 2) ad12_4 (i_X4_init) ++ (subW G (ad8_4 3) ad13_4 (i_X5_init) ++ (schW G (ad8_4 4) ad14_4 (i_X3_init) ++ (loW G q_17 (fun _ => 0) (fun _ => (0 : Int64)) ++ (ldW G q_21 (fun _ => 0) (fun _ => (0 : UInt64))))))))))))))))))))))))) rfl
  refine lv_astore hx hb dL_law_23 hl (by decide) rfl (fun ls hl => ?_)
  refine lv_iconst (v := (0 : Int32)) hx hb dL_law_25 (by decide) ?_
  refine lv_istore hx hb dL_law_26 hl (by decide) rfl (fun ls hl => ?_)
  rw [zi7] at hW
  have hW := hW.sub (w' := zcat (zLW G q_0 q_8 q_17 q_21 0 0 0 0 ad0_4 ad1_4 ad2_4 ad3_4 ad4_4 ad5_4 ad6_4 ad7_4 ad8_4 ad9_4 ad10_4 ad11_4 ad12_4 ad13_4 ad14_4 (fun _ => 0) (fun _ => 0) ad0_12 ad1_12 ad2_12 ad3_12 ad4_12 ad5_12 (fun _ => 0) (fun _ => 0) (fun _ => 0) (fun _ => 0) (fun _ => 0) zaq0 i_X6_init i_X1_init i_X2_init i_X1_init i_X4_init i_X5_init i_X3_init i_X6_init i_X1_init i_X2_init i_X1_init i_X4_init i_X5_init i_X3_init (fun _ => (0 : Int64)) (fun _ => (0 : UInt64)) i_X12_init i_X8_init (i_Jx4a65c_init G) (i_Jx4a65c_init G) (i_Jx4a65c_init G) (i_Jx4a65c_init G) zte0 zsb0 zso0 zwa0 0 0 0 0 0)) [12, 13, 14, 15, 16, 17, 18, 19, 20, 21, 22, 23, 24, 25, 26, 27, 28, 29, 30, 31, 32, 33, 34, 35, 36, 37, 38, 39, 40, 41, 42, 43, 44, 45, 46, 47, 48, 49, 50, 51, 52, 53, 54, 55, 56, 57, 58, 59, 60, 61, 62, 63, 64, 65, 66, 67, 68, 69, 70, 71, 72, 73, 74, 75, 76, 77, 78, 79, 80, 81, 82, 83, 84, 85, 86, 87, 88, 89, 90, 91, 92, 93, 94, 95, 96, 97, 0, 1, 2, 3, 4, 5, 6, 7, 8, 9, 10, 11] rfl rfl
  have hl : lv_has ls 10 [(0, .ref b), (1, .ref q_0), (2, .ref q_8), (3, .ref q_17), (4, .ref q_21), (5, .int (nI (6 * 0)))] := lv_sub hl [5, 4, 3, 2, 1, 0] rfl
  exact zbody hst B hX hbl hbA hL kend 512 0 rfl q_0 q_8 q_17 q_21 0 0 0 0 ad0_4 ad1_4 ad2_4 ad3_4 ad4_4 ad5_4 ad6_4 ad7_4 ad8_4 ad9_4 ad10_4 ad11_4 ad12_4 ad13_4 ad14_4 (fun _ => 0) (fun _ => 0) ad0_12 ad1_12 ad2_12 ad3_12 ad4_12 ad5_12 (fun _ => 0) (fun _ => 0) (fun _ => 0) (fun _ => 0) (fun _ => 0) zaq0 i_X6_init i_X1_init i_X2_init i_X1_init i_X4_init i_X5_init i_X3_init i_X6_init i_X1_init i_X2_init i_X1_init i_X4_init i_X5_init i_X3_init (fun _ => (0 : Int64)) (fun _ => (0 : UInt64)) i_X12_init i_X8_init (i_Jx4a65c_init G) (i_Jx4a65c_init G) (i_Jx4a65c_init G) (i_Jx4a65c_init G) zte0 zsb0 zso0 zwa0 0 0 0 0 0 _ _ _ _ _ zI0 (Nat.le_of_ble_eq_true rfl) (Nat.le_of_ble_eq_true rfl) hW hl
set_option maxHeartbeats 4000000 in
theorem lw_walk (l : Launch) (hflags : l.flags = flags0) (b : Addr) (xs : List Int32) : MetFree l x (headSpec (Jvm.Cond.code x code maxLocals ret :: tables_1) room_1) (lw_P b xs) (fun _ _ _ _ _ => True) lw_Q := by
  refine MetFree.of_bodyS (code := code) (maxLocals := maxLocals) (ret := ret) (by decide) ?_ ?_
  · intro args s m h hn
    obtain ⟨meth, c, h1, h2, h3, h4, h5, h6, -, -⟩ := Cond.code_spec hn (atoms_spec (ws := Jvm.Cond.code x code maxLocals ret :: tables_1) h _ List.mem_cons_self)
    exact ⟨meth, c, h1, h2, h3, h4, h5, h6⟩
  · intro p e s m args below meth c s₁ B hml0 hP _
    obtain ⟨rfl, hx, hbd, hgv⟩ := hP
    obtain ⟨scr, harrAt, hlist, hof, hsmall⟩ := hx
    obtain ⟨hcb, hkn, -, -⟩ := State.arrayAt?_spec harrAt
    have hown : s.vm.findClass R_law = some m.cls := findClass_of_methodNamed B.named
    have hts0 : ∀ c ∈ (Jvm.Cond.code x code maxLocals ret :: tables_1), c.before #[Value.ref b] s = true := atoms_spec (ws := Jvm.Cond.code x code maxLocals ret :: tables_1) B.pre
    have hts : ∀ w ∈ lw_tbl, w.before #[Value.ref b] s = true := k2_hts_sels lw_privs (fun w hw => hts0 w (List.mem_cons_of_mem _ hw)) lw_privs_ok
    have hml : c.maxLocals = 10 := B.maxLocals_eq (hts0 _ List.mem_cons_self)
    have X₀ : Stand p l e room_1 s m #[Value.ref b] below meth c s₁ [] 0 0 := Stand.of_body B
    have hh0 : s₁.heap = s.heap := by rw [B.state]; rfl
    have hsz : scr.slots.size = xs.length := by rw [← Array.length_toList, hlist, List.length_map]
    have hval : ∀ j : Nat, j < xs.length → scr.slots[j]? = some (.int (xs.getD j 0)) := fun j hj => by
      rw [← Array.getElem?_toList, hlist]
      simp [hj]
    have hbl : b < s.heap.size := (Array.getElem?_eq_some_iff.mp hcb).1
    have hX : va_X b xs.length (fun j => xs.getD j 0) s s.heap := ⟨scr, hcb, hof, hkn, hsz, hval⟩
    have K : W p l e room_1 s m #[Value.ref b] below meth c s₁.heap [] 0 0 (lw_Z below #[Value.ref b] s) (entryFrame m ([Value.ref b] : List Value).toArray 10) := by
      rw [hh0]
      exact whole_start l hflags hbd ⟨B.exec, B.bytes, B.returns, hml, hown, hts, hX, hbl, B.notSynchronized, hgv⟩
    obtain ⟨t, a1, o, b1, b2, b3⟩ := K s₁ rfl X₀
    exact ⟨t, o, a1, b1, b2, b3⟩
theorem lw_pre_spec {args : Array Value} {s : State} (h : (Jvm.Cond.and given_1 narrow_1).before args s = true) (hr : rest_1_c.before args s = true) : ∃ (b : Addr) (xs : List Int32), lw_P b xs args s := by
  have hs := flat_of_before _ h
  have hq := flat_of_before _ hr
  have hc : (Cond.count 1).before args s = true := hs _ (by decide +kernel)
  have harr : (Cond.arrayOf (.arg 0) .int).before args s = true := hs _ (by decide +kernel)
  have hle : (Cond.le (.length (.arg 0)) (.int 3072)).before args s = true := hs _ (by decide +kernel)
  have hlen : (Cond.isInt (.length (.arg 0))).before args s = true := hq _ (by decide +kernel)
  have hall : (Cond.all (.arg 0) (.isInt (.elem (.arg 0) (.index 0)))).before args s = true := hq _ (by decide +kernel)
  obtain ⟨b, xs, hb, hx⟩ := State.ints_of_pre rfl harr hlen hall
  have hsm : xs.length < 2 ^ 31 := hx.choose_spec.2.2.2
  have hev : (Term.length (.arg 0)).eval args s none [] s = some (.int xs.length.toInt32) := hx.length_eval hb
  have hv := Cond.le_ints hev (show (Term.int 3072).eval args s none [] s = some (.int 3072) from rfl)
  have hd : xs.length.toInt32 ≤ 3072 := by
    simpa [Cond.before, Cond.holds, hv] using hle
  have hN : xs.length ≤ 3072 := (Int32.ofNat_le_ofNat hsm (by decide)).mp (show Int32.ofNat xs.length ≤ Int32.ofNat 3072 from hd)
  exact ⟨b, xs, Cond.one_arg hc (show args[0]? = some (.ref b) from hb), hx, hN, h⟩
theorem lw_comes (l : Launch) (hflags : l.flags = flags0) : Comes l x (Jvm.Cond.code x code maxLocals ret :: tables_1) room_1 (fun tb e args s => Calls_1 tb e args s ∧ rest_1 tb e args s ∧ Pre_1 tb e args s)
    (fun _ _ args s o t => lw_Q args s o t) := by
  intro p e ha hc hk s m args below hf hfit hheap happ hpre
  obtain ⟨b, xs, hP⟩ := lw_pre_spec hpre.2.2 hpre.2.1
  obtain ⟨k, o, h1, h2, h3, hQ⟩ := lw_walk l hflags b xs p e ha hc hk s m args below hf ((Spec.applies_iff_loose hf).mp happ).1 hP trivial
  exact ⟨k, o, h1, h2, h3, hQ⟩
theorem lw_frame {s t : State} {o : Outcome} {args : Array Value} (h : State.butDraws s t lw_cs (fun t1 => Framed s o t1 [] 708394 6870569)) :
    State.butDraws s t [Jvm.Choice.named "NaN.bits"] (fun t1 => Framed s o t1 (fieldLocs frame_1_writes args s ++ arrayLocs frame_1_arrays args s ++ staticLocs frame_1_statics s) 708394 6870569) := h
theorem lw_limb (L : Cond) (hL : ∀ (args : Array Value) (s t : State), L.after args s (.returned (some (.int 1))) t = true) :
    ArmFor flags0 classFile x code maxLocals ret World_1 tables_1 room_1 Calls_1 rest_1 Pre_1
      (fun tb e a s o t => postC L tb e a s o t ∧ State.butDraws s t [Jvm.Choice.named "NaN.bits"] (fun t1 => Framed s o t1 (fieldLocs frame_1_writes a s ++ arrayLocs frame_1_arrays a s ++ staticLocs frame_1_statics s) 708394 6870569)) := by
  intro l hflags _ _ p e ha hc hk s m args below hf hfit hheap happ hpre
  obtain ⟨k, o, h1, h2, h3, rfl, hF⟩ := lw_comes l hflags p e ha hc hk s m args below hf hfit hheap happ hpre
  exact ⟨k, _, h1, h2, h3, hL args s _, lw_frame hF⟩
theorem i_vc : Claimed_1_1 ∧ Claimed_1_2 := ⟨lw_limb limb_1_1 (fun args s t => by simp [limb_1_1, Cond.after, Cond.holds, Cond.value]), lw_limb limb_1_2 (fun args s t => Cond.after_iff.mpr (by
  first | (rw [show limb_1_2 = Cond.eq .result (.int 1) from rfl, Cond.eq_ints (x := 1) (y := 1) rfl rfl]; simp; done) | (simp [limb_1_2, Cond.value, Term.eval]; done)))⟩

