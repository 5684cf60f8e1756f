/-! joined: 30.checks, 40.listrows, 41.lists, 42.lists2, 43.lists3, 44.add, 45.segrows, 46.mstat -/
section
section ZWD
variable {p : Program} {l : Launch} {e : Env} {R : Room} {s : State} {m : MethodId} {args : Array Value} {below : List Frame} {meth : Method} {c : Code} {H : Heap} {locs : List Loc} {cells slots : Nat} {Q : State → Prop}
variable {cc : ByteArray} {nL pc idx : Nat} {own : String} {G : zG} {A : Nat → Prop} {w : va_W} {ls : Array Slot} {rest : List Value} {a : Nat}
/-- an act into the row of acts -/
theorem zqast (B : zM p s m args c cc nL own G A) (hW : zW G A s.heap H locs w) (q0 qk ci : Nat) {a n v : Nat} {vs : List Value} {f : Nat → Option Nat} (he : w[q0]? = some (a, .inl (G.2.1 2, n, .inr (.inr (.inr (.inr f)))))) (hv : w[qk]? = some (v, .inr (ci, vs))) (hc : (vwCl[ci]?).map (fun r => r.1) = some "SmokeWard$Act") {i : Int32} (hin : vp_in i n) (hdg : decode cc pc = .ok (.aastore, 1))
    (kk : ∀ (H1 : Heap) (locs1 : List Loc), zW G A s.heap H1 locs1 (w.set q0 (a, .inl (G.2.1 2, n, .inr (.inr (.inr (.inr (va_up f i.toNatClampNeg (some v)))))))) → W p l e R s m args below meth c H1 locs1 cells slots Q (F0 m (pc + 1) ls rest)) : W p l e R s m args below meth c H locs cells slots Q (F0 m pc ls (.ref v :: .int i :: .ref a :: rest)) := by
  cases hr : vwCl[ci]? with
  | none => rw [hr] at hc; cases hc
  | some r =>
    rw [hr] at hc
    have hc1 : r.1 = "SmokeWard$Act" := Option.some.inj hc
    exact va_astq (D := G.1) (cl := vwCl) (tys := zTy G) (A := A) B.x B.b B.K hW.1 hW.2.1 hW.2.2 q0 2 qk ci (r := r) he (by rw [hc1]; rfl) hv hr hin hdg (fun H1 l1 h1 h2 h3 => kk H1 l1 ⟨h1, h2, h3⟩)
theorem znewq (B : zM p s m args c cc nL own G A) (hW : zW G A s.heap H locs w) (k : Nat) {n : Int32} (hn : n = nI k) (hk : k ≤ 1000000) (hl : Cond.classLink own idx "SmokeWard$Act" ∈ zAll) (hcells : cells + 1 ≤ R.cells) (hslots : slots + k ≤ R.slots) (hdg : decode cc pc = .ok (.anewarray idx, 3))
    (kk : ∀ (q : Nat) (H1 : Heap), zW G A s.heap H1 locs (w ++ [(q, .inl (G.2.1 2, k, .inr (.inr (.inr (.inr (fun _ => none))))))]) → W p l e R s m args below meth c H1 locs (cells + 1) (slots + k) Q (F0 m (pc + 3) ls (.ref q :: rest))) : W p l e R s m args below meth c H locs cells slots Q (F0 m pc ls (.int n :: rest)) := by
  subst hn
  refine va_newq (D := G.1) (cl := vwCl) (tys := zTy G) (A := A) (N' := k) B.x B.b B.o (B.ts _ hl) B.E.2.2.2.2.2.2.2.1 B.K hW.1 hW.2.1 hW.2.2 B.nA (nI_pos (by omega)) (nI_clamp (by omega)) (by omega) hcells hslots hdg (fun q cA H1 a0 a1 a2 a3 => ?_)
  have e : cA = G.2.1 2 := va_RA_inj (a0.2 6 _ rfl).2 (a0.2 2 _ rfl).2
  subst e
  exact kk q H1 ⟨a1, a2, a3⟩
theorem zfret {mc ms : Nat} {post : Option Value → va_W → Prop} {v : UInt32} (B : zM p s m args c cc nL own G A) (hr : meth.sig.returnType = some .float) (hlk : meth.locks = false) (hW : zW G A s.heap H locs w) (hp : post (some (.float v)) w) (hc : cells ≤ mc) (hs : slots ≤ ms) (hdg : decode cc pc = .ok (.freturn, 1)) :
    W p l e R s m args below meth c H locs cells slots (MQ below (zQ G A post) args s mc ms A) (F0 m pc ls [.float v]) :=
  W.widen hc hs (W.fret B.x B.b hr (zend (mc := mc) (ms := ms) hW hp) hW.2.2.2.2 hdg hlk)
theorem zdret {mc ms : Nat} {post : Option Value → va_W → Prop} {v : UInt64} (B : zM p s m args c cc nL own G A) (hr : meth.sig.returnType = some .double) (hlk : meth.locks = false) (hW : zW G A s.heap H locs w) (hp : post (some (.double v)) w) (hc : cells ≤ mc) (hs : slots ≤ ms) (hdg : decode cc pc = .ok (.dreturn, 1)) :
    W p l e R s m args below meth c H locs cells slots (MQ below (zQ G A post) args s mc ms A) (F0 m pc ls [.double v]) :=
  W.widen hc hs (W.dret B.x B.b hr (zend (mc := mc) (ms := ms) hW hp) hW.2.2.2.2 hdg hlk)
end ZWD
abbrev zSw : Type := (Nat → Option Nat) × Int32 × Int32
def swW (G : zG) (h : Nat) (ad : Nat → Nat) (x : zSw) : va_W := [(h, .inr (11, [.ref (ad 0), .ref (ad 1), .ref (ad 2), .int x.2.1, .int x.2.2])), (ad 2, .inl (G.2.1 2, 512, .inr (.inr (.inr (.inr x.1)))))]
def r_X7_placeOf (a : Int32) (b : Int32) : Int32 := (if (r_X7_isCell a b) = (0 : Int32) then (0 : Int32) else ((b * (8 : Int32)) + a))
def x_X7_placeOf (a : Int32) (b : Int32) : Int32 := (if (r_X7_isCell a b) = (0 : Int32) then (1 : Int32) else (0 : Int32))
abbrev po_X7_placeOf (G : zG)  (a : Int32) (b : Int32) : Option Value → va_W → Prop := fun r u => (x_X7_placeOf a b) = (0 : Int32) ∧ r = some (.int (r_X7_placeOf a b)) ∧ u = []
abbrev px_X7_placeOf (G : zG)  (a : Int32) (b : Int32) : String → va_W → Prop := fun E u => ¬ (x_X7_placeOf a b) = (0 : Int32) ∧ E = zExn (x_X7_placeOf a b) ∧ u = []
set_option maxHeartbeats 4000000 in
set_option maxRecDepth 100000 in
theorem c_X7_placeOf (l : Launch) (G : zG)  (a : Int32) (b : Int32) (hst : l.stackTraces = false) : zX l yX7_placeOf cX7_placeOf 2 (some .int) 6 1 6 G [.int a, .int b] ([]) (po_X7_placeOf G a b) (px_X7_placeOf G a b) := by
  refine zX.of RX7 rfl (by decide) (Nat.le_of_ble_eq_true rfl) ?_
  intro p e s m args below meth c A ls B hr hlk hnm hex hW hl
  have hx := B.x
  have hb := B.b
  have hl : lv_has ls 2 [(0, .int a), (1, .int b)] := hl
  refine lv_iload_n hx hb dX7_placeOf_0 rfl (lv_at hl 0 rfl) ?_
  refine lv_iload_n hx hb dX7_placeOf_1 rfl (lv_at hl 1 rfl) ?_
  refine zcS (w1 := []) (wc := []) (w2 := []) (As := [.int a, .int b]) B (hW.eq rfl) (c_X7_isCell l G a b) yd_X7_isCell ml_X7_212 rfl hl.1 rfl (Nat.le_of_ble_eq_true rfl) ⟨Nat.le_of_ble_eq_true rfl, Nat.le_of_ble_eq_true rfl⟩ ⟨(Nat.le_of_ble_eq_true rfl), (Nat.le_of_ble_eq_true rfl)⟩ dX7_placeOf_2 (fun v u H locs hp hW => ?_)
  obtain ⟨rfl, rfl⟩ := hp
  have hW := hW.eq (w' := []) rfl
  refine lv_if_ne (tgt := 18) hx hb dX7_placeOf_5 (by decide) (fun c_5 => ?_) (fun c_5 => ?_)
  · refine lv_iload_n hx hb dX7_placeOf_18 rfl (lv_at hl 1 rfl) ?_
    refine lv_bipush (v := (8 : Int32)) hx hb dX7_placeOf_19 (by decide) ?_
    refine lv_imul hx hb dX7_placeOf_21 ?_
    refine lv_iload_n hx hb dX7_placeOf_22 rfl (lv_at hl 0 rfl) ?_
    refine lv_iadd hx hb dX7_placeOf_23 ?_
    have e_0 : (if (r_X7_isCell a b) = (0 : Int32) then (0 : Int32) else ((b * (8 : Int32)) + a)) = ((b * (8 : Int32)) + a) := if_neg c_5
    exact vx_ret (ziret B hr hlk hW ⟨(if_neg c_5), by show _ = some (Value.int (if (r_X7_isCell a b) = (0 : Int32) then (0 : Int32) else ((b * (8 : Int32)) + a))) <;> (try rw [e_0]) <;> rfl, by show _ = [] <;> (try rw [e_0]) <;> rfl⟩ (Nat.le_of_ble_eq_true rfl) (Nat.le_of_ble_eq_true rfl) dX7_placeOf_24)
  · have e_x : (if (r_X7_isCell a b) = (0 : Int32) then (1 : Int32) else (0 : Int32)) = (1 : Int32) := if_pos c_5
    exact zthrow B hst hex hlk thr_X7_218 hW ⟨by show ¬ (if (r_X7_isCell a b) = (0 : Int32) then (1 : Int32) else (0 : Int32)) = (0 : Int32); rw [e_x]; decide, by show _ = zExn (if (r_X7_isCell a b) = (0 : Int32) then (1 : Int32) else (0 : Int32)); rw [e_x]; rfl, rfl⟩ hl.1 dX7_placeOf_8 dX7_placeOf_11 dX7_placeOf_12 dX7_placeOf_14 dX7_placeOf_17 (Nat.le_of_ble_eq_true rfl) (Nat.le_of_ble_eq_true rfl) (Nat.le_of_ble_eq_true rfl) (Nat.le_of_ble_eq_true rfl) (Nat.le_of_ble_eq_true rfl) (Nat.le_of_ble_eq_true rfl)
theorem x1_X7_placeOf {a : Int32} {b : Int32} (h : ¬ x_X7_placeOf a b = (0 : Int32)) : x_X7_placeOf a b = (1 : Int32) := by
  unfold x_X7_placeOf at h ⊢
  (repeat' split at h) <;> (repeat' split) <;> simp_all
theorem xb_X7_placeOf {a : Int32} {b : Int32} : x_X7_placeOf a b = (0 : Int32) ∨ x_X7_placeOf a b = (1 : Int32) := by
  unfold x_X7_placeOf
  (repeat' split) <;> simp
def x_X7_checkNumber (a : Int32) (b : Int32) : Int32 := (if a < (0 : Int32) then (1 : Int32) else (if a < b then (0 : Int32) else (1 : Int32)))
abbrev po_X7_checkNumber (G : zG)  (a : Int32) (b : Int32) : Option Value → va_W → Prop := fun r u => (x_X7_checkNumber a b) = (0 : Int32) ∧ r = none ∧ u = []
abbrev px_X7_checkNumber (G : zG)  (a : Int32) (b : Int32) : String → va_W → Prop := fun E u => ¬ (x_X7_checkNumber a b) = (0 : Int32) ∧ E = zExn (x_X7_checkNumber a b) ∧ u = []
set_option maxHeartbeats 4000000 in
set_option maxRecDepth 100000 in
theorem c_X7_checkNumber (l : Launch) (G : zG)  (a : Int32) (b : Int32) (hst : l.stackTraces = false) : zX l yX7_checkNumber cX7_checkNumber 2 none 6 1 6 G [.int a, .int b] ([]) (po_X7_checkNumber G a b) (px_X7_checkNumber G a b) := by
  refine zX.of RX7 rfl (by decide) (Nat.le_of_ble_eq_true rfl) ?_
  intro p e s m args below meth c A ls B hr hlk hnm hex hW hl
  have hx := B.x
  have hb := B.b
  have hl : lv_has ls 2 [(0, .int a), (1, .int b)] := hl
  refine lv_iload_n hx hb dX7_checkNumber_0 rfl (lv_at hl 0 rfl) ?_
  refine lv_if_lt (tgt := 9) hx hb dX7_checkNumber_1 (by decide) (fun c_1 => ?_) (fun c_1 => ?_)
  · have e_x : (if a < (0 : Int32) then (1 : Int32) else (if a < b then (0 : Int32) else (1 : Int32))) = (1 : Int32) := if_pos c_1
    exact zthrow B hst hex hlk thr_X7_221 hW ⟨by show ¬ (if a < (0 : Int32) then (1 : Int32) else (if a < b then (0 : Int32) else (1 : Int32))) = (0 : Int32); rw [e_x]; decide, by show _ = zExn (if a < (0 : Int32) then (1 : Int32) else (if a < b then (0 : Int32) else (1 : Int32))); rw [e_x]; rfl, rfl⟩ hl.1 dX7_checkNumber_9 dX7_checkNumber_12 dX7_checkNumber_13 dX7_checkNumber_15 dX7_checkNumber_18 (Nat.le_of_ble_eq_true rfl) (Nat.le_of_ble_eq_true rfl) (Nat.le_of_ble_eq_true rfl) (Nat.le_of_ble_eq_true rfl) (Nat.le_of_ble_eq_true rfl) (Nat.le_of_ble_eq_true rfl)
  · refine lv_iload_n hx hb dX7_checkNumber_4 rfl (lv_at hl 0 rfl) ?_
    refine lv_iload_n hx hb dX7_checkNumber_5 rfl (lv_at hl 1 rfl) ?_
    refine lv_icmp_lt (tgt := 19) hx hb dX7_checkNumber_6 (by decide) (fun c_6 => ?_) (fun c_6 => ?_)
    · exact vx_ret (zvret B hr hlk hW ⟨((if_neg c_1).trans (if_pos c_6)), rfl, rfl⟩ (Nat.le_of_ble_eq_true rfl) (Nat.le_of_ble_eq_true rfl) dX7_checkNumber_19)
    · have e_x : (if a < (0 : Int32) then (1 : Int32) else (if a < b then (0 : Int32) else (1 : Int32))) = (1 : Int32) := (if_neg c_1).trans (if_neg c_6)
      exact zthrow B hst hex hlk thr_X7_221 hW ⟨by show ¬ (if a < (0 : Int32) then (1 : Int32) else (if a < b then (0 : Int32) else (1 : Int32))) = (0 : Int32); rw [e_x]; decide, by show _ = zExn (if a < (0 : Int32) then (1 : Int32) else (if a < b then (0 : Int32) else (1 : Int32))); rw [e_x]; rfl, rfl⟩ hl.1 dX7_checkNumber_9 dX7_checkNumber_12 dX7_checkNumber_13 dX7_checkNumber_15 dX7_checkNumber_18 (Nat.le_of_ble_eq_true rfl) (Nat.le_of_ble_eq_true rfl) (Nat.le_of_ble_eq_true rfl) (Nat.le_of_ble_eq_true rfl) (Nat.le_of_ble_eq_true rfl) (Nat.le_of_ble_eq_true rfl)
theorem x1_X7_checkNumber {a : Int32} {b : Int32} (h : ¬ x_X7_checkNumber a b = (0 : Int32)) : x_X7_checkNumber a b = (1 : Int32) := by
  unfold x_X7_checkNumber at h ⊢
  (repeat' split at h) <;> (repeat' split) <;> simp_all
theorem xb_X7_checkNumber {a : Int32} {b : Int32} : x_X7_checkNumber a b = (0 : Int32) ∨ x_X7_checkNumber a b = (1 : Int32) := by
  unfold x_X7_checkNumber
  (repeat' split) <;> simp
def x_X7_checkRange (a : Int32) (b : Int32) (d : Int32) : Int32 := (if a < b then (2 : Int32) else (if a ≤ d then (0 : Int32) else (2 : Int32)))
abbrev po_X7_checkRange (G : zG)  (a : Int32) (b : Int32) (d : Int32) : Option Value → va_W → Prop := fun r u => (x_X7_checkRange a b d) = (0 : Int32) ∧ r = none ∧ u = []
abbrev px_X7_checkRange (G : zG)  (a : Int32) (b : Int32) (d : Int32) : String → va_W → Prop := fun E u => ¬ (x_X7_checkRange a b d) = (0 : Int32) ∧ E = zExn (x_X7_checkRange a b d) ∧ u = []
set_option maxHeartbeats 4000000 in
set_option maxRecDepth 100000 in
theorem c_X7_checkRange (l : Launch) (G : zG)  (a : Int32) (b : Int32) (d : Int32) (hst : l.stackTraces = false) : zX l yX7_checkRange cX7_checkRange 3 none 6 1 6 G [.int a, .int b, .int d] ([]) (po_X7_checkRange G a b d) (px_X7_checkRange G a b d) := by
  refine zX.of RX7 rfl (by decide) (Nat.le_of_ble_eq_true rfl) ?_
  intro p e s m args below meth c A ls B hr hlk hnm hex hW hl
  have hx := B.x
  have hb := B.b
  have hl : lv_has ls 3 [(0, .int a), (1, .int b), (2, .int d)] := hl
  refine lv_iload_n hx hb dX7_checkRange_0 rfl (lv_at hl 0 rfl) ?_
  refine lv_iload_n hx hb dX7_checkRange_1 rfl (lv_at hl 1 rfl) ?_
  refine lv_icmp_lt (tgt := 10) hx hb dX7_checkRange_2 (by decide) (fun c_2 => ?_) (fun c_2 => ?_)
  · have e_x : (if a < b then (2 : Int32) else (if a ≤ d then (0 : Int32) else (2 : Int32))) = (2 : Int32) := if_pos c_2
    exact zthrow B hst hex hlk thr_X7_225 hW ⟨by show ¬ (if a < b then (2 : Int32) else (if a ≤ d then (0 : Int32) else (2 : Int32))) = (0 : Int32); rw [e_x]; decide, by show _ = zExn (if a < b then (2 : Int32) else (if a ≤ d then (0 : Int32) else (2 : Int32))); rw [e_x]; rfl, rfl⟩ hl.1 dX7_checkRange_10 dX7_checkRange_13 dX7_checkRange_14 dX7_checkRange_16 dX7_checkRange_19 (Nat.le_of_ble_eq_true rfl) (Nat.le_of_ble_eq_true rfl) (Nat.le_of_ble_eq_true rfl) (Nat.le_of_ble_eq_true rfl) (Nat.le_of_ble_eq_true rfl) (Nat.le_of_ble_eq_true rfl)
  · refine lv_iload_n hx hb dX7_checkRange_5 rfl (lv_at hl 0 rfl) ?_
    refine lv_iload_n hx hb dX7_checkRange_6 rfl (lv_at hl 2 rfl) ?_
    refine lv_icmp_le (tgt := 20) hx hb dX7_checkRange_7 (by decide) (fun c_7 => ?_) (fun c_7 => ?_)
    · exact vx_ret (zvret B hr hlk hW ⟨((if_neg c_2).trans (if_pos c_7)), rfl, rfl⟩ (Nat.le_of_ble_eq_true rfl) (Nat.le_of_ble_eq_true rfl) dX7_checkRange_20)
    · have e_x : (if a < b then (2 : Int32) else (if a ≤ d then (0 : Int32) else (2 : Int32))) = (2 : Int32) := (if_neg c_2).trans (if_neg c_7)
      exact zthrow B hst hex hlk thr_X7_225 hW ⟨by show ¬ (if a < b then (2 : Int32) else (if a ≤ d then (0 : Int32) else (2 : Int32))) = (0 : Int32); rw [e_x]; decide, by show _ = zExn (if a < b then (2 : Int32) else (if a ≤ d then (0 : Int32) else (2 : Int32))); rw [e_x]; rfl, rfl⟩ hl.1 dX7_checkRange_10 dX7_checkRange_13 dX7_checkRange_14 dX7_checkRange_16 dX7_checkRange_19 (Nat.le_of_ble_eq_true rfl) (Nat.le_of_ble_eq_true rfl) (Nat.le_of_ble_eq_true rfl) (Nat.le_of_ble_eq_true rfl) (Nat.le_of_ble_eq_true rfl) (Nat.le_of_ble_eq_true rfl)
theorem x1_X7_checkRange {a : Int32} {b : Int32} {d : Int32} (h : ¬ x_X7_checkRange a b d = (0 : Int32)) : x_X7_checkRange a b d = (2 : Int32) := by
  unfold x_X7_checkRange at h ⊢
  (repeat' split at h) <;> (repeat' split) <;> simp_all
theorem xb_X7_checkRange {a : Int32} {b : Int32} {d : Int32} : x_X7_checkRange a b d = (0 : Int32) ∨ x_X7_checkRange a b d = (2 : Int32) := by
  unfold x_X7_checkRange
  (repeat' split) <;> simp
def x_X7_checkRoom (a : Int32) (b : Int32) : Int32 := (if a < b then (0 : Int32) else (3 : Int32))
abbrev po_X7_checkRoom (G : zG)  (a : Int32) (b : Int32) : Option Value → va_W → Prop := fun r u => (x_X7_checkRoom a b) = (0 : Int32) ∧ r = none ∧ u = []
abbrev px_X7_checkRoom (G : zG)  (a : Int32) (b : Int32) : String → va_W → Prop := fun E u => ¬ (x_X7_checkRoom a b) = (0 : Int32) ∧ E = zExn (x_X7_checkRoom a b) ∧ u = []
set_option maxHeartbeats 4000000 in
set_option maxRecDepth 100000 in
theorem c_X7_checkRoom (l : Launch) (G : zG)  (a : Int32) (b : Int32) (hst : l.stackTraces = false) : zX l yX7_checkRoom cX7_checkRoom 2 none 6 1 6 G [.int a, .int b] ([]) (po_X7_checkRoom G a b) (px_X7_checkRoom G a b) := by
  refine zX.of RX7 rfl (by decide) (Nat.le_of_ble_eq_true rfl) ?_
  intro p e s m args below meth c A ls B hr hlk hnm hex hW hl
  have hx := B.x
  have hb := B.b
  have hl : lv_has ls 2 [(0, .int a), (1, .int b)] := hl
  refine lv_iload_n hx hb dX7_checkRoom_0 rfl (lv_at hl 0 rfl) ?_
  refine lv_iload_n hx hb dX7_checkRoom_1 rfl (lv_at hl 1 rfl) ?_
  refine lv_icmp_lt (tgt := 15) hx hb dX7_checkRoom_2 (by decide) (fun c_2 => ?_) (fun c_2 => ?_)
  · exact vx_ret (zvret B hr hlk hW ⟨(if_pos c_2), rfl, rfl⟩ (Nat.le_of_ble_eq_true rfl) (Nat.le_of_ble_eq_true rfl) dX7_checkRoom_15)
  · have e_x : (if a < b then (0 : Int32) else (3 : Int32)) = (3 : Int32) := if_neg c_2
    exact zthrow B hst hex hlk thr_X7_228 hW ⟨by show ¬ (if a < b then (0 : Int32) else (3 : Int32)) = (0 : Int32); rw [e_x]; decide, by show _ = zExn (if a < b then (0 : Int32) else (3 : Int32)); rw [e_x]; rfl, rfl⟩ hl.1 dX7_checkRoom_5 dX7_checkRoom_8 dX7_checkRoom_9 dX7_checkRoom_11 dX7_checkRoom_14 (Nat.le_of_ble_eq_true rfl) (Nat.le_of_ble_eq_true rfl) (Nat.le_of_ble_eq_true rfl) (Nat.le_of_ble_eq_true rfl) (Nat.le_of_ble_eq_true rfl) (Nat.le_of_ble_eq_true rfl)
theorem x1_X7_checkRoom {a : Int32} {b : Int32} (h : ¬ x_X7_checkRoom a b = (0 : Int32)) : x_X7_checkRoom a b = (3 : Int32) := by
  unfold x_X7_checkRoom at h ⊢
  (repeat' split at h) <;> (repeat' split) <;> simp_all
theorem xb_X7_checkRoom {a : Int32} {b : Int32} : x_X7_checkRoom a b = (0 : Int32) ∨ x_X7_checkRoom a b = (3 : Int32) := by
  unfold x_X7_checkRoom
  (repeat' split) <;> simp
end
section
section ZLR
variable {p : Program} {l : Launch} {e : Env} {R : Room} {s : State} {m : MethodId} {args : Array Value} {below : List Frame} {meth : Method} {c : Code} {H : Heap} {locs : List Loc} {cells slots : Nat} {Q : State → Prop}
variable {cc bytes : ByteArray} {nL pc maxL n d mc ms idx cnt : Nat} {own C host : String} {G : zG} {A : Nat → Prop} {w w1 w2 wc : va_W} {ls : Array Slot} {rest As : List Value} {a b : Nat} {x y : MethodName} {ret : Option FieldType} {post : Option Value → va_W → Prop}
/-- an inherited field by the name of the class below -/
def zFs (own : String) (idx : Nat) (ci k : Nat) : Prop := ∃ (C : String) (T : u_T) (N : Nat) (ref : String), vwCl[ci]? = some (C, T, N) ∧ k < N ∧ (∀ w ∈ u_ws C T N, w ∈ zAll) ∧ Cond.fieldLink own idx ref (T k).2.1 (T k).2.2.1 ∈ zAll ∧ Cond.sameField ref (T k).1 (T k).2.1 (T k).2.2.1 ∈ zAll
theorem zgetS (B : zM p s m args c cc nL own G A) (hW : zW G A s.heap H locs w) (q0 : Nat) {ci : Nat} {fs : List Value} (he : w[q0]? = some (a, .inr (ci, fs))) {idx k : Nat} (L : zFs own idx ci k) {v : Value} (hv : fs[k]? = some v) (hdg : decode cc pc = .ok (.getfield idx, 3))
    (kk : W p l e R s m args below meth c H locs cells slots Q (F0 m (pc + 3) ls (v :: rest))) : W p l e R s m args below meth c H locs cells slots Q (F0 m pc ls (.ref a :: rest)) := by
  obtain ⟨C, T, N, ref, h1, h2, h3, h4, h5⟩ := L
  exact va_get (D := G.1) (ci := ci) (C := C) (T := T) (N := N) B.x B.b B.ts h3 B.o B.K hW.1 q0 he h1 k h2 (B.ts _ h4) (u_same (B.ts _ h5)) hv hdg kk
theorem zputS (B : zM p s m args c cc nL own G A) (hW : zW G A s.heap H locs w) (q0 : Nat) {ci : Nat} {fs : List Value} (he : w[q0]? = some (a, .inr (ci, fs))) {idx k : Nat} (L : zFs own idx ci k) {ty : FieldType} (F : zFt ci k false ty) {v : Value} (hn : narrow ty v = v) (hfit : fits ty v = true) (hl : k < fs.length) (hdg : decode cc pc = .ok (.putfield idx, 3))
    (kk : ∀ (H1 : Heap) (locs1 : List Loc), zW G A s.heap H1 locs1 (w.set q0 (a, .inr (ci, fs.set k v))) → W p l e R s m args below meth c H1 locs1 cells slots Q (F0 m (pc + 3) ls rest)) : W p l e R s m args below meth c H locs cells slots Q (F0 m pc ls (v :: .ref a :: rest)) := by
  obtain ⟨C, T, N, ref, h1, h2, h3, h4, h5⟩ := L
  obtain ⟨C', T', N', ty0, g1, g2, g3, g4, g5⟩ := F
  cases Option.some.inj (h1.symm.trans g1)
  exact va_put (D := G.1) (ci := ci) (C := C) (T := T) (N := N) B.x B.b B.ts h3 ty0 g2 g3 B.o B.K hW.1 hW.2.1 hW.2.2 q0 he h1 k h2 (B.ts _ h4) (u_same (B.ts _ h5)) g4 g5 hn hfit hl hdg (fun H1 locs1 a1 a2 a3 => kk H1 locs1 ⟨a1, a2, a3⟩)
/-- ArrayList's row of empty lists -/
theorem zgetD (B : zM p s m args c cc nL own G A) (hW : zW G A s.heap H locs w) (hl : Cond.fieldLink own idx "java/util/ArrayList" "DEFAULTCAPACITY_EMPTY_ELEMENTDATA" "[Ljava/lang/Object;" ∈ zAll) (hdg : decode cc pc = .ok (.getstatic idx, 3))
    (kk : W p l e R s m args below meth c H locs cells slots Q (F0 m (pc + 3) ls (.ref G.2.2 :: rest))) : W p l e R s m args below meth c H locs cells slots Q (F0 m pc ls rest) :=
  va_gets (A := A) B.x B.b B.E.2.2.2.2.2.2.1.1 hW.2.2 B.o (B.ts _ hl) (fun _ h => h) hdg kk
theorem zlenD (B : zM p s m args c cc nL own G A) (hW : zW G A s.heap H locs w) (hdg : decode cc pc = .ok (.arraylength, 1))
    (kk : W p l e R s m args below meth c H locs cells slots Q (F0 m (pc + 1) ls (.int 0 :: rest))) : W p l e R s m args below meth c H locs cells slots Q (F0 m pc ls (.ref G.2.2 :: rest)) :=
  va_tlen (A := A) B.x B.b B.E.2.2.2.2.2.2.1.2 hW.2.2 rfl hdg kk
/-- a new row of objects -/
theorem znewo (B : zM p s m args c cc nL own G A) (hW : zW G A s.heap H locs w) (k : Nat) {n : Int32} (hn : n = nI k) (hk : k ≤ 1000000) (hl : Cond.classLink own idx "java/lang/Object" ∈ zAll) (hcells : cells + 1 ≤ R.cells) (hslots : slots + k ≤ R.slots) (hdg : decode cc pc = .ok (.anewarray idx, 3))
    (kk : ∀ (q : Nat) (H1 : Heap), zW G A s.heap H1 locs (w ++ [(q, .inl (G.2.1 3, k, .inr (.inr (.inr (.inr (fun _ => none))))))]) → W p l e R s m args below meth c H1 locs (cells + 1) (slots + k) Q (F0 m (pc + 3) ls (.ref q :: rest))) : W p l e R s m args below meth c H locs cells slots Q (F0 m pc ls (.int n :: rest)) := by
  subst hn
  refine va_newq (D := G.1) (cl := vwCl) (tys := zTy G) (A := A) (N' := k) B.x B.b B.o (B.ts _ hl) B.E.2.2.2.2.2.2.2.2.1 B.K hW.1 hW.2.1 hW.2.2 B.nA (nI_pos (by omega)) (nI_clamp (by omega)) (by omega) hcells hslots hdg (fun q cA H1 a0 a1 a2 a3 => ?_)
  have e : cA = G.2.1 3 := va_RA_inj (a0.2 6 _ rfl).2 (a0.2 3 _ rfl).2
  subst e
  exact kk q H1 ⟨a1, a2, a3⟩
/-- an object of any class into a row of objects -/
theorem zoast (B : zM p s m args c cc nL own G A) (hW : zW G A s.heap H locs w) (q0 qk ci : Nat) {a n v : Nat} {vs : List Value} {f : Nat → Option Nat} {r : vw_C} (he : w[q0]? = some (a, .inl (G.2.1 3, n, .inr (.inr (.inr (.inr f)))))) (hv : w[qk]? = some (v, .inr (ci, vs))) (hc : vwCl[ci]? = some r) (hca : Cond.castable r.1 "java/lang/Object" ∈ zNest) {i : Int32} (hin : vp_in i n) (hdg : decode cc pc = .ok (.aastore, 1))
    (kk : ∀ (H1 : Heap) (locs1 : List Loc), zW G A s.heap H1 locs1 (w.set q0 (a, .inl (G.2.1 3, n, .inr (.inr (.inr (.inr (va_up f i.toNatClampNeg (some v)))))))) → W p l e R s m args below meth c H1 locs1 cells slots Q (F0 m (pc + 1) ls rest)) : W p l e R s m args below meth c H locs cells slots Q (F0 m pc ls (.ref v :: .int i :: .ref a :: rest)) :=
  va_astqO (D := G.1) (cl := vwCl) (tys := zTy G) (A := A) B.x B.b B.K hW.1 hW.2.1 hW.2.2 q0 3 qk ci (r := r) he rfl (B.nw hca) hv hc hin hdg (fun H1 l1 h1 h2 h3 => kk H1 l1 ⟨h1, h2, h3⟩)
theorem zback5 (B : zM p s m args c cc nL own G A) (hW : zW G A s.heap H locs (w1 ++ (wc ++ w2))) {st0 : List Value} {a : Array Value}
    (hr : va_Run5 p l e R s m args below meth c H locs cells slots mc ms (F0 m pc ls st0) rest (zQ G (va_A wc H.size) post a) (va_A wc H.size))
    (kk : ∀ (v : Option Value) (u : va_W) (H1 : Heap) (locs1 : List Loc), post v u → zW G A s.heap H1 locs1 (w1 ++ (u ++ w2)) → W p l e R s m args below meth c H1 locs1 (cells + mc) (slots + ms) Q (F0 m (pc + 5) ls (v.toList ++ rest))) :
    W p l e R s m args below meth c H locs cells slots Q (F0 m pc ls st0) := by
  have hF := zfree hW B.nA
  intro T hT X
  obtain ⟨v, st₀, t, T', L, h0, X', hL, e1, e2, ⟨⟨v', u, hv, hp, hPu, hDu⟩, hz, hk⟩, st⟩ := hr T hT X
  cases hv
  rw [h0] at hz hk
  obtain ⟨t2, a1, b1⟩ := kk v u T'.heap (locs ++ L) hp (zjoin hW (fun q h1 h2 => by rw [e1]; exact hk q h1 h2) hF (by rw [e1]; exact hPu) hDu
    ⟨Nat.le_trans hW.2.2.1 (by rw [e1]; exact hz), fun q h1 h2 => by rw [e1, hk q (Nat.lt_of_lt_of_le h1 hW.2.2.1) (fun z => h2 (hF q z))]; exact hW.2.2.2.1 q h1 h2, fun q hq => by
      rcases List.mem_append.mp hq with h | h
      · exact hW.2.2.2.2 q h
      · exact hF _ (hL q h)⟩) T' rfl X'
  exact ⟨t2, st t2 a1, b1⟩
/-- what the tables say of y, called as x on an object of y's class -/
def zYf (x y : MethodName) (bytes : ByteArray) (maxL : Nat) (ret : Option FieldType) (n : Nat) : Prop := Cond.code y bytes maxL ret ∈ zAll ∧ Cond.initialized y.cls ∈ zAll ∧ (x.cls ≠ "java/lang/invoke/MethodHandle" ∧ x.cls ≠ "java/lang/invoke/VarHandle" ∧ (parseMethodDescriptor x.desc).map (fun d => d.parameters.length) = some n) ∧ Cond.instanceMethod y ∈ zAll ∧ Cond.selects y.cls x y ∈ zAll ∧ (y.cls, x, y) ∈ zFw
theorem zcF (B : zM p s m args c cc nL own G A) (hW : zW G A s.heap H locs (w1 ++ (wc ++ w2))) (hM : zC l y bytes maxL ret d mc ms G (.ref b :: As) wc post) (Y : zYf x y bytes maxL ret n) (hl : Cond.methodLink own idx x ∈ zAll)
    (q0 : Nat) {ci : Nat} {fs : List Value} {r : vw_C} (he : wc[q0]? = some (b, .inr (ci, fs))) (hcl : vwCl[ci]? = some r) (hcn : r.1 = y.cls) {st0 : List Value}
    (hn : As.length = n) (hsz : ls.size = nL) (hst : st0 = As.reverse ++ .ref b :: rest) (hrm : (rest.map fun v => v.category).sum ≤ 8) (hR : d + 1 ≤ R.frames ∧ 8 + (maxL + 11) + 80 * d ≤ R.locals) (hf : cells + mc ≤ R.cells ∧ slots + ms ≤ R.slots) (hdg : decode cc pc = .ok (.invokeinterface idx cnt, 5))
    (kk : ∀ (v : Option Value) (u : va_W) (H1 : Heap) (locs1 : List Loc), post v u → zW G A s.heap H1 locs1 (w1 ++ (u ++ w2)) → W p l e R s m args below meth c H1 locs1 (cells + mc) (slots + ms) Q (F0 m (pc + 5) ls (v.toList ++ rest))) :
    W p l e R s m args below meth c H locs cells slots Q (F0 m pc ls st0) := by
  obtain ⟨Y1, Y2, Y3, Y4, Y5, Y6⟩ := Y
  subst hst
  have hat := (B.K.1 ci r hcl).2
  rw [hcn] at hat
  refine zback5 B hW (va_runF (Ts := zAll) (As := As) (rest := rest) (C := y.cls) hat ⟨B.x, B.b, B.ml, B.o, B.ts⟩ (hM H.size) (va_cwF (Ts := zAll) n B.ts (fun w hw => ?_) rfl rfl rfl (B.E.2.2.1 _ Y6) Y3 hR) ⟨zPc_blind _ _ _ _, by rw [← hcn]; exact va_recv B.K (va_P_l (va_P_r hW.1)) hcl he, zpre B hW⟩ rfl hn hsz rfl (lv_room hrm) hdg hf) kk
  have hw2 : w ∈ zAll := by
    unfold va_wsF at hw
    rcases List.mem_append.mp hw with h | h
    · rcases List.mem_cons.mp h with rfl | h
      · exact hl
      · rcases List.mem_cons.mp h with rfl | h
        · exact Y5
        · rcases List.mem_cons.mp h with rfl | h
          · exact Y4
          · rcases List.mem_cons.mp h with rfl | h
            · exact Y2
            · cases h
    · rcases List.mem_cons.mp h with rfl | h
      · exact Y1
      · exact h
  exact ⟨hw2, good_of_word (zAll_good _ hw2)⟩
end ZLR
theorem yf_Jx4a65c_size_8abf5 : zYf ⟨"java/util/List", "size", "()I"⟩ yJx4a65c_size_8abf5 cJx4a65c_size_8abf5 1 (some .int) 0 := ⟨zMem 5109 (by decide +kernel) rfl, zMem 1013 (by decide +kernel) rfl, ⟨by decide +kernel, by decide +kernel, by decide +kernel⟩, zMem 5107 (by decide +kernel) rfl, zMem 5105 (by decide +kernel) rfl, by decide +kernel⟩
theorem yf_Jx4a65c_add_9ea2d : zYf ⟨"java/util/List", "add", "(Ljava/lang/Object;)Z"⟩ yJx4a65c_add_9ea2d cJx4a65c_add_9ea2d 2 (some .boolean) 1 := ⟨zMem 5150 (by decide +kernel) rfl, zMem 1013 (by decide +kernel) rfl, ⟨by decide +kernel, by decide +kernel, by decide +kernel⟩, zMem 5148 (by decide +kernel) rfl, zMem 5146 (by decide +kernel) rfl, by decide +kernel⟩
theorem yf_Jx4a65c_get_915e3 : zYf ⟨"java/util/List", "get", "(I)Ljava/lang/Object;"⟩ yJx4a65c_get_915e3 cJx4a65c_get_915e3 2 (some (.object "java/lang/Object")) 1 := ⟨zMem 5225 (by decide +kernel) rfl, zMem 1013 (by decide +kernel) rfl, ⟨by decide +kernel, by decide +kernel, by decide +kernel⟩, zMem 5223 (by decide +kernel) rfl, zMem 5221 (by decide +kernel) rfl, by decide +kernel⟩
theorem yf_Jx4a65c_iterator_32c93 : zYf ⟨"java/util/List", "iterator", "()Ljava/util/Iterator;"⟩ yJx4a65c_iterator_32c93 cJx4a65c_iterator_32c93 1 (some (.object "java/util/Iterator")) 0 := ⟨zMem 6004 (by decide +kernel) rfl, zMem 1013 (by decide +kernel) rfl, ⟨by decide +kernel, by decide +kernel, by decide +kernel⟩, zMem 6002 (by decide +kernel) rfl, zMem 6000 (by decide +kernel) rfl, by decide +kernel⟩
theorem yf_Jx4a65c_isEmpty_aae02 : zYf ⟨"java/util/List", "isEmpty", "()Z"⟩ yJx4a65c_isEmpty_aae02 cJx4a65c_isEmpty_aae02 1 (some .boolean) 0 := ⟨zMem 7049 (by decide +kernel) rfl, zMem 1013 (by decide +kernel) rfl, ⟨by decide +kernel, by decide +kernel, by decide +kernel⟩, zMem 7047 (by decide +kernel) rfl, zMem 7045 (by decide +kernel) rfl, by decide +kernel⟩
theorem yf_Jx35411_hasNext_aae02 : zYf ⟨"java/util/Iterator", "hasNext", "()Z"⟩ yJx35411_hasNext_aae02 cJx35411_hasNext_aae02 1 (some .boolean) 0 := ⟨zMem 6033 (by decide +kernel) rfl, zMem 1030 (by decide +kernel) rfl, ⟨by decide +kernel, by decide +kernel, by decide +kernel⟩, zMem 6031 (by decide +kernel) rfl, zMem 6029 (by decide +kernel) rfl, by decide +kernel⟩
theorem yf_Jx35411_next_0502b : zYf ⟨"java/util/Iterator", "next", "()Ljava/lang/Object;"⟩ yJx35411_next_0502b cJx35411_next_0502b 3 (some (.object "java/lang/Object")) 0 := ⟨zMem 6042 (by decide +kernel) rfl, zMem 1030 (by decide +kernel) rfl, ⟨by decide +kernel, by decide +kernel, by decide +kernel⟩, zMem 6040 (by decide +kernel) rfl, zMem 6038 (by decide +kernel) rfl, by decide +kernel⟩
theorem lf_Jx35411_17 : zFs RJx35411 17 3 0 := ⟨RJx4a65c, TJx4a65c, 3, "java/util/ArrayList", rfl, by decide, in_Jx4a65c, zMem 5018 (by decide +kernel) rfl, zMem 5019 (by decide +kernel) rfl⟩
theorem lf_Jx4a65c_63 : zFs RJx4a65c 63 3 0 := ⟨RJx4a65c, TJx4a65c, 3, "java/util/ArrayList", rfl, by decide, in_Jx4a65c, zMem 5020 (by decide +kernel) rfl, zMem 5019 (by decide +kernel) rfl⟩
theorem ko_X10 : Cond.castable RX10 "java/lang/Object" ∈ zNest := zMemN 7083 (by decide +kernel) rfl
theorem ko_X11 : Cond.castable RX11 "java/lang/Object" ∈ zNest := zMemN 7085 (by decide +kernel) rfl
theorem ko_X9 : Cond.castable RX9 "java/lang/Object" ∈ zNest := zMemN 7086 (by decide +kernel) rfl
end
section
abbrev zAL : Type := Int32 × Value × Int32
def alW (G : zG) (h : Nat) (ad : Nat → Nat) (x : zAL) : va_W := [(h, .inr (3, [.int x.1, x.2.1, .int x.2.2]))]
abbrev zIt : Type := Int32 × Int32 × Int32
def itW (G : zG) (h : Nat) (ad : Nat → Nat) (x : zIt) : va_W := [(h, .inr (2, [.int x.1, .int x.2.1, .int x.2.2, .ref (ad 0)]))]
set_option maxHeartbeats 4000000 in
set_option maxRecDepth 100000 in
theorem c_Jxa1e45_init_da8c8 (l : Launch) (G : zG) (h : Nat) (fs : List Value) : zC l yJxa1e45_init_da8c8 cJxa1e45_init_da8c8 1 none 1 0 0 G [.ref h] [(h, .inr (3, fs))] (fun r u => r = none ∧ u = [(h, .inr (3, fs))]) := by
  refine zC.of RJxa1e45 rfl (by decide) (Nat.le_of_ble_eq_true rfl) ?_
  intro p e s m args below meth c A ls B hr hlk hnm hW hl
  have hx := B.x
  have hb := B.b
  have hl : lv_has ls 1 [(0, .ref h)] := hl
  refine lv_aload_n hx hb dJxa1e45_init_da8c8_0 rfl (lv_at hl 0 rfl) ?_
  refine zobj B hl.1 ml_Jxa1e45_1 (Nat.le_of_ble_eq_true rfl) (Nat.le_of_ble_eq_true rfl) dJxa1e45_init_da8c8_1 ?_
  exact zvret B hr hlk hW ⟨rfl, rfl⟩ (Nat.le_refl _) (Nat.le_refl _) dJxa1e45_init_da8c8_4
set_option maxHeartbeats 4000000 in
set_option maxRecDepth 100000 in
theorem c_Jxc12de_init_da8c8 (l : Launch) (G : zG) (h : Nat) (v z : Value) (k : Int32) : zC l yJxc12de_init_da8c8 cJxc12de_init_da8c8 1 none 2 0 0 G [.ref h] [(h, .inr (3, [.int k, v, z]))] (fun r u => r = none ∧ u = [(h, .inr (3, [.int 0, v, z]))]) := by
  refine zC.of RJxc12de rfl (by decide) (Nat.le_of_ble_eq_true rfl) ?_
  intro p e s m args below meth c A ls B hr hlk hnm hW hl
  have hx := B.x
  have hb := B.b
  have hl : lv_has ls 1 [(0, .ref h)] := hl
  refine lv_aload_n hx hb dJxc12de_init_da8c8_0 rfl (lv_at hl 0 rfl) ?_
  refine zcI (w1 := []) (wc := [(h, .inr (3, [.int k, v, z]))]) (w2 := []) (As := []) B (hW.eq rfl) (c_Jxa1e45_init_da8c8 l G h _) yd_Jxa1e45_init_da8c8 ml_Jxc12de_1 rfl hl.1 rfl (Nat.le_of_ble_eq_true rfl) ⟨Nat.le_of_ble_eq_true rfl, Nat.le_of_ble_eq_true rfl⟩ ⟨Nat.le_of_ble_eq_true rfl, Nat.le_of_ble_eq_true rfl⟩ dJxc12de_init_da8c8_1 (fun v u H locs hp hW => ?_)
  obtain ⟨rfl, rfl⟩ := hp
  refine lv_aload_n hx hb dJxc12de_init_da8c8_4 rfl (lv_at hl 0 rfl) ?_
  refine lv_iconst (v := (0 : Int32)) hx hb dJxc12de_init_da8c8_5 (by decide) ?_
  refine zput B hW 0 rfl lf_Jxc12de_7 ft_Jx4a65c_0 rfl rfl (Nat.le_of_ble_eq_true rfl) dJxc12de_init_da8c8_6 (fun H locs hW => ?_)
  exact zvret B hr hlk (hW.eq rfl) ⟨rfl, rfl⟩ (Nat.le_of_ble_eq_true rfl) (Nat.le_of_ble_eq_true rfl) dJxc12de_init_da8c8_9
def i_Jx4a65c_init (G : zG) : zAL := ((0 : Int32), .ref G.2.2, (0 : Int32))
set_option maxHeartbeats 4000000 in
set_option maxRecDepth 100000 in
/-- new ArrayList() -/
theorem c_Jx4a65c_init_da8c8 (l : Launch) (G : zG) (h : Nat) : zC l yJx4a65c_init_da8c8 cJx4a65c_init_da8c8 1 none 3 0 0 G [.ref h] [(h, .inr (3, [.int 0, .null, .int 0]))] (fun r u => ∃ ad : Nat → Nat, r = none ∧ u = alW G h ad (i_Jx4a65c_init G)) := by
  refine zC.of RJx4a65c rfl (by decide) (Nat.le_of_ble_eq_true rfl) ?_
  intro p e s m args below meth c A ls B hr hlk hnm hW hl
  have hx := B.x
  have hb := B.b
  have hl : lv_has ls 1 [(0, .ref h)] := hl
  refine lv_aload_n hx hb dJx4a65c_init_da8c8_0 rfl (lv_at hl 0 rfl) ?_
  refine zcI (w1 := []) (wc := [(h, .inr (3, [.int 0, .null, .int 0]))]) (w2 := []) (As := []) B (hW.eq rfl) (c_Jxc12de_init_da8c8 l G h .null (.int 0) 0) yd_Jxc12de_init_da8c8 ml_Jx4a65c_1 rfl hl.1 rfl (Nat.le_of_ble_eq_true rfl) ⟨Nat.le_of_ble_eq_true rfl, Nat.le_of_ble_eq_true rfl⟩ ⟨Nat.le_of_ble_eq_true rfl, Nat.le_of_ble_eq_true rfl⟩ dJx4a65c_init_da8c8_1 (fun v u H locs hp hW => ?_)
  obtain ⟨rfl, rfl⟩ := hp
  refine lv_aload_n hx hb dJx4a65c_init_da8c8_4 rfl (lv_at hl 0 rfl) ?_
  refine zgetD B hW lg_Jx4a65c_39 dJx4a65c_init_da8c8_5 ?_
  refine zput B hW 0 rfl lf_Jx4a65c_9 ft_Jx4a65c_1 rfl rfl (Nat.le_of_ble_eq_true rfl) dJx4a65c_init_da8c8_8 (fun H locs hW => ?_)
  exact zvret B hr hlk (hW.eq rfl) ⟨fun _ => 0, rfl, rfl⟩ (Nat.le_of_ble_eq_true rfl) (Nat.le_of_ble_eq_true rfl) dJx4a65c_init_da8c8_11
def r_Jx4a65c_size_8abf5 (li_2 : Int32) : Int32 := li_2
abbrev po_Jx4a65c_size_8abf5 (G : zG) (h : Nat) (ad : Nat → Nat) (li : zAL) : Option Value → va_W → Prop := fun r u => r = some (.int (r_Jx4a65c_size_8abf5 li.2.2)) ∧ u = alW G h ad li
set_option maxHeartbeats 4000000 in
set_option maxRecDepth 100000 in
theorem c_Jx4a65c_size_8abf5 (l : Launch) (G : zG) (h : Nat) (ad : Nat → Nat) (li : zAL) : zC l yJx4a65c_size_8abf5 cJx4a65c_size_8abf5 1 (some .int) 0 0 0 G [.ref h] (alW G h ad li) (po_Jx4a65c_size_8abf5 G h ad li) := by
  refine zC.of RJx4a65c rfl (by decide) (Nat.le_of_ble_eq_true rfl) ?_
  intro p e s m args below meth c A ls B hr hlk hnm hW hl
  have hx := B.x
  have hb := B.b
  have hl : lv_has ls 1 [(0, .ref h)] := hl
  refine lv_aload_n hx hb dJx4a65c_size_8abf5_0 rfl (lv_at hl 0 rfl) ?_
  refine zget B hW 0 rfl lf_Jx4a65c_48 rfl dJx4a65c_size_8abf5_1 ?_
  exact ziret B hr hlk hW ⟨rfl, rfl⟩ (Nat.le_refl _) (Nat.le_refl _) dJx4a65c_size_8abf5_4
def r_Jx4a65c_isEmpty_aae02 (li_2 : Int32) : Int32 := (if li_2 = (0 : Int32) then (1 : Int32) else (0 : Int32))
abbrev po_Jx4a65c_isEmpty_aae02 (G : zG) (h : Nat) (ad : Nat → Nat) (li : zAL) : Option Value → va_W → Prop := fun r u => r = some (.int (r_Jx4a65c_isEmpty_aae02 li.2.2)) ∧ u = alW G h ad li
set_option maxHeartbeats 4000000 in
set_option maxRecDepth 100000 in
theorem c_Jx4a65c_isEmpty_aae02 (l : Launch) (G : zG) (h : Nat) (ad : Nat → Nat) (li : zAL) : zC l yJx4a65c_isEmpty_aae02 cJx4a65c_isEmpty_aae02 1 (some .boolean) 0 0 0 G [.ref h] (alW G h ad li) (po_Jx4a65c_isEmpty_aae02 G h ad li) := by
  refine zC.of RJx4a65c rfl (by decide) (Nat.le_of_ble_eq_true rfl) ?_
  intro p e s m args below meth c A ls B hr hlk hnm hW hl
  have hx := B.x
  have hb := B.b
  have hl : lv_has ls 1 [(0, .ref h)] := hl
  refine lv_aload_n hx hb dJx4a65c_isEmpty_aae02_0 rfl (lv_at hl 0 rfl) ?_
  refine zget B hW 0 rfl lf_Jx4a65c_48 rfl dJx4a65c_isEmpty_aae02_1 ?_
  have J_1 : ∀ (H : Heap) (locs : List Loc) (ls : Array Slot), zW G A s.heap H locs (alW G h ad li) → lv_has ls 1 [] → W p l e (zRm 0 0 0) s m args below meth c H locs 0 0 (MQ below (zQ G A (po_Jx4a65c_isEmpty_aae02 G h ad li)) args s 0 0 A) (F0 m 12 ls [.int (if li.2.2 = (0 : Int32) then (1 : Int32) else (0 : Int32))]) := by
    intro H locs ls hW hl
    exact zzret B hr hlk (by (repeat' split) <;> rfl) hW ⟨rfl, rfl⟩ (Nat.le_refl _) (Nat.le_refl _) dJx4a65c_isEmpty_aae02_12
  refine lv_if_ne (tgt := 11) hx hb dJx4a65c_isEmpty_aae02_4 (by decide) (fun c_4 => ?_) (fun c_4 => ?_)
  · refine lv_iconst (v := (0 : Int32)) hx hb dJx4a65c_isEmpty_aae02_11 (by decide) ?_
    have e_0 : (if li.2.2 = (0 : Int32) then (1 : Int32) else (0 : Int32)) = (0 : Int32) := if_neg c_4
    refine W.eq (g2 := F0 m 12 ls [.int (if li.2.2 = (0 : Int32) then (1 : Int32) else (0 : Int32))]) (by (try rw [e_0]) <;> rfl) ?_
    exact J_1 _ _ _ (hW.eq (by (try rw [e_0]) <;> rfl)) (by (try rw [e_0]) <;> exact lv_sub hl [] rfl)
  · refine lv_iconst (v := (1 : Int32)) hx hb dJx4a65c_isEmpty_aae02_7 (by decide) ?_
    refine lv_goto (tgt := 12) hx hb dJx4a65c_isEmpty_aae02_8 (by decide) ?_
    have e_0 : (if li.2.2 = (0 : Int32) then (1 : Int32) else (0 : Int32)) = (1 : Int32) := if_pos c_4
    refine W.eq (g2 := F0 m 12 ls [.int (if li.2.2 = (0 : Int32) then (1 : Int32) else (0 : Int32))]) (by (try rw [e_0]) <;> rfl) ?_
    exact J_1 _ _ _ (hW.eq (by (try rw [e_0]) <;> rfl)) (by (try rw [e_0]) <;> exact lv_sub hl [] rfl)
def i_Jx35411_init_45d68 (li : zAL) : zIt := (0, (-1 : Int32), li.1)
abbrev po_Jx35411_init_45d68 (G : zG) (h : Nat) (h2 : Nat) (ad2 : Nat → Nat) (li : zAL) : Option Value → va_W → Prop := fun r u => r = none ∧ u = itW G h (zads [h2]) (i_Jx35411_init_45d68 li) ++ (alW G h2 ad2 li)
set_option maxHeartbeats 4000000 in
set_option maxRecDepth 100000 in
theorem c_Jx35411_init_45d68 (l : Launch) (G : zG) (h : Nat) (h2 : Nat) (ad2 : Nat → Nat) (li : zAL) : zC l yJx35411_init_45d68 cJx35411_init_45d68 2 none 1 0 0 G [.ref h, .ref h2] (([(h, .inr (2, [.int 0, .int 0, .int 0, .null]))] : va_W) ++ (alW G h2 ad2 li)) (po_Jx35411_init_45d68 G h h2 ad2 li) := by
  refine zC.of RJx35411 rfl (by decide) (Nat.le_of_ble_eq_true rfl) ?_
  intro p e s m args below meth c A ls B hr hlk hnm hW hl
  have hx := B.x
  have hb := B.b
  have hl : lv_has ls 2 [(0, .ref h), (1, .ref h2)] := hl
  refine lv_aload_n hx hb dJx35411_init_45d68_0 rfl (lv_at hl 0 rfl) ?_
  refine lv_aload_n hx hb dJx35411_init_45d68_1 rfl (lv_at hl 1 rfl) ?_
  refine zputF B hW hnm 0 rfl lf_Jx35411_1 ft_Jx35411_3 (fun C T N h => by have e := Option.some.inj h; cases e; rfl) rfl rfl (Nat.le_of_ble_eq_true rfl) dJx35411_init_45d68_2 (fun H locs hW => ?_)
  have hW := hW.eq (w' := ([(h, .inr (2, [.int 0, .int 0, .int 0, .ref h2]))] : va_W) ++ (alW G h2 ad2 li)) rfl
  refine lv_aload_n hx hb dJx35411_init_45d68_5 rfl (lv_at hl 0 rfl) ?_
  refine zobj B hl.1 ml_Jx35411_7 (Nat.le_of_ble_eq_true rfl) (Nat.le_of_ble_eq_true rfl) dJx35411_init_45d68_6 ?_
  refine lv_aload_n hx hb dJx35411_init_45d68_9 rfl (lv_at hl 0 rfl) ?_
  refine lv_iconst (v := (-1 : Int32)) hx hb dJx35411_init_45d68_10 (by decide) ?_
  refine zput B hW 0 rfl lf_Jx35411_13 ft_Jx35411_1 rfl rfl (Nat.le_of_ble_eq_true rfl) dJx35411_init_45d68_11 (fun H locs hW => ?_)
  have hW := hW.eq (w' := ([(h, .inr (2, [.int 0, .int (-1 : Int32), .int 0, .ref h2]))] : va_W) ++ (alW G h2 ad2 li)) rfl
  refine lv_aload_n hx hb dJx35411_init_45d68_14 rfl (lv_at hl 0 rfl) ?_
  refine lv_aload_n hx hb dJx35411_init_45d68_15 rfl (lv_at hl 0 rfl) ?_
  refine zget B hW 0 rfl lf_Jx35411_1 rfl dJx35411_init_45d68_16 ?_
  refine zgetS B hW 1 rfl lf_Jx35411_17 rfl dJx35411_init_45d68_19 ?_
  refine zput B hW 0 rfl lf_Jx35411_22 ft_Jx35411_2 rfl rfl (Nat.le_of_ble_eq_true rfl) dJx35411_init_45d68_22 (fun H locs hW => ?_)
  have hW := hW.eq (w' := ([(h, .inr (2, [.int 0, .int (-1 : Int32), .int li.1, .ref h2]))] : va_W) ++ (alW G h2 ad2 li)) rfl
  have hW := hW.sub (w' := itW G h (zads [h2]) (0, (-1 : Int32), li.1) ++ (alW G h2 ad2 li)) [0, 1] rfl rfl
  exact zvret B hr hlk hW ⟨rfl, rfl⟩ (Nat.le_of_ble_eq_true rfl) (Nat.le_of_ble_eq_true rfl) dJx35411_init_45d68_25
abbrev po_Jx4a65c_iterator_32c93 (G : zG) (h : Nat) (ad : Nat → Nat) (li : zAL) : Option Value → va_W → Prop := fun r u => ∃ (h_it : Nat), r = some (.ref h_it) ∧ u = alW G h ad li ++ (itW G h_it (zads [h]) (i_Jx35411_init_45d68 li))
set_option maxHeartbeats 4000000 in
set_option maxRecDepth 100000 in
theorem c_Jx4a65c_iterator_32c93 (l : Launch) (G : zG) (h : Nat) (ad : Nat → Nat) (li : zAL) : zC l yJx4a65c_iterator_32c93 cJx4a65c_iterator_32c93 1 (some (.object "java/util/Iterator")) 2 1 4 G [.ref h] (alW G h ad li) (po_Jx4a65c_iterator_32c93 G h ad li) := by
  refine zC.of RJx4a65c rfl (by decide) (Nat.le_of_ble_eq_true rfl) ?_
  intro p e s m args below meth c A ls B hr hlk hnm hW hl
  have hx := B.x
  have hb := B.b
  have hl : lv_has ls 1 [(0, .ref h)] := hl
  refine znew B hW 2 4 tyJx35411 rfl in_Jx35411 tyJx35411_ok kl_Jx4a65c_267 ki_Jx35411 kz_Jx35411 rfl (Nat.le_of_ble_eq_true rfl) (Nat.le_of_ble_eq_true rfl) dJx4a65c_iterator_32c93_0 (fun q_0 H hW => ?_)
  have hW := hW.eq (w' := alW G h ad li ++ (([(q_0, .inr (2, [.int 0, .int 0, .int 0, .null]))] : va_W))) rfl
  refine lv_dup hx hb dJx4a65c_iterator_32c93_3 rfl ?_
  refine lv_aload_n hx hb dJx4a65c_iterator_32c93_4 rfl (lv_at hl 0 rfl) ?_
  have hW := hW.sub (w' := ([(q_0, .inr (2, [.int 0, .int 0, .int 0, .null]))] : va_W) ++ (alW G h ad li)) [1, 0] rfl rfl
  refine zcI (w1 := []) (wc := ([(q_0, .inr (2, [.int 0, .int 0, .int 0, .null]))] : va_W) ++ (alW G h ad li)) (w2 := []) (As := [.ref h]) B (hW.eq rfl) (c_Jx35411_init_45d68 l G q_0 h ad li) yd_Jx35411_init_45d68 ml_Jx4a65c_269 rfl hl.1 rfl (Nat.le_of_ble_eq_true rfl) ⟨Nat.le_of_ble_eq_true rfl, Nat.le_of_ble_eq_true rfl⟩ ⟨(Nat.le_of_ble_eq_true rfl), (Nat.le_of_ble_eq_true rfl)⟩ dJx4a65c_iterator_32c93_5 (fun v u H locs hp hW => ?_)
  obtain ⟨rfl, rfl⟩ := hp
  have hW := hW.eq (w' := itW G q_0 (zads [h]) (i_Jx35411_init_45d68 li) ++ (alW G h ad li)) rfl
  have hW := hW.sub (w' := alW G h ad li ++ (itW G q_0 (zads [h]) (i_Jx35411_init_45d68 li))) [1, 0] rfl rfl
  exact zaret B hr hlk (Or.inl ⟨_, rfl⟩) (Or.inr ⟨_, rfl⟩) hW ⟨q_0, rfl, rfl⟩ (Nat.le_refl _) (Nat.le_refl _) dJx4a65c_iterator_32c93_8
def r_Jx35411_hasNext_aae02 (it_0 : Int32) (li_2 : Int32) : Int32 := (if it_0 = li_2 then (0 : Int32) else (1 : Int32))
abbrev po_Jx35411_hasNext_aae02 (G : zG) (h : Nat) (ad : Nat → Nat) (it : zIt) (ad2 : Nat → Nat) (li : zAL) : Option Value → va_W → Prop := fun r u => r = some (.int (r_Jx35411_hasNext_aae02 it.1 li.2.2)) ∧ u = itW G h ad it ++ (alW G (ad 0) ad2 li)
set_option maxHeartbeats 4000000 in
set_option maxRecDepth 100000 in
theorem c_Jx35411_hasNext_aae02 (l : Launch) (G : zG) (h : Nat) (ad : Nat → Nat) (it : zIt) (ad2 : Nat → Nat) (li : zAL) : zC l yJx35411_hasNext_aae02 cJx35411_hasNext_aae02 1 (some .boolean) 0 0 0 G [.ref h] (itW G h ad it ++ (alW G (ad 0) ad2 li)) (po_Jx35411_hasNext_aae02 G h ad it ad2 li) := by
  refine zC.of RJx35411 rfl (by decide) (Nat.le_of_ble_eq_true rfl) ?_
  intro p e s m args below meth c A ls B hr hlk hnm hW hl
  have hx := B.x
  have hb := B.b
  have hl : lv_has ls 1 [(0, .ref h)] := hl
  refine lv_aload_n hx hb dJx35411_hasNext_aae02_0 rfl (lv_at hl 0 rfl) ?_
  refine zget B hW 0 rfl lf_Jx35411_25 rfl dJx35411_hasNext_aae02_1 ?_
  refine lv_aload_n hx hb dJx35411_hasNext_aae02_4 rfl (lv_at hl 0 rfl) ?_
  refine zget B hW 0 rfl lf_Jx35411_1 rfl dJx35411_hasNext_aae02_5 ?_
  refine zgetN B hW 1 rfl lf_Jx35411_28 rfl dJx35411_hasNext_aae02_8 ?_
  have J_1 : ∀ (H : Heap) (locs : List Loc) (ls : Array Slot), zW G A s.heap H locs (itW G h ad it ++ (alW G (ad 0) ad2 li)) → lv_has ls 1 [] → W p l e (zRm 0 0 0) s m args below meth c H locs 0 0 (MQ below (zQ G A (po_Jx35411_hasNext_aae02 G h ad it ad2 li)) args s 0 0 A) (F0 m 19 ls [.int (if it.1 = li.2.2 then (0 : Int32) else (1 : Int32))]) := by
    intro H locs ls hW hl
    exact zzret B hr hlk (by (repeat' split) <;> rfl) hW ⟨rfl, rfl⟩ (Nat.le_refl _) (Nat.le_refl _) dJx35411_hasNext_aae02_19
  refine lv_icmp_eq (tgt := 18) hx hb dJx35411_hasNext_aae02_11 (by decide) (fun c_11 => ?_) (fun c_11 => ?_)
  · refine lv_iconst (v := (0 : Int32)) hx hb dJx35411_hasNext_aae02_18 (by decide) ?_
    have e_0 : (if it.1 = li.2.2 then (0 : Int32) else (1 : Int32)) = (0 : Int32) := if_pos c_11
    refine W.eq (g2 := F0 m 19 ls [.int (if it.1 = li.2.2 then (0 : Int32) else (1 : Int32))]) (by (try rw [e_0]) <;> rfl) ?_
    exact J_1 _ _ _ (hW.eq (by (try rw [e_0]) <;> rfl)) (by (try rw [e_0]) <;> exact lv_sub hl [] rfl)
  · refine lv_iconst (v := (1 : Int32)) hx hb dJx35411_hasNext_aae02_14 (by decide) ?_
    refine lv_goto (tgt := 19) hx hb dJx35411_hasNext_aae02_15 (by decide) ?_
    have e_0 : (if it.1 = li.2.2 then (0 : Int32) else (1 : Int32)) = (1 : Int32) := if_neg c_11
    refine W.eq (g2 := F0 m 19 ls [.int (if it.1 = li.2.2 then (0 : Int32) else (1 : Int32))]) (by (try rw [e_0]) <;> rfl) ?_
    exact J_1 _ _ _ (hW.eq (by (try rw [e_0]) <;> rfl)) (by (try rw [e_0]) <;> exact lv_sub hl [] rfl)
end
section
/-! lists of any size: the header (alW), its row (rwW: none at all while the list is new), its entries (a segment) -/
def zEl (G : zG) (e : va_E) : Prop := (∃ (ci : Nat) (vs : List Value) (r : vw_C), e = .inr (ci, vs) ∧ vwCl[ci]? = some r ∧ Cond.castable r.1 "java/lang/Object" ∈ zNest) ∨ (∃ (n : Nat) (f : Nat → Int32), e = .inl (G.2.1 0, n, .inl f) ∧ Cond.castable "[I" "java/lang/Object" ∈ zNest)
def laF (n : Nat) (a : Nat → Nat) : Nat → Option Nat := fun j => if j < n then some (a j) else none
def zLv (G : zG) (N q : Nat) : Value := .ref (if N = 0 then G.2.2 else q)
abbrev zRw : Type := Nat × Nat
def rwW (G : zG) (q : Nat) (a : Nat → Nat) (x : zRw) : va_W := if x.2 = 0 then [] else [(q, .inl (G.2.1 3, x.2, .inr (.inr (.inr (.inr (laF x.1 a))))))]
def zNc (n N : Nat) : Nat := if n < N then N else if N = 0 then 10 else N + N / 2
theorem rw_p {G : zG} {q n N : Nat} {a : Nat → Nat} (h : 0 < N) : rwW G q a (n, N) = [(q, .inl (G.2.1 3, N, .inr (.inr (.inr (.inr (laF n a))))))] := if_neg (by show ¬ N = 0; omega)
theorem rw_0 {G : zG} {q n : Nat} {a : Nat → Nat} : rwW G q a (n, 0) = [] := rfl
theorem zLv_p {G : zG} {N q : Nat} (h : 0 < N) : zLv G N q = .ref q := by unfold zLv; rw [if_neg (by omega)]
theorem zLv_0 {G : zG} {q : Nat} : zLv G 0 q = .ref G.2.2 := rfl
theorem laF_i {n j : Nat} {a : Nat → Nat} (h : j < n) : laF n a j = some (a j) := if_pos h
theorem laF_up {n v : Nat} {a : Nat → Nat} : va_up (laF n a) n (some v) = laF (n + 1) (va_up a n v) := by
  funext j
  show (if j = n then some v else (if j < n then some (a j) else none)) = (if j < n + 1 then some (if j = n then v else a j) else none)
  by_cases h : j = n
  · rw [if_pos h, if_pos (by omega), if_pos h]
  · rw [if_neg h, if_neg h]
    by_cases h1 : j < n
    · rw [if_pos h1, if_pos (by omega)]
    · rw [if_neg h1, if_neg (by omega)]
theorem laF_cpy {n : Nat} {a : Nat → Nat} : va_cpy (laF n a) (fun _ => none) 0 0 n = laF n a := by
  funext j
  unfold va_cpy
  by_cases h : j < n
  · rw [if_pos ⟨Nat.zero_le _, by omega⟩]
    congr 1
    omega
  · rw [if_neg (by omega)]
    unfold laF
    rw [if_neg h]
section ZL2
variable {p : Program} {l : Launch} {e : Env} {R : Room} {s : State} {m : MethodId} {args : Array Value} {below : List Frame} {meth : Method} {c : Code} {H : Heap} {locs : List Loc} {cells slots : Nat} {Q : State → Prop}
variable {cc bytes : ByteArray} {nL pc idx : Nat} {own : String} {G : zG} {A : Nat → Prop} {w : va_W} {ls : Array Slot} {rest : List Value} {a b : Nat}
theorem zEl.any (B : zM p s m args c cc nL own G A) (hP : va_P G.1 vwCl w H) {k v : Nat} {x : va_E} (he : w[k]? = some (v, x)) (h : zEl G x) : va_Any "java/lang/Object" s H v := by
  rcases h with ⟨ci, vs, r, rfl, hc, hca⟩ | ⟨n, f, rfl, hca⟩
  · refine va_rAny B.K hP he hc (fun comp c0 h1 h2 => ?_)
    obtain ⟨x, t, f1, f2, f3⟩ := Cond.castable_spec (va_Nw.use (A := #[]) rfl (B.nw hca))
    cases h2.symm.trans f1
    cases h1.symm.trans f2
    exact f3
  · obtain ⟨-, k0, hk0, cm, hkk⟩ := (B.K.2 0 _ rfl).1 n (fun j => .int (f j))
    refine ⟨_, hP k _ he, rfl, ⟨k0, hk0⟩, fun comp hcomp => ?_⟩
    obtain ⟨x, t, f1, f2, f3⟩ := Cond.castable_spec (va_Nw.use (A := #[]) rfl (B.nw hca))
    have h2 : s.vm.findClass "[I" = some (G.2.1 0) := (B.K.2 0 _ rfl).2
    cases h2.symm.trans f1
    cases hcomp.symm.trans f2
    exact f3
/-- anything into a row of objects -/
theorem zmast (B : zM p s m args c cc nL own G A) (hW : zW G A s.heap H locs w) (q0 : Nat) {a n v : Nat} {f : Nat → Option Nat} (he : w[q0]? = some (a, .inl (G.2.1 3, n, .inr (.inr (.inr (.inr f)))))) (hv : va_Any "java/lang/Object" s H v) {i : Int32} (hin : vp_in i n) (hdg : decode cc pc = .ok (.aastore, 1))
    (kk : ∀ (H1 : Heap) (locs1 : List Loc), zW G A s.heap H1 locs1 (w.set q0 (a, .inl (G.2.1 3, n, .inr (.inr (.inr (.inr (va_up f i.toNatClampNeg (some v)))))))) → W p l e R s m args below meth c H1 locs1 cells slots Q (F0 m (pc + 1) ls rest)) : W p l e R s m args below meth c H locs cells slots Q (F0 m pc ls (.ref v :: .int i :: .ref a :: rest)) :=
  va_astqM (D := G.1) (cl := vwCl) (tys := zTy G) (A := A) B.x B.b B.K hW.1 hW.2.1 hW.2.2 q0 3 he rfl hv hin hdg (fun H1 l1 h1 h2 h3 => kk H1 l1 ⟨h1, h2, h3⟩)
/-- an entry of a row of objects -/
theorem zmald (B : zM p s m args c cc nL own G A) (hW : zW G A s.heap H locs w) (q0 : Nat) {a n v : Nat} {f : Nat → Option Nat} (he : w[q0]? = some (a, .inl (G.2.1 3, n, .inr (.inr (.inr (.inr f)))))) {i : Int32} (hin : vp_in i n) (hv : f i.toNatClampNeg = some v) (hdg : decode cc pc = .ok (.aaload, 1))
    (kk : W p l e R s m args below meth c H locs cells slots Q (F0 m (pc + 1) ls (.ref v :: rest))) : W p l e R s m args below meth c H locs cells slots Q (F0 m pc ls (.int i :: .ref a :: rest)) :=
  va_aldq (D := G.1) (cl := vwCl) (tys := zTy G) B.x B.b B.K hW.1 q0 3 he rfl hin hdg (by rw [hv]; exact kk)
/-- a row's length -/
theorem zmlen (B : zM p s m args c cc nL own G A) (hW : zW G A s.heap H locs w) (q0 : Nat) {a n : Nat} {f : Nat → Option Nat} (he : w[q0]? = some (a, .inl (G.2.1 3, n, .inr (.inr (.inr (.inr f)))))) (hdg : decode cc pc = .ok (.arraylength, 1))
    (kk : W p l e R s m args below meth c H locs cells slots Q (F0 m (pc + 1) ls (.int (nI n) :: rest))) : W p l e R s m args below meth c H locs cells slots Q (F0 m pc ls (.ref a :: rest)) :=
  zalen B hW q0 3 he rfl hdg kk
end ZL2
/-! Objects.checkIndex -/
set_option maxHeartbeats 4000000 in
set_option maxRecDepth 100000 in
theorem c_J3_checkIndex (l : Launch) (G : zG) (i n : Nat) (hi : i < n) (hn : n < 2 ^ 31) : zC l yJ3_checkIndex_8e157 cJ3_checkIndex_8e157 3 (some .int) 0 0 0 G [.int (nI i), .int (nI n), .null] [] (fun r u => r = some (.int (nI i)) ∧ u = []) := by
  refine zC.of RJ3 rfl (by decide) (Nat.le_of_ble_eq_true rfl) ?_
  intro p e s m args below meth c A ls B hr hlk hnm hW hl
  have hx := B.x
  have hb := B.b
  have hl : lv_has ls 3 [(0, .int (nI i)), (1, .int (nI n)), (2, .null)] := hl
  refine lv_iload_n hx hb dJ3_checkIndex_8e157_0 rfl (lv_at hl 0 rfl) ?_
  refine lv_if_lt (tgt := 9) hx hb dJ3_checkIndex_8e157_1 (by decide) (fun c_1 => absurd c_1 (nI_pos (by omega))) (fun c_1 => ?_)
  refine lv_iload_n hx hb dJ3_checkIndex_8e157_4 rfl (lv_at hl 0 rfl) ?_
  refine lv_iload_n hx hb dJ3_checkIndex_8e157_5 rfl (lv_at hl 1 rfl) ?_
  refine lv_icmp_lt (tgt := 16) hx hb dJ3_checkIndex_8e157_6 (by decide) (fun c_6 => ?_) (fun c_6 => absurd (nI_lt hi hn) c_6)
  refine lv_iload_n hx hb dJ3_checkIndex_8e157_16 rfl (lv_at hl 0 rfl) ?_
  exact ziret B hr hlk hW ⟨rfl, rfl⟩ (Nat.le_refl _) (Nat.le_refl _) dJ3_checkIndex_8e157_17
set_option maxHeartbeats 4000000 in
set_option maxRecDepth 100000 in
theorem c_J15_checkIndex (l : Launch) (G : zG) (i n : Nat) (hi : i < n) (hn : n < 2 ^ 31) : zC l yJ15_checkIndex_7cf53 cJ15_checkIndex_7cf53 2 (some .int) 1 0 0 G [.int (nI i), .int (nI n)] [] (fun r u => r = some (.int (nI i)) ∧ u = []) := by
  refine zC.of RJ15 rfl (by decide) (Nat.le_of_ble_eq_true rfl) ?_
  intro p e s m args below meth c A ls B hr hlk hnm hW hl
  have hx := B.x
  have hb := B.b
  have hl : lv_has ls 2 [(0, .int (nI i)), (1, .int (nI n))] := hl
  refine lv_iload_n hx hb dJ15_checkIndex_7cf53_0 rfl (lv_at hl 0 rfl) ?_
  refine lv_iload_n hx hb dJ15_checkIndex_7cf53_1 rfl (lv_at hl 1 rfl) ?_
  refine lv_null hx hb dJ15_checkIndex_7cf53_2 ?_
  refine zcS (w1 := []) (wc := []) (w2 := []) (As := [.int (nI i), .int (nI n), .null]) B (hW.eq rfl) (c_J3_checkIndex l G i n hi hn) yd_J3_checkIndex_8e157 ml_J15_105 rfl hl.1 rfl (Nat.le_of_ble_eq_true rfl) ⟨Nat.le_of_ble_eq_true rfl, Nat.le_of_ble_eq_true rfl⟩ ⟨(Nat.le_of_ble_eq_true rfl), (Nat.le_of_ble_eq_true rfl)⟩ dJ15_checkIndex_7cf53_3 (fun v u H locs hp hW => ?_)
  obtain ⟨rfl, rfl⟩ := hp
  exact ziret B hr hlk (hW.eq rfl) ⟨rfl, rfl⟩ (Nat.le_refl _) (Nat.le_refl _) dJ15_checkIndex_7cf53_6
/-! get -/
set_option maxHeartbeats 4000000 in
set_option maxRecDepth 100000 in
theorem c_elementData (l : Launch) (G : zG) (h q i n N : Nat) (a : Nat → Nat) (mc : Int32) (hi : i < n) (hnN : n ≤ N) (hN : N < 2 ^ 31) : zC l yJx4a65c_elementData_915e3 cJx4a65c_elementData_915e3 2 (some (.object "java/lang/Object")) 0 0 0 G [.ref h, .int (nI i)] ([(h, .inr (3, [.int mc, .ref q, .int (nI n)])), (q, .inl (G.2.1 3, N, .inr (.inr (.inr (.inr (laF n a))))))]) (fun r u => r = some (.ref (a i)) ∧ u = [(h, .inr (3, [.int mc, .ref q, .int (nI n)])), (q, .inl (G.2.1 3, N, .inr (.inr (.inr (.inr (laF n a))))))]) := by
  refine zC.of RJx4a65c rfl (by decide) (Nat.le_of_ble_eq_true rfl) ?_
  intro p e s m args below meth c A ls B hr hlk hnm hW hl
  have hx := B.x
  have hb := B.b
  have hl : lv_has ls 2 [(0, .ref h), (1, .int (nI i))] := hl
  refine lv_aload_n hx hb dJx4a65c_elementData_915e3_0 rfl (lv_at hl 0 rfl) ?_
  refine zget B hW 0 rfl lf_Jx4a65c_9 rfl dJx4a65c_elementData_915e3_1 ?_
  refine lv_iload_n hx hb dJx4a65c_elementData_915e3_4 rfl (lv_at hl 1 rfl) ?_
  refine zmald B hW 1 rfl (vp_in_nI (by omega) hN) (by rw [nI_clamp (by omega)]; exact laF_i hi) dJx4a65c_elementData_915e3_5 ?_
  exact zaret B hr hlk (Or.inl ⟨_, rfl⟩) (Or.inr ⟨_, rfl⟩) hW ⟨rfl, rfl⟩ (Nat.le_refl _) (Nat.le_refl _) dJx4a65c_elementData_915e3_6
set_option maxHeartbeats 4000000 in
set_option maxRecDepth 100000 in
theorem c_get (l : Launch) (G : zG) (h : Nat) (ad : Nat → Nat) (mc : Int32) (q n N : Nat) (a : Nat → Nat) (x : Int32) (i : Nat) (hx0 : x = nI i) (hi : i < n) (hnN : n ≤ N) (hN : N < 2 ^ 31) : zC l yJx4a65c_get_915e3 cJx4a65c_get_915e3 2 (some (.object "java/lang/Object")) 2 0 0 G [.ref h, .int x] (alW G h ad (mc, zLv G N q, nI n) ++ rwW G q a (n, N)) (fun r u => r = some (.ref (a i)) ∧ u = alW G h ad (mc, zLv G N q, nI n) ++ rwW G q a (n, N)) := by
  subst hx0
  rw [rw_p (by omega), zLv_p (by omega)]
  refine zC.of RJx4a65c rfl (by decide) (Nat.le_of_ble_eq_true rfl) ?_
  intro p e s m args below meth c A ls B hr hlk hnm hW hl
  have hx := B.x
  have hb := B.b
  have hl : lv_has ls 2 [(0, .ref h), (1, .int (nI i))] := hl
  refine lv_iload_n hx hb dJx4a65c_get_915e3_0 rfl (lv_at hl 1 rfl) ?_
  refine lv_aload_n hx hb dJx4a65c_get_915e3_1 rfl (lv_at hl 0 rfl) ?_
  refine zget B hW 0 rfl lf_Jx4a65c_48 rfl dJx4a65c_get_915e3_2 ?_
  refine zcS (w1 := []) (wc := []) (w2 := [(h, .inr (3, [.int mc, .ref q, .int (nI n)])), (q, .inl (G.2.1 3, N, .inr (.inr (.inr (.inr (laF n a))))))]) (As := [.int (nI i), .int (nI n)]) B (hW.eq rfl) (c_J15_checkIndex l G i n hi (by omega)) yd_J15_checkIndex_7cf53 ml_Jx4a65c_118 rfl hl.1 rfl (Nat.le_of_ble_eq_true rfl) ⟨Nat.le_of_ble_eq_true rfl, Nat.le_of_ble_eq_true rfl⟩ ⟨(Nat.le_of_ble_eq_true rfl), (Nat.le_of_ble_eq_true rfl)⟩ dJx4a65c_get_915e3_5 (fun v u H locs hp hW => ?_)
  obtain ⟨rfl, rfl⟩ := hp
  refine lv_pop hx hb dJx4a65c_get_915e3_8 rfl ?_
  refine lv_aload_n hx hb dJx4a65c_get_915e3_9 rfl (lv_at hl 0 rfl) ?_
  refine lv_iload_n hx hb dJx4a65c_get_915e3_10 rfl (lv_at hl 1 rfl) ?_
  refine zcV (w1 := []) (wc := [(h, .inr (3, [.int mc, .ref q, .int (nI n)])), (q, .inl (G.2.1 3, N, .inr (.inr (.inr (.inr (laF n a))))))]) (w2 := []) (As := [.int (nI i)]) B (hW.eq rfl) (c_elementData l G h q i n N a mc hi hnN hN) yd_Jx4a65c_elementData_915e3 ml_Jx4a65c_123 0 rfl rfl rfl rfl hl.1 rfl (Nat.le_of_ble_eq_true rfl) ⟨Nat.le_of_ble_eq_true rfl, Nat.le_of_ble_eq_true rfl⟩ ⟨(Nat.le_of_ble_eq_true rfl), (Nat.le_of_ble_eq_true rfl)⟩ dJx4a65c_get_915e3_11 (fun v u H locs hp hW => ?_)
  obtain ⟨rfl, rfl⟩ := hp
  exact zaret B hr hlk (Or.inl ⟨_, rfl⟩) (Or.inr ⟨_, rfl⟩) (hW.eq rfl) ⟨rfl, rfl⟩ (Nat.le_refl _) (Nat.le_refl _) dJx4a65c_get_915e3_14
/-! an iterator's next -/
set_option maxHeartbeats 4000000 in
set_option maxRecDepth 100000 in
theorem c_checkMod (l : Launch) (G : zG) (h h2 : Nat) (cu la mc : Int32) (v z : Value) : zC l yJx35411_checkForComodification_da8c8 cJx35411_checkForComodification_da8c8 1 none 0 0 0 G [.ref h] ([(h, .inr (2, [.int cu, .int la, .int mc, .ref h2])), (h2, .inr (3, [.int mc, v, z]))]) (fun r u => r = none ∧ u = [(h, .inr (2, [.int cu, .int la, .int mc, .ref h2])), (h2, .inr (3, [.int mc, v, z]))]) := by
  refine zC.of RJx35411 rfl (by decide) (Nat.le_of_ble_eq_true rfl) ?_
  intro p e s m args below meth c A ls B hr hlk hnm hW hl
  have hx := B.x
  have hb := B.b
  have hl : lv_has ls 1 [(0, .ref h)] := hl
  refine lv_aload_n hx hb dJx35411_checkForComodification_da8c8_0 rfl (lv_at hl 0 rfl) ?_
  refine zget B hW 0 rfl lf_Jx35411_1 rfl dJx35411_checkForComodification_da8c8_1 ?_
  refine zgetS B hW 1 rfl lf_Jx35411_17 rfl dJx35411_checkForComodification_da8c8_4 ?_
  refine lv_aload_n hx hb dJx35411_checkForComodification_da8c8_7 rfl (lv_at hl 0 rfl) ?_
  refine zget B hW 0 rfl lf_Jx35411_22 rfl dJx35411_checkForComodification_da8c8_8 ?_
  refine lv_icmp_eq (tgt := 22) hx hb dJx35411_checkForComodification_da8c8_11 (by decide) (fun c_11 => ?_) (fun c_11 => absurd rfl c_11)
  exact zvret B hr hlk hW ⟨rfl, rfl⟩ (Nat.le_refl _) (Nat.le_refl _) dJx35411_checkForComodification_da8c8_22
set_option maxHeartbeats 4000000 in
set_option maxRecDepth 100000 in
theorem c_next (l : Launch) (G : zG) (h : Nat) (ad ad2 : Nat → Nat) (la mc : Int32) (q n N : Nat) (a : Nat → Nat) (i : Nat) (hi : i < n) (hnN : n ≤ N) (hN : N < 2 ^ 31) : zC l yJx35411_next_0502b cJx35411_next_0502b 3 (some (.object "java/lang/Object")) 1 0 0 G [.ref h] (itW G h ad (nI i, la, mc) ++ (alW G (ad 0) ad2 (mc, zLv G N q, nI n) ++ rwW G q a (n, N))) (fun r u => r = some (.ref (a i)) ∧ u = itW G h ad (nI (i + 1), nI i, mc) ++ (alW G (ad 0) ad2 (mc, zLv G N q, nI n) ++ rwW G q a (n, N))) := by
  rw [rw_p (by omega), zLv_p (by omega)]
  refine zC.of RJx35411 rfl (by decide) (Nat.le_of_ble_eq_true rfl) ?_
  intro p e s m args below meth c A ls B hr hlk hnm hW hl
  have hx := B.x
  have hb := B.b
  have hl : lv_has ls 3 [(0, .ref h)] := hl
  refine lv_aload_n hx hb dJx35411_next_0502b_0 rfl (lv_at hl 0 rfl) ?_
  refine zcV (w1 := []) (wc := [(h, .inr (2, [.int (nI i), .int la, .int mc, .ref (ad 0)])), (ad 0, .inr (3, [.int mc, .ref q, .int (nI n)]))]) (w2 := [(q, .inl (G.2.1 3, N, .inr (.inr (.inr (.inr (laF n a))))))]) (As := []) B (hW.eq rfl) (c_checkMod l G h (ad 0) (nI i) la mc _ _) yd_Jx35411_checkForComodification_da8c8 ml_Jx35411_31 0 rfl rfl rfl rfl hl.1 rfl (Nat.le_of_ble_eq_true rfl) ⟨Nat.le_of_ble_eq_true rfl, Nat.le_of_ble_eq_true rfl⟩ ⟨(Nat.le_of_ble_eq_true rfl), (Nat.le_of_ble_eq_true rfl)⟩ dJx35411_next_0502b_1 (fun v u H locs hp hW => ?_)
  obtain ⟨rfl, rfl⟩ := hp
  have hW := hW.eq (w' := [(h, .inr (2, [.int (nI i), .int la, .int mc, .ref (ad 0)])), (ad 0, .inr (3, [.int mc, .ref q, .int (nI n)])), (q, .inl (G.2.1 3, N, .inr (.inr (.inr (.inr (laF n a))))))]) rfl
  refine lv_aload_n hx hb dJx35411_next_0502b_4 rfl (lv_at hl 0 rfl) ?_
  refine zget B hW 0 rfl lf_Jx35411_25 rfl dJx35411_next_0502b_5 ?_
  refine lv_istore_n hx hb dJx35411_next_0502b_8 rfl hl (by decide) rfl (fun ls hl => ?_)
  refine lv_iload_n hx hb dJx35411_next_0502b_9 rfl (lv_at hl 0 rfl) ?_
  refine lv_aload_n hx hb dJx35411_next_0502b_10 rfl (lv_at hl 1 rfl) ?_
  refine zget B hW 0 rfl lf_Jx35411_1 rfl dJx35411_next_0502b_11 ?_
  refine zgetN B hW 1 rfl lf_Jx35411_28 rfl dJx35411_next_0502b_14 ?_
  refine lv_icmp_lt (tgt := 28) hx hb dJx35411_next_0502b_17 (by decide) (fun c_17 => ?_) (fun c_17 => absurd (nI_lt hi (by omega)) c_17)
  refine lv_aload_n hx hb dJx35411_next_0502b_28 rfl (lv_at hl 1 rfl) ?_
  refine zget B hW 0 rfl lf_Jx35411_1 rfl dJx35411_next_0502b_29 ?_
  refine zget B hW 1 rfl lf_Jx35411_37 rfl dJx35411_next_0502b_32 ?_
  refine lv_astore_n hx hb dJx35411_next_0502b_35 rfl hl (by decide) rfl (fun ls hl => ?_)
  refine lv_iload_n hx hb dJx35411_next_0502b_36 rfl (lv_at hl 1 rfl) ?_
  refine lv_aload_n hx hb dJx35411_next_0502b_37 rfl (lv_at hl 0 rfl) ?_
  refine zmlen B hW 2 rfl dJx35411_next_0502b_38 ?_
  refine lv_icmp_lt (tgt := 50) hx hb dJx35411_next_0502b_39 (by decide) (fun c_39 => ?_) (fun c_39 => absurd (nI_lt (by omega) hN) c_39)
  refine lv_aload_n hx hb dJx35411_next_0502b_50 rfl (lv_at hl 2 rfl) ?_
  refine lv_iload_n hx hb dJx35411_next_0502b_51 rfl (lv_at hl 1 rfl) ?_
  refine lv_iconst (v := (1 : Int32)) hx hb dJx35411_next_0502b_52 (by decide) ?_
  refine lv_iadd hx hb dJx35411_next_0502b_53 ?_
  refine W.eq (g2 := F0 m 54 ls [.int (nI (i + 1)), .ref h]) (by rw [← nI_1] <;> rfl) ?_
  refine zput B hW 0 rfl lf_Jx35411_25 ft_Jx35411_0 rfl rfl (Nat.le_of_ble_eq_true rfl) dJx35411_next_0502b_54 (fun H locs hW => ?_)
  refine lv_aload_n hx hb dJx35411_next_0502b_57 rfl (lv_at hl 0 rfl) ?_
  refine lv_aload_n hx hb dJx35411_next_0502b_58 rfl (lv_at hl 2 rfl) ?_
  refine lv_iload_n hx hb dJx35411_next_0502b_59 rfl (lv_at hl 1 rfl) ?_
  refine lv_dup_x1 hx hb dJx35411_next_0502b_60 rfl rfl ?_
  refine zput B hW 0 rfl lf_Jx35411_13 ft_Jx35411_1 rfl rfl (Nat.le_of_ble_eq_true rfl) dJx35411_next_0502b_61 (fun H locs hW => ?_)
  refine zmald B hW 2 rfl (vp_in_nI (by omega) hN) (by rw [nI_clamp (by omega)]; exact laF_i hi) dJx35411_next_0502b_64 ?_
  exact zaret B hr hlk (Or.inl ⟨_, rfl⟩) (Or.inr ⟨_, rfl⟩) (hW.eq rfl) ⟨rfl, rfl⟩ (Nat.le_refl _) (Nat.le_refl _) dJx35411_next_0502b_65
end
section
theorem kg_sel : Cond.selects "[Ljava/lang/Object;" ⟨"java/lang/Object", "getClass", "()Ljava/lang/Class;"⟩ ⟨"java/lang/Object", "getClass", "()Ljava/lang/Class;"⟩ ∈ zAll := zMem 7091 (by decide +kernel) rfl
theorem kg_im : Cond.instanceMethod ⟨"java/lang/Object", "getClass", "()Ljava/lang/Class;"⟩ ∈ zAll := zMem 5177 (by decide +kernel) rfl
theorem kg_nat : Cond.native ⟨"java/lang/Object", "getClass", "()Ljava/lang/Class;"⟩ ∈ zAll := zMem 5200 (by decide +kernel) rfl
theorem kv_J8_200 : Cond.constant RJ8 200 (2147483639 : Int32) ∈ zAll := zMem 5169 (by decide +kernel) rfl
section ZL3
variable {p : Program} {l : Launch} {e : Env} {R : Room} {s : State} {m : MethodId} {args : Array Value} {below : List Frame} {meth : Method} {c : Code} {H : Heap} {locs : List Loc} {cells slots : Nat} {Q : State → Prop}
variable {cc bytes : ByteArray} {nL pc idx : Nat} {own : String} {G : zG} {A : Nat → Prop} {w : va_W} {ls : Array Slot} {rest : List Value} {a b : Nat}
/-- System.arraycopy of references -/
theorem zcopyM (B : zM p s m args c cc nL own G A) (hW : zW G A s.heap H locs w) (hsz : ls.size = nL) (hl : Cond.methodLink own idx arraycopyName ∈ zAll) (q0 q1 : Nat) {a a0 n0 n1 : Nat} {f g : Nat → Option Nat} (h0 : w[q0]? = some (a0, .inl (G.2.1 3, n0, .inr (.inr (.inr (.inr f)))))) (h1 : w[q1]? = some (a, .inl (G.2.1 3, n1, .inr (.inr (.inr (.inr g))))))
    (k : Nat) {x : Int32} (hx : x = nI k) (hk0 : k ≤ n0) (hk1 : k ≤ n1) (hk : k < 2 ^ 31) (hel : ∀ i, i < k → ∀ y, f i = some y → va_Any "java/lang/Object" s H y) (hf : 1 ≤ R.frames) (hlo : (rest.map fun v => v.category).sum + (nativeFrameWords "java/lang/System" "arraycopy" 5 + 11) ≤ R.locals) (hdg : decode cc pc = .ok (.invokestatic idx, 3))
    (kk : ∀ (H1 : Heap) (locs1 : List Loc), zW G A s.heap H1 locs1 (w.set q1 (a, .inl (G.2.1 3, n1, .inr (.inr (.inr (.inr (va_cpy f g 0 0 k))))))) → W p l e R s m args below meth c H1 locs1 cells slots Q (F0 m (pc + 3) ls rest)) : W p l e R s m args below meth c H locs cells slots Q (F0 m pc ls (.int x :: .int 0 :: .ref a :: .int 0 :: .ref a0 :: rest)) := by
  subst hx
  have ek : (nI k).toNatClampNeg = k := nI_clamp hk
  have e0 : (0 : Int32).toNatClampNeg = 0 := rfl
  refine va_copyM (D := G.1) (cl := vwCl) (tys := zTy G) (A := A) B.x B.b (B.ml.trans hsz.symm) B.o (B.ts _ hl) (B.ts _ kc_nat) (B.ts _ kc_st) (B.ts _ kc_in) B.K hW.1 hW.2.1 hW.2.2 q0 q1 3 3 h0 h1 rfl rfl (by decide) (by decide) (nI_pos hk) (by rw [ek, e0]; omega) (by rw [ek, e0]; omega) (fun i hi y hy => by rw [ek] at hi; rw [e0, Nat.zero_add] at hy; exact hel i hi y hy) hf hlo hdg (fun H1 l1 b1 b2 b3 => ?_)
  rw [ek, e0] at b1 b2
  exact kk H1 l1 ⟨b1, b2, b3⟩
theorem zldcM (B : zM p s m args c cc nL own G A) (hl : Cond.classLink own idx "[Ljava/lang/Object;" ∈ zAll) (hdg : decode cc pc = .ok (.ldc idx, 2))
    (k : W p l e R s m args below meth c H locs cells slots Q (F0 m (pc + 2) ls (.ref (zMi G) :: rest))) : W p l e R s m args below meth c H locs cells slots Q (F0 m pc ls rest) := va_ldcM B.x B.b B.o (B.ts _ hl) B.E.2.2.2.2.2.2.2.2.2.2.1 hdg k
theorem zgetC (B : zM p s m args c cc nL own G A) (hW : zW G A s.heap H locs w) (hsz : ls.size = nL) (hl : Cond.methodLink own idx ⟨"java/lang/Object", "getClass", "()Ljava/lang/Class;"⟩ ∈ zAll) (q0 : Nat) {a n : Nat} {f : Nat → Option Nat} (he : w[q0]? = some (a, .inl (G.2.1 3, n, .inr (.inr (.inr (.inr f)))))) (hframes : 1 ≤ R.frames) (hlocals : (rest.map fun v => v.category).sum + 14 ≤ R.locals) (hdg : decode cc pc = .ok (.invokevirtual idx, 3))
    (k : W p l e R s m args below meth c H locs cells slots Q (F0 m (pc + 3) ls (.ref (zMi G) :: rest))) : W p l e R s m args below meth c H locs cells slots Q (F0 m pc ls (.ref a :: rest)) :=
  va_getC B.x B.b (B.ml.trans hsz.symm) B.o (B.ts _ hl) (va_Dc.use B.E.2.2.2.2.2.2.2.2.2.2.2) (B.ts _ kg_sel) (B.ts _ kg_im) (B.ts _ kg_nat) B.E.2.2.2.2.2.2.2.2.2.2.1 ⟨_, hW.1 q0 _ he, rfl, va_nmO (B.K.2 3 _ rfl).2 (by decide +kernel)⟩ hframes hlocals hdg k
end ZL3
set_option maxHeartbeats 4000000 in
set_option maxRecDepth 100000 in
/-- Arrays.copyOf of references: a longer row -/
theorem c_copyOf3 (l : Launch) (G : zG) (q n N M : Nat) (a : Nat → Nat) (c0 : Nat → va_E) (hc : ∀ i, i < n → zEl G (c0 i)) (hnN : n ≤ N) (hNM : N ≤ M) (hM : M ≤ 1000000) : zC l yJ7_copyOf_6403c cJ7_copyOf_6403c 4 (some (.array (.object "java/lang/Object"))) 1 1 M G [.ref q, .int (nI M), .ref (zMi G)] ([(q, .inl (G.2.1 3, N, .inr (.inr (.inr (.inr (laF n a))))))] ++ sgW n a c0) (fun r u => ∃ q2 : Nat, r = some (.ref q2) ∧ u = [(q, .inl (G.2.1 3, N, .inr (.inr (.inr (.inr (laF n a)))))), (q2, .inl (G.2.1 3, M, .inr (.inr (.inr (.inr (laF n a))))))] ++ sgW n a c0) := by
  refine zC.of RJ7 rfl (by decide) (Nat.le_of_ble_eq_true rfl) ?_
  intro p e s m args below meth c A ls B hr hlk hnm hW hl
  have hx := B.x
  have hb := B.b
  have hl : lv_has ls 4 [(0, .ref q), (1, .int (nI M)), (2, .ref (zMi G))] := hl
  refine lv_aload_n hx hb dJ7_copyOf_6403c_0 rfl (lv_at hl 2 rfl) ?_
  refine zldcM B kl_J7_110 dJ7_copyOf_6403c_1 ?_
  refine lv_acmp_ne (rx := some (zMi G)) (ry := some (zMi G)) (tgt := 13) hx hb dJ7_copyOf_6403c_3 (by decide) (fun c_3 => absurd rfl c_3) (fun c_3 => ?_)
  refine lv_iload_n hx hb dJ7_copyOf_6403c_6 rfl (lv_at hl 1 rfl) ?_
  refine znewo B hW M rfl hM kl_J7_2 (by show 0 + 1 ≤ 1; omega) (by show 0 + M ≤ M; omega) dJ7_copyOf_6403c_7 (fun q2 H hW => ?_)
  have hW : zW G A s.heap H [] ([(q, .inl (G.2.1 3, N, .inr (.inr (.inr (.inr (laF n a))))))] ++ (sgW n a c0 ++ [(q2, .inl (G.2.1 3, M, .inr (.inr (.inr (.inr (fun _ => none))))))])) := hW.eq (by simp only [List.append_assoc, List.nil_append])
  have hW : zW G A s.heap H [] ([(q, .inl (G.2.1 3, N, .inr (.inr (.inr (.inr (laF n a))))))] ++ ([(q2, .inl (G.2.1 3, M, .inr (.inr (.inr (.inr (fun _ => none))))))] ++ sgW n a c0)) := hW.blk [[(q, .inl (G.2.1 3, N, .inr (.inr (.inr (.inr (laF n a))))))], sgW n a c0, [(q2, .inl (G.2.1 3, M, .inr (.inr (.inr (.inr (fun _ => none))))))]] [[(q, .inl (G.2.1 3, N, .inr (.inr (.inr (.inr (laF n a))))))], [(q2, .inl (G.2.1 3, M, .inr (.inr (.inr (.inr (fun _ => none))))))], sgW n a c0] [0, 2, 1] rfl rfl
  refine lv_goto (tgt := 24) hx hb dJ7_copyOf_6403c_10 (by decide) ?_
  refine lv_astore_n hx hb dJ7_copyOf_6403c_24 rfl hl (by decide) rfl (fun ls hl => ?_)
  refine lv_aload_n hx hb dJ7_copyOf_6403c_25 rfl (lv_at hl 1 rfl) ?_
  refine lv_iconst (v := (0 : Int32)) hx hb dJ7_copyOf_6403c_26 (by decide) ?_
  refine lv_aload_n hx hb dJ7_copyOf_6403c_27 rfl (lv_at hl 0 rfl) ?_
  refine lv_iconst (v := (0 : Int32)) hx hb dJ7_copyOf_6403c_28 (by decide) ?_
  refine lv_aload_n hx hb dJ7_copyOf_6403c_29 rfl (lv_at hl 1 rfl) ?_
  refine zmlen B hW 0 rfl dJ7_copyOf_6403c_30 ?_
  refine lv_iload_n hx hb dJ7_copyOf_6403c_31 rfl (lv_at hl 2 rfl) ?_
  refine va_mmin hx hb (B.ml.trans hl.1.symm) B.o (B.ts _ ml_J7_304) (B.ts _ km_min_s) (B.ts _ km_i) (B.ts _ km_min_c) (Nat.le_of_ble_eq_true rfl) (Nat.le_of_ble_eq_true rfl) (by show 0 + 1 ≤ 1; omega) (by show 0 + M ≤ M; omega) dJ7_copyOf_6403c_32 ?_
  refine zcopyM B hW hl.1 ml_J7_150 0 1 rfl rfl N (if_neg (fun z => absurd ((nI_ltI (by omega) (by omega)).mp z) (by omega))) (Nat.le_refl _) hNM (by omega) (fun i hi y hy => ?_) (Nat.le_of_ble_eq_true rfl) (Nat.le_of_ble_eq_true rfl) dJ7_copyOf_6403c_35 (fun H locs hW => ?_)
  · have hin : i < n := by
      unfold laF at hy
      by_cases h : i < n
      · exact h
      · rw [if_neg h] at hy; cases hy
    rw [laF_i hin] at hy
    cases hy
    exact zEl.any B hW.1 (k := 2 + i) (sg_he [(q, .inl (G.2.1 3, N, .inr (.inr (.inr (.inr (laF n a)))))), (q2, .inl (G.2.1 3, M, .inr (.inr (.inr (.inr (fun _ => none))))))] rfl (sg_at hin)) (hc i hin)
  have e9 : va_cpy (laF n a) (fun _ => none) 0 0 N = laF n a := by
    funext j
    unfold va_cpy laF
    by_cases h : j < n
    · rw [if_pos ⟨Nat.zero_le _, by omega⟩, if_pos (by omega), if_pos h]
      congr 2
      omega
    · rw [if_neg h]
      split
      · rw [if_neg (by omega)]
      · rfl
  have hW : zW G A s.heap H locs ([(q, .inl (G.2.1 3, N, .inr (.inr (.inr (.inr (laF n a)))))), (q2, .inl (G.2.1 3, M, .inr (.inr (.inr (.inr (laF n a))))))] ++ sgW n a c0) := by
    rw [e9] at hW
    exact hW.eq rfl
  refine lv_aload_n hx hb dJ7_copyOf_6403c_38 rfl (lv_at hl 0 rfl) ?_
  exact zaret B hr hlk (Or.inr ⟨_, rfl⟩) (Or.inr ⟨_, rfl⟩) hW ⟨q2, rfl, rfl⟩ (by show 0 + 1 ≤ 1; omega) (by show 0 + M ≤ M; omega) dJ7_copyOf_6403c_39
set_option maxHeartbeats 4000000 in
set_option maxRecDepth 100000 in
theorem c_copyOf2 (l : Launch) (G : zG) (q n N M : Nat) (a : Nat → Nat) (c0 : Nat → va_E) (hc : ∀ i, i < n → zEl G (c0 i)) (hnN : n ≤ N) (hNM : N ≤ M) (hM : M ≤ 1000000) : zC l yJ7_copyOf_1904c cJ7_copyOf_1904c 2 (some (.array (.object "java/lang/Object"))) 2 1 M G [.ref q, .int (nI M)] ([(q, .inl (G.2.1 3, N, .inr (.inr (.inr (.inr (laF n a))))))] ++ sgW n a c0) (fun r u => ∃ q2 : Nat, r = some (.ref q2) ∧ u = [(q, .inl (G.2.1 3, N, .inr (.inr (.inr (.inr (laF n a)))))), (q2, .inl (G.2.1 3, M, .inr (.inr (.inr (.inr (laF n a))))))] ++ sgW n a c0) := by
  refine zC.of RJ7 rfl (by decide) (Nat.le_of_ble_eq_true rfl) ?_
  intro p e s m args below meth c A ls B hr hlk hnm hW hl
  have hx := B.x
  have hb := B.b
  have hl : lv_has ls 2 [(0, .ref q), (1, .int (nI M))] := hl
  refine lv_aload_n hx hb dJ7_copyOf_1904c_0 rfl (lv_at hl 0 rfl) ?_
  refine lv_iload_n hx hb dJ7_copyOf_1904c_1 rfl (lv_at hl 1 rfl) ?_
  refine lv_aload_n hx hb dJ7_copyOf_1904c_2 rfl (lv_at hl 0 rfl) ?_
  refine zgetC B hW hl.1 ml_J7_86 0 rfl (Nat.le_of_ble_eq_true rfl) (Nat.le_of_ble_eq_true rfl) dJ7_copyOf_1904c_3 ?_
  refine zcS (w1 := []) (wc := [(q, .inl (G.2.1 3, N, .inr (.inr (.inr (.inr (laF n a))))))] ++ sgW n a c0) (w2 := []) (As := [.ref q, .int (nI M), .ref (zMi G)]) B (hW.eq (by simp only [List.append_nil, List.nil_append])) (c_copyOf3 l G q n N M a c0 hc hnN hNM hM) yd_J7_copyOf_6403c ml_J7_300 rfl hl.1 rfl (Nat.le_of_ble_eq_true rfl) ⟨Nat.le_of_ble_eq_true rfl, Nat.le_of_ble_eq_true rfl⟩ ⟨by show 0 + 1 ≤ 1; omega, by show 0 + M ≤ M; omega⟩ dJ7_copyOf_1904c_6 (fun v u H locs hp hW => ?_)
  obtain ⟨q2, rfl, rfl⟩ := hp
  exact zaret B hr hlk (Or.inr ⟨_, rfl⟩) (Or.inr ⟨_, rfl⟩) (hW.eq (by simp only [List.append_nil, List.nil_append])) ⟨q2, rfl, rfl⟩ (by show 0 + 1 ≤ 1; omega) (by show 0 + M ≤ M; omega) dJ7_copyOf_1904c_9
set_option maxHeartbeats 4000000 in
set_option maxRecDepth 100000 in
theorem c_newLength (l : Launch) (G : zG) (N g t : Nat) (hg : 1 ≤ g ∧ g ≤ 1000000) (ht : t ≤ 1000000) (hN : N ≤ 1000000) : zC l yJ8_newLength_cabcc cJ8_newLength_cabcc 4 (some .int) 1 0 0 G [.int (nI N), .int (nI g), .int (nI t)] [] (fun r u => r = some (.int (nI (N + (if g < t then t else g)))) ∧ u = []) := by
  refine zC.of RJ8 rfl (by decide) (Nat.le_of_ble_eq_true rfl) ?_
  intro p e s m args below meth c A ls B hr hlk hnm hW hl
  have hx := B.x
  have hb := B.b
  have hl : lv_has ls 4 [(0, .int (nI N)), (1, .int (nI g)), (2, .int (nI t))] := hl
  refine lv_iload_n hx hb dJ8_newLength_cabcc_0 rfl (lv_at hl 0 rfl) ?_
  refine lv_iload_n hx hb dJ8_newLength_cabcc_1 rfl (lv_at hl 1 rfl) ?_
  refine lv_iload_n hx hb dJ8_newLength_cabcc_2 rfl (lv_at hl 2 rfl) ?_
  refine va_mmax hx hb (B.ml.trans hl.1.symm) B.o (B.ts _ ml_J8_194) (B.ts _ km_max_s) (B.ts _ km_i) (B.ts _ km_max_c) (Nat.le_of_ble_eq_true rfl) (Nat.le_of_ble_eq_true rfl) (Nat.le_refl _) (Nat.le_refl _) dJ8_newLength_cabcc_3 ?_
  refine lv_iadd hx hb dJ8_newLength_cabcc_6 ?_
  have e6 : nI N + (if nI g < nI t then nI t else nI g) = nI (N + (if g < t then t else g)) := by
    by_cases h : g < t
    · rw [if_pos h, if_pos (nI_lt h (by omega)), nI_add]
    · rw [if_neg h, if_neg (fun z => h ((nI_ltI (by omega) (by omega)).mp z)), nI_add]
  have h7 : 1 ≤ (if g < t then t else g) ∧ (if g < t then t else g) ≤ 1000000 := by split <;> omega
  generalize hv : N + (if g < t then t else g) = v at e6 ⊢
  rw [e6]
  refine lv_istore_n hx hb dJ8_newLength_cabcc_7 rfl hl (by decide) rfl (fun ls hl => ?_)
  refine lv_iconst (v := (0 : Int32)) hx hb dJ8_newLength_cabcc_8 (by decide) ?_
  refine lv_iload_n hx hb dJ8_newLength_cabcc_9 rfl (lv_at hl 0 rfl) ?_
  refine lv_icmp_ge (tgt := 21) hx hb dJ8_newLength_cabcc_10 (by decide) (fun z => absurd z (nI_ge (show 0 < v by omega) (by omega))) (fun _ => ?_)
  refine lv_iload_n hx hb dJ8_newLength_cabcc_13 rfl (lv_at hl 0 rfl) ?_
  refine lv_ldc hx hb B.o (B.ts _ kv_J8_200) dJ8_newLength_cabcc_14 ?_
  refine lv_icmp_gt (tgt := 21) hx hb dJ8_newLength_cabcc_16 (by decide) (fun z => absurd (show nI 2147483639 < nI v from z) (fun z => absurd ((nI_ltI (by decide) (by omega)).mp z) (by omega))) (fun _ => ?_)
  refine lv_iload_n hx hb dJ8_newLength_cabcc_19 rfl (lv_at hl 0 rfl) ?_
  exact ziret B hr hlk hW ⟨rfl, rfl⟩ (Nat.le_refl _) (Nat.le_refl _) dJ8_newLength_cabcc_20
set_option maxHeartbeats 4000000 in
set_option maxRecDepth 100000 in
/-- a full row grows by half -/
theorem c_grow1 (l : Launch) (G : zG) (h q n : Nat) (a : Nat → Nat) (c0 : Nat → va_E) (mc z : Int32) (hc : ∀ i, i < n → zEl G (c0 i)) (h2 : 2 ≤ n) (hn : n ≤ 500000) : zC l yJx4a65c_grow_92f84 cJx4a65c_grow_92f84 4 (some (.array (.object "java/lang/Object"))) 3 1 (n + n / 2) G [.ref h, .int (nI (n + 1))] ([(h, .inr (3, [.int mc, .ref q, .int z])), (q, .inl (G.2.1 3, n, .inr (.inr (.inr (.inr (laF n a))))))] ++ sgW n a c0) (fun r u => ∃ q2 : Nat, r = some (.ref q2) ∧ u = [(h, .inr (3, [.int mc, .ref q2, .int z])), (q2, .inl (G.2.1 3, (n + n / 2), .inr (.inr (.inr (.inr (laF n a))))))] ++ sgW n a c0) := by
  refine zC.of RJx4a65c rfl (by decide) (Nat.le_of_ble_eq_true rfl) ?_
  intro p e s m args below meth c A ls B hr hlk hnm hW hl
  have hx := B.x
  have hb := B.b
  have hl : lv_has ls 4 [(0, .ref h), (1, .int (nI (n + 1)))] := hl
  refine lv_aload_n hx hb dJx4a65c_grow_92f84_0 rfl (lv_at hl 0 rfl) ?_
  refine zget B hW 0 rfl lf_Jx4a65c_9 rfl dJx4a65c_grow_92f84_1 ?_
  refine zmlen B hW 1 rfl dJx4a65c_grow_92f84_4 ?_
  refine lv_istore_n hx hb dJx4a65c_grow_92f84_5 rfl hl (by decide) rfl (fun ls hl => ?_)
  refine lv_iload_n hx hb dJx4a65c_grow_92f84_6 rfl (lv_at hl 0 rfl) ?_
  refine lv_if_gt (tgt := 20) hx hb dJx4a65c_grow_92f84_7 (by decide) (fun c_7 => ?_) (fun c_7 => absurd (show (0 : Int32) < nI n from nI_lt (a := 0) (by omega) (by omega)) c_7)
  refine lv_iload_n hx hb dJx4a65c_grow_92f84_20 rfl (lv_at hl 0 rfl) ?_
  refine lv_iload_n hx hb dJx4a65c_grow_92f84_21 rfl (lv_at hl 2 rfl) ?_
  refine lv_iload_n hx hb dJx4a65c_grow_92f84_22 rfl (lv_at hl 0 rfl) ?_
  refine lv_isub hx hb dJx4a65c_grow_92f84_23 ?_
  refine lv_iload_n hx hb dJx4a65c_grow_92f84_24 rfl (lv_at hl 0 rfl) ?_
  refine lv_iconst (v := (1 : Int32)) hx hb dJx4a65c_grow_92f84_25 (by decide) ?_
  refine lv_ishr hx hb dJx4a65c_grow_92f84_26 ?_
  have es : nI n >>> ((1 : Int32) &&& 31) = nI (n / 2) := by
    have k := pk_shrN (n := n) (by omega) ((1 : Int32) &&& 31) 1 (by decide)
    rw [Nat.pow_one] at k
    exact k
  have e1 : nI (n + 1) - nI n = nI 1 := by
    have k := pk_sub (a := n + 1) (b := n) (by omega)
    rw [Nat.add_sub_cancel_left] at k
    exact k
  rw [es, e1]
  refine zcS (w1 := []) (wc := []) (w2 := [(h, .inr (3, [.int mc, .ref q, .int z])), (q, .inl (G.2.1 3, n, .inr (.inr (.inr (.inr (laF n a))))))] ++ sgW n a c0) (As := [.int (nI n), .int (nI 1), .int (nI (n / 2))]) B (hW.eq rfl) (c_newLength l G n 1 (n / 2) (by omega) (by omega) (by omega)) yd_J8_newLength_cabcc ml_Jx4a65c_73 rfl hl.1 rfl (Nat.le_of_ble_eq_true rfl) ⟨Nat.le_of_ble_eq_true rfl, Nat.le_of_ble_eq_true rfl⟩ ⟨by show 0 + 0 ≤ 1; omega, by show 0 + 0 ≤ n + n / 2; omega⟩ dJx4a65c_grow_92f84_27 (fun v u H locs hp hW => ?_)
  obtain ⟨rfl, rfl⟩ := hp
  have ev : n + (if 1 < n / 2 then n / 2 else 1) = n + n / 2 := by
    by_cases h9 : 1 < n / 2
    · rw [if_pos h9]
    · rw [if_neg h9]; omega
  rw [ev]
  have hW := hW.eq (w' := [(h, .inr (3, [.int mc, .ref q, .int z])), (q, .inl (G.2.1 3, n, .inr (.inr (.inr (.inr (laF n a))))))] ++ sgW n a c0) rfl
  refine lv_istore_n hx hb dJx4a65c_grow_92f84_30 rfl hl (by decide) rfl (fun ls hl => ?_)
  refine lv_aload_n hx hb dJx4a65c_grow_92f84_31 rfl (lv_at hl 2 rfl) ?_
  refine lv_aload_n hx hb dJx4a65c_grow_92f84_32 rfl (lv_at hl 2 rfl) ?_
  refine zget B hW 0 rfl lf_Jx4a65c_9 rfl dJx4a65c_grow_92f84_33 ?_
  refine lv_iload_n hx hb dJx4a65c_grow_92f84_36 rfl (lv_at hl 0 rfl) ?_
  refine zcS (w1 := [(h, .inr (3, [.int mc, .ref q, .int z]))]) (wc := [(q, .inl (G.2.1 3, n, .inr (.inr (.inr (.inr (laF n a))))))] ++ sgW n a c0) (w2 := []) (As := [.ref q, .int (nI (n + n / 2))]) B (hW.eq (by simp only [List.append_nil, List.cons_append, List.nil_append])) (c_copyOf2 l G q n n (n + n / 2) a c0 hc (Nat.le_refl _) (by omega) (by omega)) yd_J7_copyOf_1904c ml_Jx4a65c_66 rfl hl.1 rfl (Nat.le_of_ble_eq_true rfl) ⟨Nat.le_of_ble_eq_true rfl, Nat.le_of_ble_eq_true rfl⟩ ⟨by show 0 + 0 + 1 ≤ 1; omega, by show 0 + 0 + (n + n / 2) ≤ n + n / 2; omega⟩ dJx4a65c_grow_92f84_37 (fun v u H locs hp hW => ?_)
  obtain ⟨q2, rfl, rfl⟩ := hp
  have hW := hW.eq (w' := [(h, .inr (3, [.int mc, .ref q, .int z])), (q, .inl (G.2.1 3, n, .inr (.inr (.inr (.inr (laF n a)))))), (q2, .inl (G.2.1 3, (n + n / 2), .inr (.inr (.inr (.inr (laF n a))))))] ++ sgW n a c0) (by simp only [List.append_nil, List.cons_append, List.nil_append])
  refine lv_dup_x1 hx hb dJx4a65c_grow_92f84_40 rfl rfl ?_
  refine zput B hW 0 rfl lf_Jx4a65c_9 ft_Jx4a65c_1 rfl rfl (Nat.le_of_ble_eq_true rfl) dJx4a65c_grow_92f84_41 (fun H locs hW => ?_)
  have hW := hW.blk [[(h, .inr (3, [.int mc, .ref q2, .int z]))], [(q, .inl (G.2.1 3, n, .inr (.inr (.inr (.inr (laF n a))))))], [(q2, .inl (G.2.1 3, (n + n / 2), .inr (.inr (.inr (.inr (laF n a))))))], sgW n a c0] [[(h, .inr (3, [.int mc, .ref q2, .int z]))], [(q2, .inl (G.2.1 3, (n + n / 2), .inr (.inr (.inr (.inr (laF n a))))))], sgW n a c0] [0, 2, 3] rfl rfl
  exact zaret B hr hlk (Or.inr ⟨_, rfl⟩) (Or.inr ⟨_, rfl⟩) (hW.eq rfl) ⟨q2, rfl, rfl⟩ (by show 0 + 0 + 1 ≤ 1; omega) (by show 0 + 0 + (n + n / 2) ≤ n + n / 2; omega) dJx4a65c_grow_92f84_44
end
section
set_option maxHeartbeats 4000000 in
set_option maxRecDepth 100000 in
/-- the first row of a list: ten places -/
theorem c_Jx4a65c_grow_92f84_0 (l : Launch) (G : zG) (h : Nat) (k z : Int32) : zC l yJx4a65c_grow_92f84 cJx4a65c_grow_92f84 4 (some (.array (.object "java/lang/Object"))) 1 1 10 G [.ref h, .int 1] [(h, .inr (3, [.int k, .ref G.2.2, .int z]))] (fun r u => ∃ q : Nat, r = some (.ref q) ∧ u = [(h, .inr (3, [.int k, .ref q, .int z])), (q, .inl (G.2.1 3, 10, .inr (.inr (.inr (.inr (fun _ => none))))))]) := by
  refine zC.of RJx4a65c rfl (by decide) (Nat.le_of_ble_eq_true rfl) ?_
  intro p e s m args below meth c A ls B hr hlk hnm hW hl
  have hx := B.x
  have hb := B.b
  have hl : lv_has ls 4 [(0, .ref h), (1, .int 1)] := hl
  refine lv_aload_n hx hb dJx4a65c_grow_92f84_0 rfl (lv_at hl 0 rfl) ?_
  refine zget B hW 0 rfl lf_Jx4a65c_9 rfl dJx4a65c_grow_92f84_1 ?_
  refine zlenD B hW dJx4a65c_grow_92f84_4 ?_
  refine lv_istore_n hx hb dJx4a65c_grow_92f84_5 rfl hl (by decide) rfl (fun ls hl => ?_)
  refine lv_iload_n hx hb dJx4a65c_grow_92f84_6 rfl (lv_at hl 0 rfl) ?_
  refine lv_if_gt (tgt := 20) hx hb dJx4a65c_grow_92f84_7 (by decide) (fun c_7 => absurd c_7 (by decide)) (fun c_7 => ?_)
  refine lv_aload_n hx hb dJx4a65c_grow_92f84_10 rfl (lv_at hl 1 rfl) ?_
  refine zget B hW 0 rfl lf_Jx4a65c_9 rfl dJx4a65c_grow_92f84_11 ?_
  refine zgetD B hW lg_Jx4a65c_39 dJx4a65c_grow_92f84_14 ?_
  refine lv_acmp_eq (rx := some G.2.2) (ry := some G.2.2) (tgt := 45) hx hb dJx4a65c_grow_92f84_17 (by decide) (fun c_17 => ?_) (fun c_17 => absurd rfl c_17)
  refine lv_aload_n hx hb dJx4a65c_grow_92f84_45 rfl (lv_at hl 1 rfl) ?_
  refine lv_bipush (v := (10 : Int32)) hx hb dJx4a65c_grow_92f84_46 (by decide) ?_
  refine lv_iload_n hx hb dJx4a65c_grow_92f84_48 rfl (lv_at hl 2 rfl) ?_
  refine va_mmax hx hb (B.ml.trans hl.1.symm) B.o (B.ts _ ml_Jx4a65c_79) (B.ts _ km_max_s) (B.ts _ km_i) (B.ts _ km_max_c) (Nat.le_of_ble_eq_true rfl) (Nat.le_of_ble_eq_true rfl) (Nat.le_of_ble_eq_true rfl) (Nat.le_of_ble_eq_true rfl) dJx4a65c_grow_92f84_49 ?_
  refine znewo B hW 10 (by decide) (Nat.le_of_ble_eq_true rfl) kl_Jx4a65c_7 (Nat.le_of_ble_eq_true rfl) (Nat.le_of_ble_eq_true rfl) dJx4a65c_grow_92f84_52 (fun q H hW => ?_)
  refine lv_dup_x1 hx hb dJx4a65c_grow_92f84_55 rfl rfl ?_
  refine zput B hW 0 rfl lf_Jx4a65c_9 ft_Jx4a65c_1 rfl rfl (Nat.le_of_ble_eq_true rfl) dJx4a65c_grow_92f84_56 (fun H locs hW => ?_)
  exact zaret B hr hlk (Or.inr ⟨_, rfl⟩) (Or.inr ⟨_, rfl⟩) (hW.eq rfl) ⟨q, rfl, rfl⟩ (Nat.le_of_ble_eq_true rfl) (Nat.le_of_ble_eq_true rfl) dJx4a65c_grow_92f84_59
set_option maxHeartbeats 4000000 in
set_option maxRecDepth 100000 in
theorem c_Jx4a65c_grow_d5877_0 (l : Launch) (G : zG) (h : Nat) (k : Int32) : zC l yJx4a65c_grow_d5877 cJx4a65c_grow_d5877 1 (some (.array (.object "java/lang/Object"))) 2 1 10 G [.ref h] [(h, .inr (3, [.int k, .ref G.2.2, .int 0]))] (fun r u => ∃ q : Nat, r = some (.ref q) ∧ u = [(h, .inr (3, [.int k, .ref q, .int 0])), (q, .inl (G.2.1 3, 10, .inr (.inr (.inr (.inr (fun _ => none))))))]) := by
  refine zC.of RJx4a65c rfl (by decide) (Nat.le_of_ble_eq_true rfl) ?_
  intro p e s m args below meth c A ls B hr hlk hnm hW hl
  have hx := B.x
  have hb := B.b
  have hl : lv_has ls 1 [(0, .ref h)] := hl
  refine lv_aload_n hx hb dJx4a65c_grow_d5877_0 rfl (lv_at hl 0 rfl) ?_
  refine lv_aload_n hx hb dJx4a65c_grow_d5877_1 rfl (lv_at hl 0 rfl) ?_
  refine zget B hW 0 rfl lf_Jx4a65c_48 rfl dJx4a65c_grow_d5877_2 ?_
  refine lv_iconst (v := (1 : Int32)) hx hb dJx4a65c_grow_d5877_5 (by decide) ?_
  refine lv_iadd hx hb dJx4a65c_grow_d5877_6 ?_
  refine W.eq (g2 := F0 m 7 ls [.int 1, .ref h]) rfl ?_
  refine zcV (w1 := []) (wc := [(h, .inr (3, [.int k, .ref G.2.2, .int 0]))]) (w2 := []) (As := [.int 1]) B (hW.eq rfl) (c_Jx4a65c_grow_92f84_0 l G h k 0) yd_Jx4a65c_grow_92f84 ml_Jx4a65c_69 0 rfl rfl rfl rfl hl.1 rfl (Nat.le_of_ble_eq_true rfl) ⟨Nat.le_of_ble_eq_true rfl, Nat.le_of_ble_eq_true rfl⟩ ⟨Nat.le_of_ble_eq_true rfl, Nat.le_of_ble_eq_true rfl⟩ dJx4a65c_grow_d5877_7 (fun v u H locs hp hW => ?_)
  obtain ⟨q, rfl, rfl⟩ := hp
  exact zaret B hr hlk (Or.inr ⟨_, rfl⟩) (Or.inr ⟨_, rfl⟩) (hW.eq rfl) ⟨q, rfl, rfl⟩ (Nat.le_of_ble_eq_true rfl) (Nat.le_of_ble_eq_true rfl) dJx4a65c_grow_d5877_10
theorem sg_last {n v : Nat} {a : Nat → Nat} {c0 : Nat → va_E} {e : va_E} : (sgW n a c0 ++ [(v, e)])[n]? = some (v, e) := by
  rw [List.getElem?_append_right (by rw [sg_len]; exact Nat.le_refl _), sg_len, Nat.sub_self]
  rfl
theorem va_up_i {α : Type} {f : Nat → α} {k : Nat} {v : α} : va_up f k v k = v := if_pos rfl
theorem va_up_o {α : Type} {f : Nat → α} {k j : Nat} {v : α} (h : j ≠ k) : va_up f k v j = f j := if_neg h
theorem sg_add {n v : Nat} {a : Nat → Nat} {c0 c1 : Nat → va_E} {e : va_E} (h1 : c1 n = e) (h2 : ∀ j, j < n → c1 j = c0 j) : sgW n a c0 ++ [(v, e)] = sgW (n + 1) (va_up a n v) c1 := sg_push va_up_i h1 (fun j hj => va_up_o (by omega)) h2
set_option maxHeartbeats 4000000 in
set_option maxRecDepth 100000 in
theorem c_grow0 (l : Launch) (G : zG) (h q n : Nat) (a : Nat → Nat) (c0 : Nat → va_E) (mc : Int32) (hc : ∀ i, i < n → zEl G (c0 i)) (h2 : 2 ≤ n) (hn : n ≤ 500000) : zC l yJx4a65c_grow_d5877 cJx4a65c_grow_d5877 1 (some (.array (.object "java/lang/Object"))) 4 1 (n + n / 2) G [.ref h] ([(h, .inr (3, [.int mc, .ref q, .int (nI n)])), (q, .inl (G.2.1 3, n, .inr (.inr (.inr (.inr (laF n a))))))] ++ sgW n a c0) (fun r u => ∃ q2 : Nat, r = some (.ref q2) ∧ u = [(h, .inr (3, [.int mc, .ref q2, .int (nI n)])), (q2, .inl (G.2.1 3, (n + n / 2), .inr (.inr (.inr (.inr (laF n a))))))] ++ sgW n a c0) := by
  refine zC.of RJx4a65c rfl (by decide) (Nat.le_of_ble_eq_true rfl) ?_
  intro p e s m args below meth c A ls B hr hlk hnm hW hl
  have hx := B.x
  have hb := B.b
  have hl : lv_has ls 1 [(0, .ref h)] := hl
  refine lv_aload_n hx hb dJx4a65c_grow_d5877_0 rfl (lv_at hl 0 rfl) ?_
  refine lv_aload_n hx hb dJx4a65c_grow_d5877_1 rfl (lv_at hl 0 rfl) ?_
  refine zget B hW 0 rfl lf_Jx4a65c_48 rfl dJx4a65c_grow_d5877_2 ?_
  refine lv_iconst (v := (1 : Int32)) hx hb dJx4a65c_grow_d5877_5 (by decide) ?_
  refine lv_iadd hx hb dJx4a65c_grow_d5877_6 ?_
  refine W.eq (g2 := F0 m 7 ls [.int (nI (n + 1)), .ref h]) (by rw [← nI_1] <;> rfl) ?_
  refine zcV (w1 := []) (wc := [(h, .inr (3, [.int mc, .ref q, .int (nI n)])), (q, .inl (G.2.1 3, n, .inr (.inr (.inr (.inr (laF n a))))))] ++ sgW n a c0) (w2 := []) (As := [.int (nI (n + 1))]) B (hW.eq (by simp only [List.append_nil, List.nil_append])) (c_grow1 l G h q n a c0 mc (nI n) hc h2 hn) yd_Jx4a65c_grow_92f84 ml_Jx4a65c_69 0 rfl rfl rfl rfl hl.1 rfl (Nat.le_of_ble_eq_true rfl) ⟨Nat.le_of_ble_eq_true rfl, Nat.le_of_ble_eq_true rfl⟩ ⟨by show 0 + 1 ≤ 1; omega, by show 0 + (n + n / 2) ≤ n + n / 2; omega⟩ dJx4a65c_grow_d5877_7 (fun v u H locs hp hW => ?_)
  obtain ⟨q2, rfl, rfl⟩ := hp
  exact zaret B hr hlk (Or.inr ⟨_, rfl⟩) (Or.inr ⟨_, rfl⟩) (hW.eq (by simp only [List.append_nil, List.nil_append])) ⟨q2, rfl, rfl⟩ (by show 0 + 1 ≤ 1; omega) (by show 0 + (n + n / 2) ≤ n + n / 2; omega) dJx4a65c_grow_d5877_10
set_option maxHeartbeats 4000000 in
set_option maxRecDepth 100000 in
/-- there is a place -/
theorem c_add3b (l : Launch) (G : zG) (h q n N v : Nat) (a : Nat → Nat) (c0 c1 : Nat → va_E) (x : va_E) (mc : Int32) (hc : ∀ i, i < n → zEl G (c0 i)) (hE : zEl G x) (h1 : c1 n = x) (h3 : ∀ j, j < n → c1 j = c0 j) (hn : n < N) (hN : N ≤ 500000) : zC l yJx4a65c_add_72be8 cJx4a65c_add_72be8 4 none 5 0 0 G [.ref h, .ref v, .ref q, .int (nI n)] ([(h, .inr (3, [.int mc, .ref q, .int (nI n)])), (q, .inl (G.2.1 3, N, .inr (.inr (.inr (.inr (laF n a))))))] ++ (sgW n a c0 ++ [(v, x)])) (fun r u => ∃ q2 : Nat, r = none ∧ u = [(h, .inr (3, [.int mc, .ref q2, .int (nI (n + 1))]))] ++ ([(q2, .inl (G.2.1 3, N, .inr (.inr (.inr (.inr (laF (n + 1) (va_up a n v)))))))] ++ sgW (n + 1) (va_up a n v) c1)) := by
  refine zC.of RJx4a65c rfl (by decide) (Nat.le_of_ble_eq_true rfl) ?_
  intro p e s m args below meth c A ls B hr hlk hnm hW hl
  have hx := B.x
  have hb := B.b
  have hl : lv_has ls 4 [(0, .ref h), (1, .ref v), (2, .ref q), (3, .int (nI n))] := hl
  refine lv_iload_n hx hb dJx4a65c_add_72be8_0 rfl (lv_at hl 3 rfl) ?_
  refine lv_aload_n hx hb dJx4a65c_add_72be8_1 rfl (lv_at hl 2 rfl) ?_
  refine zmlen B hW 1 rfl dJx4a65c_add_72be8_2 ?_
  refine lv_icmp_ne (tgt := 11) hx hb dJx4a65c_add_72be8_3 (by decide) (fun _ => ?_) (fun z => absurd ((nI_eq (by omega) (by omega)).mp z) (by omega))
  refine lv_aload_n hx hb dJx4a65c_add_72be8_11 rfl (lv_at hl 2 rfl) ?_
  refine lv_iload_n hx hb dJx4a65c_add_72be8_12 rfl (lv_at hl 3 rfl) ?_
  refine lv_aload_n hx hb dJx4a65c_add_72be8_13 rfl (lv_at hl 1 rfl) ?_
  refine zmast B hW 1 rfl (zEl.any B hW.1 (k := 2 + n) (sg_he [(h, .inr (3, [.int mc, .ref q, .int (nI n)])), (q, .inl (G.2.1 3, N, .inr (.inr (.inr (.inr (laF n a))))))] rfl sg_last) hE) (vp_in_nI (by omega) (by omega)) dJx4a65c_add_72be8_14 (fun H locs hW => ?_)
  rw [nI_clamp (by omega), laF_up] at hW
  refine lv_aload_n hx hb dJx4a65c_add_72be8_15 rfl (lv_at hl 0 rfl) ?_
  refine lv_iload_n hx hb dJx4a65c_add_72be8_16 rfl (lv_at hl 3 rfl) ?_
  refine lv_iconst (v := (1 : Int32)) hx hb dJx4a65c_add_72be8_17 (by decide) ?_
  refine lv_iadd hx hb dJx4a65c_add_72be8_18 ?_
  refine W.eq (g2 := F0 m 19 ls [.int (nI (n + 1)), .ref h]) (by rw [← nI_1] <;> rfl) ?_
  refine zput B hW 0 rfl lf_Jx4a65c_48 ft_Jx4a65c_2 rfl rfl (Nat.le_of_ble_eq_true rfl) dJx4a65c_add_72be8_19 (fun H locs hW => ?_)
  have hW := hW.eq (w' := [(h, .inr (3, [.int mc, .ref q, .int (nI (n + 1))])), (q, .inl (G.2.1 3, N, .inr (.inr (.inr (.inr (laF (n + 1) (va_up a n v)))))))] ++ (sgW n a c0 ++ [(v, x)])) rfl
  rw [sg_add h1 h3] at hW
  exact zvret B hr hlk (hW.eq rfl) ⟨q, rfl, rfl⟩ (Nat.le_refl _) (Nat.le_refl _) dJx4a65c_add_72be8_22
set_option maxHeartbeats 4000000 in
set_option maxRecDepth 100000 in
/-- it's full -/
theorem c_add3c (l : Launch) (G : zG) (h q n N v : Nat) (a : Nat → Nat) (c0 c1 : Nat → va_E) (x : va_E) (mc : Int32) (hc : ∀ i, i < n → zEl G (c0 i)) (hE : zEl G x) (h1 : c1 n = x) (h3 : ∀ j, j < n → c1 j = c0 j) (hN0 : N = n) (h2 : 2 ≤ n) (hn : n ≤ 300000) : zC l yJx4a65c_add_72be8 cJx4a65c_add_72be8 4 none 5 1 (n + n / 2) G [.ref h, .ref v, .ref q, .int (nI n)] ([(h, .inr (3, [.int mc, .ref q, .int (nI n)])), (q, .inl (G.2.1 3, n, .inr (.inr (.inr (.inr (laF n a))))))] ++ (sgW n a c0 ++ [(v, x)])) (fun r u => ∃ q2 : Nat, r = none ∧ u = [(h, .inr (3, [.int mc, .ref q2, .int (nI (n + 1))]))] ++ ([(q2, .inl (G.2.1 3, (n + n / 2), .inr (.inr (.inr (.inr (laF (n + 1) (va_up a n v)))))))] ++ sgW (n + 1) (va_up a n v) c1)) := by
  refine zC.of RJx4a65c rfl (by decide) (Nat.le_of_ble_eq_true rfl) ?_
  intro p e s m args below meth c A ls B hr hlk hnm hW hl
  have hx := B.x
  have hb := B.b
  have hl : lv_has ls 4 [(0, .ref h), (1, .ref v), (2, .ref q), (3, .int (nI n))] := hl
  refine lv_iload_n hx hb dJx4a65c_add_72be8_0 rfl (lv_at hl 3 rfl) ?_
  refine lv_aload_n hx hb dJx4a65c_add_72be8_1 rfl (lv_at hl 2 rfl) ?_
  refine zmlen B hW 1 rfl dJx4a65c_add_72be8_2 ?_
  refine lv_icmp_ne (tgt := 11) hx hb dJx4a65c_add_72be8_3 (by decide) (fun z => absurd rfl z) (fun _ => ?_)
  refine lv_aload_n hx hb dJx4a65c_add_72be8_6 rfl (lv_at hl 0 rfl) ?_
  refine zcV (w1 := []) (wc := [(h, .inr (3, [.int mc, .ref q, .int (nI n)])), (q, .inl (G.2.1 3, n, .inr (.inr (.inr (.inr (laF n a))))))] ++ sgW n a c0) (w2 := [(v, x)]) (As := []) B (hW.eq (by simp only [List.append_assoc, List.nil_append])) (c_grow0 l G h q n a c0 mc hc h2 (by omega)) yd_Jx4a65c_grow_d5877 ml_Jx4a65c_129 0 rfl rfl rfl rfl hl.1 rfl (Nat.le_of_ble_eq_true rfl) ⟨Nat.le_of_ble_eq_true rfl, Nat.le_of_ble_eq_true rfl⟩ ⟨by show 0 + 1 ≤ 1; omega, by show 0 + (n + n / 2) ≤ n + n / 2; omega⟩ dJx4a65c_add_72be8_7 (fun v' u H locs hp hW => ?_)
  obtain ⟨q2, rfl, rfl⟩ := hp
  have hW := hW.eq (w' := [(h, .inr (3, [.int mc, .ref q2, .int (nI n)])), (q2, .inl (G.2.1 3, (n + n / 2), .inr (.inr (.inr (.inr (laF n a))))))] ++ (sgW n a c0 ++ [(v, x)])) (by simp only [List.append_assoc, List.nil_append])
  refine lv_astore_n hx hb dJx4a65c_add_72be8_10 rfl hl (by decide) rfl (fun ls hl => ?_)
  refine lv_aload_n hx hb dJx4a65c_add_72be8_11 rfl (lv_at hl 0 rfl) ?_
  refine lv_iload_n hx hb dJx4a65c_add_72be8_12 rfl (lv_at hl 3 rfl) ?_
  refine lv_aload_n hx hb dJx4a65c_add_72be8_13 rfl (lv_at hl 2 rfl) ?_
  refine zmast B hW 1 rfl (zEl.any B hW.1 (k := 2 + n) (sg_he [(h, .inr (3, [.int mc, .ref q2, .int (nI n)])), (q2, .inl (G.2.1 3, (n + n / 2), .inr (.inr (.inr (.inr (laF n a))))))] rfl sg_last) hE) (vp_in_nI (by omega) (by omega)) dJx4a65c_add_72be8_14 (fun H locs hW => ?_)
  rw [nI_clamp (by omega), laF_up] at hW
  refine lv_aload_n hx hb dJx4a65c_add_72be8_15 rfl (lv_at hl 1 rfl) ?_
  refine lv_iload_n hx hb dJx4a65c_add_72be8_16 rfl (lv_at hl 3 rfl) ?_
  refine lv_iconst (v := (1 : Int32)) hx hb dJx4a65c_add_72be8_17 (by decide) ?_
  refine lv_iadd hx hb dJx4a65c_add_72be8_18 ?_
  refine W.eq (g2 := F0 m 19 ls [.int (nI (n + 1)), .ref h]) (by rw [← nI_1] <;> rfl) ?_
  refine zput B hW 0 rfl lf_Jx4a65c_48 ft_Jx4a65c_2 rfl rfl (Nat.le_of_ble_eq_true rfl) dJx4a65c_add_72be8_19 (fun H locs hW => ?_)
  have hW := hW.eq (w' := [(h, .inr (3, [.int mc, .ref q2, .int (nI (n + 1))])), (q2, .inl (G.2.1 3, (n + n / 2), .inr (.inr (.inr (.inr (laF (n + 1) (va_up a n v)))))))] ++ (sgW n a c0 ++ [(v, x)])) rfl
  rw [sg_add h1 h3] at hW
  exact zvret B hr hlk (hW.eq rfl) ⟨q2, rfl, rfl⟩ (by show 0 + 1 ≤ 1; omega) (by show 0 + (n + n / 2) ≤ n + n / 2; omega) dJx4a65c_add_72be8_22
set_option maxHeartbeats 4000000 in
set_option maxRecDepth 100000 in
/-- it's new -/
theorem c_add3a (l : Launch) (G : zG) (h v : Nat) (x : va_E) (mc : Int32) (hE : zEl G x) : zC l yJx4a65c_add_72be8 cJx4a65c_add_72be8 4 none 5 1 10 G [.ref h, .ref v, .ref G.2.2, .int (nI 0)] ([(h, .inr (3, [.int mc, .ref G.2.2, .int 0])), (v, x)]) (fun r u => ∃ q2 : Nat, r = none ∧ u = [(h, .inr (3, [.int mc, .ref q2, .int (nI 1)])), (q2, .inl (G.2.1 3, 10, .inr (.inr (.inr (.inr (va_up (fun _ => none) 0 (some v))))))), (v, x)]) := by
  refine zC.of RJx4a65c rfl (by decide) (Nat.le_of_ble_eq_true rfl) ?_
  intro p e s m args below meth c A ls B hr hlk hnm hW hl
  have hx := B.x
  have hb := B.b
  have hl : lv_has ls 4 [(0, .ref h), (1, .ref v), (2, .ref G.2.2), (3, .int (nI 0))] := hl
  refine lv_iload_n hx hb dJx4a65c_add_72be8_0 rfl (lv_at hl 3 rfl) ?_
  refine lv_aload_n hx hb dJx4a65c_add_72be8_1 rfl (lv_at hl 2 rfl) ?_
  refine zlenD B hW dJx4a65c_add_72be8_2 ?_
  refine lv_icmp_ne (tgt := 11) hx hb dJx4a65c_add_72be8_3 (by decide) (fun z => absurd rfl z) (fun _ => ?_)
  refine lv_aload_n hx hb dJx4a65c_add_72be8_6 rfl (lv_at hl 0 rfl) ?_
  refine zcV (w1 := []) (wc := [(h, .inr (3, [.int mc, .ref G.2.2, .int 0]))]) (w2 := [(v, x)]) (As := []) B (hW.eq rfl) (c_Jx4a65c_grow_d5877_0 l G h mc) yd_Jx4a65c_grow_d5877 ml_Jx4a65c_129 0 rfl rfl rfl rfl hl.1 rfl (Nat.le_of_ble_eq_true rfl) ⟨Nat.le_of_ble_eq_true rfl, Nat.le_of_ble_eq_true rfl⟩ ⟨Nat.le_of_ble_eq_true rfl, Nat.le_of_ble_eq_true rfl⟩ dJx4a65c_add_72be8_7 (fun v' u H locs hp hW => ?_)
  obtain ⟨q2, rfl, rfl⟩ := hp
  have hW := hW.eq (w' := [(h, .inr (3, [.int mc, .ref q2, .int 0])), (q2, .inl (G.2.1 3, 10, .inr (.inr (.inr (.inr (fun _ => none)))))), (v, x)]) rfl
  refine lv_astore_n hx hb dJx4a65c_add_72be8_10 rfl hl (by decide) rfl (fun ls hl => ?_)
  refine lv_aload_n hx hb dJx4a65c_add_72be8_11 rfl (lv_at hl 0 rfl) ?_
  refine lv_iload_n hx hb dJx4a65c_add_72be8_12 rfl (lv_at hl 3 rfl) ?_
  refine lv_aload_n hx hb dJx4a65c_add_72be8_13 rfl (lv_at hl 2 rfl) ?_
  refine zmast B hW 1 rfl (zEl.any B hW.1 (k := 2) rfl hE) (vp_in_nI (show 0 < 10 by decide) (by decide)) dJx4a65c_add_72be8_14 (fun H locs hW => ?_)
  refine lv_aload_n hx hb dJx4a65c_add_72be8_15 rfl (lv_at hl 1 rfl) ?_
  refine lv_iload_n hx hb dJx4a65c_add_72be8_16 rfl (lv_at hl 3 rfl) ?_
  refine lv_iconst (v := (1 : Int32)) hx hb dJx4a65c_add_72be8_17 (by decide) ?_
  refine lv_iadd hx hb dJx4a65c_add_72be8_18 ?_
  refine zput B hW 0 rfl lf_Jx4a65c_48 ft_Jx4a65c_2 rfl rfl (Nat.le_of_ble_eq_true rfl) dJx4a65c_add_72be8_19 (fun H locs hW => ?_)
  exact zvret B hr hlk (hW.eq rfl) ⟨q2, rfl, rfl⟩ (Nat.le_of_ble_eq_true rfl) (Nat.le_of_ble_eq_true rfl) dJx4a65c_add_72be8_22
set_option maxHeartbeats 4000000 in
set_option maxRecDepth 100000 in
/-- there is a place -/
theorem c_addb (l : Launch) (G : zG) (h q n N v : Nat) (a : Nat → Nat) (c0 c1 : Nat → va_E) (x : va_E) (mc : Int32) (hc : ∀ i, i < n → zEl G (c0 i)) (hE : zEl G x) (h1 : c1 n = x) (h3 : ∀ j, j < n → c1 j = c0 j) (hn : n < N) (hN : N ≤ 500000) : zC l yJx4a65c_add_9ea2d cJx4a65c_add_9ea2d 2 (some .boolean) 6 0 0 G [.ref h, .ref v] ([(h, .inr (3, [.int mc, .ref q, .int (nI n)])), (q, .inl (G.2.1 3, N, .inr (.inr (.inr (.inr (laF n a))))))] ++ (sgW n a c0 ++ [(v, x)])) (fun r u => ∃ q2 : Nat, r = some (.int 1) ∧ u = [(h, .inr (3, [.int (mc + 1), .ref q2, .int (nI (n + 1))]))] ++ ([(q2, .inl (G.2.1 3, N, .inr (.inr (.inr (.inr (laF (n + 1) (va_up a n v)))))))] ++ sgW (n + 1) (va_up a n v) c1)) := by
  refine zC.of RJx4a65c rfl (by decide) (Nat.le_of_ble_eq_true rfl) ?_
  intro p e s m args below meth c A ls B hr hlk hnm hW hl
  have hx := B.x
  have hb := B.b
  have hl : lv_has ls 2 [(0, .ref h), (1, .ref v)] := hl
  refine lv_aload_n hx hb dJx4a65c_add_9ea2d_0 rfl (lv_at hl 0 rfl) ?_
  refine lv_dup hx hb dJx4a65c_add_9ea2d_1 rfl ?_
  refine zgetS B hW 0 rfl lf_Jx4a65c_63 rfl dJx4a65c_add_9ea2d_2 ?_
  refine lv_iconst (v := (1 : Int32)) hx hb dJx4a65c_add_9ea2d_5 (by decide) ?_
  refine lv_iadd hx hb dJx4a65c_add_9ea2d_6 ?_
  refine zputS B hW 0 rfl lf_Jx4a65c_63 ft_Jx4a65c_0 rfl rfl (Nat.le_of_ble_eq_true rfl) dJx4a65c_add_9ea2d_7 (fun H locs hW => ?_)
  have hW := hW.eq (w' := [(h, .inr (3, [.int (mc + 1), .ref q, .int (nI n)])), (q, .inl (G.2.1 3, N, .inr (.inr (.inr (.inr (laF n a))))))] ++ (sgW n a c0 ++ [(v, x)])) rfl
  refine lv_aload_n hx hb dJx4a65c_add_9ea2d_10 rfl (lv_at hl 0 rfl) ?_
  refine lv_aload_n hx hb dJx4a65c_add_9ea2d_11 rfl (lv_at hl 1 rfl) ?_
  refine lv_aload_n hx hb dJx4a65c_add_9ea2d_12 rfl (lv_at hl 0 rfl) ?_
  refine zget B hW 0 rfl lf_Jx4a65c_9 rfl dJx4a65c_add_9ea2d_13 ?_
  refine lv_aload_n hx hb dJx4a65c_add_9ea2d_16 rfl (lv_at hl 0 rfl) ?_
  refine zget B hW 0 rfl lf_Jx4a65c_48 rfl dJx4a65c_add_9ea2d_17 ?_
  refine zcV (w1 := []) (wc := [(h, .inr (3, [.int (mc + 1), .ref q, .int (nI n)])), (q, .inl (G.2.1 3, N, .inr (.inr (.inr (.inr (laF n a))))))] ++ (sgW n a c0 ++ [(v, x)])) (w2 := []) (As := [.ref v, .ref q, .int (nI n)]) B (hW.eq (by simp only [List.append_nil, List.nil_append])) (c_add3b l G h q n N v a c0 c1 x (mc + 1) hc hE h1 h3 hn hN) yd_Jx4a65c_add_72be8 ml_Jx4a65c_131 0 rfl rfl rfl rfl hl.1 rfl (Nat.le_of_ble_eq_true rfl) ⟨Nat.le_of_ble_eq_true rfl, Nat.le_of_ble_eq_true rfl⟩ ⟨by show 0 + 0 ≤ 0; omega, by show 0 + 0 ≤ 0; omega⟩ dJx4a65c_add_9ea2d_20 (fun v' u H locs hp hW => ?_)
  obtain ⟨q2, rfl, rfl⟩ := hp
  refine lv_iconst (v := (1 : Int32)) hx hb dJx4a65c_add_9ea2d_23 (by decide) ?_
  exact zzret B hr hlk (by rfl) (hW.eq (by simp only [List.append_nil, List.nil_append])) ⟨q2, rfl, rfl⟩ (by show 0 + 0 ≤ 0; omega) (by show 0 + 0 ≤ 0; omega) dJx4a65c_add_9ea2d_24
set_option maxHeartbeats 4000000 in
set_option maxRecDepth 100000 in
/-- it's full -/
theorem c_addc (l : Launch) (G : zG) (h q n N v : Nat) (a : Nat → Nat) (c0 c1 : Nat → va_E) (x : va_E) (mc : Int32) (hc : ∀ i, i < n → zEl G (c0 i)) (hE : zEl G x) (h1 : c1 n = x) (h3 : ∀ j, j < n → c1 j = c0 j) (hN0 : N = n) (h2 : 2 ≤ n) (hn : n ≤ 300000) : zC l yJx4a65c_add_9ea2d cJx4a65c_add_9ea2d 2 (some .boolean) 6 1 (n + n / 2) G [.ref h, .ref v] ([(h, .inr (3, [.int mc, .ref q, .int (nI n)])), (q, .inl (G.2.1 3, n, .inr (.inr (.inr (.inr (laF n a))))))] ++ (sgW n a c0 ++ [(v, x)])) (fun r u => ∃ q2 : Nat, r = some (.int 1) ∧ u = [(h, .inr (3, [.int (mc + 1), .ref q2, .int (nI (n + 1))]))] ++ ([(q2, .inl (G.2.1 3, (n + n / 2), .inr (.inr (.inr (.inr (laF (n + 1) (va_up a n v)))))))] ++ sgW (n + 1) (va_up a n v) c1)) := by
  refine zC.of RJx4a65c rfl (by decide) (Nat.le_of_ble_eq_true rfl) ?_
  intro p e s m args below meth c A ls B hr hlk hnm hW hl
  have hx := B.x
  have hb := B.b
  have hl : lv_has ls 2 [(0, .ref h), (1, .ref v)] := hl
  refine lv_aload_n hx hb dJx4a65c_add_9ea2d_0 rfl (lv_at hl 0 rfl) ?_
  refine lv_dup hx hb dJx4a65c_add_9ea2d_1 rfl ?_
  refine zgetS B hW 0 rfl lf_Jx4a65c_63 rfl dJx4a65c_add_9ea2d_2 ?_
  refine lv_iconst (v := (1 : Int32)) hx hb dJx4a65c_add_9ea2d_5 (by decide) ?_
  refine lv_iadd hx hb dJx4a65c_add_9ea2d_6 ?_
  refine zputS B hW 0 rfl lf_Jx4a65c_63 ft_Jx4a65c_0 rfl rfl (Nat.le_of_ble_eq_true rfl) dJx4a65c_add_9ea2d_7 (fun H locs hW => ?_)
  have hW := hW.eq (w' := [(h, .inr (3, [.int (mc + 1), .ref q, .int (nI n)])), (q, .inl (G.2.1 3, n, .inr (.inr (.inr (.inr (laF n a))))))] ++ (sgW n a c0 ++ [(v, x)])) rfl
  refine lv_aload_n hx hb dJx4a65c_add_9ea2d_10 rfl (lv_at hl 0 rfl) ?_
  refine lv_aload_n hx hb dJx4a65c_add_9ea2d_11 rfl (lv_at hl 1 rfl) ?_
  refine lv_aload_n hx hb dJx4a65c_add_9ea2d_12 rfl (lv_at hl 0 rfl) ?_
  refine zget B hW 0 rfl lf_Jx4a65c_9 rfl dJx4a65c_add_9ea2d_13 ?_
  refine lv_aload_n hx hb dJx4a65c_add_9ea2d_16 rfl (lv_at hl 0 rfl) ?_
  refine zget B hW 0 rfl lf_Jx4a65c_48 rfl dJx4a65c_add_9ea2d_17 ?_
  refine zcV (w1 := []) (wc := [(h, .inr (3, [.int (mc + 1), .ref q, .int (nI n)])), (q, .inl (G.2.1 3, n, .inr (.inr (.inr (.inr (laF n a))))))] ++ (sgW n a c0 ++ [(v, x)])) (w2 := []) (As := [.ref v, .ref q, .int (nI n)]) B (hW.eq (by simp only [List.append_nil, List.nil_append])) (c_add3c l G h q n N v a c0 c1 x (mc + 1) hc hE h1 h3 hN0 h2 hn) yd_Jx4a65c_add_72be8 ml_Jx4a65c_131 0 rfl rfl rfl rfl hl.1 rfl (Nat.le_of_ble_eq_true rfl) ⟨Nat.le_of_ble_eq_true rfl, Nat.le_of_ble_eq_true rfl⟩ ⟨by show 0 + 1 ≤ 1; omega, by show 0 + (n + n / 2) ≤ (n + n / 2); omega⟩ dJx4a65c_add_9ea2d_20 (fun v' u H locs hp hW => ?_)
  obtain ⟨q2, rfl, rfl⟩ := hp
  refine lv_iconst (v := (1 : Int32)) hx hb dJx4a65c_add_9ea2d_23 (by decide) ?_
  exact zzret B hr hlk (by rfl) (hW.eq (by simp only [List.append_nil, List.nil_append])) ⟨q2, rfl, rfl⟩ (by show 0 + 1 ≤ 1; omega) (by show 0 + (n + n / 2) ≤ (n + n / 2); omega) dJx4a65c_add_9ea2d_24
set_option maxHeartbeats 4000000 in
set_option maxRecDepth 100000 in
/-- it's new -/
theorem c_adda (l : Launch) (G : zG) (h v : Nat) (x : va_E) (mc : Int32) (hE : zEl G x) : zC l yJx4a65c_add_9ea2d cJx4a65c_add_9ea2d 2 (some .boolean) 6 1 10 G [.ref h, .ref v] ([(h, .inr (3, [.int mc, .ref G.2.2, .int 0])), (v, x)]) (fun r u => ∃ q2 : Nat, r = some (.int 1) ∧ u = [(h, .inr (3, [.int (mc + 1), .ref q2, .int (nI 1)])), (q2, .inl (G.2.1 3, 10, .inr (.inr (.inr (.inr (va_up (fun _ => none) 0 (some v))))))), (v, x)]) := by
  refine zC.of RJx4a65c rfl (by decide) (Nat.le_of_ble_eq_true rfl) ?_
  intro p e s m args below meth c A ls B hr hlk hnm hW hl
  have hx := B.x
  have hb := B.b
  have hl : lv_has ls 2 [(0, .ref h), (1, .ref v)] := hl
  refine lv_aload_n hx hb dJx4a65c_add_9ea2d_0 rfl (lv_at hl 0 rfl) ?_
  refine lv_dup hx hb dJx4a65c_add_9ea2d_1 rfl ?_
  refine zgetS B hW 0 rfl lf_Jx4a65c_63 rfl dJx4a65c_add_9ea2d_2 ?_
  refine lv_iconst (v := (1 : Int32)) hx hb dJx4a65c_add_9ea2d_5 (by decide) ?_
  refine lv_iadd hx hb dJx4a65c_add_9ea2d_6 ?_
  refine zputS B hW 0 rfl lf_Jx4a65c_63 ft_Jx4a65c_0 rfl rfl (Nat.le_of_ble_eq_true rfl) dJx4a65c_add_9ea2d_7 (fun H locs hW => ?_)
  have hW := hW.eq (w' := [(h, .inr (3, [.int (mc + 1), .ref G.2.2, .int 0])), (v, x)]) rfl
  refine lv_aload_n hx hb dJx4a65c_add_9ea2d_10 rfl (lv_at hl 0 rfl) ?_
  refine lv_aload_n hx hb dJx4a65c_add_9ea2d_11 rfl (lv_at hl 1 rfl) ?_
  refine lv_aload_n hx hb dJx4a65c_add_9ea2d_12 rfl (lv_at hl 0 rfl) ?_
  refine zget B hW 0 rfl lf_Jx4a65c_9 rfl dJx4a65c_add_9ea2d_13 ?_
  refine lv_aload_n hx hb dJx4a65c_add_9ea2d_16 rfl (lv_at hl 0 rfl) ?_
  refine zget B hW 0 rfl lf_Jx4a65c_48 rfl dJx4a65c_add_9ea2d_17 ?_
  refine zcV (w1 := []) (wc := [(h, .inr (3, [.int (mc + 1), .ref G.2.2, .int 0])), (v, x)]) (w2 := []) (As := [.ref v, .ref G.2.2, .int 0]) B (hW.eq (by simp only [List.append_nil, List.nil_append])) (c_add3a l G h v x (mc + 1) hE) yd_Jx4a65c_add_72be8 ml_Jx4a65c_131 0 rfl rfl rfl rfl hl.1 rfl (Nat.le_of_ble_eq_true rfl) ⟨Nat.le_of_ble_eq_true rfl, Nat.le_of_ble_eq_true rfl⟩ ⟨by show 0 + 1 ≤ 1; omega, by show 0 + 10 ≤ 10; omega⟩ dJx4a65c_add_9ea2d_20 (fun v' u H locs hp hW => ?_)
  obtain ⟨q2, rfl, rfl⟩ := hp
  refine lv_iconst (v := (1 : Int32)) hx hb dJx4a65c_add_9ea2d_23 (by decide) ?_
  exact zzret B hr hlk (by rfl) (hW.eq (by simp only [List.append_nil, List.nil_append])) ⟨q2, rfl, rfl⟩ (by show 0 + 1 ≤ 1; omega) (by show 0 + 10 ≤ 10; omega) dJx4a65c_add_9ea2d_24
theorem zC.at {l : Launch} {y : MethodName} {cc : ByteArray} {n : Nat} {ret : Option FieldType} {d mc ms mc' ms' : Nat} {G : zG} {av : List Value} {w w' : va_W} {post post' : Option Value → va_W → Prop} (h : zC l y cc n ret d mc ms G av w post) (e : w' = w) (e1 : mc' = mc) (e2 : ms' = ms) (e3 : post = post') : zC l y cc n ret d mc' ms' G av w' post' := by
  subst e; subst e1; subst e2; subst e3
  exact h
/-- add, whatever the row -/
theorem c_add (l : Launch) (G : zG) (h q n N v : Nat) (ad a : Nat → Nat) (c0 c1 : Nat → va_E) (x : va_E) (mc : Int32) (hc : ∀ i, i < n → zEl G (c0 i)) (hE : zEl G x) (h1 : c1 n = x) (h3 : ∀ j, j < n → c1 j = c0 j) (hnN : n ≤ N) (hN0 : N = 0 ∨ 2 ≤ N) (hN : N ≤ 300000) :
    zC l yJx4a65c_add_9ea2d cJx4a65c_add_9ea2d 2 (some .boolean) 6 (if n < N then 0 else 1) (if n < N then 0 else zNc n N) G [.ref h, .ref v] (alW G h ad (mc, zLv G N q, nI n) ++ (rwW G q a (n, N) ++ (sgW n a c0 ++ [(v, x)])))
      (fun r u => ∃ q2 : Nat, r = some (.int 1) ∧ u = alW G h ad (mc + 1, zLv G (zNc n N) q2, nI (n + 1)) ++ (rwW G q2 (va_up a n v) (n + 1, zNc n N) ++ sgW (n + 1) (va_up a n v) c1)) := by
  by_cases c : n < N
  · have e1 : zNc n N = N := if_pos c
    rw [e1]
    refine (c_addb l G h q n N v a c0 c1 x mc hc hE h1 h3 c (by omega)).at ?_ (if_pos c) (if_pos c) ?_
    · rw [rw_p (by omega), zLv_p (by omega)]; rfl
    · funext r u
      refine congrArg Exists (funext fun q2 => ?_)
      rw [rw_p (by omega), zLv_p (by omega)]; rfl
  · by_cases c2 : N = 0
    · have hn0 : n = 0 := by omega
      subst c2; subst hn0
      refine (c_adda l G h v x mc hE).at rfl rfl rfl ?_
      funext r u
      refine congrArg Exists (funext fun q2 => ?_)
      rw [show zNc 0 0 = 10 from rfl, rw_p (by omega), zLv_p (by omega)]
      have e2 : sgW (0 + 1) (va_up a 0 v) c1 = [(v, x)] := by
        rw [← sg_add (c0 := c0) h1 h3]; rfl
      have e3 : va_up (fun _ => none) 0 (some v) = laF (0 + 1) (va_up a 0 v) := by
        rw [← laF_up]; rfl
      rw [e2, e3]
      rfl
    · have e0 : N = n := by omega
      have e1 : zNc n N = n + n / 2 := by unfold zNc; rw [if_neg c, if_neg c2, e0]
      rw [e1]
      refine (c_addc l G h q n N v a c0 c1 x mc hc hE h1 h3 e0 (by omega) (by omega)).at ?_ (if_neg c) (if_neg c) ?_
      · rw [rw_p (by omega), zLv_p (by omega), e0]; rfl
      · funext r u
        refine congrArg Exists (funext fun q2 => ?_)
        rw [rw_p (by omega), zLv_p (by omega)]; rfl
end
section
/-! rows for entries of lists -/
def zLr : Nat → Int32
  | 0 => -1
  | i + 1 => nI i
def zLk (n N : Nat) : Prop := n ≤ N ∧ (N = 0 ∨ 2 ≤ N) ∧ N ≤ 300000
theorem zLk_b {n N : Nat} (h : zLk n N) : N < 2 ^ 31 := by have := h.2.2; omega
theorem zLk_s {n N : Nat} (h : zLk n N) (hn : n < 200000) : zLk (n + 1) (zNc n N) := by
  obtain ⟨h1, h2, h3⟩ := h
  unfold zNc zLk
  by_cases c : n < N
  · rw [if_pos c]; exact ⟨by omega, h2, h3⟩
  · rw [if_neg c]
    by_cases c2 : N = 0
    · rw [if_pos c2]; exact ⟨by omega, by omega, by omega⟩
    · rw [if_neg c2]; exact ⟨by omega, by omega, by omega⟩
theorem zhn0 (a : Int32) : r_Jx35411_hasNext_aae02 a a = 0 := if_pos rfl
theorem zhn1 {i n : Nat} (hi : i < n) (hn : n < 2 ^ 31) : ¬ r_Jx35411_hasNext_aae02 (nI i) (nI n) = 0 := by
  unfold r_Jx35411_hasNext_aae02
  rw [if_neg (fun z => absurd ((nI_eq (by omega) hn).mp z) (by omega))]
  decide
def zW3 (x y z : Int32) : Nat → Int32 := upd (upd (upd (fun _ => 0) 0 x) 1 y) 2 z
section ZSR
variable {p : Program} {l : Launch} {e : Env} {R : Room} {s : State} {m : MethodId} {args : Array Value} {below : List Frame} {meth : Method} {c : Code} {H : Heap} {locs : List Loc} {cells slots : Nat} {Q : State → Prop}
variable {cc bytes : ByteArray} {nL pc idx : Nat} {own : String} {G : zG} {A : Nat → Prop} {w : va_W} {ls : Array Slot} {rest : List Value} {a : Nat}
theorem zcast (B : zM p s m args c cc nL own G A) (hW : zW G A s.heap H locs w) (q0 : Nat) {ci : Nat} {fs : List Value} {r : vw_C} (he : w[q0]? = some (a, .inr (ci, fs))) (hc : vwCl[ci]? = some r) (hl : Cond.classLink own idx r.1 ∈ zAll) (hdg : decode cc pc = .ok (.checkcast idx, 3))
    (k : W p l e R s m args below meth c H locs cells slots Q (F0 m (pc + 3) ls (.ref a :: rest))) : W p l e R s m args below meth c H locs cells slots Q (F0 m pc ls (.ref a :: rest)) :=
  va_castS B.x B.b B.o (B.ts _ hl) (B.K.1 ci r hc).2 (va_recv B.K hW.1 hc he) hdg k
theorem zcastI (B : zM p s m args c cc nL own G A) (hW : zW G A s.heap H locs w) (q0 : Nat) {x : vp_A} (he : w[q0]? = some (a, .inl (G.2.1 0, x))) (hl : Cond.classLink own idx "[I" ∈ zAll) (hdg : decode cc pc = .ok (.checkcast idx, 3))
    (k : W p l e R s m args below meth c H locs cells slots Q (F0 m (pc + 3) ls (.ref a :: rest))) : W p l e R s m args below meth c H locs cells slots Q (F0 m pc ls (.ref a :: rest)) :=
  va_castA B.x B.b B.o (B.ts _ hl) hW.1 q0 he (B.K.2 0 _ rfl).2 hdg k
theorem zacmp_eq {x y : Nat} {P : Prop} (hP : x = y ↔ P) (hexec : p.tables.exec = Jvm.exec) (hb : c.code = cc) {off : Int} {tgt : Nat} (hdg : decode cc pc = .ok (.if_acmp .eq off, 3)) (ht : (pc : Int) + off = (tgt : Int))
    (kt : P → W p l e R s m args below meth c H locs cells slots Q (F0 m tgt ls rest)) (kf : ¬ P → W p l e R s m args below meth c H locs cells slots Q (F0 m (pc + 3) ls rest)) : W p l e R s m args below meth c H locs cells slots Q (F0 m pc ls (.ref y :: .ref x :: rest)) :=
  lv_acmp_eq (rx := some x) (ry := some y) hexec hb hdg ht (fun h => kt (hP.mp (Option.some.inj h))) (fun h => kf (fun z => h (congrArg some (hP.mpr z))))
end ZSR
theorem ko_I : Cond.castable "[I" "java/lang/Object" ∈ zNest := zMemN 7093 (by decide +kernel) rfl
end
section
abbrev zMl : Type := (Nat → Int32) × (Nat → Int32) × (Nat → Int32) × (Nat → Int32) × (Nat → Int32) × (Nat → Int32) × Int32 × Int32 × Int32 × Int32 × Int64 × Int64 × Int64
def mlW (G : zG) (h : Nat) (ad : Nat → Nat) (x : zMl) : va_W := [(h, .inr (12, [.ref (ad 0), .ref (ad 1), .ref (ad 2), .ref (ad 3), .ref (ad 4), .ref (ad 5), .int x.2.2.2.2.2.2.1, .int x.2.2.2.2.2.2.2.1, .int x.2.2.2.2.2.2.2.2.1, .int x.2.2.2.2.2.2.2.2.2.1, .long x.2.2.2.2.2.2.2.2.2.2.1, .long x.2.2.2.2.2.2.2.2.2.2.2.1, .long x.2.2.2.2.2.2.2.2.2.2.2.2])), (ad 0, .inl (G.2.1 0, 48, .inl x.1)), (ad 1, .inl (G.2.1 0, 3, .inl x.2.1)), (ad 2, .inl (G.2.1 0, 3, .inl x.2.2.1)), (ad 3, .inl (G.2.1 0, 48, .inl x.2.2.2.1)), (ad 4, .inl (G.2.1 0, 48, .inl x.2.2.2.2.1)), (ad 5, .inl (G.2.1 1, 48, .inl x.2.2.2.2.2.1))]
def r_X12_isBetween (a : Int32) (b : Int32) (d : Int32) : Int32 := (if a < b then (0 : Int32) else (if d < a then (0 : Int32) else (1 : Int32)))
abbrev po_X12_isBetween (G : zG)  (a : Int32) (b : Int32) (d : Int32) : Option Value → va_W → Prop := fun r u => r = some (.int (r_X12_isBetween a b d)) ∧ u = []
set_option maxHeartbeats 4000000 in
set_option maxRecDepth 100000 in
theorem c_X12_isBetween (l : Launch) (G : zG)  (a : Int32) (b : Int32) (d : Int32) : zC l yX12_isBetween cX12_isBetween 3 (some .boolean) 0 0 0 G [.int a, .int b, .int d] ([]) (po_X12_isBetween G a b d) := by
  refine zC.of RX12 rfl (by decide) (Nat.le_of_ble_eq_true rfl) ?_
  intro p e s m args below meth c A ls B hr hlk hnm hW hl
  have hx := B.x
  have hb := B.b
  have hl : lv_has ls 3 [(0, .int a), (1, .int b), (2, .int d)] := hl
  refine lv_iload_n hx hb dX12_isBetween_0 rfl (lv_at hl 1 rfl) ?_
  refine lv_iload_n hx hb dX12_isBetween_1 rfl (lv_at hl 0 rfl) ?_
  have J_1 : ∀ (H : Heap) (locs : List Loc) (ls : Array Slot), zW G A s.heap H locs ([]) → lv_has ls 3 [] → W p l e (zRm 0 0 0) s m args below meth c H locs 0 0 (MQ below (zQ G A (po_X12_isBetween G a b d)) args s 0 0 A) (F0 m 15 ls [.int (if a < b then (0 : Int32) else (if d < a then (0 : Int32) else (1 : Int32)))]) := by
    intro H locs ls hW hl
    exact zzret B hr hlk (by (repeat' split) <;> rfl) hW ⟨rfl, rfl⟩ (Nat.le_refl _) (Nat.le_refl _) dX12_isBetween_15
  refine lv_icmp_gt (tgt := 14) hx hb dX12_isBetween_2 (by decide) (fun c_2 => ?_) (fun c_2 => ?_)
  · refine lv_iconst (v := (0 : Int32)) hx hb dX12_isBetween_14 (by decide) ?_
    have e_0 : (if a < b then (0 : Int32) else (if d < a then (0 : Int32) else (1 : Int32))) = (0 : Int32) := if_pos c_2
    refine W.eq (g2 := F0 m 15 ls [.int (if a < b then (0 : Int32) else (if d < a then (0 : Int32) else (1 : Int32)))]) (by (try rw [e_0]) <;> rfl) ?_
    exact J_1 _ _ _ (hW.eq (by (try rw [e_0]) <;> rfl)) (by (try rw [e_0]) <;> exact lv_sub hl [] rfl)
  · refine lv_iload_n hx hb dX12_isBetween_5 rfl (lv_at hl 0 rfl) ?_
    refine lv_iload_n hx hb dX12_isBetween_6 rfl (lv_at hl 2 rfl) ?_
    refine lv_icmp_gt (tgt := 14) hx hb dX12_isBetween_7 (by decide) (fun c_7 => ?_) (fun c_7 => ?_)
    · refine lv_iconst (v := (0 : Int32)) hx hb dX12_isBetween_14 (by decide) ?_
      have e_0 : (if a < b then (0 : Int32) else (if d < a then (0 : Int32) else (1 : Int32))) = (0 : Int32) := (if_neg c_2).trans (if_pos c_7)
      refine W.eq (g2 := F0 m 15 ls [.int (if a < b then (0 : Int32) else (if d < a then (0 : Int32) else (1 : Int32)))]) (by (try rw [e_0]) <;> rfl) ?_
      exact J_1 _ _ _ (hW.eq (by (try rw [e_0]) <;> rfl)) (by (try rw [e_0]) <;> exact lv_sub hl [] rfl)
    · refine lv_iconst (v := (1 : Int32)) hx hb dX12_isBetween_10 (by decide) ?_
      refine lv_goto (tgt := 15) hx hb dX12_isBetween_11 (by decide) ?_
      have e_0 : (if a < b then (0 : Int32) else (if d < a then (0 : Int32) else (1 : Int32))) = (1 : Int32) := (if_neg c_2).trans (if_neg c_7)
      refine W.eq (g2 := F0 m 15 ls [.int (if a < b then (0 : Int32) else (if d < a then (0 : Int32) else (1 : Int32)))]) (by (try rw [e_0]) <;> rfl) ?_
      exact J_1 _ _ _ (hW.eq (by (try rw [e_0]) <;> rfl)) (by (try rw [e_0]) <;> exact lv_sub hl [] rfl)
def r_X12_isCell (a : Int32) (b : Int32) : Int32 := (if (r_X12_isBetween a (0 : Int32) (7 : Int32)) = (0 : Int32) then (0 : Int32) else (if (r_X12_isBetween b (0 : Int32) (5 : Int32)) = (0 : Int32) then (0 : Int32) else (1 : Int32)))
abbrev po_X12_isCell (G : zG)  (a : Int32) (b : Int32) : Option Value → va_W → Prop := fun r u => r = some (.int (r_X12_isCell a b)) ∧ u = []
set_option maxHeartbeats 4000000 in
set_option maxRecDepth 100000 in
theorem c_X12_isCell (l : Launch) (G : zG)  (a : Int32) (b : Int32) : zC l yX12_isCell cX12_isCell 2 (some .boolean) 1 0 0 G [.int a, .int b] ([]) (po_X12_isCell G a b) := by
  refine zC.of RX12 rfl (by decide) (Nat.le_of_ble_eq_true rfl) ?_
  intro p e s m args below meth c A ls B hr hlk hnm hW hl
  have hx := B.x
  have hb := B.b
  have hl : lv_has ls 2 [(0, .int a), (1, .int b)] := hl
  refine lv_iload_n hx hb dX12_isCell_0 rfl (lv_at hl 0 rfl) ?_
  refine lv_iconst (v := (0 : Int32)) hx hb dX12_isCell_1 (by decide) ?_
  refine lv_bipush (v := (7 : Int32)) hx hb dX12_isCell_2 (by decide) ?_
  refine zcS (w1 := []) (wc := []) (w2 := []) (As := [.int a, .int (0 : Int32), .int (7 : Int32)]) B (hW.eq rfl) (c_X12_isBetween l G a (0 : Int32) (7 : Int32)) yd_X12_isBetween ml_X12_36 rfl hl.1 rfl (Nat.le_of_ble_eq_true rfl) ⟨Nat.le_of_ble_eq_true rfl, Nat.le_of_ble_eq_true rfl⟩ ⟨(Nat.le_of_ble_eq_true rfl), (Nat.le_of_ble_eq_true rfl)⟩ dX12_isCell_4 (fun v u H locs hp hW => ?_)
  obtain ⟨rfl, rfl⟩ := hp
  have hW := hW.eq (w' := []) rfl
  have J_1 : ∀ (H : Heap) (locs : List Loc) (ls : Array Slot), zW G A s.heap H locs ([]) → lv_has ls 2 [] → W p l e (zRm 1 0 0) s m args below meth c H locs 0 0 (MQ below (zQ G A (po_X12_isCell G a b)) args s 0 0 A) (F0 m 24 ls [.int (if (r_X12_isBetween a (0 : Int32) (7 : Int32)) = (0 : Int32) then (0 : Int32) else (if (r_X12_isBetween b (0 : Int32) (5 : Int32)) = (0 : Int32) then (0 : Int32) else (1 : Int32)))]) := by
    intro H locs ls hW hl
    exact zzret B hr hlk (by (repeat' split) <;> rfl) hW ⟨rfl, rfl⟩ (Nat.le_refl _) (Nat.le_refl _) dX12_isCell_24
  refine lv_if_eq (tgt := 23) hx hb dX12_isCell_7 (by decide) (fun c_7 => ?_) (fun c_7 => ?_)
  · refine lv_iconst (v := (0 : Int32)) hx hb dX12_isCell_23 (by decide) ?_
    have e_0 : (if (r_X12_isBetween a (0 : Int32) (7 : Int32)) = (0 : Int32) then (0 : Int32) else (if (r_X12_isBetween b (0 : Int32) (5 : Int32)) = (0 : Int32) then (0 : Int32) else (1 : Int32))) = (0 : Int32) := if_pos c_7
    refine W.eq (g2 := F0 m 24 ls [.int (if (r_X12_isBetween a (0 : Int32) (7 : Int32)) = (0 : Int32) then (0 : Int32) else (if (r_X12_isBetween b (0 : Int32) (5 : Int32)) = (0 : Int32) then (0 : Int32) else (1 : Int32)))]) (by (try rw [e_0]) <;> rfl) ?_
    exact J_1 _ _ _ (hW.eq (by (try rw [e_0]) <;> rfl)) (by (try rw [e_0]) <;> exact lv_sub hl [] rfl)
  · refine lv_iload_n hx hb dX12_isCell_10 rfl (lv_at hl 1 rfl) ?_
    refine lv_iconst (v := (0 : Int32)) hx hb dX12_isCell_11 (by decide) ?_
    refine lv_iconst (v := (5 : Int32)) hx hb dX12_isCell_12 (by decide) ?_
    refine zcS (w1 := []) (wc := []) (w2 := []) (As := [.int b, .int (0 : Int32), .int (5 : Int32)]) B (hW.eq rfl) (c_X12_isBetween l G b (0 : Int32) (5 : Int32)) yd_X12_isBetween ml_X12_36 rfl hl.1 rfl (Nat.le_of_ble_eq_true rfl) ⟨Nat.le_of_ble_eq_true rfl, Nat.le_of_ble_eq_true rfl⟩ ⟨(Nat.le_of_ble_eq_true rfl), (Nat.le_of_ble_eq_true rfl)⟩ dX12_isCell_13 (fun v u H locs hp hW => ?_)
    obtain ⟨rfl, rfl⟩ := hp
    have hW := hW.eq (w' := []) rfl
    refine lv_if_eq (tgt := 23) hx hb dX12_isCell_16 (by decide) (fun c_16 => ?_) (fun c_16 => ?_)
    · refine lv_iconst (v := (0 : Int32)) hx hb dX12_isCell_23 (by decide) ?_
      have e_0 : (if (r_X12_isBetween a (0 : Int32) (7 : Int32)) = (0 : Int32) then (0 : Int32) else (if (r_X12_isBetween b (0 : Int32) (5 : Int32)) = (0 : Int32) then (0 : Int32) else (1 : Int32))) = (0 : Int32) := (if_neg c_7).trans (if_pos c_16)
      refine W.eq (g2 := F0 m 24 ls [.int (if (r_X12_isBetween a (0 : Int32) (7 : Int32)) = (0 : Int32) then (0 : Int32) else (if (r_X12_isBetween b (0 : Int32) (5 : Int32)) = (0 : Int32) then (0 : Int32) else (1 : Int32)))]) (by (try rw [e_0]) <;> rfl) ?_
      exact J_1 _ _ _ (hW.eq (by (try rw [e_0]) <;> rfl)) (by (try rw [e_0]) <;> exact lv_sub hl [] rfl)
    · refine lv_iconst (v := (1 : Int32)) hx hb dX12_isCell_19 (by decide) ?_
      refine lv_goto (tgt := 24) hx hb dX12_isCell_20 (by decide) ?_
      have e_0 : (if (r_X12_isBetween a (0 : Int32) (7 : Int32)) = (0 : Int32) then (0 : Int32) else (if (r_X12_isBetween b (0 : Int32) (5 : Int32)) = (0 : Int32) then (0 : Int32) else (1 : Int32))) = (1 : Int32) := (if_neg c_7).trans (if_neg c_16)
      refine W.eq (g2 := F0 m 24 ls [.int (if (r_X12_isBetween a (0 : Int32) (7 : Int32)) = (0 : Int32) then (0 : Int32) else (if (r_X12_isBetween b (0 : Int32) (5 : Int32)) = (0 : Int32) then (0 : Int32) else (1 : Int32)))]) (by (try rw [e_0]) <;> rfl) ?_
      exact J_1 _ _ _ (hW.eq (by (try rw [e_0]) <;> rfl)) (by (try rw [e_0]) <;> exact lv_sub hl [] rfl)
def r_X12_isCrew (a : Int32) : Int32 := (r_X12_isBetween a (0 : Int32) (2 : Int32))
abbrev po_X12_isCrew (G : zG)  (a : Int32) : Option Value → va_W → Prop := fun r u => r = some (.int (r_X12_isCrew a)) ∧ u = []
set_option maxHeartbeats 4000000 in
set_option maxRecDepth 100000 in
theorem c_X12_isCrew (l : Launch) (G : zG)  (a : Int32) : zC l yX12_isCrew cX12_isCrew 1 (some .boolean) 1 0 0 G [.int a] ([]) (po_X12_isCrew G a) := by
  refine zC.of RX12 rfl (by decide) (Nat.le_of_ble_eq_true rfl) ?_
  intro p e s m args below meth c A ls B hr hlk hnm hW hl
  have hx := B.x
  have hb := B.b
  have hl : lv_has ls 1 [(0, .int a)] := hl
  refine lv_iload_n hx hb dX12_isCrew_0 rfl (lv_at hl 0 rfl) ?_
  refine lv_iconst (v := (0 : Int32)) hx hb dX12_isCrew_1 (by decide) ?_
  refine lv_iconst (v := (2 : Int32)) hx hb dX12_isCrew_2 (by decide) ?_
  refine zcS (w1 := []) (wc := []) (w2 := []) (As := [.int a, .int (0 : Int32), .int (2 : Int32)]) B (hW.eq rfl) (c_X12_isBetween l G a (0 : Int32) (2 : Int32)) yd_X12_isBetween ml_X12_36 rfl hl.1 rfl (Nat.le_of_ble_eq_true rfl) ⟨Nat.le_of_ble_eq_true rfl, Nat.le_of_ble_eq_true rfl⟩ ⟨(Nat.le_of_ble_eq_true rfl), (Nat.le_of_ble_eq_true rfl)⟩ dX12_isCrew_3 (fun v u H locs hp hW => ?_)
  obtain ⟨rfl, rfl⟩ := hp
  have hW := hW.eq (w' := []) rfl
  exact zzret B hr hlk (by unfold r_X12_isBetween; (repeat' split) <;> rfl) hW ⟨rfl, rfl⟩ (Nat.le_refl _) (Nat.le_refl _) dX12_isCrew_6
def r_X12_at (a : Int32) (b : Int32) : Int32 := ((b * (8 : Int32)) + a)
abbrev po_X12_at (G : zG)  (a : Int32) (b : Int32) : Option Value → va_W → Prop := fun r u => r = some (.int (r_X12_at a b)) ∧ u = []
set_option maxHeartbeats 4000000 in
set_option maxRecDepth 100000 in
theorem c_X12_at (l : Launch) (G : zG)  (a : Int32) (b : Int32) : zC l yX12_at cX12_at 2 (some .int) 0 0 0 G [.int a, .int b] ([]) (po_X12_at G a b) := by
  refine zC.of RX12 rfl (by decide) (Nat.le_of_ble_eq_true rfl) ?_
  intro p e s m args below meth c A ls B hr hlk hnm hW hl
  have hx := B.x
  have hb := B.b
  have hl : lv_has ls 2 [(0, .int a), (1, .int b)] := hl
  refine lv_iload_n hx hb dX12_at_0 rfl (lv_at hl 1 rfl) ?_
  refine lv_bipush (v := (8 : Int32)) hx hb dX12_at_1 (by decide) ?_
  refine lv_imul hx hb dX12_at_3 ?_
  refine lv_iload_n hx hb dX12_at_4 rfl (lv_at hl 0 rfl) ?_
  refine lv_iadd hx hb dX12_at_5 ?_
  exact ziret B hr hlk hW ⟨rfl, rfl⟩ (Nat.le_refl _) (Nat.le_refl _) dX12_at_6
theorem zfit {x : Int32} (h : vp_nar .boolean x = x) : fits .boolean (.int x) = true := by
  have h1 : x &&& 1 = x := h
  have h2 := congrArg Int32.toBitVec h1
  rw [Int32.toBitVec_and] at h2
  have h3 := congrArg BitVec.toNat h2
  rw [BitVec.toNat_and] at h3
  have h4 : x.toBitVec.toNat &&& 1 = x.toBitVec.toNat := h3
  rw [Nat.and_one_is_mod] at h4
  have h5 : x.toBitVec.toNat = 0 ∨ x.toBitVec.toNat = 1 := by omega
  rcases h5 with h5 | h5
  · have : x = 0 := Int32.toBitVec_inj.mp (BitVec.eq_of_toNat_eq h5)
    subst this; rfl
  · have : x = 1 := Int32.toBitVec_inj.mp (BitVec.eq_of_toNat_eq h5)
    subst this; rfl
theorem zmbet {a b d : Int32} (h : ¬ r_X12_isBetween a b d = (0 : Int32)) : b ≤ a ∧ a ≤ d := by
  unfold r_X12_isBetween at h
  by_cases c1 : b ≤ a
  · by_cases c2 : a ≤ d
    · exact ⟨c1, c2⟩
    · exact absurd (by simp [c1, c2]) h
  · exact absurd (by simp [c1]) h
theorem zmix {a : Int32} {k n : Nat} (hk : k < n ∧ n < 2 ^ 31) (h : (0 : Int32) ≤ a ∧ a ≤ nI k) : vp_in a n ∧ a.toNatClampNeg ≤ k ∧ a = nI a.toNatClampNeg := by
  rcases pk_ix a (n := n) hk.2 with h1 | h1 | ⟨i, hi, rfl⟩
  · exact absurd (Int32.lt_of_lt_of_le h1 h.1) Int32.lt_irrefl
  · exact absurd (Int32.le_trans h1 h.2) (nI_ge hk.1 hk.2)
  · rw [nI_clamp (by omega)]
    refine ⟨vp_in_nI hi hk.2, ?_, rfl⟩
    rcases Nat.lt_or_ge k i with q | q
    · exact absurd h.2 (nI_ge q (by omega))
    · exact q
theorem zmcell {a b : Int32} (h : ¬ r_X12_isCell a b = (0 : Int32)) : ¬ r_X12_isBetween a (0 : Int32) (7 : Int32) = (0 : Int32) ∧ ¬ r_X12_isBetween b (0 : Int32) (5 : Int32) = (0 : Int32) := by
  unfold r_X12_isCell at h
  by_cases c1 : r_X12_isBetween a (0 : Int32) (7 : Int32) = (0 : Int32)
  · exact absurd (by simp [c1]) h
  · by_cases c2 : r_X12_isBetween b (0 : Int32) (5 : Int32) = (0 : Int32)
    · exact absurd (by simp [c1, c2]) h
    · exact ⟨c1, c2⟩
theorem zmcell_ix {a b : Int32} (h : ¬ r_X12_isCell a b = (0 : Int32)) : vp_in ((b * (8 : Int32)) + a) 48 := by
  obtain ⟨h1, h2⟩ := zmcell h
  obtain ⟨-, h3, h4⟩ := zmix (k := 7) (n := 8) ⟨by decide, by decide⟩ (zmbet h1)
  obtain ⟨-, h5, h6⟩ := zmix (k := 5) (n := 6) ⟨by decide, by decide⟩ (zmbet h2)
  rw [h4, h6, show (8 : Int32) = nI 8 from rfl, pk_mul, nI_add]
  exact vp_in_nI (by omega) (by decide)
theorem zmsz {a : Int32} {n : Nat} (hn : n < 2 ^ 31) (h : ¬ r_X12_isBetween a (0 : Int32) (nI n - (1 : Int32)) = (0 : Int32)) : a = nI a.toNatClampNeg ∧ a.toNatClampNeg < n := by
  have h1 := zmbet h
  rcases Nat.eq_zero_or_pos n with q | q
  · subst q
    exact absurd (Int32.le_trans h1.1 h1.2) (by decide)
  · obtain ⟨k, rfl⟩ : ∃ k, n = k + 1 := ⟨n - 1, by omega⟩
    have e : nI (k + 1) - (1 : Int32) = nI k := by rw [← nI_1]; exact Int32.add_sub_cancel _ _
    rw [e] at h1
    obtain ⟨-, h2, h3⟩ := zmix (k := k) (n := k + 1) ⟨by omega, hn⟩ h1
    exact ⟨h3, by omega⟩
end
