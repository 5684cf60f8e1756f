section ZWD
variable {p : Program} {l : Launch} {e : Env} {R : Room} {s : State} {m : MethodId} {args : Array Value} {below : List Frame} {meth : Method} {c : Code} {H : Heap} {locs : List Loc} {cells slots : Nat} {Q : State → Prop}
variable {cc : ByteArray} {nL pc idx : Nat} {own : String} {G : zG} {A : Nat → Prop} {w : va_W} {ls : Array Slot} {rest : List Value} {a : Nat}
/-- an act into the row of acts -/
theorem zqast (B : zM p s m args c cc nL own G A) (hW : zW G A s.heap H locs w) (q0 qk ci : Nat) {a n v : Nat} {vs : List Value} {f : Nat → Option Nat} (he : w[q0]? = some (a, .inl (G.2.1 2, n, .inr (.inr (.inr (.inr f)))))) (hv : w[qk]? = some (v, .inr (ci, vs))) (hc : (vwCl[ci]?).map (fun r => r.1) = some "SmokeWard$Act") {i : Int32} (hin : vp_in i n) (hdg : decode cc pc = .ok (.aastore, 1))
    (kk : ∀ (H1 : Heap) (locs1 : List Loc), zW G A s.heap H1 locs1 (w.set q0 (a, .inl (G.2.1 2, n, .inr (.inr (.inr (.inr (va_up f i.toNatClampNeg (some v)))))))) → W p l e R s m args below meth c H1 locs1 cells slots Q (F0 m (pc + 1) ls rest)) : W p l e R s m args below meth c H locs cells slots Q (F0 m pc ls (.ref v :: .int i :: .ref a :: rest)) := by
  cases hr : vwCl[ci]? with
  | none => rw [hr] at hc; cases hc
  | some r =>
    rw [hr] at hc
    have hc1 : r.1 = "SmokeWard$Act" := Option.some.inj hc
    exact va_astq (D := G.1) (cl := vwCl) (tys := zTy G) (A := A) B.x B.b B.K hW.1 hW.2.1 hW.2.2 q0 2 qk ci (r := r) he (by rw [hc1]; rfl) hv hr hin hdg (fun H1 l1 h1 h2 h3 => kk H1 l1 ⟨h1, h2, h3⟩)
theorem znewq (B : zM p s m args c cc nL own G A) (hW : zW G A s.heap H locs w) (k : Nat) {n : Int32} (hn : n = nI k) (hk : k ≤ 1000000) (hl : Cond.classLink own idx "SmokeWard$Act" ∈ zAll) (hcells : cells + 1 ≤ R.cells) (hslots : slots + k ≤ R.slots) (hdg : decode cc pc = .ok (.anewarray idx, 3))
    (kk : ∀ (q : Nat) (H1 : Heap), zW G A s.heap H1 locs (w ++ [(q, .inl (G.2.1 2, k, .inr (.inr (.inr (.inr (fun _ => none))))))]) → W p l e R s m args below meth c H1 locs (cells + 1) (slots + k) Q (F0 m (pc + 3) ls (.ref q :: rest))) : W p l e R s m args below meth c H locs cells slots Q (F0 m pc ls (.int n :: rest)) := by
  subst hn
  refine va_newq (D := G.1) (cl := vwCl) (tys := zTy G) (A := A) (N' := k) B.x B.b B.o (B.ts _ hl) B.E.2.2.2.2.2.2.2.1 B.K hW.1 hW.2.1 hW.2.2 B.nA (nI_pos (by omega)) (nI_clamp (by omega)) (by omega) hcells hslots hdg (fun q cA H1 a0 a1 a2 a3 => ?_)
  have e : cA = G.2.1 2 := va_RA_inj (a0.2 6 _ rfl).2 (a0.2 2 _ rfl).2
  subst e
  exact kk q H1 ⟨a1, a2, a3⟩
theorem zfret {mc ms : Nat} {post : Option Value → va_W → Prop} {v : UInt32} (B : zM p s m args c cc nL own G A) (hr : meth.sig.returnType = some .float) (hlk : meth.locks = false) (hW : zW G A s.heap H locs w) (hp : post (some (.float v)) w) (hc : cells ≤ mc) (hs : slots ≤ ms) (hdg : decode cc pc = .ok (.freturn, 1)) :
    W p l e R s m args below meth c H locs cells slots (MQ below (zQ G A post) args s mc ms A) (F0 m pc ls [.float v]) :=
  W.widen hc hs (W.fret B.x B.b hr (zend (mc := mc) (ms := ms) hW hp) hW.2.2.2.2 hdg hlk)
theorem zdret {mc ms : Nat} {post : Option Value → va_W → Prop} {v : UInt64} (B : zM p s m args c cc nL own G A) (hr : meth.sig.returnType = some .double) (hlk : meth.locks = false) (hW : zW G A s.heap H locs w) (hp : post (some (.double v)) w) (hc : cells ≤ mc) (hs : slots ≤ ms) (hdg : decode cc pc = .ok (.dreturn, 1)) :
    W p l e R s m args below meth c H locs cells slots (MQ below (zQ G A post) args s mc ms A) (F0 m pc ls [.double v]) :=
  W.widen hc hs (W.dret B.x B.b hr (zend (mc := mc) (ms := ms) hW hp) hW.2.2.2.2 hdg hlk)
end ZWD
abbrev zSw : Type := (Nat → Option Nat) × Int32 × Int32
def swW (G : zG) (h : Nat) (ad : Nat → Nat) (x : zSw) : va_W := [(h, .inr (11, [.ref (ad 0), .ref (ad 1), .ref (ad 2), .int x.2.1, .int x.2.2])), (ad 2, .inl (G.2.1 2, 512, .inr (.inr (.inr (.inr x.1)))))]
def r_X7_placeOf (a : Int32) (b : Int32) : Int32 := (if (r_X7_isCell a b) = (0 : Int32) then (0 : Int32) else ((b * (8 : Int32)) + a))
def x_X7_placeOf (a : Int32) (b : Int32) : Int32 := (if (r_X7_isCell a b) = (0 : Int32) then (1 : Int32) else (0 : Int32))
abbrev po_X7_placeOf (G : zG)  (a : Int32) (b : Int32) : Option Value → va_W → Prop := fun r u => (x_X7_placeOf a b) = (0 : Int32) ∧ r = some (.int (r_X7_placeOf a b)) ∧ u = []
abbrev px_X7_placeOf (G : zG)  (a : Int32) (b : Int32) : String → va_W → Prop := fun E u => ¬ (x_X7_placeOf a b) = (0 : Int32) ∧ E = zExn (x_X7_placeOf a b) ∧ u = []
set_option maxHeartbeats 4000000 in
set_option maxRecDepth 100000 in
theorem c_X7_placeOf (l : Launch) (G : zG)  (a : Int32) (b : Int32) (hst : l.stackTraces = false) : zX l yX7_placeOf cX7_placeOf 2 (some .int) 6 1 6 G [.int a, .int b] ([]) (po_X7_placeOf G a b) (px_X7_placeOf G a b) := by
  refine zX.of RX7 rfl (by decide) (Nat.le_of_ble_eq_true rfl) ?_
  intro p e s m args below meth c A ls B hr hlk hnm hex hW hl
  have hx := B.x
  have hb := B.b
  have hl : lv_has ls 2 [(0, .int a), (1, .int b)] := hl
  refine lv_iload_n hx hb dX7_placeOf_0 rfl (lv_at hl 0 rfl) ?_
  refine lv_iload_n hx hb dX7_placeOf_1 rfl (lv_at hl 1 rfl) ?_
  refine zcS (w1 := []) (wc := []) (w2 := []) (As := [.int a, .int b]) B (hW.eq rfl) (c_X7_isCell l G a b) yd_X7_isCell ml_X7_212 rfl hl.1 rfl (Nat.le_of_ble_eq_true rfl) ⟨Nat.le_of_ble_eq_true rfl, Nat.le_of_ble_eq_true rfl⟩ ⟨(Nat.le_of_ble_eq_true rfl), (Nat.le_of_ble_eq_true rfl)⟩ dX7_placeOf_2 (fun v u H locs hp hW => ?_)
  obtain ⟨rfl, rfl⟩ := hp
  have hW := hW.eq (w' := []) rfl
  refine lv_if_ne (tgt := 18) hx hb dX7_placeOf_5 (by decide) (fun c_5 => ?_) (fun c_5 => ?_)
  · refine lv_iload_n hx hb dX7_placeOf_18 rfl (lv_at hl 1 rfl) ?_
    refine lv_bipush (v := (8 : Int32)) hx hb dX7_placeOf_19 (by decide) ?_
    refine lv_imul hx hb dX7_placeOf_21 ?_
    refine lv_iload_n hx hb dX7_placeOf_22 rfl (lv_at hl 0 rfl) ?_
    refine lv_iadd hx hb dX7_placeOf_23 ?_
    have e_0 : (if (r_X7_isCell a b) = (0 : Int32) then (0 : Int32) else ((b * (8 : Int32)) + a)) = ((b * (8 : Int32)) + a) := if_neg c_5
    exact vx_ret (ziret B hr hlk hW ⟨(if_neg c_5), by show _ = some (Value.int (if (r_X7_isCell a b) = (0 : Int32) then (0 : Int32) else ((b * (8 : Int32)) + a))) <;> (try rw [e_0]) <;> rfl, by show _ = [] <;> (try rw [e_0]) <;> rfl⟩ (Nat.le_of_ble_eq_true rfl) (Nat.le_of_ble_eq_true rfl) dX7_placeOf_24)
  · have e_x : (if (r_X7_isCell a b) = (0 : Int32) then (1 : Int32) else (0 : Int32)) = (1 : Int32) := if_pos c_5
    exact zthrow B hst hex hlk thr_X7_218 hW ⟨by show ¬ (if (r_X7_isCell a b) = (0 : Int32) then (1 : Int32) else (0 : Int32)) = (0 : Int32); rw [e_x]; decide, by show _ = zExn (if (r_X7_isCell a b) = (0 : Int32) then (1 : Int32) else (0 : Int32)); rw [e_x]; rfl, rfl⟩ hl.1 dX7_placeOf_8 dX7_placeOf_11 dX7_placeOf_12 dX7_placeOf_14 dX7_placeOf_17 (Nat.le_of_ble_eq_true rfl) (Nat.le_of_ble_eq_true rfl) (Nat.le_of_ble_eq_true rfl) (Nat.le_of_ble_eq_true rfl) (Nat.le_of_ble_eq_true rfl) (Nat.le_of_ble_eq_true rfl)
theorem x1_X7_placeOf {a : Int32} {b : Int32} (h : ¬ x_X7_placeOf a b = (0 : Int32)) : x_X7_placeOf a b = (1 : Int32) := by
  unfold x_X7_placeOf at h ⊢
  (repeat' split at h) <;> (repeat' split) <;> simp_all
theorem xb_X7_placeOf {a : Int32} {b : Int32} : x_X7_placeOf a b = (0 : Int32) ∨ x_X7_placeOf a b = (1 : Int32) := by
  unfold x_X7_placeOf
  (repeat' split) <;> simp
def x_X7_checkNumber (a : Int32) (b : Int32) : Int32 := (if a < (0 : Int32) then (1 : Int32) else (if a < b then (0 : Int32) else (1 : Int32)))
abbrev po_X7_checkNumber (G : zG)  (a : Int32) (b : Int32) : Option Value → va_W → Prop := fun r u => (x_X7_checkNumber a b) = (0 : Int32) ∧ r = none ∧ u = []
abbrev px_X7_checkNumber (G : zG)  (a : Int32) (b : Int32) : String → va_W → Prop := fun E u => ¬ (x_X7_checkNumber a b) = (0 : Int32) ∧ E = zExn (x_X7_checkNumber a b) ∧ u = []
set_option maxHeartbeats 4000000 in
set_option maxRecDepth 100000 in
theorem c_X7_checkNumber (l : Launch) (G : zG)  (a : Int32) (b : Int32) (hst : l.stackTraces = false) : zX l yX7_checkNumber cX7_checkNumber 2 none 6 1 6 G [.int a, .int b] ([]) (po_X7_checkNumber G a b) (px_X7_checkNumber G a b) := by
  refine zX.of RX7 rfl (by decide) (Nat.le_of_ble_eq_true rfl) ?_
  intro p e s m args below meth c A ls B hr hlk hnm hex hW hl
  have hx := B.x
  have hb := B.b
  have hl : lv_has ls 2 [(0, .int a), (1, .int b)] := hl
  refine lv_iload_n hx hb dX7_checkNumber_0 rfl (lv_at hl 0 rfl) ?_
  refine lv_if_lt (tgt := 9) hx hb dX7_checkNumber_1 (by decide) (fun c_1 => ?_) (fun c_1 => ?_)
  · have e_x : (if a < (0 : Int32) then (1 : Int32) else (if a < b then (0 : Int32) else (1 : Int32))) = (1 : Int32) := if_pos c_1
    exact zthrow B hst hex hlk thr_X7_221 hW ⟨by show ¬ (if a < (0 : Int32) then (1 : Int32) else (if a < b then (0 : Int32) else (1 : Int32))) = (0 : Int32); rw [e_x]; decide, by show _ = zExn (if a < (0 : Int32) then (1 : Int32) else (if a < b then (0 : Int32) else (1 : Int32))); rw [e_x]; rfl, rfl⟩ hl.1 dX7_checkNumber_9 dX7_checkNumber_12 dX7_checkNumber_13 dX7_checkNumber_15 dX7_checkNumber_18 (Nat.le_of_ble_eq_true rfl) (Nat.le_of_ble_eq_true rfl) (Nat.le_of_ble_eq_true rfl) (Nat.le_of_ble_eq_true rfl) (Nat.le_of_ble_eq_true rfl) (Nat.le_of_ble_eq_true rfl)
  · refine lv_iload_n hx hb dX7_checkNumber_4 rfl (lv_at hl 0 rfl) ?_
    refine lv_iload_n hx hb dX7_checkNumber_5 rfl (lv_at hl 1 rfl) ?_
    refine lv_icmp_lt (tgt := 19) hx hb dX7_checkNumber_6 (by decide) (fun c_6 => ?_) (fun c_6 => ?_)
    · exact vx_ret (zvret B hr hlk hW ⟨((if_neg c_1).trans (if_pos c_6)), rfl, rfl⟩ (Nat.le_of_ble_eq_true rfl) (Nat.le_of_ble_eq_true rfl) dX7_checkNumber_19)
    · have e_x : (if a < (0 : Int32) then (1 : Int32) else (if a < b then (0 : Int32) else (1 : Int32))) = (1 : Int32) := (if_neg c_1).trans (if_neg c_6)
      exact zthrow B hst hex hlk thr_X7_221 hW ⟨by show ¬ (if a < (0 : Int32) then (1 : Int32) else (if a < b then (0 : Int32) else (1 : Int32))) = (0 : Int32); rw [e_x]; decide, by show _ = zExn (if a < (0 : Int32) then (1 : Int32) else (if a < b then (0 : Int32) else (1 : Int32))); rw [e_x]; rfl, rfl⟩ hl.1 dX7_checkNumber_9 dX7_checkNumber_12 dX7_checkNumber_13 dX7_checkNumber_15 dX7_checkNumber_18 (Nat.le_of_ble_eq_true rfl) (Nat.le_of_ble_eq_true rfl) (Nat.le_of_ble_eq_true rfl) (Nat.le_of_ble_eq_true rfl) (Nat.le_of_ble_eq_true rfl) (Nat.le_of_ble_eq_true rfl)
theorem x1_X7_checkNumber {a : Int32} {b : Int32} (h : ¬ x_X7_checkNumber a b = (0 : Int32)) : x_X7_checkNumber a b = (1 : Int32) := by
  unfold x_X7_checkNumber at h ⊢
  (repeat' split at h) <;> (repeat' split) <;> simp_all
theorem xb_X7_checkNumber {a : Int32} {b : Int32} : x_X7_checkNumber a b = (0 : Int32) ∨ x_X7_checkNumber a b = (1 : Int32) := by
  unfold x_X7_checkNumber
  (repeat' split) <;> simp
def x_X7_checkRange (a : Int32) (b : Int32) (d : Int32) : Int32 := (if a < b then (2 : Int32) else (if a ≤ d then (0 : Int32) else (2 : Int32)))
abbrev po_X7_checkRange (G : zG)  (a : Int32) (b : Int32) (d : Int32) : Option Value → va_W → Prop := fun r u => (x_X7_checkRange a b d) = (0 : Int32) ∧ r = none ∧ u = []
abbrev px_X7_checkRange (G : zG)  (a : Int32) (b : Int32) (d : Int32) : String → va_W → Prop := fun E u => ¬ (x_X7_checkRange a b d) = (0 : Int32) ∧ E = zExn (x_X7_checkRange a b d) ∧ u = []
set_option maxHeartbeats 4000000 in
set_option maxRecDepth 100000 in
theorem c_X7_checkRange (l : Launch) (G : zG)  (a : Int32) (b : Int32) (d : Int32) (hst : l.stackTraces = false) : zX l yX7_checkRange cX7_checkRange 3 none 6 1 6 G [.int a, .int b, .int d] ([]) (po_X7_checkRange G a b d) (px_X7_checkRange G a b d) := by
  refine zX.of RX7 rfl (by decide) (Nat.le_of_ble_eq_true rfl) ?_
  intro p e s m args below meth c A ls B hr hlk hnm hex hW hl
  have hx := B.x
  have hb := B.b
  have hl : lv_has ls 3 [(0, .int a), (1, .int b), (2, .int d)] := hl
  refine lv_iload_n hx hb dX7_checkRange_0 rfl (lv_at hl 0 rfl) ?_
  refine lv_iload_n hx hb dX7_checkRange_1 rfl (lv_at hl 1 rfl) ?_
  refine lv_icmp_lt (tgt := 10) hx hb dX7_checkRange_2 (by decide) (fun c_2 => ?_) (fun c_2 => ?_)
  · have e_x : (if a < b then (2 : Int32) else (if a ≤ d then (0 : Int32) else (2 : Int32))) = (2 : Int32) := if_pos c_2
    exact zthrow B hst hex hlk thr_X7_225 hW ⟨by show ¬ (if a < b then (2 : Int32) else (if a ≤ d then (0 : Int32) else (2 : Int32))) = (0 : Int32); rw [e_x]; decide, by show _ = zExn (if a < b then (2 : Int32) else (if a ≤ d then (0 : Int32) else (2 : Int32))); rw [e_x]; rfl, rfl⟩ hl.1 dX7_checkRange_10 dX7_checkRange_13 dX7_checkRange_14 dX7_checkRange_16 dX7_checkRange_19 (Nat.le_of_ble_eq_true rfl) (Nat.le_of_ble_eq_true rfl) (Nat.le_of_ble_eq_true rfl) (Nat.le_of_ble_eq_true rfl) (Nat.le_of_ble_eq_true rfl) (Nat.le_of_ble_eq_true rfl)
  · refine lv_iload_n hx hb dX7_checkRange_5 rfl (lv_at hl 0 rfl) ?_
    refine lv_iload_n hx hb dX7_checkRange_6 rfl (lv_at hl 2 rfl) ?_
    refine lv_icmp_le (tgt := 20) hx hb dX7_checkRange_7 (by decide) (fun c_7 => ?_) (fun c_7 => ?_)
    · exact vx_ret (zvret B hr hlk hW ⟨((if_neg c_2).trans (if_pos c_7)), rfl, rfl⟩ (Nat.le_of_ble_eq_true rfl) (Nat.le_of_ble_eq_true rfl) dX7_checkRange_20)
    · have e_x : (if a < b then (2 : Int32) else (if a ≤ d then (0 : Int32) else (2 : Int32))) = (2 : Int32) := (if_neg c_2).trans (if_neg c_7)
      exact zthrow B hst hex hlk thr_X7_225 hW ⟨by show ¬ (if a < b then (2 : Int32) else (if a ≤ d then (0 : Int32) else (2 : Int32))) = (0 : Int32); rw [e_x]; decide, by show _ = zExn (if a < b then (2 : Int32) else (if a ≤ d then (0 : Int32) else (2 : Int32))); rw [e_x]; rfl, rfl⟩ hl.1 dX7_checkRange_10 dX7_checkRange_13 dX7_checkRange_14 dX7_checkRange_16 dX7_checkRange_19 (Nat.le_of_ble_eq_true rfl) (Nat.le_of_ble_eq_true rfl) (Nat.le_of_ble_eq_true rfl) (Nat.le_of_ble_eq_true rfl) (Nat.le_of_ble_eq_true rfl) (Nat.le_of_ble_eq_true rfl)
theorem x1_X7_checkRange {a : Int32} {b : Int32} {d : Int32} (h : ¬ x_X7_checkRange a b d = (0 : Int32)) : x_X7_checkRange a b d = (2 : Int32) := by
  unfold x_X7_checkRange at h ⊢
  (repeat' split at h) <;> (repeat' split) <;> simp_all
theorem xb_X7_checkRange {a : Int32} {b : Int32} {d : Int32} : x_X7_checkRange a b d = (0 : Int32) ∨ x_X7_checkRange a b d = (2 : Int32) := by
  unfold x_X7_checkRange
  (repeat' split) <;> simp
def x_X7_checkRoom (a : Int32) (b : Int32) : Int32 := (if a < b then (0 : Int32) else (3 : Int32))
abbrev po_X7_checkRoom (G : zG)  (a : Int32) (b : Int32) : Option Value → va_W → Prop := fun r u => (x_X7_checkRoom a b) = (0 : Int32) ∧ r = none ∧ u = []
abbrev px_X7_checkRoom (G : zG)  (a : Int32) (b : Int32) : String → va_W → Prop := fun E u => ¬ (x_X7_checkRoom a b) = (0 : Int32) ∧ E = zExn (x_X7_checkRoom a b) ∧ u = []
set_option maxHeartbeats 4000000 in
set_option maxRecDepth 100000 in
theorem c_X7_checkRoom (l : Launch) (G : zG)  (a : Int32) (b : Int32) (hst : l.stackTraces = false) : zX l yX7_checkRoom cX7_checkRoom 2 none 6 1 6 G [.int a, .int b] ([]) (po_X7_checkRoom G a b) (px_X7_checkRoom G a b) := by
  refine zX.of RX7 rfl (by decide) (Nat.le_of_ble_eq_true rfl) ?_
  intro p e s m args below meth c A ls B hr hlk hnm hex hW hl
  have hx := B.x
  have hb := B.b
  have hl : lv_has ls 2 [(0, .int a), (1, .int b)] := hl
  refine lv_iload_n hx hb dX7_checkRoom_0 rfl (lv_at hl 0 rfl) ?_
  refine lv_iload_n hx hb dX7_checkRoom_1 rfl (lv_at hl 1 rfl) ?_
  refine lv_icmp_lt (tgt := 15) hx hb dX7_checkRoom_2 (by decide) (fun c_2 => ?_) (fun c_2 => ?_)
  · exact vx_ret (zvret B hr hlk hW ⟨(if_pos c_2), rfl, rfl⟩ (Nat.le_of_ble_eq_true rfl) (Nat.le_of_ble_eq_true rfl) dX7_checkRoom_15)
  · have e_x : (if a < b then (0 : Int32) else (3 : Int32)) = (3 : Int32) := if_neg c_2
    exact zthrow B hst hex hlk thr_X7_228 hW ⟨by show ¬ (if a < b then (0 : Int32) else (3 : Int32)) = (0 : Int32); rw [e_x]; decide, by show _ = zExn (if a < b then (0 : Int32) else (3 : Int32)); rw [e_x]; rfl, rfl⟩ hl.1 dX7_checkRoom_5 dX7_checkRoom_8 dX7_checkRoom_9 dX7_checkRoom_11 dX7_checkRoom_14 (Nat.le_of_ble_eq_true rfl) (Nat.le_of_ble_eq_true rfl) (Nat.le_of_ble_eq_true rfl) (Nat.le_of_ble_eq_true rfl) (Nat.le_of_ble_eq_true rfl) (Nat.le_of_ble_eq_true rfl)
theorem x1_X7_checkRoom {a : Int32} {b : Int32} (h : ¬ x_X7_checkRoom a b = (0 : Int32)) : x_X7_checkRoom a b = (3 : Int32) := by
  unfold x_X7_checkRoom at h ⊢
  (repeat' split at h) <;> (repeat' split) <;> simp_all
theorem xb_X7_checkRoom {a : Int32} {b : Int32} : x_X7_checkRoom a b = (0 : Int32) ∨ x_X7_checkRoom a b = (3 : Int32) := by
  unfold x_X7_checkRoom
  (repeat' split) <;> simp
