/-! an instruction that a window of the code has is the one that the code has there -/
section ZWI
variable {n : Nat} {c c' : ByteArray}
/-- c stands in c' from n on -/
def zWin (n : Nat) (c c' : ByteArray) : Prop := n % 4 = 0 ∧ n + c.size ≤ c'.size ∧ ∀ (p : Nat) (h : p < c.size), ∃ h' : n + p < c'.size, c'[n + p]'h' = c[p]'h
theorem zwin_of {m : Nat} (h4 : n % 4 = 0) (hs : n + c.size ≤ c'.size) (h : (c'.data.toList.drop n).take m = c.data.toList) : zWin n c c' := by
  refine ⟨h4, hs, fun p hp => ?_⟩
  have hp' : p < c.data.toList.length := hp
  have e : c.data.toList[p]? = some (c[p]'hp) := List.getElem?_eq_getElem hp'
  rw [← h, List.getElem?_take] at e
  split at e
  · rw [List.getElem?_drop] at e
    obtain ⟨h1, h2⟩ := List.getElem?_eq_some_iff.mp e
    exact ⟨h1, h2⟩
  · cases e
/-- r' reads at n + p of c' what r reads at p of c -/
def zSh (n : Nat) (c c' : ByteArray) {α : Type} (r r' : Jvm.ClassFile.Decoder α) : Prop := ∀ (p : Nat) (v : α) (q : Nat), r c p = .ok (v, q) → r' c' (n + p) = .ok (v, n + q)
theorem zSh_pure {α : Type} (v : α) : zSh n c c' (pure v) (pure v) := fun p w q h => by cases h; rfl
theorem zSh_err {α : Type} (e e' : Jvm.ClassFile.DecodeError) : zSh n c c' (throw e : Jvm.ClassFile.Decoder α) (throw e') := fun p w q h => by cases h
theorem zSh_bind {α β : Type} {r r' : Jvm.ClassFile.Decoder α} {f f' : α → Jvm.ClassFile.Decoder β} (h : zSh n c c' r r') (k : ∀ v, zSh n c c' (f v) (f' v)) : zSh n c c' (r >>= f) (r' >>= f') := by
  intro p v q e
  change (r c p >>= fun x => f x.1 c x.2) = _ at e
  show (r' c' (n + p) >>= fun x => f' x.1 c' x.2) = _
  cases hr : r c p with
  | error z => rw [hr] at e; cases e
  | ok x =>
    rw [hr] at e
    rw [h p x.1 x.2 hr]
    exact k x.1 x.2 v q e
theorem zSh_map {α β : Type} {r r' : Jvm.ClassFile.Decoder α} (g : α → β) (h : zSh n c c' r r') : zSh n c c' (g <$> r) (g <$> r') := by
  intro p v q e
  change (r c p >>= fun x => pure (g x.1, x.2)) = _ at e
  show (r' c' (n + p) >>= fun x => pure (g x.1, x.2)) = _
  cases hr : r c p with
  | error z => rw [hr] at e; cases e
  | ok x =>
    rw [hr] at e
    rw [h p x.1 x.2 hr]
    cases e; rfl
theorem zSh_u1 (W : zWin n c c') : zSh n c c' Jvm.ClassFile.Reader.u1 Jvm.ClassFile.Reader.u1 := by
  intro p v q e
  replace e : ((if h : p < c.size then (do set (p + 1); pure (c[p]'h).toNat) else throw (Jvm.ClassFile.HasTruncated.truncated p) : Jvm.ClassFile.Decoder Nat)) c p = .ok (v, q) := e
  show ((if h : n + p < c'.size then (do set (n + p + 1); pure (c'[n + p]'h).toNat) else throw (Jvm.ClassFile.HasTruncated.truncated (n + p)) : Jvm.ClassFile.Decoder Nat)) c' (n + p) = .ok (v, n + q)
  by_cases h : p < c.size
  · rw [dif_pos h] at e
    obtain ⟨h', e'⟩ := W.2.2 p h
    rw [dif_pos h', e']
    cases e; rfl
  · rw [dif_neg h] at e; cases e
theorem zSh_u2 (W : zWin n c c') : zSh n c c' Jvm.ClassFile.Reader.u2 Jvm.ClassFile.Reader.u2 := zSh_bind (zSh_u1 W) fun _ => zSh_bind (zSh_u1 W) fun _ => zSh_pure _
theorem zSh_u4 (W : zWin n c c') : zSh n c c' Jvm.ClassFile.Reader.u4 Jvm.ClassFile.Reader.u4 := zSh_bind (zSh_u2 W) fun _ => zSh_bind (zSh_u2 W) fun _ => zSh_pure _
theorem zSh_s1 (W : zWin n c c') : zSh n c c' Jvm.ClassFile.Reader.s1 Jvm.ClassFile.Reader.s1 := zSh_map _ (zSh_u1 W)
theorem zSh_s2 (W : zWin n c c') : zSh n c c' Jvm.ClassFile.Reader.s2 Jvm.ClassFile.Reader.s2 := zSh_map _ (zSh_u2 W)
theorem zSh_if {α : Type} {b : Prop} [Decidable b] {r r' t t' : Jvm.ClassFile.Decoder α} (h : zSh n c c' r r') (k : zSh n c c' t t') : zSh n c c' (if b then r else t) (if b then r' else t') := by
  by_cases z : b
  · rw [if_pos z, if_pos z]; exact h
  · rw [if_neg z, if_neg z]; exact k
theorem zSh_s4 (W : zWin n c c') : zSh n c c' Jvm.ClassFile.Reader.s4 Jvm.ClassFile.Reader.s4 := zSh_map _ (zSh_u4 W)
theorem zSh_pad (W : zWin n c c') : zSh n c c' Jvm.ClassFile.Decoder.padding Jvm.ClassFile.Decoder.padding := by
  intro p v q e
  replace e : ((Jvm.ClassFile.Reader.bytes ((4 - p % 4) % 4) : Jvm.ClassFile.Decoder ByteArray) c p >>= fun x => pure (PUnit.unit, x.2)) = Except.ok (v, q) := e
  show ((Jvm.ClassFile.Reader.bytes ((4 - (n + p) % 4) % 4) : Jvm.ClassFile.Decoder ByteArray) c' (n + p) >>= fun x => pure (PUnit.unit, x.2)) = Except.ok (v, n + q)
  have h4 := W.1
  rw [show (4 - (n + p) % 4) % 4 = (4 - p % 4) % 4 by omega]
  generalize (4 - p % 4) % 4 = k at e ⊢
  have hs := W.2.1
  replace e : (((if p + k ≤ c.size then (do set (p + k); pure (c.extract p (p + k))) else throw (Jvm.ClassFile.HasTruncated.truncated c.size) : Jvm.ClassFile.Decoder ByteArray)) c p >>= fun x => pure (PUnit.unit, x.2)) = Except.ok (v, q) := e
  show (((if n + p + k ≤ c'.size then (do set (n + p + k); pure (c'.extract (n + p) (n + p + k))) else throw (Jvm.ClassFile.HasTruncated.truncated c'.size) : Jvm.ClassFile.Decoder ByteArray)) c' (n + p) >>= fun x => pure (PUnit.unit, x.2)) = Except.ok (v, n + q)
  by_cases h : p + k ≤ c.size
  · rw [if_pos h] at e
    rw [if_pos (by omega)]
    cases e
    rw [Nat.add_assoc]; rfl
  · rw [if_neg h] at e; cases e
theorem zSh_go (W : zWin n c c') {α : Type} {r r' : Jvm.ClassFile.Decoder α} (h : zSh n c c' r r') : ∀ (k : Nat) (acc : Array α), zSh n c c' (Jvm.ClassFile.Reader.times.go r k acc) (Jvm.ClassFile.Reader.times.go r' k acc)
  | 0, acc => zSh_pure _
  | k + 1, acc => zSh_bind h fun v => zSh_go W h k _
theorem zSh_times (W : zWin n c c') {α : Type} {r r' : Jvm.ClassFile.Decoder α} (k : Nat) (h : zSh n c c' r r') : zSh n c c' (Jvm.ClassFile.Reader.times k r) (Jvm.ClassFile.Reader.times k r') := zSh_go W h k _
theorem zSh_newarray (W : zWin n c c') (pc pc' : Nat) : zSh n c c' (Jvm.ClassFile.Decoder.newarray pc) (Jvm.ClassFile.Decoder.newarray pc') := by
  unfold Jvm.ClassFile.Decoder.newarray
  refine zSh_bind (zSh_u1 W) fun op => ?_
  split <;> (repeat' (first | with_reducible exact zSh_pure _ | with_reducible exact zSh_err _ _ | with_reducible exact zSh_u1 W | with_reducible exact zSh_u2 W | with_reducible exact zSh_s1 W | with_reducible exact zSh_s2 W | with_reducible exact zSh_s4 W | with_reducible exact zSh_pad W | with_reducible exact zSh_times W _ (zSh_s4 W) | with_reducible refine zSh_if ?_ ?_ | with_reducible refine zSh_bind ?_ (fun _ => ?_)))
theorem zSh_invokeinterface (W : zWin n c c') (pc pc' : Nat) : zSh n c c' (Jvm.ClassFile.Decoder.invokeinterface pc) (Jvm.ClassFile.Decoder.invokeinterface pc') := by
  unfold Jvm.ClassFile.Decoder.invokeinterface
  (repeat' (first | with_reducible exact zSh_pure _ | with_reducible exact zSh_err _ _ | with_reducible exact zSh_u1 W | with_reducible exact zSh_u2 W | with_reducible exact zSh_s1 W | with_reducible exact zSh_s2 W | with_reducible exact zSh_s4 W | with_reducible exact zSh_pad W | with_reducible exact zSh_times W _ (zSh_s4 W) | with_reducible refine zSh_if ?_ ?_ | with_reducible refine zSh_bind ?_ (fun _ => ?_)))
theorem zSh_invokedynamic (W : zWin n c c') (pc pc' : Nat) : zSh n c c' (Jvm.ClassFile.Decoder.invokedynamic pc) (Jvm.ClassFile.Decoder.invokedynamic pc') := by
  unfold Jvm.ClassFile.Decoder.invokedynamic
  (repeat' (first | with_reducible exact zSh_pure _ | with_reducible exact zSh_err _ _ | with_reducible exact zSh_u1 W | with_reducible exact zSh_u2 W | with_reducible exact zSh_s1 W | with_reducible exact zSh_s2 W | with_reducible exact zSh_s4 W | with_reducible exact zSh_pad W | with_reducible exact zSh_times W _ (zSh_s4 W) | with_reducible refine zSh_if ?_ ?_ | with_reducible refine zSh_bind ?_ (fun _ => ?_)))
theorem zSh_multianewarray (W : zWin n c c') (pc pc' : Nat) : zSh n c c' (Jvm.ClassFile.Decoder.multianewarray pc) (Jvm.ClassFile.Decoder.multianewarray pc') := by
  unfold Jvm.ClassFile.Decoder.multianewarray
  (repeat' (first | with_reducible exact zSh_pure _ | with_reducible exact zSh_err _ _ | with_reducible exact zSh_u1 W | with_reducible exact zSh_u2 W | with_reducible exact zSh_s1 W | with_reducible exact zSh_s2 W | with_reducible exact zSh_s4 W | with_reducible exact zSh_pad W | with_reducible exact zSh_times W _ (zSh_s4 W) | with_reducible refine zSh_if ?_ ?_ | with_reducible refine zSh_bind ?_ (fun _ => ?_)))
theorem zSh_wide (W : zWin n c c') (pc pc' : Nat) : zSh n c c' (Jvm.ClassFile.Decoder.wide pc) (Jvm.ClassFile.Decoder.wide pc') := by
  unfold Jvm.ClassFile.Decoder.wide
  refine zSh_bind (zSh_u1 W) fun op => ?_
  split <;> (repeat' (first | with_reducible exact zSh_pure _ | with_reducible exact zSh_err _ _ | with_reducible exact zSh_u1 W | with_reducible exact zSh_u2 W | with_reducible exact zSh_s1 W | with_reducible exact zSh_s2 W | with_reducible exact zSh_s4 W | with_reducible exact zSh_pad W | with_reducible exact zSh_times W _ (zSh_s4 W) | with_reducible refine zSh_if ?_ ?_ | with_reducible refine zSh_bind ?_ (fun _ => ?_)))
theorem zSh_tableswitch (W : zWin n c c') (pc pc' : Nat) : zSh n c c' (Jvm.ClassFile.Decoder.tableswitch pc) (Jvm.ClassFile.Decoder.tableswitch pc') := by
  unfold Jvm.ClassFile.Decoder.tableswitch
  (repeat' (first | with_reducible exact zSh_pure _ | with_reducible exact zSh_err _ _ | with_reducible exact zSh_u1 W | with_reducible exact zSh_u2 W | with_reducible exact zSh_s1 W | with_reducible exact zSh_s2 W | with_reducible exact zSh_s4 W | with_reducible exact zSh_pad W | with_reducible exact zSh_times W _ (zSh_s4 W) | with_reducible refine zSh_if ?_ ?_ | with_reducible refine zSh_bind ?_ (fun _ => ?_)))
theorem zSh_lookupswitch (W : zWin n c c') (pc pc' : Nat) : zSh n c c' (Jvm.ClassFile.Decoder.lookupswitch pc) (Jvm.ClassFile.Decoder.lookupswitch pc') := by
  unfold Jvm.ClassFile.Decoder.lookupswitch
  (repeat' (first | with_reducible exact zSh_pure _ | with_reducible exact zSh_err _ _ | with_reducible exact zSh_u1 W | with_reducible exact zSh_u2 W | with_reducible exact zSh_s1 W | with_reducible exact zSh_s2 W | with_reducible exact zSh_s4 W | with_reducible exact zSh_pad W | with_reducible exact zSh_times W _ (zSh_bind (zSh_s4 W) fun _ => zSh_bind (zSh_s4 W) fun _ => zSh_pure _) | with_reducible refine zSh_if ?_ ?_ | with_reducible refine zSh_bind ?_ (fun _ => ?_)))
set_option maxHeartbeats 4000000 in
set_option maxRecDepth 100000 in
theorem zSh_instr (W : zWin n c c') (pc pc' : Nat) : zSh n c c' (Jvm.ClassFile.Decoder.instr pc) (Jvm.ClassFile.Decoder.instr pc') := by
  unfold Jvm.ClassFile.Decoder.instr
  refine zSh_bind (zSh_u1 W) fun op => ?_
  split <;> first | with_reducible exact zSh_pure _ | with_reducible exact zSh_tableswitch W _ _ | with_reducible exact zSh_invokeinterface W _ _ | with_reducible exact zSh_invokedynamic W _ _ | with_reducible exact zSh_newarray W _ _ | with_reducible exact zSh_wide W _ _ | with_reducible exact zSh_multianewarray W _ _ | with_reducible exact zSh_lookupswitch W _ _ | (repeat' (first | with_reducible exact zSh_pure _ | with_reducible exact zSh_err _ _ | with_reducible exact zSh_u1 W | with_reducible exact zSh_u2 W | with_reducible exact zSh_s1 W | with_reducible exact zSh_s2 W | with_reducible exact zSh_s4 W | with_reducible exact zSh_pad W | with_reducible exact zSh_times W _ (zSh_s4 W) | with_reducible refine zSh_if ?_ ?_ | with_reducible refine zSh_bind ?_ (fun _ => ?_)))
theorem zdecw (W : zWin n c c') {j : Nat} {x : Jvm.ClassFile.Instr × Nat} (h : decode c j = .ok x) : decode c' (n + j) = .ok x := by
  obtain ⟨i, len⟩ := x
  replace h : (Jvm.ClassFile.Decoder.instr j c j >>= fun y => pure (y.1, y.2 - j)) = Except.ok (i, len) := h
  show (Jvm.ClassFile.Decoder.instr (n + j) c' (n + j) >>= fun y => pure (y.1, y.2 - (n + j))) = Except.ok (i, len)
  cases hr : Jvm.ClassFile.Decoder.instr j c j with
  | error e => rw [hr] at h; cases h
  | ok y =>
    rw [hr] at h
    rw [zSh_instr W j (n + j) j y.1 y.2 hr]
    cases h
    show Except.ok (y.1, n + y.2 - (n + j)) = Except.ok (y.1, y.2 - j)
    rw [Nat.add_sub_add_left]
end ZWI
