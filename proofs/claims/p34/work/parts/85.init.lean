/-! the start: nothing is there yet -/
def zaq0 : zAcs := (0, (fun _ => (0 : Int32)), (fun _ => (0 : Int32)), (fun _ => (0 : Int32)), (fun _ => (0 : Int32)), (fun _ => (0 : Int32)))
def zte0 : zMs := (0, (fun _ => (0 : Int32)), (fun _ => (0 : Int32)), (fun _ => (0 : Int32)), (fun _ => (0 : Int32)), (fun _ => (0 : Int32)), (fun _ => (0 : Int32)), (fun _ => (0 : Int32)))
def zsb0 : zMb := (0, (fun _ => (0 : Int32)), (fun _ => (0 : Int32)), (fun _ => (0 : Int32)), (fun _ => (0 : Int32)), (fun _ => (0 : Int32)))
def zso0 : zMo := (0, (fun _ => (0 : Int32)), (fun _ => (0 : Int32)), (fun _ => (0 : Int32)))
def zwa0 : zMw := (0, (fun _ => (0 : Int32)), (fun _ => (0 : Int32)), (fun _ => (0 : Int32)))
def zv0 : zWv := (i_X6_init, i_X1_init, i_X2_init, i_X1_init, i_X4_init, i_X5_init, i_X3_init)
theorem zlaF0 : (fun _ => none : Nat → Option Nat) = laF 0 (fun _ => 0) := by
  funext j
  unfold laF
  rw [if_neg (Nat.not_lt_zero j)]
theorem zi7 : i_X7_init = ((laF 0 (fun _ => 0)), (nI 0), (nI 0)) := by
  unfold i_X7_init
  rw [zlaF0]
  rfl
theorem zSf0 : zSf 0 zv0 := by
  refine ⟨⟨rfl, by decide, zTR_0, rfl, by decide, fun _ h => absurd h (Nat.not_lt_zero _), rfl, by decide, fun _ h => absurd h (Nat.not_lt_zero _), fun _ _ => (vp_in_nI (show 0 < 48 by decide) (by decide) : vp_in (nI 0) 48), rfl, by decide, zBo_0, ⟨rfl, rfl, by decide, by decide⟩, by decide, by decide⟩, by decide, rfl, by decide, by decide, Or.inl (by decide), zBo_0, zBo_0⟩
theorem zI0 : zI 0 zaq0 0 zv0 zv0 i_X12_init i_X8_init zte0 zsb0 zso0 zwa0 0 0 0 0 := by
  refine ⟨⟨fun j h => absurd h (Nat.not_lt_zero j), Nat.le_refl _, ⟨zSf0, rfl, rfl, rfl⟩, ⟨zSf0, rfl, rfl, rfl⟩⟩, Nat.le_refl _, ⟨rfl, by decide, fun _ _ => (vp_in_nI (show 0 < 48 by decide) (by decide) : vp_in (nI 0) 48), zBo_0, by decide, by decide, by decide, fun _ h => absurd h (Nat.not_lt_zero _), fun _ h => absurd h (Nat.not_lt_zero _), fun _ h => absurd h (Nat.not_lt_zero _), rfl, by decide, by decide, ⟨Nat.le_refl _, Or.inl rfl⟩, ⟨Nat.le_refl _, Or.inl rfl⟩, ⟨Nat.le_refl _, Or.inl rfl⟩, ⟨⟨Nat.le_refl _, Or.inl rfl, by decide⟩, by decide⟩⟩, ?_⟩
  exact ⟨⟨⟨fun _ _ => rfl, fun _ _ => rfl, fun _ _ => rfl, fun _ _ => rfl, fun _ _ => rfl, fun _ _ => rfl, fun _ _ => ⟨10, by decide, rfl⟩, fun _ _ => ⟨0, by decide, rfl⟩, fun _ _ => ⟨0, by decide, rfl⟩⟩, ⟨4, 0, 0, by decide, by decide, fun h => absurd h (by decide), by decide, rfl, rfl, rfl, rfl, rfl, rfl, rfl, rfl⟩, rfl, rfl, rfl, fun _ _ => ⟨0, Nat.zero_le _, rfl⟩⟩, rfl, rfl, ⟨rfl, fun _ h => absurd h (Nat.not_lt_zero _), fun _ _ => ⟨rfl, rfl, rfl⟩⟩, ⟨rfl, fun _ h => absurd h (Nat.not_lt_zero _), fun _ _ => rfl⟩, ⟨rfl, fun _ h => absurd h (Nat.not_lt_zero _)⟩, ⟨rfl, fun _ h => absurd h (Nat.not_lt_zero _)⟩⟩
