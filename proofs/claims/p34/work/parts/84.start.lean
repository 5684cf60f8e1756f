/-! the state at the law's entry -/
theorem zOdd_tabs {w : Cond} (h : zOdd w = true) : w.onTables = true := by
  cases w <;> first | rfl | exact absurd h (by simp [zOdd])
section ZST
variable {args : Array Value} {s : State}
theorem zst_all (hts : ∀ w ∈ lw_tbl, w.before args s = true) : ∀ w ∈ zAll, w.before args s = true := fun w hw => hts w (List.mem_filter.mp hw).1
theorem zst_cls (hz : ∀ w ∈ zAll, w.before args s = true) : ∀ q ∈ vwCl, ∃ p : ClassId × (Nat → Nat), u_Kn s q.1 q.2.1 q.2.2 p.1 p.2 := by
  have mk : ∀ {C : String} {T : u_T} {N n : Nat}, (∀ w ∈ u_ws C T N, w ∈ zAll) → Cond.instantiable C n ∈ zAll → ∃ p : ClassId × (Nat → Nat), u_Kn s C T N p.1 p.2 := fun h1 h2 => by
    obtain ⟨c, i, h⟩ := u_known hz h1 (hz _ h2)
    exact ⟨(c, i), h⟩
  exact List.forall_mem_cons.mpr ⟨mk in_J0 ki_J0, List.forall_mem_cons.mpr ⟨mk in_Jx00060 ki_Jx00060, List.forall_mem_cons.mpr ⟨mk in_Jx35411 ki_Jx35411, List.forall_mem_cons.mpr ⟨mk in_Jx4a65c ki_Jx4a65c, List.forall_mem_cons.mpr ⟨mk in_X0 ki_X0, List.forall_mem_cons.mpr ⟨mk in_X1 ki_X1, List.forall_mem_cons.mpr ⟨mk in_X2 ki_X2, List.forall_mem_cons.mpr ⟨mk in_X3 ki_X3, List.forall_mem_cons.mpr ⟨mk in_X4 ki_X4, List.forall_mem_cons.mpr ⟨mk in_X5 ki_X5, List.forall_mem_cons.mpr ⟨mk in_X6 ki_X6, List.forall_mem_cons.mpr ⟨mk in_X7 ki_X7, List.forall_mem_cons.mpr ⟨mk in_X8 ki_X8, List.forall_mem_cons.mpr ⟨mk in_X9 ki_X9, List.forall_mem_cons.mpr ⟨mk in_X10 ki_X10, List.forall_mem_cons.mpr ⟨mk in_X11 ki_X11, List.forall_mem_cons.mpr ⟨mk in_X12 ki_X12, fun _ h => absurd h List.not_mem_nil⟩⟩⟩⟩⟩⟩⟩⟩⟩⟩⟩⟩⟩⟩⟩⟩⟩
theorem zst_arr {ty : FieldType} (h : (Cond.arrayClass ty).before args s = true) (hp : ∀ C, ty ≠ .object C) : ∃ cA : ClassId, ArrOfT s cA ty ∧ va_RA s cA ty := by
  obtain ⟨cA, kA, comp, h1, h2, h3⟩ := Cond.arrayClass_spec h
  refine ⟨cA, fun N z => ⟨(fun k h => by cases h), kA, h2, comp, h3⟩, ?_⟩
  cases ty with
  | object C => exact absurd rfl (hp C)
  | _ => exact h1
theorem zst_arro {C : String} (h : (Cond.arrayOver (.object C)).before args s = true) : ∃ cA : ClassId, ArrOfT s cA (.object C) ∧ va_RA s cA (.object C) := by
  obtain ⟨comp, c, k, h1, h2, h3, h4, h5⟩ := Cond.arrayOver_spec h
  exact ⟨c, fun N z => ⟨(fun k h => by cases h), k, h3, comp, h4⟩, k, comp, h3, h4, h1, h5⟩
theorem zst_fw (hts : ∀ w ∈ lw_tbl, w.before args s = true) : ∀ q ∈ zFw, va_Fw q.1 q.2.1 q.2.2 s :=
  List.forall_mem_cons.mpr ⟨va_Fw.of (hts _ (zAt_mem (i := 5103) (by decide +kernel))) (hts _ (zAt_mem (i := 5102) (by decide +kernel))) (hts _ (zAt_mem (i := 5108) (by decide +kernel))) (hts _ (zAt_mem (i := 5106) (by decide +kernel))) (hts _ (zAt_mem (i := 5104) (by decide +kernel))), List.forall_mem_cons.mpr ⟨va_Fw.of (hts _ (zAt_mem (i := 5145) (by decide +kernel))) (hts _ (zAt_mem (i := 5144) (by decide +kernel))) (hts _ (zAt_mem (i := 5149) (by decide +kernel))) (hts _ (zAt_mem (i := 5147) (by decide +kernel))) (hts _ (zAt_mem (i := 5104) (by decide +kernel))), List.forall_mem_cons.mpr ⟨va_Fw.of (hts _ (zAt_mem (i := 5220) (by decide +kernel))) (hts _ (zAt_mem (i := 5219) (by decide +kernel))) (hts _ (zAt_mem (i := 5224) (by decide +kernel))) (hts _ (zAt_mem (i := 5222) (by decide +kernel))) (hts _ (zAt_mem (i := 5104) (by decide +kernel))), List.forall_mem_cons.mpr ⟨va_Fw.of (hts _ (zAt_mem (i := 5239) (by decide +kernel))) (hts _ (zAt_mem (i := 5238) (by decide +kernel))) (hts _ (zAt_mem (i := 6003) (by decide +kernel))) (hts _ (zAt_mem (i := 6001) (by decide +kernel))) (hts _ (zAt_mem (i := 5104) (by decide +kernel))), List.forall_mem_cons.mpr ⟨va_Fw.of (hts _ (zAt_mem (i := 7044) (by decide +kernel))) (hts _ (zAt_mem (i := 7043) (by decide +kernel))) (hts _ (zAt_mem (i := 7048) (by decide +kernel))) (hts _ (zAt_mem (i := 7046) (by decide +kernel))) (hts _ (zAt_mem (i := 5104) (by decide +kernel))), List.forall_mem_cons.mpr ⟨va_Fw.of (hts _ (zAt_mem (i := 6027) (by decide +kernel))) (hts _ (zAt_mem (i := 6026) (by decide +kernel))) (hts _ (zAt_mem (i := 6032) (by decide +kernel))) (hts _ (zAt_mem (i := 6030) (by decide +kernel))) (hts _ (zAt_mem (i := 6028) (by decide +kernel))), List.forall_mem_cons.mpr ⟨va_Fw.of (hts _ (zAt_mem (i := 6037) (by decide +kernel))) (hts _ (zAt_mem (i := 6036) (by decide +kernel))) (hts _ (zAt_mem (i := 6041) (by decide +kernel))) (hts _ (zAt_mem (i := 6039) (by decide +kernel))) (hts _ (zAt_mem (i := 6028) (by decide +kernel))), fun _ h => absurd h List.not_mem_nil⟩⟩⟩⟩⟩⟩⟩
theorem zStr_mem {q : String × Nat × String} (h : q ∈ zStr) : Cond.stringRef q.1 q.2.1 q.2.2 ∈ tables_1 := by
  obtain ⟨w, hw, e⟩ := List.mem_filterMap.mp h
  cases w with
  | stringRef a k t => cases e; exact hw
  | _ => cases e
theorem zStr_own : ∀ q ∈ zStr, q.1 = RX7 := by decide +kernel
theorem zst_str (hts : ∀ w ∈ lw_tbl, w.before args s = true) : ∀ q ∈ zStr, ∃ a, vk_R q.1 q.2.1 q.2.2 a s := by
  intro q hq
  obtain ⟨cC, kC, hfc, -, -, -⟩ := Cond.instantiable_spec (zst_all hts _ ki_X7)
  have h1 := hts _ (List.mem_append_right _ (zStr_mem hq))
  obtain ⟨-, -, -, a, -, -, -, -, -, h2⟩ := Cond.stringRef_spec (by rw [zStr_own q hq]; exact hfc) h1
  exact ⟨a, vk_R.of h1 h2⟩
theorem zst_ncs : ∀ q ∈ zNcs, Cond.not (.castable q.1 q.2) ∈ flatC (Jvm.Cond.and given_1 narrow_1) := by decide +kernel
set_option maxRecDepth 100000 in
theorem zst_start (hts : ∀ w ∈ lw_tbl, w.before args s = true) (hgv : (Jvm.Cond.and given_1 narrow_1).before args s = true) : ∃ G : zG, zE G (fun q => s.heap.size ≤ q) s s.heap := by
  have hz := zst_all hts
  have hf := flat_of_before _ hgv
  have hA : ∀ a : Nat, a < s.heap.size → ¬ s.heap.size ≤ a := fun a h => Nat.not_le.mpr h
  obtain ⟨D, hD⟩ : ∃ D : Nat → ClassId × (Nat → Nat), ∀ c, ∀ q, vwCl[c]? = some q → u_Kn s q.1 q.2.1 q.2.2 (D c).1 (D c).2 := by
    have h : ∀ c : Nat, ∃ p : ClassId × (Nat → Nat), ∀ q, vwCl[c]? = some q → u_Kn s q.1 q.2.1 q.2.2 p.1 p.2 := by
      intro c
      cases hc : vwCl[c]? with
      | none => exact ⟨(0, fun _ => 0), fun q h => by cases h⟩
      | some q =>
        obtain ⟨p, hp⟩ := zst_cls hz q (List.mem_of_getElem? hc)
        exact ⟨p, fun q' h => by cases h; exact hp⟩
    exact Classical.axiomOfChoice h
  obtain ⟨a0, b0⟩ := zst_arr (hts (.arrayClass .int) (zAt_mem (i := 1112) (by decide +kernel))) (fun C h => by cases h)
  obtain ⟨a1, b1⟩ := zst_arr (hts (.arrayClass .boolean) (zAt_mem (i := 1113) (by decide +kernel))) (fun C h => by cases h)
  obtain ⟨a2, b2⟩ := zst_arro (hts (.arrayOver (.object "SmokeWard$Act")) (zAt_mem (i := 2027) (by decide +kernel)))
  obtain ⟨a3, b3⟩ := zst_arro (hts (.arrayOver (.object "java/lang/Object")) (zAt_mem (i := 5205) (by decide +kernel)))
  obtain ⟨a4, b4⟩ := zst_arr (hts (.arrayClass .long) (zAt_mem (i := 7063) (by decide +kernel))) (fun C h => by cases h)
  obtain ⟨a5, b5⟩ := zst_arr (hts (.arrayClass .double) (zAt_mem (i := 7064) (by decide +kernel))) (fun C h => by cases h)
  have tini : (Cond.initialized Bundle.tN).before args s = true := hts (.initialized Bundle.tN) (zAt_mem (i := 1014) (by decide +kernel))
  have hdl : (Cond.laysStatic "java/util/ArrayList" "DEFAULTCAPACITY_EMPTY_ELEMENTDATA" "[Ljava/lang/Object;").before args s = true := hts _ (zAt_mem (i := 5012) (by decide +kernel))
  have hda : (Cond.arrayOf (.static "java/util/ArrayList" "DEFAULTCAPACITY_EMPTY_ELEMENTDATA" "[Ljava/lang/Object;") (.object "java/lang/Object")).before args s = true := hf _ (by decide +kernel)
  have hde : (Cond.eq (.length (.static "java/util/ArrayList" "DEFAULTCAPACITY_EMPTY_ELEMENTDATA" "[Ljava/lang/Object;")) (.int 0)).before args s = true := hf _ (by decide +kernel)
  obtain ⟨t, ht, hT⟩ : ∃ t : Nat, (Term.static "java/util/ArrayList" "DEFAULTCAPACITY_EMPTY_ELEMENTDATA" "[Ljava/lang/Object;").eval args s none [] s = some (.ref t) ∧ va_T (.object "java/lang/Object") t 0 (fun _ => .null) (fun q => s.heap.size ≤ q) s s.heap := by
    refine va_Tof (by decide) hda ?_ (fun j hj => absurd hj (Nat.not_lt_zero j)) hA
    unfold Cond.before at hde
    simp only [Cond.holds, Cond.value] at hde
    cases hv : (Term.length (.static "java/util/ArrayList" "DEFAULTCAPACITY_EMPTY_ELEMENTDATA" "[Ljava/lang/Object;")).eval args s none [] s with
    | none => rw [hv] at hde; simp at hde
    | some v =>
      rw [hv] at hde
      obtain ⟨t, cell, h1, h2, h3⟩ := Term.length_spec hv
      subst h3
      have e : (Term.int (0 : Int32)).eval args s none [] s = some (.int 0) := rfl
      rw [e] at hde
      simp at hde
      rw [show Int32.ofNat 0 = 0 from rfl]
      first | exact congrArg (fun z => some (Value.int z)) hde | (rw [hde])
  obtain ⟨mi, hmi⟩ := va_Mi.of (hf (Cond.isRef (.mirror "[Ljava/lang/Object;")) (by decide +kernel))
  have hD2 : ∀ c, ∀ q, vwCl[c]? = some q → u_Kn s q.1 q.2.1 q.2.2 (if c = 99 then ((0, fun _ => mi) : ClassId × (Nat → Nat)) else D c).1 (if c = 99 then ((0, fun _ => mi) : ClassId × (Nat → Nat)) else D c).2 := by
    intro c q hq
    by_cases h : c = 99
    · subst h
      have hq : (none : Option vw_C) = some q := hq
      cases hq
    · rw [if_neg h]
      exact hD c q hq
  refine ⟨((fun c => (if c = 99 then ((0, fun _ => mi) : ClassId × (Nat → Nat)) else D c).1, fun c => (if c = 99 then ((0, fun _ => mi) : ClassId × (Nat → Nat)) else D c).2), (fun k => if k = 0 then a0 else if k = 1 then a1 else if k = 2 then a2 else if k = 3 then a3 else if k = 4 then a4 else a5), t), ⟨hD2, ?_⟩, fun w hw => va_Nw.of (zOdd_tabs (zNest_odd w hw)) (hts w (List.mem_filter.mp hw).1), zst_fw hts, zst_str hts, ?_, ?_, ⟨va_Zof hdl (hts _ (zAt_mem (i := 1013) (by decide +kernel))) ht hA, hT⟩, va_AO.of (hts _ (zAt_mem (i := 2027) (by decide +kernel))), va_AO.of (hts _ (zAt_mem (i := 5205) (by decide +kernel))), fun q hq => va_Nc.of (hf _ (zst_ncs q hq)), hmi, va_Dc.of (hts _ (zAt_mem (i := 7092) (by decide +kernel)))⟩
  · intro k q hk
    match k, hk with
    | 0, hk => cases hk; exact b0
    | 1, hk => cases hk; exact b1
    | 2, hk => cases hk; exact b2
    | 3, hk => cases hk; exact b3
    | 4, hk => cases hk; exact b4
    | 5, hk => cases hk; exact b5
    | k + 6, hk => simp [zTy] at hk
  · exact vx_Zqof (hts _ (zAt_mem (i := 3035) (by decide +kernel))) tini (hf _ (by decide +kernel)) hA
  · exact vx_Zqof (hts _ (zAt_mem (i := 3037) (by decide +kernel))) tini (hf _ (by decide +kernel)) hA
end ZST
