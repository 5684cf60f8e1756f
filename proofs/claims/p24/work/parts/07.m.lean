/-! joined: 07.decode4, 09.words, 10.env, 11.rows, 12.calls, 12.segs -/
section
theorem dL_pass_1 : decode cL_pass 1 = .ok (.iconst 0, 1) := by decide +kernel
theorem dL_pass_2 : decode cL_pass 2 = .ok (.aload_n 0, 1) := by decide +kernel
theorem dL_pass_3 : decode cL_pass 3 = .ok (.iload_n 1, 1) := by decide +kernel
theorem dL_pass_4 : decode cL_pass 4 = .ok (.invokevirtual 66, 3) := by decide +kernel
theorem dL_pass_7 : decode cL_pass 7 = .ok (.i2l, 1) := by decide +kernel
theorem dL_pass_8 : decode cL_pass 8 = .ok (.lastore, 1) := by decide +kernel
theorem dL_pass_9 : decode cL_pass 9 = .ok (.goto 9, 3) := by decide +kernel
theorem dL_pass_12 : decode cL_pass 12 = .ok (.astore_n 3, 1) := by decide +kernel
theorem dL_pass_13 : decode cL_pass 13 = .ok (.iconst 1, 1) := by decide +kernel
theorem dL_pass_14 : decode cL_pass 14 = .ok (.ireturn, 1) := by decide +kernel
theorem dL_pass_15 : decode cL_pass 15 = .ok (.astore_n 3, 1) := by decide +kernel
theorem dL_pass_16 : decode cL_pass 16 = .ok (.iconst 2, 1) := by decide +kernel
theorem dL_pass_17 : decode cL_pass 17 = .ok (.ireturn, 1) := by decide +kernel
theorem dL_pass_18 : decode cL_pass 18 = .ok (.iconst 0, 1) := by decide +kernel
theorem dL_pass_19 : decode cL_pass 19 = .ok (.ireturn, 1) := by decide +kernel
theorem dL_fuel_0 : decode cL_fuel 0 = .ok (.aload_n 3, 1) := by decide +kernel
theorem dL_fuel_1 : decode cL_fuel 1 = .ok (.iconst 0, 1) := by decide +kernel
theorem dL_fuel_2 : decode cL_fuel 2 = .ok (.aload_n 0, 1) := by decide +kernel
theorem dL_fuel_3 : decode cL_fuel 3 = .ok (.iload_n 1, 1) := by decide +kernel
theorem dL_fuel_4 : decode cL_fuel 4 = .ok (.iload_n 2, 1) := by decide +kernel
theorem dL_fuel_5 : decode cL_fuel 5 = .ok (.invokevirtual 69, 3) := by decide +kernel
theorem dL_fuel_8 : decode cL_fuel 8 = .ok (.i2l, 1) := by decide +kernel
theorem dL_fuel_9 : decode cL_fuel 9 = .ok (.lastore, 1) := by decide +kernel
theorem dL_fuel_10 : decode cL_fuel 10 = .ok (.goto 7, 3) := by decide +kernel
theorem dL_fuel_13 : decode cL_fuel 13 = .ok (.astore 4, 2) := by decide +kernel
theorem dL_fuel_15 : decode cL_fuel 15 = .ok (.iconst 1, 1) := by decide +kernel
theorem dL_fuel_16 : decode cL_fuel 16 = .ok (.ireturn, 1) := by decide +kernel
theorem dL_fuel_17 : decode cL_fuel 17 = .ok (.iconst 0, 1) := by decide +kernel
theorem dL_fuel_18 : decode cL_fuel 18 = .ok (.ireturn, 1) := by decide +kernel
theorem dL_fire_0 : decode cL_fire 0 = .ok (.aload_n 3, 1) := by decide +kernel
theorem dL_fire_1 : decode cL_fire 1 = .ok (.iconst 0, 1) := by decide +kernel
theorem dL_fire_2 : decode cL_fire 2 = .ok (.aload_n 0, 1) := by decide +kernel
theorem dL_fire_3 : decode cL_fire 3 = .ok (.iload_n 1, 1) := by decide +kernel
theorem dL_fire_4 : decode cL_fire 4 = .ok (.iload_n 2, 1) := by decide +kernel
theorem dL_fire_5 : decode cL_fire 5 = .ok (.invokevirtual 72, 3) := by decide +kernel
theorem dL_fire_8 : decode cL_fire 8 = .ok (.i2l, 1) := by decide +kernel
theorem dL_fire_9 : decode cL_fire 9 = .ok (.lastore, 1) := by decide +kernel
theorem dL_fire_10 : decode cL_fire 10 = .ok (.goto 7, 3) := by decide +kernel
theorem dL_fire_13 : decode cL_fire 13 = .ok (.astore 4, 2) := by decide +kernel
theorem dL_fire_15 : decode cL_fire 15 = .ok (.iconst 1, 1) := by decide +kernel
theorem dL_fire_16 : decode cL_fire 16 = .ok (.ireturn, 1) := by decide +kernel
theorem dL_fire_17 : decode cL_fire 17 = .ok (.iconst 0, 1) := by decide +kernel
theorem dL_fire_18 : decode cL_fire 18 = .ok (.ireturn, 1) := by decide +kernel
theorem dL_smoke_0 : decode cL_smoke 0 = .ok (.aload_n 3, 1) := by decide +kernel
theorem dL_smoke_1 : decode cL_smoke 1 = .ok (.iconst 0, 1) := by decide +kernel
theorem dL_smoke_2 : decode cL_smoke 2 = .ok (.aload_n 0, 1) := by decide +kernel
theorem dL_smoke_3 : decode cL_smoke 3 = .ok (.iload_n 1, 1) := by decide +kernel
theorem dL_smoke_4 : decode cL_smoke 4 = .ok (.iload_n 2, 1) := by decide +kernel
theorem dL_smoke_5 : decode cL_smoke 5 = .ok (.invokevirtual 75, 3) := by decide +kernel
theorem dL_smoke_8 : decode cL_smoke 8 = .ok (.i2l, 1) := by decide +kernel
theorem dL_smoke_9 : decode cL_smoke 9 = .ok (.lastore, 1) := by decide +kernel
theorem dL_smoke_10 : decode cL_smoke 10 = .ok (.goto 7, 3) := by decide +kernel
theorem dL_smoke_13 : decode cL_smoke 13 = .ok (.astore 4, 2) := by decide +kernel
theorem dL_smoke_15 : decode cL_smoke 15 = .ok (.iconst 1, 1) := by decide +kernel
theorem dL_smoke_16 : decode cL_smoke 16 = .ok (.ireturn, 1) := by decide +kernel
theorem dL_smoke_17 : decode cL_smoke 17 = .ok (.iconst 0, 1) := by decide +kernel
theorem dL_smoke_18 : decode cL_smoke 18 = .ok (.ireturn, 1) := by decide +kernel
theorem dL_hasLine_0 : decode cL_hasLine 0 = .ok (.aload_n 3, 1) := by decide +kernel
theorem dL_hasLine_1 : decode cL_hasLine 1 = .ok (.iconst 0, 1) := by decide +kernel
theorem dL_hasLine_2 : decode cL_hasLine 2 = .ok (.aload_n 0, 1) := by decide +kernel
theorem dL_hasLine_3 : decode cL_hasLine 3 = .ok (.iload_n 1, 1) := by decide +kernel
theorem dL_hasLine_4 : decode cL_hasLine 4 = .ok (.iload_n 2, 1) := by decide +kernel
theorem dL_hasLine_5 : decode cL_hasLine 5 = .ok (.invokevirtual 78, 3) := by decide +kernel
theorem dL_hasLine_8 : decode cL_hasLine 8 = .ok (.ifCond .eq 7, 3) := by decide +kernel
theorem dL_hasLine_11 : decode cL_hasLine 11 = .ok (.lconst 1, 1) := by decide +kernel
theorem dL_hasLine_12 : decode cL_hasLine 12 = .ok (.goto 4, 3) := by decide +kernel
theorem dL_hasLine_15 : decode cL_hasLine 15 = .ok (.lconst 0, 1) := by decide +kernel
theorem dL_hasLine_16 : decode cL_hasLine 16 = .ok (.lastore, 1) := by decide +kernel
theorem dL_hasLine_17 : decode cL_hasLine 17 = .ok (.goto 7, 3) := by decide +kernel
theorem dL_hasLine_20 : decode cL_hasLine 20 = .ok (.astore 4, 2) := by decide +kernel
theorem dL_hasLine_22 : decode cL_hasLine 22 = .ok (.iconst 1, 1) := by decide +kernel
theorem dL_hasLine_23 : decode cL_hasLine 23 = .ok (.ireturn, 1) := by decide +kernel
theorem dL_hasLine_24 : decode cL_hasLine 24 = .ok (.iconst 0, 1) := by decide +kernel
theorem dL_hasLine_25 : decode cL_hasLine 25 = .ok (.ireturn, 1) := by decide +kernel
theorem dL_left_0 : decode cL_left 0 = .ok (.aload_n 2, 1) := by decide +kernel
theorem dL_left_1 : decode cL_left 1 = .ok (.iconst 0, 1) := by decide +kernel
theorem dL_left_2 : decode cL_left 2 = .ok (.aload_n 0, 1) := by decide +kernel
theorem dL_left_3 : decode cL_left 3 = .ok (.iload_n 1, 1) := by decide +kernel
theorem dL_left_4 : decode cL_left 4 = .ok (.invokevirtual 82, 3) := by decide +kernel
theorem dL_left_7 : decode cL_left 7 = .ok (.i2l, 1) := by decide +kernel
theorem dL_left_8 : decode cL_left 8 = .ok (.lastore, 1) := by decide +kernel
theorem dL_left_9 : decode cL_left 9 = .ok (.goto 6, 3) := by decide +kernel
theorem dL_left_12 : decode cL_left 12 = .ok (.astore_n 3, 1) := by decide +kernel
theorem dL_left_13 : decode cL_left 13 = .ok (.iconst 1, 1) := by decide +kernel
theorem dL_left_14 : decode cL_left 14 = .ok (.ireturn, 1) := by decide +kernel
theorem dL_left_15 : decode cL_left 15 = .ok (.iconst 0, 1) := by decide +kernel
theorem dL_left_16 : decode cL_left 16 = .ok (.ireturn, 1) := by decide +kernel
theorem dL_forecast_0 : decode cL_forecast 0 = .ok (.aload 4, 2) := by decide +kernel
theorem dL_forecast_2 : decode cL_forecast 2 = .ok (.iconst 0, 1) := by decide +kernel
theorem dL_forecast_3 : decode cL_forecast 3 = .ok (.aload_n 0, 1) := by decide +kernel
theorem dL_forecast_4 : decode cL_forecast 4 = .ok (.iload_n 1, 1) := by decide +kernel
theorem dL_forecast_5 : decode cL_forecast 5 = .ok (.iload_n 2, 1) := by decide +kernel
theorem dL_forecast_6 : decode cL_forecast 6 = .ok (.iload_n 3, 1) := by decide +kernel
theorem dL_forecast_7 : decode cL_forecast 7 = .ok (.invokevirtual 85, 3) := by decide +kernel
theorem dL_forecast_10 : decode cL_forecast 10 = .ok (.i2l, 1) := by decide +kernel
theorem dL_forecast_11 : decode cL_forecast 11 = .ok (.lastore, 1) := by decide +kernel
theorem dL_forecast_12 : decode cL_forecast 12 = .ok (.goto 11, 3) := by decide +kernel
theorem dL_forecast_15 : decode cL_forecast 15 = .ok (.astore 5, 2) := by decide +kernel
theorem dL_forecast_17 : decode cL_forecast 17 = .ok (.iconst 1, 1) := by decide +kernel
theorem dL_forecast_18 : decode cL_forecast 18 = .ok (.ireturn, 1) := by decide +kernel
theorem dL_forecast_19 : decode cL_forecast 19 = .ok (.astore 5, 2) := by decide +kernel
theorem dL_forecast_21 : decode cL_forecast 21 = .ok (.iconst 2, 1) := by decide +kernel
theorem dL_forecast_22 : decode cL_forecast 22 = .ok (.ireturn, 1) := by decide +kernel
theorem dL_forecast_23 : decode cL_forecast 23 = .ok (.iconst 0, 1) := by decide +kernel
theorem dL_forecast_24 : decode cL_forecast 24 = .ok (.ireturn, 1) := by decide +kernel
theorem dL_worst_0 : decode cL_worst 0 = .ok (.aload 4, 2) := by decide +kernel
theorem dL_worst_2 : decode cL_worst 2 = .ok (.iconst 0, 1) := by decide +kernel
theorem dL_worst_3 : decode cL_worst 3 = .ok (.aload_n 0, 1) := by decide +kernel
theorem dL_worst_4 : decode cL_worst 4 = .ok (.iload_n 1, 1) := by decide +kernel
theorem dL_worst_5 : decode cL_worst 5 = .ok (.iload_n 2, 1) := by decide +kernel
theorem dL_worst_6 : decode cL_worst 6 = .ok (.iload_n 3, 1) := by decide +kernel
theorem dL_worst_7 : decode cL_worst 7 = .ok (.invokevirtual 88, 3) := by decide +kernel
theorem dL_worst_10 : decode cL_worst 10 = .ok (.i2l, 1) := by decide +kernel
theorem dL_worst_11 : decode cL_worst 11 = .ok (.lastore, 1) := by decide +kernel
theorem dL_worst_12 : decode cL_worst 12 = .ok (.goto 11, 3) := by decide +kernel
theorem dL_worst_15 : decode cL_worst 15 = .ok (.astore 5, 2) := by decide +kernel
theorem dL_worst_17 : decode cL_worst 17 = .ok (.iconst 1, 1) := by decide +kernel
theorem dL_worst_18 : decode cL_worst 18 = .ok (.ireturn, 1) := by decide +kernel
theorem dL_worst_19 : decode cL_worst 19 = .ok (.astore 5, 2) := by decide +kernel
theorem dL_worst_21 : decode cL_worst 21 = .ok (.iconst 2, 1) := by decide +kernel
theorem dL_worst_22 : decode cL_worst 22 = .ok (.ireturn, 1) := by decide +kernel
theorem dL_worst_23 : decode cL_worst 23 = .ok (.iconst 0, 1) := by decide +kernel
theorem dL_worst_24 : decode cL_worst 24 = .ok (.ireturn, 1) := by decide +kernel
theorem dL_warnedAt_0 : decode cL_warnedAt 0 = .ok (.aload_n 2, 1) := by decide +kernel
theorem dL_warnedAt_1 : decode cL_warnedAt 1 = .ok (.iconst 0, 1) := by decide +kernel
theorem dL_warnedAt_2 : decode cL_warnedAt 2 = .ok (.aload_n 0, 1) := by decide +kernel
theorem dL_warnedAt_3 : decode cL_warnedAt 3 = .ok (.iload_n 1, 1) := by decide +kernel
theorem dL_warnedAt_4 : decode cL_warnedAt 4 = .ok (.invokevirtual 91, 3) := by decide +kernel
theorem dL_warnedAt_7 : decode cL_warnedAt 7 = .ok (.i2l, 1) := by decide +kernel
theorem dL_warnedAt_8 : decode cL_warnedAt 8 = .ok (.lastore, 1) := by decide +kernel
theorem dL_warnedAt_9 : decode cL_warnedAt 9 = .ok (.goto 6, 3) := by decide +kernel
theorem dL_warnedAt_12 : decode cL_warnedAt 12 = .ok (.astore_n 3, 1) := by decide +kernel
theorem dL_warnedAt_13 : decode cL_warnedAt 13 = .ok (.iconst 1, 1) := by decide +kernel
theorem dL_warnedAt_14 : decode cL_warnedAt 14 = .ok (.ireturn, 1) := by decide +kernel
theorem dL_warnedAt_15 : decode cL_warnedAt 15 = .ok (.iconst 0, 1) := by decide +kernel
theorem dL_warnedAt_16 : decode cL_warnedAt 16 = .ok (.ireturn, 1) := by decide +kernel
theorem dL_warnedWhom_0 : decode cL_warnedWhom 0 = .ok (.aload_n 2, 1) := by decide +kernel
theorem dL_warnedWhom_1 : decode cL_warnedWhom 1 = .ok (.iconst 0, 1) := by decide +kernel
theorem dL_warnedWhom_2 : decode cL_warnedWhom 2 = .ok (.aload_n 0, 1) := by decide +kernel
theorem dL_warnedWhom_3 : decode cL_warnedWhom 3 = .ok (.iload_n 1, 1) := by decide +kernel
theorem dL_warnedWhom_4 : decode cL_warnedWhom 4 = .ok (.invokevirtual 94, 3) := by decide +kernel
theorem dL_warnedWhom_7 : decode cL_warnedWhom 7 = .ok (.i2l, 1) := by decide +kernel
theorem dL_warnedWhom_8 : decode cL_warnedWhom 8 = .ok (.lastore, 1) := by decide +kernel
theorem dL_warnedWhom_9 : decode cL_warnedWhom 9 = .ok (.goto 6, 3) := by decide +kernel
theorem dL_warnedWhom_12 : decode cL_warnedWhom 12 = .ok (.astore_n 3, 1) := by decide +kernel
theorem dL_warnedWhom_13 : decode cL_warnedWhom 13 = .ok (.iconst 1, 1) := by decide +kernel
theorem dL_warnedWhom_14 : decode cL_warnedWhom 14 = .ok (.ireturn, 1) := by decide +kernel
theorem dL_warnedWhom_15 : decode cL_warnedWhom 15 = .ok (.iconst 0, 1) := by decide +kernel
theorem dL_warnedWhom_16 : decode cL_warnedWhom 16 = .ok (.ireturn, 1) := by decide +kernel
theorem dL_warnedBy_0 : decode cL_warnedBy 0 = .ok (.aload_n 2, 1) := by decide +kernel
theorem dL_warnedBy_1 : decode cL_warnedBy 1 = .ok (.iconst 0, 1) := by decide +kernel
theorem dL_warnedBy_2 : decode cL_warnedBy 2 = .ok (.aload_n 0, 1) := by decide +kernel
theorem dL_warnedBy_3 : decode cL_warnedBy 3 = .ok (.iload_n 1, 1) := by decide +kernel
theorem dL_warnedBy_4 : decode cL_warnedBy 4 = .ok (.invokevirtual 97, 3) := by decide +kernel
theorem dL_warnedBy_7 : decode cL_warnedBy 7 = .ok (.i2l, 1) := by decide +kernel
theorem dL_warnedBy_8 : decode cL_warnedBy 8 = .ok (.lastore, 1) := by decide +kernel
theorem dL_warnedBy_9 : decode cL_warnedBy 9 = .ok (.goto 6, 3) := by decide +kernel
theorem dL_warnedBy_12 : decode cL_warnedBy 12 = .ok (.astore_n 3, 1) := by decide +kernel
theorem dL_warnedBy_13 : decode cL_warnedBy 13 = .ok (.iconst 1, 1) := by decide +kernel
theorem dL_warnedBy_14 : decode cL_warnedBy 14 = .ok (.ireturn, 1) := by decide +kernel
theorem dL_warnedBy_15 : decode cL_warnedBy 15 = .ok (.iconst 0, 1) := by decide +kernel
theorem dL_warnedBy_16 : decode cL_warnedBy 16 = .ok (.ireturn, 1) := by decide +kernel
theorem dL_trustShare_0 : decode cL_trustShare 0 = .ok (.aload_n 1, 1) := by decide +kernel
theorem dL_trustShare_1 : decode cL_trustShare 1 = .ok (.iconst 0, 1) := by decide +kernel
theorem dL_trustShare_2 : decode cL_trustShare 2 = .ok (.aload_n 0, 1) := by decide +kernel
theorem dL_trustShare_3 : decode cL_trustShare 3 = .ok (.invokevirtual 100, 3) := by decide +kernel
theorem dL_trustShare_6 : decode cL_trustShare 6 = .ok (.f2d, 1) := by decide +kernel
theorem dL_trustShare_7 : decode cL_trustShare 7 = .ok (.dastore, 1) := by decide +kernel
theorem dL_trustShare_8 : decode cL_trustShare 8 = .ok (.goto 6, 3) := by decide +kernel
theorem dL_trustShare_11 : decode cL_trustShare 11 = .ok (.astore_n 2, 1) := by decide +kernel
theorem dL_trustShare_12 : decode cL_trustShare 12 = .ok (.iconst 1, 1) := by decide +kernel
theorem dL_trustShare_13 : decode cL_trustShare 13 = .ok (.ireturn, 1) := by decide +kernel
theorem dL_trustShare_14 : decode cL_trustShare 14 = .ok (.iconst 0, 1) := by decide +kernel
theorem dL_trustShare_15 : decode cL_trustShare 15 = .ok (.ireturn, 1) := by decide +kernel
end
section
/-! the tables' words by their places: 1000 * the list + the row there -/
def zAt (i : Nat) : Option Cond := match i / 1000 with
  | 0 => (k2_sels lw_privs)[i]?
  | 1 => tables_1_1[i % 1000]?
  | 2 => tables_1_2[i % 1000]?
  | 3 => tables_1_3[i % 1000]?
  | 4 => tables_1_4[i % 1000]?
  | 5 => tables_1_5[i % 1000]?
  | 6 => tables_1_6[i % 1000]?
  | 7 => tables_1_7[i % 1000]?
  | _ => none
theorem zAt_mem {i : Nat} {w : Cond} (h : zAt i = some w) : w ∈ lw_tbl := by
  unfold zAt at h
  split at h
  · exact List.mem_append_left _ (List.mem_of_getElem? h)
  · exact List.mem_append_right _ (show w ∈ tables_1 from List.mem_append_left _ (List.mem_of_getElem? h))
  · exact List.mem_append_right _ (show w ∈ tables_1 from List.mem_append_right _ (List.mem_append_left _ (List.mem_of_getElem? h)))
  · exact List.mem_append_right _ (show w ∈ tables_1 from List.mem_append_right _ (List.mem_append_right _ (List.mem_append_left _ (List.mem_of_getElem? h))))
  · exact List.mem_append_right _ (show w ∈ tables_1 from List.mem_append_right _ (List.mem_append_right _ (List.mem_append_right _ (List.mem_append_left _ (List.mem_of_getElem? h)))))
  · exact List.mem_append_right _ (show w ∈ tables_1 from List.mem_append_right _ (List.mem_append_right _ (List.mem_append_right _ (List.mem_append_right _ (List.mem_append_left _ (List.mem_of_getElem? h))))))
  · exact List.mem_append_right _ (show w ∈ tables_1 from List.mem_append_right _ (List.mem_append_right _ (List.mem_append_right _ (List.mem_append_right _ (List.mem_append_right _ (List.mem_append_left _ (List.mem_of_getElem? h)))))))
  · exact List.mem_append_right _ (show w ∈ tables_1 from List.mem_append_right _ (List.mem_append_right _ (List.mem_append_right _ (List.mem_append_right _ (List.mem_append_right _ (List.mem_append_right _ (List.mem_of_getElem? h)))))))
  · cases h
end
section
/-! the words of every method: the tables' good ones, one list for all -/
def zAll : List Cond := lw_tbl.filter goodWord
theorem zAll_good : ∀ w ∈ zAll, goodWord w = true := fun _ h => (List.mem_filter.mp h).2
theorem zAll_of {w : Cond} (h : w ∈ lw_tbl) (g : goodWord w = true) : w ∈ zAll := List.mem_filter.mpr ⟨h, g⟩
theorem zMem {w : Cond} (i : Nat) (h : zAt i = some w) (g : goodWord w = true) : w ∈ zAll := zAll_of (zAt_mem h) g
theorem zGI {w : Cond} (h : w ∈ zAll) : GoodIn zAll (w :: zAll) := fun x hx => by
  rcases List.mem_cons.mp hx with rfl | hx
  · exact ⟨h, good_of_word (zAll_good _ h)⟩
  · exact ⟨hx, good_of_word (zAll_good _ hx)⟩
/-! words that only stay true: of private members of nest mates, casts, faces -/
def zOdd : Cond → Bool
  | .fieldLinkNest .. => true
  | .methodLinkNest .. => true
  | .castable .. => true
  | .declares _ => true
  | .publicMethod _ => true
  | .unhidden .. => true
  | .privateMethod _ => true
  | _ => false
def zNest : List Cond := lw_tbl.filter zOdd
theorem zNest_odd : ∀ w ∈ zNest, zOdd w = true := fun _ h => (List.mem_filter.mp h).2
theorem zMemN {w : Cond} (i : Nat) (h : zAt i = some w) (g : zOdd w = true) : w ∈ zNest := List.mem_filter.mpr ⟨zAt_mem h, g⟩
theorem zNw_warm {w : Cond} (g : zOdd w = true) {s U : State} (hW : s.WarmedH U.vm) (h : va_Nw w s) : va_Nw w U := by
  have tr : ∀ {c : Cond}, c.onTables = true → c.before #[] (s.setVm U.vm) = true → c.before #[] U = true := fun hc h => va_tabs hc (rfl : (s.setVm U.vm).vm = U.vm) h
  cases w with
  | fieldLinkNest a i b n d h9 => exact va_Nw.warmF hW h
  | methodLinkNest a i x h9 => exact va_Nw.warmM hW h
  | castable a b => exact tr rfl (by rw [Cond.castable_setVm hW.alike]; exact h)
  | declares x => exact tr rfl (by rw [Cond.declares_setVm hW.alike]; exact h)
  | publicMethod x => exact tr rfl (by rw [Cond.publicMethod_setVm hW.alike]; exact h)
  | privateMethod x => exact tr rfl (by rw [Cond.privateMethod_setVm hW.alike]; exact h)
  | unhidden a b d => exact tr rfl (by rw [Cond.unhidden_setVm hW.alike]; exact h)
  | _ => exact absurd g (by simp [zOdd])
theorem zNw_same {w : Cond} (g : zOdd w = true) {s U : State} (hv : s.vm = U.vm) (h : va_Nw w s) : va_Nw w U := by
  cases w <;> first | exact va_tabs rfl hv h | exact absurd g (by simp [zOdd])
/-! what holds of a state beside its world: classes and array classes, such words, statics, texts -/
abbrev zG : Type := va_G × (Nat → ClassId) × Nat
def zTy (G : zG) : List (ClassId × FieldType) := [(G.2.1 0, .int), (G.2.1 1, .boolean), (G.2.1 2, .object "SmokeWard$Act"), (G.2.1 3, .object "java/lang/Object"), (G.2.1 4, .long), (G.2.1 5, .double)]
def zStr : List (String × Nat × String) := tables_1.filterMap fun w => match w with
  | .stringRef a k t => some (a, k, t)
  | _ => none
def zFw : List (String × MethodName × MethodName) := [("java/util/ArrayList", ⟨"java/util/List", "size", "()I"⟩, ⟨"java/util/ArrayList", "size", "()I"⟩), ("java/util/ArrayList", ⟨"java/util/List", "add", "(Ljava/lang/Object;)Z"⟩, ⟨"java/util/ArrayList", "add", "(Ljava/lang/Object;)Z"⟩), ("java/util/ArrayList", ⟨"java/util/List", "get", "(I)Ljava/lang/Object;"⟩, ⟨"java/util/ArrayList", "get", "(I)Ljava/lang/Object;"⟩), ("java/util/ArrayList", ⟨"java/util/List", "iterator", "()Ljava/util/Iterator;"⟩, ⟨"java/util/ArrayList", "iterator", "()Ljava/util/Iterator;"⟩), ("java/util/ArrayList", ⟨"java/util/List", "isEmpty", "()Z"⟩, ⟨"java/util/ArrayList", "isEmpty", "()Z"⟩), ("java/util/ArrayList$Itr", ⟨"java/util/Iterator", "hasNext", "()Z"⟩, ⟨"java/util/ArrayList$Itr", "hasNext", "()Z"⟩), ("java/util/ArrayList$Itr", ⟨"java/util/Iterator", "next", "()Ljava/lang/Object;"⟩, ⟨"java/util/ArrayList$Itr", "next", "()Ljava/lang/Object;"⟩)]
def zNcs : List (String × String) :=
  let E := ["java/lang/IndexOutOfBoundsException", "java/lang/IllegalArgumentException", "java/lang/IllegalStateException", "java/lang/UnsupportedOperationException", "java/lang/ArithmeticException"]
  (E.flatMap fun a => E.map fun b => (a, b)).filter fun q => q.1 != q.2
/-- the class object of rows of objects -/
def zMi (G : zG) : Nat := G.1.2 99 0
def zE (G : zG) (A : Nat → Prop) (U : State) (H : Heap) : Prop :=
  va_K G.1 vwCl (zTy G) U ∧ (∀ w ∈ zNest, va_Nw w U) ∧ (∀ q ∈ zFw, va_Fw q.1 q.2.1 q.2.2 U) ∧ (∀ q ∈ zStr, ∃ a, vk_R q.1 q.2.1 q.2.2 a U) ∧
  vx_Zq Bundle.tN "UNASSIGNED_STACK" Bundle.steD A U H ∧ vx_Zq Bundle.tN "SUPPRESSED_SENTINEL" Bundle.listD A U H ∧
  (va_Z "java/util/ArrayList" "DEFAULTCAPACITY_EMPTY_ELEMENTDATA" "[Ljava/lang/Object;" (.ref G.2.2) A U H ∧ va_T (.object "java/lang/Object") G.2.2 0 (fun _ => .null) A U H) ∧
  va_AO "SmokeWard$Act" U ∧ va_AO "java/lang/Object" U ∧ (∀ q ∈ zNcs, va_Nc q.1 q.2 U) ∧ va_Mi "[Ljava/lang/Object;" (zMi G) U ∧ va_Dc U
theorem zFw_ok : ∀ q ∈ zFw, q.2.1.cls ≠ "java/lang/invoke/MethodHandle" ∧ q.2.1.cls ≠ "java/lang/invoke/VarHandle" := by decide +kernel
theorem zE.go {G : zG} {A B : Nat → Prop} {s U : State} {Hs : Heap} (h : zE G A s Hs) (hW : s.WarmedH U.vm ∨ s.vm = U.vm) (hk : ∀ a : Nat, a < Hs.size → ¬ A a → U.heap[a]? = Hs[a]?) (hAB : ∀ q, B q → A q) : zE G B U U.heap := by
  obtain ⟨h1, h2, h3, h4, h5, h6, ⟨h7, h8⟩, h9, h10, h11, h12, h13⟩ := h
  have hal : s.vm.Alike U.vm := hW.elim (fun w => w.alike) (fun e => e ▸ Vm.Alike.refl s.vm)
  refine ⟨h1.moved hal, fun w hw => ?_, fun q hq => (h3 q hq).moved (zFw_ok q hq) hal, fun q hq => ?_, ((h5.kept hk).narrow hAB).moved hal, ((h6.kept hk).narrow hAB).moved hal, ⟨((h7.kept hk).narrow hAB).moved hal, ((h8.kept hk).narrow hAB).moved hal⟩, h9.moved hal, h10.moved hal, fun q hq => (h11 q hq).moved hal, h12.moved hal, h13.moved hal⟩
  · exact hW.elim (fun x => zNw_warm (zNest_odd w hw) x (h2 w hw)) (fun x => zNw_same (zNest_odd w hw) x (h2 w hw))
  · obtain ⟨a, ha⟩ := h4 q hq
    exact ⟨a, hW.elim (fun x => ha.warm x) (fun x => ha.same x.symm)⟩
/-! the world of a moment of a method -/
def zW (G : zG) (A : Nat → Prop) (H0 H : Heap) (locs : List Loc) (w : va_W) : Prop := va_P G.1 vwCl w H ∧ va_D A w ∧ va_S A H0 H locs
theorem zW.P {G : zG} {A : Nat → Prop} {H0 H : Heap} {locs : List Loc} {w : va_W} (h : zW G A H0 H locs w) : va_P G.1 vwCl w H := h.1
theorem zW.D {G : zG} {A : Nat → Prop} {H0 H : Heap} {locs : List Loc} {w : va_W} (h : zW G A H0 H locs w) : va_D A w := h.2.1
theorem zW.S {G : zG} {A : Nat → Prop} {H0 H : Heap} {locs : List Loc} {w : va_W} (h : zW G A H0 H locs w) : va_S A H0 H locs := h.2.2
theorem zW.eq {G : zG} {A : Nat → Prop} {H0 H : Heap} {locs : List Loc} {w w' : va_W} (h : zW G A H0 H locs w) (e : w = w') : zW G A H0 H locs w' := e ▸ h
/-- some of its cells, in any order -/
theorem zW.sub {G : zG} {A : Nat → Prop} {H0 H : Heap} {locs : List Loc} {w w' : va_W} (h : zW G A H0 H locs w) (is : List Nat) (hn : va_nd is = true) (hs : is.map (fun i => w[i]?) = w'.map some) : zW G A H0 H locs w' := by
  refine ⟨?_, h.2.1.sub is hn hs, h.2.2⟩
  intro k q hk
  have h1 : (is.map (fun i => w[i]?))[k]? = some (some q) := by rw [hs, List.getElem?_map, hk]; rfl
  rw [List.getElem?_map] at h1
  cases hi : is[k]? with
  | none => rw [hi] at h1; cases h1
  | some i => rw [hi] at h1; exact h.1 i q (Option.some.inj h1)
/-! a method's start and its end -/
def zPc (G : zG) (sz : Nat) (av : List Value) (w : va_W) : Array Value → State → Prop := va_Pc av (fun U => U.heap.size = sz ∧ va_P G.1 vwCl w U.heap ∧ va_D (fun _ => True) w ∧ zE G (va_A w sz) U U.heap)
theorem zPc_blind (G : zG) (sz : Nat) (av : List Value) (w : va_W) : FrameBlind (zPc G sz av w) := fun a U g mk ⟨h1, h2, h3, h4, h5⟩ => ⟨h1, h2, h3, h4, zE.go (U := U.calling g mk a) h5 (Or.inr rfl) (fun _ _ _ => rfl) (fun _ h => h)⟩
def zB (G : zG) (A : Nat → Prop) (u : va_W) (t : State) : Prop := va_P G.1 vwCl u t.heap ∧ va_D A u
def zQ (G : zG) (A : Nat → Prop) (post : Option Value → va_W → Prop) : Array Value → State → Outcome → State → Prop := fun _ st oc t => (∃ (v : Option Value) (u : va_W), oc = .returned v ∧ post v u ∧ zB G A u t) ∧ va_F A st t
abbrev zRm (d mc ms : Nat) : Room := { frames := d, cells := mc, slots := ms, locals := 80 * d }
/-- A CONTRACT: from every state that holds the world w (and its statics, classes, texts), y returns v with a world u, 'post v u'; at most mc cells of ms slots are new; nothing else changed -/
def zC (l : Launch) (y : MethodName) (cc : ByteArray) (n : Nat) (ret : Option FieldType) (d mc ms : Nat) (G : zG) (av : List Value) (w : va_W) (post : Option Value → va_W → Prop) : Prop :=
  ∀ sz : Nat, Met l y (Cond.code y cc n ret :: zAll) (zRm d mc ms) (zPc G sz av w) (zQ G (va_A w sz) post) mc ms (va_A w sz)
/-- what a method has at hand -/
def zM (p : Program) (s : State) (m : MethodId) (args : Array Value) (c : Code) (cc : ByteArray) (nL : Nat) (own : String) (G : zG) (A : Nat → Prop) : Prop :=
  p.tables.exec = Jvm.exec ∧ c.code = cc ∧ c.maxLocals = nL ∧ s.vm.findClass own = some m.cls ∧ (∀ w ∈ zAll, w.before args s = true) ∧ zE G A s s.heap ∧ (∀ q, s.heap.size ≤ q → A q)
section ZS
variable {l : Launch} {y : MethodName} {cc : ByteArray} {n d mc ms : Nat} {ret : Option FieldType} {G : zG} {av : List Value} {w : va_W} {post : Option Value → va_W → Prop}
theorem zC.of (own : String) (ho : y.cls = own) (hy : plainName y.cls = true) (hn : (lg_sl av).length ≤ n)
    (body : ∀ (p : Program) (e : Env) (s : State) (m : MethodId) (args : Array Value) (below : List Frame) (meth : Method) (c : Code) (A : Nat → Prop) (ls : Array Slot), zM p s m args c cc n own G A → meth.sig.returnType = ret → meth.locks = false → meth.name = y.name → zW G A s.heap s.heap [] w → lv_has ls n (lv_args 0 av) →
      W p l e (zRm d mc ms) s m args below meth c s.heap [] 0 0 (MQ below (zQ G A post) args s mc ms A) (F0 m 0 ls [])) : zC l y cc n ret d mc ms G av w post := by
  intro sz
  refine Met.ofW (cc := cc) (maxL := n) (ret := ret) hy rfl ?_
  intro p e s m args below meth c s₁ B hml hv
  obtain ⟨rfl, hsz, hP, hD0, hE⟩ := hv
  have hts := atoms_spec (ws := Cond.code y cc n ret :: zAll) B.pre
  subst hsz
  subst ho
  rw [lg_entry_eq]
  exact body p e s m _ below meth c (va_A w s.heap.size) _ ⟨B.exec, B.bytes, hml, findClass_of_methodNamed B.named, fun w hw => hts w (List.mem_cons_of_mem _ hw), hE, fun q h => Or.inr h⟩ B.returns B.notSynchronized (name_of_methodNamed B.named B.method).1 ⟨hP, hD0.self, va_S.rf⟩ (lv_entry av hn)
end ZS
end
section
section ZR
variable {p : Program} {l : Launch} {e : Env} {R : Room} {s : State} {m : MethodId} {args : Array Value} {below : List Frame} {meth : Method} {c : Code} {H : Heap} {locs : List Loc} {cells slots : Nat} {Q : State → Prop}
variable {cc : ByteArray} {nL pc : Nat} {own : String} {G : zG} {A : Nat → Prop} {w : va_W} {ls : Array Slot} {rest : List Value} {a : Nat}
theorem zM.x (B : zM p s m args c cc nL own G A) : p.tables.exec = Jvm.exec := B.1
theorem zM.b (B : zM p s m args c cc nL own G A) : c.code = cc := B.2.1
theorem zM.ml (B : zM p s m args c cc nL own G A) : c.maxLocals = nL := B.2.2.1
theorem zM.o (B : zM p s m args c cc nL own G A) : s.vm.findClass own = some m.cls := B.2.2.2.1
theorem zM.ts (B : zM p s m args c cc nL own G A) : ∀ w ∈ zAll, w.before args s = true := B.2.2.2.2.1
theorem zM.E (B : zM p s m args c cc nL own G A) : zE G A s s.heap := B.2.2.2.2.2.1
theorem zM.nA (B : zM p s m args c cc nL own G A) : ∀ q, s.heap.size ≤ q → A q := B.2.2.2.2.2.2
theorem zM.K (B : zM p s m args c cc nL own G A) : va_K G.1 vwCl (zTy G) s := B.E.1
theorem zM.nw (B : zM p s m args c cc nL own G A) {w : Cond} (h : w ∈ zNest) : va_Nw w s := B.E.2.1 w h
/-! fields -/
def zFl (own : String) (idx ci k : Nat) : Prop := ∃ (C : String) (T : u_T) (N : Nat), vwCl[ci]? = some (C, T, N) ∧ k < N ∧ (∀ w ∈ u_ws C T N, w ∈ zAll) ∧ Cond.fieldLink own idx (T k).1 (T k).2.1 (T k).2.2.1 ∈ zAll
def zFn (own : String) (idx : Nat) (host : String) (ci k : Nat) : Prop := ∃ (C : String) (T : u_T) (N : Nat), vwCl[ci]? = some (C, T, N) ∧ k < N ∧ (∀ w ∈ u_ws C T N, w ∈ zAll) ∧ Cond.fieldLinkNest own idx (T k).1 (T k).2.1 (T k).2.2.1 host ∈ zNest
/-- what a store into a field of class ci wants: its table of types, and that the names differ -/
def zFt (ci k : Nat) (fin : Bool) (ty : FieldType) : Prop := ∃ (C : String) (T : u_T) (N : Nat) (ty0 : Nat → FieldType), vwCl[ci]? = some (C, T, N) ∧ (∀ k, k < N → parseFieldDescriptor (T k).2.2.1 = some (ty0 k)) ∧ (∀ a, a < N → ∀ b, b < N → a ≠ b → (T a).2.1 ≠ (T b).2.1) ∧ (T k).2.2.2 = fin ∧ parseFieldDescriptor (T k).2.2.1 = some ty
theorem zget (B : zM p s m args c cc nL own G A) (hW : zW G A s.heap H locs w) (q0 : Nat) {ci : Nat} {fs : List Value} (he : w[q0]? = some (a, .inr (ci, fs))) {idx k : Nat} (L : zFl own idx ci k) {v : Value} (hv : fs[k]? = some v) (hdg : decode cc pc = .ok (.getfield idx, 3))
    (kk : W p l e R s m args below meth c H locs cells slots Q (F0 m (pc + 3) ls (v :: rest))) : W p l e R s m args below meth c H locs cells slots Q (F0 m pc ls (.ref a :: rest)) := by
  obtain ⟨C, T, N, h1, h2, h3, h4⟩ := L
  exact va_get (D := G.1) (ci := ci) (C := C) (T := T) (N := N) B.x B.b B.ts h3 B.o B.K hW.1 q0 he h1 k h2 (B.ts _ h4) (fun _ h => h) hv hdg kk
theorem zgetN (B : zM p s m args c cc nL own G A) (hW : zW G A s.heap H locs w) (q0 : Nat) {ci : Nat} {fs : List Value} (he : w[q0]? = some (a, .inr (ci, fs))) {host : String} {idx k : Nat} (L : zFn own idx host ci k) {v : Value} (hv : fs[k]? = some v) (hdg : decode cc pc = .ok (.getfield idx, 3))
    (kk : W p l e R s m args below meth c H locs cells slots Q (F0 m (pc + 3) ls (v :: rest))) : W p l e R s m args below meth c H locs cells slots Q (F0 m pc ls (.ref a :: rest)) := by
  obtain ⟨C, T, N, h1, h2, h3, h4⟩ := L
  exact va_getN (D := G.1) (ci := ci) (C := C) (T := T) (N := N) B.x B.b B.ts h3 B.o B.K hW.1 q0 he h1 k h2 (va_Nw.use rfl (B.nw h4)) (fun _ h => h) hv hdg kk
theorem zput (B : zM p s m args c cc nL own G A) (hW : zW G A s.heap H locs w) (q0 : Nat) {ci : Nat} {fs : List Value} (he : w[q0]? = some (a, .inr (ci, fs))) {idx k : Nat} (L : zFl own idx ci k) {ty : FieldType} (F : zFt ci k false ty) {v : Value} (hn : narrow ty v = v) (hfit : fits ty v = true) (hl : k < fs.length) (hdg : decode cc pc = .ok (.putfield idx, 3))
    (kk : ∀ (H1 : Heap) (locs1 : List Loc), zW G A s.heap H1 locs1 (w.set q0 (a, .inr (ci, fs.set k v))) → W p l e R s m args below meth c H1 locs1 cells slots Q (F0 m (pc + 3) ls rest)) : W p l e R s m args below meth c H locs cells slots Q (F0 m pc ls (v :: .ref a :: rest)) := by
  obtain ⟨C, T, N, h1, h2, h3, h4⟩ := L
  obtain ⟨C', T', N', ty0, g1, g2, g3, g4, g5⟩ := F
  cases Option.some.inj (h1.symm.trans g1)
  exact va_put (D := G.1) (ci := ci) (C := C) (T := T) (N := N) B.x B.b B.ts h3 ty0 g2 g3 B.o B.K hW.1 hW.2.1 hW.2.2 q0 he h1 k h2 (B.ts _ h4) (fun _ h => h) g4 g5 hn hfit hl hdg (fun H1 locs1 a1 a2 a3 => kk H1 locs1 ⟨a1, a2, a3⟩)
theorem zputN (B : zM p s m args c cc nL own G A) (hW : zW G A s.heap H locs w) (q0 : Nat) {ci : Nat} {fs : List Value} (he : w[q0]? = some (a, .inr (ci, fs))) {host : String} {idx k : Nat} (L : zFn own idx host ci k) {ty : FieldType} (F : zFt ci k false ty) {v : Value} (hn : narrow ty v = v) (hfit : fits ty v = true) (hl : k < fs.length) (hdg : decode cc pc = .ok (.putfield idx, 3))
    (kk : ∀ (H1 : Heap) (locs1 : List Loc), zW G A s.heap H1 locs1 (w.set q0 (a, .inr (ci, fs.set k v))) → W p l e R s m args below meth c H1 locs1 cells slots Q (F0 m (pc + 3) ls rest)) : W p l e R s m args below meth c H locs cells slots Q (F0 m pc ls (v :: .ref a :: rest)) := by
  obtain ⟨C, T, N, h1, h2, h3, h4⟩ := L
  obtain ⟨C', T', N', ty0, g1, g2, g3, g4, g5⟩ := F
  cases Option.some.inj (h1.symm.trans g1)
  exact va_putN (D := G.1) (ci := ci) (C := C) (T := T) (N := N) B.x B.b B.ts h3 ty0 g2 g3 B.o B.K hW.1 hW.2.1 hW.2.2 q0 he h1 k h2 (va_Nw.use rfl (B.nw h4)) (fun _ h => h) g4 g5 hn hfit hl hdg (fun H1 locs1 a1 a2 a3 => kk H1 locs1 ⟨a1, a2, a3⟩)
/-- a final field, in a constructor of its class -/
theorem zputF (B : zM p s m args c cc nL own G A) (hW : zW G A s.heap H locs w) (hin : meth.name = "<init>") (q0 : Nat) {ci : Nat} {fs : List Value} (he : w[q0]? = some (a, .inr (ci, fs))) {idx k : Nat} (L : zFl own idx ci k) {ty : FieldType} (F : zFt ci k true ty) (hdc : ∀ (C : String) (T : u_T) (N : Nat), vwCl[ci]? = some (C, T, N) → (T k).1 = own) {v : Value} (hn : narrow ty v = v) (hfit : fits ty v = true) (hl : k < fs.length) (hdg : decode cc pc = .ok (.putfield idx, 3))
    (kk : ∀ (H1 : Heap) (locs1 : List Loc), zW G A s.heap H1 locs1 (w.set q0 (a, .inr (ci, fs.set k v))) → W p l e R s m args below meth c H1 locs1 cells slots Q (F0 m (pc + 3) ls rest)) : W p l e R s m args below meth c H locs cells slots Q (F0 m pc ls (v :: .ref a :: rest)) := by
  obtain ⟨C, T, N, h1, h2, h3, h4⟩ := L
  obtain ⟨C', T', N', ty0, g1, g2, g3, g4, g5⟩ := F
  cases Option.some.inj (h1.symm.trans g1)
  exact va_putF (D := G.1) (ci := ci) (C := C) (T := T) (N := N) B.x B.b B.ts h3 ty0 g2 g3 B.o B.K hW.1 hW.2.1 hW.2.2 q0 he h1 k h2 (B.ts _ h4) (fun _ h => h) g4 hin (hdc C T N h1) g5 hn hfit hl hdg (fun H1 locs1 a1 a2 a3 => kk H1 locs1 ⟨a1, a2, a3⟩)
/-! arrays -/
theorem ziald (B : zM p s m args c cc nL own G A) (hW : zW G A s.heap H locs w) (q0 : Nat) {n : Nat} {f : Nat → Int32} (he : w[q0]? = some (a, .inl (G.2.1 0, n, .inl f))) {i : Int32} (hin : vp_in i n) (hdg : decode cc pc = .ok (.iaload, 1))
    (kk : W p l e R s m args below meth c H locs cells slots Q (F0 m (pc + 1) ls (.int (f i.toNatClampNeg) :: rest))) : W p l e R s m args below meth c H locs cells slots Q (F0 m pc ls (.int i :: .ref a :: rest)) :=
  va_iald (D := G.1) B.x B.b B.K hW.1 q0 0 he rfl hin hdg kk
theorem zzald (B : zM p s m args c cc nL own G A) (hW : zW G A s.heap H locs w) (q0 : Nat) {n : Nat} {f : Nat → Int32} (he : w[q0]? = some (a, .inl (G.2.1 1, n, .inl f))) {i : Int32} (hin : vp_in i n) (hdg : decode cc pc = .ok (.baload, 1))
    (kk : W p l e R s m args below meth c H locs cells slots Q (F0 m (pc + 1) ls (.int (f i.toNatClampNeg) :: rest))) : W p l e R s m args below meth c H locs cells slots Q (F0 m pc ls (.int i :: .ref a :: rest)) :=
  va_zald (D := G.1) B.x B.b B.K hW.1 q0 1 he rfl hin hdg kk
/-- .. at a place that is a natural number -/
theorem zialdN (B : zM p s m args c cc nL own G A) (hW : zW G A s.heap H locs w) (q0 : Nat) {n : Nat} {f : Nat → Int32} (he : w[q0]? = some (a, .inl (G.2.1 0, n, .inl f))) (j : Nat) {i : Int32} (hi : i = nI j) (hj : j < n) (hn : n < 2 ^ 31) (hdg : decode cc pc = .ok (.iaload, 1))
    (kk : W p l e R s m args below meth c H locs cells slots Q (F0 m (pc + 1) ls (.int (f j) :: rest))) : W p l e R s m args below meth c H locs cells slots Q (F0 m pc ls (.int i :: .ref a :: rest)) := by
  refine ziald B hW q0 he (by rw [hi]; exact vp_in_nI hj hn) hdg ?_
  rw [hi, nI_clamp (Nat.lt_trans hj hn)]
  exact kk
theorem zzaldN (B : zM p s m args c cc nL own G A) (hW : zW G A s.heap H locs w) (q0 : Nat) {n : Nat} {f : Nat → Int32} (he : w[q0]? = some (a, .inl (G.2.1 1, n, .inl f))) (j : Nat) {i : Int32} (hi : i = nI j) (hj : j < n) (hn : n < 2 ^ 31) (hdg : decode cc pc = .ok (.baload, 1))
    (kk : W p l e R s m args below meth c H locs cells slots Q (F0 m (pc + 1) ls (.int (f j) :: rest))) : W p l e R s m args below meth c H locs cells slots Q (F0 m pc ls (.int i :: .ref a :: rest)) := by
  refine zzald B hW q0 he (by rw [hi]; exact vp_in_nI hj hn) hdg ?_
  rw [hi, nI_clamp (Nat.lt_trans hj hn)]
  exact kk
theorem ziast (B : zM p s m args c cc nL own G A) (hW : zW G A s.heap H locs w) (q0 : Nat) {n : Nat} {f : Nat → Int32} (he : w[q0]? = some (a, .inl (G.2.1 0, n, .inl f))) {i x : Int32} (hin : vp_in i n) (hdg : decode cc pc = .ok (.iastore, 1))
    (kk : ∀ (H1 : Heap) (locs1 : List Loc), zW G A s.heap H1 locs1 (w.set q0 (a, .inl (G.2.1 0, n, .inl (upd f i.toNatClampNeg x)))) → W p l e R s m args below meth c H1 locs1 cells slots Q (F0 m (pc + 1) ls rest)) : W p l e R s m args below meth c H locs cells slots Q (F0 m pc ls (.int x :: .int i :: .ref a :: rest)) :=
  va_iast (D := G.1) B.x B.b B.K hW.1 hW.2.1 hW.2.2 q0 0 he rfl hin hdg (fun H1 locs1 a1 a2 a3 => kk H1 locs1 ⟨a1, a2, a3⟩)
theorem ziastN (B : zM p s m args c cc nL own G A) (hW : zW G A s.heap H locs w) (q0 : Nat) {n : Nat} {f : Nat → Int32} (he : w[q0]? = some (a, .inl (G.2.1 0, n, .inl f))) (j : Nat) {i x : Int32} (hi : i = nI j) (hj : j < n) (hn : n < 2 ^ 31) (hdg : decode cc pc = .ok (.iastore, 1))
    (kk : ∀ (H1 : Heap) (locs1 : List Loc), zW G A s.heap H1 locs1 (w.set q0 (a, .inl (G.2.1 0, n, .inl (upd f j x)))) → W p l e R s m args below meth c H1 locs1 cells slots Q (F0 m (pc + 1) ls rest)) : W p l e R s m args below meth c H locs cells slots Q (F0 m pc ls (.int x :: .int i :: .ref a :: rest)) := by
  refine ziast B hW q0 he (by rw [hi]; exact vp_in_nI hj hn) hdg (fun H1 locs1 h => ?_)
  rw [hi, nI_clamp (Nat.lt_trans hj hn)] at h
  exact kk H1 locs1 h
theorem zzast (B : zM p s m args c cc nL own G A) (hW : zW G A s.heap H locs w) (q0 : Nat) {n : Nat} {f : Nat → Int32} (he : w[q0]? = some (a, .inl (G.2.1 1, n, .inl f))) {i x : Int32} (hx : vp_nar .boolean x = x) (hin : vp_in i n) (hdg : decode cc pc = .ok (.bastore, 1))
    (kk : ∀ (H1 : Heap) (locs1 : List Loc), zW G A s.heap H1 locs1 (w.set q0 (a, .inl (G.2.1 1, n, .inl (upd f i.toNatClampNeg x)))) → W p l e R s m args below meth c H1 locs1 cells slots Q (F0 m (pc + 1) ls rest)) : W p l e R s m args below meth c H locs cells slots Q (F0 m pc ls (.int x :: .int i :: .ref a :: rest)) :=
  va_zast (D := G.1) B.x B.b B.K hW.1 hW.2.1 hW.2.2 q0 1 he rfl hin hdg (fun H1 locs1 a1 a2 a3 => kk H1 locs1 (by rw [hx] at a1 a2; exact ⟨a1, a2, a3⟩))
theorem zzastN (B : zM p s m args c cc nL own G A) (hW : zW G A s.heap H locs w) (q0 : Nat) {n : Nat} {f : Nat → Int32} (he : w[q0]? = some (a, .inl (G.2.1 1, n, .inl f))) (j : Nat) {i x : Int32} (hx : vp_nar .boolean x = x) (hi : i = nI j) (hj : j < n) (hn : n < 2 ^ 31) (hdg : decode cc pc = .ok (.bastore, 1))
    (kk : ∀ (H1 : Heap) (locs1 : List Loc), zW G A s.heap H1 locs1 (w.set q0 (a, .inl (G.2.1 1, n, .inl (upd f j x)))) → W p l e R s m args below meth c H1 locs1 cells slots Q (F0 m (pc + 1) ls rest)) : W p l e R s m args below meth c H locs cells slots Q (F0 m pc ls (.int x :: .int i :: .ref a :: rest)) := by
  refine zzast B hW q0 he hx (by rw [hi]; exact vp_in_nI hj hn) hdg (fun H1 locs1 h => ?_)
  rw [hi, nI_clamp (Nat.lt_trans hj hn)] at h
  exact kk H1 locs1 h
theorem zalen (B : zM p s m args c cc nL own G A) (hW : zW G A s.heap H locs w) (q0 t0 : Nat) {cA : ClassId} {x : vp_A} (he : w[q0]? = some (a, .inl (cA, x))) {ty : FieldType} (ht : (zTy G)[t0]? = some (cA, ty)) (hdg : decode cc pc = .ok (.arraylength, 1))
    (kk : W p l e R s m args below meth c H locs cells slots Q (F0 m (pc + 1) ls (.int (nI x.1) :: rest))) : W p l e R s m args below meth c H locs cells slots Q (F0 m pc ls (.ref a :: rest)) :=
  va_alen (D := G.1) B.x B.b B.K hW.1 q0 t0 he ht rfl hdg kk
/-! ends -/
theorem zend {mc ms : Nat} {post : Option Value → va_W → Prop} {v : Option Value} (hW : zW G A s.heap H locs w) (hp : post v w) : ∀ t : State, t.heap = H → s.WarmedH t.vm → zQ G A post args s (.returned v) t :=
  fun t ht _ => ⟨⟨v, w, rfl, hp, by rw [show zB G A w t = (va_P G.1 vwCl w t.heap ∧ va_D A w) from rfl, ht]; exact ⟨hW.1, hW.2.1⟩⟩, hW.2.2.F ht⟩
theorem ziret {mc ms : Nat} {post : Option Value → va_W → Prop} {v : Int32} (B : zM p s m args c cc nL own G A) (hr : meth.sig.returnType = some .int) (hlk : meth.locks = false) (hW : zW G A s.heap H locs w) (hp : post (some (.int v)) w) (hc : cells ≤ mc) (hs : slots ≤ ms) (hdg : decode cc pc = .ok (.ireturn, 1)) :
    W p l e R s m args below meth c H locs cells slots (MQ below (zQ G A post) args s mc ms A) (F0 m pc ls [.int v]) :=
  W.widen hc hs (W.iret B.x B.b hr (zend (mc := mc) (ms := ms) hW hp) hW.2.2.2.2 hdg hlk)
theorem zzret {mc ms : Nat} {post : Option Value → va_W → Prop} {v : Int32} {ty : FieldType} (B : zM p s m args c cc nL own G A) (hr : meth.sig.returnType = some ty) (hlk : meth.locks = false) (hn : narrow ty (.int v) = .int v) (hW : zW G A s.heap H locs w) (hp : post (some (.int v)) w) (hc : cells ≤ mc) (hs : slots ≤ ms) (hdg : decode cc pc = .ok (.ireturn, 1)) :
    W p l e R s m args below meth c H locs cells slots (MQ below (zQ G A post) args s mc ms A) (F0 m pc ls [.int v]) :=
  W.widen hc hs (W.zret B.x B.b hr hn (zend (mc := mc) (ms := ms) hW hp) hW.2.2.2.2 hdg hlk)
theorem zvret {mc ms : Nat} {post : Option Value → va_W → Prop} (B : zM p s m args c cc nL own G A) (hr : meth.sig.returnType = none) (hlk : meth.locks = false) (hW : zW G A s.heap H locs w) (hp : post none w) (hc : cells ≤ mc) (hs : slots ≤ ms) (hdg : decode cc pc = .ok (.return_, 1)) :
    W p l e R s m args below meth c H locs cells slots (MQ below (zQ G A post) args s mc ms A) (F0 m pc ls []) :=
  W.widen hc hs (W.vret B.x B.b hr (zend (mc := mc) (ms := ms) hW hp) hW.2.2.2.2 hdg hlk)
theorem zlret {mc ms : Nat} {post : Option Value → va_W → Prop} {v : Int64} (B : zM p s m args c cc nL own G A) (hr : meth.sig.returnType = some .long) (hlk : meth.locks = false) (hW : zW G A s.heap H locs w) (hp : post (some (.long v)) w) (hc : cells ≤ mc) (hs : slots ≤ ms) (hdg : decode cc pc = .ok (.lreturn, 1)) :
    W p l e R s m args below meth c H locs cells slots (MQ below (zQ G A post) args s mc ms A) (F0 m pc ls [.long v]) :=
  W.widen hc hs (W.lret B.x B.b hr (zend (mc := mc) (ms := ms) hW hp) hW.2.2.2.2 hdg hlk)
theorem zaret {mc ms : Nat} {post : Option Value → va_W → Prop} {v : Value} {rt : FieldType} (B : zM p s m args c cc nL own G A) (hr : meth.sig.returnType = some rt) (hlk : meth.locks = false) (hrt : (∃ n, rt = .object n) ∨ ∃ t, rt = .array t) (hv : v = .null ∨ ∃ a, v = .ref a) (hW : zW G A s.heap H locs w) (hp : post (some v) w) (hc : cells ≤ mc) (hs : slots ≤ ms) (hdg : decode cc pc = .ok (.areturn, 1)) :
    W p l e R s m args below meth c H locs cells slots (MQ below (zQ G A post) args s mc ms A) (F0 m pc ls [v]) :=
  W.widen hc hs (W.aret B.x B.b hr hrt hv (zend (mc := mc) (ms := ms) hW hp) hW.2.2.2.2 hdg hlk)
end ZR
end
section
section ZK
variable {p : Program} {l : Launch} {e : Env} {R : Room} {s : State} {m : MethodId} {args : Array Value} {below : List Frame} {meth : Method} {c : Code} {H : Heap} {locs : List Loc} {cells slots : Nat} {Q : State → Prop}
variable {cc bytes : ByteArray} {nL pc maxL n d mc ms idx : Nat} {own C host : String} {G : zG} {A : Nat → Prop} {w w1 w2 wc : va_W} {ls : Array Slot} {rest As : List Value} {b : Nat} {y : MethodName} {ret : Option FieldType} {post : Option Value → va_W → Prop}
theorem va_P_l {D : va_G} {cl : List vw_C} {u v : va_W} {H : Heap} (h : va_P D cl (u ++ v) H) : va_P D cl u H := fun k q hk => h k q (by rw [List.getElem?_append_left (List.getElem?_eq_some_iff.mp hk).1]; exact hk)
theorem va_P_r {D : va_G} {cl : List vw_C} {u v : va_W} {H : Heap} (h : va_P D cl (u ++ v) H) : va_P D cl v H := fun k q hk => h (u.length + k) q (by rw [List.getElem?_append_right (Nat.le_add_right _ _), Nat.add_sub_cancel_left]; exact hk)
theorem va_D_l {A : Nat → Prop} {u v : va_W} (h : va_D A (u ++ v)) : va_D A u := ⟨fun i j x y hi hj e => h.1 i j x y (by rw [List.getElem?_append_left (List.getElem?_eq_some_iff.mp hi).1]; exact hi) (by rw [List.getElem?_append_left (List.getElem?_eq_some_iff.mp hj).1]; exact hj) e, fun k q hk => h.2 k q (by rw [List.getElem?_append_left (List.getElem?_eq_some_iff.mp hk).1]; exact hk)⟩
theorem va_D_r {A : Nat → Prop} {u v : va_W} (h : va_D A (u ++ v)) : va_D A v := ⟨fun i j x y hi hj e => by
  have := h.1 (u.length + i) (u.length + j) x y (by rw [List.getElem?_append_right (Nat.le_add_right _ _), Nat.add_sub_cancel_left]; exact hi) (by rw [List.getElem?_append_right (Nat.le_add_right _ _), Nat.add_sub_cancel_left]; exact hj) e
  omega, fun k q hk => h.2 (u.length + k) q (by rw [List.getElem?_append_right (Nat.le_add_right _ _), Nat.add_sub_cancel_left]; exact hk)⟩
theorem va_D_x {A : Nat → Prop} {u v : va_W} (h : va_D A (u ++ v)) {i j : Nat} {x y : Nat × va_E} (hi : u[i]? = some x) (hj : v[j]? = some y) : x.1 ≠ y.1 := fun e => by
  have hl := (List.getElem?_eq_some_iff.mp hi).1
  have := h.1 i (u.length + j) x y (by rw [List.getElem?_append_left hl]; exact hi) (by rw [List.getElem?_append_right (Nat.le_add_right _ _), Nat.add_sub_cancel_left]; exact hj) e
  omega
/-- behind a call on the middle part of a world -/
theorem zjoin {H1 : Heap} {locs1 : List Loc} {u : va_W} (hW : zW G A s.heap H locs (w1 ++ (wc ++ w2))) (hk : ∀ q : Nat, q < H.size → ¬ va_A wc H.size q → H1[q]? = H[q]?) (hF : ∀ q, va_A wc H.size q → A q) (hP1 : va_P G.1 vwCl u H1) (hD1 : va_D (va_A wc H.size) u) (hS1 : va_S A s.heap H1 locs1) : zW G A s.heap H1 locs1 (w1 ++ (u ++ w2)) := by
  obtain ⟨hP, hD, hS⟩ := hW
  have out1 : ∀ (k : Nat) (q : Nat × va_E), w1[k]? = some q → q.1 < H.size ∧ ¬ va_A wc H.size q.1 := fun k q hq => by
    have hl := (va_P_l hP k q hq).lt
    refine ⟨hl, fun h => h.elim (fun ⟨k2, e, h2⟩ => ?_) (fun h2 => by omega)⟩
    have hl2 := (List.getElem?_eq_some_iff.mp h2).1
    exact va_D_x hD hq (show (wc ++ w2)[k2]? = some (q.1, e) by rw [List.getElem?_append_left hl2]; exact h2) rfl
  have out2 : ∀ (k : Nat) (q : Nat × va_E), w2[k]? = some q → q.1 < H.size ∧ ¬ va_A wc H.size q.1 := fun k q hq => by
    have hl := (va_P_r (va_P_r hP) k q hq).lt
    exact ⟨hl, fun h => h.elim (fun ⟨k2, e, h2⟩ => va_D_x (va_D_r hD) h2 hq rfl) (fun h2 => by omega)⟩
  have in1 : ∀ (k : Nat) (q : Nat × va_E), u[k]? = some q → va_A wc H.size q.1 := fun k q hq => hD1.2 k q hq
  refine ⟨va_P.app (fun k q hq => ?_) (va_P.app hP1 (fun k q hq => ?_)), va_D.app (va_D_l hD) (va_D.app (hD1.weaken (fun k q _ h => hF q.1 h)) (va_D_r (va_D_r hD)) (fun i j x z hi hj e => (out2 j z hj).2 (e ▸ in1 i x hi))) (fun i j x z hi hj e => ?_), hS1⟩
  · exact (va_P_l hP k q hq).kept (hk q.1 (out1 k q hq).1 (out1 k q hq).2)
  · exact (va_P_r (va_P_r hP) k q hq).kept (hk q.1 (out2 k q hq).1 (out2 k q hq).2)
  · by_cases hl : j < u.length
    · rw [List.getElem?_append_left hl] at hj
      exact (out1 i x hi).2 (e ▸ in1 j z hj)
    · rw [List.getElem?_append_right (by omega)] at hj
      have hl2 : j - u.length < w2.length := (List.getElem?_eq_some_iff.mp hj).1
      exact va_D_x hD hi (show (wc ++ w2)[wc.length + (j - u.length)]? = some z by rw [List.getElem?_append_right (Nat.le_add_right _ _), Nat.add_sub_cancel_left]; exact hj) e
theorem zfree (hW : zW G A s.heap H locs (w1 ++ (wc ++ w2))) (hA : ∀ q, s.heap.size ≤ q → A q) : ∀ q, va_A wc H.size q → A q := fun q h => h.elim (fun ⟨k, e, h⟩ => (va_D_l (va_D_r hW.2.1)).2 k (q, e) h) (fun h => hA q (Nat.le_trans hW.2.2.1 h))
/-- what a callee finds -/
theorem zpre (B : zM p s m args c cc nL own G A) (hW : zW G A s.heap H locs (w1 ++ (wc ++ w2))) {av : List Value} : ∀ U : State, U.heap = H → s.WarmedH U.vm → zPc G H.size av wc av.toArray U := fun U hU hWm =>
  ⟨rfl, by rw [hU], by rw [hU]; exact va_P_l (va_P_r hW.1), (va_D_l (va_D_r hW.2.1)).weaken (fun _ _ _ _ => trivial), B.E.go (Or.inl hWm) (fun a h1 h2 => by rw [hU]; exact hW.2.2.2.1 a h1 h2) (zfree hW B.nA)⟩
/-- the words and the room of a call -/
theorem zCB (ts : ∀ w ∈ zAll, w.before args s = true) (hc : Cond.code y bytes maxL ret ∈ zAll) (hi : Cond.initialized y.cls ∈ zAll) (hl : Cond.methodLink own idx y ∈ zAll)
    (hd : y.cls ≠ "java/lang/invoke/MethodHandle" ∧ y.cls ≠ "java/lang/invoke/VarHandle" ∧ (parseMethodDescriptor y.desc).map (fun d => d.parameters.length) = some n) (hR : d + 1 ≤ R.frames ∧ 8 + (maxL + 11) + 80 * d ≤ R.locals) :
    CallB R s args own idx y bytes maxL ret (Cond.code y bytes maxL ret :: zAll) (zRm d mc ms) mc ms n :=
  callB_of (Ts := zAll) n ts (zGI hc) rfl rfl rfl (ts _ hi) (ts _ hl) hd hR
theorem zback (B : zM p s m args c cc nL own G A) (hW : zW G A s.heap H locs (w1 ++ (wc ++ w2))) {st0 : List Value} {a : Array Value}
    (hr : va_Run p l e R s m args below meth c H locs cells slots mc ms (F0 m pc ls st0) rest (zQ G (va_A wc H.size) post a) (va_A wc H.size))
    (kk : ∀ (v : Option Value) (u : va_W) (H1 : Heap) (locs1 : List Loc), post v u → zW G A s.heap H1 locs1 (w1 ++ (u ++ w2)) → W p l e R s m args below meth c H1 locs1 (cells + mc) (slots + ms) Q (F0 m (pc + 3) ls (v.toList ++ rest))) :
    W p l e R s m args below meth c H locs cells slots Q (F0 m pc ls st0) := by
  have hF := zfree hW B.nA
  intro T hT X
  obtain ⟨v, st₀, t, T', L, h0, X', hL, e1, e2, ⟨⟨v', u, hv, hp, hPu, hDu⟩, hz, hk⟩, st⟩ := hr T hT X
  cases hv
  rw [h0] at hz hk
  obtain ⟨t2, a1, b1⟩ := kk v u T'.heap (locs ++ L) hp (zjoin hW (fun q h1 h2 => by rw [e1]; exact hk q h1 h2) hF (by rw [e1]; exact hPu) hDu
    ⟨Nat.le_trans hW.2.2.1 (by rw [e1]; exact hz), fun q h1 h2 => by rw [e1, hk q (Nat.lt_of_lt_of_le h1 hW.2.2.1) (fun z => h2 (hF q z))]; exact hW.2.2.2.1 q h1 h2, fun q hq => by
      rcases List.mem_append.mp hq with h | h
      · exact hW.2.2.2.2 q h
      · exact hF _ (hL q h)⟩) T' rfl X'
  exact ⟨t2, st t2 a1, b1⟩
/-- what the tables say of a callee: its code, its class; found by class and name (virtual), or static -/
def zYv (y : MethodName) (bytes : ByteArray) (maxL : Nat) (ret : Option FieldType) (n : Nat) : Prop := Cond.code y bytes maxL ret ∈ zAll ∧ Cond.initialized y.cls ∈ zAll ∧ (y.cls ≠ "java/lang/invoke/MethodHandle" ∧ y.cls ≠ "java/lang/invoke/VarHandle" ∧ (parseMethodDescriptor y.desc).map (fun d => d.parameters.length) = some n) ∧ Cond.instanceMethod y ∈ zAll ∧ Cond.selects y.cls y y ∈ zAll
def zYs (y : MethodName) (bytes : ByteArray) (maxL : Nat) (ret : Option FieldType) (n : Nat) : Prop := Cond.code y bytes maxL ret ∈ zAll ∧ Cond.initialized y.cls ∈ zAll ∧ (y.cls ≠ "java/lang/invoke/MethodHandle" ∧ y.cls ≠ "java/lang/invoke/VarHandle" ∧ (parseMethodDescriptor y.desc).map (fun d => d.parameters.length) = some n) ∧ Cond.static y ∈ zAll
def zYi (y : MethodName) (bytes : ByteArray) (maxL : Nat) (n : Nat) : Prop := Cond.code y bytes maxL none ∈ zAll ∧ Cond.initialized y.cls ∈ zAll ∧ (y.cls ≠ "java/lang/invoke/MethodHandle" ∧ y.cls ≠ "java/lang/invoke/VarHandle" ∧ (parseMethodDescriptor y.desc).map (fun d => d.parameters.length) = some n) ∧ Cond.instanceMethod y ∈ zAll ∧ y.name = "<init>"
/-- x.y(..) on an object of y's own class, whose world is wc -/
theorem zcV (B : zM p s m args c cc nL own G A) (hW : zW G A s.heap H locs (w1 ++ (wc ++ w2))) (hM : zC l y bytes maxL ret d mc ms G (.ref b :: As) wc post) (Y : zYv y bytes maxL ret n) (hl : Cond.methodLink own idx y ∈ zAll)
    (q0 : Nat) {ci : Nat} {fs : List Value} {r : vw_C} (he : wc[q0]? = some (b, .inr (ci, fs))) (hcl : vwCl[ci]? = some r) (hcn : r.1 = y.cls) {st0 : List Value}
    (hn : As.length = n) (hsz : ls.size = nL) (hst : st0 = As.reverse ++ .ref b :: rest) (hrm : (rest.map fun v => v.category).sum ≤ 8) (hR : d + 1 ≤ R.frames ∧ 8 + (maxL + 11) + 80 * d ≤ R.locals) (hf : cells + mc ≤ R.cells ∧ slots + ms ≤ R.slots) (hdg : decode cc pc = .ok (.invokevirtual idx, 3))
    (kk : ∀ (v : Option Value) (u : va_W) (H1 : Heap) (locs1 : List Loc), post v u → zW G A s.heap H1 locs1 (w1 ++ (u ++ w2)) → W p l e R s m args below meth c H1 locs1 (cells + mc) (slots + ms) Q (F0 m (pc + 3) ls (v.toList ++ rest))) :
    W p l e R s m args below meth c H locs cells slots Q (F0 m pc ls st0) := by
  obtain ⟨Y1, Y2, Y3, Y4, Y5⟩ := Y
  subst hst
  exact zback B hW (va_runV (Ts := zAll) (As := As) (rest := rest) (C := y.cls) ⟨B.x, B.b, B.ml, B.o, B.ts⟩ (hM H.size) ⟨zCB B.ts Y1 Y2 hl Y3 hR, B.ts _ Y4, B.ts _ Y5⟩ ⟨zPc_blind _ _ _ _, by rw [← hcn]; exact va_recv B.K (va_P_l (va_P_r hW.1)) hcl he, zpre B hW⟩ rfl hn hsz rfl (lv_room hrm) hdg hf) kk
/-- a static method, called by its own class or another -/
theorem zcS (B : zM p s m args c cc nL own G A) (hW : zW G A s.heap H locs (w1 ++ (wc ++ w2))) (hM : zC l y bytes maxL ret d mc ms G As wc post) (Y : zYs y bytes maxL ret n) (hl : Cond.methodLink own idx y ∈ zAll) {st0 : List Value}
    (hn : As.length = n) (hsz : ls.size = nL) (hst : st0 = As.reverse ++ rest) (hrm : (rest.map fun v => v.category).sum ≤ 8) (hR : d + 1 ≤ R.frames ∧ 8 + (maxL + 11) + 80 * d ≤ R.locals) (hf : cells + mc ≤ R.cells ∧ slots + ms ≤ R.slots) (hdg : decode cc pc = .ok (.invokestatic idx, 3))
    (kk : ∀ (v : Option Value) (u : va_W) (H1 : Heap) (locs1 : List Loc), post v u → zW G A s.heap H1 locs1 (w1 ++ (u ++ w2)) → W p l e R s m args below meth c H1 locs1 (cells + mc) (slots + ms) Q (F0 m (pc + 3) ls (v.toList ++ rest))) :
    W p l e R s m args below meth c H locs cells slots Q (F0 m pc ls st0) := by
  obtain ⟨Y1, Y2, Y3, Y4⟩ := Y
  subst hst
  exact zback B hW (va_runS (Ts := zAll) (As := As) (rest := rest) ⟨B.x, B.b, B.ml, B.o, B.ts⟩ (hM H.size) ⟨zCB B.ts Y1 Y2 hl Y3 hR, B.ts _ Y4⟩ ⟨zPc_blind _ _ _ _, zpre B hW⟩ rfl hn hsz rfl (lv_room hrm) hdg hf) kk
/-- a private static of a nest mate -/
theorem zcSN (B : zM p s m args c cc nL own G A) (hW : zW G A s.heap H locs (w1 ++ (wc ++ w2))) (hM : zC l y bytes maxL ret d mc ms G As wc post) (Y : zYs y bytes maxL ret n) (hl : Cond.methodLinkNest own idx y host ∈ zNest) {st0 : List Value}
    (hn : As.length = n) (hsz : ls.size = nL) (hst : st0 = As.reverse ++ rest) (hrm : (rest.map fun v => v.category).sum ≤ 8) (hR : d + 1 ≤ R.frames ∧ 8 + (maxL + 11) + 80 * d ≤ R.locals) (hf : cells + mc ≤ R.cells ∧ slots + ms ≤ R.slots) (hdg : decode cc pc = .ok (.invokestatic idx, 3))
    (kk : ∀ (v : Option Value) (u : va_W) (H1 : Heap) (locs1 : List Loc), post v u → zW G A s.heap H1 locs1 (w1 ++ (u ++ w2)) → W p l e R s m args below meth c H1 locs1 (cells + mc) (slots + ms) Q (F0 m (pc + 3) ls (v.toList ++ rest))) :
    W p l e R s m args below meth c H locs cells slots Q (F0 m pc ls st0) := by
  obtain ⟨Y1, Y2, Y3, Y4⟩ := Y
  subst hst
  exact zback B hW (va_runSN (Ts := zAll) (As := As) (rest := rest) ⟨B.x, B.b, B.ml, B.o, B.ts⟩ (hM H.size) ⟨va_cnB n B.ts (zGI Y1) rfl rfl rfl (B.nw hl) (B.ts _ Y2) Y3 hR, B.ts _ Y4, trivial⟩ ⟨zPc_blind _ _ _ _, zpre B hW⟩ rfl hn hsz rfl (lv_room hrm) hdg hf) kk
/-- a constructor -/
theorem zcI (B : zM p s m args c cc nL own G A) (hW : zW G A s.heap H locs (w1 ++ (wc ++ w2))) (hM : zC l y bytes maxL none d mc ms G (.ref b :: As) wc post) (Y : zYi y bytes maxL n) (hl : Cond.methodLink own idx y ∈ zAll) {st0 : List Value}
    (hn : As.length = n) (hsz : ls.size = nL) (hst : st0 = As.reverse ++ .ref b :: rest) (hrm : (rest.map fun v => v.category).sum ≤ 8) (hR : d + 1 ≤ R.frames ∧ 8 + (maxL + 11) + 80 * d ≤ R.locals) (hf : cells + mc ≤ R.cells ∧ slots + ms ≤ R.slots) (hdg : decode cc pc = .ok (.invokespecial idx, 3))
    (kk : ∀ (v : Option Value) (u : va_W) (H1 : Heap) (locs1 : List Loc), post v u → zW G A s.heap H1 locs1 (w1 ++ (u ++ w2)) → W p l e R s m args below meth c H1 locs1 (cells + mc) (slots + ms) Q (F0 m (pc + 3) ls (v.toList ++ rest))) :
    W p l e R s m args below meth c H locs cells slots Q (F0 m pc ls st0) := by
  obtain ⟨Y1, Y2, Y3, Y4, Y5⟩ := Y
  subst hst
  exact zback B hW (va_runI (Ts := zAll) (As := As) (rest := rest) ⟨B.x, B.b, B.ml, B.o, B.ts⟩ (hM H.size) ⟨zCB B.ts Y1 Y2 hl Y3 hR, Y5, B.ts _ Y4⟩ ⟨zPc_blind _ _ _ _, zpre B hW⟩ rfl hn hsz rfl (lv_room hrm) hdg hf) kk
/-- a private constructor of a nest mate -/
theorem zcIN (B : zM p s m args c cc nL own G A) (hW : zW G A s.heap H locs (w1 ++ (wc ++ w2))) (hM : zC l y bytes maxL none d mc ms G (.ref b :: As) wc post) (Y : zYi y bytes maxL n) (hl : Cond.methodLinkNest own idx y host ∈ zNest) {st0 : List Value}
    (hn : As.length = n) (hsz : ls.size = nL) (hst : st0 = As.reverse ++ .ref b :: rest) (hrm : (rest.map fun v => v.category).sum ≤ 8) (hR : d + 1 ≤ R.frames ∧ 8 + (maxL + 11) + 80 * d ≤ R.locals) (hf : cells + mc ≤ R.cells ∧ slots + ms ≤ R.slots) (hdg : decode cc pc = .ok (.invokespecial idx, 3))
    (kk : ∀ (v : Option Value) (u : va_W) (H1 : Heap) (locs1 : List Loc), post v u → zW G A s.heap H1 locs1 (w1 ++ (u ++ w2)) → W p l e R s m args below meth c H1 locs1 (cells + mc) (slots + ms) Q (F0 m (pc + 3) ls (v.toList ++ rest))) :
    W p l e R s m args below meth c H locs cells slots Q (F0 m pc ls st0) := by
  obtain ⟨Y1, Y2, Y3, Y4, Y5⟩ := Y
  subst hst
  exact zback B hW (va_runIN (Ts := zAll) (As := As) (rest := rest) ⟨B.x, B.b, B.ml, B.o, B.ts⟩ (hM H.size) ⟨va_cnB n B.ts (zGI Y1) rfl rfl rfl (B.nw hl) (B.ts _ Y2) Y3 hR, Y5, B.ts _ Y4⟩ ⟨zPc_blind _ _ _ _, zpre B hW⟩ rfl hn hsz rfl (lv_room hrm) hdg hf) kk
/-! loops from 0 to N -/
theorem zloop {P : Nat → Prop} (N : Nat) (hx : P N) (hs : ∀ i, i < N → P (i + 1) → P i) : ∀ i, i ≤ N → P i := by
  have key : ∀ k i, i + k = N → P i := by
    intro k
    induction k with
    | zero => intro i h; rw [show i = N by omega]; exact hx
    | succ k ih => intro i h; exact hs i (by omega) (ih (i + 1) (by omega))
  exact fun i h => key (N - i) i (by omega)
theorem zge {b : Int32} {N : Nat} (h : b = nI N) : b ≤ nI N := by rw [h]; exact Int32.le_refl _
theorem znle {b : Int32} {N i : Nat} (h : b = nI N) (hi : i < N) (hN : N < 2 ^ 31) : ¬ b ≤ nI i := by rw [h]; exact nI_ge hi hN
end ZK
end
section
/-! worlds by blocks; objects of a kind in any number -/
def zcat : List va_W → va_W
  | [] => []
  | [a] => a
  | a :: b :: l => a ++ zcat (b :: l)
theorem zcat_fl : ∀ bs : List va_W, zcat bs = bs.flatten
  | [] => rfl
  | [a] => by rw [zcat, List.flatten_cons, List.flatten_nil, List.append_nil]
  | a :: b :: l => by
    show a ++ zcat (b :: l) = _
    rw [zcat_fl (b :: l)]
    rfl
def zAp (x y : Nat × va_E) : Prop := x.1 ≠ y.1
theorem zD_iff {A : Nat → Prop} {w : va_W} : va_D A w ↔ w.Pairwise zAp ∧ ∀ q ∈ w, A q.1 := by
  constructor
  · intro h
    refine ⟨List.pairwise_iff_getElem.mpr fun i j hi hj hij e => ?_, fun q hq => ?_⟩
    · have := h.1 i j w[i] w[j] (List.getElem?_eq_getElem hi) (List.getElem?_eq_getElem hj) e
      omega
    · obtain ⟨k, hk⟩ := List.getElem?_of_mem hq
      exact h.2 k q hk
  · intro h
    refine ⟨fun i j x y hi hj e => ?_, fun k q hq => h.2 q (List.mem_of_getElem? hq)⟩
    obtain ⟨hi1, hi2⟩ := List.getElem?_eq_some_iff.mp hi
    obtain ⟨hj1, hj2⟩ := List.getElem?_eq_some_iff.mp hj
    have hp := List.pairwise_iff_getElem.mp h.1
    rcases Nat.lt_trichotomy i j with q | q | q
    · exact absurd (by rw [hi2, hj2]; exact e) (hp i j hi1 hj1 q)
    · exact q
    · exact absurd (by rw [hi2, hj2]; exact e.symm) (hp j i hj1 hi1 q)
theorem zP_iff {D : va_G} {cl : List vw_C} {w : va_W} {H : Heap} : va_P D cl w H ↔ ∀ q ∈ w, va_at D cl q H := by
  constructor
  · intro h q hq
    obtain ⟨k, hk⟩ := List.getElem?_of_mem hq
    exact h k q hk
  · exact fun h k q hk => h q (List.mem_of_getElem? hk)
/-- some of its blocks, in any order -/
theorem zW.blk {G : zG} {A : Nat → Prop} {H0 H : Heap} {locs : List Loc} (bs bs' : List va_W) (h : zW G A H0 H locs (zcat bs)) (is : List Nat) (hn : va_nd is = true) (hs : is.map (fun i => bs[i]?) = bs'.map some) : zW G A H0 H locs (zcat bs') := by
  rw [zcat_fl] at h ⊢
  obtain ⟨hP, hD, hS⟩ := h
  have hP := zP_iff.mp hP
  obtain ⟨hD1, hD2⟩ := zD_iff.mp hD
  have hl : ∀ (k : Nat) (b : va_W), bs'[k]? = some b → ∃ i : Nat, is[k]? = some i ∧ bs[i]? = some b := by
    intro k b hk
    have h1 : (is.map (fun i => bs[i]?))[k]? = some (some b) := by rw [hs, List.getElem?_map, hk]; rfl
    rw [List.getElem?_map] at h1
    cases hi : is[k]? with
    | none => rw [hi] at h1; cases h1
    | some i => rw [hi] at h1; exact ⟨i, rfl, Option.some.inj h1⟩
  have hm : ∀ q, q ∈ bs'.flatten → q ∈ bs.flatten := by
    intro q hq
    obtain ⟨b, hb, hq⟩ := List.mem_flatten.mp hq
    obtain ⟨k, hk⟩ := List.getElem?_of_mem hb
    obtain ⟨i, -, hi⟩ := hl k b hk
    exact List.mem_flatten.mpr ⟨b, List.mem_of_getElem? hi, hq⟩
  refine ⟨zP_iff.mpr fun q hq => hP q (hm q hq), zD_iff.mpr ⟨?_, fun q hq => hD2 q (hm q hq)⟩, hS⟩
  obtain ⟨h1, h2⟩ := List.pairwise_flatten.mp hD1
  have hp2 := List.pairwise_iff_getElem.mp h2
  refine List.pairwise_flatten.mpr ⟨fun b hb => ?_, List.pairwise_iff_getElem.mpr fun k j hk hj hkj x hx y hy => ?_⟩
  · obtain ⟨k, hk⟩ := List.getElem?_of_mem hb
    obtain ⟨i, -, hi⟩ := hl k b hk
    exact h1 b (List.mem_of_getElem? hi)
  · obtain ⟨i1, g1, e1⟩ := hl k _ (List.getElem?_eq_getElem hk)
    obtain ⟨i2, g2, e2⟩ := hl j _ (List.getElem?_eq_getElem hj)
    obtain ⟨b1, c1⟩ := List.getElem?_eq_some_iff.mp e1
    obtain ⟨b2, c2⟩ := List.getElem?_eq_some_iff.mp e2
    have hne : i1 ≠ i2 := by
      intro e
      subst e
      exact absurd (va_nd_inj is hn k j i1 g1 g2) (Nat.ne_of_lt hkj)
    rw [← c1] at hx
    rw [← c2] at hy
    rcases Nat.lt_or_gt_of_ne hne with q | q
    · exact hp2 i1 i2 b1 b2 q x hx y hy
    · exact fun e => hp2 i2 i1 b2 b1 q y hy x hx e.symm
/-- objects of a kind: n of them, at the addresses a, with the contents c -/
def sgW (n : Nat) (a : Nat → Nat) (c : Nat → va_E) : va_W := (List.range n).map (fun i => (a i, c i))
theorem sg_len {n : Nat} {a : Nat → Nat} {c : Nat → va_E} : (sgW n a c).length = n := by
  unfold sgW
  rw [List.length_map, List.length_range]
theorem sg_at {n i : Nat} {a : Nat → Nat} {c : Nat → va_E} (h : i < n) : (sgW n a c)[i]? = some (a i, c i) := by
  unfold sgW
  rw [List.getElem?_map, List.getElem?_range h]
  rfl
theorem sg_ext {n m : Nat} {a b : Nat → Nat} {c d : Nat → va_E} (h : n = m) (h1 : ∀ i, i < n → a i = b i) (h2 : ∀ i, i < n → c i = d i) : sgW n a c = sgW m b d := by
  subst h
  unfold sgW
  refine List.map_congr_left fun i hi => ?_
  have := List.mem_range.mp hi
  rw [h1 i this, h2 i this]
theorem sg_set {n i : Nat} {a : Nat → Nat} {c d : Nat → va_E} {e : va_E} (h : i < n) (he : d i = e) (hd : ∀ j, j < n → j ≠ i → d j = c j) : (sgW n a c).set i (a i, e) = sgW n a d := by
  apply List.ext_getElem?
  intro k
  rw [List.getElem?_set]
  by_cases hk : i = k
  · subst hk
    rw [if_pos rfl, sg_len, if_pos h, sg_at h, he]
  · rw [if_neg hk]
    by_cases hn : k < n
    · rw [sg_at hn, sg_at hn, hd k hn (fun z => hk z.symm)]
    · rw [List.getElem?_eq_none (by rw [sg_len]; omega), List.getElem?_eq_none (by rw [sg_len]; omega)]
theorem sg_push {n q : Nat} {a b : Nat → Nat} {c d : Nat → va_E} {e : va_E} (hq : b n = q) (he : d n = e) (hb : ∀ j, j < n → b j = a j) (hd : ∀ j, j < n → d j = c j) : sgW n a c ++ [(q, e)] = sgW (n + 1) b d := by
  unfold sgW
  rw [List.range_succ, List.map_append]
  refine congr (congrArg _ ?_) ?_
  · refine List.map_congr_left fun i hi => ?_
    have := List.mem_range.mp hi
    rw [hb i this, hd i this]
  · rw [List.map_singleton, hq, he]
theorem sg_0 {a : Nat → Nat} {c : Nat → va_E} : sgW 0 a c = [] := rfl
/-- a place behind k cells -/
theorem sg_he {S : va_W} {k i : Nat} {q : Nat × va_E} (cs : va_W) (hk : cs.length = k) (h : S[i]? = some q) : (cs ++ S)[k + i]? = some q := by
  subst hk
  rw [List.getElem?_append_right (Nat.le_add_right _ _), Nat.add_sub_cancel_left]
  exact h
theorem sg_in {S T : va_W} {i : Nat} {q : Nat × va_E} (h : S[i]? = some q) : (S ++ T)[i]? = some q := by
  rw [List.getElem?_append_left (List.getElem?_eq_some_iff.mp h).1]
  exact h
theorem sg_hset {S S' : va_W} {k i : Nat} {q : Nat × va_E} (cs : va_W) (hk : cs.length = k) (h : S.set i q = S') : (cs ++ S).set (k + i) q = cs ++ S' := by
  subst hk
  rw [List.set_append_right _ _ (Nat.le_add_right _ _), Nat.add_sub_cancel_left, h]
theorem sg_iset {S S' T : va_W} {i : Nat} {q : Nat × va_E} (hi : i < S.length) (h : S.set i q = S') : (S ++ T).set i q = S' ++ T := by
  rw [List.set_append_left _ _ hi, h]
theorem upd_o {f : Nat → Int32} {i j : Nat} {v : Int32} (h : j ≠ i) : upd f i v j = f j := if_neg h
theorem upd_i {f : Nat → Int32} {i : Nat} {v : Int32} : upd f i v i = v := if_pos rfl
end
