/-! the loop -/
theorem zlc {L kc : Nat} (hL : L ≤ 3072) (hk : kc ≤ 512) : (nI L - (6 : Int32)) < nI (6 * kc) ↔ L < 6 * kc + 6 := by
  rcases Nat.lt_or_ge L 6 with q | q
  · have h1 : (nI (6 * kc)).toInt = ((6 * kc : Nat) : Int) := nI_toInt (by omega)
    refine ⟨fun _ => by omega, fun _ => ?_⟩
    rw [zlt, h1]
    have h2 : (nI L - (6 : Int32)).toInt < 0 := by
      rcases (by omega : L = 0 ∨ L = 1 ∨ L = 2 ∨ L = 3 ∨ L = 4 ∨ L = 5) with rfl | rfl | rfl | rfl | rfl | rfl <;> decide
    omega
  · obtain ⟨k, rfl⟩ : ∃ k, L = k + 6 := ⟨L - 6, by omega⟩
    have e : nI (k + 6) - (6 : Int32) = nI k := by
      rw [show nI (k + 6) = nI k + (6 : Int32) from (nI_add k 6).symm]
      exact Int32.add_sub_cancel _ _
    rw [e]
    constructor
    · intro h
      rcases Nat.lt_or_ge k (6 * kc) with z | z
      · omega
      · rcases Nat.lt_or_eq_of_le z with y | y
        · exact absurd (nI_lt y (by omega)) (fun z2 => Int32.lt_irrefl (Int32.lt_trans h z2))
        · rw [y] at h; exact absurd h Int32.lt_irrefl
    · intro h
      exact nI_lt (by omega) (by omega)
set_option maxHeartbeats 4000000 in
set_option maxRecDepth 100000 in
theorem zbody {p : Program} {l : Launch} {e : Env} {s : State} {m : MethodId} {args : Array Value} {below : List Frame} {meth : Method} {c : Code} {Q : State → Prop} {G : zG} {A : Nat → Prop} {b L : Nat} {xs : Nat → Int32} (hst : l.stackTraces = false) (B : zM p s m args c cL_law 10 RL G A) (hX : va_X b L xs s s.heap) (hbl : b < s.heap.size) (hbA : ¬ A b) (hL3 : L ≤ 3072) (kend : ∀ (H : Heap) (locs : List Loc) (ls : Array Slot) (cells slots : Nat), va_S A s.heap H locs → cells ≤ 876995 → slots ≤ 6364767 → W p l e room_1 s m args below meth c H locs cells slots Q (F0 m 1396 ls [])) : ∀ n kc : Nat, kc + n = 512 → zGo p l e s m args below meth c Q G A b kc := by
  have hx := B.x
  have hb := B.b
  intro n
  induction n with
  | zero =>
    intro kc hk h0 hm ho hd q1 q2 q3 q4 ad0 ad adl ado ada ads adu adc bd bdl bdo bda bds bdu bdc adz ady adx adm ac1 ac2 ac3 ac4 aa a1 a2 a3 a4 aq wo la ou al se su sc vwo vla vou val vse vsu vsc lo ld md ml l1 l2 l3 l4 te sb so wa r r1 r2 r3 r4 H locs ls cells slots I hc hs hW hl
    have hrm := zrmc (kc := kc) (by omega) (zI_b I)
    refine lv_iload hx hb dL_law_28 (lv_at hl 5 rfl) ?_
    refine lv_aload_n hx hb dL_law_30 rfl (lv_at hl 0 rfl) ?_
    refine zslen B hX hbl hbA hW.2.2 dL_law_31 ?_
    refine lv_bipush (v := (6 : Int32)) hx hb dL_law_32 (by decide) ?_
    refine lv_isub hx hb dL_law_34 ?_
    exact lv_icmp_gt (tgt := 1396) hx hb dL_law_35 (by decide) (fun _ => kend _ _ _ _ _ hW.2.2 (by omega) (by omega)) (fun z => absurd ((zlc hL3 (by omega)).mpr (by omega)) z)
  | succ n ih =>
    intro kc hk h0 hm ho hd q1 q2 q3 q4 ad0 ad adl ado ada ads adu adc bd bdl bdo bda bds bdu bdc adz ady adx adm ac1 ac2 ac3 ac4 aa a1 a2 a3 a4 aq wo la ou al se su sc vwo vla vou val vse vsu vsc lo ld md ml l1 l2 l3 l4 te sb so wa r r1 r2 r3 r4 H locs ls cells slots I hc hs hW hl
    have hrm := zrmc (kc := kc) (by omega) (zI_b I)
    have go : zGo p l e s m args below meth c Q G A b (kc + 1) := ih (kc + 1) (by omega)
    refine lv_iload hx hb dL_law_28 (lv_at hl 5 rfl) ?_
    refine lv_aload_n hx hb dL_law_30 rfl (lv_at hl 0 rfl) ?_
    refine zslen B hX hbl hbA hW.2.2 dL_law_31 ?_
    refine lv_bipush (v := (6 : Int32)) hx hb dL_law_32 (by decide) ?_
    refine lv_isub hx hb dL_law_34 ?_
    refine lv_icmp_gt (tgt := 1396) hx hb dL_law_35 (by decide) (fun _ => kend _ _ _ _ _ hW.2.2 (by omega) (by omega)) (fun z => ?_)
    have hL6 : 6 * kc + 6 ≤ L := by
      rcases Nat.lt_or_ge L (6 * kc + 6) with q | q
      · exact absurd ((zlc hL3 (by omega)).mpr q) z
      · exact q
    clear z
    have kout : W p l e room_1 s m args below meth c H locs cells slots Q (F0 m 1390 ls []) := zturn B hl (fun ls2 hl2 => go h0 hm ho hd q1 q2 q3 q4 ad0 ad adl ado ada ads adu adc bd bdl bdo bda bds bdu bdc adz ady adx adm ac1 ac2 ac3 ac4 aa a1 a2 a3 a4 aq wo la ou al se su sc vwo vla vou val vse vsu vsc lo ld md ml l1 l2 l3 l4 te sb so wa r r1 r2 r3 r4 H locs ls2 _ _ ⟨I.1, by have := I.2.1; omega, I.2.2⟩ (zCb_up hc (by omega) rfl rfl rfl rfl) (zSb_up hs (by omega) rfl rfl rfl rfl) hW hl2)
    refine lv_aload_n hx hb dL_law_38 rfl (lv_at hl 0 rfl) ?_
    refine lv_iload hx hb dL_law_39 (lv_at hl 5 rfl) ?_
    refine zsld B hX hbl hbA hW (6 * kc) rfl (by omega) (by omega) dL_law_41 ?_
    refine lv_bipush (v := (63 : Int32)) hx hb dL_law_42 (by decide) ?_
    refine lv_iand hx hb dL_law_44 ?_
    rcases pk_ix (xs (6 * kc) &&& (63 : Int32)) (n := 36) (by decide) with h | h | ⟨i, hi, hei⟩
    · exact lv_tableOut (tgt := 1390) hx hb dL_law_45 (Or.inl (zlt.mp h)) (by decide) kout
    · have h1 := zle.mp h
      have h2 : (nI 36).toInt = 36 := by decide
      exact lv_tableOut (tgt := 1390) hx hb dL_law_45 (Or.inr (by show (35 : Int) < (xs (6 * kc) &&& (63 : Int32)).toInt; omega)) (by decide) kout
    rw [hei]
    clear hei kout
    rcases (by omega : i = 0 ∨ i = 1 ∨ i = 2 ∨ i = 3 ∨ i = 4 ∨ i = 5 ∨ i = 6 ∨ i = 7 ∨ i = 8 ∨ i = 9 ∨ i = 10 ∨ i = 11 ∨ i = 12 ∨ i = 13 ∨ i = 14 ∨ i = 15 ∨ i = 16 ∨ i = 17 ∨ i = 18 ∨ i = 19 ∨ i = 20 ∨ i = 21 ∨ i = 22 ∨ i = 23 ∨ i = 24 ∨ i = 25 ∨ i = 26 ∨ i = 27 ∨ i = 28 ∨ i = 29 ∨ i = 30 ∨ i = 31 ∨ i = 32 ∨ i = 33 ∨ i = 34 ∨ i = 35) with rfl | rfl | rfl | rfl | rfl | rfl | rfl | rfl | rfl | rfl | rfl | rfl | rfl | rfl | rfl | rfl | rfl | rfl | rfl | rfl | rfl | rfl | rfl | rfl | rfl | rfl | rfl | rfl | rfl | rfl | rfl | rfl | rfl | rfl | rfl | rfl
    · exact lv_tableIn (x := nI 0) (tgt := 204) hx hb dL_law_45 (by decide) (by decide) rfl (by decide) (b_setFuel hst B hX hbl hbA hL6 (by omega) (by omega) go h0 hm ho hd q1 q2 q3 q4 ad0 ad adl ado ada ads adu adc bd bdl bdo bda bds bdu bdc adz ady adx adm ac1 ac2 ac3 ac4 aa a1 a2 a3 a4 aq wo la ou al se su sc vwo vla vou val vse vsu vsc lo ld md ml l1 l2 l3 l4 te sb so wa r r1 r2 r3 r4 I hc hs hW hl)
    · exact lv_tableIn (x := nI 1) (tgt := 256) hx hb dL_law_45 (by decide) (by decide) rfl (by decide) (b_light hst B hX hbl hbA hL6 (by omega) (by omega) go h0 hm ho hd q1 q2 q3 q4 ad0 ad adl ado ada ads adu adc bd bdl bdo bda bds bdu bdc adz ady adx adm ac1 ac2 ac3 ac4 aa a1 a2 a3 a4 aq wo la ou al se su sc vwo vla vou val vse vsu vsc lo ld md ml l1 l2 l3 l4 te sb so wa r r1 r2 r3 r4 I hc hs hW hl)
    · exact lv_tableIn (x := nI 2) (tgt := 308) hx hb dL_law_45 (by decide) (by decide) rfl (by decide) (b_setWind hst B hX hbl hbA hL6 (by omega) (by omega) go h0 hm ho hd q1 q2 q3 q4 ad0 ad adl ado ada ads adu adc bd bdl bdo bda bds bdu bdc adz ady adx adm ac1 ac2 ac3 ac4 aa a1 a2 a3 a4 aq wo la ou al se su sc vwo vla vou val vse vsu vsc lo ld md ml l1 l2 l3 l4 te sb so wa r r1 r2 r3 r4 I hc hs hW hl)
    · exact lv_tableIn (x := nI 3) (tgt := 360) hx hb dL_law_45 (by decide) (by decide) rfl (by decide) (b_setRain hst B hX hbl hbA hL6 (by omega) (by omega) go h0 hm ho hd q1 q2 q3 q4 ad0 ad adl ado ada ads adu adc bd bdl bdo bda bds bdu bdc adz ady adx adm ac1 ac2 ac3 ac4 aa a1 a2 a3 a4 aq wo la ou al se su sc vwo vla vou val vse vsu vsc lo ld md ml l1 l2 l3 l4 te sb so wa r r1 r2 r3 r4 I hc hs hW hl)
    · exact lv_tableIn (x := nI 4) (tgt := 388) hx hb dL_law_45 (by decide) (by decide) rfl (by decide) (b_digLine hst B hX hbl hbA hL6 (by omega) (by omega) go h0 hm ho hd q1 q2 q3 q4 ad0 ad adl ado ada ads adu adc bd bdl bdo bda bds bdu bdc adz ady adx adm ac1 ac2 ac3 ac4 aa a1 a2 a3 a4 aq wo la ou al se su sc vwo vla vou val vse vsu vsc lo ld md ml l1 l2 l3 l4 te sb so wa r r1 r2 r3 r4 I hc hs hW hl)
    · exact lv_tableIn (x := nI 5) (tgt := 440) hx hb dL_law_45 (by decide) (by decide) rfl (by decide) (b_addSensor hst B hX hbl hbA hL6 (by omega) (by omega) go h0 hm ho hd q1 q2 q3 q4 ad0 ad adl ado ada ads adu adc bd bdl bdo bda bds bdu bdc adz ady adx adm ac1 ac2 ac3 ac4 aa a1 a2 a3 a4 aq wo la ou al se su sc vwo vla vou val vse vsu vsc lo ld md ml l1 l2 l3 l4 te sb so wa r r1 r2 r3 r4 I hc hs hW hl)
    · exact lv_tableIn (x := nI 6) (tgt := 480) hx hb dL_law_45 (by decide) (by decide) rfl (by decide) (b_read hst B hX hbl hbA hL6 (by omega) (by omega) go h0 hm ho hd q1 q2 q3 q4 ad0 ad adl ado ada ads adu adc bd bdl bdo bda bds bdu bdc adz ady adx adm ac1 ac2 ac3 ac4 aa a1 a2 a3 a4 aq wo la ou al se su sc vwo vla vou val vse vsu vsc lo ld md ml l1 l2 l3 l4 te sb so wa r r1 r2 r3 r4 I hc hs hW hl)
    · exact lv_tableIn (x := nI 7) (tgt := 520) hx hb dL_law_45 (by decide) (by decide) rfl (by decide) (b_trust hst B hX hbl hbA hL6 (by omega) (by omega) go h0 hm ho hd q1 q2 q3 q4 ad0 ad adl ado ada ads adu adc bd bdl bdo bda bds bdu bdc adz ady adx adm ac1 ac2 ac3 ac4 aa a1 a2 a3 a4 aq wo la ou al se su sc vwo vla vou val vse vsu vsc lo ld md ml l1 l2 l3 l4 te sb so wa r r1 r2 r3 r4 I hc hs hW hl)
    · exact lv_tableIn (x := nI 8) (tgt := 548) hx hb dL_law_45 (by decide) (by decide) rfl (by decide) (b_stateOf hst B hX hbl hbA hL6 (by omega) (by omega) go h0 hm ho hd q1 q2 q3 q4 ad0 ad adl ado ada ads adu adc bd bdl bdo bda bds bdu bdc adz ady adx adm ac1 ac2 ac3 ac4 aa a1 a2 a3 a4 aq wo la ou al se su sc vwo vla vou val vse vsu vsc lo ld md ml l1 l2 l3 l4 te sb so wa r r1 r2 r3 r4 I hc hs hW hl)
    · exact lv_tableIn (x := nI 9) (tgt := 576) hx hb dL_law_45 (by decide) (by decide) rfl (by decide) (b_judged hst B hX hbl hbA hL6 (by omega) (by omega) go h0 hm ho hd q1 q2 q3 q4 ad0 ad adl ado ada ads adu adc bd bdl bdo bda bds bdu bdc adz ady adx adm ac1 ac2 ac3 ac4 aa a1 a2 a3 a4 aq wo la ou al se su sc vwo vla vou val vse vsu vsc lo ld md ml l1 l2 l3 l4 te sb so wa r r1 r2 r3 r4 I hc hs hW hl)
    · exact lv_tableIn (x := nI 10) (tgt := 604) hx hb dL_law_45 (by decide) (by decide) rfl (by decide) (b_subscribe hst B hX hbl hbA hL6 (by omega) (by omega) go h0 hm ho hd q1 q2 q3 q4 ad0 ad adl ado ada ads adu adc bd bdl bdo bda bds bdu bdc adz ady adx adm ac1 ac2 ac3 ac4 aa a1 a2 a3 a4 aq wo la ou al se su sc vwo vla vou val vse vsu vsc lo ld md ml l1 l2 l3 l4 te sb so wa r r1 r2 r3 r4 I hc hs hW hl)
    · exact lv_tableIn (x := nI 11) (tgt := 680) hx hb dL_law_45 (by decide) (by decide) rfl (by decide) (b_addSchool hst B hX hbl hbA hL6 (by omega) (by omega) go h0 hm ho hd q1 q2 q3 q4 ad0 ad adl ado ada ads adu adc bd bdl bdo bda bds bdu bdc adz ady adx adm ac1 ac2 ac3 ac4 aa a1 a2 a3 a4 aq wo la ou al se su sc vwo vla vou val vse vsu vsc lo ld md ml l1 l2 l3 l4 te sb so wa r r1 r2 r3 r4 I hc hs hW hl)
    · exact lv_tableIn (x := nI 12) (tgt := 732) hx hb dL_law_45 (by decide) (by decide) rfl (by decide) (b_isOpen hst B hX hbl hbA hL6 (by omega) (by omega) go h0 hm ho hd q1 q2 q3 q4 ad0 ad adl ado ada ads adu adc bd bdl bdo bda bds bdu bdc adz ady adx adm ac1 ac2 ac3 ac4 aa a1 a2 a3 a4 aq wo la ou al se su sc vwo vla vou val vse vsu vsc lo ld md ml l1 l2 l3 l4 te sb so wa r r1 r2 r3 r4 I hc hs hW hl)
    · exact lv_tableIn (x := nI 13) (tgt := 760) hx hb dL_law_45 (by decide) (by decide) rfl (by decide) (b_isWarned hst B hX hbl hbA hL6 (by omega) (by omega) go h0 hm ho hd q1 q2 q3 q4 ad0 ad adl ado ada ads adu adc bd bdl bdo bda bds bdu bdc adz ady adx adm ac1 ac2 ac3 ac4 aa a1 a2 a3 a4 aq wo la ou al se su sc vwo vla vou val vse vsu vsc lo ld md ml l1 l2 l3 l4 te sb so wa r r1 r2 r3 r4 I hc hs hW hl)
    · exact lv_tableIn (x := nI 14) (tgt := 788) hx hb dL_law_45 (by decide) (by decide) rfl (by decide) (b_pass hst B hX hbl hbA hL6 (by omega) (by omega) go h0 hm ho hd q1 q2 q3 q4 ad0 ad adl ado ada ads adu adc bd bdl bdo bda bds bdu bdc adz ady adx adm ac1 ac2 ac3 ac4 aa a1 a2 a3 a4 aq wo la ou al se su sc vwo vla vou val vse vsu vsc lo ld md ml l1 l2 l3 l4 te sb so wa r r1 r2 r3 r4 I hc hs hW hl)
    · exact lv_tableIn (x := nI 15) (tgt := 816) hx hb dL_law_45 (by decide) (by decide) rfl (by decide) (b_hour hst B hX hbl hbA hL6 (by omega) (by omega) go h0 hm ho hd q1 q2 q3 q4 ad0 ad adl ado ada ads adu adc bd bdl bdo bda bds bdu bdc adz ady adx adm ac1 ac2 ac3 ac4 aa a1 a2 a3 a4 aq wo la ou al se su sc vwo vla vou val vse vsu vsc lo ld md ml l1 l2 l3 l4 te sb so wa r r1 r2 r3 r4 I hc hs hW hl)
    · exact lv_tableIn (x := nI 16) (tgt := 829) hx hb dL_law_45 (by decide) (by decide) rfl (by decide) (b_fuel hst B hX hbl hbA hL6 (by omega) (by omega) go h0 hm ho hd q1 q2 q3 q4 ad0 ad adl ado ada ads adu adc bd bdl bdo bda bds bdu bdc adz ady adx adm ac1 ac2 ac3 ac4 aa a1 a2 a3 a4 aq wo la ou al se su sc vwo vla vou val vse vsu vsc lo ld md ml l1 l2 l3 l4 te sb so wa r r1 r2 r3 r4 I hc hs hW hl)
    · exact lv_tableIn (x := nI 17) (tgt := 869) hx hb dL_law_45 (by decide) (by decide) rfl (by decide) (b_fire hst B hX hbl hbA hL6 (by omega) (by omega) go h0 hm ho hd q1 q2 q3 q4 ad0 ad adl ado ada ads adu adc bd bdl bdo bda bds bdu bdc adz ady adx adm ac1 ac2 ac3 ac4 aa a1 a2 a3 a4 aq wo la ou al se su sc vwo vla vou val vse vsu vsc lo ld md ml l1 l2 l3 l4 te sb so wa r r1 r2 r3 r4 I hc hs hW hl)
    · exact lv_tableIn (x := nI 18) (tgt := 909) hx hb dL_law_45 (by decide) (by decide) rfl (by decide) (b_smoke hst B hX hbl hbA hL6 (by omega) (by omega) go h0 hm ho hd q1 q2 q3 q4 ad0 ad adl ado ada ads adu adc bd bdl bdo bda bds bdu bdc adz ady adx adm ac1 ac2 ac3 ac4 aa a1 a2 a3 a4 aq wo la ou al se su sc vwo vla vou val vse vsu vsc lo ld md ml l1 l2 l3 l4 te sb so wa r r1 r2 r3 r4 I hc hs hW hl)
    · exact lv_tableIn (x := nI 19) (tgt := 949) hx hb dL_law_45 (by decide) (by decide) rfl (by decide) (b_hasLine hst B hX hbl hbA hL6 (by omega) (by omega) go h0 hm ho hd q1 q2 q3 q4 ad0 ad adl ado ada ads adu adc bd bdl bdo bda bds bdu bdc adz ady adx adm ac1 ac2 ac3 ac4 aa a1 a2 a3 a4 aq wo la ou al se su sc vwo vla vou val vse vsu vsc lo ld md ml l1 l2 l3 l4 te sb so wa r r1 r2 r3 r4 I hc hs hW hl)
    · exact lv_tableIn (x := nI 20) (tgt := 989) hx hb dL_law_45 (by decide) (by decide) rfl (by decide) (b_left hst B hX hbl hbA hL6 (by omega) (by omega) go h0 hm ho hd q1 q2 q3 q4 ad0 ad adl ado ada ads adu adc bd bdl bdo bda bds bdu bdc adz ady adx adm ac1 ac2 ac3 ac4 aa a1 a2 a3 a4 aq wo la ou al se su sc vwo vla vou val vse vsu vsc lo ld md ml l1 l2 l3 l4 te sb so wa r r1 r2 r3 r4 I hc hs hW hl)
    · exact lv_tableIn (x := nI 21) (tgt := 1017) hx hb dL_law_45 (by decide) (by decide) rfl (by decide) (b_forecast hst B hX hbl hbA hL6 (by omega) (by omega) go h0 hm ho hd q1 q2 q3 q4 ad0 ad adl ado ada ads adu adc bd bdl bdo bda bds bdu bdc adz ady adx adm ac1 ac2 ac3 ac4 aa a1 a2 a3 a4 aq wo la ou al se su sc vwo vla vou val vse vsu vsc lo ld md ml l1 l2 l3 l4 te sb so wa r r1 r2 r3 r4 I hc hs hW hl)
    · exact lv_tableIn (x := nI 22) (tgt := 1069) hx hb dL_law_45 (by decide) (by decide) rfl (by decide) (b_worst hst B hX hbl hbA hL6 (by omega) (by omega) go h0 hm ho hd q1 q2 q3 q4 ad0 ad adl ado ada ads adu adc bd bdl bdo bda bds bdu bdc adz ady adx adm ac1 ac2 ac3 ac4 aa a1 a2 a3 a4 aq wo la ou al se su sc vwo vla vou val vse vsu vsc lo ld md ml l1 l2 l3 l4 te sb so wa r r1 r2 r3 r4 I hc hs hW hl)
    · exact lv_tableIn (x := nI 23) (tgt := 1121) hx hb dL_law_45 (by decide) (by decide) rfl (by decide) (b_warnings hst B hX hbl hbA hL6 (by omega) (by omega) go h0 hm ho hd q1 q2 q3 q4 ad0 ad adl ado ada ads adu adc bd bdl bdo bda bds bdu bdc adz ady adx adm ac1 ac2 ac3 ac4 aa a1 a2 a3 a4 aq wo la ou al se su sc vwo vla vou val vse vsu vsc lo ld md ml l1 l2 l3 l4 te sb so wa r r1 r2 r3 r4 I hc hs hW hl)
    · exact lv_tableIn (x := nI 24) (tgt := 1134) hx hb dL_law_45 (by decide) (by decide) rfl (by decide) (b_warnedAt hst B hX hbl hbA hL6 (by omega) (by omega) go h0 hm ho hd q1 q2 q3 q4 ad0 ad adl ado ada ads adu adc bd bdl bdo bda bds bdu bdc adz ady adx adm ac1 ac2 ac3 ac4 aa a1 a2 a3 a4 aq wo la ou al se su sc vwo vla vou val vse vsu vsc lo ld md ml l1 l2 l3 l4 te sb so wa r r1 r2 r3 r4 I hc hs hW hl)
    · exact lv_tableIn (x := nI 25) (tgt := 1162) hx hb dL_law_45 (by decide) (by decide) rfl (by decide) (b_warnedWhom hst B hX hbl hbA hL6 (by omega) (by omega) go h0 hm ho hd q1 q2 q3 q4 ad0 ad adl ado ada ads adu adc bd bdl bdo bda bds bdu bdc adz ady adx adm ac1 ac2 ac3 ac4 aa a1 a2 a3 a4 aq wo la ou al se su sc vwo vla vou val vse vsu vsc lo ld md ml l1 l2 l3 l4 te sb so wa r r1 r2 r3 r4 I hc hs hW hl)
    · exact lv_tableIn (x := nI 26) (tgt := 1190) hx hb dL_law_45 (by decide) (by decide) rfl (by decide) (b_warnedBy hst B hX hbl hbA hL6 (by omega) (by omega) go h0 hm ho hd q1 q2 q3 q4 ad0 ad adl ado ada ads adu adc bd bdl bdo bda bds bdu bdc adz ady adx adm ac1 ac2 ac3 ac4 aa a1 a2 a3 a4 aq wo la ou al se su sc vwo vla vou val vse vsu vsc lo ld md ml l1 l2 l3 l4 te sb so wa r r1 r2 r3 r4 I hc hs hW hl)
    · exact lv_tableIn (x := nI 27) (tgt := 1218) hx hb dL_law_45 (by decide) (by decide) rfl (by decide) (b_closings hst B hX hbl hbA hL6 (by omega) (by omega) go h0 hm ho hd q1 q2 q3 q4 ad0 ad adl ado ada ads adu adc bd bdl bdo bda bds bdu bdc adz ady adx adm ac1 ac2 ac3 ac4 aa a1 a2 a3 a4 aq wo la ou al se su sc vwo vla vou val vse vsu vsc lo ld md ml l1 l2 l3 l4 te sb so wa r r1 r2 r3 r4 I hc hs hW hl)
    · exact lv_tableIn (x := nI 28) (tgt := 1231) hx hb dL_law_45 (by decide) (by decide) rfl (by decide) (b_made hst B hX hbl hbA hL6 (by omega) (by omega) go h0 hm ho hd q1 q2 q3 q4 ad0 ad adl ado ada ads adu adc bd bdl bdo bda bds bdu bdc adz ady adx adm ac1 ac2 ac3 ac4 aa a1 a2 a3 a4 aq wo la ou al se su sc vwo vla vou val vse vsu vsc lo ld md ml l1 l2 l3 l4 te sb so wa r r1 r2 r3 r4 I hc hs hW hl)
    · exact lv_tableIn (x := nI 29) (tgt := 1244) hx hb dL_law_45 (by decide) (by decide) rfl (by decide) (b_blown hst B hX hbl hbA hL6 (by omega) (by omega) go h0 hm ho hd q1 q2 q3 q4 ad0 ad adl ado ada ads adu adc bd bdl bdo bda bds bdu bdc adz ady adx adm ac1 ac2 ac3 ac4 aa a1 a2 a3 a4 aq wo la ou al se su sc vwo vla vou val vse vsu vsc lo ld md ml l1 l2 l3 l4 te sb so wa r r1 r2 r3 r4 I hc hs hW hl)
    · exact lv_tableIn (x := nI 30) (tgt := 1257) hx hb dL_law_45 (by decide) (by decide) rfl (by decide) (b_settled hst B hX hbl hbA hL6 (by omega) (by omega) go h0 hm ho hd q1 q2 q3 q4 ad0 ad adl ado ada ads adu adc bd bdl bdo bda bds bdu bdc adz ady adx adm ac1 ac2 ac3 ac4 aa a1 a2 a3 a4 aq wo la ou al se su sc vwo vla vou val vse vsu vsc lo ld md ml l1 l2 l3 l4 te sb so wa r r1 r2 r3 r4 I hc hs hW hl)
    · exact lv_tableIn (x := nI 31) (tgt := 1270) hx hb dL_law_45 (by decide) (by decide) rfl (by decide) (b_mended hst B hX hbl hbA hL6 (by omega) (by omega) go h0 hm ho hd q1 q2 q3 q4 ad0 ad adl ado ada ads adu adc bd bdl bdo bda bds bdu bdc adz ady adx adm ac1 ac2 ac3 ac4 aa a1 a2 a3 a4 aq wo la ou al se su sc vwo vla vou val vse vsu vsc lo ld md ml l1 l2 l3 l4 te sb so wa r r1 r2 r3 r4 I hc hs hW hl)
    · exact lv_tableIn (x := nI 32) (tgt := 1283) hx hb dL_law_45 (by decide) (by decide) rfl (by decide) (b_trustShare hst B hX hbl hbA hL6 (by omega) (by omega) go h0 hm ho hd q1 q2 q3 q4 ad0 ad adl ado ada ads adu adc bd bdl bdo bda bds bdu bdc adz ady adx adm ac1 ac2 ac3 ac4 aa a1 a2 a3 a4 aq wo la ou al se su sc vwo vla vou val vse vsu vsc lo ld md ml l1 l2 l3 l4 te sb so wa r r1 r2 r3 r4 I hc hs hW hl)
    · exact lv_tableIn (x := nI 33) (tgt := 1349) hx hb dL_law_45 (by decide) (by decide) rfl (by decide) (b_meanSmoke hst B hX hbl hbA hL6 (by omega) (by omega) go h0 hm ho hd q1 q2 q3 q4 ad0 ad adl ado ada ads adu adc bd bdl bdo bda bds bdu bdc adz ady adx adm ac1 ac2 ac3 ac4 aa a1 a2 a3 a4 aq wo la ou al se su sc vwo vla vou val vse vsu vsc lo ld md ml l1 l2 l3 l4 te sb so wa r r1 r2 r3 r4 I hc hs hW hl)
    · exact lv_tableIn (x := nI 34) (tgt := 1364) hx hb dL_law_45 (by decide) (by decide) rfl (by decide) (b_isKept hst B hX hbl hbA hL6 (by omega) (by omega) go h0 hm ho hd q1 q2 q3 q4 ad0 ad adl ado ada ads adu adc bd bdl bdo bda bds bdu bdc adz ady adx adm ac1 ac2 ac3 ac4 aa a1 a2 a3 a4 aq wo la ou al se su sc vwo vla vou val vse vsu vsc lo ld md ml l1 l2 l3 l4 te sb so wa r r1 r2 r3 r4 I hc hs hW hl)
    · exact lv_tableIn (x := nI 35) (tgt := 1377) hx hb dL_law_45 (by decide) (by decide) rfl (by decide) (b_isSame hst B hX hbl hbA hL6 (by omega) (by omega) go h0 hm ho hd q1 q2 q3 q4 ad0 ad adl ado ada ads adu adc bd bdl bdo bda bds bdu bdc adz ady adx adm ac1 ac2 ac3 ac4 aa a1 a2 a3 a4 aq wo la ou al se su sc vwo vla vou val vse vsu vsc lo ld md ml l1 l2 l3 l4 te sb so wa r r1 r2 r3 r4 I hc hs hW hl)
