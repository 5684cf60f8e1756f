/-! joined: 83.turn, 84.start, 85.init -/
section
/-! the loop -/
theorem zlc {L kc : Nat} (hL : L ≤ 3072) (hk : kc ≤ 512) : (nI L - (6 : Int32)) < nI (6 * kc) ↔ L < 6 * kc + 6 := by
  rcases Nat.lt_or_ge L 6 with q | q
  · have h1 : (nI (6 * kc)).toInt = ((6 * kc : Nat) : Int) := nI_toInt (by omega)
    refine ⟨fun _ => by omega, fun _ => ?_⟩
    rw [zlt, h1]
    have h2 : (nI L - (6 : Int32)).toInt < 0 := by
      rcases (by omega : L = 0 ∨ L = 1 ∨ L = 2 ∨ L = 3 ∨ L = 4 ∨ L = 5) with rfl | rfl | rfl | rfl | rfl | rfl <;> decide
    omega
  · obtain ⟨k, rfl⟩ : ∃ k, L = k + 6 := ⟨L - 6, by omega⟩
    have e : nI (k + 6) - (6 : Int32) = nI k := by
      rw [show nI (k + 6) = nI k + (6 : Int32) from (nI_add k 6).symm]
      exact Int32.add_sub_cancel _ _
    rw [e]
    constructor
    · intro h
      rcases Nat.lt_or_ge k (6 * kc) with z | z
      · omega
      · rcases Nat.lt_or_eq_of_le z with y | y
        · exact absurd (nI_lt y (by omega)) (fun z2 => Int32.lt_irrefl (Int32.lt_trans h z2))
        · rw [y] at h; exact absurd h Int32.lt_irrefl
    · intro h
      exact nI_lt (by omega) (by omega)
set_option maxHeartbeats 4000000 in
set_option maxRecDepth 100000 in
theorem zbody {p : Program} {l : Launch} {e : Env} {s : State} {m : MethodId} {args : Array Value} {below : List Frame} {meth : Method} {c : Code} {Q : State → Prop} {G : zG} {A : Nat → Prop} {b L : Nat} {xs : Nat → Int32} (hst : l.stackTraces = false) (B : zM p s m args c cL_law 10 RL G A) (hX : va_X b L xs s s.heap) (hbl : b < s.heap.size) (hbA : ¬ A b) (hL3 : L ≤ 3072) (kend : ∀ (H : Heap) (locs : List Loc) (ls : Array Slot) (cells slots : Nat), va_S A s.heap H locs → cells ≤ 708394 → slots ≤ 6870569 → W p l e room_1 s m args below meth c H locs cells slots Q (F0 m 1375 ls [])) : ∀ n kc : Nat, kc + n = 512 → zGo p l e s m args below meth c Q G A b kc := by
  have hx := B.x
  have hb := B.b
  intro n
  induction n with
  | zero =>
    intro kc hk h0 hm ho hd q1 q2 q3 q4 ad0 ad adl ado ada ads adu adc bd bdl bdo bda bds bdu bdc adz ady adx adm ac1 ac2 ac3 ac4 aa a1 a2 a3 a4 aq wo la ou al se su sc vwo vla vou val vse vsu vsc lo ld md ml l1 l2 l3 l4 te sb so wa r r1 r2 r3 r4 H locs ls cells slots I hc hs hW hl
    have hrm := zrmc (kc := kc) (by omega) (zI_b I)
    refine lv_iload hx hb dL_law_28 (lv_at hl 5 rfl) ?_
    refine lv_aload_n hx hb dL_law_30 rfl (lv_at hl 0 rfl) ?_
    refine zslen B hX hbl hbA hW.2.2 dL_law_31 ?_
    refine lv_bipush (v := (6 : Int32)) hx hb dL_law_32 (by decide) ?_
    refine lv_isub hx hb dL_law_34 ?_
    exact lv_icmp_gt (tgt := 1375) hx hb dL_law_35 (by decide) (fun _ => kend _ _ _ _ _ hW.2.2 (by omega) (by omega)) (fun z => absurd ((zlc hL3 (by omega)).mpr (by omega)) z)
  | succ n ih =>
    intro kc hk h0 hm ho hd q1 q2 q3 q4 ad0 ad adl ado ada ads adu adc bd bdl bdo bda bds bdu bdc adz ady adx adm ac1 ac2 ac3 ac4 aa a1 a2 a3 a4 aq wo la ou al se su sc vwo vla vou val vse vsu vsc lo ld md ml l1 l2 l3 l4 te sb so wa r r1 r2 r3 r4 H locs ls cells slots I hc hs hW hl
    have hrm := zrmc (kc := kc) (by omega) (zI_b I)
    have go : zGo p l e s m args below meth c Q G A b (kc + 1) := ih (kc + 1) (by omega)
    refine lv_iload hx hb dL_law_28 (lv_at hl 5 rfl) ?_
    refine lv_aload_n hx hb dL_law_30 rfl (lv_at hl 0 rfl) ?_
    refine zslen B hX hbl hbA hW.2.2 dL_law_31 ?_
    refine lv_bipush (v := (6 : Int32)) hx hb dL_law_32 (by decide) ?_
    refine lv_isub hx hb dL_law_34 ?_
    refine lv_icmp_gt (tgt := 1375) hx hb dL_law_35 (by decide) (fun _ => kend _ _ _ _ _ hW.2.2 (by omega) (by omega)) (fun z => ?_)
    have hL6 : 6 * kc + 6 ≤ L := by
      rcases Nat.lt_or_ge L (6 * kc + 6) with q | q
      · exact absurd ((zlc hL3 (by omega)).mpr q) z
      · exact q
    clear z
    have kout : W p l e room_1 s m args below meth c H locs cells slots Q (F0 m 1369 ls []) := zturn B hl (fun ls2 hl2 => go h0 hm ho hd q1 q2 q3 q4 ad0 ad adl ado ada ads adu adc bd bdl bdo bda bds bdu bdc adz ady adx adm ac1 ac2 ac3 ac4 aa a1 a2 a3 a4 aq wo la ou al se su sc vwo vla vou val vse vsu vsc lo ld md ml l1 l2 l3 l4 te sb so wa r r1 r2 r3 r4 H locs ls2 _ _ ⟨I.1, by have := I.2.1; omega, I.2.2⟩ (zCb_up hc (by omega) rfl rfl rfl rfl) (zSb_up hs (by omega) rfl rfl rfl rfl) hW hl2)
    refine lv_aload_n hx hb dL_law_38 rfl (lv_at hl 0 rfl) ?_
    refine lv_iload hx hb dL_law_39 (lv_at hl 5 rfl) ?_
    refine zsld B hX hbl hbA hW (6 * kc) rfl (by omega) (by omega) dL_law_41 ?_
    refine lv_bipush (v := (63 : Int32)) hx hb dL_law_42 (by decide) ?_
    refine lv_iand hx hb dL_law_44 ?_
    rcases pk_ix (xs (6 * kc) &&& (63 : Int32)) (n := 36) (by decide) with h | h | ⟨i, hi, hei⟩
    · exact lv_tableOut (tgt := 1369) hx hb dL_law_45 (Or.inl (zlt.mp h)) (by decide) kout
    · have h1 := zle.mp h
      have h2 : (nI 36).toInt = 36 := by decide
      exact lv_tableOut (tgt := 1369) hx hb dL_law_45 (Or.inr (by show (35 : Int) < (xs (6 * kc) &&& (63 : Int32)).toInt; omega)) (by decide) kout
    rw [hei]
    clear hei kout
    rcases (by omega : i = 0 ∨ i = 1 ∨ i = 2 ∨ i = 3 ∨ i = 4 ∨ i = 5 ∨ i = 6 ∨ i = 7 ∨ i = 8 ∨ i = 9 ∨ i = 10 ∨ i = 11 ∨ i = 12 ∨ i = 13 ∨ i = 14 ∨ i = 15 ∨ i = 16 ∨ i = 17 ∨ i = 18 ∨ i = 19 ∨ i = 20 ∨ i = 21 ∨ i = 22 ∨ i = 23 ∨ i = 24 ∨ i = 25 ∨ i = 26 ∨ i = 27 ∨ i = 28 ∨ i = 29 ∨ i = 30 ∨ i = 31 ∨ i = 32 ∨ i = 33 ∨ i = 34 ∨ i = 35) with rfl | rfl | rfl | rfl | rfl | rfl | rfl | rfl | rfl | rfl | rfl | rfl | rfl | rfl | rfl | rfl | rfl | rfl | rfl | rfl | rfl | rfl | rfl | rfl | rfl | rfl | rfl | rfl | rfl | rfl | rfl | rfl | rfl | rfl | rfl | rfl
    · exact lv_tableIn (x := nI 0) (tgt := 204) hx hb dL_law_45 (by decide) (by decide) rfl (by decide) (b_setFuel hst B hX hbl hbA hL6 (by omega) (by omega) go h0 hm ho hd q1 q2 q3 q4 ad0 ad adl ado ada ads adu adc bd bdl bdo bda bds bdu bdc adz ady adx adm ac1 ac2 ac3 ac4 aa a1 a2 a3 a4 aq wo la ou al se su sc vwo vla vou val vse vsu vsc lo ld md ml l1 l2 l3 l4 te sb so wa r r1 r2 r3 r4 I hc hs hW hl)
    · exact lv_tableIn (x := nI 1) (tgt := 256) hx hb dL_law_45 (by decide) (by decide) rfl (by decide) (b_light hst B hX hbl hbA hL6 (by omega) (by omega) go h0 hm ho hd q1 q2 q3 q4 ad0 ad adl ado ada ads adu adc bd bdl bdo bda bds bdu bdc adz ady adx adm ac1 ac2 ac3 ac4 aa a1 a2 a3 a4 aq wo la ou al se su sc vwo vla vou val vse vsu vsc lo ld md ml l1 l2 l3 l4 te sb so wa r r1 r2 r3 r4 I hc hs hW hl)
    · exact lv_tableIn (x := nI 2) (tgt := 308) hx hb dL_law_45 (by decide) (by decide) rfl (by decide) (b_setWind hst B hX hbl hbA hL6 (by omega) (by omega) go h0 hm ho hd q1 q2 q3 q4 ad0 ad adl ado ada ads adu adc bd bdl bdo bda bds bdu bdc adz ady adx adm ac1 ac2 ac3 ac4 aa a1 a2 a3 a4 aq wo la ou al se su sc vwo vla vou val vse vsu vsc lo ld md ml l1 l2 l3 l4 te sb so wa r r1 r2 r3 r4 I hc hs hW hl)
    · exact lv_tableIn (x := nI 3) (tgt := 360) hx hb dL_law_45 (by decide) (by decide) rfl (by decide) (b_setRain hst B hX hbl hbA hL6 (by omega) (by omega) go h0 hm ho hd q1 q2 q3 q4 ad0 ad adl ado ada ads adu adc bd bdl bdo bda bds bdu bdc adz ady adx adm ac1 ac2 ac3 ac4 aa a1 a2 a3 a4 aq wo la ou al se su sc vwo vla vou val vse vsu vsc lo ld md ml l1 l2 l3 l4 te sb so wa r r1 r2 r3 r4 I hc hs hW hl)
    · exact lv_tableIn (x := nI 4) (tgt := 388) hx hb dL_law_45 (by decide) (by decide) rfl (by decide) (b_digLine hst B hX hbl hbA hL6 (by omega) (by omega) go h0 hm ho hd q1 q2 q3 q4 ad0 ad adl ado ada ads adu adc bd bdl bdo bda bds bdu bdc adz ady adx adm ac1 ac2 ac3 ac4 aa a1 a2 a3 a4 aq wo la ou al se su sc vwo vla vou val vse vsu vsc lo ld md ml l1 l2 l3 l4 te sb so wa r r1 r2 r3 r4 I hc hs hW hl)
    · exact lv_tableIn (x := nI 5) (tgt := 440) hx hb dL_law_45 (by decide) (by decide) rfl (by decide) (b_addSensor hst B hX hbl hbA hL6 (by omega) (by omega) go h0 hm ho hd q1 q2 q3 q4 ad0 ad adl ado ada ads adu adc bd bdl bdo bda bds bdu bdc adz ady adx adm ac1 ac2 ac3 ac4 aa a1 a2 a3 a4 aq wo la ou al se su sc vwo vla vou val vse vsu vsc lo ld md ml l1 l2 l3 l4 te sb so wa r r1 r2 r3 r4 I hc hs hW hl)
    · exact lv_tableIn (x := nI 6) (tgt := 480) hx hb dL_law_45 (by decide) (by decide) rfl (by decide) (b_read hst B hX hbl hbA hL6 (by omega) (by omega) go h0 hm ho hd q1 q2 q3 q4 ad0 ad adl ado ada ads adu adc bd bdl bdo bda bds bdu bdc adz ady adx adm ac1 ac2 ac3 ac4 aa a1 a2 a3 a4 aq wo la ou al se su sc vwo vla vou val vse vsu vsc lo ld md ml l1 l2 l3 l4 te sb so wa r r1 r2 r3 r4 I hc hs hW hl)
    · exact lv_tableIn (x := nI 7) (tgt := 520) hx hb dL_law_45 (by decide) (by decide) rfl (by decide) (b_trust hst B hX hbl hbA hL6 (by omega) (by omega) go h0 hm ho hd q1 q2 q3 q4 ad0 ad adl ado ada ads adu adc bd bdl bdo bda bds bdu bdc adz ady adx adm ac1 ac2 ac3 ac4 aa a1 a2 a3 a4 aq wo la ou al se su sc vwo vla vou val vse vsu vsc lo ld md ml l1 l2 l3 l4 te sb so wa r r1 r2 r3 r4 I hc hs hW hl)
    · exact lv_tableIn (x := nI 8) (tgt := 548) hx hb dL_law_45 (by decide) (by decide) rfl (by decide) (b_stateOf hst B hX hbl hbA hL6 (by omega) (by omega) go h0 hm ho hd q1 q2 q3 q4 ad0 ad adl ado ada ads adu adc bd bdl bdo bda bds bdu bdc adz ady adx adm ac1 ac2 ac3 ac4 aa a1 a2 a3 a4 aq wo la ou al se su sc vwo vla vou val vse vsu vsc lo ld md ml l1 l2 l3 l4 te sb so wa r r1 r2 r3 r4 I hc hs hW hl)
    · exact lv_tableIn (x := nI 9) (tgt := 576) hx hb dL_law_45 (by decide) (by decide) rfl (by decide) (b_judged hst B hX hbl hbA hL6 (by omega) (by omega) go h0 hm ho hd q1 q2 q3 q4 ad0 ad adl ado ada ads adu adc bd bdl bdo bda bds bdu bdc adz ady adx adm ac1 ac2 ac3 ac4 aa a1 a2 a3 a4 aq wo la ou al se su sc vwo vla vou val vse vsu vsc lo ld md ml l1 l2 l3 l4 te sb so wa r r1 r2 r3 r4 I hc hs hW hl)
    · exact lv_tableIn (x := nI 10) (tgt := 604) hx hb dL_law_45 (by decide) (by decide) rfl (by decide) (b_subscribe hst B hX hbl hbA hL6 (by omega) (by omega) go h0 hm ho hd q1 q2 q3 q4 ad0 ad adl ado ada ads adu adc bd bdl bdo bda bds bdu bdc adz ady adx adm ac1 ac2 ac3 ac4 aa a1 a2 a3 a4 aq wo la ou al se su sc vwo vla vou val vse vsu vsc lo ld md ml l1 l2 l3 l4 te sb so wa r r1 r2 r3 r4 I hc hs hW hl)
    · exact lv_tableIn (x := nI 11) (tgt := 680) hx hb dL_law_45 (by decide) (by decide) rfl (by decide) (b_addSchool hst B hX hbl hbA hL6 (by omega) (by omega) go h0 hm ho hd q1 q2 q3 q4 ad0 ad adl ado ada ads adu adc bd bdl bdo bda bds bdu bdc adz ady adx adm ac1 ac2 ac3 ac4 aa a1 a2 a3 a4 aq wo la ou al se su sc vwo vla vou val vse vsu vsc lo ld md ml l1 l2 l3 l4 te sb so wa r r1 r2 r3 r4 I hc hs hW hl)
    · exact lv_tableIn (x := nI 12) (tgt := 732) hx hb dL_law_45 (by decide) (by decide) rfl (by decide) (b_isOpen hst B hX hbl hbA hL6 (by omega) (by omega) go h0 hm ho hd q1 q2 q3 q4 ad0 ad adl ado ada ads adu adc bd bdl bdo bda bds bdu bdc adz ady adx adm ac1 ac2 ac3 ac4 aa a1 a2 a3 a4 aq wo la ou al se su sc vwo vla vou val vse vsu vsc lo ld md ml l1 l2 l3 l4 te sb so wa r r1 r2 r3 r4 I hc hs hW hl)
    · exact lv_tableIn (x := nI 13) (tgt := 760) hx hb dL_law_45 (by decide) (by decide) rfl (by decide) (b_isWarned hst B hX hbl hbA hL6 (by omega) (by omega) go h0 hm ho hd q1 q2 q3 q4 ad0 ad adl ado ada ads adu adc bd bdl bdo bda bds bdu bdc adz ady adx adm ac1 ac2 ac3 ac4 aa a1 a2 a3 a4 aq wo la ou al se su sc vwo vla vou val vse vsu vsc lo ld md ml l1 l2 l3 l4 te sb so wa r r1 r2 r3 r4 I hc hs hW hl)
    · exact lv_tableIn (x := nI 14) (tgt := 788) hx hb dL_law_45 (by decide) (by decide) rfl (by decide) (b_pass hst B hX hbl hbA hL6 (by omega) (by omega) go h0 hm ho hd q1 q2 q3 q4 ad0 ad adl ado ada ads adu adc bd bdl bdo bda bds bdu bdc adz ady adx adm ac1 ac2 ac3 ac4 aa a1 a2 a3 a4 aq wo la ou al se su sc vwo vla vou val vse vsu vsc lo ld md ml l1 l2 l3 l4 te sb so wa r r1 r2 r3 r4 I hc hs hW hl)
    · exact lv_tableIn (x := nI 15) (tgt := 816) hx hb dL_law_45 (by decide) (by decide) rfl (by decide) (b_hour hst B hX hbl hbA hL6 (by omega) (by omega) go h0 hm ho hd q1 q2 q3 q4 ad0 ad adl ado ada ads adu adc bd bdl bdo bda bds bdu bdc adz ady adx adm ac1 ac2 ac3 ac4 aa a1 a2 a3 a4 aq wo la ou al se su sc vwo vla vou val vse vsu vsc lo ld md ml l1 l2 l3 l4 te sb so wa r r1 r2 r3 r4 I hc hs hW hl)
    · exact lv_tableIn (x := nI 16) (tgt := 829) hx hb dL_law_45 (by decide) (by decide) rfl (by decide) (b_fuel hst B hX hbl hbA hL6 (by omega) (by omega) go h0 hm ho hd q1 q2 q3 q4 ad0 ad adl ado ada ads adu adc bd bdl bdo bda bds bdu bdc adz ady adx adm ac1 ac2 ac3 ac4 aa a1 a2 a3 a4 aq wo la ou al se su sc vwo vla vou val vse vsu vsc lo ld md ml l1 l2 l3 l4 te sb so wa r r1 r2 r3 r4 I hc hs hW hl)
    · exact lv_tableIn (x := nI 17) (tgt := 869) hx hb dL_law_45 (by decide) (by decide) rfl (by decide) (b_fire hst B hX hbl hbA hL6 (by omega) (by omega) go h0 hm ho hd q1 q2 q3 q4 ad0 ad adl ado ada ads adu adc bd bdl bdo bda bds bdu bdc adz ady adx adm ac1 ac2 ac3 ac4 aa a1 a2 a3 a4 aq wo la ou al se su sc vwo vla vou val vse vsu vsc lo ld md ml l1 l2 l3 l4 te sb so wa r r1 r2 r3 r4 I hc hs hW hl)
    · exact lv_tableIn (x := nI 18) (tgt := 909) hx hb dL_law_45 (by decide) (by decide) rfl (by decide) (b_smoke hst B hX hbl hbA hL6 (by omega) (by omega) go h0 hm ho hd q1 q2 q3 q4 ad0 ad adl ado ada ads adu adc bd bdl bdo bda bds bdu bdc adz ady adx adm ac1 ac2 ac3 ac4 aa a1 a2 a3 a4 aq wo la ou al se su sc vwo vla vou val vse vsu vsc lo ld md ml l1 l2 l3 l4 te sb so wa r r1 r2 r3 r4 I hc hs hW hl)
    · exact lv_tableIn (x := nI 19) (tgt := 949) hx hb dL_law_45 (by decide) (by decide) rfl (by decide) (b_hasLine hst B hX hbl hbA hL6 (by omega) (by omega) go h0 hm ho hd q1 q2 q3 q4 ad0 ad adl ado ada ads adu adc bd bdl bdo bda bds bdu bdc adz ady adx adm ac1 ac2 ac3 ac4 aa a1 a2 a3 a4 aq wo la ou al se su sc vwo vla vou val vse vsu vsc lo ld md ml l1 l2 l3 l4 te sb so wa r r1 r2 r3 r4 I hc hs hW hl)
    · exact lv_tableIn (x := nI 20) (tgt := 989) hx hb dL_law_45 (by decide) (by decide) rfl (by decide) (b_left hst B hX hbl hbA hL6 (by omega) (by omega) go h0 hm ho hd q1 q2 q3 q4 ad0 ad adl ado ada ads adu adc bd bdl bdo bda bds bdu bdc adz ady adx adm ac1 ac2 ac3 ac4 aa a1 a2 a3 a4 aq wo la ou al se su sc vwo vla vou val vse vsu vsc lo ld md ml l1 l2 l3 l4 te sb so wa r r1 r2 r3 r4 I hc hs hW hl)
    · exact lv_tableIn (x := nI 21) (tgt := 1017) hx hb dL_law_45 (by decide) (by decide) rfl (by decide) (b_forecast hst B hX hbl hbA hL6 (by omega) (by omega) go h0 hm ho hd q1 q2 q3 q4 ad0 ad adl ado ada ads adu adc bd bdl bdo bda bds bdu bdc adz ady adx adm ac1 ac2 ac3 ac4 aa a1 a2 a3 a4 aq wo la ou al se su sc vwo vla vou val vse vsu vsc lo ld md ml l1 l2 l3 l4 te sb so wa r r1 r2 r3 r4 I hc hs hW hl)
    · exact lv_tableIn (x := nI 22) (tgt := 1069) hx hb dL_law_45 (by decide) (by decide) rfl (by decide) (b_worst hst B hX hbl hbA hL6 (by omega) (by omega) go h0 hm ho hd q1 q2 q3 q4 ad0 ad adl ado ada ads adu adc bd bdl bdo bda bds bdu bdc adz ady adx adm ac1 ac2 ac3 ac4 aa a1 a2 a3 a4 aq wo la ou al se su sc vwo vla vou val vse vsu vsc lo ld md ml l1 l2 l3 l4 te sb so wa r r1 r2 r3 r4 I hc hs hW hl)
    · exact lv_tableIn (x := nI 23) (tgt := 1149) hx hb dL_law_45 (by decide) (by decide) rfl (by decide) (b_warnings hst B hX hbl hbA hL6 (by omega) (by omega) go h0 hm ho hd q1 q2 q3 q4 ad0 ad adl ado ada ads adu adc bd bdl bdo bda bds bdu bdc adz ady adx adm ac1 ac2 ac3 ac4 aa a1 a2 a3 a4 aq wo la ou al se su sc vwo vla vou val vse vsu vsc lo ld md ml l1 l2 l3 l4 te sb so wa r r1 r2 r3 r4 I hc hs hW hl)
    · exact lv_tableIn (x := nI 24) (tgt := 1162) hx hb dL_law_45 (by decide) (by decide) rfl (by decide) (b_warnedAt hst B hX hbl hbA hL6 (by omega) (by omega) go h0 hm ho hd q1 q2 q3 q4 ad0 ad adl ado ada ads adu adc bd bdl bdo bda bds bdu bdc adz ady adx adm ac1 ac2 ac3 ac4 aa a1 a2 a3 a4 aq wo la ou al se su sc vwo vla vou val vse vsu vsc lo ld md ml l1 l2 l3 l4 te sb so wa r r1 r2 r3 r4 I hc hs hW hl)
    · exact lv_tableIn (x := nI 25) (tgt := 1190) hx hb dL_law_45 (by decide) (by decide) rfl (by decide) (b_warnedWhom hst B hX hbl hbA hL6 (by omega) (by omega) go h0 hm ho hd q1 q2 q3 q4 ad0 ad adl ado ada ads adu adc bd bdl bdo bda bds bdu bdc adz ady adx adm ac1 ac2 ac3 ac4 aa a1 a2 a3 a4 aq wo la ou al se su sc vwo vla vou val vse vsu vsc lo ld md ml l1 l2 l3 l4 te sb so wa r r1 r2 r3 r4 I hc hs hW hl)
    · exact lv_tableIn (x := nI 26) (tgt := 1218) hx hb dL_law_45 (by decide) (by decide) rfl (by decide) (b_warnedBy hst B hX hbl hbA hL6 (by omega) (by omega) go h0 hm ho hd q1 q2 q3 q4 ad0 ad adl ado ada ads adu adc bd bdl bdo bda bds bdu bdc adz ady adx adm ac1 ac2 ac3 ac4 aa a1 a2 a3 a4 aq wo la ou al se su sc vwo vla vou val vse vsu vsc lo ld md ml l1 l2 l3 l4 te sb so wa r r1 r2 r3 r4 I hc hs hW hl)
    · exact lv_tableIn (x := nI 27) (tgt := 1246) hx hb dL_law_45 (by decide) (by decide) rfl (by decide) (b_closings hst B hX hbl hbA hL6 (by omega) (by omega) go h0 hm ho hd q1 q2 q3 q4 ad0 ad adl ado ada ads adu adc bd bdl bdo bda bds bdu bdc adz ady adx adm ac1 ac2 ac3 ac4 aa a1 a2 a3 a4 aq wo la ou al se su sc vwo vla vou val vse vsu vsc lo ld md ml l1 l2 l3 l4 te sb so wa r r1 r2 r3 r4 I hc hs hW hl)
    · exact lv_tableIn (x := nI 28) (tgt := 1259) hx hb dL_law_45 (by decide) (by decide) rfl (by decide) (b_made hst B hX hbl hbA hL6 (by omega) (by omega) go h0 hm ho hd q1 q2 q3 q4 ad0 ad adl ado ada ads adu adc bd bdl bdo bda bds bdu bdc adz ady adx adm ac1 ac2 ac3 ac4 aa a1 a2 a3 a4 aq wo la ou al se su sc vwo vla vou val vse vsu vsc lo ld md ml l1 l2 l3 l4 te sb so wa r r1 r2 r3 r4 I hc hs hW hl)
    · exact lv_tableIn (x := nI 29) (tgt := 1272) hx hb dL_law_45 (by decide) (by decide) rfl (by decide) (b_blown hst B hX hbl hbA hL6 (by omega) (by omega) go h0 hm ho hd q1 q2 q3 q4 ad0 ad adl ado ada ads adu adc bd bdl bdo bda bds bdu bdc adz ady adx adm ac1 ac2 ac3 ac4 aa a1 a2 a3 a4 aq wo la ou al se su sc vwo vla vou val vse vsu vsc lo ld md ml l1 l2 l3 l4 te sb so wa r r1 r2 r3 r4 I hc hs hW hl)
    · exact lv_tableIn (x := nI 30) (tgt := 1285) hx hb dL_law_45 (by decide) (by decide) rfl (by decide) (b_settled hst B hX hbl hbA hL6 (by omega) (by omega) go h0 hm ho hd q1 q2 q3 q4 ad0 ad adl ado ada ads adu adc bd bdl bdo bda bds bdu bdc adz ady adx adm ac1 ac2 ac3 ac4 aa a1 a2 a3 a4 aq wo la ou al se su sc vwo vla vou val vse vsu vsc lo ld md ml l1 l2 l3 l4 te sb so wa r r1 r2 r3 r4 I hc hs hW hl)
    · exact lv_tableIn (x := nI 31) (tgt := 1298) hx hb dL_law_45 (by decide) (by decide) rfl (by decide) (b_mended hst B hX hbl hbA hL6 (by omega) (by omega) go h0 hm ho hd q1 q2 q3 q4 ad0 ad adl ado ada ads adu adc bd bdl bdo bda bds bdu bdc adz ady adx adm ac1 ac2 ac3 ac4 aa a1 a2 a3 a4 aq wo la ou al se su sc vwo vla vou val vse vsu vsc lo ld md ml l1 l2 l3 l4 te sb so wa r r1 r2 r3 r4 I hc hs hW hl)
    · exact lv_tableIn (x := nI 32) (tgt := 1311) hx hb dL_law_45 (by decide) (by decide) rfl (by decide) (b_trustShare hst B hX hbl hbA hL6 (by omega) (by omega) go h0 hm ho hd q1 q2 q3 q4 ad0 ad adl ado ada ads adu adc bd bdl bdo bda bds bdu bdc adz ady adx adm ac1 ac2 ac3 ac4 aa a1 a2 a3 a4 aq wo la ou al se su sc vwo vla vou val vse vsu vsc lo ld md ml l1 l2 l3 l4 te sb so wa r r1 r2 r3 r4 I hc hs hW hl)
    · exact lv_tableIn (x := nI 33) (tgt := 1328) hx hb dL_law_45 (by decide) (by decide) rfl (by decide) (b_meanSmoke hst B hX hbl hbA hL6 (by omega) (by omega) go h0 hm ho hd q1 q2 q3 q4 ad0 ad adl ado ada ads adu adc bd bdl bdo bda bds bdu bdc adz ady adx adm ac1 ac2 ac3 ac4 aa a1 a2 a3 a4 aq wo la ou al se su sc vwo vla vou val vse vsu vsc lo ld md ml l1 l2 l3 l4 te sb so wa r r1 r2 r3 r4 I hc hs hW hl)
    · exact lv_tableIn (x := nI 34) (tgt := 1343) hx hb dL_law_45 (by decide) (by decide) rfl (by decide) (b_isKept hst B hX hbl hbA hL6 (by omega) (by omega) go h0 hm ho hd q1 q2 q3 q4 ad0 ad adl ado ada ads adu adc bd bdl bdo bda bds bdu bdc adz ady adx adm ac1 ac2 ac3 ac4 aa a1 a2 a3 a4 aq wo la ou al se su sc vwo vla vou val vse vsu vsc lo ld md ml l1 l2 l3 l4 te sb so wa r r1 r2 r3 r4 I hc hs hW hl)
    · exact lv_tableIn (x := nI 35) (tgt := 1356) hx hb dL_law_45 (by decide) (by decide) rfl (by decide) (b_isSame hst B hX hbl hbA hL6 (by omega) (by omega) go h0 hm ho hd q1 q2 q3 q4 ad0 ad adl ado ada ads adu adc bd bdl bdo bda bds bdu bdc adz ady adx adm ac1 ac2 ac3 ac4 aa a1 a2 a3 a4 aq wo la ou al se su sc vwo vla vou val vse vsu vsc lo ld md ml l1 l2 l3 l4 te sb so wa r r1 r2 r3 r4 I hc hs hW hl)
end
section
/-! the state at the law's entry -/
theorem zOdd_tabs {w : Cond} (h : zOdd w = true) : w.onTables = true := by
  cases w <;> first | rfl | exact absurd h (by simp [zOdd])
section ZST
variable {args : Array Value} {s : State}
theorem zst_all (hts : ∀ w ∈ lw_tbl, w.before args s = true) : ∀ w ∈ zAll, w.before args s = true := fun w hw => hts w (List.mem_filter.mp hw).1
theorem zst_cls (hz : ∀ w ∈ zAll, w.before args s = true) : ∀ q ∈ vwCl, ∃ p : ClassId × (Nat → Nat), u_Kn s q.1 q.2.1 q.2.2 p.1 p.2 := by
  have mk : ∀ {C : String} {T : u_T} {N n : Nat}, (∀ w ∈ u_ws C T N, w ∈ zAll) → Cond.instantiable C n ∈ zAll → ∃ p : ClassId × (Nat → Nat), u_Kn s C T N p.1 p.2 := fun h1 h2 => by
    obtain ⟨c, i, h⟩ := u_known hz h1 (hz _ h2)
    exact ⟨(c, i), h⟩
  exact List.forall_mem_cons.mpr ⟨mk in_J0 ki_J0, List.forall_mem_cons.mpr ⟨mk in_Jx00060 ki_Jx00060, List.forall_mem_cons.mpr ⟨mk in_Jx35411 ki_Jx35411, List.forall_mem_cons.mpr ⟨mk in_Jx4a65c ki_Jx4a65c, List.forall_mem_cons.mpr ⟨mk in_X0 ki_X0, List.forall_mem_cons.mpr ⟨mk in_X1 ki_X1, List.forall_mem_cons.mpr ⟨mk in_X2 ki_X2, List.forall_mem_cons.mpr ⟨mk in_X3 ki_X3, List.forall_mem_cons.mpr ⟨mk in_X4 ki_X4, List.forall_mem_cons.mpr ⟨mk in_X5 ki_X5, List.forall_mem_cons.mpr ⟨mk in_X6 ki_X6, List.forall_mem_cons.mpr ⟨mk in_X7 ki_X7, List.forall_mem_cons.mpr ⟨mk in_X8 ki_X8, List.forall_mem_cons.mpr ⟨mk in_X9 ki_X9, List.forall_mem_cons.mpr ⟨mk in_X10 ki_X10, List.forall_mem_cons.mpr ⟨mk in_X11 ki_X11, List.forall_mem_cons.mpr ⟨mk in_X12 ki_X12, fun _ h => absurd h List.not_mem_nil⟩⟩⟩⟩⟩⟩⟩⟩⟩⟩⟩⟩⟩⟩⟩⟩⟩
theorem zst_arr {ty : FieldType} (h : (Cond.arrayClass ty).before args s = true) (hp : ∀ C, ty ≠ .object C) : ∃ cA : ClassId, ArrOfT s cA ty ∧ va_RA s cA ty := by
  obtain ⟨cA, kA, comp, h1, h2, h3⟩ := Cond.arrayClass_spec h
  refine ⟨cA, fun N z => ⟨(fun k h => by cases h), kA, h2, comp, h3⟩, ?_⟩
  cases ty with
  | object C => exact absurd rfl (hp C)
  | _ => exact h1
theorem zst_arro {C : String} (h : (Cond.arrayOver (.object C)).before args s = true) : ∃ cA : ClassId, ArrOfT s cA (.object C) ∧ va_RA s cA (.object C) := by
  obtain ⟨comp, c, k, h1, h2, h3, h4, h5⟩ := Cond.arrayOver_spec h
  exact ⟨c, fun N z => ⟨(fun k h => by cases h), k, h3, comp, h4⟩, k, comp, h3, h4, h1, h5⟩
theorem zst_fw (hts : ∀ w ∈ lw_tbl, w.before args s = true) : ∀ q ∈ zFw, va_Fw q.1 q.2.1 q.2.2 s :=
  List.forall_mem_cons.mpr ⟨va_Fw.of (hts _ (zAt_mem (i := 5103) (by decide +kernel))) (hts _ (zAt_mem (i := 5102) (by decide +kernel))) (hts _ (zAt_mem (i := 5108) (by decide +kernel))) (hts _ (zAt_mem (i := 5106) (by decide +kernel))) (hts _ (zAt_mem (i := 5104) (by decide +kernel))), List.forall_mem_cons.mpr ⟨va_Fw.of (hts _ (zAt_mem (i := 5145) (by decide +kernel))) (hts _ (zAt_mem (i := 5144) (by decide +kernel))) (hts _ (zAt_mem (i := 5149) (by decide +kernel))) (hts _ (zAt_mem (i := 5147) (by decide +kernel))) (hts _ (zAt_mem (i := 5104) (by decide +kernel))), List.forall_mem_cons.mpr ⟨va_Fw.of (hts _ (zAt_mem (i := 5220) (by decide +kernel))) (hts _ (zAt_mem (i := 5219) (by decide +kernel))) (hts _ (zAt_mem (i := 5224) (by decide +kernel))) (hts _ (zAt_mem (i := 5222) (by decide +kernel))) (hts _ (zAt_mem (i := 5104) (by decide +kernel))), List.forall_mem_cons.mpr ⟨va_Fw.of (hts _ (zAt_mem (i := 5239) (by decide +kernel))) (hts _ (zAt_mem (i := 5238) (by decide +kernel))) (hts _ (zAt_mem (i := 6003) (by decide +kernel))) (hts _ (zAt_mem (i := 6001) (by decide +kernel))) (hts _ (zAt_mem (i := 5104) (by decide +kernel))), List.forall_mem_cons.mpr ⟨va_Fw.of (hts _ (zAt_mem (i := 7044) (by decide +kernel))) (hts _ (zAt_mem (i := 7043) (by decide +kernel))) (hts _ (zAt_mem (i := 7048) (by decide +kernel))) (hts _ (zAt_mem (i := 7046) (by decide +kernel))) (hts _ (zAt_mem (i := 5104) (by decide +kernel))), List.forall_mem_cons.mpr ⟨va_Fw.of (hts _ (zAt_mem (i := 6027) (by decide +kernel))) (hts _ (zAt_mem (i := 6026) (by decide +kernel))) (hts _ (zAt_mem (i := 6032) (by decide +kernel))) (hts _ (zAt_mem (i := 6030) (by decide +kernel))) (hts _ (zAt_mem (i := 6028) (by decide +kernel))), List.forall_mem_cons.mpr ⟨va_Fw.of (hts _ (zAt_mem (i := 6037) (by decide +kernel))) (hts _ (zAt_mem (i := 6036) (by decide +kernel))) (hts _ (zAt_mem (i := 6041) (by decide +kernel))) (hts _ (zAt_mem (i := 6039) (by decide +kernel))) (hts _ (zAt_mem (i := 6028) (by decide +kernel))), fun _ h => absurd h List.not_mem_nil⟩⟩⟩⟩⟩⟩⟩
theorem zStr_mem {q : String × Nat × String} (h : q ∈ zStr) : Cond.stringRef q.1 q.2.1 q.2.2 ∈ tables_1 := by
  obtain ⟨w, hw, e⟩ := List.mem_filterMap.mp h
  cases w with
  | stringRef a k t => cases e; exact hw
  | _ => cases e
theorem zStr_own : ∀ q ∈ zStr, q.1 = RX7 := by decide +kernel
theorem zst_str (hts : ∀ w ∈ lw_tbl, w.before args s = true) : ∀ q ∈ zStr, ∃ a, vk_R q.1 q.2.1 q.2.2 a s := by
  intro q hq
  obtain ⟨cC, kC, hfc, -, -, -⟩ := Cond.instantiable_spec (zst_all hts _ ki_X7)
  have h1 := hts _ (List.mem_append_right _ (zStr_mem hq))
  obtain ⟨-, -, -, a, -, -, -, -, -, h2⟩ := Cond.stringRef_spec (by rw [zStr_own q hq]; exact hfc) h1
  exact ⟨a, vk_R.of h1 h2⟩
theorem zst_ncs : ∀ q ∈ zNcs, Cond.not (.castable q.1 q.2) ∈ flatC (Jvm.Cond.and given_1 narrow_1) := by decide +kernel
set_option maxRecDepth 100000 in
theorem zst_start (hts : ∀ w ∈ lw_tbl, w.before args s = true) (hgv : (Jvm.Cond.and given_1 narrow_1).before args s = true) : ∃ G : zG, zE G (fun q => s.heap.size ≤ q) s s.heap := by
  have hz := zst_all hts
  have hf := flat_of_before _ hgv
  have hA : ∀ a : Nat, a < s.heap.size → ¬ s.heap.size ≤ a := fun a h => Nat.not_le.mpr h
  obtain ⟨D, hD⟩ : ∃ D : Nat → ClassId × (Nat → Nat), ∀ c, ∀ q, vwCl[c]? = some q → u_Kn s q.1 q.2.1 q.2.2 (D c).1 (D c).2 := by
    have h : ∀ c : Nat, ∃ p : ClassId × (Nat → Nat), ∀ q, vwCl[c]? = some q → u_Kn s q.1 q.2.1 q.2.2 p.1 p.2 := by
      intro c
      cases hc : vwCl[c]? with
      | none => exact ⟨(0, fun _ => 0), fun q h => by cases h⟩
      | some q =>
        obtain ⟨p, hp⟩ := zst_cls hz q (List.mem_of_getElem? hc)
        exact ⟨p, fun q' h => by cases h; exact hp⟩
    exact Classical.axiomOfChoice h
  obtain ⟨a0, b0⟩ := zst_arr (hts (.arrayClass .int) (zAt_mem (i := 1112) (by decide +kernel))) (fun C h => by cases h)
  obtain ⟨a1, b1⟩ := zst_arr (hts (.arrayClass .boolean) (zAt_mem (i := 1113) (by decide +kernel))) (fun C h => by cases h)
  obtain ⟨a2, b2⟩ := zst_arro (hts (.arrayOver (.object "SmokeWard$Act")) (zAt_mem (i := 2027) (by decide +kernel)))
  obtain ⟨a3, b3⟩ := zst_arro (hts (.arrayOver (.object "java/lang/Object")) (zAt_mem (i := 5205) (by decide +kernel)))
  obtain ⟨a4, b4⟩ := zst_arr (hts (.arrayClass .long) (zAt_mem (i := 7063) (by decide +kernel))) (fun C h => by cases h)
  obtain ⟨a5, b5⟩ := zst_arr (hts (.arrayClass .double) (zAt_mem (i := 7064) (by decide +kernel))) (fun C h => by cases h)
  have tini : (Cond.initialized Bundle.tN).before args s = true := hts (.initialized Bundle.tN) (zAt_mem (i := 1014) (by decide +kernel))
  have hdl : (Cond.laysStatic "java/util/ArrayList" "DEFAULTCAPACITY_EMPTY_ELEMENTDATA" "[Ljava/lang/Object;").before args s = true := hts _ (zAt_mem (i := 5012) (by decide +kernel))
  have hda : (Cond.arrayOf (.static "java/util/ArrayList" "DEFAULTCAPACITY_EMPTY_ELEMENTDATA" "[Ljava/lang/Object;") (.object "java/lang/Object")).before args s = true := hf _ (by decide +kernel)
  have hde : (Cond.eq (.length (.static "java/util/ArrayList" "DEFAULTCAPACITY_EMPTY_ELEMENTDATA" "[Ljava/lang/Object;")) (.int 0)).before args s = true := hf _ (by decide +kernel)
  obtain ⟨t, ht, hT⟩ : ∃ t : Nat, (Term.static "java/util/ArrayList" "DEFAULTCAPACITY_EMPTY_ELEMENTDATA" "[Ljava/lang/Object;").eval args s none [] s = some (.ref t) ∧ va_T (.object "java/lang/Object") t 0 (fun _ => .null) (fun q => s.heap.size ≤ q) s s.heap := by
    refine va_Tof (by decide) hda ?_ (fun j hj => absurd hj (Nat.not_lt_zero j)) hA
    unfold Cond.before at hde
    simp only [Cond.holds, Cond.value] at hde
    cases hv : (Term.length (.static "java/util/ArrayList" "DEFAULTCAPACITY_EMPTY_ELEMENTDATA" "[Ljava/lang/Object;")).eval args s none [] s with
    | none => rw [hv] at hde; simp at hde
    | some v =>
      rw [hv] at hde
      obtain ⟨t, cell, h1, h2, h3⟩ := Term.length_spec hv
      subst h3
      have e : (Term.int (0 : Int32)).eval args s none [] s = some (.int 0) := rfl
      rw [e] at hde
      simp at hde
      rw [show Int32.ofNat 0 = 0 from rfl]
      first | exact congrArg (fun z => some (Value.int z)) hde | (rw [hde])
  obtain ⟨mi, hmi⟩ := va_Mi.of (hf (Cond.isRef (.mirror "[Ljava/lang/Object;")) (by decide +kernel))
  have hD2 : ∀ c, ∀ q, vwCl[c]? = some q → u_Kn s q.1 q.2.1 q.2.2 (if c = 99 then ((0, fun _ => mi) : ClassId × (Nat → Nat)) else D c).1 (if c = 99 then ((0, fun _ => mi) : ClassId × (Nat → Nat)) else D c).2 := by
    intro c q hq
    by_cases h : c = 99
    · subst h
      have hq : (none : Option vw_C) = some q := hq
      cases hq
    · rw [if_neg h]
      exact hD c q hq
  refine ⟨((fun c => (if c = 99 then ((0, fun _ => mi) : ClassId × (Nat → Nat)) else D c).1, fun c => (if c = 99 then ((0, fun _ => mi) : ClassId × (Nat → Nat)) else D c).2), (fun k => if k = 0 then a0 else if k = 1 then a1 else if k = 2 then a2 else if k = 3 then a3 else if k = 4 then a4 else a5), t), ⟨hD2, ?_⟩, fun w hw => va_Nw.of (zOdd_tabs (zNest_odd w hw)) (hts w (List.mem_filter.mp hw).1), zst_fw hts, zst_str hts, ?_, ?_, ⟨va_Zof hdl (hts _ (zAt_mem (i := 1013) (by decide +kernel))) ht hA, hT⟩, va_AO.of (hts _ (zAt_mem (i := 2027) (by decide +kernel))), va_AO.of (hts _ (zAt_mem (i := 5205) (by decide +kernel))), fun q hq => va_Nc.of (hf _ (zst_ncs q hq)), hmi, va_Dc.of (hts _ (zAt_mem (i := 7092) (by decide +kernel)))⟩
  · intro k q hk
    match k, hk with
    | 0, hk => cases hk; exact b0
    | 1, hk => cases hk; exact b1
    | 2, hk => cases hk; exact b2
    | 3, hk => cases hk; exact b3
    | 4, hk => cases hk; exact b4
    | 5, hk => cases hk; exact b5
    | k + 6, hk => simp [zTy] at hk
  · exact vx_Zqof (hts _ (zAt_mem (i := 3035) (by decide +kernel))) tini (hf _ (by decide +kernel)) hA
  · exact vx_Zqof (hts _ (zAt_mem (i := 3037) (by decide +kernel))) tini (hf _ (by decide +kernel)) hA
end ZST
end
section
/-! the start: nothing is there yet -/
def zaq0 : zAcs := (0, (fun _ => (0 : Int32)), (fun _ => (0 : Int32)), (fun _ => (0 : Int32)), (fun _ => (0 : Int32)), (fun _ => (0 : Int32)))
def zte0 : zMs := (0, (fun _ => (0 : Int32)), (fun _ => (0 : Int32)), (fun _ => (0 : Int32)), (fun _ => (0 : Int32)), (fun _ => (0 : Int32)), (fun _ => (0 : Int32)), (fun _ => (0 : Int32)))
def zsb0 : zMb := (0, (fun _ => (0 : Int32)), (fun _ => (0 : Int32)), (fun _ => (0 : Int32)), (fun _ => (0 : Int32)), (fun _ => (0 : Int32)))
def zso0 : zMo := (0, (fun _ => (0 : Int32)), (fun _ => (0 : Int32)), (fun _ => (0 : Int32)))
def zwa0 : zMw := (0, (fun _ => (0 : Int32)), (fun _ => (0 : Int32)), (fun _ => (0 : Int32)))
def zv0 : zWv := (i_X6_init, i_X1_init, i_X2_init, i_X1_init, i_X4_init, i_X5_init, i_X3_init)
theorem zlaF0 : (fun _ => none : Nat → Option Nat) = laF 0 (fun _ => 0) := by
  funext j
  unfold laF
  rw [if_neg (Nat.not_lt_zero j)]
theorem zi7 : i_X7_init = ((laF 0 (fun _ => 0)), (nI 0), (nI 0)) := by
  unfold i_X7_init
  rw [zlaF0]
  rfl
theorem zSf0 : zSf 0 zv0 := by
  refine ⟨⟨rfl, by decide, zTR_0, rfl, by decide, fun _ h => absurd h (Nat.not_lt_zero _), rfl, by decide, fun _ h => absurd h (Nat.not_lt_zero _), fun _ _ => (vp_in_nI (show 0 < 48 by decide) (by decide) : vp_in (nI 0) 48), rfl, by decide, zBo_0, ⟨rfl, rfl, by decide, by decide⟩, by decide, by decide⟩, by decide, rfl, by decide, by decide, Or.inl (by decide), zBo_0, zBo_0⟩
theorem zI0 : zI 0 zaq0 0 zv0 zv0 i_X12_init i_X8_init zte0 zsb0 zso0 zwa0 0 0 0 0 := by
  refine ⟨⟨fun j h => absurd h (Nat.not_lt_zero j), Nat.le_refl _, ⟨zSf0, rfl, rfl, rfl⟩, ⟨zSf0, rfl, rfl, rfl⟩⟩, Nat.le_refl _, ⟨rfl, by decide, fun _ _ => (vp_in_nI (show 0 < 48 by decide) (by decide) : vp_in (nI 0) 48), zBo_0, by decide, by decide, by decide, fun _ h => absurd h (Nat.not_lt_zero _), fun _ h => absurd h (Nat.not_lt_zero _), fun _ h => absurd h (Nat.not_lt_zero _), rfl, by decide, by decide, ⟨Nat.le_refl _, Or.inl rfl⟩, ⟨Nat.le_refl _, Or.inl rfl⟩, ⟨Nat.le_refl _, Or.inl rfl⟩, ⟨⟨Nat.le_refl _, Or.inl rfl, by decide⟩, by decide⟩⟩, ?_⟩
  exact ⟨⟨⟨fun _ _ => rfl, fun _ _ => rfl, fun _ _ => rfl, fun _ _ => rfl, fun _ _ => rfl, fun _ _ => rfl, fun _ _ => ⟨10, by decide, rfl⟩, fun _ _ => ⟨0, by decide, rfl⟩, fun _ _ => ⟨0, by decide, rfl⟩⟩, ⟨4, 0, 0, by decide, by decide, fun h => absurd h (by decide), by decide, rfl, rfl, rfl, rfl, rfl, rfl, rfl, rfl⟩, rfl, rfl, rfl, fun _ _ => ⟨0, Nat.zero_le _, rfl⟩⟩, rfl, rfl, ⟨rfl, fun _ h => absurd h (Nat.not_lt_zero _), fun _ _ => ⟨rfl, rfl, rfl⟩⟩, ⟨rfl, fun _ h => absurd h (Nat.not_lt_zero _), fun _ _ => rfl⟩, ⟨rfl, fun _ h => absurd h (Nat.not_lt_zero _)⟩, ⟨rfl, fun _ h => absurd h (Nat.not_lt_zero _)⟩⟩
end
