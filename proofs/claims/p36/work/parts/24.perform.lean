def g_X6_perform_1_la_0 (ac_1 : Int32) (ac_2 : Int32) (la_0 : Nat → Int32) : Nat → Int32 := (g_X1_replaceFuel_x_0 la_0 ac_1 ac_2)
def f_X6_perform_1_la (wo : zWor) (la : zLand) (ou : zOutl) (al : zLand) (se : zSens) (su : zSubs) (sc : zScho) (ac : zAct) : zLand := (g_X6_perform_1_la_0 ac.2.1 ac.2.2.1 la.1, la.2.1, la.2.2.1, la.2.2.2.1, la.2.2.2.2.1, la.2.2.2.2.2.1, la.2.2.2.2.2.2.1, la.2.2.2.2.2.2.2.1, la.2.2.2.2.2.2.2.2.1, la.2.2.2.2.2.2.2.2.2.1, la.2.2.2.2.2.2.2.2.2.2.1, la.2.2.2.2.2.2.2.2.2.2.2.1, la.2.2.2.2.2.2.2.2.2.2.2.2.1, la.2.2.2.2.2.2.2.2.2.2.2.2.2)
def r_X6_perform_1 (ac_1 : Int32) (la_0 : Nat → Int32) : Int32 := (r_X1_replaceFuel la_0 ac_1)
abbrev po_X6_perform_1 (G : zG) (h : Nat) (ad : Nat → Nat) (wo : zWor) (adl : Nat → Nat) (la : zLand) (ado : Nat → Nat) (ou : zOutl) (ada : Nat → Nat) (al : zLand) (ads : Nat → Nat) (se : zSens) (adu : Nat → Nat) (su : zSubs) (adc : Nat → Nat) (sc : zScho) (h2 : Nat) (adx : Nat → Nat) (ac : zAct) : Option Value → va_W → Prop := fun r u => r = some (.int (r_X6_perform_1 ac.2.1 la.1)) ∧ u = worW G h ad wo ++ (landW G (ad 0) adl (f_X6_perform_1_la wo la ou al se su sc ac) ++ (outW G (ad 1) ado ou ++ (landW G (ado 0) ada al ++ (sensW G (ad 2) ads se ++ (subW G (ad 3) adu su ++ (schW G (ad 4) adc sc ++ (actW G h2 adx ((1 : Int32), ac.2.1, ac.2.2.1, ac.2.2.2.1, ac.2.2.2.2))))))))
set_option maxHeartbeats 4000000 in
set_option maxRecDepth 100000 in
theorem c_X6_perform_1 (l : Launch) (G : zG) (h : Nat) (ad : Nat → Nat) (wo : zWor) (adl : Nat → Nat) (la : zLand) (ado : Nat → Nat) (ou : zOutl) (ada : Nat → Nat) (al : zLand) (ads : Nat → Nat) (se : zSens) (adu : Nat → Nat) (su : zSubs) (adc : Nat → Nat) (sc : zScho) (h2 : Nat) (adx : Nat → Nat) (ac : zAct) (hp : vp_in ac.2.1 48) : zC l yX6_perform cX6_perform 3 (some .int) 1 0 0 G [.ref h, .ref h2] (worW G h ad wo ++ (landW G (ad 0) adl la ++ (outW G (ad 1) ado ou ++ (landW G (ado 0) ada al ++ (sensW G (ad 2) ads se ++ (subW G (ad 3) adu su ++ (schW G (ad 4) adc sc ++ (actW G h2 adx ((1 : Int32), ac.2.1, ac.2.2.1, ac.2.2.2.1, ac.2.2.2.2))))))))) (po_X6_perform_1 G h ad wo adl la ado ou ada al ads se adu su adc sc h2 adx ac) := by
  refine zC.of RX6 rfl (by decide) (Nat.le_of_ble_eq_true rfl) ?_
  intro p e s m args below meth c A ls B hr hlk hnm hW hl
  have hx := B.x
  have hb := B.b
  have hl : lv_has ls 3 [(0, .ref h), (1, .ref h2)] := hl
  refine lv_aload_n hx hb dX6_perform_0 rfl (lv_at hl 1 rfl) ?_
  refine zget B hW 41 rfl lf_X6_50 rfl dX6_perform_1 ?_
  refine lv_tableIn (x := (1 : Int32)) (tgt := 60) hx hb dX6_perform_4 (by decide) (by decide) rfl (by decide) ?_
  refine lv_aload_n hx hb dX6_perform_60 rfl (lv_at hl 0 rfl) ?_
  refine zget B hW 0 rfl lf_X6_12 rfl dX6_perform_61 ?_
  refine lv_aload_n hx hb dX6_perform_64 rfl (lv_at hl 1 rfl) ?_
  refine zget B hW 41 rfl lf_X6_55 rfl dX6_perform_65 ?_
  refine lv_aload_n hx hb dX6_perform_68 rfl (lv_at hl 1 rfl) ?_
  refine zget B hW 41 rfl lf_X6_58 rfl dX6_perform_69 ?_
  refine zcV (w1 := worW G h ad wo) (wc := landW G (ad 0) adl la) (w2 := outW G (ad 1) ado ou ++ (landW G (ado 0) ada al ++ (sensW G (ad 2) ads se ++ (subW G (ad 3) adu su ++ (schW G (ad 4) adc sc ++ (actW G h2 adx ((1 : Int32), ac.2.1, ac.2.2.1, ac.2.2.2.1, ac.2.2.2.2))))))) (As := [.int ac.2.1, .int ac.2.2.1]) B (hW.eq rfl) (c_X1_replaceFuel l G (ad 0) adl la ac.2.1 ac.2.2.1 (hp)) yd_X1_replaceFuel ml_X6_61 0 rfl rfl rfl rfl hl.1 rfl (Nat.le_of_ble_eq_true rfl) ⟨Nat.le_of_ble_eq_true rfl, Nat.le_of_ble_eq_true rfl⟩ ⟨(Nat.le_of_ble_eq_true rfl), (Nat.le_of_ble_eq_true rfl)⟩ dX6_perform_72 (fun v u H locs hp hW => ?_)
  obtain ⟨rfl, rfl⟩ := hp
  have hW := hW.eq (w' := worW G h ad wo ++ (landW G (ad 0) adl ((g_X1_replaceFuel_x_0 la.1 ac.2.1 ac.2.2.1), la.2.1, la.2.2.1, la.2.2.2.1, la.2.2.2.2.1, la.2.2.2.2.2.1, la.2.2.2.2.2.2.1, la.2.2.2.2.2.2.2.1, la.2.2.2.2.2.2.2.2.1, la.2.2.2.2.2.2.2.2.2.1, la.2.2.2.2.2.2.2.2.2.2.1, la.2.2.2.2.2.2.2.2.2.2.2.1, la.2.2.2.2.2.2.2.2.2.2.2.2.1, la.2.2.2.2.2.2.2.2.2.2.2.2.2) ++ (outW G (ad 1) ado ou ++ (landW G (ado 0) ada al ++ (sensW G (ad 2) ads se ++ (subW G (ad 3) adu su ++ (schW G (ad 4) adc sc ++ (actW G h2 adx ((1 : Int32), ac.2.1, ac.2.2.1, ac.2.2.2.1, ac.2.2.2.2))))))))) rfl
  exact ziret B hr hlk hW ⟨rfl, rfl⟩ (Nat.le_refl _) (Nat.le_refl _) dX6_perform_75
def g_X6_perform_2_la_1 (ac_1 : Int32) (ac_2 : Int32) (la_1 : Nat → Int32) : Nat → Int32 := (g_X1_kindle_x_1 la_1 ac_1 ac_2)
def f_X6_perform_2_la (wo : zWor) (la : zLand) (ou : zOutl) (al : zLand) (se : zSens) (su : zSubs) (sc : zScho) (ac : zAct) : zLand := (la.1, g_X6_perform_2_la_1 ac.2.1 ac.2.2.1 la.2.1, la.2.2.1, la.2.2.2.1, la.2.2.2.2.1, la.2.2.2.2.2.1, la.2.2.2.2.2.2.1, la.2.2.2.2.2.2.2.1, la.2.2.2.2.2.2.2.2.1, la.2.2.2.2.2.2.2.2.2.1, la.2.2.2.2.2.2.2.2.2.2.1, la.2.2.2.2.2.2.2.2.2.2.2.1, la.2.2.2.2.2.2.2.2.2.2.2.2.1, la.2.2.2.2.2.2.2.2.2.2.2.2.2)
def r_X6_perform_2 (ac_1 : Int32) (ac_2 : Int32) (la_1 : Nat → Int32) : Int32 := (r_X1_kindle la_1 ac_1 ac_2)
abbrev po_X6_perform_2 (G : zG) (h : Nat) (ad : Nat → Nat) (wo : zWor) (adl : Nat → Nat) (la : zLand) (ado : Nat → Nat) (ou : zOutl) (ada : Nat → Nat) (al : zLand) (ads : Nat → Nat) (se : zSens) (adu : Nat → Nat) (su : zSubs) (adc : Nat → Nat) (sc : zScho) (h2 : Nat) (adx : Nat → Nat) (ac : zAct) : Option Value → va_W → Prop := fun r u => r = some (.int (r_X6_perform_2 ac.2.1 ac.2.2.1 la.2.1)) ∧ u = worW G h ad wo ++ (landW G (ad 0) adl (f_X6_perform_2_la wo la ou al se su sc ac) ++ (outW G (ad 1) ado ou ++ (landW G (ado 0) ada al ++ (sensW G (ad 2) ads se ++ (subW G (ad 3) adu su ++ (schW G (ad 4) adc sc ++ (actW G h2 adx ((2 : Int32), ac.2.1, ac.2.2.1, ac.2.2.2.1, ac.2.2.2.2))))))))
set_option maxHeartbeats 4000000 in
set_option maxRecDepth 100000 in
theorem c_X6_perform_2 (l : Launch) (G : zG) (h : Nat) (ad : Nat → Nat) (wo : zWor) (adl : Nat → Nat) (la : zLand) (ado : Nat → Nat) (ou : zOutl) (ada : Nat → Nat) (al : zLand) (ads : Nat → Nat) (se : zSens) (adu : Nat → Nat) (su : zSubs) (adc : Nat → Nat) (sc : zScho) (h2 : Nat) (adx : Nat → Nat) (ac : zAct) (hp : vp_in ac.2.1 48) : zC l yX6_perform cX6_perform 3 (some .int) 1 0 0 G [.ref h, .ref h2] (worW G h ad wo ++ (landW G (ad 0) adl la ++ (outW G (ad 1) ado ou ++ (landW G (ado 0) ada al ++ (sensW G (ad 2) ads se ++ (subW G (ad 3) adu su ++ (schW G (ad 4) adc sc ++ (actW G h2 adx ((2 : Int32), ac.2.1, ac.2.2.1, ac.2.2.2.1, ac.2.2.2.2))))))))) (po_X6_perform_2 G h ad wo adl la ado ou ada al ads se adu su adc sc h2 adx ac) := by
  refine zC.of RX6 rfl (by decide) (Nat.le_of_ble_eq_true rfl) ?_
  intro p e s m args below meth c A ls B hr hlk hnm hW hl
  have hx := B.x
  have hb := B.b
  have hl : lv_has ls 3 [(0, .ref h), (1, .ref h2)] := hl
  refine lv_aload_n hx hb dX6_perform_0 rfl (lv_at hl 1 rfl) ?_
  refine zget B hW 41 rfl lf_X6_50 rfl dX6_perform_1 ?_
  refine lv_tableIn (x := (2 : Int32)) (tgt := 76) hx hb dX6_perform_4 (by decide) (by decide) rfl (by decide) ?_
  refine lv_aload_n hx hb dX6_perform_76 rfl (lv_at hl 0 rfl) ?_
  refine zget B hW 0 rfl lf_X6_12 rfl dX6_perform_77 ?_
  refine lv_aload_n hx hb dX6_perform_80 rfl (lv_at hl 1 rfl) ?_
  refine zget B hW 41 rfl lf_X6_55 rfl dX6_perform_81 ?_
  refine lv_aload_n hx hb dX6_perform_84 rfl (lv_at hl 1 rfl) ?_
  refine zget B hW 41 rfl lf_X6_58 rfl dX6_perform_85 ?_
  refine zcV (w1 := worW G h ad wo) (wc := landW G (ad 0) adl la) (w2 := outW G (ad 1) ado ou ++ (landW G (ado 0) ada al ++ (sensW G (ad 2) ads se ++ (subW G (ad 3) adu su ++ (schW G (ad 4) adc sc ++ (actW G h2 adx ((2 : Int32), ac.2.1, ac.2.2.1, ac.2.2.2.1, ac.2.2.2.2))))))) (As := [.int ac.2.1, .int ac.2.2.1]) B (hW.eq rfl) (c_X1_kindle l G (ad 0) adl la ac.2.1 ac.2.2.1 (hp)) yd_X1_kindle ml_X6_65 0 rfl rfl rfl rfl hl.1 rfl (Nat.le_of_ble_eq_true rfl) ⟨Nat.le_of_ble_eq_true rfl, Nat.le_of_ble_eq_true rfl⟩ ⟨(Nat.le_of_ble_eq_true rfl), (Nat.le_of_ble_eq_true rfl)⟩ dX6_perform_88 (fun v u H locs hp hW => ?_)
  obtain ⟨rfl, rfl⟩ := hp
  have hW := hW.eq (w' := worW G h ad wo ++ (landW G (ad 0) adl (la.1, (g_X1_kindle_x_1 la.2.1 ac.2.1 ac.2.2.1), la.2.2.1, la.2.2.2.1, la.2.2.2.2.1, la.2.2.2.2.2.1, la.2.2.2.2.2.2.1, la.2.2.2.2.2.2.2.1, la.2.2.2.2.2.2.2.2.1, la.2.2.2.2.2.2.2.2.2.1, la.2.2.2.2.2.2.2.2.2.2.1, la.2.2.2.2.2.2.2.2.2.2.2.1, la.2.2.2.2.2.2.2.2.2.2.2.2.1, la.2.2.2.2.2.2.2.2.2.2.2.2.2) ++ (outW G (ad 1) ado ou ++ (landW G (ado 0) ada al ++ (sensW G (ad 2) ads se ++ (subW G (ad 3) adu su ++ (schW G (ad 4) adc sc ++ (actW G h2 adx ((2 : Int32), ac.2.1, ac.2.2.1, ac.2.2.2.1, ac.2.2.2.2))))))))) rfl
  exact ziret B hr hlk hW ⟨rfl, rfl⟩ (Nat.le_refl _) (Nat.le_refl _) dX6_perform_91
def g_X6_perform_3_la_7 (ac_1 : Int32) : Int32 := (g_X1_turnWind_x_7 ac_1)
def g_X6_perform_3_la_8 (ac_2 : Int32) : Int32 := (g_X1_turnWind_x_8 ac_2)
def g_X6_perform_3_la_9 (ac_3 : Int32) : Int32 := (g_X1_turnWind_x_9 ac_3)
def f_X6_perform_3_la (wo : zWor) (la : zLand) (ou : zOutl) (al : zLand) (se : zSens) (su : zSubs) (sc : zScho) (ac : zAct) : zLand := (la.1, la.2.1, la.2.2.1, la.2.2.2.1, la.2.2.2.2.1, la.2.2.2.2.2.1, la.2.2.2.2.2.2.1, g_X6_perform_3_la_7 ac.2.1, g_X6_perform_3_la_8 ac.2.2.1, g_X6_perform_3_la_9 ac.2.2.2.1, la.2.2.2.2.2.2.2.2.2.2.1, la.2.2.2.2.2.2.2.2.2.2.2.1, la.2.2.2.2.2.2.2.2.2.2.2.2.1, la.2.2.2.2.2.2.2.2.2.2.2.2.2)
def r_X6_perform_3 (la_9 : Int32) : Int32 := (r_X1_turnWind la_9)
abbrev po_X6_perform_3 (G : zG) (h : Nat) (ad : Nat → Nat) (wo : zWor) (adl : Nat → Nat) (la : zLand) (ado : Nat → Nat) (ou : zOutl) (ada : Nat → Nat) (al : zLand) (ads : Nat → Nat) (se : zSens) (adu : Nat → Nat) (su : zSubs) (adc : Nat → Nat) (sc : zScho) (h2 : Nat) (adx : Nat → Nat) (ac : zAct) : Option Value → va_W → Prop := fun r u => r = some (.int (r_X6_perform_3 la.2.2.2.2.2.2.2.2.2.1)) ∧ u = worW G h ad wo ++ (landW G (ad 0) adl (f_X6_perform_3_la wo la ou al se su sc ac) ++ (outW G (ad 1) ado ou ++ (landW G (ado 0) ada al ++ (sensW G (ad 2) ads se ++ (subW G (ad 3) adu su ++ (schW G (ad 4) adc sc ++ (actW G h2 adx ((3 : Int32), ac.2.1, ac.2.2.1, ac.2.2.2.1, ac.2.2.2.2))))))))
set_option maxHeartbeats 4000000 in
set_option maxRecDepth 100000 in
theorem c_X6_perform_3 (l : Launch) (G : zG) (h : Nat) (ad : Nat → Nat) (wo : zWor) (adl : Nat → Nat) (la : zLand) (ado : Nat → Nat) (ou : zOutl) (ada : Nat → Nat) (al : zLand) (ads : Nat → Nat) (se : zSens) (adu : Nat → Nat) (su : zSubs) (adc : Nat → Nat) (sc : zScho) (h2 : Nat) (adx : Nat → Nat) (ac : zAct) : zC l yX6_perform cX6_perform 3 (some .int) 1 0 0 G [.ref h, .ref h2] (worW G h ad wo ++ (landW G (ad 0) adl la ++ (outW G (ad 1) ado ou ++ (landW G (ado 0) ada al ++ (sensW G (ad 2) ads se ++ (subW G (ad 3) adu su ++ (schW G (ad 4) adc sc ++ (actW G h2 adx ((3 : Int32), ac.2.1, ac.2.2.1, ac.2.2.2.1, ac.2.2.2.2))))))))) (po_X6_perform_3 G h ad wo adl la ado ou ada al ads se adu su adc sc h2 adx ac) := by
  refine zC.of RX6 rfl (by decide) (Nat.le_of_ble_eq_true rfl) ?_
  intro p e s m args below meth c A ls B hr hlk hnm hW hl
  have hx := B.x
  have hb := B.b
  have hl : lv_has ls 3 [(0, .ref h), (1, .ref h2)] := hl
  refine lv_aload_n hx hb dX6_perform_0 rfl (lv_at hl 1 rfl) ?_
  refine zget B hW 41 rfl lf_X6_50 rfl dX6_perform_1 ?_
  refine lv_tableIn (x := (3 : Int32)) (tgt := 92) hx hb dX6_perform_4 (by decide) (by decide) rfl (by decide) ?_
  refine lv_aload_n hx hb dX6_perform_92 rfl (lv_at hl 0 rfl) ?_
  refine zget B hW 0 rfl lf_X6_12 rfl dX6_perform_93 ?_
  refine lv_aload_n hx hb dX6_perform_96 rfl (lv_at hl 1 rfl) ?_
  refine zget B hW 41 rfl lf_X6_55 rfl dX6_perform_97 ?_
  refine lv_aload_n hx hb dX6_perform_100 rfl (lv_at hl 1 rfl) ?_
  refine zget B hW 41 rfl lf_X6_58 rfl dX6_perform_101 ?_
  refine lv_aload_n hx hb dX6_perform_104 rfl (lv_at hl 1 rfl) ?_
  refine zget B hW 41 rfl lf_X6_68 rfl dX6_perform_105 ?_
  refine zcV (w1 := worW G h ad wo) (wc := landW G (ad 0) adl la) (w2 := outW G (ad 1) ado ou ++ (landW G (ado 0) ada al ++ (sensW G (ad 2) ads se ++ (subW G (ad 3) adu su ++ (schW G (ad 4) adc sc ++ (actW G h2 adx ((3 : Int32), ac.2.1, ac.2.2.1, ac.2.2.2.1, ac.2.2.2.2))))))) (As := [.int ac.2.1, .int ac.2.2.1, .int ac.2.2.2.1]) B (hW.eq rfl) (c_X1_turnWind l G (ad 0) adl la ac.2.1 ac.2.2.1 ac.2.2.2.1) yd_X1_turnWind ml_X6_71 0 rfl rfl rfl rfl hl.1 rfl (Nat.le_of_ble_eq_true rfl) ⟨Nat.le_of_ble_eq_true rfl, Nat.le_of_ble_eq_true rfl⟩ ⟨(Nat.le_of_ble_eq_true rfl), (Nat.le_of_ble_eq_true rfl)⟩ dX6_perform_108 (fun v u H locs hp hW => ?_)
  obtain ⟨rfl, rfl⟩ := hp
  have hW := hW.eq (w' := worW G h ad wo ++ (landW G (ad 0) adl (la.1, la.2.1, la.2.2.1, la.2.2.2.1, la.2.2.2.2.1, la.2.2.2.2.2.1, la.2.2.2.2.2.2.1, (g_X1_turnWind_x_7 ac.2.1), (g_X1_turnWind_x_8 ac.2.2.1), (g_X1_turnWind_x_9 ac.2.2.2.1), la.2.2.2.2.2.2.2.2.2.2.1, la.2.2.2.2.2.2.2.2.2.2.2.1, la.2.2.2.2.2.2.2.2.2.2.2.2.1, la.2.2.2.2.2.2.2.2.2.2.2.2.2) ++ (outW G (ad 1) ado ou ++ (landW G (ado 0) ada al ++ (sensW G (ad 2) ads se ++ (subW G (ad 3) adu su ++ (schW G (ad 4) adc sc ++ (actW G h2 adx ((3 : Int32), ac.2.1, ac.2.2.1, ac.2.2.2.1, ac.2.2.2.2))))))))) rfl
  exact ziret B hr hlk hW ⟨rfl, rfl⟩ (Nat.le_refl _) (Nat.le_refl _) dX6_perform_111
def g_X6_perform_4_la_10 (ac_1 : Int32) : Int32 := (g_X1_changeRain_x_10 ac_1)
def f_X6_perform_4_la (wo : zWor) (la : zLand) (ou : zOutl) (al : zLand) (se : zSens) (su : zSubs) (sc : zScho) (ac : zAct) : zLand := (la.1, la.2.1, la.2.2.1, la.2.2.2.1, la.2.2.2.2.1, la.2.2.2.2.2.1, la.2.2.2.2.2.2.1, la.2.2.2.2.2.2.2.1, la.2.2.2.2.2.2.2.2.1, la.2.2.2.2.2.2.2.2.2.1, g_X6_perform_4_la_10 ac.2.1, la.2.2.2.2.2.2.2.2.2.2.2.1, la.2.2.2.2.2.2.2.2.2.2.2.2.1, la.2.2.2.2.2.2.2.2.2.2.2.2.2)
def r_X6_perform_4 (la_10 : Int32) : Int32 := (r_X1_changeRain la_10)
abbrev po_X6_perform_4 (G : zG) (h : Nat) (ad : Nat → Nat) (wo : zWor) (adl : Nat → Nat) (la : zLand) (ado : Nat → Nat) (ou : zOutl) (ada : Nat → Nat) (al : zLand) (ads : Nat → Nat) (se : zSens) (adu : Nat → Nat) (su : zSubs) (adc : Nat → Nat) (sc : zScho) (h2 : Nat) (adx : Nat → Nat) (ac : zAct) : Option Value → va_W → Prop := fun r u => r = some (.int (r_X6_perform_4 la.2.2.2.2.2.2.2.2.2.2.1)) ∧ u = worW G h ad wo ++ (landW G (ad 0) adl (f_X6_perform_4_la wo la ou al se su sc ac) ++ (outW G (ad 1) ado ou ++ (landW G (ado 0) ada al ++ (sensW G (ad 2) ads se ++ (subW G (ad 3) adu su ++ (schW G (ad 4) adc sc ++ (actW G h2 adx ((4 : Int32), ac.2.1, ac.2.2.1, ac.2.2.2.1, ac.2.2.2.2))))))))
set_option maxHeartbeats 4000000 in
set_option maxRecDepth 100000 in
theorem c_X6_perform_4 (l : Launch) (G : zG) (h : Nat) (ad : Nat → Nat) (wo : zWor) (adl : Nat → Nat) (la : zLand) (ado : Nat → Nat) (ou : zOutl) (ada : Nat → Nat) (al : zLand) (ads : Nat → Nat) (se : zSens) (adu : Nat → Nat) (su : zSubs) (adc : Nat → Nat) (sc : zScho) (h2 : Nat) (adx : Nat → Nat) (ac : zAct) : zC l yX6_perform cX6_perform 3 (some .int) 1 0 0 G [.ref h, .ref h2] (worW G h ad wo ++ (landW G (ad 0) adl la ++ (outW G (ad 1) ado ou ++ (landW G (ado 0) ada al ++ (sensW G (ad 2) ads se ++ (subW G (ad 3) adu su ++ (schW G (ad 4) adc sc ++ (actW G h2 adx ((4 : Int32), ac.2.1, ac.2.2.1, ac.2.2.2.1, ac.2.2.2.2))))))))) (po_X6_perform_4 G h ad wo adl la ado ou ada al ads se adu su adc sc h2 adx ac) := by
  refine zC.of RX6 rfl (by decide) (Nat.le_of_ble_eq_true rfl) ?_
  intro p e s m args below meth c A ls B hr hlk hnm hW hl
  have hx := B.x
  have hb := B.b
  have hl : lv_has ls 3 [(0, .ref h), (1, .ref h2)] := hl
  refine lv_aload_n hx hb dX6_perform_0 rfl (lv_at hl 1 rfl) ?_
  refine zget B hW 41 rfl lf_X6_50 rfl dX6_perform_1 ?_
  refine lv_tableIn (x := (4 : Int32)) (tgt := 112) hx hb dX6_perform_4 (by decide) (by decide) rfl (by decide) ?_
  refine lv_aload_n hx hb dX6_perform_112 rfl (lv_at hl 0 rfl) ?_
  refine zget B hW 0 rfl lf_X6_12 rfl dX6_perform_113 ?_
  refine lv_aload_n hx hb dX6_perform_116 rfl (lv_at hl 1 rfl) ?_
  refine zget B hW 41 rfl lf_X6_55 rfl dX6_perform_117 ?_
  refine zcV (w1 := worW G h ad wo) (wc := landW G (ad 0) adl la) (w2 := outW G (ad 1) ado ou ++ (landW G (ado 0) ada al ++ (sensW G (ad 2) ads se ++ (subW G (ad 3) adu su ++ (schW G (ad 4) adc sc ++ (actW G h2 adx ((4 : Int32), ac.2.1, ac.2.2.1, ac.2.2.2.1, ac.2.2.2.2))))))) (As := [.int ac.2.1]) B (hW.eq rfl) (c_X1_changeRain l G (ad 0) adl la ac.2.1) yd_X1_changeRain ml_X6_75 0 rfl rfl rfl rfl hl.1 rfl (Nat.le_of_ble_eq_true rfl) ⟨Nat.le_of_ble_eq_true rfl, Nat.le_of_ble_eq_true rfl⟩ ⟨(Nat.le_of_ble_eq_true rfl), (Nat.le_of_ble_eq_true rfl)⟩ dX6_perform_120 (fun v u H locs hp hW => ?_)
  obtain ⟨rfl, rfl⟩ := hp
  have hW := hW.eq (w' := worW G h ad wo ++ (landW G (ad 0) adl (la.1, la.2.1, la.2.2.1, la.2.2.2.1, la.2.2.2.2.1, la.2.2.2.2.2.1, la.2.2.2.2.2.2.1, la.2.2.2.2.2.2.2.1, la.2.2.2.2.2.2.2.2.1, la.2.2.2.2.2.2.2.2.2.1, (g_X1_changeRain_x_10 ac.2.1), la.2.2.2.2.2.2.2.2.2.2.2.1, la.2.2.2.2.2.2.2.2.2.2.2.2.1, la.2.2.2.2.2.2.2.2.2.2.2.2.2) ++ (outW G (ad 1) ado ou ++ (landW G (ado 0) ada al ++ (sensW G (ad 2) ads se ++ (subW G (ad 3) adu su ++ (schW G (ad 4) adc sc ++ (actW G h2 adx ((4 : Int32), ac.2.1, ac.2.2.1, ac.2.2.2.1, ac.2.2.2.2))))))))) rfl
  exact ziret B hr hlk hW ⟨rfl, rfl⟩ (Nat.le_refl _) (Nat.le_refl _) dX6_perform_123
def g_X6_perform_5_la_4 (ac_1 : Int32) (ac_2 : Int32) (la_0 : Nat → Int32) (la_4 : Nat → Int32) : Nat → Int32 := (g_X1_sendCrew_x_4 la_0 la_4 ac_1 ac_2)
def g_X6_perform_5_la_5 (ac_1 : Int32) (ac_2 : Int32) (la_5 : Nat → Int32) : Nat → Int32 := (g_X1_sendCrew_x_5 la_5 ac_1 ac_2)
def f_X6_perform_5_la (wo : zWor) (la : zLand) (ou : zOutl) (al : zLand) (se : zSens) (su : zSubs) (sc : zScho) (ac : zAct) : zLand := (la.1, la.2.1, la.2.2.1, la.2.2.2.1, g_X6_perform_5_la_4 ac.2.1 ac.2.2.1 la.1 la.2.2.2.2.1, g_X6_perform_5_la_5 ac.2.1 ac.2.2.1 la.2.2.2.2.2.1, la.2.2.2.2.2.2.1, la.2.2.2.2.2.2.2.1, la.2.2.2.2.2.2.2.2.1, la.2.2.2.2.2.2.2.2.2.1, la.2.2.2.2.2.2.2.2.2.2.1, la.2.2.2.2.2.2.2.2.2.2.2.1, la.2.2.2.2.2.2.2.2.2.2.2.2.1, la.2.2.2.2.2.2.2.2.2.2.2.2.2)
def r_X6_perform_5 (ac_1 : Int32) (ac_2 : Int32) (la_0 : Nat → Int32) (la_4 : Nat → Int32) : Int32 := (r_X1_sendCrew la_0 la_4 ac_1 ac_2)
abbrev po_X6_perform_5 (G : zG) (h : Nat) (ad : Nat → Nat) (wo : zWor) (adl : Nat → Nat) (la : zLand) (ado : Nat → Nat) (ou : zOutl) (ada : Nat → Nat) (al : zLand) (ads : Nat → Nat) (se : zSens) (adu : Nat → Nat) (su : zSubs) (adc : Nat → Nat) (sc : zScho) (h2 : Nat) (adx : Nat → Nat) (ac : zAct) : Option Value → va_W → Prop := fun r u => r = some (.int (r_X6_perform_5 ac.2.1 ac.2.2.1 la.1 la.2.2.2.2.1)) ∧ u = worW G h ad wo ++ (landW G (ad 0) adl (f_X6_perform_5_la wo la ou al se su sc ac) ++ (outW G (ad 1) ado ou ++ (landW G (ado 0) ada al ++ (sensW G (ad 2) ads se ++ (subW G (ad 3) adu su ++ (schW G (ad 4) adc sc ++ (actW G h2 adx ((5 : Int32), ac.2.1, ac.2.2.1, ac.2.2.2.1, ac.2.2.2.2))))))))
set_option maxHeartbeats 4000000 in
set_option maxRecDepth 100000 in
theorem c_X6_perform_5 (l : Launch) (G : zG) (h : Nat) (ad : Nat → Nat) (wo : zWor) (adl : Nat → Nat) (la : zLand) (ado : Nat → Nat) (ou : zOutl) (ada : Nat → Nat) (al : zLand) (ads : Nat → Nat) (se : zSens) (adu : Nat → Nat) (su : zSubs) (adc : Nat → Nat) (sc : zScho) (h2 : Nat) (adx : Nat → Nat) (ac : zAct) (hp : vp_in ac.2.1 48) (hc3 : vp_in ac.2.2.1 3) : zC l yX6_perform cX6_perform 3 (some .int) 1 0 0 G [.ref h, .ref h2] (worW G h ad wo ++ (landW G (ad 0) adl la ++ (outW G (ad 1) ado ou ++ (landW G (ado 0) ada al ++ (sensW G (ad 2) ads se ++ (subW G (ad 3) adu su ++ (schW G (ad 4) adc sc ++ (actW G h2 adx ((5 : Int32), ac.2.1, ac.2.2.1, ac.2.2.2.1, ac.2.2.2.2))))))))) (po_X6_perform_5 G h ad wo adl la ado ou ada al ads se adu su adc sc h2 adx ac) := by
  refine zC.of RX6 rfl (by decide) (Nat.le_of_ble_eq_true rfl) ?_
  intro p e s m args below meth c A ls B hr hlk hnm hW hl
  have hx := B.x
  have hb := B.b
  have hl : lv_has ls 3 [(0, .ref h), (1, .ref h2)] := hl
  refine lv_aload_n hx hb dX6_perform_0 rfl (lv_at hl 1 rfl) ?_
  refine zget B hW 41 rfl lf_X6_50 rfl dX6_perform_1 ?_
  refine lv_tableIn (x := (5 : Int32)) (tgt := 124) hx hb dX6_perform_4 (by decide) (by decide) rfl (by decide) ?_
  refine lv_aload_n hx hb dX6_perform_124 rfl (lv_at hl 0 rfl) ?_
  refine zget B hW 0 rfl lf_X6_12 rfl dX6_perform_125 ?_
  refine lv_aload_n hx hb dX6_perform_128 rfl (lv_at hl 1 rfl) ?_
  refine zget B hW 41 rfl lf_X6_55 rfl dX6_perform_129 ?_
  refine lv_aload_n hx hb dX6_perform_132 rfl (lv_at hl 1 rfl) ?_
  refine zget B hW 41 rfl lf_X6_58 rfl dX6_perform_133 ?_
  refine zcV (w1 := worW G h ad wo) (wc := landW G (ad 0) adl la) (w2 := outW G (ad 1) ado ou ++ (landW G (ado 0) ada al ++ (sensW G (ad 2) ads se ++ (subW G (ad 3) adu su ++ (schW G (ad 4) adc sc ++ (actW G h2 adx ((5 : Int32), ac.2.1, ac.2.2.1, ac.2.2.2.1, ac.2.2.2.2))))))) (As := [.int ac.2.1, .int ac.2.2.1]) B (hW.eq rfl) (c_X1_sendCrew l G (ad 0) adl la ac.2.1 ac.2.2.1 (hp) (hc3)) yd_X1_sendCrew ml_X6_79 0 rfl rfl rfl rfl hl.1 rfl (Nat.le_of_ble_eq_true rfl) ⟨Nat.le_of_ble_eq_true rfl, Nat.le_of_ble_eq_true rfl⟩ ⟨(Nat.le_of_ble_eq_true rfl), (Nat.le_of_ble_eq_true rfl)⟩ dX6_perform_136 (fun v u H locs hp hW => ?_)
  obtain ⟨rfl, rfl⟩ := hp
  have hW := hW.eq (w' := worW G h ad wo ++ (landW G (ad 0) adl (la.1, la.2.1, la.2.2.1, la.2.2.2.1, (g_X1_sendCrew_x_4 la.1 la.2.2.2.2.1 ac.2.1 ac.2.2.1), (g_X1_sendCrew_x_5 la.2.2.2.2.2.1 ac.2.1 ac.2.2.1), la.2.2.2.2.2.2.1, la.2.2.2.2.2.2.2.1, la.2.2.2.2.2.2.2.2.1, la.2.2.2.2.2.2.2.2.2.1, la.2.2.2.2.2.2.2.2.2.2.1, la.2.2.2.2.2.2.2.2.2.2.2.1, la.2.2.2.2.2.2.2.2.2.2.2.2.1, la.2.2.2.2.2.2.2.2.2.2.2.2.2) ++ (outW G (ad 1) ado ou ++ (landW G (ado 0) ada al ++ (sensW G (ad 2) ads se ++ (subW G (ad 3) adu su ++ (schW G (ad 4) adc sc ++ (actW G h2 adx ((5 : Int32), ac.2.1, ac.2.2.1, ac.2.2.2.1, ac.2.2.2.2))))))))) rfl
  exact ziret B hr hlk hW ⟨rfl, rfl⟩ (Nat.le_refl _) (Nat.le_refl _) dX6_perform_139
def g_X6_perform_6_se_0 (se_0 : Nat → Int32) (se_8 : Int32) : Nat → Int32 := (g_X4_enter_se_0 se_0 se_8)
def g_X6_perform_6_se_1 (ac_1 : Int32) (se_1 : Nat → Int32) (se_8 : Int32) : Nat → Int32 := (g_X4_enter_se_1 se_1 se_8 ac_1)
def g_X6_perform_6_se_8 (se_8 : Int32) : Int32 := (g_X4_enter_se_8 se_8)
def f_X6_perform_6_se (wo : zWor) (la : zLand) (ou : zOutl) (al : zLand) (se : zSens) (su : zSubs) (sc : zScho) (ac : zAct) (ns : Nat) : zSens := (g_X6_perform_6_se_0 se.1 se.2.2.2.2.2.2.2.2.1, g_X6_perform_6_se_1 ac.2.1 se.2.1 se.2.2.2.2.2.2.2.2.1, se.2.2.1, se.2.2.2.1, se.2.2.2.2.1, se.2.2.2.2.2.1, se.2.2.2.2.2.2.1, se.2.2.2.2.2.2.2.1, g_X6_perform_6_se_8 se.2.2.2.2.2.2.2.2.1, se.2.2.2.2.2.2.2.2.2)
def r_X6_perform_6 (se_8 : Int32) : Int32 := (r_X4_enter se_8)
abbrev po_X6_perform_6 (G : zG) (h : Nat) (ad : Nat → Nat) (wo : zWor) (adl : Nat → Nat) (la : zLand) (ado : Nat → Nat) (ou : zOutl) (ada : Nat → Nat) (al : zLand) (ads : Nat → Nat) (se : zSens) (adu : Nat → Nat) (su : zSubs) (adc : Nat → Nat) (sc : zScho) (h2 : Nat) (adx : Nat → Nat) (ac : zAct) (ns : Nat) : Option Value → va_W → Prop := fun r u => r = some (.int (r_X6_perform_6 se.2.2.2.2.2.2.2.2.1)) ∧ u = worW G h ad wo ++ (landW G (ad 0) adl la ++ (outW G (ad 1) ado ou ++ (landW G (ado 0) ada al ++ (sensW G (ad 2) ads (f_X6_perform_6_se wo la ou al se su sc ac ns) ++ (subW G (ad 3) adu su ++ (schW G (ad 4) adc sc ++ (actW G h2 adx ((6 : Int32), ac.2.1, ac.2.2.1, ac.2.2.2.1, ac.2.2.2.2))))))))
set_option maxHeartbeats 4000000 in
set_option maxRecDepth 100000 in
theorem c_X6_perform_6 (l : Launch) (G : zG) (h : Nat) (ad : Nat → Nat) (wo : zWor) (adl : Nat → Nat) (la : zLand) (ado : Nat → Nat) (ou : zOutl) (ada : Nat → Nat) (al : zLand) (ads : Nat → Nat) (se : zSens) (adu : Nat → Nat) (su : zSubs) (adc : Nat → Nat) (sc : zScho) (h2 : Nat) (adx : Nat → Nat) (ac : zAct) (ns : Nat) (hcs : se.2.2.2.2.2.2.2.2.1 = nI ns) (hns : ns < 10) : zC l yX6_perform cX6_perform 3 (some .int) 1 0 0 G [.ref h, .ref h2] (worW G h ad wo ++ (landW G (ad 0) adl la ++ (outW G (ad 1) ado ou ++ (landW G (ado 0) ada al ++ (sensW G (ad 2) ads se ++ (subW G (ad 3) adu su ++ (schW G (ad 4) adc sc ++ (actW G h2 adx ((6 : Int32), ac.2.1, ac.2.2.1, ac.2.2.2.1, ac.2.2.2.2))))))))) (po_X6_perform_6 G h ad wo adl la ado ou ada al ads se adu su adc sc h2 adx ac ns) := by
  refine zC.of RX6 rfl (by decide) (Nat.le_of_ble_eq_true rfl) ?_
  intro p e s m args below meth c A ls B hr hlk hnm hW hl
  have hx := B.x
  have hb := B.b
  have hl : lv_has ls 3 [(0, .ref h), (1, .ref h2)] := hl
  refine lv_aload_n hx hb dX6_perform_0 rfl (lv_at hl 1 rfl) ?_
  refine zget B hW 41 rfl lf_X6_50 rfl dX6_perform_1 ?_
  refine lv_tableIn (x := (6 : Int32)) (tgt := 140) hx hb dX6_perform_4 (by decide) (by decide) rfl (by decide) ?_
  refine lv_aload_n hx hb dX6_perform_140 rfl (lv_at hl 0 rfl) ?_
  refine zget B hW 0 rfl lf_X6_28 rfl dX6_perform_141 ?_
  refine lv_aload_n hx hb dX6_perform_144 rfl (lv_at hl 1 rfl) ?_
  refine zget B hW 41 rfl lf_X6_55 rfl dX6_perform_145 ?_
  refine zcV (w1 := worW G h ad wo ++ (landW G (ad 0) adl la ++ (outW G (ad 1) ado ou ++ (landW G (ado 0) ada al)))) (wc := sensW G (ad 2) ads se) (w2 := subW G (ad 3) adu su ++ (schW G (ad 4) adc sc ++ (actW G h2 adx ((6 : Int32), ac.2.1, ac.2.2.1, ac.2.2.2.1, ac.2.2.2.2)))) (As := [.int ac.2.1]) B (hW.eq rfl) (c_X4_enter l G (ad 2) ads se ac.2.1 ns (hcs) (hns)) yd_X4_enter ml_X6_82 0 rfl rfl rfl rfl hl.1 rfl (Nat.le_of_ble_eq_true rfl) ⟨Nat.le_of_ble_eq_true rfl, Nat.le_of_ble_eq_true rfl⟩ ⟨(Nat.le_of_ble_eq_true rfl), (Nat.le_of_ble_eq_true rfl)⟩ dX6_perform_148 (fun v u H locs hp hW => ?_)
  obtain ⟨rfl, rfl⟩ := hp
  have hW := hW.eq (w' := worW G h ad wo ++ (landW G (ad 0) adl la ++ (outW G (ad 1) ado ou ++ (landW G (ado 0) ada al ++ (sensW G (ad 2) ads ((g_X4_enter_se_0 se.1 se.2.2.2.2.2.2.2.2.1), (g_X4_enter_se_1 se.2.1 se.2.2.2.2.2.2.2.2.1 ac.2.1), se.2.2.1, se.2.2.2.1, se.2.2.2.2.1, se.2.2.2.2.2.1, se.2.2.2.2.2.2.1, se.2.2.2.2.2.2.2.1, (g_X4_enter_se_8 se.2.2.2.2.2.2.2.2.1), se.2.2.2.2.2.2.2.2.2) ++ (subW G (ad 3) adu su ++ (schW G (ad 4) adc sc ++ (actW G h2 adx ((6 : Int32), ac.2.1, ac.2.2.1, ac.2.2.2.1, ac.2.2.2.2))))))))) rfl
  exact ziret B hr hlk hW ⟨rfl, rfl⟩ (Nat.le_refl _) (Nat.le_refl _) dX6_perform_151
def g_X6_perform_7_se_2 (ac_1 : Int32) (se_2 : Nat → Int32) : Nat → Int32 := (g_X4_take_se_2 se_2 ac_1)
def g_X6_perform_7_se_3 (ac_1 : Int32) (ac_2 : Int32) (se_3 : Nat → Int32) : Nat → Int32 := (g_X4_take_se_3 se_3 ac_1 ac_2)
def f_X6_perform_7_se (wo : zWor) (la : zLand) (ou : zOutl) (al : zLand) (se : zSens) (su : zSubs) (sc : zScho) (ac : zAct) (ns : Nat) : zSens := (se.1, se.2.1, g_X6_perform_7_se_2 ac.2.1 se.2.2.1, g_X6_perform_7_se_3 ac.2.1 ac.2.2.1 se.2.2.2.1, se.2.2.2.2.1, se.2.2.2.2.2.1, se.2.2.2.2.2.2.1, se.2.2.2.2.2.2.2.1, se.2.2.2.2.2.2.2.2.1, se.2.2.2.2.2.2.2.2.2)
def r_X6_perform_7 (ac_1 : Int32) (se_2 : Nat → Int32) (ns : Nat) : Int32 := (r_X4_take se_2 ac_1 ns)
abbrev po_X6_perform_7 (G : zG) (h : Nat) (ad : Nat → Nat) (wo : zWor) (adl : Nat → Nat) (la : zLand) (ado : Nat → Nat) (ou : zOutl) (ada : Nat → Nat) (al : zLand) (ads : Nat → Nat) (se : zSens) (adu : Nat → Nat) (su : zSubs) (adc : Nat → Nat) (sc : zScho) (h2 : Nat) (adx : Nat → Nat) (ac : zAct) (ns : Nat) : Option Value → va_W → Prop := fun r u => r = some (.int (r_X6_perform_7 ac.2.1 se.2.2.1 ns)) ∧ u = worW G h ad wo ++ (landW G (ad 0) adl la ++ (outW G (ad 1) ado ou ++ (landW G (ado 0) ada al ++ (sensW G (ad 2) ads (f_X6_perform_7_se wo la ou al se su sc ac ns) ++ (subW G (ad 3) adu su ++ (schW G (ad 4) adc sc ++ (actW G h2 adx ((7 : Int32), ac.2.1, ac.2.2.1, ac.2.2.2.1, ac.2.2.2.2))))))))
set_option maxHeartbeats 4000000 in
set_option maxRecDepth 100000 in
theorem c_X6_perform_7 (l : Launch) (G : zG) (h : Nat) (ad : Nat → Nat) (wo : zWor) (adl : Nat → Nat) (la : zLand) (ado : Nat → Nat) (ou : zOutl) (ada : Nat → Nat) (al : zLand) (ads : Nat → Nat) (se : zSens) (adu : Nat → Nat) (su : zSubs) (adc : Nat → Nat) (sc : zScho) (h2 : Nat) (adx : Nat → Nat) (ac : zAct) (ns : Nat) (hcs : se.2.2.2.2.2.2.2.2.1 = nI ns) (hns : ns ≤ 10) (ha : vp_in ac.2.1 10) : zC l yX6_perform cX6_perform 3 (some .int) 1 0 0 G [.ref h, .ref h2] (worW G h ad wo ++ (landW G (ad 0) adl la ++ (outW G (ad 1) ado ou ++ (landW G (ado 0) ada al ++ (sensW G (ad 2) ads se ++ (subW G (ad 3) adu su ++ (schW G (ad 4) adc sc ++ (actW G h2 adx ((7 : Int32), ac.2.1, ac.2.2.1, ac.2.2.2.1, ac.2.2.2.2))))))))) (po_X6_perform_7 G h ad wo adl la ado ou ada al ads se adu su adc sc h2 adx ac ns) := by
  refine zC.of RX6 rfl (by decide) (Nat.le_of_ble_eq_true rfl) ?_
  intro p e s m args below meth c A ls B hr hlk hnm hW hl
  have hx := B.x
  have hb := B.b
  have hl : lv_has ls 3 [(0, .ref h), (1, .ref h2)] := hl
  refine lv_aload_n hx hb dX6_perform_0 rfl (lv_at hl 1 rfl) ?_
  refine zget B hW 41 rfl lf_X6_50 rfl dX6_perform_1 ?_
  refine lv_tableIn (x := (7 : Int32)) (tgt := 152) hx hb dX6_perform_4 (by decide) (by decide) rfl (by decide) ?_
  refine lv_aload_n hx hb dX6_perform_152 rfl (lv_at hl 0 rfl) ?_
  refine zget B hW 0 rfl lf_X6_28 rfl dX6_perform_153 ?_
  refine lv_aload_n hx hb dX6_perform_156 rfl (lv_at hl 1 rfl) ?_
  refine zget B hW 41 rfl lf_X6_55 rfl dX6_perform_157 ?_
  refine lv_aload_n hx hb dX6_perform_160 rfl (lv_at hl 1 rfl) ?_
  refine zget B hW 41 rfl lf_X6_58 rfl dX6_perform_161 ?_
  refine zcV (w1 := worW G h ad wo ++ (landW G (ad 0) adl la ++ (outW G (ad 1) ado ou ++ (landW G (ado 0) ada al)))) (wc := sensW G (ad 2) ads se) (w2 := subW G (ad 3) adu su ++ (schW G (ad 4) adc sc ++ (actW G h2 adx ((7 : Int32), ac.2.1, ac.2.2.1, ac.2.2.2.1, ac.2.2.2.2)))) (As := [.int ac.2.1, .int ac.2.2.1]) B (hW.eq rfl) (c_X4_take l G (ad 2) ads se ac.2.1 ac.2.2.1 ns (hcs) (hns) (ha)) yd_X4_take ml_X6_85 0 rfl rfl rfl rfl hl.1 rfl (Nat.le_of_ble_eq_true rfl) ⟨Nat.le_of_ble_eq_true rfl, Nat.le_of_ble_eq_true rfl⟩ ⟨(Nat.le_of_ble_eq_true rfl), (Nat.le_of_ble_eq_true rfl)⟩ dX6_perform_164 (fun v u H locs hp hW => ?_)
  obtain ⟨rfl, rfl⟩ := hp
  have hW := hW.eq (w' := worW G h ad wo ++ (landW G (ad 0) adl la ++ (outW G (ad 1) ado ou ++ (landW G (ado 0) ada al ++ (sensW G (ad 2) ads (se.1, se.2.1, (g_X4_take_se_2 se.2.2.1 ac.2.1), (g_X4_take_se_3 se.2.2.2.1 ac.2.1 ac.2.2.1), se.2.2.2.2.1, se.2.2.2.2.2.1, se.2.2.2.2.2.2.1, se.2.2.2.2.2.2.2.1, se.2.2.2.2.2.2.2.2.1, se.2.2.2.2.2.2.2.2.2) ++ (subW G (ad 3) adu su ++ (schW G (ad 4) adc sc ++ (actW G h2 adx ((7 : Int32), ac.2.1, ac.2.2.1, ac.2.2.2.1, ac.2.2.2.2))))))))) rfl
  exact ziret B hr hlk hW ⟨rfl, rfl⟩ (Nat.le_refl _) (Nat.le_refl _) dX6_perform_167
def g_X6_perform_8_su_1 (ac_1 : Int32) (su_1 : Nat → Int32) (su_5 : Int32) : Nat → Int32 := (g_X5_enter_su_1 su_1 su_5 ac_1)
def g_X6_perform_8_su_2 (ac_2 : Int32) (su_2 : Nat → Int32) (su_5 : Int32) : Nat → Int32 := (g_X5_enter_su_2 su_2 su_5 ac_2)
def g_X6_perform_8_su_3 (ac_3 : Int32) (su_3 : Nat → Int32) (su_5 : Int32) : Nat → Int32 := (g_X5_enter_su_3 su_3 su_5 ac_3)
def g_X6_perform_8_su_4 (ac_4 : Int32) (su_4 : Nat → Int32) (su_5 : Int32) : Nat → Int32 := (g_X5_enter_su_4 su_4 su_5 ac_4)
def g_X6_perform_8_su_5 (su_5 : Int32) : Int32 := (g_X5_enter_su_5 su_5)
def f_X6_perform_8_su (wo : zWor) (la : zLand) (ou : zOutl) (al : zLand) (se : zSens) (su : zSubs) (sc : zScho) (ac : zAct) (nu : Nat) : zSubs := (su.1, g_X6_perform_8_su_1 ac.2.1 su.2.1 su.2.2.2.2.2.1, g_X6_perform_8_su_2 ac.2.2.1 su.2.2.1 su.2.2.2.2.2.1, g_X6_perform_8_su_3 ac.2.2.2.1 su.2.2.2.1 su.2.2.2.2.2.1, g_X6_perform_8_su_4 ac.2.2.2.2 su.2.2.2.2.1 su.2.2.2.2.2.1, g_X6_perform_8_su_5 su.2.2.2.2.2.1, su.2.2.2.2.2.2.1, su.2.2.2.2.2.2.2.1, su.2.2.2.2.2.2.2.2.1, su.2.2.2.2.2.2.2.2.2.1, su.2.2.2.2.2.2.2.2.2.2.1, su.2.2.2.2.2.2.2.2.2.2.2.1, su.2.2.2.2.2.2.2.2.2.2.2.2)
def r_X6_perform_8 (su_5 : Int32) : Int32 := (r_X5_enter su_5)
abbrev po_X6_perform_8 (G : zG) (h : Nat) (ad : Nat → Nat) (wo : zWor) (adl : Nat → Nat) (la : zLand) (ado : Nat → Nat) (ou : zOutl) (ada : Nat → Nat) (al : zLand) (ads : Nat → Nat) (se : zSens) (adu : Nat → Nat) (su : zSubs) (adc : Nat → Nat) (sc : zScho) (h2 : Nat) (adx : Nat → Nat) (ac : zAct) (nu : Nat) : Option Value → va_W → Prop := fun r u => r = some (.int (r_X6_perform_8 su.2.2.2.2.2.1)) ∧ u = worW G h ad wo ++ (landW G (ad 0) adl la ++ (outW G (ad 1) ado ou ++ (landW G (ado 0) ada al ++ (sensW G (ad 2) ads se ++ (subW G (ad 3) adu (f_X6_perform_8_su wo la ou al se su sc ac nu) ++ (schW G (ad 4) adc sc ++ (actW G h2 adx ((8 : Int32), ac.2.1, ac.2.2.1, ac.2.2.2.1, ac.2.2.2.2))))))))
set_option maxHeartbeats 4000000 in
set_option maxRecDepth 100000 in
theorem c_X6_perform_8 (l : Launch) (G : zG) (h : Nat) (ad : Nat → Nat) (wo : zWor) (adl : Nat → Nat) (la : zLand) (ado : Nat → Nat) (ou : zOutl) (ada : Nat → Nat) (al : zLand) (ads : Nat → Nat) (se : zSens) (adu : Nat → Nat) (su : zSubs) (adc : Nat → Nat) (sc : zScho) (h2 : Nat) (adx : Nat → Nat) (ac : zAct) (nu : Nat) (hcu : su.2.2.2.2.2.1 = nI nu) (hnu : nu < 12) : zC l yX6_perform cX6_perform 3 (some .int) 1 0 0 G [.ref h, .ref h2] (worW G h ad wo ++ (landW G (ad 0) adl la ++ (outW G (ad 1) ado ou ++ (landW G (ado 0) ada al ++ (sensW G (ad 2) ads se ++ (subW G (ad 3) adu su ++ (schW G (ad 4) adc sc ++ (actW G h2 adx ((8 : Int32), ac.2.1, ac.2.2.1, ac.2.2.2.1, ac.2.2.2.2))))))))) (po_X6_perform_8 G h ad wo adl la ado ou ada al ads se adu su adc sc h2 adx ac nu) := by
  refine zC.of RX6 rfl (by decide) (Nat.le_of_ble_eq_true rfl) ?_
  intro p e s m args below meth c A ls B hr hlk hnm hW hl
  have hx := B.x
  have hb := B.b
  have hl : lv_has ls 3 [(0, .ref h), (1, .ref h2)] := hl
  refine lv_aload_n hx hb dX6_perform_0 rfl (lv_at hl 1 rfl) ?_
  refine zget B hW 41 rfl lf_X6_50 rfl dX6_perform_1 ?_
  refine lv_tableIn (x := (8 : Int32)) (tgt := 168) hx hb dX6_perform_4 (by decide) (by decide) rfl (by decide) ?_
  refine lv_aload_n hx hb dX6_perform_168 rfl (lv_at hl 0 rfl) ?_
  refine zget B hW 0 rfl lf_X6_35 rfl dX6_perform_169 ?_
  refine lv_aload_n hx hb dX6_perform_172 rfl (lv_at hl 1 rfl) ?_
  refine zget B hW 41 rfl lf_X6_55 rfl dX6_perform_173 ?_
  refine lv_aload_n hx hb dX6_perform_176 rfl (lv_at hl 1 rfl) ?_
  refine zget B hW 41 rfl lf_X6_58 rfl dX6_perform_177 ?_
  refine lv_aload_n hx hb dX6_perform_180 rfl (lv_at hl 1 rfl) ?_
  refine zget B hW 41 rfl lf_X6_68 rfl dX6_perform_181 ?_
  refine lv_aload_n hx hb dX6_perform_184 rfl (lv_at hl 1 rfl) ?_
  refine zget B hW 41 rfl lf_X6_88 rfl dX6_perform_185 ?_
  refine zcV (w1 := worW G h ad wo ++ (landW G (ad 0) adl la ++ (outW G (ad 1) ado ou ++ (landW G (ado 0) ada al ++ (sensW G (ad 2) ads se))))) (wc := subW G (ad 3) adu su) (w2 := schW G (ad 4) adc sc ++ (actW G h2 adx ((8 : Int32), ac.2.1, ac.2.2.1, ac.2.2.2.1, ac.2.2.2.2))) (As := [.int ac.2.1, .int ac.2.2.1, .int ac.2.2.2.1, .int ac.2.2.2.2]) B (hW.eq rfl) (c_X5_enter l G (ad 3) adu su ac.2.1 ac.2.2.1 ac.2.2.2.1 ac.2.2.2.2 nu (hcu) (hnu)) yd_X5_enter ml_X6_91 0 rfl rfl rfl rfl hl.1 rfl (Nat.le_of_ble_eq_true rfl) ⟨Nat.le_of_ble_eq_true rfl, Nat.le_of_ble_eq_true rfl⟩ ⟨(Nat.le_of_ble_eq_true rfl), (Nat.le_of_ble_eq_true rfl)⟩ dX6_perform_188 (fun v u H locs hp hW => ?_)
  obtain ⟨rfl, rfl⟩ := hp
  have hW := hW.eq (w' := worW G h ad wo ++ (landW G (ad 0) adl la ++ (outW G (ad 1) ado ou ++ (landW G (ado 0) ada al ++ (sensW G (ad 2) ads se ++ (subW G (ad 3) adu (su.1, (g_X5_enter_su_1 su.2.1 su.2.2.2.2.2.1 ac.2.1), (g_X5_enter_su_2 su.2.2.1 su.2.2.2.2.2.1 ac.2.2.1), (g_X5_enter_su_3 su.2.2.2.1 su.2.2.2.2.2.1 ac.2.2.2.1), (g_X5_enter_su_4 su.2.2.2.2.1 su.2.2.2.2.2.1 ac.2.2.2.2), (g_X5_enter_su_5 su.2.2.2.2.2.1), su.2.2.2.2.2.2.1, su.2.2.2.2.2.2.2.1, su.2.2.2.2.2.2.2.2.1, su.2.2.2.2.2.2.2.2.2.1, su.2.2.2.2.2.2.2.2.2.2.1, su.2.2.2.2.2.2.2.2.2.2.2.1, su.2.2.2.2.2.2.2.2.2.2.2.2) ++ (schW G (ad 4) adc sc ++ (actW G h2 adx ((8 : Int32), ac.2.1, ac.2.2.1, ac.2.2.2.1, ac.2.2.2.2))))))))) rfl
  exact ziret B hr hlk hW ⟨rfl, rfl⟩ (Nat.le_refl _) (Nat.le_refl _) dX6_perform_191
def g_X6_perform_9_sc_0 (sc_0 : Nat → Int32) (sc_3 : Int32) : Nat → Int32 := (g_X3_enter_sc_0 sc_0 sc_3)
def g_X6_perform_9_sc_1 (ac_1 : Int32) (sc_1 : Nat → Int32) (sc_3 : Int32) : Nat → Int32 := (g_X3_enter_sc_1 sc_1 sc_3 ac_1)
def g_X6_perform_9_sc_2 (ac_2 : Int32) (sc_2 : Nat → Int32) (sc_3 : Int32) : Nat → Int32 := (g_X3_enter_sc_2 sc_2 sc_3 ac_2)
def g_X6_perform_9_sc_3 (sc_3 : Int32) : Int32 := (g_X3_enter_sc_3 sc_3)
def f_X6_perform_9_sc (wo : zWor) (la : zLand) (ou : zOutl) (al : zLand) (se : zSens) (su : zSubs) (sc : zScho) (ac : zAct) (nc : Nat) : zScho := (g_X6_perform_9_sc_0 sc.1 sc.2.2.2.1, g_X6_perform_9_sc_1 ac.2.1 sc.2.1 sc.2.2.2.1, g_X6_perform_9_sc_2 ac.2.2.1 sc.2.2.1 sc.2.2.2.1, g_X6_perform_9_sc_3 sc.2.2.2.1, sc.2.2.2.2)
def r_X6_perform_9 (sc_3 : Int32) : Int32 := (r_X3_enter sc_3)
abbrev po_X6_perform_9 (G : zG) (h : Nat) (ad : Nat → Nat) (wo : zWor) (adl : Nat → Nat) (la : zLand) (ado : Nat → Nat) (ou : zOutl) (ada : Nat → Nat) (al : zLand) (ads : Nat → Nat) (se : zSens) (adu : Nat → Nat) (su : zSubs) (adc : Nat → Nat) (sc : zScho) (h2 : Nat) (adx : Nat → Nat) (ac : zAct) (nc : Nat) : Option Value → va_W → Prop := fun r u => r = some (.int (r_X6_perform_9 sc.2.2.2.1)) ∧ u = worW G h ad wo ++ (landW G (ad 0) adl la ++ (outW G (ad 1) ado ou ++ (landW G (ado 0) ada al ++ (sensW G (ad 2) ads se ++ (subW G (ad 3) adu su ++ (schW G (ad 4) adc (f_X6_perform_9_sc wo la ou al se su sc ac nc) ++ (actW G h2 adx ((9 : Int32), ac.2.1, ac.2.2.1, ac.2.2.2.1, ac.2.2.2.2))))))))
set_option maxHeartbeats 4000000 in
set_option maxRecDepth 100000 in
theorem c_X6_perform_9 (l : Launch) (G : zG) (h : Nat) (ad : Nat → Nat) (wo : zWor) (adl : Nat → Nat) (la : zLand) (ado : Nat → Nat) (ou : zOutl) (ada : Nat → Nat) (al : zLand) (ads : Nat → Nat) (se : zSens) (adu : Nat → Nat) (su : zSubs) (adc : Nat → Nat) (sc : zScho) (h2 : Nat) (adx : Nat → Nat) (ac : zAct) (nc : Nat) (hcc : sc.2.2.2.1 = nI nc) (hnc : nc < 6) : zC l yX6_perform cX6_perform 3 (some .int) 1 0 0 G [.ref h, .ref h2] (worW G h ad wo ++ (landW G (ad 0) adl la ++ (outW G (ad 1) ado ou ++ (landW G (ado 0) ada al ++ (sensW G (ad 2) ads se ++ (subW G (ad 3) adu su ++ (schW G (ad 4) adc sc ++ (actW G h2 adx ((9 : Int32), ac.2.1, ac.2.2.1, ac.2.2.2.1, ac.2.2.2.2))))))))) (po_X6_perform_9 G h ad wo adl la ado ou ada al ads se adu su adc sc h2 adx ac nc) := by
  refine zC.of RX6 rfl (by decide) (Nat.le_of_ble_eq_true rfl) ?_
  intro p e s m args below meth c A ls B hr hlk hnm hW hl
  have hx := B.x
  have hb := B.b
  have hl : lv_has ls 3 [(0, .ref h), (1, .ref h2)] := hl
  refine lv_aload_n hx hb dX6_perform_0 rfl (lv_at hl 1 rfl) ?_
  refine zget B hW 41 rfl lf_X6_50 rfl dX6_perform_1 ?_
  refine lv_tableIn (x := (9 : Int32)) (tgt := 192) hx hb dX6_perform_4 (by decide) (by decide) rfl (by decide) ?_
  refine lv_aload_n hx hb dX6_perform_192 rfl (lv_at hl 0 rfl) ?_
  refine zget B hW 0 rfl lf_X6_42 rfl dX6_perform_193 ?_
  refine lv_aload_n hx hb dX6_perform_196 rfl (lv_at hl 1 rfl) ?_
  refine zget B hW 41 rfl lf_X6_55 rfl dX6_perform_197 ?_
  refine lv_aload_n hx hb dX6_perform_200 rfl (lv_at hl 1 rfl) ?_
  refine zget B hW 41 rfl lf_X6_58 rfl dX6_perform_201 ?_
  refine zcV (w1 := worW G h ad wo ++ (landW G (ad 0) adl la ++ (outW G (ad 1) ado ou ++ (landW G (ado 0) ada al ++ (sensW G (ad 2) ads se ++ (subW G (ad 3) adu su)))))) (wc := schW G (ad 4) adc sc) (w2 := actW G h2 adx ((9 : Int32), ac.2.1, ac.2.2.1, ac.2.2.2.1, ac.2.2.2.2)) (As := [.int ac.2.1, .int ac.2.2.1]) B (hW.eq rfl) (c_X3_enter l G (ad 4) adc sc ac.2.1 ac.2.2.1 nc (hcc) (hnc)) yd_X3_enter ml_X6_94 0 rfl rfl rfl rfl hl.1 rfl (Nat.le_of_ble_eq_true rfl) ⟨Nat.le_of_ble_eq_true rfl, Nat.le_of_ble_eq_true rfl⟩ ⟨(Nat.le_of_ble_eq_true rfl), (Nat.le_of_ble_eq_true rfl)⟩ dX6_perform_204 (fun v u H locs hp hW => ?_)
  obtain ⟨rfl, rfl⟩ := hp
  have hW := hW.eq (w' := worW G h ad wo ++ (landW G (ad 0) adl la ++ (outW G (ad 1) ado ou ++ (landW G (ado 0) ada al ++ (sensW G (ad 2) ads se ++ (subW G (ad 3) adu su ++ (schW G (ad 4) adc ((g_X3_enter_sc_0 sc.1 sc.2.2.2.1), (g_X3_enter_sc_1 sc.2.1 sc.2.2.2.1 ac.2.1), (g_X3_enter_sc_2 sc.2.2.1 sc.2.2.2.1 ac.2.2.1), (g_X3_enter_sc_3 sc.2.2.2.1), sc.2.2.2.2) ++ (actW G h2 adx ((9 : Int32), ac.2.1, ac.2.2.1, ac.2.2.2.1, ac.2.2.2.2))))))))) rfl
  exact ziret B hr hlk hW ⟨rfl, rfl⟩ (Nat.le_refl _) (Nat.le_refl _) dX6_perform_207
