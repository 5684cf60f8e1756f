set_option maxRecDepth 100000 in
theorem thr_X7_64 : zThr RX7 "java/lang/UnsupportedOperationException" "nothing can burn in this cell" ["java/lang/RuntimeException", "java/lang/Exception"] 62 64 66 := ⟨by decide +kernel, by decide +kernel, zMem 688 (by decide +kernel) rfl, zMem 57 (by decide +kernel) rfl, by decide +kernel, zSubO [47, 600, 552, 560, 563, 565, 601, 602, 73, 74, 546, 551, 561, 568, 594, 569, 595, 570, 596, 547, 549, 597, 544, 545, 567, 597, 699, 700, 701, 538, 588, 538, 539, 540, 541, 590, 541, 542, 543, 544, 592, 698, 689, 690, 691, 559, 692, 693, 694, 695, 566, 598, 696] (by decide +kernel) (by decide +kernel), by decide +kernel⟩
set_option maxRecDepth 100000 in
theorem thr_X7_72 : zThr RX7 "java/lang/UnsupportedOperationException" "no line can be dug in this cell" ["java/lang/RuntimeException", "java/lang/Exception"] 62 72 66 := ⟨by decide +kernel, by decide +kernel, zMem 688 (by decide +kernel) rfl, zMem 57 (by decide +kernel) rfl, by decide +kernel, zSubO [47, 600, 552, 560, 563, 565, 601, 602, 73, 74, 546, 551, 561, 568, 594, 569, 595, 570, 596, 547, 549, 597, 544, 545, 567, 597, 699, 700, 701, 538, 588, 538, 539, 540, 541, 590, 541, 542, 543, 544, 592, 698, 689, 690, 691, 559, 692, 693, 694, 695, 566, 598, 696] (by decide +kernel) (by decide +kernel), by decide +kernel⟩
set_option maxRecDepth 100000 in
theorem thr_X7_101 : zThr RX7 "java/lang/UnsupportedOperationException" "too few have read" ["java/lang/RuntimeException", "java/lang/Exception"] 62 101 66 := ⟨by decide +kernel, by decide +kernel, zMem 688 (by decide +kernel) rfl, zMem 57 (by decide +kernel) rfl, by decide +kernel, zSubO [47, 600, 552, 560, 563, 565, 601, 602, 73, 74, 546, 551, 561, 568, 594, 569, 595, 570, 596, 547, 549, 597, 544, 545, 567, 597, 699, 700, 701, 538, 588, 538, 539, 540, 541, 590, 541, 542, 543, 544, 592, 698, 689, 690, 691, 559, 692, 693, 694, 695, 566, 598, 696] (by decide +kernel) (by decide +kernel), by decide +kernel⟩
set_option maxRecDepth 100000 in
theorem thr_X7_128 : zThr RX7 "java/lang/IllegalStateException" "no hour is left behind the last one" ["java/lang/RuntimeException", "java/lang/Exception"] 126 128 130 := ⟨by decide +kernel, by decide +kernel, zMem 737 (by decide +kernel) rfl, zMem 58 (by decide +kernel) rfl, by decide +kernel, zSubO [47, 600, 552, 560, 563, 565, 601, 602, 73, 74, 546, 551, 561, 568, 594, 569, 595, 570, 596, 547, 549, 597, 544, 545, 567, 597, 748, 749, 750, 538, 588, 538, 539, 540, 541, 590, 541, 542, 543, 544, 592, 747, 738, 739, 740, 557, 741, 742, 743, 744, 566, 598, 745] (by decide +kernel) (by decide +kernel), by decide +kernel⟩
set_option maxRecDepth 100000 in
theorem thr_X7_183 : zThr RX7 "java/lang/ArithmeticException" "there are no sensors" ["java/lang/RuntimeException", "java/lang/Exception"] 181 183 185 := ⟨by decide +kernel, by decide +kernel, zMem 919 (by decide +kernel) rfl, zMem 66 (by decide +kernel) rfl, by decide +kernel, zSubO [47, 600, 552, 560, 563, 565, 601, 602, 73, 74, 546, 551, 561, 568, 594, 569, 595, 570, 596, 547, 549, 597, 544, 545, 567, 597, 903, 904, 905, 538, 588, 538, 539, 540, 541, 590, 541, 542, 543, 544, 592, 921, 902, 913, 914, 554, 908, 909, 911, 907, 566, 598, 906] (by decide +kernel) (by decide +kernel), by decide +kernel⟩
set_option maxRecDepth 100000 in
theorem thr_X7_218 : zThr RX7 "java/lang/IndexOutOfBoundsException" "there is no such cell" ["java/lang/RuntimeException", "java/lang/Exception"] 216 218 220 := ⟨by decide +kernel, by decide +kernel, zMem 618 (by decide +kernel) rfl, zMem 50 (by decide +kernel) rfl, by decide +kernel, zSubO [47, 600, 552, 560, 563, 565, 601, 602, 73, 74, 546, 551, 561, 568, 594, 569, 595, 570, 596, 547, 549, 597, 544, 545, 567, 597, 535, 536, 537, 538, 588, 538, 539, 540, 541, 590, 541, 542, 543, 544, 592, 628, 619, 620, 621, 558, 622, 623, 624, 625, 566, 598, 626] (by decide +kernel) (by decide +kernel), by decide +kernel⟩
set_option maxRecDepth 100000 in
theorem thr_X7_221 : zThr RX7 "java/lang/IndexOutOfBoundsException" "there is none of this number" ["java/lang/RuntimeException", "java/lang/Exception"] 216 221 220 := ⟨by decide +kernel, by decide +kernel, zMem 618 (by decide +kernel) rfl, zMem 50 (by decide +kernel) rfl, by decide +kernel, zSubO [47, 600, 552, 560, 563, 565, 601, 602, 73, 74, 546, 551, 561, 568, 594, 569, 595, 570, 596, 547, 549, 597, 544, 545, 567, 597, 535, 536, 537, 538, 588, 538, 539, 540, 541, 590, 541, 542, 543, 544, 592, 628, 619, 620, 621, 558, 622, 623, 624, 625, 566, 598, 626] (by decide +kernel) (by decide +kernel), by decide +kernel⟩
set_option maxRecDepth 100000 in
theorem thr_X7_225 : zThr RX7 "java/lang/IllegalArgumentException" "a number is out of range" ["java/lang/RuntimeException", "java/lang/Exception"] 223 225 227 := ⟨by decide +kernel, by decide +kernel, zMem 634 (by decide +kernel) rfl, zMem 53 (by decide +kernel) rfl, by decide +kernel, zSubO [47, 600, 552, 560, 563, 565, 601, 602, 73, 74, 546, 551, 561, 568, 594, 569, 595, 570, 596, 547, 549, 597, 544, 545, 567, 597, 645, 646, 647, 538, 588, 538, 539, 540, 541, 590, 541, 542, 543, 544, 592, 644, 635, 636, 637, 556, 638, 639, 640, 641, 566, 598, 642] (by decide +kernel) (by decide +kernel), by decide +kernel⟩
set_option maxRecDepth 100000 in
theorem thr_X7_228 : zThr RX7 "java/lang/IllegalStateException" "there are as many as there may be" ["java/lang/RuntimeException", "java/lang/Exception"] 126 228 130 := ⟨by decide +kernel, by decide +kernel, zMem 737 (by decide +kernel) rfl, zMem 58 (by decide +kernel) rfl, by decide +kernel, zSubO [47, 600, 552, 560, 563, 565, 601, 602, 73, 74, 546, 551, 561, 568, 594, 569, 595, 570, 596, 547, 549, 597, 544, 545, 567, 597, 748, 749, 750, 538, 588, 538, 539, 540, 541, 590, 541, 542, 543, 544, 592, 747, 738, 739, 740, 557, 741, 742, 743, 744, 566, 598, 745] (by decide +kernel) (by decide +kernel), by decide +kernel⟩
abbrev hh_L_setFuel : List (Nat × Nat × Nat × Nat) := [(0, 12, 15, 13), (0, 12, 19, 15)]
theorem yd_L_setFuel : zYh yL_setFuel cL_setFuel 6 (some .int) hh_L_setFuel 5 := ⟨zMem 529 (by decide +kernel) rfl, zMem 33 (by decide +kernel) rfl, ⟨by decide +kernel, by decide +kernel, by decide +kernel⟩, zMem 528 (by decide +kernel) rfl⟩
abbrev hh_L_light : List (Nat × Nat × Nat × Nat) := [(0, 19, 22, 13), (0, 19, 26, 15), (0, 19, 30, 21)]
theorem yd_L_light : zYh yL_light cL_light 6 (some .int) hh_L_light 5 := ⟨zMem 682 (by decide +kernel) rfl, zMem 33 (by decide +kernel) rfl, ⟨by decide +kernel, by decide +kernel, by decide +kernel⟩, zMem 681 (by decide +kernel) rfl⟩
abbrev hh_L_setWind : List (Nat × Nat × Nat × Nat) := [(0, 12, 15, 15)]
theorem yd_L_setWind : zYh yL_setWind cL_setWind 6 (some .int) hh_L_setWind 5 := ⟨zMem 706 (by decide +kernel) rfl, zMem 33 (by decide +kernel) rfl, ⟨by decide +kernel, by decide +kernel, by decide +kernel⟩, zMem 705 (by decide +kernel) rfl⟩
abbrev hh_L_setRain : List (Nat × Nat × Nat × Nat) := [(0, 9, 12, 15)]
theorem yd_L_setRain : zYh yL_setRain cL_setRain 4 (some .int) hh_L_setRain 3 := ⟨zMem 713 (by decide +kernel) rfl, zMem 33 (by decide +kernel) rfl, ⟨by decide +kernel, by decide +kernel, by decide +kernel⟩, zMem 712 (by decide +kernel) rfl⟩
abbrev hh_L_digLine : List (Nat × Nat × Nat × Nat) := [(0, 12, 15, 13), (0, 12, 19, 15), (0, 12, 23, 21)]
theorem yd_L_digLine : zYh yL_digLine cL_digLine 6 (some .int) hh_L_digLine 5 := ⟨zMem 720 (by decide +kernel) rfl, zMem 33 (by decide +kernel) rfl, ⟨by decide +kernel, by decide +kernel, by decide +kernel⟩, zMem 719 (by decide +kernel) rfl⟩
abbrev hh_L_addSensor : List (Nat × Nat × Nat × Nat) := [(0, 10, 13, 13), (0, 10, 17, 37)]
theorem yd_L_addSensor : zYh yL_addSensor cL_addSensor 5 (some .int) hh_L_addSensor 4 := ⟨zMem 728 (by decide +kernel) rfl, zMem 33 (by decide +kernel) rfl, ⟨by decide +kernel, by decide +kernel, by decide +kernel⟩, zMem 727 (by decide +kernel) rfl⟩
abbrev hh_L_read : List (Nat × Nat × Nat × Nat) := [(0, 10, 13, 13), (0, 10, 17, 15)]
theorem yd_L_read : zYh yL_read cL_read 5 (some .int) hh_L_read 4 := ⟨zMem 755 (by decide +kernel) rfl, zMem 33 (by decide +kernel) rfl, ⟨by decide +kernel, by decide +kernel, by decide +kernel⟩, zMem 754 (by decide +kernel) rfl⟩
abbrev hh_L_trust : List (Nat × Nat × Nat × Nat) := [(0, 9, 12, 13)]
theorem yd_L_trust : zYh yL_trust cL_trust 4 (some .int) hh_L_trust 3 := ⟨zMem 766 (by decide +kernel) rfl, zMem 33 (by decide +kernel) rfl, ⟨by decide +kernel, by decide +kernel, by decide +kernel⟩, zMem 765 (by decide +kernel) rfl⟩
abbrev hh_L_stateOf : List (Nat × Nat × Nat × Nat) := [(0, 9, 12, 13)]
theorem yd_L_stateOf : zYh yL_stateOf cL_stateOf 4 (some .int) hh_L_stateOf 3 := ⟨zMem 773 (by decide +kernel) rfl, zMem 33 (by decide +kernel) rfl, ⟨by decide +kernel, by decide +kernel, by decide +kernel⟩, zMem 772 (by decide +kernel) rfl⟩
abbrev hh_L_judged : List (Nat × Nat × Nat × Nat) := [(0, 9, 12, 13), (0, 9, 15, 21)]
theorem yd_L_judged : zYh yL_judged cL_judged 4 (some .int) hh_L_judged 3 := ⟨zMem 784 (by decide +kernel) rfl, zMem 33 (by decide +kernel) rfl, ⟨by decide +kernel, by decide +kernel, by decide +kernel⟩, zMem 783 (by decide +kernel) rfl⟩
abbrev hh_L_subscribe : List (Nat × Nat × Nat × Nat) := [(0, 16, 19, 13), (0, 16, 23, 15), (0, 16, 27, 37)]
theorem yd_L_subscribe : zYh yL_subscribe cL_subscribe 8 (some .int) hh_L_subscribe 7 := ⟨zMem 793 (by decide +kernel) rfl, zMem 33 (by decide +kernel) rfl, ⟨by decide +kernel, by decide +kernel, by decide +kernel⟩, zMem 792 (by decide +kernel) rfl⟩
abbrev hh_L_addSchool : List (Nat × Nat × Nat × Nat) := [(0, 12, 15, 13), (0, 12, 19, 15), (0, 12, 23, 37)]
theorem yd_L_addSchool : zYh yL_addSchool cL_addSchool 6 (some .int) hh_L_addSchool 5 := ⟨zMem 800 (by decide +kernel) rfl, zMem 33 (by decide +kernel) rfl, ⟨by decide +kernel, by decide +kernel, by decide +kernel⟩, zMem 799 (by decide +kernel) rfl⟩
abbrev hh_L_isOpen : List (Nat × Nat × Nat × Nat) := [(0, 16, 19, 13)]
theorem yd_L_isOpen : zYh yL_isOpen cL_isOpen 4 (some .int) hh_L_isOpen 3 := ⟨zMem 807 (by decide +kernel) rfl, zMem 33 (by decide +kernel) rfl, ⟨by decide +kernel, by decide +kernel, by decide +kernel⟩, zMem 806 (by decide +kernel) rfl⟩
abbrev hh_L_isWarned : List (Nat × Nat × Nat × Nat) := [(0, 16, 19, 13)]
theorem yd_L_isWarned : zYh yL_isWarned cL_isWarned 4 (some .int) hh_L_isWarned 3 := ⟨zMem 814 (by decide +kernel) rfl, zMem 33 (by decide +kernel) rfl, ⟨by decide +kernel, by decide +kernel, by decide +kernel⟩, zMem 813 (by decide +kernel) rfl⟩
abbrev hh_L_pass : List (Nat × Nat × Nat × Nat) := [(0, 9, 12, 15), (0, 9, 15, 37)]
theorem yd_L_pass : zYh yL_pass cL_pass 4 (some .int) hh_L_pass 3 := ⟨zMem 821 (by decide +kernel) rfl, zMem 33 (by decide +kernel) rfl, ⟨by decide +kernel, by decide +kernel, by decide +kernel⟩, zMem 820 (by decide +kernel) rfl⟩
abbrev hh_L_fuel : List (Nat × Nat × Nat × Nat) := [(0, 10, 13, 13)]
theorem yd_L_fuel : zYh yL_fuel cL_fuel 5 (some .int) hh_L_fuel 4 := ⟨zMem 829 (by decide +kernel) rfl, zMem 33 (by decide +kernel) rfl, ⟨by decide +kernel, by decide +kernel, by decide +kernel⟩, zMem 828 (by decide +kernel) rfl⟩
abbrev hh_L_fire : List (Nat × Nat × Nat × Nat) := [(0, 10, 13, 13)]
theorem yd_L_fire : zYh yL_fire cL_fire 5 (some .int) hh_L_fire 4 := ⟨zMem 836 (by decide +kernel) rfl, zMem 33 (by decide +kernel) rfl, ⟨by decide +kernel, by decide +kernel, by decide +kernel⟩, zMem 835 (by decide +kernel) rfl⟩
abbrev hh_L_smoke : List (Nat × Nat × Nat × Nat) := [(0, 10, 13, 13)]
theorem yd_L_smoke : zYh yL_smoke cL_smoke 5 (some .int) hh_L_smoke 4 := ⟨zMem 843 (by decide +kernel) rfl, zMem 33 (by decide +kernel) rfl, ⟨by decide +kernel, by decide +kernel, by decide +kernel⟩, zMem 842 (by decide +kernel) rfl⟩
abbrev hh_L_hasLine : List (Nat × Nat × Nat × Nat) := [(0, 17, 20, 13)]
theorem yd_L_hasLine : zYh yL_hasLine cL_hasLine 5 (some .int) hh_L_hasLine 4 := ⟨zMem 850 (by decide +kernel) rfl, zMem 33 (by decide +kernel) rfl, ⟨by decide +kernel, by decide +kernel, by decide +kernel⟩, zMem 849 (by decide +kernel) rfl⟩
abbrev hh_L_left : List (Nat × Nat × Nat × Nat) := [(0, 9, 12, 15)]
theorem yd_L_left : zYh yL_left cL_left 4 (some .int) hh_L_left 3 := ⟨zMem 857 (by decide +kernel) rfl, zMem 33 (by decide +kernel) rfl, ⟨by decide +kernel, by decide +kernel, by decide +kernel⟩, zMem 856 (by decide +kernel) rfl⟩
abbrev hh_L_forecast : List (Nat × Nat × Nat × Nat) := [(0, 12, 15, 13), (0, 12, 19, 15)]
theorem yd_L_forecast : zYh yL_forecast cL_forecast 6 (some .int) hh_L_forecast 5 := ⟨zMem 864 (by decide +kernel) rfl, zMem 33 (by decide +kernel) rfl, ⟨by decide +kernel, by decide +kernel, by decide +kernel⟩, zMem 863 (by decide +kernel) rfl⟩
abbrev hh_L_worst : List (Nat × Nat × Nat × Nat) := [(0, 12, 15, 13), (0, 12, 19, 15)]
theorem yd_L_worst : zYh yL_worst cL_worst 6 (some .int) hh_L_worst 5 := ⟨zMem 872 (by decide +kernel) rfl, zMem 33 (by decide +kernel) rfl, ⟨by decide +kernel, by decide +kernel, by decide +kernel⟩, zMem 871 (by decide +kernel) rfl⟩
abbrev hh_L_warnedAt : List (Nat × Nat × Nat × Nat) := [(0, 9, 12, 13)]
theorem yd_L_warnedAt : zYh yL_warnedAt cL_warnedAt 4 (some .int) hh_L_warnedAt 3 := ⟨zMem 879 (by decide +kernel) rfl, zMem 33 (by decide +kernel) rfl, ⟨by decide +kernel, by decide +kernel, by decide +kernel⟩, zMem 878 (by decide +kernel) rfl⟩
abbrev hh_L_warnedWhom : List (Nat × Nat × Nat × Nat) := [(0, 9, 12, 13)]
theorem yd_L_warnedWhom : zYh yL_warnedWhom cL_warnedWhom 4 (some .int) hh_L_warnedWhom 3 := ⟨zMem 886 (by decide +kernel) rfl, zMem 33 (by decide +kernel) rfl, ⟨by decide +kernel, by decide +kernel, by decide +kernel⟩, zMem 885 (by decide +kernel) rfl⟩
abbrev hh_L_warnedBy : List (Nat × Nat × Nat × Nat) := [(0, 9, 12, 13)]
theorem yd_L_warnedBy : zYh yL_warnedBy cL_warnedBy 4 (some .int) hh_L_warnedBy 3 := ⟨zMem 893 (by decide +kernel) rfl, zMem 33 (by decide +kernel) rfl, ⟨by decide +kernel, by decide +kernel, by decide +kernel⟩, zMem 892 (by decide +kernel) rfl⟩
abbrev hh_L_trustShare : List (Nat × Nat × Nat × Nat) := [(0, 8, 11, 104)]
theorem yd_L_trustShare : zYh yL_trustShare cL_trustShare 3 (some .int) hh_L_trustShare 2 := ⟨zMem 900 (by decide +kernel) rfl, zMem 33 (by decide +kernel) rfl, ⟨by decide +kernel, by decide +kernel, by decide +kernel⟩, zMem 899 (by decide +kernel) rfl⟩
theorem kx_IndexOutOfBoundsException : Cond.castable "java/lang/IndexOutOfBoundsException" "java/lang/IndexOutOfBoundsException" ∈ zNest := zMemN 620 (by decide +kernel) rfl
theorem kx_IllegalArgumentException : Cond.castable "java/lang/IllegalArgumentException" "java/lang/IllegalArgumentException" ∈ zNest := zMemN 636 (by decide +kernel) rfl
theorem kx_IllegalStateException : Cond.castable "java/lang/IllegalStateException" "java/lang/IllegalStateException" ∈ zNest := zMemN 739 (by decide +kernel) rfl
theorem kx_UnsupportedOperationException : Cond.castable "java/lang/UnsupportedOperationException" "java/lang/UnsupportedOperationException" ∈ zNest := zMemN 690 (by decide +kernel) rfl
theorem kx_ArithmeticException : Cond.castable "java/lang/ArithmeticException" "java/lang/ArithmeticException" ∈ zNest := zMemN 913 (by decide +kernel) rfl
theorem kq_same : Cond.sameMethod "[I" "java/lang/Object" "clone" "()Ljava/lang/Object;" ∈ zAll := zMem 484 (by decide +kernel) rfl
theorem kq_nat : Cond.native ⟨"java/lang/Object", "clone", "()Ljava/lang/Object;"⟩ ∈ zAll := zMem 485 (by decide +kernel) rfl
theorem kq_im : Cond.instanceMethod ⟨"java/lang/Object", "clone", "()Ljava/lang/Object;"⟩ ∈ zAll := zMem 486 (by decide +kernel) rfl
theorem kq_sel : Cond.selects "[I" ⟨"[I", "clone", "()Ljava/lang/Object;"⟩ ⟨"java/lang/Object", "clone", "()Ljava/lang/Object;"⟩ ∈ zAll := zMem 487 (by decide +kernel) rfl
theorem kq_cast : Cond.castable "[I" "java/lang/Cloneable" ∈ zNest := zMemN 488 (by decide +kernel) rfl
theorem kn_X7_194 : Cond.constantDouble RX7 194 (4631952216750555136 : UInt64) ∈ zAll := zMem 353 (by decide +kernel) rfl
theorem kn_X8_71 : Cond.constantLong RX8 71 (10 : Int64) ∈ zAll := zMem 1378 (by decide +kernel) rfl
theorem kn_X12_240 : Cond.constantDouble RX12 240 (4631952216750555136 : UInt64) ∈ zAll := zMem 1527 (by decide +kernel) rfl
theorem lg_Jx4a65c_39 : Cond.fieldLink RJx4a65c 39 "java/util/ArrayList" "DEFAULTCAPACITY_EMPTY_ELEMENTDATA" "[Ljava/lang/Object;" ∈ zAll := zMem 1004 (by decide +kernel) rfl
