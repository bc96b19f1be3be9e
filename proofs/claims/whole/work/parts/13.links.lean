theorem yo_1 : tm_yo (tm_mt 1) 2 := ⟨(cwl0 _ (List.mem_of_getElem? (i := 0) rfl)), (wl0 _ (List.mem_of_getElem? (i := 0) rfl)), by decide +kernel⟩
theorem yo_2 : tm_yo (tm_mt 2) 0 := ⟨(cwl0 _ (List.mem_of_getElem? (i := 1) rfl)), (wl0 _ (List.mem_of_getElem? (i := 0) rfl)), by decide +kernel⟩
theorem yo_3 : tm_yo (tm_mt 3) 0 := ⟨(cwl0 _ (List.mem_of_getElem? (i := 2) rfl)), (wl0 _ (List.mem_of_getElem? (i := 1) rfl)), by decide +kernel⟩
theorem yo_4 : tm_yo (tm_mt 4) 0 := ⟨(cwl0 _ (List.mem_of_getElem? (i := 3) rfl)), (wl0 _ (List.mem_of_getElem? (i := 2) rfl)), by decide +kernel⟩
theorem yo_5 : tm_yo (tm_mt 5) 0 := ⟨(cwl0 _ (List.mem_of_getElem? (i := 4) rfl)), (wl0 _ (List.mem_of_getElem? (i := 3) rfl)), by decide +kernel⟩
theorem yo_6 : tm_yo (tm_mt 6) 0 := ⟨(cwl0 _ (List.mem_of_getElem? (i := 5) rfl)), (wl0 _ (List.mem_of_getElem? (i := 4) rfl)), by decide +kernel⟩
theorem yo_7 : tm_yo (tm_mt 7) 0 := ⟨(cwl0 _ (List.mem_of_getElem? (i := 6) rfl)), (wl0 _ (List.mem_of_getElem? (i := 5) rfl)), by decide +kernel⟩
theorem yo_8 : tm_yo (tm_mt 8) 0 := ⟨(cwl0 _ (List.mem_of_getElem? (i := 7) rfl)), (wl0 _ (List.mem_of_getElem? (i := 6) rfl)), by decide +kernel⟩
theorem yo_9 : tm_yo (tm_mt 9) 0 := ⟨(cwl0 _ (List.mem_of_getElem? (i := 8) rfl)), (wl0 _ (List.mem_of_getElem? (i := 7) rfl)), by decide +kernel⟩
theorem yo_10 : tm_yo (tm_mt 10) 0 := ⟨(cwl0 _ (List.mem_of_getElem? (i := 9) rfl)), (wl0 _ (List.mem_of_getElem? (i := 8) rfl)), by decide +kernel⟩
theorem yo_11 : tm_yo (tm_mt 11) 0 := ⟨(cwl0 _ (List.mem_of_getElem? (i := 10) rfl)), (wl0 _ (List.mem_of_getElem? (i := 9) rfl)), by decide +kernel⟩
theorem yo_12 : tm_yo (tm_mt 12) 0 := ⟨(cwl0 _ (List.mem_of_getElem? (i := 11) rfl)), (wl0 _ (List.mem_of_getElem? (i := 10) rfl)), by decide +kernel⟩
theorem yo_13 : tm_yo (tm_mt 13) 0 := ⟨(cwl0 _ (List.mem_of_getElem? (i := 12) rfl)), (wl0 _ (List.mem_of_getElem? (i := 11) rfl)), by decide +kernel⟩
theorem yo_14 : tm_yo (tm_mt 14) 2 := ⟨(cwl0 _ (List.mem_of_getElem? (i := 13) rfl)), (wl0 _ (List.mem_of_getElem? (i := 10) rfl)), by decide +kernel⟩
theorem yo_15 : tm_yo (tm_mt 15) 5 := ⟨(cwl0 _ (List.mem_of_getElem? (i := 14) rfl)), (wl0 _ (List.mem_of_getElem? (i := 10) rfl)), by decide +kernel⟩
theorem yo_16 : tm_yo (tm_mt 16) 5 := ⟨(cwl0 _ (List.mem_of_getElem? (i := 15) rfl)), (wl0 _ (List.mem_of_getElem? (i := 11) rfl)), by decide +kernel⟩
theorem yo_17 : tm_yo (tm_mt 17) 1 := ⟨(cwl0 _ (List.mem_of_getElem? (i := 16) rfl)), (wl0 _ (List.mem_of_getElem? (i := 10) rfl)), by decide +kernel⟩
theorem yo_18 : tm_yo (tm_mt 18) 1 := ⟨(cwl0 _ (List.mem_of_getElem? (i := 17) rfl)), (wl0 _ (List.mem_of_getElem? (i := 11) rfl)), by decide +kernel⟩
theorem yo_19 : tm_yo (tm_mt 19) 0 := ⟨(cwl0 _ (List.mem_of_getElem? (i := 18) rfl)), (wl0 _ (List.mem_of_getElem? (i := 10) rfl)), by decide +kernel⟩
theorem yo_20 : tm_yo (tm_mt 20) 1 := ⟨(cwl0 _ (List.mem_of_getElem? (i := 19) rfl)), (wl0 _ (List.mem_of_getElem? (i := 10) rfl)), by decide +kernel⟩
theorem yo_21 : tm_yo (tm_mt 21) 0 := ⟨(cwl1 _ (List.mem_of_getElem? (i := 0) rfl)), (wl0 _ (List.mem_of_getElem? (i := 0) rfl)), by decide +kernel⟩
theorem yo_22 : tm_yo (tm_mt 22) 0 := ⟨(cwl1 _ (List.mem_of_getElem? (i := 1) rfl)), (wl0 _ (List.mem_of_getElem? (i := 0) rfl)), by decide +kernel⟩
theorem yo_23 : tm_yo (tm_mt 23) 1 := ⟨(cwl1 _ (List.mem_of_getElem? (i := 2) rfl)), (wl0 _ (List.mem_of_getElem? (i := 10) rfl)), by decide +kernel⟩
theorem yo_24 : tm_yo (tm_mt 24) 0 := ⟨(cwl1 _ (List.mem_of_getElem? (i := 3) rfl)), (wl0 _ (List.mem_of_getElem? (i := 0) rfl)), by decide +kernel⟩
theorem yo_25 : tm_yo (tm_mt 25) 1 := ⟨(cwl1 _ (List.mem_of_getElem? (i := 4) rfl)), (wl0 _ (List.mem_of_getElem? (i := 10) rfl)), by decide +kernel⟩
theorem yo_26 : tm_yo (tm_mt 26) 0 := ⟨(cwl1 _ (List.mem_of_getElem? (i := 5) rfl)), (wl0 _ (List.mem_of_getElem? (i := 0) rfl)), by decide +kernel⟩
theorem yo_27 : tm_yo (tm_mt 27) 0 := ⟨(cwl1 _ (List.mem_of_getElem? (i := 6) rfl)), (wl0 _ (List.mem_of_getElem? (i := 0) rfl)), by decide +kernel⟩
theorem yo_28 : tm_yo (tm_mt 28) 0 := ⟨(cwl1 _ (List.mem_of_getElem? (i := 7) rfl)), (wl0 _ (List.mem_of_getElem? (i := 0) rfl)), by decide +kernel⟩
theorem yo_29 : tm_yo (tm_mt 29) 2 := ⟨(cwl1 _ (List.mem_of_getElem? (i := 8) rfl)), (wl0 _ (List.mem_of_getElem? (i := 0) rfl)), by decide +kernel⟩
theorem yo_30 : tm_yo (tm_mt 30) 1 := ⟨(cwl1 _ (List.mem_of_getElem? (i := 9) rfl)), (wl0 _ (List.mem_of_getElem? (i := 0) rfl)), by decide +kernel⟩
theorem yo_31 : tm_yo (tm_mt 31) 1 := ⟨(cwl1 _ (List.mem_of_getElem? (i := 10) rfl)), (wl0 _ (List.mem_of_getElem? (i := 0) rfl)), by decide +kernel⟩
theorem yo_32 : tm_yo (tm_mt 32) 1 := ⟨(cwl1 _ (List.mem_of_getElem? (i := 11) rfl)), (wl0 _ (List.mem_of_getElem? (i := 8) rfl)), by decide +kernel⟩
theorem yo_33 : tm_yo (tm_mt 33) 2 := ⟨(cwl1 _ (List.mem_of_getElem? (i := 12) rfl)), (wl0 _ (List.mem_of_getElem? (i := 12) rfl)), by decide +kernel⟩
theorem yo_34 : tm_yo (tm_mt 34) 1 := ⟨(cwl1 _ (List.mem_of_getElem? (i := 13) rfl)), (wl0 _ (List.mem_of_getElem? (i := 7) rfl)), by decide +kernel⟩
theorem yo_35 : tm_yo (tm_mt 35) 2 := ⟨(cwl1 _ (List.mem_of_getElem? (i := 14) rfl)), (wl0 _ (List.mem_of_getElem? (i := 8) rfl)), by decide +kernel⟩
theorem yo_36 : tm_yo (tm_mt 36) 2 := ⟨(cwl1 _ (List.mem_of_getElem? (i := 15) rfl)), (wl0 _ (List.mem_of_getElem? (i := 0) rfl)), by decide +kernel⟩
theorem yo_37 : tm_yo (tm_mt 37) 2 := ⟨(cwl1 _ (List.mem_of_getElem? (i := 16) rfl)), (wl0 _ (List.mem_of_getElem? (i := 8) rfl)), by decide +kernel⟩
theorem yo_38 : tm_yo (tm_mt 38) 1 := ⟨(cwl1 _ (List.mem_of_getElem? (i := 17) rfl)), (wl0 _ (List.mem_of_getElem? (i := 0) rfl)), by decide +kernel⟩
theorem yo_39 : tm_yo (tm_mt 39) 1 := ⟨(cwl1 _ (List.mem_of_getElem? (i := 18) rfl)), (wl0 _ (List.mem_of_getElem? (i := 7) rfl)), by decide +kernel⟩
theorem yo_40 : tm_yo (tm_mt 40) 2 := ⟨(cwl1 _ (List.mem_of_getElem? (i := 19) rfl)), (wl0 _ (List.mem_of_getElem? (i := 8) rfl)), by decide +kernel⟩
theorem yo_41 : tm_yo (tm_mt 41) 2 := ⟨(cwl2 _ (List.mem_of_getElem? (i := 0) rfl)), (wl0 _ (List.mem_of_getElem? (i := 8) rfl)), by decide +kernel⟩
theorem yo_42 : tm_yo (tm_mt 42) 3 := ⟨(cwl2 _ (List.mem_of_getElem? (i := 1) rfl)), (wl0 _ (List.mem_of_getElem? (i := 7) rfl)), by decide +kernel⟩
theorem yo_43 : tm_yo (tm_mt 43) 4 := ⟨(cwl2 _ (List.mem_of_getElem? (i := 2) rfl)), (wl0 _ (List.mem_of_getElem? (i := 8) rfl)), by decide +kernel⟩
theorem yo_44 : tm_yo (tm_mt 44) 2 := ⟨(cwl2 _ (List.mem_of_getElem? (i := 3) rfl)), (wl0 _ (List.mem_of_getElem? (i := 8) rfl)), by decide +kernel⟩
theorem yo_45 : tm_yo (tm_mt 45) 2 := ⟨(cwl2 _ (List.mem_of_getElem? (i := 4) rfl)), (wl0 _ (List.mem_of_getElem? (i := 8) rfl)), by decide +kernel⟩
theorem yo_46 : tm_yo (tm_mt 46) 2 := ⟨(cwl2 _ (List.mem_of_getElem? (i := 5) rfl)), (wl0 _ (List.mem_of_getElem? (i := 8) rfl)), by decide +kernel⟩
theorem yo_47 : tm_yo (tm_mt 47) 2 := ⟨(cwl2 _ (List.mem_of_getElem? (i := 6) rfl)), (wl0 _ (List.mem_of_getElem? (i := 8) rfl)), by decide +kernel⟩
theorem yo_48 : tm_yo (tm_mt 48) 2 := ⟨(cwl2 _ (List.mem_of_getElem? (i := 7) rfl)), (wl0 _ (List.mem_of_getElem? (i := 8) rfl)), by decide +kernel⟩
theorem yo_49 : tm_yo (tm_mt 49) 2 := ⟨(cwl2 _ (List.mem_of_getElem? (i := 8) rfl)), (wl0 _ (List.mem_of_getElem? (i := 8) rfl)), by decide +kernel⟩
theorem yo_50 : tm_yo (tm_mt 50) 1 := ⟨(cwl2 _ (List.mem_of_getElem? (i := 9) rfl)), (wl0 _ (List.mem_of_getElem? (i := 8) rfl)), by decide +kernel⟩
theorem yo_51 : tm_yo (tm_mt 51) 0 := ⟨(cwl2 _ (List.mem_of_getElem? (i := 10) rfl)), (wl0 _ (List.mem_of_getElem? (i := 4) rfl)), by decide +kernel⟩
theorem yo_52 : tm_yo (tm_mt 52) 0 := ⟨(cwl2 _ (List.mem_of_getElem? (i := 11) rfl)), (wl0 _ (List.mem_of_getElem? (i := 1) rfl)), by decide +kernel⟩
theorem yo_53 : tm_yo (tm_mt 53) 0 := ⟨(cwl2 _ (List.mem_of_getElem? (i := 12) rfl)), (wl0 _ (List.mem_of_getElem? (i := 10) rfl)), by decide +kernel⟩
theorem yo_54 : tm_yo (tm_mt 54) 0 := ⟨(cwl2 _ (List.mem_of_getElem? (i := 13) rfl)), (wl0 _ (List.mem_of_getElem? (i := 11) rfl)), by decide +kernel⟩
theorem yo_55 : tm_yo (tm_mt 55) 1 := ⟨(cwl2 _ (List.mem_of_getElem? (i := 14) rfl)), (wl0 _ (List.mem_of_getElem? (i := 11) rfl)), by decide +kernel⟩
theorem yo_56 : tm_yo (tm_mt 56) 1 := ⟨(cwl2 _ (List.mem_of_getElem? (i := 15) rfl)), (wl0 _ (List.mem_of_getElem? (i := 11) rfl)), by decide +kernel⟩
theorem yo_57 : tm_yo (tm_mt 57) 1 := ⟨(cwl2 _ (List.mem_of_getElem? (i := 16) rfl)), (wl0 _ (List.mem_of_getElem? (i := 11) rfl)), by decide +kernel⟩
theorem yo_58 : tm_yo (tm_mt 58) 1 := ⟨(cwl2 _ (List.mem_of_getElem? (i := 17) rfl)), (wl0 _ (List.mem_of_getElem? (i := 11) rfl)), by decide +kernel⟩
theorem yo_59 : tm_yo (tm_mt 59) 1 := ⟨(cwl2 _ (List.mem_of_getElem? (i := 18) rfl)), (wl0 _ (List.mem_of_getElem? (i := 11) rfl)), by decide +kernel⟩
theorem yo_60 : tm_yo (tm_mt 60) 0 := ⟨(cwl2 _ (List.mem_of_getElem? (i := 19) rfl)), (wl0 _ (List.mem_of_getElem? (i := 11) rfl)), by decide +kernel⟩
theorem yo_61 : tm_yo (tm_mt 61) 0 := ⟨(cwl3 _ (List.mem_of_getElem? (i := 0) rfl)), (wl0 _ (List.mem_of_getElem? (i := 11) rfl)), by decide +kernel⟩
theorem yo_62 : tm_yo (tm_mt 62) 1 := ⟨(cwl3 _ (List.mem_of_getElem? (i := 1) rfl)), (wl0 _ (List.mem_of_getElem? (i := 11) rfl)), by decide +kernel⟩
theorem yo_63 : tm_yo (tm_mt 63) 2 := ⟨(cwl3 _ (List.mem_of_getElem? (i := 2) rfl)), (wl0 _ (List.mem_of_getElem? (i := 11) rfl)), by decide +kernel⟩
theorem yo_64 : tm_yo (tm_mt 64) 0 := ⟨(cwl3 _ (List.mem_of_getElem? (i := 3) rfl)), (wl0 _ (List.mem_of_getElem? (i := 11) rfl)), by decide +kernel⟩
theorem yo_65 : tm_yo (tm_mt 65) 2 := ⟨(cwl3 _ (List.mem_of_getElem? (i := 4) rfl)), (wl0 _ (List.mem_of_getElem? (i := 11) rfl)), by decide +kernel⟩
theorem yo_66 : tm_yo (tm_mt 66) 1 := ⟨(cwl3 _ (List.mem_of_getElem? (i := 5) rfl)), (wl0 _ (List.mem_of_getElem? (i := 11) rfl)), by decide +kernel⟩
theorem yo_67 : tm_yo (tm_mt 67) 2 := ⟨(cwl3 _ (List.mem_of_getElem? (i := 6) rfl)), (wl0 _ (List.mem_of_getElem? (i := 11) rfl)), by decide +kernel⟩
theorem yo_68 : tm_yo (tm_mt 68) 1 := ⟨(cwl3 _ (List.mem_of_getElem? (i := 7) rfl)), (wl0 _ (List.mem_of_getElem? (i := 11) rfl)), by decide +kernel⟩
theorem yo_69 : tm_yo (tm_mt 69) 1 := ⟨(cwl3 _ (List.mem_of_getElem? (i := 8) rfl)), (wl0 _ (List.mem_of_getElem? (i := 11) rfl)), by decide +kernel⟩
theorem yo_70 : tm_yo (tm_mt 70) 2 := ⟨(cwl3 _ (List.mem_of_getElem? (i := 9) rfl)), (wl0 _ (List.mem_of_getElem? (i := 11) rfl)), by decide +kernel⟩
theorem yo_71 : tm_yo (tm_mt 71) 1 := ⟨(cwl3 _ (List.mem_of_getElem? (i := 10) rfl)), (wl0 _ (List.mem_of_getElem? (i := 11) rfl)), by decide +kernel⟩
theorem yo_72 : tm_yo (tm_mt 72) 0 := ⟨(cwl3 _ (List.mem_of_getElem? (i := 11) rfl)), (wl0 _ (List.mem_of_getElem? (i := 11) rfl)), by decide +kernel⟩
theorem yo_73 : tm_yo (tm_mt 73) 0 := ⟨(cwl3 _ (List.mem_of_getElem? (i := 12) rfl)), (wl0 _ (List.mem_of_getElem? (i := 11) rfl)), by decide +kernel⟩
theorem yo_74 : tm_yo (tm_mt 74) 1 := ⟨(cwl3 _ (List.mem_of_getElem? (i := 13) rfl)), (wl0 _ (List.mem_of_getElem? (i := 9) rfl)), by decide +kernel⟩
theorem yo_75 : tm_yo (tm_mt 75) 2 := ⟨(cwl3 _ (List.mem_of_getElem? (i := 14) rfl)), (wl0 _ (List.mem_of_getElem? (i := 9) rfl)), by decide +kernel⟩
theorem yo_76 : tm_yo (tm_mt 76) 2 := ⟨(cwl3 _ (List.mem_of_getElem? (i := 15) rfl)), (wl0 _ (List.mem_of_getElem? (i := 9) rfl)), by decide +kernel⟩
theorem yo_77 : tm_yo (tm_mt 77) 2 := ⟨(cwl3 _ (List.mem_of_getElem? (i := 16) rfl)), (wl0 _ (List.mem_of_getElem? (i := 9) rfl)), by decide +kernel⟩
theorem yo_78 : tm_yo (tm_mt 78) 2 := ⟨(cwl3 _ (List.mem_of_getElem? (i := 17) rfl)), (wl0 _ (List.mem_of_getElem? (i := 9) rfl)), by decide +kernel⟩
theorem yo_79 : tm_yo (tm_mt 79) 0 := ⟨(cwl3 _ (List.mem_of_getElem? (i := 18) rfl)), (wl0 _ (List.mem_of_getElem? (i := 10) rfl)), by decide +kernel⟩
theorem yo_80 : tm_yo (tm_mt 80) 0 := ⟨(cwl3 _ (List.mem_of_getElem? (i := 19) rfl)), (wl0 _ (List.mem_of_getElem? (i := 11) rfl)), by decide +kernel⟩
theorem yo_81 : tm_yo (tm_mt 81) 0 := ⟨(cwl4 _ (List.mem_of_getElem? (i := 0) rfl)), (wl0 _ (List.mem_of_getElem? (i := 11) rfl)), by decide +kernel⟩
theorem yo_82 : tm_yo (tm_mt 82) 1 := ⟨(cwl4 _ (List.mem_of_getElem? (i := 1) rfl)), (wl0 _ (List.mem_of_getElem? (i := 10) rfl)), by decide +kernel⟩
theorem yo_83 : tm_yo (tm_mt 83) 1 := ⟨(cwl4 _ (List.mem_of_getElem? (i := 2) rfl)), (wl0 _ (List.mem_of_getElem? (i := 11) rfl)), by decide +kernel⟩
theorem yo_84 : tm_yo (tm_mt 84) 1 := ⟨(cwl4 _ (List.mem_of_getElem? (i := 3) rfl)), (wl0 _ (List.mem_of_getElem? (i := 8) rfl)), by decide +kernel⟩
theorem yo_85 : tm_yo (tm_mt 85) 1 := ⟨(cwl4 _ (List.mem_of_getElem? (i := 4) rfl)), (wl0 _ (List.mem_of_getElem? (i := 7) rfl)), by decide +kernel⟩
theorem yo_86 : tm_yo (tm_mt 86) 1 := ⟨(cwl4 _ (List.mem_of_getElem? (i := 5) rfl)), (wl0 _ (List.mem_of_getElem? (i := 10) rfl)), by decide +kernel⟩
theorem yo_87 : tm_yo (tm_mt 87) 1 := ⟨(cwl4 _ (List.mem_of_getElem? (i := 6) rfl)), (wl0 _ (List.mem_of_getElem? (i := 7) rfl)), by decide +kernel⟩
theorem yo_88 : tm_yo (tm_mt 88) 2 := ⟨(cwl4 _ (List.mem_of_getElem? (i := 7) rfl)), (wl0 _ (List.mem_of_getElem? (i := 7) rfl)), by decide +kernel⟩
theorem yo_89 : tm_yo (tm_mt 89) 1 := ⟨(cwl4 _ (List.mem_of_getElem? (i := 8) rfl)), (wl0 _ (List.mem_of_getElem? (i := 7) rfl)), by decide +kernel⟩
theorem yo_90 : tm_yo (tm_mt 90) 1 := ⟨(cwl4 _ (List.mem_of_getElem? (i := 9) rfl)), (wl0 _ (List.mem_of_getElem? (i := 7) rfl)), by decide +kernel⟩
theorem yo_91 : tm_yo (tm_mt 91) 2 := ⟨(cwl4 _ (List.mem_of_getElem? (i := 10) rfl)), (wl0 _ (List.mem_of_getElem? (i := 7) rfl)), by decide +kernel⟩
theorem yo_92 : tm_yo (tm_mt 92) 3 := ⟨(cwl4 _ (List.mem_of_getElem? (i := 11) rfl)), (wl0 _ (List.mem_of_getElem? (i := 10) rfl)), by decide +kernel⟩
theorem yo_93 : tm_yo (tm_mt 93) 1 := ⟨(cwl4 _ (List.mem_of_getElem? (i := 12) rfl)), (wl0 _ (List.mem_of_getElem? (i := 11) rfl)), by decide +kernel⟩
theorem yo_94 : tm_yo (tm_mt 94) 1 := ⟨(cwl4 _ (List.mem_of_getElem? (i := 13) rfl)), (wl0 _ (List.mem_of_getElem? (i := 11) rfl)), by decide +kernel⟩
theorem yo_95 : tm_yo (tm_mt 95) 2 := ⟨(cwl4 _ (List.mem_of_getElem? (i := 14) rfl)), (wl0 _ (List.mem_of_getElem? (i := 11) rfl)), by decide +kernel⟩
theorem yo_96 : tm_yo (tm_mt 96) 1 := ⟨(cwl4 _ (List.mem_of_getElem? (i := 15) rfl)), (wl0 _ (List.mem_of_getElem? (i := 11) rfl)), by decide +kernel⟩
theorem yo_97 : tm_yo (tm_mt 97) 2 := ⟨(cwl4 _ (List.mem_of_getElem? (i := 16) rfl)), (wl0 _ (List.mem_of_getElem? (i := 11) rfl)), by decide +kernel⟩
theorem yo_98 : tm_yo (tm_mt 98) 3 := ⟨(cwl4 _ (List.mem_of_getElem? (i := 17) rfl)), (wl0 _ (List.mem_of_getElem? (i := 11) rfl)), by decide +kernel⟩
theorem yo_99 : tm_yo (tm_mt 99) 2 := ⟨(cwl4 _ (List.mem_of_getElem? (i := 18) rfl)), (wl0 _ (List.mem_of_getElem? (i := 11) rfl)), by decide +kernel⟩
theorem yo_100 : tm_yo (tm_mt 100) 2 := ⟨(cwl4 _ (List.mem_of_getElem? (i := 19) rfl)), (wl0 _ (List.mem_of_getElem? (i := 11) rfl)), by decide +kernel⟩
theorem yo_101 : tm_yo (tm_mt 101) 3 := ⟨(cwl5 _ (List.mem_of_getElem? (i := 0) rfl)), (wl0 _ (List.mem_of_getElem? (i := 11) rfl)), by decide +kernel⟩
theorem yo_102 : tm_yo (tm_mt 102) 2 := ⟨(cwl5 _ (List.mem_of_getElem? (i := 1) rfl)), (wl0 _ (List.mem_of_getElem? (i := 10) rfl)), by decide +kernel⟩
theorem yo_103 : tm_yo (tm_mt 103) 0 := ⟨(cwl5 _ (List.mem_of_getElem? (i := 2) rfl)), (wl0 _ (List.mem_of_getElem? (i := 7) rfl)), by decide +kernel⟩
theorem yo_104 : tm_yo (tm_mt 104) 1 := ⟨(cwl5 _ (List.mem_of_getElem? (i := 3) rfl)), (wl0 _ (List.mem_of_getElem? (i := 10) rfl)), by decide +kernel⟩
theorem yo_105 : tm_yo (tm_mt 105) 2 := ⟨(cwl5 _ (List.mem_of_getElem? (i := 4) rfl)), (wl0 _ (List.mem_of_getElem? (i := 11) rfl)), by decide +kernel⟩
theorem yo_106 : tm_yo (tm_mt 106) 1 := ⟨(cwl5 _ (List.mem_of_getElem? (i := 5) rfl)), (wl0 _ (List.mem_of_getElem? (i := 11) rfl)), by decide +kernel⟩
theorem yo_107 : tm_yo (tm_mt 107) 1 := ⟨(cwl5 _ (List.mem_of_getElem? (i := 6) rfl)), (wl0 _ (List.mem_of_getElem? (i := 11) rfl)), by decide +kernel⟩
theorem yo_108 : tm_yo (tm_mt 108) 2 := ⟨(cwl5 _ (List.mem_of_getElem? (i := 7) rfl)), (wl0 _ (List.mem_of_getElem? (i := 10) rfl)), by decide +kernel⟩
theorem yo_109 : tm_yo (tm_mt 109) 2 := ⟨(cwl5 _ (List.mem_of_getElem? (i := 8) rfl)), (wl0 _ (List.mem_of_getElem? (i := 11) rfl)), by decide +kernel⟩
theorem yo_110 : tm_yo (tm_mt 110) 0 := ⟨(cwl5 _ (List.mem_of_getElem? (i := 9) rfl)), (wl0 _ (List.mem_of_getElem? (i := 2) rfl)), by decide +kernel⟩
theorem yo_111 : tm_yo (tm_mt 111) 1 := ⟨(cwl5 _ (List.mem_of_getElem? (i := 10) rfl)), (wl0 _ (List.mem_of_getElem? (i := 2) rfl)), by decide +kernel⟩
theorem yo_112 : tm_yo (tm_mt 112) 0 := ⟨(cwl5 _ (List.mem_of_getElem? (i := 11) rfl)), (wl0 _ (List.mem_of_getElem? (i := 3) rfl)), by decide +kernel⟩
theorem yo_113 : tm_yo (tm_mt 113) 1 := ⟨(cwl5 _ (List.mem_of_getElem? (i := 12) rfl)), (wl0 _ (List.mem_of_getElem? (i := 1) rfl)), by decide +kernel⟩
theorem yo_114 : tm_yo (tm_mt 114) 1 := ⟨(cwl5 _ (List.mem_of_getElem? (i := 13) rfl)), (wl0 _ (List.mem_of_getElem? (i := 10) rfl)), by decide +kernel⟩
theorem yo_115 : tm_yo (tm_mt 115) 0 := ⟨(cwl5 _ (List.mem_of_getElem? (i := 14) rfl)), (wl0 _ (List.mem_of_getElem? (i := 3) rfl)), by decide +kernel⟩
theorem yo_116 : tm_yo (tm_mt 116) 0 := ⟨(cwl5 _ (List.mem_of_getElem? (i := 15) rfl)), (wl0 _ (List.mem_of_getElem? (i := 2) rfl)), by decide +kernel⟩
theorem yo_117 : tm_yo (tm_mt 117) 1 := ⟨(cwl5 _ (List.mem_of_getElem? (i := 16) rfl)), (wl0 _ (List.mem_of_getElem? (i := 3) rfl)), by decide +kernel⟩
theorem yo_118 : tm_yo (tm_mt 118) 3 := ⟨(cwl5 _ (List.mem_of_getElem? (i := 17) rfl)), (wl0 _ (List.mem_of_getElem? (i := 3) rfl)), by decide +kernel⟩
theorem yo_119 : tm_yo (tm_mt 119) 0 := ⟨(cwl5 _ (List.mem_of_getElem? (i := 18) rfl)), (wl0 _ (List.mem_of_getElem? (i := 2) rfl)), by decide +kernel⟩
theorem yo_120 : tm_yo (tm_mt 120) 2 := ⟨(cwl5 _ (List.mem_of_getElem? (i := 19) rfl)), (wl0 _ (List.mem_of_getElem? (i := 3) rfl)), by decide +kernel⟩
theorem yo_121 : tm_yo (tm_mt 121) 3 := ⟨(cwl6 _ (List.mem_of_getElem? (i := 0) rfl)), (wl0 _ (List.mem_of_getElem? (i := 7) rfl)), by decide +kernel⟩
theorem yo_122 : tm_yo (tm_mt 122) 3 := ⟨(cwl6 _ (List.mem_of_getElem? (i := 1) rfl)), (wl0 _ (List.mem_of_getElem? (i := 2) rfl)), by decide +kernel⟩
theorem yo_123 : tm_yo (tm_mt 123) 5 := ⟨(cwl6 _ (List.mem_of_getElem? (i := 2) rfl)), (wl0 _ (List.mem_of_getElem? (i := 3) rfl)), by decide +kernel⟩
theorem yo_124 : tm_yo (tm_mt 124) 2 := ⟨(cwl6 _ (List.mem_of_getElem? (i := 3) rfl)), (wl0 _ (List.mem_of_getElem? (i := 3) rfl)), by decide +kernel⟩
theorem yo_125 : tm_yo (tm_mt 125) 3 := ⟨(cwl6 _ (List.mem_of_getElem? (i := 4) rfl)), (wl0 _ (List.mem_of_getElem? (i := 1) rfl)), by decide +kernel⟩
theorem yo_126 : tm_yo (tm_mt 126) 3 := ⟨(cwl6 _ (List.mem_of_getElem? (i := 5) rfl)), (wl0 _ (List.mem_of_getElem? (i := 3) rfl)), by decide +kernel⟩
theorem yo_127 : tm_yo (tm_mt 127) 3 := ⟨(cwl6 _ (List.mem_of_getElem? (i := 6) rfl)), (wl0 _ (List.mem_of_getElem? (i := 1) rfl)), by decide +kernel⟩
theorem yo_128 : tm_yo (tm_mt 128) 1 := ⟨(cwl6 _ (List.mem_of_getElem? (i := 7) rfl)), (wl0 _ (List.mem_of_getElem? (i := 3) rfl)), by decide +kernel⟩
theorem yo_129 : tm_yo (tm_mt 129) 0 := ⟨(cwl6 _ (List.mem_of_getElem? (i := 8) rfl)), (wl0 _ (List.mem_of_getElem? (i := 3) rfl)), by decide +kernel⟩
theorem yo_130 : tm_yo (tm_mt 130) 3 := ⟨(cwl6 _ (List.mem_of_getElem? (i := 9) rfl)), (wl0 _ (List.mem_of_getElem? (i := 3) rfl)), by decide +kernel⟩
theorem yo_131 : tm_yo (tm_mt 131) 0 := ⟨(cwl6 _ (List.mem_of_getElem? (i := 10) rfl)), (wl0 _ (List.mem_of_getElem? (i := 2) rfl)), by decide +kernel⟩
theorem yo_132 : tm_yo (tm_mt 132) 2 := ⟨(cwl6 _ (List.mem_of_getElem? (i := 11) rfl)), (wl0 _ (List.mem_of_getElem? (i := 2) rfl)), by decide +kernel⟩
theorem yo_133 : tm_yo (tm_mt 133) 2 := ⟨(cwl6 _ (List.mem_of_getElem? (i := 12) rfl)), (wl0 _ (List.mem_of_getElem? (i := 3) rfl)), by decide +kernel⟩
theorem yo_134 : tm_yo (tm_mt 134) 4 := ⟨(cwl6 _ (List.mem_of_getElem? (i := 13) rfl)), (wl0 _ (List.mem_of_getElem? (i := 3) rfl)), by decide +kernel⟩
theorem yo_135 : tm_yo (tm_mt 135) 2 := ⟨(cwl6 _ (List.mem_of_getElem? (i := 14) rfl)), (wl0 _ (List.mem_of_getElem? (i := 3) rfl)), by decide +kernel⟩
theorem yo_136 : tm_yo (tm_mt 136) 1 := ⟨(cwl6 _ (List.mem_of_getElem? (i := 15) rfl)), (wl0 _ (List.mem_of_getElem? (i := 2) rfl)), by decide +kernel⟩
theorem yo_137 : tm_yo (tm_mt 137) 2 := ⟨(cwl6 _ (List.mem_of_getElem? (i := 16) rfl)), (wl0 _ (List.mem_of_getElem? (i := 3) rfl)), by decide +kernel⟩
theorem yo_138 : tm_yo (tm_mt 138) 0 := ⟨(cwl6 _ (List.mem_of_getElem? (i := 17) rfl)), (wl0 _ (List.mem_of_getElem? (i := 3) rfl)), by decide +kernel⟩
theorem yo_139 : tm_yo (tm_mt 139) 2 := ⟨(cwl6 _ (List.mem_of_getElem? (i := 18) rfl)), (wl0 _ (List.mem_of_getElem? (i := 1) rfl)), by decide +kernel⟩
theorem yo_140 : tm_yo (tm_mt 140) 3 := ⟨(cwl6 _ (List.mem_of_getElem? (i := 19) rfl)), (wl0 _ (List.mem_of_getElem? (i := 1) rfl)), by decide +kernel⟩
theorem yo_141 : tm_yo (tm_mt 141) 2 := ⟨(cwl7 _ (List.mem_of_getElem? (i := 0) rfl)), (wl0 _ (List.mem_of_getElem? (i := 3) rfl)), by decide +kernel⟩
theorem yo_142 : tm_yo (tm_mt 142) 0 := ⟨(cwl7 _ (List.mem_of_getElem? (i := 1) rfl)), (wl0 _ (List.mem_of_getElem? (i := 3) rfl)), by decide +kernel⟩
theorem yo_143 : tm_yo (tm_mt 143) 2 := ⟨(cwl7 _ (List.mem_of_getElem? (i := 2) rfl)), (wl0 _ (List.mem_of_getElem? (i := 3) rfl)), by decide +kernel⟩
theorem yo_144 : tm_yo (tm_mt 144) 3 := ⟨(cwl7 _ (List.mem_of_getElem? (i := 3) rfl)), (wl0 _ (List.mem_of_getElem? (i := 3) rfl)), by decide +kernel⟩
theorem yo_145 : tm_yo (tm_mt 145) 0 := ⟨(cwl7 _ (List.mem_of_getElem? (i := 4) rfl)), (wl0 _ (List.mem_of_getElem? (i := 10) rfl)), by decide +kernel⟩
theorem yo_146 : tm_yo (tm_mt 146) 0 := ⟨(cwl7 _ (List.mem_of_getElem? (i := 5) rfl)), (wl0 _ (List.mem_of_getElem? (i := 11) rfl)), by decide +kernel⟩
theorem yo_147 : tm_yo (tm_mt 147) 0 := ⟨(cwl7 _ (List.mem_of_getElem? (i := 6) rfl)), (wl0 _ (List.mem_of_getElem? (i := 11) rfl)), by decide +kernel⟩
theorem yo_148 : tm_yo (tm_mt 148) 0 := ⟨(cwl7 _ (List.mem_of_getElem? (i := 7) rfl)), (wl0 _ (List.mem_of_getElem? (i := 11) rfl)), by decide +kernel⟩
theorem yo_149 : tm_yo (tm_mt 149) 1 := ⟨(cwl7 _ (List.mem_of_getElem? (i := 8) rfl)), (wl0 _ (List.mem_of_getElem? (i := 11) rfl)), by decide +kernel⟩
theorem yo_150 : tm_yo (tm_mt 150) 2 := ⟨(cwl7 _ (List.mem_of_getElem? (i := 9) rfl)), (wl0 _ (List.mem_of_getElem? (i := 11) rfl)), by decide +kernel⟩
theorem yo_151 : tm_yo (tm_mt 151) 1 := ⟨(cwl7 _ (List.mem_of_getElem? (i := 10) rfl)), (wl0 _ (List.mem_of_getElem? (i := 11) rfl)), by decide +kernel⟩
theorem yo_152 : tm_yo (tm_mt 152) 0 := ⟨(cwl7 _ (List.mem_of_getElem? (i := 11) rfl)), (wl0 _ (List.mem_of_getElem? (i := 11) rfl)), by decide +kernel⟩
theorem yo_153 : tm_yo (tm_mt 153) 1 := ⟨(cwl7 _ (List.mem_of_getElem? (i := 12) rfl)), (wl0 _ (List.mem_of_getElem? (i := 11) rfl)), by decide +kernel⟩
theorem yo_154 : tm_yo (tm_mt 154) 0 := ⟨(cwl7 _ (List.mem_of_getElem? (i := 13) rfl)), (wl0 _ (List.mem_of_getElem? (i := 11) rfl)), by decide +kernel⟩
theorem yo_155 : tm_yo (tm_mt 155) 0 := ⟨(cwl7 _ (List.mem_of_getElem? (i := 14) rfl)), (wl0 _ (List.mem_of_getElem? (i := 11) rfl)), by decide +kernel⟩
theorem yo_156 : tm_yo (tm_mt 156) 0 := ⟨(cwl7 _ (List.mem_of_getElem? (i := 15) rfl)), (wl0 _ (List.mem_of_getElem? (i := 11) rfl)), by decide +kernel⟩
theorem yo_157 : tm_yo (tm_mt 157) 0 := ⟨(cwl7 _ (List.mem_of_getElem? (i := 16) rfl)), (wl0 _ (List.mem_of_getElem? (i := 11) rfl)), by decide +kernel⟩
theorem yo_158 : tm_yo (tm_mt 158) 0 := ⟨(cwl7 _ (List.mem_of_getElem? (i := 17) rfl)), (wl0 _ (List.mem_of_getElem? (i := 11) rfl)), by decide +kernel⟩
theorem yo_159 : tm_yo (tm_mt 159) 1 := ⟨(cwl7 _ (List.mem_of_getElem? (i := 18) rfl)), (wl0 _ (List.mem_of_getElem? (i := 11) rfl)), by decide +kernel⟩
theorem yo_160 : tm_yo (tm_mt 160) 0 := ⟨(cwl7 _ (List.mem_of_getElem? (i := 19) rfl)), (wl0 _ (List.mem_of_getElem? (i := 11) rfl)), by decide +kernel⟩
theorem yo_161 : tm_yo (tm_mt 161) 0 := ⟨(cwl8 _ (List.mem_of_getElem? (i := 0) rfl)), (wl0 _ (List.mem_of_getElem? (i := 11) rfl)), by decide +kernel⟩
theorem yo_162 : tm_yo (tm_mt 162) 0 := ⟨(cwl8 _ (List.mem_of_getElem? (i := 1) rfl)), (wl0 _ (List.mem_of_getElem? (i := 11) rfl)), by decide +kernel⟩
theorem yo_163 : tm_yo (tm_mt 163) 0 := ⟨(cwl8 _ (List.mem_of_getElem? (i := 2) rfl)), (wl0 _ (List.mem_of_getElem? (i := 11) rfl)), by decide +kernel⟩
theorem yo_164 : tm_yo (tm_mt 164) 0 := ⟨(cwl8 _ (List.mem_of_getElem? (i := 3) rfl)), (wl0 _ (List.mem_of_getElem? (i := 11) rfl)), by decide +kernel⟩
theorem yo_165 : tm_yo (tm_mt 165) 1 := ⟨(cwl8 _ (List.mem_of_getElem? (i := 4) rfl)), (wl0 _ (List.mem_of_getElem? (i := 10) rfl)), by decide +kernel⟩
theorem yo_166 : tm_yo (tm_mt 166) 1 := ⟨(cwl8 _ (List.mem_of_getElem? (i := 5) rfl)), (wl0 _ (List.mem_of_getElem? (i := 11) rfl)), by decide +kernel⟩
theorem yo_167 : tm_yo (tm_mt 167) 2 := ⟨(cwl8 _ (List.mem_of_getElem? (i := 6) rfl)), (wl0 _ (List.mem_of_getElem? (i := 1) rfl)), by decide +kernel⟩
theorem yo_168 : tm_yo (tm_mt 168) 2 := ⟨(cwl8 _ (List.mem_of_getElem? (i := 7) rfl)), (wl0 _ (List.mem_of_getElem? (i := 10) rfl)), by decide +kernel⟩
theorem yo_169 : tm_yo (tm_mt 169) 2 := ⟨(cwl8 _ (List.mem_of_getElem? (i := 8) rfl)), (wl0 _ (List.mem_of_getElem? (i := 11) rfl)), by decide +kernel⟩
theorem yo_170 : tm_yo (tm_mt 170) 2 := ⟨(cwl8 _ (List.mem_of_getElem? (i := 9) rfl)), (wl0 _ (List.mem_of_getElem? (i := 1) rfl)), by decide +kernel⟩
theorem yo_171 : tm_yo (tm_mt 171) 2 := ⟨(cwl8 _ (List.mem_of_getElem? (i := 10) rfl)), (wl0 _ (List.mem_of_getElem? (i := 10) rfl)), by decide +kernel⟩
theorem yo_172 : tm_yo (tm_mt 172) 2 := ⟨(cwl8 _ (List.mem_of_getElem? (i := 11) rfl)), (wl0 _ (List.mem_of_getElem? (i := 11) rfl)), by decide +kernel⟩
theorem yo_173 : tm_yo (tm_mt 173) 1 := ⟨(cwl8 _ (List.mem_of_getElem? (i := 12) rfl)), (wl0 _ (List.mem_of_getElem? (i := 1) rfl)), by decide +kernel⟩
theorem yo_174 : tm_yo (tm_mt 174) 1 := ⟨(cwl8 _ (List.mem_of_getElem? (i := 13) rfl)), (wl0 _ (List.mem_of_getElem? (i := 1) rfl)), by decide +kernel⟩
theorem yo_175 : tm_yo (tm_mt 175) 1 := ⟨(cwl8 _ (List.mem_of_getElem? (i := 14) rfl)), (wl0 _ (List.mem_of_getElem? (i := 10) rfl)), by decide +kernel⟩
theorem yo_176 : tm_yo (tm_mt 176) 1 := ⟨(cwl8 _ (List.mem_of_getElem? (i := 15) rfl)), (wl0 _ (List.mem_of_getElem? (i := 11) rfl)), by decide +kernel⟩
theorem yo_177 : tm_yo (tm_mt 177) 1 := ⟨(cwl8 _ (List.mem_of_getElem? (i := 16) rfl)), (wl0 _ (List.mem_of_getElem? (i := 11) rfl)), by decide +kernel⟩
theorem yo_178 : tm_yo (tm_mt 178) 3 := ⟨(cwl8 _ (List.mem_of_getElem? (i := 17) rfl)), (wl0 _ (List.mem_of_getElem? (i := 1) rfl)), by decide +kernel⟩
theorem yo_179 : tm_yo (tm_mt 179) 3 := ⟨(cwl8 _ (List.mem_of_getElem? (i := 18) rfl)), (wl0 _ (List.mem_of_getElem? (i := 10) rfl)), by decide +kernel⟩
theorem yo_180 : tm_yo (tm_mt 180) 1 := ⟨(cwl8 _ (List.mem_of_getElem? (i := 19) rfl)), (wl0 _ (List.mem_of_getElem? (i := 11) rfl)), by decide +kernel⟩
theorem yo_181 : tm_yo (tm_mt 181) 3 := ⟨(cwl9 _ (List.mem_of_getElem? (i := 0) rfl)), (wl0 _ (List.mem_of_getElem? (i := 11) rfl)), by decide +kernel⟩
theorem yo_182 : tm_yo (tm_mt 182) 2 := ⟨(cwl9 _ (List.mem_of_getElem? (i := 1) rfl)), (wl0 _ (List.mem_of_getElem? (i := 1) rfl)), by decide +kernel⟩
theorem yo_183 : tm_yo (tm_mt 183) 2 := ⟨(cwl9 _ (List.mem_of_getElem? (i := 2) rfl)), (wl0 _ (List.mem_of_getElem? (i := 10) rfl)), by decide +kernel⟩
theorem yo_184 : tm_yo (tm_mt 184) 2 := ⟨(cwl9 _ (List.mem_of_getElem? (i := 3) rfl)), (wl0 _ (List.mem_of_getElem? (i := 11) rfl)), by decide +kernel⟩
theorem yo_185 : tm_yo (tm_mt 185) 3 := ⟨(cwl9 _ (List.mem_of_getElem? (i := 4) rfl)), (wl0 _ (List.mem_of_getElem? (i := 10) rfl)), by decide +kernel⟩
theorem yo_186 : tm_yo (tm_mt 186) 3 := ⟨(cwl9 _ (List.mem_of_getElem? (i := 5) rfl)), (wl0 _ (List.mem_of_getElem? (i := 4) rfl)), by decide +kernel⟩
theorem yo_187 : tm_yo (tm_mt 187) 1 := ⟨(cwl9 _ (List.mem_of_getElem? (i := 6) rfl)), (wl0 _ (List.mem_of_getElem? (i := 13) rfl)), by decide +kernel⟩
theorem yo_253 : tm_yo (tm_mt 253) 3 := ⟨(cwl9 _ (List.mem_of_getElem? (i := 7) rfl)), (wl0 _ (List.mem_of_getElem? (i := 4) rfl)), by decide +kernel⟩
theorem yo_254 : tm_yo (tm_mt 254) 2 := ⟨(cwl9 _ (List.mem_of_getElem? (i := 8) rfl)), (wl0 _ (List.mem_of_getElem? (i := 4) rfl)), by decide +kernel⟩
theorem yo_255 : tm_yo (tm_mt 255) 1 := ⟨(cwl9 _ (List.mem_of_getElem? (i := 9) rfl)), (wl0 _ (List.mem_of_getElem? (i := 4) rfl)), by decide +kernel⟩
theorem yo_188 : tm_yo (tm_mt 188) 2 := ⟨(cwl9 _ (List.mem_of_getElem? (i := 10) rfl)), (wl0 _ (List.mem_of_getElem? (i := 4) rfl)), by decide +kernel⟩
theorem yo_189 : tm_yo (tm_mt 189) 2 := ⟨(cwl9 _ (List.mem_of_getElem? (i := 11) rfl)), (wl0 _ (List.mem_of_getElem? (i := 4) rfl)), by decide +kernel⟩
theorem yo_190 : tm_yo (tm_mt 190) 1 := ⟨(cwl9 _ (List.mem_of_getElem? (i := 12) rfl)), (wl0 _ (List.mem_of_getElem? (i := 4) rfl)), by decide +kernel⟩
theorem yo_256 : tm_yo (tm_mt 256) 2 := ⟨(cwl9 _ (List.mem_of_getElem? (i := 13) rfl)), (wl0 _ (List.mem_of_getElem? (i := 4) rfl)), by decide +kernel⟩
theorem yo_191 : tm_yo (tm_mt 191) 2 := ⟨(cwl9 _ (List.mem_of_getElem? (i := 14) rfl)), (wl0 _ (List.mem_of_getElem? (i := 4) rfl)), by decide +kernel⟩
theorem yo_192 : tm_yo (tm_mt 192) 2 := ⟨(cwl9 _ (List.mem_of_getElem? (i := 15) rfl)), (wl0 _ (List.mem_of_getElem? (i := 4) rfl)), by decide +kernel⟩
theorem yo_193 : tm_yo (tm_mt 193) 2 := ⟨(cwl9 _ (List.mem_of_getElem? (i := 16) rfl)), (wl0 _ (List.mem_of_getElem? (i := 4) rfl)), by decide +kernel⟩
theorem yo_194 : tm_yo (tm_mt 194) 1 := ⟨(cwl9 _ (List.mem_of_getElem? (i := 17) rfl)), (wl0 _ (List.mem_of_getElem? (i := 4) rfl)), by decide +kernel⟩
theorem yo_195 : tm_yo (tm_mt 195) 4 := ⟨(cwl9 _ (List.mem_of_getElem? (i := 18) rfl)), (wl0 _ (List.mem_of_getElem? (i := 4) rfl)), by decide +kernel⟩
theorem yo_196 : tm_yo (tm_mt 196) 0 := ⟨(cwl9 _ (List.mem_of_getElem? (i := 19) rfl)), (wl0 _ (List.mem_of_getElem? (i := 4) rfl)), by decide +kernel⟩
theorem yo_197 : tm_yo (tm_mt 197) 3 := ⟨(cwl10 _ (List.mem_of_getElem? (i := 0) rfl)), (wl0 _ (List.mem_of_getElem? (i := 10) rfl)), by decide +kernel⟩
theorem yo_198 : tm_yo (tm_mt 198) 4 := ⟨(cwl10 _ (List.mem_of_getElem? (i := 1) rfl)), (wl0 _ (List.mem_of_getElem? (i := 11) rfl)), by decide +kernel⟩
theorem yo_199 : tm_yo (tm_mt 199) 3 := ⟨(cwl10 _ (List.mem_of_getElem? (i := 2) rfl)), (wl0 _ (List.mem_of_getElem? (i := 11) rfl)), by decide +kernel⟩
theorem yo_200 : tm_yo (tm_mt 200) 3 := ⟨(cwl10 _ (List.mem_of_getElem? (i := 3) rfl)), (wl0 _ (List.mem_of_getElem? (i := 11) rfl)), by decide +kernel⟩
theorem yo_201 : tm_yo (tm_mt 201) 5 := ⟨(cwl10 _ (List.mem_of_getElem? (i := 4) rfl)), (wl0 _ (List.mem_of_getElem? (i := 11) rfl)), by decide +kernel⟩
theorem yo_202 : tm_yo (tm_mt 202) 0 := ⟨(cwl10 _ (List.mem_of_getElem? (i := 5) rfl)), (wl0 _ (List.mem_of_getElem? (i := 11) rfl)), by decide +kernel⟩
theorem yo_203 : tm_yo (tm_mt 203) 2 := ⟨(cwl10 _ (List.mem_of_getElem? (i := 6) rfl)), (wl0 _ (List.mem_of_getElem? (i := 11) rfl)), by decide +kernel⟩
theorem yo_204 : tm_yo (tm_mt 204) 3 := ⟨(cwl10 _ (List.mem_of_getElem? (i := 7) rfl)), (wl0 _ (List.mem_of_getElem? (i := 11) rfl)), by decide +kernel⟩
theorem yo_205 : tm_yo (tm_mt 205) 3 := ⟨(cwl10 _ (List.mem_of_getElem? (i := 8) rfl)), (wl0 _ (List.mem_of_getElem? (i := 11) rfl)), by decide +kernel⟩
theorem yo_206 : tm_yo (tm_mt 206) 2 := ⟨(cwl10 _ (List.mem_of_getElem? (i := 9) rfl)), (wl0 _ (List.mem_of_getElem? (i := 4) rfl)), by decide +kernel⟩
theorem yo_207 : tm_yo (tm_mt 207) 5 := ⟨(cwl10 _ (List.mem_of_getElem? (i := 10) rfl)), (wl0 _ (List.mem_of_getElem? (i := 10) rfl)), by decide +kernel⟩
theorem yo_208 : tm_yo (tm_mt 208) 5 := ⟨(cwl10 _ (List.mem_of_getElem? (i := 11) rfl)), (wl0 _ (List.mem_of_getElem? (i := 11) rfl)), by decide +kernel⟩
theorem yo_209 : tm_yo (tm_mt 209) 1 := ⟨(cwl10 _ (List.mem_of_getElem? (i := 12) rfl)), (wl0 _ (List.mem_of_getElem? (i := 5) rfl)), by decide +kernel⟩
theorem yo_210 : tm_yo (tm_mt 210) 0 := ⟨(cwl10 _ (List.mem_of_getElem? (i := 13) rfl)), (wl0 _ (List.mem_of_getElem? (i := 5) rfl)), by decide +kernel⟩
theorem yo_211 : tm_yo (tm_mt 211) 2 := ⟨(cwl10 _ (List.mem_of_getElem? (i := 14) rfl)), (wl0 _ (List.mem_of_getElem? (i := 5) rfl)), by decide +kernel⟩
theorem yo_212 : tm_yo (tm_mt 212) 0 := ⟨(cwl10 _ (List.mem_of_getElem? (i := 15) rfl)), (wl0 _ (List.mem_of_getElem? (i := 10) rfl)), by decide +kernel⟩
theorem yo_213 : tm_yo (tm_mt 213) 1 := ⟨(cwl10 _ (List.mem_of_getElem? (i := 16) rfl)), (wl0 _ (List.mem_of_getElem? (i := 11) rfl)), by decide +kernel⟩
theorem yo_214 : tm_yo (tm_mt 214) 0 := ⟨(cwl10 _ (List.mem_of_getElem? (i := 17) rfl)), (wl0 _ (List.mem_of_getElem? (i := 11) rfl)), by decide +kernel⟩
theorem yo_215 : tm_yo (tm_mt 215) 1 := ⟨(cwl10 _ (List.mem_of_getElem? (i := 18) rfl)), (wl0 _ (List.mem_of_getElem? (i := 10) rfl)), by decide +kernel⟩
theorem yo_216 : tm_yo (tm_mt 216) 1 := ⟨(cwl10 _ (List.mem_of_getElem? (i := 19) rfl)), (wl0 _ (List.mem_of_getElem? (i := 11) rfl)), by decide +kernel⟩
theorem yo_217 : tm_yo (tm_mt 217) 1 := ⟨(cwl11 _ (List.mem_of_getElem? (i := 0) rfl)), (wl0 _ (List.mem_of_getElem? (i := 5) rfl)), by decide +kernel⟩
theorem yo_218 : tm_yo (tm_mt 218) 1 := ⟨(cwl11 _ (List.mem_of_getElem? (i := 1) rfl)), (wl0 _ (List.mem_of_getElem? (i := 10) rfl)), by decide +kernel⟩
theorem yo_219 : tm_yo (tm_mt 219) 2 := ⟨(cwl11 _ (List.mem_of_getElem? (i := 2) rfl)), (wl0 _ (List.mem_of_getElem? (i := 11) rfl)), by decide +kernel⟩
theorem yo_220 : tm_yo (tm_mt 220) 1 := ⟨(cwl11 _ (List.mem_of_getElem? (i := 3) rfl)), (wl0 _ (List.mem_of_getElem? (i := 11) rfl)), by decide +kernel⟩
theorem yo_221 : tm_yo (tm_mt 221) 1 := ⟨(cwl11 _ (List.mem_of_getElem? (i := 4) rfl)), (wl0 _ (List.mem_of_getElem? (i := 10) rfl)), by decide +kernel⟩
theorem yo_222 : tm_yo (tm_mt 222) 2 := ⟨(cwl11 _ (List.mem_of_getElem? (i := 5) rfl)), (wl0 _ (List.mem_of_getElem? (i := 6) rfl)), by decide +kernel⟩
theorem yo_257 : tm_yo (tm_mt 257) 2 := ⟨(cwl11 _ (List.mem_of_getElem? (i := 6) rfl)), (wl0 _ (List.mem_of_getElem? (i := 6) rfl)), by decide +kernel⟩
theorem yo_223 : tm_yo (tm_mt 223) 5 := ⟨(cwl11 _ (List.mem_of_getElem? (i := 7) rfl)), (wl0 _ (List.mem_of_getElem? (i := 6) rfl)), by decide +kernel⟩
theorem yo_224 : tm_yo (tm_mt 224) 3 := ⟨(cwl11 _ (List.mem_of_getElem? (i := 8) rfl)), (wl0 _ (List.mem_of_getElem? (i := 10) rfl)), by decide +kernel⟩
theorem yo_225 : tm_yo (tm_mt 225) 3 := ⟨(cwl11 _ (List.mem_of_getElem? (i := 9) rfl)), (wl0 _ (List.mem_of_getElem? (i := 11) rfl)), by decide +kernel⟩
theorem yo_226 : tm_yo (tm_mt 226) 1 := ⟨(cwl11 _ (List.mem_of_getElem? (i := 10) rfl)), (wl0 _ (List.mem_of_getElem? (i := 6) rfl)), by decide +kernel⟩
theorem yo_227 : tm_yo (tm_mt 227) 1 := ⟨(cwl11 _ (List.mem_of_getElem? (i := 11) rfl)), (wl0 _ (List.mem_of_getElem? (i := 10) rfl)), by decide +kernel⟩
theorem yo_228 : tm_yo (tm_mt 228) 1 := ⟨(cwl11 _ (List.mem_of_getElem? (i := 12) rfl)), (wl0 _ (List.mem_of_getElem? (i := 11) rfl)), by decide +kernel⟩
theorem yo_229 : tm_yo (tm_mt 229) 1 := ⟨(cwl11 _ (List.mem_of_getElem? (i := 13) rfl)), (wl0 _ (List.mem_of_getElem? (i := 6) rfl)), by decide +kernel⟩
theorem yo_230 : tm_yo (tm_mt 230) 1 := ⟨(cwl11 _ (List.mem_of_getElem? (i := 14) rfl)), (wl0 _ (List.mem_of_getElem? (i := 10) rfl)), by decide +kernel⟩
theorem yo_231 : tm_yo (tm_mt 231) 1 := ⟨(cwl11 _ (List.mem_of_getElem? (i := 15) rfl)), (wl0 _ (List.mem_of_getElem? (i := 11) rfl)), by decide +kernel⟩
theorem yo_232 : tm_yo (tm_mt 232) 1 := ⟨(cwl11 _ (List.mem_of_getElem? (i := 16) rfl)), (wl0 _ (List.mem_of_getElem? (i := 10) rfl)), by decide +kernel⟩
theorem yo_233 : tm_yo (tm_mt 233) 2 := ⟨(cwl11 _ (List.mem_of_getElem? (i := 17) rfl)), (wl0 _ (List.mem_of_getElem? (i := 6) rfl)), by decide +kernel⟩
theorem yo_234 : tm_yo (tm_mt 234) 2 := ⟨(cwl11 _ (List.mem_of_getElem? (i := 18) rfl)), (wl0 _ (List.mem_of_getElem? (i := 6) rfl)), by decide +kernel⟩
theorem yo_235 : tm_yo (tm_mt 235) 1 := ⟨(cwl11 _ (List.mem_of_getElem? (i := 19) rfl)), (wl0 _ (List.mem_of_getElem? (i := 6) rfl)), by decide +kernel⟩
theorem yo_236 : tm_yo (tm_mt 236) 3 := ⟨(cwl12 _ (List.mem_of_getElem? (i := 0) rfl)), (wl0 _ (List.mem_of_getElem? (i := 10) rfl)), by decide +kernel⟩
theorem yo_237 : tm_yo (tm_mt 237) 1 := ⟨(cwl12 _ (List.mem_of_getElem? (i := 1) rfl)), (wl0 _ (List.mem_of_getElem? (i := 11) rfl)), by decide +kernel⟩
theorem yo_238 : tm_yo (tm_mt 238) 4 := ⟨(cwl12 _ (List.mem_of_getElem? (i := 2) rfl)), (wl0 _ (List.mem_of_getElem? (i := 11) rfl)), by decide +kernel⟩
theorem yo_239 : tm_yo (tm_mt 239) 3 := ⟨(cwl12 _ (List.mem_of_getElem? (i := 3) rfl)), (wl0 _ (List.mem_of_getElem? (i := 11) rfl)), by decide +kernel⟩
theorem yo_240 : tm_yo (tm_mt 240) 3 := ⟨(cwl12 _ (List.mem_of_getElem? (i := 4) rfl)), (wl0 _ (List.mem_of_getElem? (i := 11) rfl)), by decide +kernel⟩
theorem yo_241 : tm_yo (tm_mt 241) 4 := ⟨(cwl12 _ (List.mem_of_getElem? (i := 5) rfl)), (wl0 _ (List.mem_of_getElem? (i := 6) rfl)), by decide +kernel⟩
theorem yo_242 : tm_yo (tm_mt 242) 6 := ⟨(cwl12 _ (List.mem_of_getElem? (i := 6) rfl)), (wl0 _ (List.mem_of_getElem? (i := 10) rfl)), by decide +kernel⟩
theorem yo_243 : tm_yo (tm_mt 243) 6 := ⟨(cwl12 _ (List.mem_of_getElem? (i := 7) rfl)), (wl0 _ (List.mem_of_getElem? (i := 11) rfl)), by decide +kernel⟩
theorem yo_244 : tm_yo (tm_mt 244) 3 := ⟨(cwl12 _ (List.mem_of_getElem? (i := 8) rfl)), (wl0 _ (List.mem_of_getElem? (i := 6) rfl)), by decide +kernel⟩
theorem yo_245 : tm_yo (tm_mt 245) 5 := ⟨(cwl12 _ (List.mem_of_getElem? (i := 9) rfl)), (wl0 _ (List.mem_of_getElem? (i := 10) rfl)), by decide +kernel⟩
theorem yo_246 : tm_yo (tm_mt 246) 5 := ⟨(cwl12 _ (List.mem_of_getElem? (i := 10) rfl)), (wl0 _ (List.mem_of_getElem? (i := 11) rfl)), by decide +kernel⟩
theorem yo_247 : tm_yo (tm_mt 247) 2 := ⟨(cwl12 _ (List.mem_of_getElem? (i := 11) rfl)), (wl0 _ (List.mem_of_getElem? (i := 6) rfl)), by decide +kernel⟩
theorem yo_248 : tm_yo (tm_mt 248) 3 := ⟨(cwl12 _ (List.mem_of_getElem? (i := 12) rfl)), (wl0 _ (List.mem_of_getElem? (i := 10) rfl)), by decide +kernel⟩
theorem yo_249 : tm_yo (tm_mt 249) 3 := ⟨(cwl12 _ (List.mem_of_getElem? (i := 13) rfl)), (wl0 _ (List.mem_of_getElem? (i := 11) rfl)), by decide +kernel⟩
theorem yo_250 : tm_yo (tm_mt 250) 1 := ⟨(cwl12 _ (List.mem_of_getElem? (i := 14) rfl)), (wl0 _ (List.mem_of_getElem? (i := 10) rfl)), by decide +kernel⟩
theorem yo_251 : tm_yo (tm_mt 251) 1 := ⟨(cwl12 _ (List.mem_of_getElem? (i := 15) rfl)), (wl0 _ (List.mem_of_getElem? (i := 11) rfl)), by decide +kernel⟩
def tm_fin (ci k : Nat) : Bool := match vwCl[ci]? with
  | some q => (q.2.1 k).2.2.2
  | none => false
def tm_lnc (own : String) (mt : Nat → tm_Mt) (i : Instr) (x1 x2 x3 : Nat) : Prop := match i with
  | .getfield k => tm_fL own k x1 x2
  | .putfield k => tm_pL own (tm_fin x1 x2) k x1 x2
  | .ldc k => x3 = 1 ∨ Cond.constant own k (Int32.ofInt (Int.negSucc x1 + Int.ofNat x2 + 1)) ∈ tm_Om
  | .ldc_w k => Cond.constant own k (Int32.ofInt (Int.negSucc x1 + Int.ofNat x2 + 1)) ∈ tm_Om
  | .ldc2_w k => Cond.constantLong own k (Int64.ofNat x1) ∈ tm_Om
  | .new k => ∃ (C : String) (T : u_T) (N : Nat), vwCl[x1]? = some (C, T, N) ∧ Cond.classLink own k C ∈ tm_Om ∧ Cond.instantiable C N ∈ tm_Om ∧ Cond.initialized C ∈ tm_Om
  | .newarray t => Cond.arrayClass (newarray.typeOf t) ∈ tm_Om
  | .anewarray k => ∃ C : String, ((x1 = 5 ∧ C = RX8) ∨ (x1 = 6 ∧ C = RX3)) ∧ Cond.classLink own k C ∈ tm_Om
  | .invokestatic k => (x1 = 9003 ∧ Cond.methodLink own k Lib.Math.max.name ∈ tm_Om ∧ Cond.static Lib.Math.max.name ∈ tm_Om ∧ Cond.initialized "java/lang/Math" ∈ tm_Om ∧ Cond.code Lib.Math.max.name Lib.Math.max.code 2 (some .int) ∈ tm_Om) ∨
      (x1 = 9004 ∧ Cond.methodLink own k Lib.Math.min.name ∈ tm_Om ∧ Cond.static Lib.Math.min.name ∈ tm_Om ∧ Cond.initialized "java/lang/Math" ∈ tm_Om ∧ Cond.code Lib.Math.min.name Lib.Math.min.code 2 (some .int) ∈ tm_Om) ∨
      (x1 ≠ 9003 ∧ x1 ≠ 9004 ∧ tm_yo (mt x1) x2 ∧ Cond.static (mt x1).1 ∈ tm_Om ∧ tm_ml own k (mt x1))
  | .invokevirtual k => x1 = 9001 ∨ x1 = 9002 ∨ (tm_yo (mt x1) x2 ∧ Cond.instanceMethod (mt x1).1 ∈ tm_Om ∧ Cond.selects (mt x1).1.cls (mt x1).1 (mt x1).1 ∈ tm_Om ∧ tm_ml own k (mt x1) ∧ ∃ T N, vwCl[x3 / 4]? = some ((mt x1).1.cls, T, N))
  | .invokespecial k => (x1 = 9000 ∧ Cond.methodLink own k Lib.objectInit ∈ tm_Om ∧ Cond.instanceMethod Lib.objectInit ∈ tm_Om ∧ Cond.code Lib.objectInit ⟨#[0xb1]⟩ 1 none ∈ tm_Om) ∨ (x1 ≠ 9000 ∧ tm_yo (mt x1) x2 ∧ Cond.instanceMethod (mt x1).1 ∈ tm_Om ∧ (mt x1).1.name = "<init>" ∧ (mt x1).2.2.2.1 = none ∧ tm_ml own k (mt x1))
  | _ => True
def tm_lb (ini : Bool) (mt : Nat → tm_Mt) (fr lo : Nat) (i : Instr) (x1 x2 : Nat) : Bool := match i with
  | .putfield _ => !tm_fin x1 x2 || ini
  | .invokestatic _ => if x1 = 9003 ∨ x1 = 9004 then decide (1 ≤ fr) && decide (21 ≤ lo) else decide ((mt x1).2.2.2.2.1 + 1 ≤ fr) && decide (8 + ((mt x1).2.2.1 + 11) + (mt x1).2.2.2.2.2 ≤ lo)
  | .invokevirtual _ => x1 == 9001 || x1 == 9002 || (decide ((mt x1).2.2.2.2.1 + 1 ≤ fr) && decide (8 + ((mt x1).2.2.1 + 11) + (mt x1).2.2.2.2.2 ≤ lo))
  | .invokespecial _ => if x1 = 9000 then decide (1 ≤ fr) && decide (20 ≤ lo) else decide ((mt x1).2.2.2.2.1 + 1 ≤ fr) && decide (8 + ((mt x1).2.2.1 + 11) + (mt x1).2.2.2.2.2 ≤ lo)
  | _ => true
theorem tm_pL_ini {own : String} {ini : Bool} {i ci k : Nat} (h : tm_pL own (tm_fin ci k) i ci k) (hb : (!tm_fin ci k || ini) = true) : tm_pL own ini i ci k := by
  obtain ⟨C, T, N, hc, hl⟩ := h
  refine ⟨C, T, N, hc, ?_⟩
  rcases hl with hl | hl | ⟨l1, l2, l3, l4⟩
  · exact Or.inl hl
  · exact Or.inr (Or.inl hl)
  · refine Or.inr (Or.inr ⟨l1, l2, ?_, l4⟩)
    rw [l3] at hb
    simpa using hb
theorem tm_lnk_of {own : String} {ini : Bool} {mt : Nat → tm_Mt} {fr lo : Nat} {i : Instr} {x1 x2 x3 : Nat} (h : tm_lnc own mt i x1 x2 x3) (hb : tm_lb ini mt fr lo i x1 x2 = true) : tm_lnk own ini mt fr lo i x1 x2 x3 := by
  unfold tm_lnc at h
  unfold tm_lb at hb
  unfold tm_lnk
  split at h
  · exact h
  · exact tm_pL_ini h hb
  · exact h
  · exact h
  · exact h
  · exact h
  · exact h
  · exact h
  · rcases h with ⟨h1, h2, h3, h4, h5⟩ | ⟨h1, h2, h3, h4, h5⟩ | ⟨h1, h2, h3, h4, h5⟩
    · rw [if_pos (Or.inl h1)] at hb
      simp only [Bool.and_eq_true, decide_eq_true_eq] at hb
      exact Or.inl ⟨h1, h2, h3, h4, h5, hb⟩
    · rw [if_pos (Or.inr h1)] at hb
      simp only [Bool.and_eq_true, decide_eq_true_eq] at hb
      exact Or.inr (Or.inl ⟨h1, h2, h3, h4, h5, hb⟩)
    · rw [if_neg (fun z => z.elim h1 h2)] at hb
      simp only [Bool.and_eq_true, decide_eq_true_eq] at hb
      exact Or.inr (Or.inr ⟨h1, h2, h3, h4, h5, hb⟩)
  · rcases h with h | h | ⟨h1, h2, h3, h4, h5⟩
    · exact Or.inl h
    · exact Or.inr (Or.inl h)
    · simp only [Bool.or_eq_true, beq_iff_eq, Bool.and_eq_true, decide_eq_true_eq] at hb
      rcases hb with (hb | hb) | hb
      · exact Or.inl hb
      · exact Or.inr (Or.inl hb)
      · exact Or.inr (Or.inr ⟨h1, h2, h3, h4, hb, h5⟩)
  · rcases h with ⟨h1, h2, h3, h4⟩ | ⟨h1, h2, h3, h4, h5, h6⟩
    · rw [if_pos h1] at hb
      simp only [Bool.and_eq_true, decide_eq_true_eq] at hb
      exact Or.inl ⟨h1, h2, h3, h4, hb⟩
    · rw [if_neg h1] at hb
      simp only [Bool.and_eq_true, decide_eq_true_eq] at hb
      exact Or.inr ⟨h1, h2, h3, h4, h5, h6, hb⟩
  · clear hb h
    first | exact True.intro | (split <;> first | trivial | (exfalso; simp_all))
def tm_pool (i : Instr) : Bool := match i with
  | .getfield _ | .putfield _ | .ldc _ | .ldc_w _ | .ldc2_w _ | .new _ | .newarray _ | .anewarray _ | .invokestatic _ | .invokevirtual _ | .invokespecial _ => true
  | _ => false
abbrev tm_LK : Type := List (Instr × Nat × Nat × Nat)
/-- all rows of a code, each against its decoding, its checks and its link -/
def tm_all (LK : tm_LK) (ini : Bool) (mt : Nat → tm_Mt) (t : tm_Mt) (tz : Bool) : List tm_E → List Nat → Bool
  | [], _ => true
  | e :: r, ix => decide (decode t.2.1 e.1 = .ok (e.2.1, e.2.2.1)) && (tm_chk t.2.2.1 e.1 e.2.1 e.2.2.1 e.2.2.2.1 e.2.2.2.2.1 e.2.2.2.2.2 && (tm_rtc t.2.2.2.1 tz e.2.1 && (tm_lb ini mt t.2.2.2.2.1 t.2.2.2.2.2 e.2.1 e.2.2.2.1 e.2.2.2.2.1 &&
    (bif tm_pool e.2.1 then (match ix with
      | j :: ix => decide (LK[j]? = some (e.2.1, e.2.2.2.1, e.2.2.2.2.1, e.2.2.2.2.2)) && tm_all LK ini mt t tz r ix
      | [] => false) else tm_all LK ini mt t tz r ix))))
theorem tm_lnc_np {own : String} {mt : Nat → tm_Mt} {i : Instr} {x1 x2 x3 : Nat} (h : tm_pool i = false) : tm_lnc own mt i x1 x2 x3 := by
  unfold tm_lnc
  split <;> first | cases h | trivial
theorem tm_cdk_of {LK : tm_LK} {own : String} {ini : Bool} {mt : Nat → tm_Mt} {t : tm_Mt} {tz : Bool} (hL : ∀ e ∈ LK, tm_lnc own mt e.1 e.2.1 e.2.2.1 e.2.2.2) : ∀ {cd : List tm_E} {ix : List Nat}, tm_all LK ini mt t tz cd ix = true → tm_cdk own ini mt t tz cd := by
  intro cd
  induction cd with
  | nil => intro ix _ pc q h; cases h
  | cons e r ih =>
    intro ix h pc q hq
    unfold tm_all at h
    simp only [Bool.and_eq_true, decide_eq_true_eq] at h
    obtain ⟨h1, h2, h3, h4, h5⟩ := h
    unfold tm_at at hq
    cases hb : Nat.beq e.1 pc with
    | true =>
      rw [hb] at hq
      obtain rfl : e.2 = q := Option.some.inj hq
      obtain rfl : e.1 = pc := Nat.eq_of_beq_eq_true hb
      refine ⟨h1, h2, h3, tm_lnk_of ?_ h4⟩
      cases hp : tm_pool e.2.1 with
      | false => exact tm_lnc_np hp
      | true =>
        rw [hp] at h5
        cases ix with
        | nil => cases h5
        | cons j ix =>
          simp only [cond_true, Bool.and_eq_true, decide_eq_true_eq] at h5
          exact hL _ (List.mem_of_getElem? h5.1)
    | false =>
      rw [hb] at hq
      cases hp : tm_pool e.2.1 with
      | false =>
        rw [hp] at h5
        exact ih h5 pc q hq
      | true =>
        rw [hp] at h5
        cases ix with
        | nil => cases h5
        | cons j ix =>
          simp only [cond_true, Bool.and_eq_true, decide_eq_true_eq] at h5
          exact ih h5.2 pc q hq
theorem tm_nos_all {cd : List tm_E} (h : cd.all (fun e => tm_nos e.2.1 e.2.2.2.1 e.2.2.2.2.2) = true) {l : Launch} {t : tm_Mt} {cA : Nat → ClassId} {D : va_G} {B : tm_B} {R : Room} {s : State} : tm_StrM l t cA D B R s cd := by
  intro p e m args below meth c Q _ _ _ _ _ _ _ pc q hq
  exact tm_nos_ok (List.all_eq_true.mp h _ (tm_at_mem hq))
def lk_RX5_0 : tm_LK := [(.ldc2_w 42, 32, 0, 0), (.invokespecial 3, 9000, 0, 20), (.newarray .byte, 2, 0, 0), (.putfield 9, 5, 0, 2), (.newarray .long, 4, 0, 0), (.putfield 15, 5, 1, 2), (.putfield 19, 5, 5, 0), (.putfield 23, 5, 7, 0), (.ldc 26, 0, 0, 1), (.invokevirtual 28, 9001, 0, 0), (.invokevirtual 34, 9002, 1, 0), (.invokestatic 38, 1, 2, 2), (.getfield 15, 5, 1, 2), (.getfield 89, 5, 9, 1), (.putfield 89, 5, 9, 1), (.getfield 52, 5, 3, 0), (.getfield 50, 5, 2, 0), (.getfield 9, 5, 0, 2), (.invokestatic 71, 20, 1, 1), (.putfield 52, 5, 3, 0), (.getfield 61, 5, 6, 0), (.invokevirtual 93, 21, 0, 21), (.putfield 68, 5, 8, 0), (.invokestatic 77, 23, 1, 1), (.getfield 68, 5, 8, 0), (.invokestatic 96, 25, 1, 1), (.putfield 61, 5, 6, 0), (.invokevirtual 74, 22, 0, 20), (.invokevirtual 80, 24, 0, 20), (.invokevirtual 83, 26, 0, 20), (.invokevirtual 86, 27, 0, 20), (.invokestatic 44, 9004, 2, 1), (.putfield 50, 5, 2, 0), (.putfield 55, 5, 4, 0), (.invokevirtual 58, 28, 0, 20), (.getfield 23, 5, 7, 0), (.invokevirtual 64, 30, 1, 21)]
theorem lc_RX5_0 : ∀ e ∈ lk_RX5_0, tm_lnc RX5 tm_mt e.1 e.2.1 e.2.2.1 e.2.2.2 := List.forall_mem_cons.mpr ⟨(wl0 _ (List.mem_of_getElem? (i := 14) rfl)),
  List.forall_mem_cons.mpr ⟨Or.inl ⟨rfl, (wl0 _ (List.mem_of_getElem? (i := 15) rfl)), (wl0 _ (List.mem_of_getElem? (i := 16) rfl)), (cwl12 _ (List.mem_of_getElem? (i := 16) rfl))⟩,
  List.forall_mem_cons.mpr ⟨(wl0 _ (List.mem_of_getElem? (i := 17) rfl)),
  List.forall_mem_cons.mpr ⟨⟨_, _, _, rfl, Or.inl ⟨(wl0 _ (List.mem_of_getElem? (i := 18) rfl)), rfl⟩⟩,
  List.forall_mem_cons.mpr ⟨(wl0 _ (List.mem_of_getElem? (i := 19) rfl)),
  List.forall_mem_cons.mpr ⟨⟨_, _, _, rfl, Or.inr (Or.inr ⟨(wl0 _ (List.mem_of_getElem? (i := 20) rfl)), rfl, rfl, rfl⟩)⟩,
  List.forall_mem_cons.mpr ⟨⟨_, _, _, rfl, Or.inl ⟨(wl0 _ (List.mem_of_getElem? (i := 21) rfl)), rfl⟩⟩,
  List.forall_mem_cons.mpr ⟨⟨_, _, _, rfl, Or.inl ⟨(wl0 _ (List.mem_of_getElem? (i := 22) rfl)), rfl⟩⟩,
  List.forall_mem_cons.mpr ⟨Or.inl rfl,
  List.forall_mem_cons.mpr ⟨Or.inl rfl,
  List.forall_mem_cons.mpr ⟨Or.inr (Or.inl rfl),
  List.forall_mem_cons.mpr ⟨Or.inr (Or.inr ⟨by decide, by decide, yo_1, (wl0 _ (List.mem_of_getElem? (i := 26) rfl)), (Or.inl (wl0 _ (List.mem_of_getElem? (i := 25) rfl)))⟩),
  List.forall_mem_cons.mpr ⟨⟨_, _, _, rfl, Or.inl (wl0 _ (List.mem_of_getElem? (i := 20) rfl))⟩,
  List.forall_mem_cons.mpr ⟨⟨_, _, _, rfl, Or.inl (wl2 _ (List.mem_of_getElem? (i := 23) rfl))⟩,
  List.forall_mem_cons.mpr ⟨⟨_, _, _, rfl, Or.inl ⟨(wl2 _ (List.mem_of_getElem? (i := 23) rfl)), rfl⟩⟩,
  List.forall_mem_cons.mpr ⟨⟨_, _, _, rfl, Or.inl (wl2 _ (List.mem_of_getElem? (i := 24) rfl))⟩,
  List.forall_mem_cons.mpr ⟨⟨_, _, _, rfl, Or.inl (wl2 _ (List.mem_of_getElem? (i := 25) rfl))⟩,
  List.forall_mem_cons.mpr ⟨⟨_, _, _, rfl, Or.inl (wl0 _ (List.mem_of_getElem? (i := 18) rfl))⟩,
  List.forall_mem_cons.mpr ⟨Or.inr (Or.inr ⟨by decide, by decide, yo_20, (wl2 _ (List.mem_of_getElem? (i := 26) rfl)), (Or.inr ⟨_, (nl0 _ (List.mem_of_getElem? (i := 7) rfl))⟩)⟩),
  List.forall_mem_cons.mpr ⟨⟨_, _, _, rfl, Or.inl ⟨(wl2 _ (List.mem_of_getElem? (i := 24) rfl)), rfl⟩⟩,
  List.forall_mem_cons.mpr ⟨⟨_, _, _, rfl, Or.inl (wl2 _ (List.mem_of_getElem? (i := 27) rfl))⟩,
  List.forall_mem_cons.mpr ⟨Or.inr (Or.inr ⟨yo_21, (wl2 _ (List.mem_of_getElem? (i := 29) rfl)), (wl2 _ (List.mem_of_getElem? (i := 30) rfl)), (Or.inl (wl2 _ (List.mem_of_getElem? (i := 28) rfl))), _, _, rfl⟩),
  List.forall_mem_cons.mpr ⟨⟨_, _, _, rfl, Or.inl ⟨(wl2 _ (List.mem_of_getElem? (i := 31) rfl)), rfl⟩⟩,
  List.forall_mem_cons.mpr ⟨Or.inr (Or.inr ⟨by decide, by decide, yo_23, (wl2 _ (List.mem_of_getElem? (i := 32) rfl)), (Or.inr ⟨_, (nl0 _ (List.mem_of_getElem? (i := 8) rfl))⟩)⟩),
  List.forall_mem_cons.mpr ⟨⟨_, _, _, rfl, Or.inl (wl2 _ (List.mem_of_getElem? (i := 31) rfl))⟩,
  List.forall_mem_cons.mpr ⟨Or.inr (Or.inr ⟨by decide, by decide, yo_25, (wl2 _ (List.mem_of_getElem? (i := 33) rfl)), (Or.inr ⟨_, (nl0 _ (List.mem_of_getElem? (i := 9) rfl))⟩)⟩),
  List.forall_mem_cons.mpr ⟨⟨_, _, _, rfl, Or.inl ⟨(wl2 _ (List.mem_of_getElem? (i := 27) rfl)), rfl⟩⟩,
  List.forall_mem_cons.mpr ⟨Or.inr (Or.inr ⟨yo_22, (wl2 _ (List.mem_of_getElem? (i := 35) rfl)), (wl2 _ (List.mem_of_getElem? (i := 36) rfl)), (Or.inl (wl2 _ (List.mem_of_getElem? (i := 34) rfl))), _, _, rfl⟩),
  List.forall_mem_cons.mpr ⟨Or.inr (Or.inr ⟨yo_24, (wl2 _ (List.mem_of_getElem? (i := 38) rfl)), (wl2 _ (List.mem_of_getElem? (i := 39) rfl)), (Or.inl (wl2 _ (List.mem_of_getElem? (i := 37) rfl))), _, _, rfl⟩),
  List.forall_mem_cons.mpr ⟨Or.inr (Or.inr ⟨yo_26, (wl2 _ (List.mem_of_getElem? (i := 41) rfl)), (wl2 _ (List.mem_of_getElem? (i := 42) rfl)), (Or.inl (wl2 _ (List.mem_of_getElem? (i := 40) rfl))), _, _, rfl⟩),
  List.forall_mem_cons.mpr ⟨Or.inr (Or.inr ⟨yo_27, (wl2 _ (List.mem_of_getElem? (i := 44) rfl)), (wl2 _ (List.mem_of_getElem? (i := 45) rfl)), (Or.inl (wl2 _ (List.mem_of_getElem? (i := 43) rfl))), _, _, rfl⟩),
  List.forall_mem_cons.mpr ⟨Or.inr (Or.inl ⟨rfl, (wl2 _ (List.mem_of_getElem? (i := 46) rfl)), (wl2 _ (List.mem_of_getElem? (i := 47) rfl)), (wl2 _ (List.mem_of_getElem? (i := 48) rfl)), (cwl12 _ (List.mem_of_getElem? (i := 17) rfl))⟩),
  List.forall_mem_cons.mpr ⟨⟨_, _, _, rfl, Or.inl ⟨(wl2 _ (List.mem_of_getElem? (i := 25) rfl)), rfl⟩⟩,
  List.forall_mem_cons.mpr ⟨⟨_, _, _, rfl, Or.inl ⟨(wl2 _ (List.mem_of_getElem? (i := 49) rfl)), rfl⟩⟩,
  List.forall_mem_cons.mpr ⟨Or.inr (Or.inr ⟨yo_28, (wl2 _ (List.mem_of_getElem? (i := 51) rfl)), (wl2 _ (List.mem_of_getElem? (i := 52) rfl)), (Or.inl (wl2 _ (List.mem_of_getElem? (i := 50) rfl))), _, _, rfl⟩),
  List.forall_mem_cons.mpr ⟨⟨_, _, _, rfl, Or.inl (wl0 _ (List.mem_of_getElem? (i := 22) rfl))⟩,
  List.forall_mem_cons.mpr ⟨Or.inr (Or.inr ⟨yo_30, (wl2 _ (List.mem_of_getElem? (i := 54) rfl)), (wl2 _ (List.mem_of_getElem? (i := 55) rfl)), (Or.inl (wl2 _ (List.mem_of_getElem? (i := 53) rfl))), _, _, rfl⟩),
  fun _ h => absurd h List.not_mem_nil⟩⟩⟩⟩⟩⟩⟩⟩⟩⟩⟩⟩⟩⟩⟩⟩⟩⟩⟩⟩⟩⟩⟩⟩⟩⟩⟩⟩⟩⟩⟩⟩⟩⟩⟩⟩⟩
def lk_RX5 : tm_LK := lk_RX5_0
theorem lc_RX5 : ∀ e ∈ lk_RX5, tm_lnc RX5 tm_mt e.1 e.2.1 e.2.2.1 e.2.2.2 := lc_RX5_0
def lk_RX4_0 : tm_LK := [(.invokespecial 3, 9000, 0, 16), (.newarray .int, 1, 0, 0), (.putfield 11, 4, 0, 2), (.putfield 15, 4, 1, 2), (.putfield 18, 4, 2, 2), (.putfield 21, 4, 3, 2), (.putfield 26, 4, 4, 2), (.putfield 29, 4, 5, 3), (.putfield 33, 4, 6, 0), (.invokestatic 37, 9004, 2, 1), (.putfield 43, 4, 7, 0), (.putfield 46, 4, 8, 0), (.putfield 49, 4, 9, 0), (.putfield 52, 4, 10, 0), (.getfield 26, 4, 4, 2), (.invokestatic 55, 33, 2, 0), (.getfield 43, 4, 7, 0), (.getfield 11, 4, 0, 2), (.getfield 33, 4, 6, 0), (.getfield 18, 4, 2, 2), (.getfield 52, 4, 10, 0), (.getfield 21, 4, 3, 2), (.getfield 75, 3, 0, 0), (.getfield 78, 3, 1, 0), (.getfield 81, 3, 2, 0), (.getfield 61, 3, 3, 0), (.getfield 84, 3, 6, 0), (.invokevirtual 66, 139, 2, 17), (.getfield 46, 4, 8, 0), (.getfield 15, 4, 1, 2), (.getfield 69, 3, 5, 0), (.getfield 72, 3, 4, 0), (.getfield 49, 4, 9, 0), (.getfield 29, 4, 5, 0), (.invokevirtual 87, 173, 1, 17), (.invokestatic 91, 114, 1, 1)]
theorem lc_RX4_0 : ∀ e ∈ lk_RX4_0, tm_lnc RX4 tm_mt e.1 e.2.1 e.2.2.1 e.2.2.2 := List.forall_mem_cons.mpr ⟨Or.inl ⟨rfl, (wl0 _ (List.mem_of_getElem? (i := 27) rfl)), (wl0 _ (List.mem_of_getElem? (i := 16) rfl)), (cwl12 _ (List.mem_of_getElem? (i := 16) rfl))⟩,
  List.forall_mem_cons.mpr ⟨(wl0 _ (List.mem_of_getElem? (i := 28) rfl)),
  List.forall_mem_cons.mpr ⟨⟨_, _, _, rfl, Or.inr (Or.inr ⟨(wl0 _ (List.mem_of_getElem? (i := 29) rfl)), rfl, rfl, rfl⟩)⟩,
  List.forall_mem_cons.mpr ⟨⟨_, _, _, rfl, Or.inr (Or.inr ⟨(wl0 _ (List.mem_of_getElem? (i := 30) rfl)), rfl, rfl, rfl⟩)⟩,
  List.forall_mem_cons.mpr ⟨⟨_, _, _, rfl, Or.inr (Or.inr ⟨(wl0 _ (List.mem_of_getElem? (i := 31) rfl)), rfl, rfl, rfl⟩)⟩,
  List.forall_mem_cons.mpr ⟨⟨_, _, _, rfl, Or.inr (Or.inr ⟨(wl0 _ (List.mem_of_getElem? (i := 32) rfl)), rfl, rfl, rfl⟩)⟩,
  List.forall_mem_cons.mpr ⟨⟨_, _, _, rfl, Or.inr (Or.inr ⟨(wl0 _ (List.mem_of_getElem? (i := 33) rfl)), rfl, rfl, rfl⟩)⟩,
  List.forall_mem_cons.mpr ⟨⟨_, _, _, rfl, Or.inl ⟨(wl3 _ (List.mem_of_getElem? (i := 45) rfl)), rfl⟩⟩,
  List.forall_mem_cons.mpr ⟨⟨_, _, _, rfl, Or.inl ⟨(wl3 _ (List.mem_of_getElem? (i := 46) rfl)), rfl⟩⟩,
  List.forall_mem_cons.mpr ⟨Or.inr (Or.inl ⟨rfl, (wl6 _ (List.mem_of_getElem? (i := 6) rfl)), (wl2 _ (List.mem_of_getElem? (i := 47) rfl)), (wl2 _ (List.mem_of_getElem? (i := 48) rfl)), (cwl12 _ (List.mem_of_getElem? (i := 17) rfl))⟩),
  List.forall_mem_cons.mpr ⟨⟨_, _, _, rfl, Or.inl ⟨(wl6 _ (List.mem_of_getElem? (i := 7) rfl)), rfl⟩⟩,
  List.forall_mem_cons.mpr ⟨⟨_, _, _, rfl, Or.inl ⟨(wl6 _ (List.mem_of_getElem? (i := 8) rfl)), rfl⟩⟩,
  List.forall_mem_cons.mpr ⟨⟨_, _, _, rfl, Or.inl ⟨(wl6 _ (List.mem_of_getElem? (i := 9) rfl)), rfl⟩⟩,
  List.forall_mem_cons.mpr ⟨⟨_, _, _, rfl, Or.inl ⟨(wl6 _ (List.mem_of_getElem? (i := 10) rfl)), rfl⟩⟩,
  List.forall_mem_cons.mpr ⟨⟨_, _, _, rfl, Or.inl (wl0 _ (List.mem_of_getElem? (i := 33) rfl))⟩,
  List.forall_mem_cons.mpr ⟨Or.inr (Or.inr ⟨by decide, by decide, yo_33, (wl2 _ (List.mem_of_getElem? (i := 65) rfl)), (Or.inl (wl6 _ (List.mem_of_getElem? (i := 11) rfl)))⟩),
  List.forall_mem_cons.mpr ⟨⟨_, _, _, rfl, Or.inl (wl6 _ (List.mem_of_getElem? (i := 7) rfl))⟩,
  List.forall_mem_cons.mpr ⟨⟨_, _, _, rfl, Or.inl (wl0 _ (List.mem_of_getElem? (i := 29) rfl))⟩,
  List.forall_mem_cons.mpr ⟨⟨_, _, _, rfl, Or.inl (wl3 _ (List.mem_of_getElem? (i := 46) rfl))⟩,
  List.forall_mem_cons.mpr ⟨⟨_, _, _, rfl, Or.inl (wl0 _ (List.mem_of_getElem? (i := 31) rfl))⟩,
  List.forall_mem_cons.mpr ⟨⟨_, _, _, rfl, Or.inl (wl6 _ (List.mem_of_getElem? (i := 10) rfl))⟩,
  List.forall_mem_cons.mpr ⟨⟨_, _, _, rfl, Or.inl (wl0 _ (List.mem_of_getElem? (i := 32) rfl))⟩,
  List.forall_mem_cons.mpr ⟨⟨_, _, _, rfl, Or.inr ⟨_, (nl0 _ (List.mem_of_getElem? (i := 44) rfl))⟩⟩,
  List.forall_mem_cons.mpr ⟨⟨_, _, _, rfl, Or.inr ⟨_, (nl0 _ (List.mem_of_getElem? (i := 45) rfl))⟩⟩,
  List.forall_mem_cons.mpr ⟨⟨_, _, _, rfl, Or.inr ⟨_, (nl0 _ (List.mem_of_getElem? (i := 46) rfl))⟩⟩,
  List.forall_mem_cons.mpr ⟨⟨_, _, _, rfl, Or.inr ⟨_, (nl0 _ (List.mem_of_getElem? (i := 47) rfl))⟩⟩,
  List.forall_mem_cons.mpr ⟨⟨_, _, _, rfl, Or.inr ⟨_, (nl0 _ (List.mem_of_getElem? (i := 48) rfl))⟩⟩,
  List.forall_mem_cons.mpr ⟨Or.inr (Or.inr ⟨yo_139, (wl6 _ (List.mem_of_getElem? (i := 66) rfl)), (wl6 _ (List.mem_of_getElem? (i := 67) rfl)), (Or.inl (wl6 _ (List.mem_of_getElem? (i := 65) rfl))), _, _, rfl⟩),
  List.forall_mem_cons.mpr ⟨⟨_, _, _, rfl, Or.inl (wl6 _ (List.mem_of_getElem? (i := 8) rfl))⟩,
  List.forall_mem_cons.mpr ⟨⟨_, _, _, rfl, Or.inl (wl0 _ (List.mem_of_getElem? (i := 30) rfl))⟩,
  List.forall_mem_cons.mpr ⟨⟨_, _, _, rfl, Or.inr ⟨_, (nl0 _ (List.mem_of_getElem? (i := 53) rfl))⟩⟩,
  List.forall_mem_cons.mpr ⟨⟨_, _, _, rfl, Or.inr ⟨_, (nl0 _ (List.mem_of_getElem? (i := 54) rfl))⟩⟩,
  List.forall_mem_cons.mpr ⟨⟨_, _, _, rfl, Or.inl (wl6 _ (List.mem_of_getElem? (i := 9) rfl))⟩,
  List.forall_mem_cons.mpr ⟨⟨_, _, _, rfl, Or.inl (wl3 _ (List.mem_of_getElem? (i := 45) rfl))⟩,
  List.forall_mem_cons.mpr ⟨Or.inr (Or.inr ⟨yo_173, (wl8 _ (List.mem_of_getElem? (i := 25) rfl)), (wl8 _ (List.mem_of_getElem? (i := 26) rfl)), (Or.inl (wl8 _ (List.mem_of_getElem? (i := 24) rfl))), _, _, rfl⟩),
  List.forall_mem_cons.mpr ⟨Or.inr (Or.inr ⟨by decide, by decide, yo_114, (wl6 _ (List.mem_of_getElem? (i := 31) rfl)), (Or.inr ⟨_, (nl0 _ (List.mem_of_getElem? (i := 66) rfl))⟩)⟩),
  fun _ h => absurd h List.not_mem_nil⟩⟩⟩⟩⟩⟩⟩⟩⟩⟩⟩⟩⟩⟩⟩⟩⟩⟩⟩⟩⟩⟩⟩⟩⟩⟩⟩⟩⟩⟩⟩⟩⟩⟩⟩⟩
def lk_RX4 : tm_LK := lk_RX4_0
theorem lc_RX4 : ∀ e ∈ lk_RX4, tm_lnc RX4 tm_mt e.1 e.2.1 e.2.2.1 e.2.2.2 := lc_RX4_0
def lk_RX3_0 : tm_LK := [(.invokespecial 3, 9000, 0, 12), (.putfield 27, 3, 3, 0), (.putfield 30, 3, 4, 3), (.putfield 34, 3, 5, 0), (.putfield 9, 3, 0, 0), (.putfield 15, 3, 1, 0), (.putfield 18, 3, 2, 0), (.putfield 21, 3, 6, 0), (.invokevirtual 24, 110, 0, 12), (.getfield 9, 3, 0, 0), (.getfield 27, 3, 3, 0), (.getfield 15, 3, 1, 0), (.invokestatic 37, 86, 1, 1), (.getfield 34, 3, 5, 0), (.getfield 30, 3, 4, 0), (.invokevirtual 41, 88, 2, 33), (.getfield 21, 3, 6, 0), (.invokestatic 47, 102, 2, 1)]
theorem lc_RX3_0 : ∀ e ∈ lk_RX3_0, tm_lnc RX3 tm_mt e.1 e.2.1 e.2.2.1 e.2.2.2 := List.forall_mem_cons.mpr ⟨Or.inl ⟨rfl, (wl0 _ (List.mem_of_getElem? (i := 34) rfl)), (wl0 _ (List.mem_of_getElem? (i := 16) rfl)), (cwl12 _ (List.mem_of_getElem? (i := 16) rfl))⟩,
  List.forall_mem_cons.mpr ⟨⟨_, _, _, rfl, Or.inl ⟨(wl5 _ (List.mem_of_getElem? (i := 72) rfl)), rfl⟩⟩,
  List.forall_mem_cons.mpr ⟨⟨_, _, _, rfl, Or.inl ⟨(wl5 _ (List.mem_of_getElem? (i := 73) rfl)), rfl⟩⟩,
  List.forall_mem_cons.mpr ⟨⟨_, _, _, rfl, Or.inl ⟨(wl5 _ (List.mem_of_getElem? (i := 74) rfl)), rfl⟩⟩,
  List.forall_mem_cons.mpr ⟨⟨_, _, _, rfl, Or.inl ⟨(wl5 _ (List.mem_of_getElem? (i := 75) rfl)), rfl⟩⟩,
  List.forall_mem_cons.mpr ⟨⟨_, _, _, rfl, Or.inl ⟨(wl5 _ (List.mem_of_getElem? (i := 76) rfl)), rfl⟩⟩,
  List.forall_mem_cons.mpr ⟨⟨_, _, _, rfl, Or.inl ⟨(wl5 _ (List.mem_of_getElem? (i := 77) rfl)), rfl⟩⟩,
  List.forall_mem_cons.mpr ⟨⟨_, _, _, rfl, Or.inl ⟨(wl5 _ (List.mem_of_getElem? (i := 78) rfl)), rfl⟩⟩,
  List.forall_mem_cons.mpr ⟨Or.inr (Or.inr ⟨yo_110, (wl6 _ (List.mem_of_getElem? (i := 0) rfl)), (wl6 _ (List.mem_of_getElem? (i := 1) rfl)), (Or.inl (wl5 _ (List.mem_of_getElem? (i := 79) rfl))), _, _, rfl⟩),
  List.forall_mem_cons.mpr ⟨⟨_, _, _, rfl, Or.inl (wl5 _ (List.mem_of_getElem? (i := 75) rfl))⟩,
  List.forall_mem_cons.mpr ⟨⟨_, _, _, rfl, Or.inl (wl5 _ (List.mem_of_getElem? (i := 72) rfl))⟩,
  List.forall_mem_cons.mpr ⟨⟨_, _, _, rfl, Or.inl (wl5 _ (List.mem_of_getElem? (i := 76) rfl))⟩,
  List.forall_mem_cons.mpr ⟨Or.inr (Or.inr ⟨by decide, by decide, yo_86, (wl5 _ (List.mem_of_getElem? (i := 18) rfl)), (Or.inr ⟨_, (nl0 _ (List.mem_of_getElem? (i := 51) rfl))⟩)⟩),
  List.forall_mem_cons.mpr ⟨⟨_, _, _, rfl, Or.inl (wl5 _ (List.mem_of_getElem? (i := 74) rfl))⟩,
  List.forall_mem_cons.mpr ⟨⟨_, _, _, rfl, Or.inl (wl5 _ (List.mem_of_getElem? (i := 73) rfl))⟩,
  List.forall_mem_cons.mpr ⟨Or.inr (Or.inr ⟨yo_88, (wl5 _ (List.mem_of_getElem? (i := 20) rfl)), (wl5 _ (List.mem_of_getElem? (i := 21) rfl)), (Or.inl (wl6 _ (List.mem_of_getElem? (i := 51) rfl))), _, _, rfl⟩),
  List.forall_mem_cons.mpr ⟨⟨_, _, _, rfl, Or.inl (wl5 _ (List.mem_of_getElem? (i := 78) rfl))⟩,
  List.forall_mem_cons.mpr ⟨Or.inr (Or.inr ⟨by decide, by decide, yo_102, (wl5 _ (List.mem_of_getElem? (i := 63) rfl)), (Or.inr ⟨_, (nl0 _ (List.mem_of_getElem? (i := 52) rfl))⟩)⟩),
  fun _ h => absurd h List.not_mem_nil⟩⟩⟩⟩⟩⟩⟩⟩⟩⟩⟩⟩⟩⟩⟩⟩⟩⟩
def lk_RX3 : tm_LK := lk_RX3_0
theorem lc_RX3 : ∀ e ∈ lk_RX3, tm_lnc RX3 tm_mt e.1 e.2.1 e.2.2.1 e.2.2.2 := lc_RX3_0
def lk_RX9_0 : tm_LK := [(.invokespecial 3, 9000, 0, 36), (.new 9, 4, 11, 0), (.invokespecial 11, 3, 0, 16), (.putfield 12, 9, 0, 2), (.anewarray 18, 6, 0, 0), (.putfield 20, 9, 1, 2), (.newarray .int, 1, 0, 0), (.putfield 24, 9, 2, 2), (.putfield 28, 9, 3, 2), (.newarray .boolean, 3, 0, 0), (.putfield 31, 9, 4, 2), (.getfield 20, 9, 1, 2), (.new 18, 3, 7, 0), (.invokespecial 35, 4, 0, 12), (.invokevirtual 66, 111, 1, 12), (.getfield 24, 9, 2, 2), (.getfield 28, 9, 3, 2), (.putfield 69, 9, 5, 0), (.getfield 108, 3, 0, 0), (.invokevirtual 151, 116, 0, 13), (.getfield 154, 3, 3, 0), (.invokevirtual 126, 84, 1, 1), (.getfield 131, 0, 0, 2), (.getfield 144, 8, 8, 0), (.invokevirtual 111, 115, 0, 37), (.getfield 69, 9, 5, 0), (.invokevirtual 115, 117, 1, 37), (.putfield 119, 3, 1, 0), (.invokevirtual 122, 119, 0, 13), (.getfield 119, 3, 1, 0), (.getfield 135, 3, 2, 0), (.invokevirtual 138, 121, 3, 33), (.invokevirtual 148, 122, 3, 12), (.getfield 31, 9, 4, 2), (.getfield 52, 7, 0, 2), (.getfield 72, 7, 1, 2), (.getfield 75, 7, 3, 2), (.invokestatic 78, 114, 1, 1), (.getfield 82, 7, 2, 2), (.invokevirtual 85, 118, 3, 37)]
theorem lc_RX9_0 : ∀ e ∈ lk_RX9_0, tm_lnc RX9 tm_mt e.1 e.2.1 e.2.2.1 e.2.2.2 := List.forall_mem_cons.mpr ⟨Or.inl ⟨rfl, (wl0 _ (List.mem_of_getElem? (i := 35) rfl)), (wl0 _ (List.mem_of_getElem? (i := 16) rfl)), (cwl12 _ (List.mem_of_getElem? (i := 16) rfl))⟩,
  List.forall_mem_cons.mpr ⟨⟨_, _, _, rfl, (wl0 _ (List.mem_of_getElem? (i := 36) rfl)), (wl0 _ (List.mem_of_getElem? (i := 37) rfl)), (wl0 _ (List.mem_of_getElem? (i := 1) rfl))⟩,
  List.forall_mem_cons.mpr ⟨Or.inr ⟨by decide, yo_3, (wl0 _ (List.mem_of_getElem? (i := 38) rfl)), rfl, rfl, (Or.inr ⟨_, (nl0 _ (List.mem_of_getElem? (i := 0) rfl))⟩)⟩,
  List.forall_mem_cons.mpr ⟨⟨_, _, _, rfl, Or.inr (Or.inr ⟨(wl0 _ (List.mem_of_getElem? (i := 39) rfl)), rfl, rfl, rfl⟩)⟩,
  List.forall_mem_cons.mpr ⟨⟨_, Or.inr ⟨rfl, rfl⟩, (wl0 _ (List.mem_of_getElem? (i := 40) rfl))⟩,
  List.forall_mem_cons.mpr ⟨⟨_, _, _, rfl, Or.inr (Or.inr ⟨(wl0 _ (List.mem_of_getElem? (i := 41) rfl)), rfl, rfl, rfl⟩)⟩,
  List.forall_mem_cons.mpr ⟨(wl0 _ (List.mem_of_getElem? (i := 28) rfl)),
  List.forall_mem_cons.mpr ⟨⟨_, _, _, rfl, Or.inr (Or.inr ⟨(wl0 _ (List.mem_of_getElem? (i := 42) rfl)), rfl, rfl, rfl⟩)⟩,
  List.forall_mem_cons.mpr ⟨⟨_, _, _, rfl, Or.inr (Or.inr ⟨(wl0 _ (List.mem_of_getElem? (i := 43) rfl)), rfl, rfl, rfl⟩)⟩,
  List.forall_mem_cons.mpr ⟨(wl0 _ (List.mem_of_getElem? (i := 44) rfl)),
  List.forall_mem_cons.mpr ⟨⟨_, _, _, rfl, Or.inr (Or.inr ⟨(wl0 _ (List.mem_of_getElem? (i := 45) rfl)), rfl, rfl, rfl⟩)⟩,
  List.forall_mem_cons.mpr ⟨⟨_, _, _, rfl, Or.inl (wl0 _ (List.mem_of_getElem? (i := 41) rfl))⟩,
  List.forall_mem_cons.mpr ⟨⟨_, _, _, rfl, (wl0 _ (List.mem_of_getElem? (i := 40) rfl)), (wl0 _ (List.mem_of_getElem? (i := 46) rfl)), (wl0 _ (List.mem_of_getElem? (i := 2) rfl))⟩,
  List.forall_mem_cons.mpr ⟨Or.inr ⟨by decide, yo_4, (wl0 _ (List.mem_of_getElem? (i := 47) rfl)), rfl, rfl, (Or.inr ⟨_, (nl0 _ (List.mem_of_getElem? (i := 1) rfl))⟩)⟩,
  List.forall_mem_cons.mpr ⟨Or.inr (Or.inr ⟨yo_111, (wl6 _ (List.mem_of_getElem? (i := 3) rfl)), (wl6 _ (List.mem_of_getElem? (i := 4) rfl)), (Or.inl (wl6 _ (List.mem_of_getElem? (i := 2) rfl))), _, _, rfl⟩),
  List.forall_mem_cons.mpr ⟨⟨_, _, _, rfl, Or.inl (wl0 _ (List.mem_of_getElem? (i := 42) rfl))⟩,
  List.forall_mem_cons.mpr ⟨⟨_, _, _, rfl, Or.inl (wl0 _ (List.mem_of_getElem? (i := 43) rfl))⟩,
  List.forall_mem_cons.mpr ⟨⟨_, _, _, rfl, Or.inl ⟨(wl6 _ (List.mem_of_getElem? (i := 5) rfl)), rfl⟩⟩,
  List.forall_mem_cons.mpr ⟨⟨_, _, _, rfl, Or.inr ⟨_, (nl0 _ (List.mem_of_getElem? (i := 32) rfl))⟩⟩,
  List.forall_mem_cons.mpr ⟨Or.inr (Or.inr ⟨yo_116, (wl6 _ (List.mem_of_getElem? (i := 13) rfl)), (wl6 _ (List.mem_of_getElem? (i := 14) rfl)), (Or.inl (wl6 _ (List.mem_of_getElem? (i := 12) rfl))), _, _, rfl⟩),
  List.forall_mem_cons.mpr ⟨⟨_, _, _, rfl, Or.inr ⟨_, (nl0 _ (List.mem_of_getElem? (i := 33) rfl))⟩⟩,
  List.forall_mem_cons.mpr ⟨Or.inr (Or.inr ⟨yo_84, (wl5 _ (List.mem_of_getElem? (i := 35) rfl)), (wl5 _ (List.mem_of_getElem? (i := 36) rfl)), (Or.inl (wl6 _ (List.mem_of_getElem? (i := 15) rfl))), _, _, rfl⟩),
  List.forall_mem_cons.mpr ⟨⟨_, _, _, rfl, Or.inr ⟨_, (nl0 _ (List.mem_of_getElem? (i := 34) rfl))⟩⟩,
  List.forall_mem_cons.mpr ⟨⟨_, _, _, rfl, Or.inr ⟨_, (nl0 _ (List.mem_of_getElem? (i := 35) rfl))⟩⟩,
  List.forall_mem_cons.mpr ⟨Or.inr (Or.inr ⟨yo_115, (wl6 _ (List.mem_of_getElem? (i := 17) rfl)), (wl6 _ (List.mem_of_getElem? (i := 18) rfl)), (Or.inl (wl6 _ (List.mem_of_getElem? (i := 16) rfl))), _, _, rfl⟩),
  List.forall_mem_cons.mpr ⟨⟨_, _, _, rfl, Or.inl (wl6 _ (List.mem_of_getElem? (i := 5) rfl))⟩,
  List.forall_mem_cons.mpr ⟨Or.inr (Or.inr ⟨yo_117, (wl6 _ (List.mem_of_getElem? (i := 20) rfl)), (wl6 _ (List.mem_of_getElem? (i := 21) rfl)), (Or.inl (wl6 _ (List.mem_of_getElem? (i := 19) rfl))), _, _, rfl⟩),
  List.forall_mem_cons.mpr ⟨⟨_, _, _, rfl, Or.inr (Or.inl ⟨_, (nl0 _ (List.mem_of_getElem? (i := 36) rfl)), rfl⟩)⟩,
  List.forall_mem_cons.mpr ⟨Or.inr (Or.inr ⟨yo_119, (wl6 _ (List.mem_of_getElem? (i := 23) rfl)), (wl6 _ (List.mem_of_getElem? (i := 24) rfl)), (Or.inl (wl6 _ (List.mem_of_getElem? (i := 22) rfl))), _, _, rfl⟩),
  List.forall_mem_cons.mpr ⟨⟨_, _, _, rfl, Or.inr ⟨_, (nl0 _ (List.mem_of_getElem? (i := 36) rfl))⟩⟩,
  List.forall_mem_cons.mpr ⟨⟨_, _, _, rfl, Or.inr ⟨_, (nl0 _ (List.mem_of_getElem? (i := 37) rfl))⟩⟩,
  List.forall_mem_cons.mpr ⟨Or.inr (Or.inr ⟨yo_121, (wl6 _ (List.mem_of_getElem? (i := 26) rfl)), (wl6 _ (List.mem_of_getElem? (i := 27) rfl)), (Or.inl (wl6 _ (List.mem_of_getElem? (i := 25) rfl))), _, _, rfl⟩),
  List.forall_mem_cons.mpr ⟨Or.inr (Or.inr ⟨yo_122, (wl6 _ (List.mem_of_getElem? (i := 29) rfl)), (wl6 _ (List.mem_of_getElem? (i := 30) rfl)), (Or.inl (wl6 _ (List.mem_of_getElem? (i := 28) rfl))), _, _, rfl⟩),
  List.forall_mem_cons.mpr ⟨⟨_, _, _, rfl, Or.inl (wl0 _ (List.mem_of_getElem? (i := 45) rfl))⟩,
  List.forall_mem_cons.mpr ⟨⟨_, _, _, rfl, Or.inr ⟨_, (nl0 _ (List.mem_of_getElem? (i := 38) rfl))⟩⟩,
  List.forall_mem_cons.mpr ⟨⟨_, _, _, rfl, Or.inr ⟨_, (nl0 _ (List.mem_of_getElem? (i := 39) rfl))⟩⟩,
  List.forall_mem_cons.mpr ⟨⟨_, _, _, rfl, Or.inr ⟨_, (nl0 _ (List.mem_of_getElem? (i := 40) rfl))⟩⟩,
  List.forall_mem_cons.mpr ⟨Or.inr (Or.inr ⟨by decide, by decide, yo_114, (wl6 _ (List.mem_of_getElem? (i := 31) rfl)), (Or.inr ⟨_, (nl0 _ (List.mem_of_getElem? (i := 41) rfl))⟩)⟩),
  List.forall_mem_cons.mpr ⟨⟨_, _, _, rfl, Or.inr ⟨_, (nl0 _ (List.mem_of_getElem? (i := 42) rfl))⟩⟩,
  List.forall_mem_cons.mpr ⟨Or.inr (Or.inr ⟨yo_118, (wl6 _ (List.mem_of_getElem? (i := 33) rfl)), (wl6 _ (List.mem_of_getElem? (i := 34) rfl)), (Or.inl (wl6 _ (List.mem_of_getElem? (i := 32) rfl))), _, _, rfl⟩),
  fun _ h => absurd h List.not_mem_nil⟩⟩⟩⟩⟩⟩⟩⟩⟩⟩⟩⟩⟩⟩⟩⟩⟩⟩⟩⟩⟩⟩⟩⟩⟩⟩⟩⟩⟩⟩⟩⟩⟩⟩⟩⟩⟩⟩⟩⟩
def lk_RX9_1 : tm_LK := [(.invokevirtual 89, 120, 2, 37), (.getfield 93, 7, 4, 2), (.invokevirtual 96, 123, 5, 37), (.invokevirtual 100, 124, 2, 37), (.getfield 12, 9, 0, 2), (.invokevirtual 104, 125, 3, 16), (.putfield 157, 3, 6, 0), (.invokevirtual 160, 127, 3, 16), (.getfield 195, 3, 5, 0), (.invokevirtual 198, 90, 1, 33), (.invokevirtual 202, 131, 0, 12), (.invokevirtual 205, 132, 2, 12), (.invokevirtual 167, 130, 3, 37), (.invokevirtual 209, 136, 1, 13), (.invokevirtual 212, 110, 0, 12), (.getfield 215, 8, 4, 0), (.getfield 216, 8, 3, 0), (.invokevirtual 219, 140, 3, 16), (.getfield 223, 3, 4, 0), (.invokevirtual 226, 85, 1, 33), (.putfield 135, 3, 2, 0), (.invokevirtual 164, 129, 0, 37), (.invokevirtual 171, 133, 2, 36), (.invokevirtual 175, 134, 4, 37), (.invokevirtual 179, 135, 2, 37), (.invokevirtual 183, 137, 2, 37), (.invokevirtual 186, 138, 0, 36), (.invokevirtual 189, 141, 2, 36), (.invokevirtual 192, 142, 0, 36), (.invokevirtual 36, 112, 0, 36), (.getfield 39, 7, 5, 0), (.invokevirtual 45, 113, 1, 16), (.getfield 49, 7, 6, 0), (.invokevirtual 55, 126, 3, 36), (.invokevirtual 59, 128, 1, 36), (.invokevirtual 62, 143, 2, 37)]
theorem lc_RX9_1 : ∀ e ∈ lk_RX9_1, tm_lnc RX9 tm_mt e.1 e.2.1 e.2.2.1 e.2.2.2 := List.forall_mem_cons.mpr ⟨Or.inr (Or.inr ⟨yo_120, (wl6 _ (List.mem_of_getElem? (i := 36) rfl)), (wl6 _ (List.mem_of_getElem? (i := 37) rfl)), (Or.inl (wl6 _ (List.mem_of_getElem? (i := 35) rfl))), _, _, rfl⟩),
  List.forall_mem_cons.mpr ⟨⟨_, _, _, rfl, Or.inr ⟨_, (nl0 _ (List.mem_of_getElem? (i := 43) rfl))⟩⟩,
  List.forall_mem_cons.mpr ⟨Or.inr (Or.inr ⟨yo_123, (wl6 _ (List.mem_of_getElem? (i := 39) rfl)), (wl6 _ (List.mem_of_getElem? (i := 40) rfl)), (Or.inl (wl6 _ (List.mem_of_getElem? (i := 38) rfl))), _, _, rfl⟩),
  List.forall_mem_cons.mpr ⟨Or.inr (Or.inr ⟨yo_124, (wl6 _ (List.mem_of_getElem? (i := 42) rfl)), (wl6 _ (List.mem_of_getElem? (i := 43) rfl)), (Or.inl (wl6 _ (List.mem_of_getElem? (i := 41) rfl))), _, _, rfl⟩),
  List.forall_mem_cons.mpr ⟨⟨_, _, _, rfl, Or.inl (wl0 _ (List.mem_of_getElem? (i := 39) rfl))⟩,
  List.forall_mem_cons.mpr ⟨Or.inr (Or.inr ⟨yo_125, (wl6 _ (List.mem_of_getElem? (i := 45) rfl)), (wl6 _ (List.mem_of_getElem? (i := 46) rfl)), (Or.inl (wl6 _ (List.mem_of_getElem? (i := 44) rfl))), _, _, rfl⟩),
  List.forall_mem_cons.mpr ⟨⟨_, _, _, rfl, Or.inr (Or.inl ⟨_, (nl0 _ (List.mem_of_getElem? (i := 49) rfl)), rfl⟩)⟩,
  List.forall_mem_cons.mpr ⟨Or.inr (Or.inr ⟨yo_127, (wl6 _ (List.mem_of_getElem? (i := 48) rfl)), (wl6 _ (List.mem_of_getElem? (i := 49) rfl)), (Or.inl (wl6 _ (List.mem_of_getElem? (i := 47) rfl))), _, _, rfl⟩),
  List.forall_mem_cons.mpr ⟨⟨_, _, _, rfl, Or.inr ⟨_, (nl0 _ (List.mem_of_getElem? (i := 50) rfl))⟩⟩,
  List.forall_mem_cons.mpr ⟨Or.inr (Or.inr ⟨yo_90, (wl5 _ (List.mem_of_getElem? (i := 32) rfl)), (wl5 _ (List.mem_of_getElem? (i := 33) rfl)), (Or.inl (wl6 _ (List.mem_of_getElem? (i := 50) rfl))), _, _, rfl⟩),
  List.forall_mem_cons.mpr ⟨Or.inr (Or.inr ⟨yo_131, (wl6 _ (List.mem_of_getElem? (i := 53) rfl)), (wl6 _ (List.mem_of_getElem? (i := 54) rfl)), (Or.inl (wl6 _ (List.mem_of_getElem? (i := 52) rfl))), _, _, rfl⟩),
  List.forall_mem_cons.mpr ⟨Or.inr (Or.inr ⟨yo_132, (wl6 _ (List.mem_of_getElem? (i := 56) rfl)), (wl6 _ (List.mem_of_getElem? (i := 57) rfl)), (Or.inl (wl6 _ (List.mem_of_getElem? (i := 55) rfl))), _, _, rfl⟩),
  List.forall_mem_cons.mpr ⟨Or.inr (Or.inr ⟨yo_130, (wl6 _ (List.mem_of_getElem? (i := 59) rfl)), (wl6 _ (List.mem_of_getElem? (i := 60) rfl)), (Or.inl (wl6 _ (List.mem_of_getElem? (i := 58) rfl))), _, _, rfl⟩),
  List.forall_mem_cons.mpr ⟨Or.inr (Or.inr ⟨yo_136, (wl6 _ (List.mem_of_getElem? (i := 62) rfl)), (wl6 _ (List.mem_of_getElem? (i := 63) rfl)), (Or.inl (wl6 _ (List.mem_of_getElem? (i := 61) rfl))), _, _, rfl⟩),
  List.forall_mem_cons.mpr ⟨Or.inr (Or.inr ⟨yo_110, (wl6 _ (List.mem_of_getElem? (i := 0) rfl)), (wl6 _ (List.mem_of_getElem? (i := 1) rfl)), (Or.inl (wl6 _ (List.mem_of_getElem? (i := 64) rfl))), _, _, rfl⟩),
  List.forall_mem_cons.mpr ⟨⟨_, _, _, rfl, Or.inr ⟨_, (nl0 _ (List.mem_of_getElem? (i := 55) rfl))⟩⟩,
  List.forall_mem_cons.mpr ⟨⟨_, _, _, rfl, Or.inr ⟨_, (nl0 _ (List.mem_of_getElem? (i := 56) rfl))⟩⟩,
  List.forall_mem_cons.mpr ⟨Or.inr (Or.inr ⟨yo_140, (wl6 _ (List.mem_of_getElem? (i := 69) rfl)), (wl6 _ (List.mem_of_getElem? (i := 70) rfl)), (Or.inl (wl6 _ (List.mem_of_getElem? (i := 68) rfl))), _, _, rfl⟩),
  List.forall_mem_cons.mpr ⟨⟨_, _, _, rfl, Or.inr ⟨_, (nl0 _ (List.mem_of_getElem? (i := 57) rfl))⟩⟩,
  List.forall_mem_cons.mpr ⟨Or.inr (Or.inr ⟨yo_85, (wl5 _ (List.mem_of_getElem? (i := 23) rfl)), (wl5 _ (List.mem_of_getElem? (i := 24) rfl)), (Or.inl (wl6 _ (List.mem_of_getElem? (i := 71) rfl))), _, _, rfl⟩),
  List.forall_mem_cons.mpr ⟨⟨_, _, _, rfl, Or.inr (Or.inl ⟨_, (nl0 _ (List.mem_of_getElem? (i := 37) rfl)), rfl⟩)⟩,
  List.forall_mem_cons.mpr ⟨Or.inr (Or.inr ⟨yo_129, (wl6 _ (List.mem_of_getElem? (i := 73) rfl)), (wl6 _ (List.mem_of_getElem? (i := 74) rfl)), (Or.inl (wl6 _ (List.mem_of_getElem? (i := 72) rfl))), _, _, rfl⟩),
  List.forall_mem_cons.mpr ⟨Or.inr (Or.inr ⟨yo_133, (wl6 _ (List.mem_of_getElem? (i := 76) rfl)), (wl6 _ (List.mem_of_getElem? (i := 77) rfl)), (Or.inl (wl6 _ (List.mem_of_getElem? (i := 75) rfl))), _, _, rfl⟩),
  List.forall_mem_cons.mpr ⟨Or.inr (Or.inr ⟨yo_134, (wl6 _ (List.mem_of_getElem? (i := 79) rfl)), (wl7 _ (List.mem_of_getElem? (i := 0) rfl)), (Or.inl (wl6 _ (List.mem_of_getElem? (i := 78) rfl))), _, _, rfl⟩),
  List.forall_mem_cons.mpr ⟨Or.inr (Or.inr ⟨yo_135, (wl7 _ (List.mem_of_getElem? (i := 2) rfl)), (wl7 _ (List.mem_of_getElem? (i := 3) rfl)), (Or.inl (wl7 _ (List.mem_of_getElem? (i := 1) rfl))), _, _, rfl⟩),
  List.forall_mem_cons.mpr ⟨Or.inr (Or.inr ⟨yo_137, (wl7 _ (List.mem_of_getElem? (i := 5) rfl)), (wl7 _ (List.mem_of_getElem? (i := 6) rfl)), (Or.inl (wl7 _ (List.mem_of_getElem? (i := 4) rfl))), _, _, rfl⟩),
  List.forall_mem_cons.mpr ⟨Or.inr (Or.inr ⟨yo_138, (wl7 _ (List.mem_of_getElem? (i := 8) rfl)), (wl7 _ (List.mem_of_getElem? (i := 9) rfl)), (Or.inl (wl7 _ (List.mem_of_getElem? (i := 7) rfl))), _, _, rfl⟩),
  List.forall_mem_cons.mpr ⟨Or.inr (Or.inr ⟨yo_141, (wl7 _ (List.mem_of_getElem? (i := 11) rfl)), (wl7 _ (List.mem_of_getElem? (i := 12) rfl)), (Or.inl (wl7 _ (List.mem_of_getElem? (i := 10) rfl))), _, _, rfl⟩),
  List.forall_mem_cons.mpr ⟨Or.inr (Or.inr ⟨yo_142, (wl7 _ (List.mem_of_getElem? (i := 14) rfl)), (wl7 _ (List.mem_of_getElem? (i := 15) rfl)), (Or.inl (wl7 _ (List.mem_of_getElem? (i := 13) rfl))), _, _, rfl⟩),
  List.forall_mem_cons.mpr ⟨Or.inr (Or.inr ⟨yo_112, (wl7 _ (List.mem_of_getElem? (i := 17) rfl)), (wl7 _ (List.mem_of_getElem? (i := 18) rfl)), (Or.inl (wl7 _ (List.mem_of_getElem? (i := 16) rfl))), _, _, rfl⟩),
  List.forall_mem_cons.mpr ⟨⟨_, _, _, rfl, Or.inr ⟨_, (nl0 _ (List.mem_of_getElem? (i := 58) rfl))⟩⟩,
  List.forall_mem_cons.mpr ⟨Or.inr (Or.inr ⟨yo_113, (wl7 _ (List.mem_of_getElem? (i := 20) rfl)), (wl7 _ (List.mem_of_getElem? (i := 21) rfl)), (Or.inl (wl7 _ (List.mem_of_getElem? (i := 19) rfl))), _, _, rfl⟩),
  List.forall_mem_cons.mpr ⟨⟨_, _, _, rfl, Or.inr ⟨_, (nl0 _ (List.mem_of_getElem? (i := 59) rfl))⟩⟩,
  List.forall_mem_cons.mpr ⟨Or.inr (Or.inr ⟨yo_126, (wl7 _ (List.mem_of_getElem? (i := 23) rfl)), (wl7 _ (List.mem_of_getElem? (i := 24) rfl)), (Or.inl (wl7 _ (List.mem_of_getElem? (i := 22) rfl))), _, _, rfl⟩),
  List.forall_mem_cons.mpr ⟨Or.inr (Or.inr ⟨yo_128, (wl7 _ (List.mem_of_getElem? (i := 26) rfl)), (wl7 _ (List.mem_of_getElem? (i := 27) rfl)), (Or.inl (wl7 _ (List.mem_of_getElem? (i := 25) rfl))), _, _, rfl⟩),
  List.forall_mem_cons.mpr ⟨Or.inr (Or.inr ⟨yo_143, (wl7 _ (List.mem_of_getElem? (i := 29) rfl)), (wl7 _ (List.mem_of_getElem? (i := 30) rfl)), (Or.inl (wl7 _ (List.mem_of_getElem? (i := 28) rfl))), _, _, rfl⟩),
  fun _ h => absurd h List.not_mem_nil⟩⟩⟩⟩⟩⟩⟩⟩⟩⟩⟩⟩⟩⟩⟩⟩⟩⟩⟩⟩⟩⟩⟩⟩⟩⟩⟩⟩⟩⟩⟩⟩⟩⟩⟩⟩
def lk_RX9 : tm_LK := lk_RX9_0 ++ (lk_RX9_1)
theorem lc_RX9 : ∀ e ∈ lk_RX9, tm_lnc RX9 tm_mt e.1 e.2.1 e.2.2.1 e.2.2.2 := List.forall_mem_append.mpr ⟨lc_RX9_0, lc_RX9_1⟩
def lk_RX1_0 : tm_LK := [(.invokespecial 3, 9000, 0, 4), (.newarray .long, 4, 0, 0), (.putfield 11, 1, 0, 2), (.newarray .int, 1, 0, 0), (.putfield 15, 1, 1, 2), (.putfield 19, 1, 2, 2), (.putfield 24, 1, 3, 2), (.putfield 27, 1, 4, 2), (.putfield 30, 1, 5, 2), (.putfield 33, 1, 6, 2), (.putfield 36, 1, 9, 0), (.putfield 40, 1, 10, 0), (.getfield 24, 1, 3, 2), (.getfield 27, 1, 4, 2), (.invokevirtual 115, 89, 1, 33), (.getfield 30, 1, 5, 2), (.invokevirtual 119, 85, 1, 33), (.invokevirtual 122, 103, 0, 33), (.invokevirtual 126, 121, 3, 33), (.invokestatic 97, 187, 1, 1), (.invokevirtual 103, 84, 1, 1), (.getfield 15, 1, 1, 2), (.getfield 73, 0, 0, 2), (.getfield 107, 8, 3, 0), (.getfield 19, 1, 2, 2), (.getfield 112, 8, 4, 0), (.getfield 11, 1, 0, 2), (.ldc2_w 51, 65535, 0, 0), (.ldc2_w 53, 18446744073709551615, 0, 0), (.ldc 50, 0, 65535, 0), (.invokevirtual 130, 255, 1, 5), (.invokevirtual 133, 188, 2, 5), (.getfield 70, 0, 1, 0), (.invokevirtual 77, 186, 3, 4), (.invokevirtual 81, 253, 3, 4), (.invokestatic 85, 9004, 2, 1), (.invokevirtual 90, 254, 2, 4), (.getfield 40, 1, 10, 0), (.invokevirtual 94, 189, 2, 5), (.invokestatic 46, 256, 2, 1)]
theorem lc_RX1_0 : ∀ e ∈ lk_RX1_0, tm_lnc RX1 tm_mt e.1 e.2.1 e.2.2.1 e.2.2.2 := List.forall_mem_cons.mpr ⟨Or.inl ⟨rfl, (wl0 _ (List.mem_of_getElem? (i := 48) rfl)), (wl0 _ (List.mem_of_getElem? (i := 16) rfl)), (cwl12 _ (List.mem_of_getElem? (i := 16) rfl))⟩,
  List.forall_mem_cons.mpr ⟨(wl0 _ (List.mem_of_getElem? (i := 19) rfl)),
  List.forall_mem_cons.mpr ⟨⟨_, _, _, rfl, Or.inr (Or.inr ⟨(wl0 _ (List.mem_of_getElem? (i := 49) rfl)), rfl, rfl, rfl⟩)⟩,
  List.forall_mem_cons.mpr ⟨(wl0 _ (List.mem_of_getElem? (i := 28) rfl)),
  List.forall_mem_cons.mpr ⟨⟨_, _, _, rfl, Or.inr (Or.inr ⟨(wl0 _ (List.mem_of_getElem? (i := 50) rfl)), rfl, rfl, rfl⟩)⟩,
  List.forall_mem_cons.mpr ⟨⟨_, _, _, rfl, Or.inr (Or.inr ⟨(wl0 _ (List.mem_of_getElem? (i := 51) rfl)), rfl, rfl, rfl⟩)⟩,
  List.forall_mem_cons.mpr ⟨⟨_, _, _, rfl, Or.inr (Or.inr ⟨(wl0 _ (List.mem_of_getElem? (i := 52) rfl)), rfl, rfl, rfl⟩)⟩,
  List.forall_mem_cons.mpr ⟨⟨_, _, _, rfl, Or.inr (Or.inr ⟨(wl0 _ (List.mem_of_getElem? (i := 53) rfl)), rfl, rfl, rfl⟩)⟩,
  List.forall_mem_cons.mpr ⟨⟨_, _, _, rfl, Or.inr (Or.inr ⟨(wl0 _ (List.mem_of_getElem? (i := 54) rfl)), rfl, rfl, rfl⟩)⟩,
  List.forall_mem_cons.mpr ⟨⟨_, _, _, rfl, Or.inr (Or.inr ⟨(wl0 _ (List.mem_of_getElem? (i := 55) rfl)), rfl, rfl, rfl⟩)⟩,
  List.forall_mem_cons.mpr ⟨⟨_, _, _, rfl, Or.inl ⟨(wl0 _ (List.mem_of_getElem? (i := 56) rfl)), rfl⟩⟩,
  List.forall_mem_cons.mpr ⟨⟨_, _, _, rfl, Or.inl ⟨(wl3 _ (List.mem_of_getElem? (i := 44) rfl)), rfl⟩⟩,
  List.forall_mem_cons.mpr ⟨⟨_, _, _, rfl, Or.inl (wl0 _ (List.mem_of_getElem? (i := 52) rfl))⟩,
  List.forall_mem_cons.mpr ⟨⟨_, _, _, rfl, Or.inl (wl0 _ (List.mem_of_getElem? (i := 53) rfl))⟩,
  List.forall_mem_cons.mpr ⟨Or.inr (Or.inr ⟨yo_89, (wl5 _ (List.mem_of_getElem? (i := 29) rfl)), (wl5 _ (List.mem_of_getElem? (i := 30) rfl)), (Or.inl (wl8 _ (List.mem_of_getElem? (i := 41) rfl))), _, _, rfl⟩),
  List.forall_mem_cons.mpr ⟨⟨_, _, _, rfl, Or.inl (wl0 _ (List.mem_of_getElem? (i := 54) rfl))⟩,
  List.forall_mem_cons.mpr ⟨Or.inr (Or.inr ⟨yo_85, (wl5 _ (List.mem_of_getElem? (i := 23) rfl)), (wl5 _ (List.mem_of_getElem? (i := 24) rfl)), (Or.inl (wl8 _ (List.mem_of_getElem? (i := 42) rfl))), _, _, rfl⟩),
  List.forall_mem_cons.mpr ⟨Or.inr (Or.inr ⟨yo_103, (wl5 _ (List.mem_of_getElem? (i := 65) rfl)), (wl5 _ (List.mem_of_getElem? (i := 66) rfl)), (Or.inl (wl8 _ (List.mem_of_getElem? (i := 43) rfl))), _, _, rfl⟩),
  List.forall_mem_cons.mpr ⟨Or.inr (Or.inr ⟨yo_121, (wl6 _ (List.mem_of_getElem? (i := 26) rfl)), (wl6 _ (List.mem_of_getElem? (i := 27) rfl)), (Or.inl (wl8 _ (List.mem_of_getElem? (i := 44) rfl))), _, _, rfl⟩),
  List.forall_mem_cons.mpr ⟨Or.inr (Or.inr ⟨by decide, by decide, yo_187, (wl8 _ (List.mem_of_getElem? (i := 47) rfl)), (Or.inl (wl8 _ (List.mem_of_getElem? (i := 46) rfl)))⟩),
  List.forall_mem_cons.mpr ⟨Or.inr (Or.inr ⟨yo_84, (wl5 _ (List.mem_of_getElem? (i := 35) rfl)), (wl5 _ (List.mem_of_getElem? (i := 36) rfl)), (Or.inl (wl8 _ (List.mem_of_getElem? (i := 48) rfl))), _, _, rfl⟩),
  List.forall_mem_cons.mpr ⟨⟨_, _, _, rfl, Or.inl (wl0 _ (List.mem_of_getElem? (i := 50) rfl))⟩,
  List.forall_mem_cons.mpr ⟨⟨_, _, _, rfl, Or.inr ⟨_, (nl0 _ (List.mem_of_getElem? (i := 67) rfl))⟩⟩,
  List.forall_mem_cons.mpr ⟨⟨_, _, _, rfl, Or.inr ⟨_, (nl0 _ (List.mem_of_getElem? (i := 68) rfl))⟩⟩,
  List.forall_mem_cons.mpr ⟨⟨_, _, _, rfl, Or.inl (wl0 _ (List.mem_of_getElem? (i := 51) rfl))⟩,
  List.forall_mem_cons.mpr ⟨⟨_, _, _, rfl, Or.inr ⟨_, (nl0 _ (List.mem_of_getElem? (i := 69) rfl))⟩⟩,
  List.forall_mem_cons.mpr ⟨⟨_, _, _, rfl, Or.inl (wl0 _ (List.mem_of_getElem? (i := 49) rfl))⟩,
  List.forall_mem_cons.mpr ⟨(wl8 _ (List.mem_of_getElem? (i := 49) rfl)),
  List.forall_mem_cons.mpr ⟨(wl8 _ (List.mem_of_getElem? (i := 50) rfl)),
  List.forall_mem_cons.mpr ⟨Or.inr (wl8 _ (List.mem_of_getElem? (i := 51) rfl)),
  List.forall_mem_cons.mpr ⟨Or.inr (Or.inr ⟨yo_255, (wl8 _ (List.mem_of_getElem? (i := 53) rfl)), (wl8 _ (List.mem_of_getElem? (i := 54) rfl)), (Or.inl (wl8 _ (List.mem_of_getElem? (i := 52) rfl))), _, _, rfl⟩),
  List.forall_mem_cons.mpr ⟨Or.inr (Or.inr ⟨yo_188, (wl8 _ (List.mem_of_getElem? (i := 56) rfl)), (wl8 _ (List.mem_of_getElem? (i := 57) rfl)), (Or.inl (wl8 _ (List.mem_of_getElem? (i := 55) rfl))), _, _, rfl⟩),
  List.forall_mem_cons.mpr ⟨⟨_, _, _, rfl, Or.inr ⟨_, (nl0 _ (List.mem_of_getElem? (i := 70) rfl))⟩⟩,
  List.forall_mem_cons.mpr ⟨Or.inr (Or.inr ⟨yo_186, (wl8 _ (List.mem_of_getElem? (i := 59) rfl)), (wl8 _ (List.mem_of_getElem? (i := 60) rfl)), (Or.inl (wl8 _ (List.mem_of_getElem? (i := 58) rfl))), _, _, rfl⟩),
  List.forall_mem_cons.mpr ⟨Or.inr (Or.inr ⟨yo_253, (wl8 _ (List.mem_of_getElem? (i := 62) rfl)), (wl8 _ (List.mem_of_getElem? (i := 63) rfl)), (Or.inl (wl8 _ (List.mem_of_getElem? (i := 61) rfl))), _, _, rfl⟩),
  List.forall_mem_cons.mpr ⟨Or.inr (Or.inl ⟨rfl, (wl8 _ (List.mem_of_getElem? (i := 64) rfl)), (wl2 _ (List.mem_of_getElem? (i := 47) rfl)), (wl2 _ (List.mem_of_getElem? (i := 48) rfl)), (cwl12 _ (List.mem_of_getElem? (i := 17) rfl))⟩),
  List.forall_mem_cons.mpr ⟨Or.inr (Or.inr ⟨yo_254, (wl8 _ (List.mem_of_getElem? (i := 66) rfl)), (wl8 _ (List.mem_of_getElem? (i := 67) rfl)), (Or.inl (wl8 _ (List.mem_of_getElem? (i := 65) rfl))), _, _, rfl⟩),
  List.forall_mem_cons.mpr ⟨⟨_, _, _, rfl, Or.inl (wl3 _ (List.mem_of_getElem? (i := 44) rfl))⟩,
  List.forall_mem_cons.mpr ⟨Or.inr (Or.inr ⟨yo_189, (wl8 _ (List.mem_of_getElem? (i := 69) rfl)), (wl8 _ (List.mem_of_getElem? (i := 70) rfl)), (Or.inl (wl8 _ (List.mem_of_getElem? (i := 68) rfl))), _, _, rfl⟩),
  List.forall_mem_cons.mpr ⟨Or.inr (Or.inr ⟨by decide, by decide, yo_256, (wl8 _ (List.mem_of_getElem? (i := 72) rfl)), (Or.inl (wl8 _ (List.mem_of_getElem? (i := 71) rfl)))⟩),
  fun _ h => absurd h List.not_mem_nil⟩⟩⟩⟩⟩⟩⟩⟩⟩⟩⟩⟩⟩⟩⟩⟩⟩⟩⟩⟩⟩⟩⟩⟩⟩⟩⟩⟩⟩⟩⟩⟩⟩⟩⟩⟩⟩⟩⟩⟩
def lk_RX1_1 : tm_LK := [(.invokevirtual 139, 192, 2, 5), (.getfield 43, 1, 8, 0), (.putfield 55, 1, 7, 0), (.getfield 55, 1, 7, 0), (.getfield 33, 1, 6, 2), (.invokevirtual 136, 193, 2, 5), (.getfield 36, 1, 9, 0), (.invokevirtual 58, 190, 1, 4), (.invokevirtual 62, 191, 2, 5), (.putfield 43, 1, 8, 0), (.invokevirtual 66, 194, 1, 4)]
theorem lc_RX1_1 : ∀ e ∈ lk_RX1_1, tm_lnc RX1 tm_mt e.1 e.2.1 e.2.2.1 e.2.2.2 := List.forall_mem_cons.mpr ⟨Or.inr (Or.inr ⟨yo_192, (wl8 _ (List.mem_of_getElem? (i := 74) rfl)), (wl8 _ (List.mem_of_getElem? (i := 75) rfl)), (Or.inl (wl8 _ (List.mem_of_getElem? (i := 73) rfl))), _, _, rfl⟩),
  List.forall_mem_cons.mpr ⟨⟨_, _, _, rfl, Or.inl (wl8 _ (List.mem_of_getElem? (i := 76) rfl))⟩,
  List.forall_mem_cons.mpr ⟨⟨_, _, _, rfl, Or.inl ⟨(wl8 _ (List.mem_of_getElem? (i := 77) rfl)), rfl⟩⟩,
  List.forall_mem_cons.mpr ⟨⟨_, _, _, rfl, Or.inl (wl8 _ (List.mem_of_getElem? (i := 77) rfl))⟩,
  List.forall_mem_cons.mpr ⟨⟨_, _, _, rfl, Or.inl (wl0 _ (List.mem_of_getElem? (i := 55) rfl))⟩,
  List.forall_mem_cons.mpr ⟨Or.inr (Or.inr ⟨yo_193, (wl8 _ (List.mem_of_getElem? (i := 79) rfl)), (wl9 _ (List.mem_of_getElem? (i := 0) rfl)), (Or.inl (wl8 _ (List.mem_of_getElem? (i := 78) rfl))), _, _, rfl⟩),
  List.forall_mem_cons.mpr ⟨⟨_, _, _, rfl, Or.inl (wl0 _ (List.mem_of_getElem? (i := 56) rfl))⟩,
  List.forall_mem_cons.mpr ⟨Or.inr (Or.inr ⟨yo_190, (wl9 _ (List.mem_of_getElem? (i := 2) rfl)), (wl9 _ (List.mem_of_getElem? (i := 3) rfl)), (Or.inl (wl9 _ (List.mem_of_getElem? (i := 1) rfl))), _, _, rfl⟩),
  List.forall_mem_cons.mpr ⟨Or.inr (Or.inr ⟨yo_191, (wl9 _ (List.mem_of_getElem? (i := 5) rfl)), (wl9 _ (List.mem_of_getElem? (i := 6) rfl)), (Or.inl (wl9 _ (List.mem_of_getElem? (i := 4) rfl))), _, _, rfl⟩),
  List.forall_mem_cons.mpr ⟨⟨_, _, _, rfl, Or.inl ⟨(wl8 _ (List.mem_of_getElem? (i := 76) rfl)), rfl⟩⟩,
  List.forall_mem_cons.mpr ⟨Or.inr (Or.inr ⟨yo_194, (wl9 _ (List.mem_of_getElem? (i := 8) rfl)), (wl9 _ (List.mem_of_getElem? (i := 9) rfl)), (Or.inl (wl9 _ (List.mem_of_getElem? (i := 7) rfl))), _, _, rfl⟩),
  fun _ h => absurd h List.not_mem_nil⟩⟩⟩⟩⟩⟩⟩⟩⟩⟩⟩
def lk_RX1 : tm_LK := lk_RX1_0 ++ (lk_RX1_1)
theorem lc_RX1 : ∀ e ∈ lk_RX1, tm_lnc RX1 tm_mt e.1 e.2.1 e.2.2.1 e.2.2.2 := List.forall_mem_append.mpr ⟨lc_RX1_0, lc_RX1_1⟩
def lk_RX6_0 : tm_LK := [(.invokespecial 3, 9000, 0, 24), (.newarray .int, 1, 0, 0), (.putfield 9, 6, 0, 2), (.getfield 15, 6, 1, 0), (.getfield 9, 6, 0, 2), (.getfield 19, 6, 2, 0), (.putfield 15, 6, 1, 0), (.putfield 19, 6, 2, 0), (.invokestatic 22, 20, 1, 1), (.invokestatic 26, 209, 1, 1), (.invokevirtual 29, 210, 0, 24)]
theorem lc_RX6_0 : ∀ e ∈ lk_RX6_0, tm_lnc RX6 tm_mt e.1 e.2.1 e.2.2.1 e.2.2.2 := List.forall_mem_cons.mpr ⟨Or.inl ⟨rfl, (wl0 _ (List.mem_of_getElem? (i := 57) rfl)), (wl0 _ (List.mem_of_getElem? (i := 16) rfl)), (cwl12 _ (List.mem_of_getElem? (i := 16) rfl))⟩,
  List.forall_mem_cons.mpr ⟨(wl0 _ (List.mem_of_getElem? (i := 28) rfl)),
  List.forall_mem_cons.mpr ⟨⟨_, _, _, rfl, Or.inr (Or.inr ⟨(wl0 _ (List.mem_of_getElem? (i := 58) rfl)), rfl, rfl, rfl⟩)⟩,
  List.forall_mem_cons.mpr ⟨⟨_, _, _, rfl, Or.inl (wl9 _ (List.mem_of_getElem? (i := 43) rfl))⟩,
  List.forall_mem_cons.mpr ⟨⟨_, _, _, rfl, Or.inl (wl0 _ (List.mem_of_getElem? (i := 58) rfl))⟩,
  List.forall_mem_cons.mpr ⟨⟨_, _, _, rfl, Or.inl (wl9 _ (List.mem_of_getElem? (i := 44) rfl))⟩,
  List.forall_mem_cons.mpr ⟨⟨_, _, _, rfl, Or.inl ⟨(wl9 _ (List.mem_of_getElem? (i := 43) rfl)), rfl⟩⟩,
  List.forall_mem_cons.mpr ⟨⟨_, _, _, rfl, Or.inl ⟨(wl9 _ (List.mem_of_getElem? (i := 44) rfl)), rfl⟩⟩,
  List.forall_mem_cons.mpr ⟨Or.inr (Or.inr ⟨by decide, by decide, yo_20, (wl2 _ (List.mem_of_getElem? (i := 26) rfl)), (Or.inr ⟨_, (nl0 _ (List.mem_of_getElem? (i := 71) rfl))⟩)⟩),
  List.forall_mem_cons.mpr ⟨Or.inr (Or.inr ⟨by decide, by decide, yo_209, (wl9 _ (List.mem_of_getElem? (i := 46) rfl)), (Or.inl (wl9 _ (List.mem_of_getElem? (i := 45) rfl)))⟩),
  List.forall_mem_cons.mpr ⟨Or.inr (Or.inr ⟨yo_210, (wl9 _ (List.mem_of_getElem? (i := 48) rfl)), (wl9 _ (List.mem_of_getElem? (i := 49) rfl)), (Or.inl (wl9 _ (List.mem_of_getElem? (i := 47) rfl))), _, _, rfl⟩),
  fun _ h => absurd h List.not_mem_nil⟩⟩⟩⟩⟩⟩⟩⟩⟩⟩⟩
def lk_RX6 : tm_LK := lk_RX6_0
theorem lc_RX6 : ∀ e ∈ lk_RX6, tm_lnc RX6 tm_mt e.1 e.2.1 e.2.2.1 e.2.2.2 := lc_RX6_0
def lk_RX2_0 : tm_LK := [(.invokespecial 5, 9000, 0, 8), (.newarray .long, 4, 0, 0), (.putfield 11, 2, 0, 2), (.newarray .int, 1, 0, 0), (.putfield 15, 2, 1, 2), (.putfield 19, 2, 2, 2), (.putfield 22, 2, 3, 2), (.putfield 25, 2, 4, 2), (.putfield 28, 2, 5, 2), (.putfield 31, 2, 6, 2), (.putfield 34, 2, 9, 2), (.getfield 37, 2, 7, 0), (.getfield 11, 2, 0, 2), (.invokestatic 41, 25, 1, 1), (.invokevirtual 45, 257, 2, 8), (.getfield 15, 2, 1, 2), (.getfield 19, 2, 2, 2), (.getfield 22, 2, 3, 2), (.getfield 25, 2, 4, 2), (.getfield 28, 2, 5, 2), (.getfield 49, 2, 8, 0), (.getfield 31, 2, 6, 2), (.putfield 37, 2, 7, 0), (.ldc 52, 0, 100000, 0), (.putfield 49, 2, 8, 0), (.putfield 53, 2, 10, 0), (.invokestatic 56, 9004, 2, 1), (.getfield 34, 2, 9, 2), (.getfield 53, 2, 10, 0), (.invokestatic 62, 232, 1, 1), (.invokevirtual 66, 234, 2, 9), (.invokevirtual 69, 235, 1, 9), (.getfield 72, 8, 4, 0), (.invokevirtual 77, 88, 2, 33), (.getfield 81, 4, 6, 0), (.invokevirtual 84, 174, 1, 17), (.invokestatic 87, 102, 2, 1)]
theorem lc_RX2_0 : ∀ e ∈ lk_RX2_0, tm_lnc RX2 tm_mt e.1 e.2.1 e.2.2.1 e.2.2.2 := List.forall_mem_cons.mpr ⟨Or.inl ⟨rfl, (wl0 _ (List.mem_of_getElem? (i := 59) rfl)), (wl0 _ (List.mem_of_getElem? (i := 16) rfl)), (cwl12 _ (List.mem_of_getElem? (i := 16) rfl))⟩,
  List.forall_mem_cons.mpr ⟨(wl0 _ (List.mem_of_getElem? (i := 19) rfl)),
  List.forall_mem_cons.mpr ⟨⟨_, _, _, rfl, Or.inr (Or.inr ⟨(wl0 _ (List.mem_of_getElem? (i := 60) rfl)), rfl, rfl, rfl⟩)⟩,
  List.forall_mem_cons.mpr ⟨(wl0 _ (List.mem_of_getElem? (i := 28) rfl)),
  List.forall_mem_cons.mpr ⟨⟨_, _, _, rfl, Or.inr (Or.inr ⟨(wl0 _ (List.mem_of_getElem? (i := 61) rfl)), rfl, rfl, rfl⟩)⟩,
  List.forall_mem_cons.mpr ⟨⟨_, _, _, rfl, Or.inr (Or.inr ⟨(wl0 _ (List.mem_of_getElem? (i := 62) rfl)), rfl, rfl, rfl⟩)⟩,
  List.forall_mem_cons.mpr ⟨⟨_, _, _, rfl, Or.inr (Or.inr ⟨(wl0 _ (List.mem_of_getElem? (i := 63) rfl)), rfl, rfl, rfl⟩)⟩,
  List.forall_mem_cons.mpr ⟨⟨_, _, _, rfl, Or.inr (Or.inr ⟨(wl0 _ (List.mem_of_getElem? (i := 64) rfl)), rfl, rfl, rfl⟩)⟩,
  List.forall_mem_cons.mpr ⟨⟨_, _, _, rfl, Or.inr (Or.inr ⟨(wl0 _ (List.mem_of_getElem? (i := 65) rfl)), rfl, rfl, rfl⟩)⟩,
  List.forall_mem_cons.mpr ⟨⟨_, _, _, rfl, Or.inr (Or.inr ⟨(wl0 _ (List.mem_of_getElem? (i := 66) rfl)), rfl, rfl, rfl⟩)⟩,
  List.forall_mem_cons.mpr ⟨⟨_, _, _, rfl, Or.inr (Or.inr ⟨(wl0 _ (List.mem_of_getElem? (i := 67) rfl)), rfl, rfl, rfl⟩)⟩,
  List.forall_mem_cons.mpr ⟨⟨_, _, _, rfl, Or.inl (wl9 _ (List.mem_of_getElem? (i := 63) rfl))⟩,
  List.forall_mem_cons.mpr ⟨⟨_, _, _, rfl, Or.inl (wl0 _ (List.mem_of_getElem? (i := 60) rfl))⟩,
  List.forall_mem_cons.mpr ⟨Or.inr (Or.inr ⟨by decide, by decide, yo_25, (wl2 _ (List.mem_of_getElem? (i := 33) rfl)), (Or.inr ⟨_, (nl0 _ (List.mem_of_getElem? (i := 75) rfl))⟩)⟩),
  List.forall_mem_cons.mpr ⟨Or.inr (Or.inr ⟨yo_257, (wl9 _ (List.mem_of_getElem? (i := 65) rfl)), (wl9 _ (List.mem_of_getElem? (i := 66) rfl)), (Or.inl (wl9 _ (List.mem_of_getElem? (i := 64) rfl))), _, _, rfl⟩),
  List.forall_mem_cons.mpr ⟨⟨_, _, _, rfl, Or.inl (wl0 _ (List.mem_of_getElem? (i := 61) rfl))⟩,
  List.forall_mem_cons.mpr ⟨⟨_, _, _, rfl, Or.inl (wl0 _ (List.mem_of_getElem? (i := 62) rfl))⟩,
  List.forall_mem_cons.mpr ⟨⟨_, _, _, rfl, Or.inl (wl0 _ (List.mem_of_getElem? (i := 63) rfl))⟩,
  List.forall_mem_cons.mpr ⟨⟨_, _, _, rfl, Or.inl (wl0 _ (List.mem_of_getElem? (i := 64) rfl))⟩,
  List.forall_mem_cons.mpr ⟨⟨_, _, _, rfl, Or.inl (wl0 _ (List.mem_of_getElem? (i := 65) rfl))⟩,
  List.forall_mem_cons.mpr ⟨⟨_, _, _, rfl, Or.inl (wl9 _ (List.mem_of_getElem? (i := 67) rfl))⟩,
  List.forall_mem_cons.mpr ⟨⟨_, _, _, rfl, Or.inl (wl0 _ (List.mem_of_getElem? (i := 66) rfl))⟩,
  List.forall_mem_cons.mpr ⟨⟨_, _, _, rfl, Or.inl ⟨(wl9 _ (List.mem_of_getElem? (i := 63) rfl)), rfl⟩⟩,
  List.forall_mem_cons.mpr ⟨Or.inr (wl10 _ (List.mem_of_getElem? (i := 2) rfl)),
  List.forall_mem_cons.mpr ⟨⟨_, _, _, rfl, Or.inl ⟨(wl9 _ (List.mem_of_getElem? (i := 67) rfl)), rfl⟩⟩,
  List.forall_mem_cons.mpr ⟨⟨_, _, _, rfl, Or.inl ⟨(wl10 _ (List.mem_of_getElem? (i := 7) rfl)), rfl⟩⟩,
  List.forall_mem_cons.mpr ⟨Or.inr (Or.inl ⟨rfl, (wl10 _ (List.mem_of_getElem? (i := 8) rfl)), (wl2 _ (List.mem_of_getElem? (i := 47) rfl)), (wl2 _ (List.mem_of_getElem? (i := 48) rfl)), (cwl12 _ (List.mem_of_getElem? (i := 17) rfl))⟩),
  List.forall_mem_cons.mpr ⟨⟨_, _, _, rfl, Or.inl (wl0 _ (List.mem_of_getElem? (i := 67) rfl))⟩,
  List.forall_mem_cons.mpr ⟨⟨_, _, _, rfl, Or.inl (wl10 _ (List.mem_of_getElem? (i := 7) rfl))⟩,
  List.forall_mem_cons.mpr ⟨Or.inr (Or.inr ⟨by decide, by decide, yo_232, (wl10 _ (List.mem_of_getElem? (i := 9) rfl)), (Or.inr ⟨_, (nl0 _ (List.mem_of_getElem? (i := 76) rfl))⟩)⟩),
  List.forall_mem_cons.mpr ⟨Or.inr (Or.inr ⟨yo_234, (wl10 _ (List.mem_of_getElem? (i := 11) rfl)), (wl10 _ (List.mem_of_getElem? (i := 12) rfl)), (Or.inl (wl10 _ (List.mem_of_getElem? (i := 10) rfl))), _, _, rfl⟩),
  List.forall_mem_cons.mpr ⟨Or.inr (Or.inr ⟨yo_235, (wl10 _ (List.mem_of_getElem? (i := 18) rfl)), (wl10 _ (List.mem_of_getElem? (i := 19) rfl)), (Or.inl (wl10 _ (List.mem_of_getElem? (i := 28) rfl))), _, _, rfl⟩),
  List.forall_mem_cons.mpr ⟨⟨_, _, _, rfl, Or.inr ⟨_, (nl0 _ (List.mem_of_getElem? (i := 77) rfl))⟩⟩,
  List.forall_mem_cons.mpr ⟨Or.inr (Or.inr ⟨yo_88, (wl5 _ (List.mem_of_getElem? (i := 20) rfl)), (wl5 _ (List.mem_of_getElem? (i := 21) rfl)), (Or.inl (wl10 _ (List.mem_of_getElem? (i := 32) rfl))), _, _, rfl⟩),
  List.forall_mem_cons.mpr ⟨⟨_, _, _, rfl, Or.inr ⟨_, (nl0 _ (List.mem_of_getElem? (i := 78) rfl))⟩⟩,
  List.forall_mem_cons.mpr ⟨Or.inr (Or.inr ⟨yo_174, (wl8 _ (List.mem_of_getElem? (i := 28) rfl)), (wl8 _ (List.mem_of_getElem? (i := 29) rfl)), (Or.inl (wl10 _ (List.mem_of_getElem? (i := 36) rfl))), _, _, rfl⟩),
  List.forall_mem_cons.mpr ⟨Or.inr (Or.inr ⟨by decide, by decide, yo_102, (wl5 _ (List.mem_of_getElem? (i := 63) rfl)), (Or.inr ⟨_, (nl0 _ (List.mem_of_getElem? (i := 79) rfl))⟩)⟩),
  fun _ h => absurd h List.not_mem_nil⟩⟩⟩⟩⟩⟩⟩⟩⟩⟩⟩⟩⟩⟩⟩⟩⟩⟩⟩⟩⟩⟩⟩⟩⟩⟩⟩⟩⟩⟩⟩⟩⟩⟩⟩⟩⟩
def lk_RX2 : tm_LK := lk_RX2_0
theorem lc_RX2 : ∀ e ∈ lk_RX2, tm_lnc RX2 tm_mt e.1 e.2.1 e.2.2.1 e.2.2.2 := lc_RX2_0
def lk_RX8_0 : tm_LK := [(.invokespecial 3, 9000, 0, 32), (.newarray .int, 1, 0, 0), (.putfield 11, 8, 0, 2), (.putfield 15, 8, 1, 2), (.putfield 18, 8, 2, 1), (.putfield 22, 8, 3, 0), (.putfield 26, 8, 4, 0), (.putfield 29, 8, 5, 0), (.putfield 32, 8, 6, 0), (.putfield 35, 8, 7, 0), (.putfield 38, 8, 8, 3), (.getfield 11, 8, 0, 2), (.invokestatic 42, 33, 2, 0), (.getfield 15, 8, 1, 2), (.getfield 48, 5, 8, 0), (.getfield 26, 8, 4, 0), (.invokevirtual 53, 38, 1, 21), (.invokestatic 57, 9003, 2, 1), (.getfield 29, 8, 5, 0), (.getfield 32, 8, 6, 0), (.invokestatic 80, 86, 1, 1), (.invokevirtual 76, 88, 2, 33), (.getfield 22, 8, 3, 0), (.invokevirtual 63, 85, 1, 33), (.invokevirtual 67, 87, 1, 33), (.getfield 35, 8, 7, 0), (.getfield 38, 8, 8, 0), (.invokevirtual 70, 89, 1, 33), (.invokevirtual 73, 90, 1, 33), (.invokestatic 83, 102, 2, 1)]
theorem lc_RX8_0 : ∀ e ∈ lk_RX8_0, tm_lnc RX8 tm_mt e.1 e.2.1 e.2.2.1 e.2.2.2 := List.forall_mem_cons.mpr ⟨Or.inl ⟨rfl, (wl0 _ (List.mem_of_getElem? (i := 68) rfl)), (wl0 _ (List.mem_of_getElem? (i := 16) rfl)), (cwl12 _ (List.mem_of_getElem? (i := 16) rfl))⟩,
  List.forall_mem_cons.mpr ⟨(wl0 _ (List.mem_of_getElem? (i := 28) rfl)),
  List.forall_mem_cons.mpr ⟨⟨_, _, _, rfl, Or.inr (Or.inr ⟨(wl0 _ (List.mem_of_getElem? (i := 69) rfl)), rfl, rfl, rfl⟩)⟩,
  List.forall_mem_cons.mpr ⟨⟨_, _, _, rfl, Or.inr (Or.inr ⟨(wl0 _ (List.mem_of_getElem? (i := 70) rfl)), rfl, rfl, rfl⟩)⟩,
  List.forall_mem_cons.mpr ⟨⟨_, _, _, rfl, Or.inl ⟨(wl2 _ (List.mem_of_getElem? (i := 57) rfl)), rfl⟩⟩,
  List.forall_mem_cons.mpr ⟨⟨_, _, _, rfl, Or.inl ⟨(wl2 _ (List.mem_of_getElem? (i := 58) rfl)), rfl⟩⟩,
  List.forall_mem_cons.mpr ⟨⟨_, _, _, rfl, Or.inl ⟨(wl2 _ (List.mem_of_getElem? (i := 59) rfl)), rfl⟩⟩,
  List.forall_mem_cons.mpr ⟨⟨_, _, _, rfl, Or.inl ⟨(wl2 _ (List.mem_of_getElem? (i := 60) rfl)), rfl⟩⟩,
  List.forall_mem_cons.mpr ⟨⟨_, _, _, rfl, Or.inl ⟨(wl2 _ (List.mem_of_getElem? (i := 61) rfl)), rfl⟩⟩,
  List.forall_mem_cons.mpr ⟨⟨_, _, _, rfl, Or.inl ⟨(wl2 _ (List.mem_of_getElem? (i := 62) rfl)), rfl⟩⟩,
  List.forall_mem_cons.mpr ⟨⟨_, _, _, rfl, Or.inl ⟨(wl2 _ (List.mem_of_getElem? (i := 63) rfl)), rfl⟩⟩,
  List.forall_mem_cons.mpr ⟨⟨_, _, _, rfl, Or.inl (wl0 _ (List.mem_of_getElem? (i := 69) rfl))⟩,
  List.forall_mem_cons.mpr ⟨Or.inr (Or.inr ⟨by decide, by decide, yo_33, (wl2 _ (List.mem_of_getElem? (i := 65) rfl)), (Or.inl (wl2 _ (List.mem_of_getElem? (i := 64) rfl)))⟩),
  List.forall_mem_cons.mpr ⟨⟨_, _, _, rfl, Or.inl (wl0 _ (List.mem_of_getElem? (i := 70) rfl))⟩,
  List.forall_mem_cons.mpr ⟨⟨_, _, _, rfl, Or.inr ⟨_, (nl0 _ (List.mem_of_getElem? (i := 15) rfl))⟩⟩,
  List.forall_mem_cons.mpr ⟨⟨_, _, _, rfl, Or.inl (wl2 _ (List.mem_of_getElem? (i := 59) rfl))⟩,
  List.forall_mem_cons.mpr ⟨Or.inr (Or.inr ⟨yo_38, (wl3 _ (List.mem_of_getElem? (i := 1) rfl)), (wl3 _ (List.mem_of_getElem? (i := 2) rfl)), (Or.inl (wl3 _ (List.mem_of_getElem? (i := 0) rfl))), _, _, rfl⟩),
  List.forall_mem_cons.mpr ⟨Or.inl ⟨rfl, (wl3 _ (List.mem_of_getElem? (i := 15) rfl)), (wl3 _ (List.mem_of_getElem? (i := 16) rfl)), (wl2 _ (List.mem_of_getElem? (i := 48) rfl)), (cwl12 _ (List.mem_of_getElem? (i := 18) rfl))⟩,
  List.forall_mem_cons.mpr ⟨⟨_, _, _, rfl, Or.inl (wl2 _ (List.mem_of_getElem? (i := 60) rfl))⟩,
  List.forall_mem_cons.mpr ⟨⟨_, _, _, rfl, Or.inl (wl2 _ (List.mem_of_getElem? (i := 61) rfl))⟩,
  List.forall_mem_cons.mpr ⟨Or.inr (Or.inr ⟨by decide, by decide, yo_86, (wl5 _ (List.mem_of_getElem? (i := 18) rfl)), (Or.inr ⟨_, (nl0 _ (List.mem_of_getElem? (i := 29) rfl))⟩)⟩),
  List.forall_mem_cons.mpr ⟨Or.inr (Or.inr ⟨yo_88, (wl5 _ (List.mem_of_getElem? (i := 20) rfl)), (wl5 _ (List.mem_of_getElem? (i := 21) rfl)), (Or.inl (wl5 _ (List.mem_of_getElem? (i := 19) rfl))), _, _, rfl⟩),
  List.forall_mem_cons.mpr ⟨⟨_, _, _, rfl, Or.inl (wl2 _ (List.mem_of_getElem? (i := 58) rfl))⟩,
  List.forall_mem_cons.mpr ⟨Or.inr (Or.inr ⟨yo_85, (wl5 _ (List.mem_of_getElem? (i := 23) rfl)), (wl5 _ (List.mem_of_getElem? (i := 24) rfl)), (Or.inl (wl5 _ (List.mem_of_getElem? (i := 22) rfl))), _, _, rfl⟩),
  List.forall_mem_cons.mpr ⟨Or.inr (Or.inr ⟨yo_87, (wl5 _ (List.mem_of_getElem? (i := 26) rfl)), (wl5 _ (List.mem_of_getElem? (i := 27) rfl)), (Or.inl (wl5 _ (List.mem_of_getElem? (i := 25) rfl))), _, _, rfl⟩),
  List.forall_mem_cons.mpr ⟨⟨_, _, _, rfl, Or.inl (wl2 _ (List.mem_of_getElem? (i := 62) rfl))⟩,
  List.forall_mem_cons.mpr ⟨⟨_, _, _, rfl, Or.inl (wl2 _ (List.mem_of_getElem? (i := 63) rfl))⟩,
  List.forall_mem_cons.mpr ⟨Or.inr (Or.inr ⟨yo_89, (wl5 _ (List.mem_of_getElem? (i := 29) rfl)), (wl5 _ (List.mem_of_getElem? (i := 30) rfl)), (Or.inl (wl5 _ (List.mem_of_getElem? (i := 28) rfl))), _, _, rfl⟩),
  List.forall_mem_cons.mpr ⟨Or.inr (Or.inr ⟨yo_90, (wl5 _ (List.mem_of_getElem? (i := 32) rfl)), (wl5 _ (List.mem_of_getElem? (i := 33) rfl)), (Or.inl (wl5 _ (List.mem_of_getElem? (i := 31) rfl))), _, _, rfl⟩),
  List.forall_mem_cons.mpr ⟨Or.inr (Or.inr ⟨by decide, by decide, yo_102, (wl5 _ (List.mem_of_getElem? (i := 63) rfl)), (Or.inr ⟨_, (nl0 _ (List.mem_of_getElem? (i := 31) rfl))⟩)⟩),
  fun _ h => absurd h List.not_mem_nil⟩⟩⟩⟩⟩⟩⟩⟩⟩⟩⟩⟩⟩⟩⟩⟩⟩⟩⟩⟩⟩⟩⟩⟩⟩⟩⟩⟩⟩⟩
def lk_RX8 : tm_LK := lk_RX8_0
theorem lc_RX8 : ∀ e ∈ lk_RX8, tm_lnc RX8 tm_mt e.1 e.2.1 e.2.2.1 e.2.2.2 := lc_RX8_0
def lk_RX0_0 : tm_LK := [(.invokespecial 3, 9000, 0, 0), (.anewarray 11, 5, 0, 0), (.putfield 13, 0, 0, 2), (.getfield 13, 0, 0, 2), (.new 11, 8, 9, 0), (.invokespecial 17, 9, 0, 32), (.getfield 18, 0, 1, 0), (.getfield 22, 8, 2, 1), (.getfield 26, 5, 7, 0), (.invokevirtual 38, 30, 1, 21), (.getfield 54, 5, 9, 1), (.invokevirtual 57, 32, 1, 1), (.invokevirtual 61, 34, 1, 32), (.invokevirtual 65, 28, 0, 20), (.invokevirtual 42, 31, 1, 21), (.invokevirtual 68, 36, 2, 21), (.getfield 72, 5, 8, 0), (.putfield 75, 8, 3, 0), (.invokevirtual 78, 39, 1, 32), (.invokevirtual 45, 35, 2, 1), (.invokevirtual 48, 37, 2, 1), (.invokevirtual 51, 40, 2, 1), (.getfield 97, 8, 4, 0), (.invokevirtual 100, 42, 3, 33), (.invokevirtual 104, 43, 4, 1), (.getfield 108, 8, 5, 0), (.putfield 108, 8, 5, 0), (.getfield 111, 8, 6, 0), (.putfield 111, 8, 6, 0), (.getfield 114, 8, 7, 0), (.putfield 114, 8, 7, 0), (.getfield 117, 8, 8, 0), (.putfield 117, 8, 8, 3), (.invokevirtual 82, 44, 2, 1), (.invokevirtual 85, 45, 2, 1), (.invokevirtual 88, 46, 2, 1), (.invokevirtual 91, 47, 2, 1), (.invokevirtual 94, 48, 2, 1), (.putfield 18, 0, 1, 0), (.invokevirtual 31, 41, 2, 1)]
theorem lc_RX0_0 : ∀ e ∈ lk_RX0_0, tm_lnc RX0 tm_mt e.1 e.2.1 e.2.2.1 e.2.2.2 := List.forall_mem_cons.mpr ⟨Or.inl ⟨rfl, (wl0 _ (List.mem_of_getElem? (i := 71) rfl)), (wl0 _ (List.mem_of_getElem? (i := 16) rfl)), (cwl12 _ (List.mem_of_getElem? (i := 16) rfl))⟩,
  List.forall_mem_cons.mpr ⟨⟨_, Or.inl ⟨rfl, rfl⟩, (wl0 _ (List.mem_of_getElem? (i := 72) rfl))⟩,
  List.forall_mem_cons.mpr ⟨⟨_, _, _, rfl, Or.inr (Or.inr ⟨(wl0 _ (List.mem_of_getElem? (i := 73) rfl)), rfl, rfl, rfl⟩)⟩,
  List.forall_mem_cons.mpr ⟨⟨_, _, _, rfl, Or.inl (wl0 _ (List.mem_of_getElem? (i := 73) rfl))⟩,
  List.forall_mem_cons.mpr ⟨⟨_, _, _, rfl, (wl0 _ (List.mem_of_getElem? (i := 72) rfl)), (wl0 _ (List.mem_of_getElem? (i := 74) rfl)), (wl0 _ (List.mem_of_getElem? (i := 7) rfl))⟩,
  List.forall_mem_cons.mpr ⟨Or.inr ⟨by decide, yo_9, (wl0 _ (List.mem_of_getElem? (i := 75) rfl)), rfl, rfl, (Or.inr ⟨_, (nl0 _ (List.mem_of_getElem? (i := 2) rfl))⟩)⟩,
  List.forall_mem_cons.mpr ⟨⟨_, _, _, rfl, Or.inl (wl2 _ (List.mem_of_getElem? (i := 56) rfl))⟩,
  List.forall_mem_cons.mpr ⟨⟨_, _, _, rfl, Or.inr ⟨_, (nl0 _ (List.mem_of_getElem? (i := 10) rfl))⟩⟩,
  List.forall_mem_cons.mpr ⟨⟨_, _, _, rfl, Or.inr ⟨_, (nl0 _ (List.mem_of_getElem? (i := 11) rfl))⟩⟩,
  List.forall_mem_cons.mpr ⟨Or.inr (Or.inr ⟨yo_30, (wl2 _ (List.mem_of_getElem? (i := 54) rfl)), (wl2 _ (List.mem_of_getElem? (i := 55) rfl)), (Or.inl (wl2 _ (List.mem_of_getElem? (i := 66) rfl))), _, _, rfl⟩),
  List.forall_mem_cons.mpr ⟨⟨_, _, _, rfl, Or.inr ⟨_, (nl0 _ (List.mem_of_getElem? (i := 12) rfl))⟩⟩,
  List.forall_mem_cons.mpr ⟨Or.inr (Or.inr ⟨yo_32, (wl2 _ (List.mem_of_getElem? (i := 68) rfl)), (wl2 _ (List.mem_of_getElem? (i := 69) rfl)), (Or.inl (wl2 _ (List.mem_of_getElem? (i := 67) rfl))), _, _, rfl⟩),
  List.forall_mem_cons.mpr ⟨Or.inr (Or.inr ⟨yo_34, (wl2 _ (List.mem_of_getElem? (i := 71) rfl)), (wl2 _ (List.mem_of_getElem? (i := 72) rfl)), (Or.inl (wl2 _ (List.mem_of_getElem? (i := 70) rfl))), _, _, rfl⟩),
  List.forall_mem_cons.mpr ⟨Or.inr (Or.inr ⟨yo_28, (wl2 _ (List.mem_of_getElem? (i := 51) rfl)), (wl2 _ (List.mem_of_getElem? (i := 52) rfl)), (Or.inl (wl2 _ (List.mem_of_getElem? (i := 73) rfl))), _, _, rfl⟩),
  List.forall_mem_cons.mpr ⟨Or.inr (Or.inr ⟨yo_31, (wl2 _ (List.mem_of_getElem? (i := 75) rfl)), (wl2 _ (List.mem_of_getElem? (i := 76) rfl)), (Or.inl (wl2 _ (List.mem_of_getElem? (i := 74) rfl))), _, _, rfl⟩),
  List.forall_mem_cons.mpr ⟨Or.inr (Or.inr ⟨yo_36, (wl2 _ (List.mem_of_getElem? (i := 78) rfl)), (wl2 _ (List.mem_of_getElem? (i := 79) rfl)), (Or.inl (wl2 _ (List.mem_of_getElem? (i := 77) rfl))), _, _, rfl⟩),
  List.forall_mem_cons.mpr ⟨⟨_, _, _, rfl, Or.inr ⟨_, (nl0 _ (List.mem_of_getElem? (i := 13) rfl))⟩⟩,
  List.forall_mem_cons.mpr ⟨⟨_, _, _, rfl, Or.inr (Or.inl ⟨_, (nl0 _ (List.mem_of_getElem? (i := 14) rfl)), rfl⟩)⟩,
  List.forall_mem_cons.mpr ⟨Or.inr (Or.inr ⟨yo_39, (wl3 _ (List.mem_of_getElem? (i := 4) rfl)), (wl3 _ (List.mem_of_getElem? (i := 5) rfl)), (Or.inl (wl3 _ (List.mem_of_getElem? (i := 3) rfl))), _, _, rfl⟩),
  List.forall_mem_cons.mpr ⟨Or.inr (Or.inr ⟨yo_35, (wl3 _ (List.mem_of_getElem? (i := 7) rfl)), (wl3 _ (List.mem_of_getElem? (i := 8) rfl)), (Or.inl (wl3 _ (List.mem_of_getElem? (i := 6) rfl))), _, _, rfl⟩),
  List.forall_mem_cons.mpr ⟨Or.inr (Or.inr ⟨yo_37, (wl3 _ (List.mem_of_getElem? (i := 10) rfl)), (wl3 _ (List.mem_of_getElem? (i := 11) rfl)), (Or.inl (wl3 _ (List.mem_of_getElem? (i := 9) rfl))), _, _, rfl⟩),
  List.forall_mem_cons.mpr ⟨Or.inr (Or.inr ⟨yo_40, (wl3 _ (List.mem_of_getElem? (i := 13) rfl)), (wl3 _ (List.mem_of_getElem? (i := 14) rfl)), (Or.inl (wl3 _ (List.mem_of_getElem? (i := 12) rfl))), _, _, rfl⟩),
  List.forall_mem_cons.mpr ⟨⟨_, _, _, rfl, Or.inr ⟨_, (nl0 _ (List.mem_of_getElem? (i := 16) rfl))⟩⟩,
  List.forall_mem_cons.mpr ⟨Or.inr (Or.inr ⟨yo_42, (wl3 _ (List.mem_of_getElem? (i := 18) rfl)), (wl3 _ (List.mem_of_getElem? (i := 19) rfl)), (Or.inl (wl3 _ (List.mem_of_getElem? (i := 17) rfl))), _, _, rfl⟩),
  List.forall_mem_cons.mpr ⟨Or.inr (Or.inr ⟨yo_43, (wl3 _ (List.mem_of_getElem? (i := 21) rfl)), (wl3 _ (List.mem_of_getElem? (i := 22) rfl)), (Or.inl (wl3 _ (List.mem_of_getElem? (i := 20) rfl))), _, _, rfl⟩),
  List.forall_mem_cons.mpr ⟨⟨_, _, _, rfl, Or.inr ⟨_, (nl0 _ (List.mem_of_getElem? (i := 17) rfl))⟩⟩,
  List.forall_mem_cons.mpr ⟨⟨_, _, _, rfl, Or.inr (Or.inl ⟨_, (nl0 _ (List.mem_of_getElem? (i := 17) rfl)), rfl⟩)⟩,
  List.forall_mem_cons.mpr ⟨⟨_, _, _, rfl, Or.inr ⟨_, (nl0 _ (List.mem_of_getElem? (i := 18) rfl))⟩⟩,
  List.forall_mem_cons.mpr ⟨⟨_, _, _, rfl, Or.inr (Or.inl ⟨_, (nl0 _ (List.mem_of_getElem? (i := 18) rfl)), rfl⟩)⟩,
  List.forall_mem_cons.mpr ⟨⟨_, _, _, rfl, Or.inr ⟨_, (nl0 _ (List.mem_of_getElem? (i := 19) rfl))⟩⟩,
  List.forall_mem_cons.mpr ⟨⟨_, _, _, rfl, Or.inr (Or.inl ⟨_, (nl0 _ (List.mem_of_getElem? (i := 19) rfl)), rfl⟩)⟩,
  List.forall_mem_cons.mpr ⟨⟨_, _, _, rfl, Or.inr ⟨_, (nl0 _ (List.mem_of_getElem? (i := 20) rfl))⟩⟩,
  List.forall_mem_cons.mpr ⟨⟨_, _, _, rfl, Or.inr (Or.inl ⟨_, (nl0 _ (List.mem_of_getElem? (i := 20) rfl)), rfl⟩)⟩,
  List.forall_mem_cons.mpr ⟨Or.inr (Or.inr ⟨yo_44, (wl3 _ (List.mem_of_getElem? (i := 24) rfl)), (wl3 _ (List.mem_of_getElem? (i := 25) rfl)), (Or.inl (wl3 _ (List.mem_of_getElem? (i := 23) rfl))), _, _, rfl⟩),
  List.forall_mem_cons.mpr ⟨Or.inr (Or.inr ⟨yo_45, (wl3 _ (List.mem_of_getElem? (i := 27) rfl)), (wl3 _ (List.mem_of_getElem? (i := 28) rfl)), (Or.inl (wl3 _ (List.mem_of_getElem? (i := 26) rfl))), _, _, rfl⟩),
  List.forall_mem_cons.mpr ⟨Or.inr (Or.inr ⟨yo_46, (wl3 _ (List.mem_of_getElem? (i := 30) rfl)), (wl3 _ (List.mem_of_getElem? (i := 31) rfl)), (Or.inl (wl3 _ (List.mem_of_getElem? (i := 29) rfl))), _, _, rfl⟩),
  List.forall_mem_cons.mpr ⟨Or.inr (Or.inr ⟨yo_47, (wl3 _ (List.mem_of_getElem? (i := 33) rfl)), (wl3 _ (List.mem_of_getElem? (i := 34) rfl)), (Or.inl (wl3 _ (List.mem_of_getElem? (i := 32) rfl))), _, _, rfl⟩),
  List.forall_mem_cons.mpr ⟨Or.inr (Or.inr ⟨yo_48, (wl3 _ (List.mem_of_getElem? (i := 36) rfl)), (wl3 _ (List.mem_of_getElem? (i := 37) rfl)), (Or.inl (wl3 _ (List.mem_of_getElem? (i := 35) rfl))), _, _, rfl⟩),
  List.forall_mem_cons.mpr ⟨⟨_, _, _, rfl, Or.inl ⟨(wl2 _ (List.mem_of_getElem? (i := 56) rfl)), rfl⟩⟩,
  List.forall_mem_cons.mpr ⟨Or.inr (Or.inr ⟨yo_41, (wl3 _ (List.mem_of_getElem? (i := 39) rfl)), (wl3 _ (List.mem_of_getElem? (i := 40) rfl)), (Or.inl (wl3 _ (List.mem_of_getElem? (i := 38) rfl))), _, _, rfl⟩),
  fun _ h => absurd h List.not_mem_nil⟩⟩⟩⟩⟩⟩⟩⟩⟩⟩⟩⟩⟩⟩⟩⟩⟩⟩⟩⟩⟩⟩⟩⟩⟩⟩⟩⟩⟩⟩⟩⟩⟩⟩⟩⟩⟩⟩⟩⟩
def lk_RX0_1 : tm_LK := [(.invokevirtual 35, 49, 2, 1)]
theorem lc_RX0_1 : ∀ e ∈ lk_RX0_1, tm_lnc RX0 tm_mt e.1 e.2.1 e.2.2.1 e.2.2.2 := List.forall_mem_cons.mpr ⟨Or.inr (Or.inr ⟨yo_49, (wl3 _ (List.mem_of_getElem? (i := 42) rfl)), (wl3 _ (List.mem_of_getElem? (i := 43) rfl)), (Or.inl (wl3 _ (List.mem_of_getElem? (i := 41) rfl))), _, _, rfl⟩),
  fun _ h => absurd h List.not_mem_nil⟩
def lk_RX0 : tm_LK := lk_RX0_0 ++ (lk_RX0_1)
theorem lc_RX0 : ∀ e ∈ lk_RX0, tm_lnc RX0 tm_mt e.1 e.2.1 e.2.2.1 e.2.2.2 := List.forall_mem_append.mpr ⟨lc_RX0_0, lc_RX0_1⟩
def lk_RX7_0 : tm_LK := [(.invokespecial 3, 9000, 0, 28), (.newarray .int, 1, 0, 0), (.putfield 11, 7, 0, 2), (.putfield 15, 7, 1, 2), (.putfield 18, 7, 2, 2), (.putfield 21, 7, 3, 2), (.newarray .boolean, 3, 0, 0), (.putfield 24, 7, 4, 2), (.getfield 51, 5, 7, 0), (.invokevirtual 58, 30, 1, 21), (.getfield 21, 7, 3, 2), (.getfield 28, 7, 6, 0), (.invokevirtual 48, 28, 0, 20), (.getfield 71, 5, 9, 1), (.invokevirtual 75, 32, 1, 1), (.getfield 24, 7, 4, 2), (.getfield 18, 7, 2, 2), (.invokevirtual 64, 74, 1, 29), (.invokevirtual 68, 75, 2, 29), (.getfield 11, 7, 0, 2), (.invokevirtual 34, 31, 1, 21), (.getfield 45, 7, 5, 0), (.invokevirtual 38, 36, 2, 21), (.getfield 42, 5, 8, 0), (.getfield 15, 7, 1, 2), (.invokevirtual 61, 76, 2, 29), (.putfield 28, 7, 6, 0), (.putfield 45, 7, 5, 0), (.invokevirtual 54, 77, 2, 29)]
theorem lc_RX7_0 : ∀ e ∈ lk_RX7_0, tm_lnc RX7 tm_mt e.1 e.2.1 e.2.2.1 e.2.2.2 := List.forall_mem_cons.mpr ⟨Or.inl ⟨rfl, (wl0 _ (List.mem_of_getElem? (i := 76) rfl)), (wl0 _ (List.mem_of_getElem? (i := 16) rfl)), (cwl12 _ (List.mem_of_getElem? (i := 16) rfl))⟩,
  List.forall_mem_cons.mpr ⟨(wl0 _ (List.mem_of_getElem? (i := 28) rfl)),
  List.forall_mem_cons.mpr ⟨⟨_, _, _, rfl, Or.inr (Or.inr ⟨(wl0 _ (List.mem_of_getElem? (i := 77) rfl)), rfl, rfl, rfl⟩)⟩,
  List.forall_mem_cons.mpr ⟨⟨_, _, _, rfl, Or.inr (Or.inr ⟨(wl0 _ (List.mem_of_getElem? (i := 78) rfl)), rfl, rfl, rfl⟩)⟩,
  List.forall_mem_cons.mpr ⟨⟨_, _, _, rfl, Or.inr (Or.inr ⟨(wl0 _ (List.mem_of_getElem? (i := 79) rfl)), rfl, rfl, rfl⟩)⟩,
  List.forall_mem_cons.mpr ⟨⟨_, _, _, rfl, Or.inr (Or.inr ⟨(wl1 _ (List.mem_of_getElem? (i := 0) rfl)), rfl, rfl, rfl⟩)⟩,
  List.forall_mem_cons.mpr ⟨(wl0 _ (List.mem_of_getElem? (i := 44) rfl)),
  List.forall_mem_cons.mpr ⟨⟨_, _, _, rfl, Or.inr (Or.inr ⟨(wl1 _ (List.mem_of_getElem? (i := 1) rfl)), rfl, rfl, rfl⟩)⟩,
  List.forall_mem_cons.mpr ⟨⟨_, _, _, rfl, Or.inr ⟨_, (nl0 _ (List.mem_of_getElem? (i := 23) rfl))⟩⟩,
  List.forall_mem_cons.mpr ⟨Or.inr (Or.inr ⟨yo_30, (wl2 _ (List.mem_of_getElem? (i := 54) rfl)), (wl2 _ (List.mem_of_getElem? (i := 55) rfl)), (Or.inl (wl4 _ (List.mem_of_getElem? (i := 71) rfl))), _, _, rfl⟩),
  List.forall_mem_cons.mpr ⟨⟨_, _, _, rfl, Or.inl (wl1 _ (List.mem_of_getElem? (i := 0) rfl))⟩,
  List.forall_mem_cons.mpr ⟨⟨_, _, _, rfl, Or.inl (wl4 _ (List.mem_of_getElem? (i := 72) rfl))⟩,
  List.forall_mem_cons.mpr ⟨Or.inr (Or.inr ⟨yo_28, (wl2 _ (List.mem_of_getElem? (i := 51) rfl)), (wl2 _ (List.mem_of_getElem? (i := 52) rfl)), (Or.inl (wl4 _ (List.mem_of_getElem? (i := 73) rfl))), _, _, rfl⟩),
  List.forall_mem_cons.mpr ⟨⟨_, _, _, rfl, Or.inr ⟨_, (nl0 _ (List.mem_of_getElem? (i := 24) rfl))⟩⟩,
  List.forall_mem_cons.mpr ⟨Or.inr (Or.inr ⟨yo_32, (wl2 _ (List.mem_of_getElem? (i := 68) rfl)), (wl2 _ (List.mem_of_getElem? (i := 69) rfl)), (Or.inl (wl4 _ (List.mem_of_getElem? (i := 74) rfl))), _, _, rfl⟩),
  List.forall_mem_cons.mpr ⟨⟨_, _, _, rfl, Or.inl (wl1 _ (List.mem_of_getElem? (i := 1) rfl))⟩,
  List.forall_mem_cons.mpr ⟨⟨_, _, _, rfl, Or.inl (wl0 _ (List.mem_of_getElem? (i := 79) rfl))⟩,
  List.forall_mem_cons.mpr ⟨Or.inr (Or.inr ⟨yo_74, (wl4 _ (List.mem_of_getElem? (i := 76) rfl)), (wl4 _ (List.mem_of_getElem? (i := 77) rfl)), (Or.inl (wl4 _ (List.mem_of_getElem? (i := 75) rfl))), _, _, rfl⟩),
  List.forall_mem_cons.mpr ⟨Or.inr (Or.inr ⟨yo_75, (wl4 _ (List.mem_of_getElem? (i := 79) rfl)), (wl5 _ (List.mem_of_getElem? (i := 0) rfl)), (Or.inl (wl4 _ (List.mem_of_getElem? (i := 78) rfl))), _, _, rfl⟩),
  List.forall_mem_cons.mpr ⟨⟨_, _, _, rfl, Or.inl (wl0 _ (List.mem_of_getElem? (i := 77) rfl))⟩,
  List.forall_mem_cons.mpr ⟨Or.inr (Or.inr ⟨yo_31, (wl2 _ (List.mem_of_getElem? (i := 75) rfl)), (wl2 _ (List.mem_of_getElem? (i := 76) rfl)), (Or.inl (wl5 _ (List.mem_of_getElem? (i := 1) rfl))), _, _, rfl⟩),
  List.forall_mem_cons.mpr ⟨⟨_, _, _, rfl, Or.inl (wl5 _ (List.mem_of_getElem? (i := 2) rfl))⟩,
  List.forall_mem_cons.mpr ⟨Or.inr (Or.inr ⟨yo_36, (wl2 _ (List.mem_of_getElem? (i := 78) rfl)), (wl2 _ (List.mem_of_getElem? (i := 79) rfl)), (Or.inl (wl5 _ (List.mem_of_getElem? (i := 3) rfl))), _, _, rfl⟩),
  List.forall_mem_cons.mpr ⟨⟨_, _, _, rfl, Or.inr ⟨_, (nl0 _ (List.mem_of_getElem? (i := 25) rfl))⟩⟩,
  List.forall_mem_cons.mpr ⟨⟨_, _, _, rfl, Or.inl (wl0 _ (List.mem_of_getElem? (i := 78) rfl))⟩,
  List.forall_mem_cons.mpr ⟨Or.inr (Or.inr ⟨yo_76, (wl5 _ (List.mem_of_getElem? (i := 5) rfl)), (wl5 _ (List.mem_of_getElem? (i := 6) rfl)), (Or.inl (wl5 _ (List.mem_of_getElem? (i := 4) rfl))), _, _, rfl⟩),
  List.forall_mem_cons.mpr ⟨⟨_, _, _, rfl, Or.inl ⟨(wl4 _ (List.mem_of_getElem? (i := 72) rfl)), rfl⟩⟩,
  List.forall_mem_cons.mpr ⟨⟨_, _, _, rfl, Or.inl ⟨(wl5 _ (List.mem_of_getElem? (i := 2) rfl)), rfl⟩⟩,
  List.forall_mem_cons.mpr ⟨Or.inr (Or.inr ⟨yo_77, (wl5 _ (List.mem_of_getElem? (i := 8) rfl)), (wl5 _ (List.mem_of_getElem? (i := 9) rfl)), (Or.inl (wl5 _ (List.mem_of_getElem? (i := 7) rfl))), _, _, rfl⟩),
  fun _ h => absurd h List.not_mem_nil⟩⟩⟩⟩⟩⟩⟩⟩⟩⟩⟩⟩⟩⟩⟩⟩⟩⟩⟩⟩⟩⟩⟩⟩⟩⟩⟩⟩⟩
def lk_RX7 : tm_LK := lk_RX7_0
theorem lc_RX7 : ∀ e ∈ lk_RX7, tm_lnc RX7 tm_mt e.1 e.2.1 e.2.2.1 e.2.2.2 := lc_RX7_0
def lk_RX10_0 : tm_LK := [(.invokespecial 1, 9000, 0, 40), (.newarray .byte, 2, 0, 0), (.putfield 9, 10, 0, 2), (.new 13, 5, 10, 0), (.invokespecial 15, 2, 0, 20), (.putfield 16, 10, 1, 2), (.new 20, 9, 6, 0), (.invokespecial 22, 5, 0, 36), (.putfield 23, 10, 2, 2), (.new 27, 1, 11, 0), (.invokespecial 29, 6, 0, 4), (.putfield 30, 10, 3, 2), (.new 34, 6, 3, 0), (.invokespecial 36, 7, 0, 24), (.putfield 37, 10, 4, 2), (.new 41, 2, 11, 0), (.invokespecial 43, 8, 0, 8), (.putfield 44, 10, 5, 2), (.new 48, 0, 2, 0), (.invokespecial 50, 10, 0, 0), (.putfield 51, 10, 6, 2), (.putfield 55, 10, 7, 2), (.new 58, 7, 7, 0), (.invokespecial 60, 11, 0, 28), (.putfield 61, 10, 8, 2), (.putfield 65, 10, 9, 2), (.putfield 68, 10, 12, 0), (.putfield 72, 10, 13, 0), (.getfield 9, 10, 0, 2), (.getfield 75, 10, 11, 0), (.invokevirtual 78, 14, 2, 40), (.putfield 75, 10, 11, 0), (.getfield 16, 10, 1, 2), (.invokevirtual 82, 19, 0, 41), (.invokevirtual 86, 29, 2, 20), (.getfield 55, 10, 7, 2), (.invokevirtual 90, 50, 1, 1), (.getfield 51, 10, 6, 2), (.getfield 30, 10, 3, 2), (.invokevirtual 94, 51, 0, 4)]
theorem lc_RX10_0 : ∀ e ∈ lk_RX10_0, tm_lnc RX10 tm_mt e.1 e.2.1 e.2.2.1 e.2.2.2 := List.forall_mem_cons.mpr ⟨Or.inl ⟨rfl, (wl1 _ (List.mem_of_getElem? (i := 2) rfl)), (wl0 _ (List.mem_of_getElem? (i := 16) rfl)), (cwl12 _ (List.mem_of_getElem? (i := 16) rfl))⟩,
  List.forall_mem_cons.mpr ⟨(wl0 _ (List.mem_of_getElem? (i := 17) rfl)),
  List.forall_mem_cons.mpr ⟨⟨_, _, _, rfl, Or.inr (Or.inr ⟨(wl1 _ (List.mem_of_getElem? (i := 3) rfl)), rfl, rfl, rfl⟩)⟩,
  List.forall_mem_cons.mpr ⟨⟨_, _, _, rfl, (wl1 _ (List.mem_of_getElem? (i := 4) rfl)), (wl1 _ (List.mem_of_getElem? (i := 5) rfl)), (wl0 _ (List.mem_of_getElem? (i := 0) rfl))⟩,
  List.forall_mem_cons.mpr ⟨Or.inr ⟨by decide, yo_2, (wl1 _ (List.mem_of_getElem? (i := 7) rfl)), rfl, rfl, (Or.inl (wl1 _ (List.mem_of_getElem? (i := 6) rfl)))⟩,
  List.forall_mem_cons.mpr ⟨⟨_, _, _, rfl, Or.inr (Or.inr ⟨(wl1 _ (List.mem_of_getElem? (i := 8) rfl)), rfl, rfl, rfl⟩)⟩,
  List.forall_mem_cons.mpr ⟨⟨_, _, _, rfl, (wl1 _ (List.mem_of_getElem? (i := 9) rfl)), (wl1 _ (List.mem_of_getElem? (i := 10) rfl)), (wl0 _ (List.mem_of_getElem? (i := 3) rfl))⟩,
  List.forall_mem_cons.mpr ⟨Or.inr ⟨by decide, yo_5, (wl1 _ (List.mem_of_getElem? (i := 12) rfl)), rfl, rfl, (Or.inl (wl1 _ (List.mem_of_getElem? (i := 11) rfl)))⟩,
  List.forall_mem_cons.mpr ⟨⟨_, _, _, rfl, Or.inr (Or.inr ⟨(wl1 _ (List.mem_of_getElem? (i := 13) rfl)), rfl, rfl, rfl⟩)⟩,
  List.forall_mem_cons.mpr ⟨⟨_, _, _, rfl, (wl1 _ (List.mem_of_getElem? (i := 14) rfl)), (wl1 _ (List.mem_of_getElem? (i := 15) rfl)), (wl0 _ (List.mem_of_getElem? (i := 4) rfl))⟩,
  List.forall_mem_cons.mpr ⟨Or.inr ⟨by decide, yo_6, (wl1 _ (List.mem_of_getElem? (i := 16) rfl)), rfl, rfl, (Or.inr ⟨_, (nl0 _ (List.mem_of_getElem? (i := 3) rfl))⟩)⟩,
  List.forall_mem_cons.mpr ⟨⟨_, _, _, rfl, Or.inr (Or.inr ⟨(wl1 _ (List.mem_of_getElem? (i := 17) rfl)), rfl, rfl, rfl⟩)⟩,
  List.forall_mem_cons.mpr ⟨⟨_, _, _, rfl, (wl1 _ (List.mem_of_getElem? (i := 18) rfl)), (wl1 _ (List.mem_of_getElem? (i := 19) rfl)), (wl0 _ (List.mem_of_getElem? (i := 5) rfl))⟩,
  List.forall_mem_cons.mpr ⟨Or.inr ⟨by decide, yo_7, (wl1 _ (List.mem_of_getElem? (i := 20) rfl)), rfl, rfl, (Or.inr ⟨_, (nl0 _ (List.mem_of_getElem? (i := 4) rfl))⟩)⟩,
  List.forall_mem_cons.mpr ⟨⟨_, _, _, rfl, Or.inr (Or.inr ⟨(wl1 _ (List.mem_of_getElem? (i := 21) rfl)), rfl, rfl, rfl⟩)⟩,
  List.forall_mem_cons.mpr ⟨⟨_, _, _, rfl, (wl1 _ (List.mem_of_getElem? (i := 22) rfl)), (wl1 _ (List.mem_of_getElem? (i := 23) rfl)), (wl0 _ (List.mem_of_getElem? (i := 6) rfl))⟩,
  List.forall_mem_cons.mpr ⟨Or.inr ⟨by decide, yo_8, (wl1 _ (List.mem_of_getElem? (i := 24) rfl)), rfl, rfl, (Or.inr ⟨_, (nl0 _ (List.mem_of_getElem? (i := 5) rfl))⟩)⟩,
  List.forall_mem_cons.mpr ⟨⟨_, _, _, rfl, Or.inr (Or.inr ⟨(wl1 _ (List.mem_of_getElem? (i := 25) rfl)), rfl, rfl, rfl⟩)⟩,
  List.forall_mem_cons.mpr ⟨⟨_, _, _, rfl, (wl1 _ (List.mem_of_getElem? (i := 26) rfl)), (wl1 _ (List.mem_of_getElem? (i := 27) rfl)), (wl0 _ (List.mem_of_getElem? (i := 8) rfl))⟩,
  List.forall_mem_cons.mpr ⟨Or.inr ⟨by decide, yo_10, (wl1 _ (List.mem_of_getElem? (i := 29) rfl)), rfl, rfl, (Or.inl (wl1 _ (List.mem_of_getElem? (i := 28) rfl)))⟩,
  List.forall_mem_cons.mpr ⟨⟨_, _, _, rfl, Or.inl ⟨(wl1 _ (List.mem_of_getElem? (i := 30) rfl)), rfl⟩⟩,
  List.forall_mem_cons.mpr ⟨⟨_, _, _, rfl, Or.inl ⟨(wl1 _ (List.mem_of_getElem? (i := 31) rfl)), rfl⟩⟩,
  List.forall_mem_cons.mpr ⟨⟨_, _, _, rfl, (wl1 _ (List.mem_of_getElem? (i := 32) rfl)), (wl1 _ (List.mem_of_getElem? (i := 33) rfl)), (wl0 _ (List.mem_of_getElem? (i := 9) rfl))⟩,
  List.forall_mem_cons.mpr ⟨Or.inr ⟨by decide, yo_11, (wl1 _ (List.mem_of_getElem? (i := 34) rfl)), rfl, rfl, (Or.inr ⟨_, (nl0 _ (List.mem_of_getElem? (i := 6) rfl))⟩)⟩,
  List.forall_mem_cons.mpr ⟨⟨_, _, _, rfl, Or.inl ⟨(wl1 _ (List.mem_of_getElem? (i := 35) rfl)), rfl⟩⟩,
  List.forall_mem_cons.mpr ⟨⟨_, _, _, rfl, Or.inl ⟨(wl1 _ (List.mem_of_getElem? (i := 36) rfl)), rfl⟩⟩,
  List.forall_mem_cons.mpr ⟨⟨_, _, _, rfl, Or.inl ⟨(wl1 _ (List.mem_of_getElem? (i := 37) rfl)), rfl⟩⟩,
  List.forall_mem_cons.mpr ⟨⟨_, _, _, rfl, Or.inl ⟨(wl1 _ (List.mem_of_getElem? (i := 38) rfl)), rfl⟩⟩,
  List.forall_mem_cons.mpr ⟨⟨_, _, _, rfl, Or.inl (wl1 _ (List.mem_of_getElem? (i := 3) rfl))⟩,
  List.forall_mem_cons.mpr ⟨⟨_, _, _, rfl, Or.inl (wl2 _ (List.mem_of_getElem? (i := 18) rfl))⟩,
  List.forall_mem_cons.mpr ⟨Or.inr (Or.inr ⟨yo_14, (wl2 _ (List.mem_of_getElem? (i := 20) rfl)), (wl2 _ (List.mem_of_getElem? (i := 21) rfl)), (Or.inl (wl2 _ (List.mem_of_getElem? (i := 19) rfl))), _, _, rfl⟩),
  List.forall_mem_cons.mpr ⟨⟨_, _, _, rfl, Or.inl ⟨(wl2 _ (List.mem_of_getElem? (i := 18) rfl)), rfl⟩⟩,
  List.forall_mem_cons.mpr ⟨⟨_, _, _, rfl, Or.inl (wl1 _ (List.mem_of_getElem? (i := 8) rfl))⟩,
  List.forall_mem_cons.mpr ⟨Or.inr (Or.inr ⟨yo_19, (wl3 _ (List.mem_of_getElem? (i := 48) rfl)), (wl3 _ (List.mem_of_getElem? (i := 49) rfl)), (Or.inl (wl3 _ (List.mem_of_getElem? (i := 47) rfl))), _, _, rfl⟩),
  List.forall_mem_cons.mpr ⟨Or.inr (Or.inr ⟨yo_29, (wl3 _ (List.mem_of_getElem? (i := 51) rfl)), (wl3 _ (List.mem_of_getElem? (i := 52) rfl)), (Or.inl (wl3 _ (List.mem_of_getElem? (i := 50) rfl))), _, _, rfl⟩),
  List.forall_mem_cons.mpr ⟨⟨_, _, _, rfl, Or.inl (wl1 _ (List.mem_of_getElem? (i := 31) rfl))⟩,
  List.forall_mem_cons.mpr ⟨Or.inr (Or.inr ⟨yo_50, (wl3 _ (List.mem_of_getElem? (i := 54) rfl)), (wl3 _ (List.mem_of_getElem? (i := 55) rfl)), (Or.inl (wl3 _ (List.mem_of_getElem? (i := 53) rfl))), _, _, rfl⟩),
  List.forall_mem_cons.mpr ⟨⟨_, _, _, rfl, Or.inl (wl1 _ (List.mem_of_getElem? (i := 30) rfl))⟩,
  List.forall_mem_cons.mpr ⟨⟨_, _, _, rfl, Or.inl (wl1 _ (List.mem_of_getElem? (i := 17) rfl))⟩,
  List.forall_mem_cons.mpr ⟨Or.inr (Or.inr ⟨yo_51, (wl3 _ (List.mem_of_getElem? (i := 57) rfl)), (wl3 _ (List.mem_of_getElem? (i := 58) rfl)), (Or.inl (wl3 _ (List.mem_of_getElem? (i := 56) rfl))), _, _, rfl⟩),
  fun _ h => absurd h List.not_mem_nil⟩⟩⟩⟩⟩⟩⟩⟩⟩⟩⟩⟩⟩⟩⟩⟩⟩⟩⟩⟩⟩⟩⟩⟩⟩⟩⟩⟩⟩⟩⟩⟩⟩⟩⟩⟩⟩⟩⟩⟩
def lk_RX10_1 : tm_LK := [(.putfield 97, 10, 10, 3), (.getfield 23, 10, 2, 2), (.getfield 101, 9, 0, 2), (.invokevirtual 105, 52, 0, 16), (.getfield 108, 0, 1, 0), (.getfield 65, 10, 9, 2), (.invokevirtual 111, 78, 2, 29), (.getfield 61, 10, 8, 2), (.getfield 114, 7, 6, 0), (.getfield 115, 5, 4, 0), (.getfield 118, 5, 5, 0), (.invokevirtual 121, 84, 1, 1), (.getfield 125, 0, 0, 2), (.invokevirtual 129, 91, 2, 33), (.invokevirtual 135, 103, 0, 33), (.getfield 97, 10, 10, 0), (.ldc 138, 100000, 0, 0), (.getfield 68, 10, 12, 0), (.invokevirtual 139, 144, 3, 36), (.getfield 143, 4, 9, 0), (.getfield 72, 10, 13, 0), (.getfield 146, 4, 7, 0), (.getfield 149, 4, 5, 0), (.getfield 152, 4, 6, 0), (.getfield 155, 4, 8, 0), (.getfield 158, 4, 10, 0), (.invokevirtual 161, 167, 2, 17), (.invokevirtual 165, 170, 2, 17), (.invokevirtual 168, 174, 1, 17), (.invokevirtual 172, 178, 3, 17), (.invokevirtual 176, 182, 2, 17), (.invokestatic 179, 185, 3, 1), (.invokevirtual 183, 195, 4, 4), (.invokevirtual 187, 196, 0, 5), (.invokevirtual 190, 206, 2, 5), (.getfield 37, 10, 4, 2), (.invokevirtual 193, 211, 2, 24), (.getfield 195, 6, 2, 0), (.getfield 198, 6, 1, 0), (.getfield 201, 6, 0, 2)]
theorem lc_RX10_1 : ∀ e ∈ lk_RX10_1, tm_lnc RX10 tm_mt e.1 e.2.1 e.2.2.1 e.2.2.2 := List.forall_mem_cons.mpr ⟨⟨_, _, _, rfl, Or.inl ⟨(wl3 _ (List.mem_of_getElem? (i := 59) rfl)), rfl⟩⟩,
  List.forall_mem_cons.mpr ⟨⟨_, _, _, rfl, Or.inl (wl1 _ (List.mem_of_getElem? (i := 13) rfl))⟩,
  List.forall_mem_cons.mpr ⟨⟨_, _, _, rfl, Or.inr ⟨_, (nl0 _ (List.mem_of_getElem? (i := 21) rfl))⟩⟩,
  List.forall_mem_cons.mpr ⟨Or.inr (Or.inr ⟨yo_52, (wl3 _ (List.mem_of_getElem? (i := 61) rfl)), (wl3 _ (List.mem_of_getElem? (i := 62) rfl)), (Or.inl (wl3 _ (List.mem_of_getElem? (i := 60) rfl))), _, _, rfl⟩),
  List.forall_mem_cons.mpr ⟨⟨_, _, _, rfl, Or.inr ⟨_, (nl0 _ (List.mem_of_getElem? (i := 22) rfl))⟩⟩,
  List.forall_mem_cons.mpr ⟨⟨_, _, _, rfl, Or.inl (wl1 _ (List.mem_of_getElem? (i := 36) rfl))⟩,
  List.forall_mem_cons.mpr ⟨Or.inr (Or.inr ⟨yo_78, (wl5 _ (List.mem_of_getElem? (i := 11) rfl)), (wl5 _ (List.mem_of_getElem? (i := 12) rfl)), (Or.inl (wl5 _ (List.mem_of_getElem? (i := 10) rfl))), _, _, rfl⟩),
  List.forall_mem_cons.mpr ⟨⟨_, _, _, rfl, Or.inl (wl1 _ (List.mem_of_getElem? (i := 35) rfl))⟩,
  List.forall_mem_cons.mpr ⟨⟨_, _, _, rfl, Or.inr ⟨_, (nl0 _ (List.mem_of_getElem? (i := 26) rfl))⟩⟩,
  List.forall_mem_cons.mpr ⟨⟨_, _, _, rfl, Or.inr ⟨_, (nl0 _ (List.mem_of_getElem? (i := 27) rfl))⟩⟩,
  List.forall_mem_cons.mpr ⟨⟨_, _, _, rfl, Or.inr ⟨_, (nl0 _ (List.mem_of_getElem? (i := 28) rfl))⟩⟩,
  List.forall_mem_cons.mpr ⟨Or.inr (Or.inr ⟨yo_84, (wl5 _ (List.mem_of_getElem? (i := 35) rfl)), (wl5 _ (List.mem_of_getElem? (i := 36) rfl)), (Or.inl (wl5 _ (List.mem_of_getElem? (i := 34) rfl))), _, _, rfl⟩),
  List.forall_mem_cons.mpr ⟨⟨_, _, _, rfl, Or.inr ⟨_, (nl0 _ (List.mem_of_getElem? (i := 30) rfl))⟩⟩,
  List.forall_mem_cons.mpr ⟨Or.inr (Or.inr ⟨yo_91, (wl5 _ (List.mem_of_getElem? (i := 38) rfl)), (wl5 _ (List.mem_of_getElem? (i := 39) rfl)), (Or.inl (wl5 _ (List.mem_of_getElem? (i := 37) rfl))), _, _, rfl⟩),
  List.forall_mem_cons.mpr ⟨Or.inr (Or.inr ⟨yo_103, (wl5 _ (List.mem_of_getElem? (i := 65) rfl)), (wl5 _ (List.mem_of_getElem? (i := 66) rfl)), (Or.inl (wl5 _ (List.mem_of_getElem? (i := 64) rfl))), _, _, rfl⟩),
  List.forall_mem_cons.mpr ⟨⟨_, _, _, rfl, Or.inl (wl3 _ (List.mem_of_getElem? (i := 59) rfl))⟩,
  List.forall_mem_cons.mpr ⟨Or.inr (wl7 _ (List.mem_of_getElem? (i := 31) rfl)),
  List.forall_mem_cons.mpr ⟨⟨_, _, _, rfl, Or.inl (wl1 _ (List.mem_of_getElem? (i := 37) rfl))⟩,
  List.forall_mem_cons.mpr ⟨Or.inr (Or.inr ⟨yo_144, (wl7 _ (List.mem_of_getElem? (i := 33) rfl)), (wl7 _ (List.mem_of_getElem? (i := 34) rfl)), (Or.inl (wl7 _ (List.mem_of_getElem? (i := 32) rfl))), _, _, rfl⟩),
  List.forall_mem_cons.mpr ⟨⟨_, _, _, rfl, Or.inr ⟨_, (nl0 _ (List.mem_of_getElem? (i := 60) rfl))⟩⟩,
  List.forall_mem_cons.mpr ⟨⟨_, _, _, rfl, Or.inl (wl1 _ (List.mem_of_getElem? (i := 38) rfl))⟩,
  List.forall_mem_cons.mpr ⟨⟨_, _, _, rfl, Or.inr ⟨_, (nl0 _ (List.mem_of_getElem? (i := 61) rfl))⟩⟩,
  List.forall_mem_cons.mpr ⟨⟨_, _, _, rfl, Or.inr ⟨_, (nl0 _ (List.mem_of_getElem? (i := 62) rfl))⟩⟩,
  List.forall_mem_cons.mpr ⟨⟨_, _, _, rfl, Or.inr ⟨_, (nl0 _ (List.mem_of_getElem? (i := 63) rfl))⟩⟩,
  List.forall_mem_cons.mpr ⟨⟨_, _, _, rfl, Or.inr ⟨_, (nl0 _ (List.mem_of_getElem? (i := 64) rfl))⟩⟩,
  List.forall_mem_cons.mpr ⟨⟨_, _, _, rfl, Or.inr ⟨_, (nl0 _ (List.mem_of_getElem? (i := 65) rfl))⟩⟩,
  List.forall_mem_cons.mpr ⟨Or.inr (Or.inr ⟨yo_167, (wl8 _ (List.mem_of_getElem? (i := 19) rfl)), (wl8 _ (List.mem_of_getElem? (i := 20) rfl)), (Or.inl (wl8 _ (List.mem_of_getElem? (i := 18) rfl))), _, _, rfl⟩),
  List.forall_mem_cons.mpr ⟨Or.inr (Or.inr ⟨yo_170, (wl8 _ (List.mem_of_getElem? (i := 22) rfl)), (wl8 _ (List.mem_of_getElem? (i := 23) rfl)), (Or.inl (wl8 _ (List.mem_of_getElem? (i := 21) rfl))), _, _, rfl⟩),
  List.forall_mem_cons.mpr ⟨Or.inr (Or.inr ⟨yo_174, (wl8 _ (List.mem_of_getElem? (i := 28) rfl)), (wl8 _ (List.mem_of_getElem? (i := 29) rfl)), (Or.inl (wl8 _ (List.mem_of_getElem? (i := 27) rfl))), _, _, rfl⟩),
  List.forall_mem_cons.mpr ⟨Or.inr (Or.inr ⟨yo_178, (wl8 _ (List.mem_of_getElem? (i := 34) rfl)), (wl8 _ (List.mem_of_getElem? (i := 35) rfl)), (Or.inl (wl8 _ (List.mem_of_getElem? (i := 33) rfl))), _, _, rfl⟩),
  List.forall_mem_cons.mpr ⟨Or.inr (Or.inr ⟨yo_182, (wl8 _ (List.mem_of_getElem? (i := 39) rfl)), (wl8 _ (List.mem_of_getElem? (i := 40) rfl)), (Or.inl (wl8 _ (List.mem_of_getElem? (i := 38) rfl))), _, _, rfl⟩),
  List.forall_mem_cons.mpr ⟨Or.inr (Or.inr ⟨by decide, by decide, yo_185, (wl9 _ (List.mem_of_getElem? (i := 11) rfl)), (Or.inl (wl9 _ (List.mem_of_getElem? (i := 10) rfl)))⟩),
  List.forall_mem_cons.mpr ⟨Or.inr (Or.inr ⟨yo_195, (wl9 _ (List.mem_of_getElem? (i := 13) rfl)), (wl9 _ (List.mem_of_getElem? (i := 14) rfl)), (Or.inl (wl9 _ (List.mem_of_getElem? (i := 12) rfl))), _, _, rfl⟩),
  List.forall_mem_cons.mpr ⟨Or.inr (Or.inr ⟨yo_196, (wl9 _ (List.mem_of_getElem? (i := 16) rfl)), (wl9 _ (List.mem_of_getElem? (i := 17) rfl)), (Or.inl (wl9 _ (List.mem_of_getElem? (i := 15) rfl))), _, _, rfl⟩),
  List.forall_mem_cons.mpr ⟨Or.inr (Or.inr ⟨yo_206, (wl9 _ (List.mem_of_getElem? (i := 41) rfl)), (wl9 _ (List.mem_of_getElem? (i := 42) rfl)), (Or.inl (wl9 _ (List.mem_of_getElem? (i := 40) rfl))), _, _, rfl⟩),
  List.forall_mem_cons.mpr ⟨⟨_, _, _, rfl, Or.inl (wl1 _ (List.mem_of_getElem? (i := 21) rfl))⟩,
  List.forall_mem_cons.mpr ⟨Or.inr (Or.inr ⟨yo_211, (wl9 _ (List.mem_of_getElem? (i := 51) rfl)), (wl9 _ (List.mem_of_getElem? (i := 52) rfl)), (Or.inl (wl9 _ (List.mem_of_getElem? (i := 50) rfl))), _, _, rfl⟩),
  List.forall_mem_cons.mpr ⟨⟨_, _, _, rfl, Or.inr ⟨_, (nl0 _ (List.mem_of_getElem? (i := 72) rfl))⟩⟩,
  List.forall_mem_cons.mpr ⟨⟨_, _, _, rfl, Or.inr ⟨_, (nl0 _ (List.mem_of_getElem? (i := 73) rfl))⟩⟩,
  List.forall_mem_cons.mpr ⟨⟨_, _, _, rfl, Or.inr ⟨_, (nl0 _ (List.mem_of_getElem? (i := 74) rfl))⟩⟩,
  fun _ h => absurd h List.not_mem_nil⟩⟩⟩⟩⟩⟩⟩⟩⟩⟩⟩⟩⟩⟩⟩⟩⟩⟩⟩⟩⟩⟩⟩⟩⟩⟩⟩⟩⟩⟩⟩⟩⟩⟩⟩⟩⟩⟩⟩⟩
def lk_RX10_2 : tm_LK := [(.invokevirtual 205, 217, 1, 25), (.invokestatic 208, 114, 1, 1), (.invokestatic 211, 221, 1, 1), (.getfield 44, 10, 5, 2), (.invokevirtual 214, 222, 2, 9), (.invokevirtual 218, 223, 5, 9), (.invokevirtual 222, 226, 1, 9), (.invokevirtual 225, 229, 1, 9), (.invokestatic 228, 232, 1, 1), (.invokevirtual 231, 233, 2, 8), (.invokevirtual 234, 235, 1, 9), (.invokevirtual 237, 241, 4, 9), (.invokevirtual 241, 244, 3, 9), (.invokevirtual 245, 247, 2, 9), (.getfield 249, 2, 7, 0), (.getfield 250, 2, 8, 0)]
theorem lc_RX10_2 : ∀ e ∈ lk_RX10_2, tm_lnc RX10 tm_mt e.1 e.2.1 e.2.2.1 e.2.2.2 := List.forall_mem_cons.mpr ⟨Or.inr (Or.inr ⟨yo_217, (wl9 _ (List.mem_of_getElem? (i := 58) rfl)), (wl9 _ (List.mem_of_getElem? (i := 59) rfl)), (Or.inl (wl9 _ (List.mem_of_getElem? (i := 57) rfl))), _, _, rfl⟩),
  List.forall_mem_cons.mpr ⟨Or.inr (Or.inr ⟨by decide, by decide, yo_114, (wl6 _ (List.mem_of_getElem? (i := 31) rfl)), (Or.inl (wl9 _ (List.mem_of_getElem? (i := 68) rfl)))⟩),
  List.forall_mem_cons.mpr ⟨Or.inr (Or.inr ⟨by decide, by decide, yo_221, (wl9 _ (List.mem_of_getElem? (i := 70) rfl)), (Or.inl (wl9 _ (List.mem_of_getElem? (i := 69) rfl)))⟩),
  List.forall_mem_cons.mpr ⟨⟨_, _, _, rfl, Or.inl (wl1 _ (List.mem_of_getElem? (i := 25) rfl))⟩,
  List.forall_mem_cons.mpr ⟨Or.inr (Or.inr ⟨yo_222, (wl9 _ (List.mem_of_getElem? (i := 72) rfl)), (wl9 _ (List.mem_of_getElem? (i := 73) rfl)), (Or.inl (wl9 _ (List.mem_of_getElem? (i := 71) rfl))), _, _, rfl⟩),
  List.forall_mem_cons.mpr ⟨Or.inr (Or.inr ⟨yo_223, (wl9 _ (List.mem_of_getElem? (i := 75) rfl)), (wl9 _ (List.mem_of_getElem? (i := 76) rfl)), (Or.inl (wl9 _ (List.mem_of_getElem? (i := 74) rfl))), _, _, rfl⟩),
  List.forall_mem_cons.mpr ⟨Or.inr (Or.inr ⟨yo_226, (wl10 _ (List.mem_of_getElem? (i := 0) rfl)), (wl10 _ (List.mem_of_getElem? (i := 1) rfl)), (Or.inl (wl9 _ (List.mem_of_getElem? (i := 79) rfl))), _, _, rfl⟩),
  List.forall_mem_cons.mpr ⟨Or.inr (Or.inr ⟨yo_229, (wl10 _ (List.mem_of_getElem? (i := 4) rfl)), (wl10 _ (List.mem_of_getElem? (i := 5) rfl)), (Or.inl (wl10 _ (List.mem_of_getElem? (i := 3) rfl))), _, _, rfl⟩),
  List.forall_mem_cons.mpr ⟨Or.inr (Or.inr ⟨by decide, by decide, yo_232, (wl10 _ (List.mem_of_getElem? (i := 9) rfl)), (Or.inl (wl10 _ (List.mem_of_getElem? (i := 13) rfl)))⟩),
  List.forall_mem_cons.mpr ⟨Or.inr (Or.inr ⟨yo_233, (wl10 _ (List.mem_of_getElem? (i := 15) rfl)), (wl10 _ (List.mem_of_getElem? (i := 16) rfl)), (Or.inl (wl10 _ (List.mem_of_getElem? (i := 14) rfl))), _, _, rfl⟩),
  List.forall_mem_cons.mpr ⟨Or.inr (Or.inr ⟨yo_235, (wl10 _ (List.mem_of_getElem? (i := 18) rfl)), (wl10 _ (List.mem_of_getElem? (i := 19) rfl)), (Or.inl (wl10 _ (List.mem_of_getElem? (i := 17) rfl))), _, _, rfl⟩),
  List.forall_mem_cons.mpr ⟨Or.inr (Or.inr ⟨yo_241, (wl10 _ (List.mem_of_getElem? (i := 30) rfl)), (wl10 _ (List.mem_of_getElem? (i := 31) rfl)), (Or.inl (wl10 _ (List.mem_of_getElem? (i := 29) rfl))), _, _, rfl⟩),
  List.forall_mem_cons.mpr ⟨Or.inr (Or.inr ⟨yo_244, (wl10 _ (List.mem_of_getElem? (i := 34) rfl)), (wl10 _ (List.mem_of_getElem? (i := 35) rfl)), (Or.inl (wl10 _ (List.mem_of_getElem? (i := 33) rfl))), _, _, rfl⟩),
  List.forall_mem_cons.mpr ⟨Or.inr (Or.inr ⟨yo_247, (wl10 _ (List.mem_of_getElem? (i := 38) rfl)), (wl10 _ (List.mem_of_getElem? (i := 39) rfl)), (Or.inl (wl10 _ (List.mem_of_getElem? (i := 37) rfl))), _, _, rfl⟩),
  List.forall_mem_cons.mpr ⟨⟨_, _, _, rfl, Or.inr ⟨_, (nl1 _ (List.mem_of_getElem? (i := 0) rfl))⟩⟩,
  List.forall_mem_cons.mpr ⟨⟨_, _, _, rfl, Or.inr ⟨_, (nl1 _ (List.mem_of_getElem? (i := 1) rfl))⟩⟩,
  fun _ h => absurd h List.not_mem_nil⟩⟩⟩⟩⟩⟩⟩⟩⟩⟩⟩⟩⟩⟩⟩⟩
def lk_RX10 : tm_LK := lk_RX10_0 ++ (lk_RX10_1 ++ (lk_RX10_2))
theorem lc_RX10 : ∀ e ∈ lk_RX10, tm_lnc RX10 tm_mt e.1 e.2.1 e.2.2.1 e.2.2.2 := List.forall_mem_append.mpr ⟨lc_RX10_0, List.forall_mem_append.mpr ⟨lc_RX10_1, lc_RX10_2⟩⟩
def lk_RX11_0 : tm_LK := [(.invokespecial 1, 9000, 0, 44), (.newarray .byte, 2, 0, 0), (.putfield 7, 11, 0, 2), (.putfield 13, 11, 1, 2), (.putfield 16, 11, 5, 0), (.newarray .long, 4, 0, 0), (.putfield 20, 11, 11, 2), (.newarray .int, 1, 0, 0), (.putfield 24, 11, 12, 2), (.putfield 28, 11, 13, 2), (.putfield 31, 11, 14, 2), (.putfield 34, 11, 15, 2), (.putfield 37, 11, 16, 2), (.putfield 40, 11, 17, 2), (.putfield 43, 11, 18, 2), (.putfield 46, 11, 19, 2), (.newarray .boolean, 3, 0, 0), (.putfield 49, 11, 20, 2), (.putfield 53, 11, 23, 2), (.putfield 56, 11, 24, 2), (.putfield 59, 11, 25, 2), (.putfield 62, 11, 26, 2), (.putfield 65, 11, 27, 2), (.putfield 68, 11, 28, 2), (.putfield 71, 11, 29, 2), (.putfield 74, 11, 34, 0), (.putfield 77, 11, 35, 0), (.putfield 80, 11, 36, 2), (.putfield 83, 11, 37, 2), (.putfield 86, 11, 38, 2), (.putfield 89, 11, 39, 2), (.putfield 92, 11, 40, 2), (.putfield 95, 11, 41, 2), (.putfield 98, 11, 42, 2), (.putfield 101, 11, 43, 2), (.putfield 104, 11, 44, 2), (.putfield 107, 11, 45, 2), (.putfield 110, 11, 46, 2), (.putfield 113, 11, 47, 2), (.putfield 116, 11, 48, 2)]
theorem lc_RX11_0 : ∀ e ∈ lk_RX11_0, tm_lnc RX11 tm_mt e.1 e.2.1 e.2.2.1 e.2.2.2 := List.forall_mem_cons.mpr ⟨Or.inl ⟨rfl, (wl1 _ (List.mem_of_getElem? (i := 39) rfl)), (wl0 _ (List.mem_of_getElem? (i := 16) rfl)), (cwl12 _ (List.mem_of_getElem? (i := 16) rfl))⟩,
  List.forall_mem_cons.mpr ⟨(wl0 _ (List.mem_of_getElem? (i := 17) rfl)),
  List.forall_mem_cons.mpr ⟨⟨_, _, _, rfl, Or.inr (Or.inr ⟨(wl1 _ (List.mem_of_getElem? (i := 40) rfl)), rfl, rfl, rfl⟩)⟩,
  List.forall_mem_cons.mpr ⟨⟨_, _, _, rfl, Or.inr (Or.inr ⟨(wl1 _ (List.mem_of_getElem? (i := 41) rfl)), rfl, rfl, rfl⟩)⟩,
  List.forall_mem_cons.mpr ⟨⟨_, _, _, rfl, Or.inl ⟨(wl1 _ (List.mem_of_getElem? (i := 42) rfl)), rfl⟩⟩,
  List.forall_mem_cons.mpr ⟨(wl0 _ (List.mem_of_getElem? (i := 19) rfl)),
  List.forall_mem_cons.mpr ⟨⟨_, _, _, rfl, Or.inr (Or.inr ⟨(wl1 _ (List.mem_of_getElem? (i := 43) rfl)), rfl, rfl, rfl⟩)⟩,
  List.forall_mem_cons.mpr ⟨(wl0 _ (List.mem_of_getElem? (i := 28) rfl)),
  List.forall_mem_cons.mpr ⟨⟨_, _, _, rfl, Or.inr (Or.inr ⟨(wl1 _ (List.mem_of_getElem? (i := 44) rfl)), rfl, rfl, rfl⟩)⟩,
  List.forall_mem_cons.mpr ⟨⟨_, _, _, rfl, Or.inr (Or.inr ⟨(wl1 _ (List.mem_of_getElem? (i := 45) rfl)), rfl, rfl, rfl⟩)⟩,
  List.forall_mem_cons.mpr ⟨⟨_, _, _, rfl, Or.inr (Or.inr ⟨(wl1 _ (List.mem_of_getElem? (i := 46) rfl)), rfl, rfl, rfl⟩)⟩,
  List.forall_mem_cons.mpr ⟨⟨_, _, _, rfl, Or.inr (Or.inr ⟨(wl1 _ (List.mem_of_getElem? (i := 47) rfl)), rfl, rfl, rfl⟩)⟩,
  List.forall_mem_cons.mpr ⟨⟨_, _, _, rfl, Or.inr (Or.inr ⟨(wl1 _ (List.mem_of_getElem? (i := 48) rfl)), rfl, rfl, rfl⟩)⟩,
  List.forall_mem_cons.mpr ⟨⟨_, _, _, rfl, Or.inr (Or.inr ⟨(wl1 _ (List.mem_of_getElem? (i := 49) rfl)), rfl, rfl, rfl⟩)⟩,
  List.forall_mem_cons.mpr ⟨⟨_, _, _, rfl, Or.inr (Or.inr ⟨(wl1 _ (List.mem_of_getElem? (i := 50) rfl)), rfl, rfl, rfl⟩)⟩,
  List.forall_mem_cons.mpr ⟨⟨_, _, _, rfl, Or.inr (Or.inr ⟨(wl1 _ (List.mem_of_getElem? (i := 51) rfl)), rfl, rfl, rfl⟩)⟩,
  List.forall_mem_cons.mpr ⟨(wl0 _ (List.mem_of_getElem? (i := 44) rfl)),
  List.forall_mem_cons.mpr ⟨⟨_, _, _, rfl, Or.inr (Or.inr ⟨(wl1 _ (List.mem_of_getElem? (i := 52) rfl)), rfl, rfl, rfl⟩)⟩,
  List.forall_mem_cons.mpr ⟨⟨_, _, _, rfl, Or.inr (Or.inr ⟨(wl1 _ (List.mem_of_getElem? (i := 53) rfl)), rfl, rfl, rfl⟩)⟩,
  List.forall_mem_cons.mpr ⟨⟨_, _, _, rfl, Or.inr (Or.inr ⟨(wl1 _ (List.mem_of_getElem? (i := 54) rfl)), rfl, rfl, rfl⟩)⟩,
  List.forall_mem_cons.mpr ⟨⟨_, _, _, rfl, Or.inr (Or.inr ⟨(wl1 _ (List.mem_of_getElem? (i := 55) rfl)), rfl, rfl, rfl⟩)⟩,
  List.forall_mem_cons.mpr ⟨⟨_, _, _, rfl, Or.inr (Or.inr ⟨(wl1 _ (List.mem_of_getElem? (i := 56) rfl)), rfl, rfl, rfl⟩)⟩,
  List.forall_mem_cons.mpr ⟨⟨_, _, _, rfl, Or.inr (Or.inr ⟨(wl1 _ (List.mem_of_getElem? (i := 57) rfl)), rfl, rfl, rfl⟩)⟩,
  List.forall_mem_cons.mpr ⟨⟨_, _, _, rfl, Or.inr (Or.inr ⟨(wl1 _ (List.mem_of_getElem? (i := 58) rfl)), rfl, rfl, rfl⟩)⟩,
  List.forall_mem_cons.mpr ⟨⟨_, _, _, rfl, Or.inr (Or.inr ⟨(wl1 _ (List.mem_of_getElem? (i := 59) rfl)), rfl, rfl, rfl⟩)⟩,
  List.forall_mem_cons.mpr ⟨⟨_, _, _, rfl, Or.inl ⟨(wl1 _ (List.mem_of_getElem? (i := 60) rfl)), rfl⟩⟩,
  List.forall_mem_cons.mpr ⟨⟨_, _, _, rfl, Or.inl ⟨(wl1 _ (List.mem_of_getElem? (i := 61) rfl)), rfl⟩⟩,
  List.forall_mem_cons.mpr ⟨⟨_, _, _, rfl, Or.inr (Or.inr ⟨(wl1 _ (List.mem_of_getElem? (i := 62) rfl)), rfl, rfl, rfl⟩)⟩,
  List.forall_mem_cons.mpr ⟨⟨_, _, _, rfl, Or.inr (Or.inr ⟨(wl1 _ (List.mem_of_getElem? (i := 63) rfl)), rfl, rfl, rfl⟩)⟩,
  List.forall_mem_cons.mpr ⟨⟨_, _, _, rfl, Or.inr (Or.inr ⟨(wl1 _ (List.mem_of_getElem? (i := 64) rfl)), rfl, rfl, rfl⟩)⟩,
  List.forall_mem_cons.mpr ⟨⟨_, _, _, rfl, Or.inr (Or.inr ⟨(wl1 _ (List.mem_of_getElem? (i := 65) rfl)), rfl, rfl, rfl⟩)⟩,
  List.forall_mem_cons.mpr ⟨⟨_, _, _, rfl, Or.inr (Or.inr ⟨(wl1 _ (List.mem_of_getElem? (i := 66) rfl)), rfl, rfl, rfl⟩)⟩,
  List.forall_mem_cons.mpr ⟨⟨_, _, _, rfl, Or.inr (Or.inr ⟨(wl1 _ (List.mem_of_getElem? (i := 67) rfl)), rfl, rfl, rfl⟩)⟩,
  List.forall_mem_cons.mpr ⟨⟨_, _, _, rfl, Or.inr (Or.inr ⟨(wl1 _ (List.mem_of_getElem? (i := 68) rfl)), rfl, rfl, rfl⟩)⟩,
  List.forall_mem_cons.mpr ⟨⟨_, _, _, rfl, Or.inr (Or.inr ⟨(wl1 _ (List.mem_of_getElem? (i := 69) rfl)), rfl, rfl, rfl⟩)⟩,
  List.forall_mem_cons.mpr ⟨⟨_, _, _, rfl, Or.inr (Or.inr ⟨(wl1 _ (List.mem_of_getElem? (i := 70) rfl)), rfl, rfl, rfl⟩)⟩,
  List.forall_mem_cons.mpr ⟨⟨_, _, _, rfl, Or.inr (Or.inr ⟨(wl1 _ (List.mem_of_getElem? (i := 71) rfl)), rfl, rfl, rfl⟩)⟩,
  List.forall_mem_cons.mpr ⟨⟨_, _, _, rfl, Or.inr (Or.inr ⟨(wl1 _ (List.mem_of_getElem? (i := 72) rfl)), rfl, rfl, rfl⟩)⟩,
  List.forall_mem_cons.mpr ⟨⟨_, _, _, rfl, Or.inr (Or.inr ⟨(wl1 _ (List.mem_of_getElem? (i := 73) rfl)), rfl, rfl, rfl⟩)⟩,
  List.forall_mem_cons.mpr ⟨⟨_, _, _, rfl, Or.inr (Or.inr ⟨(wl1 _ (List.mem_of_getElem? (i := 74) rfl)), rfl, rfl, rfl⟩)⟩,
  fun _ h => absurd h List.not_mem_nil⟩⟩⟩⟩⟩⟩⟩⟩⟩⟩⟩⟩⟩⟩⟩⟩⟩⟩⟩⟩⟩⟩⟩⟩⟩⟩⟩⟩⟩⟩⟩⟩⟩⟩⟩⟩⟩⟩⟩⟩
def lk_RX11_1 : tm_LK := [(.putfield 119, 11, 49, 2), (.putfield 122, 11, 50, 2), (.putfield 125, 11, 51, 2), (.putfield 128, 11, 52, 2), (.putfield 131, 11, 53, 2), (.putfield 134, 11, 54, 2), (.putfield 137, 11, 55, 2), (.putfield 140, 11, 56, 2), (.putfield 143, 11, 57, 2), (.putfield 146, 11, 58, 2), (.putfield 149, 11, 67, 2), (.ldc 152, 0, 65536, 0), (.putfield 153, 11, 68, 2), (.putfield 156, 11, 69, 2), (.putfield 159, 11, 73, 2), (.putfield 162, 11, 76, 2), (.putfield 165, 11, 77, 2), (.putfield 168, 11, 78, 2), (.putfield 171, 11, 79, 2), (.putfield 174, 11, 80, 2), (.putfield 177, 11, 81, 2), (.putfield 180, 11, 82, 2), (.putfield 183, 11, 83, 2), (.getfield 289, 11, 2, 0), (.getfield 7, 11, 0, 2), (.putfield 289, 11, 2, 0), (.putfield 189, 11, 4, 0), (.putfield 186, 11, 3, 0), (.getfield 186, 11, 3, 0), (.getfield 13, 11, 1, 2), (.putfield 238, 11, 7, 0), (.ldc2_w 192, 500135715691, 0, 0), (.ldc2_w 194, 512970880104, 0, 0), (.ldc2_w 196, 1717921140, 0, 0), (.ldc2_w 198, 427121668979, 0, 0), (.ldc2_w 200, 29807, 0, 0), (.ldc2_w 202, 7300710, 0, 0), (.ldc2_w 204, 1953854062, 0, 0), (.ldc2_w 206, 1718775661, 0, 0), (.ldc2_w 208, 112568465714791, 0, 0)]
theorem lc_RX11_1 : ∀ e ∈ lk_RX11_1, tm_lnc RX11 tm_mt e.1 e.2.1 e.2.2.1 e.2.2.2 := List.forall_mem_cons.mpr ⟨⟨_, _, _, rfl, Or.inr (Or.inr ⟨(wl1 _ (List.mem_of_getElem? (i := 75) rfl)), rfl, rfl, rfl⟩)⟩,
  List.forall_mem_cons.mpr ⟨⟨_, _, _, rfl, Or.inr (Or.inr ⟨(wl1 _ (List.mem_of_getElem? (i := 76) rfl)), rfl, rfl, rfl⟩)⟩,
  List.forall_mem_cons.mpr ⟨⟨_, _, _, rfl, Or.inr (Or.inr ⟨(wl1 _ (List.mem_of_getElem? (i := 77) rfl)), rfl, rfl, rfl⟩)⟩,
  List.forall_mem_cons.mpr ⟨⟨_, _, _, rfl, Or.inr (Or.inr ⟨(wl1 _ (List.mem_of_getElem? (i := 78) rfl)), rfl, rfl, rfl⟩)⟩,
  List.forall_mem_cons.mpr ⟨⟨_, _, _, rfl, Or.inr (Or.inr ⟨(wl1 _ (List.mem_of_getElem? (i := 79) rfl)), rfl, rfl, rfl⟩)⟩,
  List.forall_mem_cons.mpr ⟨⟨_, _, _, rfl, Or.inr (Or.inr ⟨(wl2 _ (List.mem_of_getElem? (i := 0) rfl)), rfl, rfl, rfl⟩)⟩,
  List.forall_mem_cons.mpr ⟨⟨_, _, _, rfl, Or.inr (Or.inr ⟨(wl2 _ (List.mem_of_getElem? (i := 1) rfl)), rfl, rfl, rfl⟩)⟩,
  List.forall_mem_cons.mpr ⟨⟨_, _, _, rfl, Or.inr (Or.inr ⟨(wl2 _ (List.mem_of_getElem? (i := 2) rfl)), rfl, rfl, rfl⟩)⟩,
  List.forall_mem_cons.mpr ⟨⟨_, _, _, rfl, Or.inr (Or.inr ⟨(wl2 _ (List.mem_of_getElem? (i := 3) rfl)), rfl, rfl, rfl⟩)⟩,
  List.forall_mem_cons.mpr ⟨⟨_, _, _, rfl, Or.inr (Or.inr ⟨(wl2 _ (List.mem_of_getElem? (i := 4) rfl)), rfl, rfl, rfl⟩)⟩,
  List.forall_mem_cons.mpr ⟨⟨_, _, _, rfl, Or.inr (Or.inr ⟨(wl2 _ (List.mem_of_getElem? (i := 5) rfl)), rfl, rfl, rfl⟩)⟩,
  List.forall_mem_cons.mpr ⟨Or.inr (wl2 _ (List.mem_of_getElem? (i := 6) rfl)),
  List.forall_mem_cons.mpr ⟨⟨_, _, _, rfl, Or.inr (Or.inr ⟨(wl2 _ (List.mem_of_getElem? (i := 7) rfl)), rfl, rfl, rfl⟩)⟩,
  List.forall_mem_cons.mpr ⟨⟨_, _, _, rfl, Or.inr (Or.inr ⟨(wl2 _ (List.mem_of_getElem? (i := 8) rfl)), rfl, rfl, rfl⟩)⟩,
  List.forall_mem_cons.mpr ⟨⟨_, _, _, rfl, Or.inr (Or.inr ⟨(wl2 _ (List.mem_of_getElem? (i := 9) rfl)), rfl, rfl, rfl⟩)⟩,
  List.forall_mem_cons.mpr ⟨⟨_, _, _, rfl, Or.inr (Or.inr ⟨(wl2 _ (List.mem_of_getElem? (i := 10) rfl)), rfl, rfl, rfl⟩)⟩,
  List.forall_mem_cons.mpr ⟨⟨_, _, _, rfl, Or.inr (Or.inr ⟨(wl2 _ (List.mem_of_getElem? (i := 11) rfl)), rfl, rfl, rfl⟩)⟩,
  List.forall_mem_cons.mpr ⟨⟨_, _, _, rfl, Or.inr (Or.inr ⟨(wl2 _ (List.mem_of_getElem? (i := 12) rfl)), rfl, rfl, rfl⟩)⟩,
  List.forall_mem_cons.mpr ⟨⟨_, _, _, rfl, Or.inr (Or.inr ⟨(wl2 _ (List.mem_of_getElem? (i := 13) rfl)), rfl, rfl, rfl⟩)⟩,
  List.forall_mem_cons.mpr ⟨⟨_, _, _, rfl, Or.inr (Or.inr ⟨(wl2 _ (List.mem_of_getElem? (i := 14) rfl)), rfl, rfl, rfl⟩)⟩,
  List.forall_mem_cons.mpr ⟨⟨_, _, _, rfl, Or.inr (Or.inr ⟨(wl2 _ (List.mem_of_getElem? (i := 15) rfl)), rfl, rfl, rfl⟩)⟩,
  List.forall_mem_cons.mpr ⟨⟨_, _, _, rfl, Or.inr (Or.inr ⟨(wl2 _ (List.mem_of_getElem? (i := 16) rfl)), rfl, rfl, rfl⟩)⟩,
  List.forall_mem_cons.mpr ⟨⟨_, _, _, rfl, Or.inr (Or.inr ⟨(wl2 _ (List.mem_of_getElem? (i := 17) rfl)), rfl, rfl, rfl⟩)⟩,
  List.forall_mem_cons.mpr ⟨⟨_, _, _, rfl, Or.inl (wl2 _ (List.mem_of_getElem? (i := 22) rfl))⟩,
  List.forall_mem_cons.mpr ⟨⟨_, _, _, rfl, Or.inl (wl1 _ (List.mem_of_getElem? (i := 40) rfl))⟩,
  List.forall_mem_cons.mpr ⟨⟨_, _, _, rfl, Or.inl ⟨(wl2 _ (List.mem_of_getElem? (i := 22) rfl)), rfl⟩⟩,
  List.forall_mem_cons.mpr ⟨⟨_, _, _, rfl, Or.inl ⟨(wl3 _ (List.mem_of_getElem? (i := 63) rfl)), rfl⟩⟩,
  List.forall_mem_cons.mpr ⟨⟨_, _, _, rfl, Or.inl ⟨(wl3 _ (List.mem_of_getElem? (i := 64) rfl)), rfl⟩⟩,
  List.forall_mem_cons.mpr ⟨⟨_, _, _, rfl, Or.inl (wl3 _ (List.mem_of_getElem? (i := 64) rfl))⟩,
  List.forall_mem_cons.mpr ⟨⟨_, _, _, rfl, Or.inl (wl1 _ (List.mem_of_getElem? (i := 41) rfl))⟩,
  List.forall_mem_cons.mpr ⟨⟨_, _, _, rfl, Or.inl ⟨(wl3 _ (List.mem_of_getElem? (i := 65) rfl)), rfl⟩⟩,
  List.forall_mem_cons.mpr ⟨(wl3 _ (List.mem_of_getElem? (i := 66) rfl)),
  List.forall_mem_cons.mpr ⟨(wl3 _ (List.mem_of_getElem? (i := 67) rfl)),
  List.forall_mem_cons.mpr ⟨(wl3 _ (List.mem_of_getElem? (i := 68) rfl)),
  List.forall_mem_cons.mpr ⟨(wl3 _ (List.mem_of_getElem? (i := 69) rfl)),
  List.forall_mem_cons.mpr ⟨(wl3 _ (List.mem_of_getElem? (i := 70) rfl)),
  List.forall_mem_cons.mpr ⟨(wl3 _ (List.mem_of_getElem? (i := 71) rfl)),
  List.forall_mem_cons.mpr ⟨(wl3 _ (List.mem_of_getElem? (i := 72) rfl)),
  List.forall_mem_cons.mpr ⟨(wl3 _ (List.mem_of_getElem? (i := 73) rfl)),
  List.forall_mem_cons.mpr ⟨(wl3 _ (List.mem_of_getElem? (i := 74) rfl)),
  fun _ h => absurd h List.not_mem_nil⟩⟩⟩⟩⟩⟩⟩⟩⟩⟩⟩⟩⟩⟩⟩⟩⟩⟩⟩⟩⟩⟩⟩⟩⟩⟩⟩⟩⟩⟩⟩⟩⟩⟩⟩⟩⟩⟩⟩⟩
def lk_RX11_2 : tm_LK := [(.ldc2_w 210, 418431069797, 0, 0), (.ldc2_w 212, 97, 0, 0), (.ldc2_w 214, 98, 0, 0), (.ldc2_w 216, 108, 0, 0), (.ldc2_w 218, 114, 0, 0), (.ldc2_w 220, 422607680627, 0, 0), (.ldc2_w 222, 24948, 0, 0), (.ldc2_w 224, 26990, 0, 0), (.ldc2_w 226, 7304564, 0, 0), (.ldc2_w 228, 1685022067, 0, 0), (.ldc2_w 230, 7883958458510370148, 0, 0), (.ldc2_w 232, 499850634611, 0, 0), (.ldc2_w 234, 1818584692, 0, 0), (.ldc2_w 236, 491394656372, 0, 0), (.getfield 238, 11, 7, 0), (.putfield 241, 11, 6, 0), (.getfield 241, 11, 6, 0), (.invokevirtual 244, 55, 1, 45), (.putfield 248, 11, 8, 0), (.invokestatic 251, 56, 1, 1), (.putfield 255, 11, 10, 1), (.getfield 255, 11, 10, 1), (.invokestatic 259, 57, 1, 1), (.invokestatic 263, 58, 1, 1), (.putfield 266, 11, 9, 0), (.getfield 266, 11, 9, 0), (.invokestatic 269, 59, 1, 1), (.getfield 189, 11, 4, 0), (.getfield 248, 11, 8, 0), (.invokevirtual 272, 63, 2, 44), (.getfield 24, 11, 12, 2), (.getfield 20, 11, 11, 2), (.invokevirtual 276, 61, 0, 45), (.invokevirtual 280, 60, 0, 44), (.invokevirtual 283, 64, 0, 44), (.invokevirtual 286, 62, 1, 45), (.getfield 31, 11, 14, 2), (.invokevirtual 322, 67, 2, 45), (.getfield 46, 11, 19, 2), (.invokevirtual 333, 69, 1, 45)]
theorem lc_RX11_2 : ∀ e ∈ lk_RX11_2, tm_lnc RX11 tm_mt e.1 e.2.1 e.2.2.1 e.2.2.2 := List.forall_mem_cons.mpr ⟨(wl3 _ (List.mem_of_getElem? (i := 75) rfl)),
  List.forall_mem_cons.mpr ⟨(wl3 _ (List.mem_of_getElem? (i := 76) rfl)),
  List.forall_mem_cons.mpr ⟨(wl3 _ (List.mem_of_getElem? (i := 77) rfl)),
  List.forall_mem_cons.mpr ⟨(wl3 _ (List.mem_of_getElem? (i := 78) rfl)),
  List.forall_mem_cons.mpr ⟨(wl3 _ (List.mem_of_getElem? (i := 79) rfl)),
  List.forall_mem_cons.mpr ⟨(wl4 _ (List.mem_of_getElem? (i := 0) rfl)),
  List.forall_mem_cons.mpr ⟨(wl4 _ (List.mem_of_getElem? (i := 1) rfl)),
  List.forall_mem_cons.mpr ⟨(wl4 _ (List.mem_of_getElem? (i := 2) rfl)),
  List.forall_mem_cons.mpr ⟨(wl4 _ (List.mem_of_getElem? (i := 3) rfl)),
  List.forall_mem_cons.mpr ⟨(wl4 _ (List.mem_of_getElem? (i := 4) rfl)),
  List.forall_mem_cons.mpr ⟨(wl4 _ (List.mem_of_getElem? (i := 5) rfl)),
  List.forall_mem_cons.mpr ⟨(wl4 _ (List.mem_of_getElem? (i := 6) rfl)),
  List.forall_mem_cons.mpr ⟨(wl4 _ (List.mem_of_getElem? (i := 7) rfl)),
  List.forall_mem_cons.mpr ⟨(wl4 _ (List.mem_of_getElem? (i := 8) rfl)),
  List.forall_mem_cons.mpr ⟨⟨_, _, _, rfl, Or.inl (wl3 _ (List.mem_of_getElem? (i := 65) rfl))⟩,
  List.forall_mem_cons.mpr ⟨⟨_, _, _, rfl, Or.inl ⟨(wl4 _ (List.mem_of_getElem? (i := 9) rfl)), rfl⟩⟩,
  List.forall_mem_cons.mpr ⟨⟨_, _, _, rfl, Or.inl (wl4 _ (List.mem_of_getElem? (i := 9) rfl))⟩,
  List.forall_mem_cons.mpr ⟨Or.inr (Or.inr ⟨yo_55, (wl4 _ (List.mem_of_getElem? (i := 11) rfl)), (wl4 _ (List.mem_of_getElem? (i := 12) rfl)), (Or.inl (wl4 _ (List.mem_of_getElem? (i := 10) rfl))), _, _, rfl⟩),
  List.forall_mem_cons.mpr ⟨⟨_, _, _, rfl, Or.inl ⟨(wl4 _ (List.mem_of_getElem? (i := 13) rfl)), rfl⟩⟩,
  List.forall_mem_cons.mpr ⟨Or.inr (Or.inr ⟨by decide, by decide, yo_56, (wl4 _ (List.mem_of_getElem? (i := 15) rfl)), (Or.inl (wl4 _ (List.mem_of_getElem? (i := 14) rfl)))⟩),
  List.forall_mem_cons.mpr ⟨⟨_, _, _, rfl, Or.inl ⟨(wl4 _ (List.mem_of_getElem? (i := 16) rfl)), rfl⟩⟩,
  List.forall_mem_cons.mpr ⟨⟨_, _, _, rfl, Or.inl (wl4 _ (List.mem_of_getElem? (i := 16) rfl))⟩,
  List.forall_mem_cons.mpr ⟨Or.inr (Or.inr ⟨by decide, by decide, yo_57, (wl4 _ (List.mem_of_getElem? (i := 18) rfl)), (Or.inl (wl4 _ (List.mem_of_getElem? (i := 17) rfl)))⟩),
  List.forall_mem_cons.mpr ⟨Or.inr (Or.inr ⟨by decide, by decide, yo_58, (wl4 _ (List.mem_of_getElem? (i := 20) rfl)), (Or.inl (wl4 _ (List.mem_of_getElem? (i := 19) rfl)))⟩),
  List.forall_mem_cons.mpr ⟨⟨_, _, _, rfl, Or.inl ⟨(wl4 _ (List.mem_of_getElem? (i := 21) rfl)), rfl⟩⟩,
  List.forall_mem_cons.mpr ⟨⟨_, _, _, rfl, Or.inl (wl4 _ (List.mem_of_getElem? (i := 21) rfl))⟩,
  List.forall_mem_cons.mpr ⟨Or.inr (Or.inr ⟨by decide, by decide, yo_59, (wl4 _ (List.mem_of_getElem? (i := 23) rfl)), (Or.inl (wl4 _ (List.mem_of_getElem? (i := 22) rfl)))⟩),
  List.forall_mem_cons.mpr ⟨⟨_, _, _, rfl, Or.inl (wl3 _ (List.mem_of_getElem? (i := 63) rfl))⟩,
  List.forall_mem_cons.mpr ⟨⟨_, _, _, rfl, Or.inl (wl4 _ (List.mem_of_getElem? (i := 13) rfl))⟩,
  List.forall_mem_cons.mpr ⟨Or.inr (Or.inr ⟨yo_63, (wl4 _ (List.mem_of_getElem? (i := 25) rfl)), (wl4 _ (List.mem_of_getElem? (i := 26) rfl)), (Or.inl (wl4 _ (List.mem_of_getElem? (i := 24) rfl))), _, _, rfl⟩),
  List.forall_mem_cons.mpr ⟨⟨_, _, _, rfl, Or.inl (wl1 _ (List.mem_of_getElem? (i := 44) rfl))⟩,
  List.forall_mem_cons.mpr ⟨⟨_, _, _, rfl, Or.inl (wl1 _ (List.mem_of_getElem? (i := 43) rfl))⟩,
  List.forall_mem_cons.mpr ⟨Or.inr (Or.inr ⟨yo_61, (wl4 _ (List.mem_of_getElem? (i := 28) rfl)), (wl4 _ (List.mem_of_getElem? (i := 29) rfl)), (Or.inl (wl4 _ (List.mem_of_getElem? (i := 27) rfl))), _, _, rfl⟩),
  List.forall_mem_cons.mpr ⟨Or.inr (Or.inr ⟨yo_60, (wl4 _ (List.mem_of_getElem? (i := 31) rfl)), (wl4 _ (List.mem_of_getElem? (i := 32) rfl)), (Or.inl (wl4 _ (List.mem_of_getElem? (i := 30) rfl))), _, _, rfl⟩),
  List.forall_mem_cons.mpr ⟨Or.inr (Or.inr ⟨yo_64, (wl4 _ (List.mem_of_getElem? (i := 34) rfl)), (wl4 _ (List.mem_of_getElem? (i := 35) rfl)), (Or.inl (wl4 _ (List.mem_of_getElem? (i := 33) rfl))), _, _, rfl⟩),
  List.forall_mem_cons.mpr ⟨Or.inr (Or.inr ⟨yo_62, (wl4 _ (List.mem_of_getElem? (i := 37) rfl)), (wl4 _ (List.mem_of_getElem? (i := 38) rfl)), (Or.inl (wl4 _ (List.mem_of_getElem? (i := 36) rfl))), _, _, rfl⟩),
  List.forall_mem_cons.mpr ⟨⟨_, _, _, rfl, Or.inl (wl1 _ (List.mem_of_getElem? (i := 46) rfl))⟩,
  List.forall_mem_cons.mpr ⟨Or.inr (Or.inr ⟨yo_67, (wl4 _ (List.mem_of_getElem? (i := 40) rfl)), (wl4 _ (List.mem_of_getElem? (i := 41) rfl)), (Or.inl (wl4 _ (List.mem_of_getElem? (i := 39) rfl))), _, _, rfl⟩),
  List.forall_mem_cons.mpr ⟨⟨_, _, _, rfl, Or.inl (wl1 _ (List.mem_of_getElem? (i := 51) rfl))⟩,
  List.forall_mem_cons.mpr ⟨Or.inr (Or.inr ⟨yo_69, (wl4 _ (List.mem_of_getElem? (i := 43) rfl)), (wl4 _ (List.mem_of_getElem? (i := 44) rfl)), (Or.inl (wl4 _ (List.mem_of_getElem? (i := 42) rfl))), _, _, rfl⟩),
  fun _ h => absurd h List.not_mem_nil⟩⟩⟩⟩⟩⟩⟩⟩⟩⟩⟩⟩⟩⟩⟩⟩⟩⟩⟩⟩⟩⟩⟩⟩⟩⟩⟩⟩⟩⟩⟩⟩⟩⟩⟩⟩⟩⟩⟩⟩
def lk_RX11_3 : tm_LK := [(.getfield 37, 11, 16, 2), (.getfield 40, 11, 17, 2), (.getfield 49, 11, 20, 2), (.invokevirtual 336, 70, 2, 44), (.invokevirtual 318, 66, 1, 44), (.getfield 34, 11, 15, 2), (.getfield 298, 11, 22, 0), (.invokevirtual 314, 65, 2, 45), (.getfield 28, 11, 13, 2), (.invokevirtual 326, 68, 1, 45), (.getfield 43, 11, 18, 2), (.invokevirtual 329, 71, 1, 44), (.invokevirtual 292, 54, 0, 44), (.getfield 295, 11, 21, 0), (.putfield 298, 11, 22, 0), (.invokevirtual 301, 72, 0, 44), (.putfield 295, 11, 21, 0), (.putfield 304, 11, 72, 3), (.putfield 308, 11, 32, 3), (.putfield 311, 11, 33, 3), (.getfield 53, 11, 23, 2), (.getfield 375, 11, 31, 0), (.getfield 59, 11, 25, 2), (.getfield 56, 11, 24, 2), (.getfield 62, 11, 26, 2), (.getfield 65, 11, 27, 2), (.getfield 71, 11, 29, 2), (.getfield 68, 11, 28, 2), (.getfield 372, 11, 30, 0), (.putfield 375, 11, 31, 0), (.invokevirtual 378, 80, 0, 44), (.putfield 372, 11, 30, 0), (.getfield 16, 11, 5, 0), (.invokestatic 339, 96, 1, 1), (.invokevirtual 342, 94, 1, 45), (.invokevirtual 345, 98, 3, 45), (.invokevirtual 349, 93, 1, 45), (.invokevirtual 352, 95, 2, 45), (.invokevirtual 356, 97, 2, 45), (.invokevirtual 359, 99, 2, 45)]
theorem lc_RX11_3 : ∀ e ∈ lk_RX11_3, tm_lnc RX11 tm_mt e.1 e.2.1 e.2.2.1 e.2.2.2 := List.forall_mem_cons.mpr ⟨⟨_, _, _, rfl, Or.inl (wl1 _ (List.mem_of_getElem? (i := 48) rfl))⟩,
  List.forall_mem_cons.mpr ⟨⟨_, _, _, rfl, Or.inl (wl1 _ (List.mem_of_getElem? (i := 49) rfl))⟩,
  List.forall_mem_cons.mpr ⟨⟨_, _, _, rfl, Or.inl (wl1 _ (List.mem_of_getElem? (i := 52) rfl))⟩,
  List.forall_mem_cons.mpr ⟨Or.inr (Or.inr ⟨yo_70, (wl4 _ (List.mem_of_getElem? (i := 46) rfl)), (wl4 _ (List.mem_of_getElem? (i := 47) rfl)), (Or.inl (wl4 _ (List.mem_of_getElem? (i := 45) rfl))), _, _, rfl⟩),
  List.forall_mem_cons.mpr ⟨Or.inr (Or.inr ⟨yo_66, (wl4 _ (List.mem_of_getElem? (i := 49) rfl)), (wl4 _ (List.mem_of_getElem? (i := 50) rfl)), (Or.inl (wl4 _ (List.mem_of_getElem? (i := 48) rfl))), _, _, rfl⟩),
  List.forall_mem_cons.mpr ⟨⟨_, _, _, rfl, Or.inl (wl1 _ (List.mem_of_getElem? (i := 47) rfl))⟩,
  List.forall_mem_cons.mpr ⟨⟨_, _, _, rfl, Or.inl (wl4 _ (List.mem_of_getElem? (i := 51) rfl))⟩,
  List.forall_mem_cons.mpr ⟨Or.inr (Or.inr ⟨yo_65, (wl4 _ (List.mem_of_getElem? (i := 53) rfl)), (wl4 _ (List.mem_of_getElem? (i := 54) rfl)), (Or.inl (wl4 _ (List.mem_of_getElem? (i := 52) rfl))), _, _, rfl⟩),
  List.forall_mem_cons.mpr ⟨⟨_, _, _, rfl, Or.inl (wl1 _ (List.mem_of_getElem? (i := 45) rfl))⟩,
  List.forall_mem_cons.mpr ⟨Or.inr (Or.inr ⟨yo_68, (wl4 _ (List.mem_of_getElem? (i := 56) rfl)), (wl4 _ (List.mem_of_getElem? (i := 57) rfl)), (Or.inl (wl4 _ (List.mem_of_getElem? (i := 55) rfl))), _, _, rfl⟩),
  List.forall_mem_cons.mpr ⟨⟨_, _, _, rfl, Or.inl (wl1 _ (List.mem_of_getElem? (i := 50) rfl))⟩,
  List.forall_mem_cons.mpr ⟨Or.inr (Or.inr ⟨yo_71, (wl4 _ (List.mem_of_getElem? (i := 59) rfl)), (wl4 _ (List.mem_of_getElem? (i := 60) rfl)), (Or.inl (wl4 _ (List.mem_of_getElem? (i := 58) rfl))), _, _, rfl⟩),
  List.forall_mem_cons.mpr ⟨Or.inr (Or.inr ⟨yo_54, (wl4 _ (List.mem_of_getElem? (i := 62) rfl)), (wl4 _ (List.mem_of_getElem? (i := 63) rfl)), (Or.inl (wl4 _ (List.mem_of_getElem? (i := 61) rfl))), _, _, rfl⟩),
  List.forall_mem_cons.mpr ⟨⟨_, _, _, rfl, Or.inl (wl4 _ (List.mem_of_getElem? (i := 64) rfl))⟩,
  List.forall_mem_cons.mpr ⟨⟨_, _, _, rfl, Or.inl ⟨(wl4 _ (List.mem_of_getElem? (i := 51) rfl)), rfl⟩⟩,
  List.forall_mem_cons.mpr ⟨Or.inr (Or.inr ⟨yo_72, (wl4 _ (List.mem_of_getElem? (i := 66) rfl)), (wl4 _ (List.mem_of_getElem? (i := 67) rfl)), (Or.inl (wl4 _ (List.mem_of_getElem? (i := 65) rfl))), _, _, rfl⟩),
  List.forall_mem_cons.mpr ⟨⟨_, _, _, rfl, Or.inl ⟨(wl4 _ (List.mem_of_getElem? (i := 64) rfl)), rfl⟩⟩,
  List.forall_mem_cons.mpr ⟨⟨_, _, _, rfl, Or.inl ⟨(wl4 _ (List.mem_of_getElem? (i := 68) rfl)), rfl⟩⟩,
  List.forall_mem_cons.mpr ⟨⟨_, _, _, rfl, Or.inl ⟨(wl4 _ (List.mem_of_getElem? (i := 69) rfl)), rfl⟩⟩,
  List.forall_mem_cons.mpr ⟨⟨_, _, _, rfl, Or.inl ⟨(wl4 _ (List.mem_of_getElem? (i := 70) rfl)), rfl⟩⟩,
  List.forall_mem_cons.mpr ⟨⟨_, _, _, rfl, Or.inl (wl1 _ (List.mem_of_getElem? (i := 53) rfl))⟩,
  List.forall_mem_cons.mpr ⟨⟨_, _, _, rfl, Or.inl (wl5 _ (List.mem_of_getElem? (i := 13) rfl))⟩,
  List.forall_mem_cons.mpr ⟨⟨_, _, _, rfl, Or.inl (wl1 _ (List.mem_of_getElem? (i := 55) rfl))⟩,
  List.forall_mem_cons.mpr ⟨⟨_, _, _, rfl, Or.inl (wl1 _ (List.mem_of_getElem? (i := 54) rfl))⟩,
  List.forall_mem_cons.mpr ⟨⟨_, _, _, rfl, Or.inl (wl1 _ (List.mem_of_getElem? (i := 56) rfl))⟩,
  List.forall_mem_cons.mpr ⟨⟨_, _, _, rfl, Or.inl (wl1 _ (List.mem_of_getElem? (i := 57) rfl))⟩,
  List.forall_mem_cons.mpr ⟨⟨_, _, _, rfl, Or.inl (wl1 _ (List.mem_of_getElem? (i := 59) rfl))⟩,
  List.forall_mem_cons.mpr ⟨⟨_, _, _, rfl, Or.inl (wl1 _ (List.mem_of_getElem? (i := 58) rfl))⟩,
  List.forall_mem_cons.mpr ⟨⟨_, _, _, rfl, Or.inl (wl5 _ (List.mem_of_getElem? (i := 14) rfl))⟩,
  List.forall_mem_cons.mpr ⟨⟨_, _, _, rfl, Or.inl ⟨(wl5 _ (List.mem_of_getElem? (i := 13) rfl)), rfl⟩⟩,
  List.forall_mem_cons.mpr ⟨Or.inr (Or.inr ⟨yo_80, (wl5 _ (List.mem_of_getElem? (i := 16) rfl)), (wl5 _ (List.mem_of_getElem? (i := 17) rfl)), (Or.inl (wl5 _ (List.mem_of_getElem? (i := 15) rfl))), _, _, rfl⟩),
  List.forall_mem_cons.mpr ⟨⟨_, _, _, rfl, Or.inl ⟨(wl5 _ (List.mem_of_getElem? (i := 14) rfl)), rfl⟩⟩,
  List.forall_mem_cons.mpr ⟨⟨_, _, _, rfl, Or.inl (wl1 _ (List.mem_of_getElem? (i := 42) rfl))⟩,
  List.forall_mem_cons.mpr ⟨Or.inr (Or.inr ⟨by decide, by decide, yo_96, (wl5 _ (List.mem_of_getElem? (i := 41) rfl)), (Or.inl (wl5 _ (List.mem_of_getElem? (i := 40) rfl)))⟩),
  List.forall_mem_cons.mpr ⟨Or.inr (Or.inr ⟨yo_94, (wl5 _ (List.mem_of_getElem? (i := 43) rfl)), (wl5 _ (List.mem_of_getElem? (i := 44) rfl)), (Or.inl (wl5 _ (List.mem_of_getElem? (i := 42) rfl))), _, _, rfl⟩),
  List.forall_mem_cons.mpr ⟨Or.inr (Or.inr ⟨yo_98, (wl5 _ (List.mem_of_getElem? (i := 46) rfl)), (wl5 _ (List.mem_of_getElem? (i := 47) rfl)), (Or.inl (wl5 _ (List.mem_of_getElem? (i := 45) rfl))), _, _, rfl⟩),
  List.forall_mem_cons.mpr ⟨Or.inr (Or.inr ⟨yo_93, (wl5 _ (List.mem_of_getElem? (i := 49) rfl)), (wl5 _ (List.mem_of_getElem? (i := 50) rfl)), (Or.inl (wl5 _ (List.mem_of_getElem? (i := 48) rfl))), _, _, rfl⟩),
  List.forall_mem_cons.mpr ⟨Or.inr (Or.inr ⟨yo_95, (wl5 _ (List.mem_of_getElem? (i := 52) rfl)), (wl5 _ (List.mem_of_getElem? (i := 53) rfl)), (Or.inl (wl5 _ (List.mem_of_getElem? (i := 51) rfl))), _, _, rfl⟩),
  List.forall_mem_cons.mpr ⟨Or.inr (Or.inr ⟨yo_97, (wl5 _ (List.mem_of_getElem? (i := 55) rfl)), (wl5 _ (List.mem_of_getElem? (i := 56) rfl)), (Or.inl (wl5 _ (List.mem_of_getElem? (i := 54) rfl))), _, _, rfl⟩),
  List.forall_mem_cons.mpr ⟨Or.inr (Or.inr ⟨yo_99, (wl5 _ (List.mem_of_getElem? (i := 58) rfl)), (wl5 _ (List.mem_of_getElem? (i := 59) rfl)), (Or.inl (wl5 _ (List.mem_of_getElem? (i := 57) rfl))), _, _, rfl⟩),
  fun _ h => absurd h List.not_mem_nil⟩⟩⟩⟩⟩⟩⟩⟩⟩⟩⟩⟩⟩⟩⟩⟩⟩⟩⟩⟩⟩⟩⟩⟩⟩⟩⟩⟩⟩⟩⟩⟩⟩⟩⟩⟩⟩⟩⟩⟩
def lk_RX11_4 : tm_LK := [(.invokevirtual 362, 100, 2, 45), (.invokestatic 365, 105, 2, 1), (.invokevirtual 369, 106, 1, 45), (.getfield 80, 11, 36, 2), (.getfield 83, 11, 37, 2), (.getfield 86, 11, 38, 2), (.getfield 89, 11, 39, 2), (.getfield 149, 11, 67, 2), (.getfield 101, 11, 43, 2), (.getfield 119, 11, 49, 2), (.getfield 98, 11, 42, 2), (.putfield 381, 11, 60, 0), (.putfield 412, 11, 61, 0), (.putfield 409, 11, 62, 0), (.putfield 415, 11, 63, 0), (.putfield 403, 11, 66, 0), (.putfield 391, 11, 65, 0), (.invokevirtual 387, 147, 0, 45), (.getfield 391, 11, 65, 0), (.invokevirtual 394, 148, 0, 45), (.getfield 381, 11, 60, 0), (.getfield 122, 11, 50, 2), (.getfield 384, 11, 59, 0), (.getfield 125, 11, 51, 2), (.getfield 128, 11, 52, 2), (.getfield 143, 11, 57, 2), (.getfield 92, 11, 40, 2), (.getfield 95, 11, 41, 2), (.getfield 104, 11, 44, 2), (.getfield 415, 11, 63, 0), (.getfield 403, 11, 66, 0), (.invokevirtual 397, 153, 1, 45), (.invokevirtual 400, 150, 2, 44), (.getfield 74, 11, 34, 0), (.getfield 409, 11, 62, 0), (.getfield 412, 11, 61, 0), (.getfield 131, 11, 53, 2), (.getfield 134, 11, 54, 2), (.getfield 137, 11, 55, 2), (.getfield 146, 11, 58, 2)]
theorem lc_RX11_4 : ∀ e ∈ lk_RX11_4, tm_lnc RX11 tm_mt e.1 e.2.1 e.2.2.1 e.2.2.2 := List.forall_mem_cons.mpr ⟨Or.inr (Or.inr ⟨yo_100, (wl5 _ (List.mem_of_getElem? (i := 61) rfl)), (wl5 _ (List.mem_of_getElem? (i := 62) rfl)), (Or.inl (wl5 _ (List.mem_of_getElem? (i := 60) rfl))), _, _, rfl⟩),
  List.forall_mem_cons.mpr ⟨Or.inr (Or.inr ⟨by decide, by decide, yo_105, (wl5 _ (List.mem_of_getElem? (i := 68) rfl)), (Or.inl (wl5 _ (List.mem_of_getElem? (i := 67) rfl)))⟩),
  List.forall_mem_cons.mpr ⟨Or.inr (Or.inr ⟨yo_106, (wl5 _ (List.mem_of_getElem? (i := 70) rfl)), (wl5 _ (List.mem_of_getElem? (i := 71) rfl)), (Or.inl (wl5 _ (List.mem_of_getElem? (i := 69) rfl))), _, _, rfl⟩),
  List.forall_mem_cons.mpr ⟨⟨_, _, _, rfl, Or.inl (wl1 _ (List.mem_of_getElem? (i := 62) rfl))⟩,
  List.forall_mem_cons.mpr ⟨⟨_, _, _, rfl, Or.inl (wl1 _ (List.mem_of_getElem? (i := 63) rfl))⟩,
  List.forall_mem_cons.mpr ⟨⟨_, _, _, rfl, Or.inl (wl1 _ (List.mem_of_getElem? (i := 64) rfl))⟩,
  List.forall_mem_cons.mpr ⟨⟨_, _, _, rfl, Or.inl (wl1 _ (List.mem_of_getElem? (i := 65) rfl))⟩,
  List.forall_mem_cons.mpr ⟨⟨_, _, _, rfl, Or.inl (wl2 _ (List.mem_of_getElem? (i := 5) rfl))⟩,
  List.forall_mem_cons.mpr ⟨⟨_, _, _, rfl, Or.inl (wl1 _ (List.mem_of_getElem? (i := 69) rfl))⟩,
  List.forall_mem_cons.mpr ⟨⟨_, _, _, rfl, Or.inl (wl1 _ (List.mem_of_getElem? (i := 75) rfl))⟩,
  List.forall_mem_cons.mpr ⟨⟨_, _, _, rfl, Or.inl (wl1 _ (List.mem_of_getElem? (i := 68) rfl))⟩,
  List.forall_mem_cons.mpr ⟨⟨_, _, _, rfl, Or.inl ⟨(wl7 _ (List.mem_of_getElem? (i := 35) rfl)), rfl⟩⟩,
  List.forall_mem_cons.mpr ⟨⟨_, _, _, rfl, Or.inl ⟨(wl7 _ (List.mem_of_getElem? (i := 36) rfl)), rfl⟩⟩,
  List.forall_mem_cons.mpr ⟨⟨_, _, _, rfl, Or.inl ⟨(wl7 _ (List.mem_of_getElem? (i := 37) rfl)), rfl⟩⟩,
  List.forall_mem_cons.mpr ⟨⟨_, _, _, rfl, Or.inl ⟨(wl7 _ (List.mem_of_getElem? (i := 38) rfl)), rfl⟩⟩,
  List.forall_mem_cons.mpr ⟨⟨_, _, _, rfl, Or.inl ⟨(wl7 _ (List.mem_of_getElem? (i := 39) rfl)), rfl⟩⟩,
  List.forall_mem_cons.mpr ⟨⟨_, _, _, rfl, Or.inl ⟨(wl7 _ (List.mem_of_getElem? (i := 40) rfl)), rfl⟩⟩,
  List.forall_mem_cons.mpr ⟨Or.inr (Or.inr ⟨yo_147, (wl7 _ (List.mem_of_getElem? (i := 42) rfl)), (wl7 _ (List.mem_of_getElem? (i := 43) rfl)), (Or.inl (wl7 _ (List.mem_of_getElem? (i := 41) rfl))), _, _, rfl⟩),
  List.forall_mem_cons.mpr ⟨⟨_, _, _, rfl, Or.inl (wl7 _ (List.mem_of_getElem? (i := 40) rfl))⟩,
  List.forall_mem_cons.mpr ⟨Or.inr (Or.inr ⟨yo_148, (wl7 _ (List.mem_of_getElem? (i := 45) rfl)), (wl7 _ (List.mem_of_getElem? (i := 46) rfl)), (Or.inl (wl7 _ (List.mem_of_getElem? (i := 44) rfl))), _, _, rfl⟩),
  List.forall_mem_cons.mpr ⟨⟨_, _, _, rfl, Or.inl (wl7 _ (List.mem_of_getElem? (i := 35) rfl))⟩,
  List.forall_mem_cons.mpr ⟨⟨_, _, _, rfl, Or.inl (wl1 _ (List.mem_of_getElem? (i := 76) rfl))⟩,
  List.forall_mem_cons.mpr ⟨⟨_, _, _, rfl, Or.inl (wl7 _ (List.mem_of_getElem? (i := 47) rfl))⟩,
  List.forall_mem_cons.mpr ⟨⟨_, _, _, rfl, Or.inl (wl1 _ (List.mem_of_getElem? (i := 77) rfl))⟩,
  List.forall_mem_cons.mpr ⟨⟨_, _, _, rfl, Or.inl (wl1 _ (List.mem_of_getElem? (i := 78) rfl))⟩,
  List.forall_mem_cons.mpr ⟨⟨_, _, _, rfl, Or.inl (wl2 _ (List.mem_of_getElem? (i := 3) rfl))⟩,
  List.forall_mem_cons.mpr ⟨⟨_, _, _, rfl, Or.inl (wl1 _ (List.mem_of_getElem? (i := 66) rfl))⟩,
  List.forall_mem_cons.mpr ⟨⟨_, _, _, rfl, Or.inl (wl1 _ (List.mem_of_getElem? (i := 67) rfl))⟩,
  List.forall_mem_cons.mpr ⟨⟨_, _, _, rfl, Or.inl (wl1 _ (List.mem_of_getElem? (i := 70) rfl))⟩,
  List.forall_mem_cons.mpr ⟨⟨_, _, _, rfl, Or.inl (wl7 _ (List.mem_of_getElem? (i := 38) rfl))⟩,
  List.forall_mem_cons.mpr ⟨⟨_, _, _, rfl, Or.inl (wl7 _ (List.mem_of_getElem? (i := 39) rfl))⟩,
  List.forall_mem_cons.mpr ⟨Or.inr (Or.inr ⟨yo_153, (wl7 _ (List.mem_of_getElem? (i := 49) rfl)), (wl7 _ (List.mem_of_getElem? (i := 50) rfl)), (Or.inl (wl7 _ (List.mem_of_getElem? (i := 48) rfl))), _, _, rfl⟩),
  List.forall_mem_cons.mpr ⟨Or.inr (Or.inr ⟨yo_150, (wl7 _ (List.mem_of_getElem? (i := 52) rfl)), (wl7 _ (List.mem_of_getElem? (i := 53) rfl)), (Or.inl (wl7 _ (List.mem_of_getElem? (i := 51) rfl))), _, _, rfl⟩),
  List.forall_mem_cons.mpr ⟨⟨_, _, _, rfl, Or.inl (wl1 _ (List.mem_of_getElem? (i := 60) rfl))⟩,
  List.forall_mem_cons.mpr ⟨⟨_, _, _, rfl, Or.inl (wl7 _ (List.mem_of_getElem? (i := 37) rfl))⟩,
  List.forall_mem_cons.mpr ⟨⟨_, _, _, rfl, Or.inl (wl7 _ (List.mem_of_getElem? (i := 36) rfl))⟩,
  List.forall_mem_cons.mpr ⟨⟨_, _, _, rfl, Or.inl (wl1 _ (List.mem_of_getElem? (i := 79) rfl))⟩,
  List.forall_mem_cons.mpr ⟨⟨_, _, _, rfl, Or.inl (wl2 _ (List.mem_of_getElem? (i := 0) rfl))⟩,
  List.forall_mem_cons.mpr ⟨⟨_, _, _, rfl, Or.inl (wl2 _ (List.mem_of_getElem? (i := 1) rfl))⟩,
  List.forall_mem_cons.mpr ⟨⟨_, _, _, rfl, Or.inl (wl2 _ (List.mem_of_getElem? (i := 4) rfl))⟩,
  fun _ h => absurd h List.not_mem_nil⟩⟩⟩⟩⟩⟩⟩⟩⟩⟩⟩⟩⟩⟩⟩⟩⟩⟩⟩⟩⟩⟩⟩⟩⟩⟩⟩⟩⟩⟩⟩⟩⟩⟩⟩⟩⟩⟩⟩⟩
def lk_RX11_5 : tm_LK := [(.getfield 140, 11, 56, 2), (.invokevirtual 406, 159, 1, 44), (.invokevirtual 440, 154, 0, 45), (.invokevirtual 443, 155, 0, 44), (.invokevirtual 446, 156, 0, 45), (.invokevirtual 449, 157, 0, 45), (.invokevirtual 452, 158, 0, 44), (.invokevirtual 455, 160, 0, 44), (.invokevirtual 458, 161, 0, 44), (.getfield 107, 11, 45, 2), (.getfield 110, 11, 46, 2), (.getfield 113, 11, 47, 2), (.getfield 116, 11, 48, 2), (.getfield 308, 11, 32, 0), (.ldc_w 418, 100000, 0, 0), (.invokevirtual 419, 146, 0, 44), (.putfield 422, 11, 64, 0), (.putfield 384, 11, 59, 0), (.getfield 422, 11, 64, 0), (.invokevirtual 425, 149, 1, 45), (.invokevirtual 428, 151, 1, 44), (.invokevirtual 431, 152, 0, 44), (.invokevirtual 434, 162, 0, 44), (.invokevirtual 437, 163, 0, 44), (.getfield 77, 11, 35, 0), (.getfield 311, 11, 33, 0), (.invokevirtual 461, 176, 1, 45), (.invokestatic 464, 180, 1, 1), (.invokevirtual 467, 198, 4, 45), (.getfield 153, 11, 68, 2), (.invokevirtual 471, 199, 3, 45), (.invokestatic 474, 200, 3, 1), (.getfield 304, 11, 72, 0), (.invokevirtual 478, 201, 5, 45), (.invokevirtual 482, 202, 0, 44), (.invokevirtual 485, 203, 2, 45), (.putfield 488, 11, 71, 0), (.putfield 491, 11, 70, 0), (.getfield 156, 11, 69, 2), (.getfield 491, 11, 70, 0)]
theorem lc_RX11_5 : ∀ e ∈ lk_RX11_5, tm_lnc RX11 tm_mt e.1 e.2.1 e.2.2.1 e.2.2.2 := List.forall_mem_cons.mpr ⟨⟨_, _, _, rfl, Or.inl (wl2 _ (List.mem_of_getElem? (i := 2) rfl))⟩,
  List.forall_mem_cons.mpr ⟨Or.inr (Or.inr ⟨yo_159, (wl7 _ (List.mem_of_getElem? (i := 55) rfl)), (wl7 _ (List.mem_of_getElem? (i := 56) rfl)), (Or.inl (wl7 _ (List.mem_of_getElem? (i := 54) rfl))), _, _, rfl⟩),
  List.forall_mem_cons.mpr ⟨Or.inr (Or.inr ⟨yo_154, (wl7 _ (List.mem_of_getElem? (i := 58) rfl)), (wl7 _ (List.mem_of_getElem? (i := 59) rfl)), (Or.inl (wl7 _ (List.mem_of_getElem? (i := 57) rfl))), _, _, rfl⟩),
  List.forall_mem_cons.mpr ⟨Or.inr (Or.inr ⟨yo_155, (wl7 _ (List.mem_of_getElem? (i := 61) rfl)), (wl7 _ (List.mem_of_getElem? (i := 62) rfl)), (Or.inl (wl7 _ (List.mem_of_getElem? (i := 60) rfl))), _, _, rfl⟩),
  List.forall_mem_cons.mpr ⟨Or.inr (Or.inr ⟨yo_156, (wl7 _ (List.mem_of_getElem? (i := 64) rfl)), (wl7 _ (List.mem_of_getElem? (i := 65) rfl)), (Or.inl (wl7 _ (List.mem_of_getElem? (i := 63) rfl))), _, _, rfl⟩),
  List.forall_mem_cons.mpr ⟨Or.inr (Or.inr ⟨yo_157, (wl7 _ (List.mem_of_getElem? (i := 67) rfl)), (wl7 _ (List.mem_of_getElem? (i := 68) rfl)), (Or.inl (wl7 _ (List.mem_of_getElem? (i := 66) rfl))), _, _, rfl⟩),
  List.forall_mem_cons.mpr ⟨Or.inr (Or.inr ⟨yo_158, (wl7 _ (List.mem_of_getElem? (i := 70) rfl)), (wl7 _ (List.mem_of_getElem? (i := 71) rfl)), (Or.inl (wl7 _ (List.mem_of_getElem? (i := 69) rfl))), _, _, rfl⟩),
  List.forall_mem_cons.mpr ⟨Or.inr (Or.inr ⟨yo_160, (wl7 _ (List.mem_of_getElem? (i := 73) rfl)), (wl7 _ (List.mem_of_getElem? (i := 74) rfl)), (Or.inl (wl7 _ (List.mem_of_getElem? (i := 72) rfl))), _, _, rfl⟩),
  List.forall_mem_cons.mpr ⟨Or.inr (Or.inr ⟨yo_161, (wl7 _ (List.mem_of_getElem? (i := 76) rfl)), (wl7 _ (List.mem_of_getElem? (i := 77) rfl)), (Or.inl (wl7 _ (List.mem_of_getElem? (i := 75) rfl))), _, _, rfl⟩),
  List.forall_mem_cons.mpr ⟨⟨_, _, _, rfl, Or.inl (wl1 _ (List.mem_of_getElem? (i := 71) rfl))⟩,
  List.forall_mem_cons.mpr ⟨⟨_, _, _, rfl, Or.inl (wl1 _ (List.mem_of_getElem? (i := 72) rfl))⟩,
  List.forall_mem_cons.mpr ⟨⟨_, _, _, rfl, Or.inl (wl1 _ (List.mem_of_getElem? (i := 73) rfl))⟩,
  List.forall_mem_cons.mpr ⟨⟨_, _, _, rfl, Or.inl (wl1 _ (List.mem_of_getElem? (i := 74) rfl))⟩,
  List.forall_mem_cons.mpr ⟨⟨_, _, _, rfl, Or.inl (wl4 _ (List.mem_of_getElem? (i := 69) rfl))⟩,
  List.forall_mem_cons.mpr ⟨(wl7 _ (List.mem_of_getElem? (i := 78) rfl)),
  List.forall_mem_cons.mpr ⟨Or.inr (Or.inr ⟨yo_146, (wl8 _ (List.mem_of_getElem? (i := 0) rfl)), (wl8 _ (List.mem_of_getElem? (i := 1) rfl)), (Or.inl (wl7 _ (List.mem_of_getElem? (i := 79) rfl))), _, _, rfl⟩),
  List.forall_mem_cons.mpr ⟨⟨_, _, _, rfl, Or.inl ⟨(wl8 _ (List.mem_of_getElem? (i := 2) rfl)), rfl⟩⟩,
  List.forall_mem_cons.mpr ⟨⟨_, _, _, rfl, Or.inl ⟨(wl7 _ (List.mem_of_getElem? (i := 47) rfl)), rfl⟩⟩,
  List.forall_mem_cons.mpr ⟨⟨_, _, _, rfl, Or.inl (wl8 _ (List.mem_of_getElem? (i := 2) rfl))⟩,
  List.forall_mem_cons.mpr ⟨Or.inr (Or.inr ⟨yo_149, (wl8 _ (List.mem_of_getElem? (i := 4) rfl)), (wl8 _ (List.mem_of_getElem? (i := 5) rfl)), (Or.inl (wl8 _ (List.mem_of_getElem? (i := 3) rfl))), _, _, rfl⟩),
  List.forall_mem_cons.mpr ⟨Or.inr (Or.inr ⟨yo_151, (wl8 _ (List.mem_of_getElem? (i := 7) rfl)), (wl8 _ (List.mem_of_getElem? (i := 8) rfl)), (Or.inl (wl8 _ (List.mem_of_getElem? (i := 6) rfl))), _, _, rfl⟩),
  List.forall_mem_cons.mpr ⟨Or.inr (Or.inr ⟨yo_152, (wl8 _ (List.mem_of_getElem? (i := 10) rfl)), (wl8 _ (List.mem_of_getElem? (i := 11) rfl)), (Or.inl (wl8 _ (List.mem_of_getElem? (i := 9) rfl))), _, _, rfl⟩),
  List.forall_mem_cons.mpr ⟨Or.inr (Or.inr ⟨yo_162, (wl8 _ (List.mem_of_getElem? (i := 13) rfl)), (wl8 _ (List.mem_of_getElem? (i := 14) rfl)), (Or.inl (wl8 _ (List.mem_of_getElem? (i := 12) rfl))), _, _, rfl⟩),
  List.forall_mem_cons.mpr ⟨Or.inr (Or.inr ⟨yo_163, (wl8 _ (List.mem_of_getElem? (i := 16) rfl)), (wl8 _ (List.mem_of_getElem? (i := 17) rfl)), (Or.inl (wl8 _ (List.mem_of_getElem? (i := 15) rfl))), _, _, rfl⟩),
  List.forall_mem_cons.mpr ⟨⟨_, _, _, rfl, Or.inl (wl1 _ (List.mem_of_getElem? (i := 61) rfl))⟩,
  List.forall_mem_cons.mpr ⟨⟨_, _, _, rfl, Or.inl (wl4 _ (List.mem_of_getElem? (i := 70) rfl))⟩,
  List.forall_mem_cons.mpr ⟨Or.inr (Or.inr ⟨yo_176, (wl8 _ (List.mem_of_getElem? (i := 31) rfl)), (wl8 _ (List.mem_of_getElem? (i := 32) rfl)), (Or.inl (wl8 _ (List.mem_of_getElem? (i := 30) rfl))), _, _, rfl⟩),
  List.forall_mem_cons.mpr ⟨Or.inr (Or.inr ⟨by decide, by decide, yo_180, (wl8 _ (List.mem_of_getElem? (i := 37) rfl)), (Or.inl (wl8 _ (List.mem_of_getElem? (i := 36) rfl)))⟩),
  List.forall_mem_cons.mpr ⟨Or.inr (Or.inr ⟨yo_198, (wl9 _ (List.mem_of_getElem? (i := 19) rfl)), (wl9 _ (List.mem_of_getElem? (i := 20) rfl)), (Or.inl (wl9 _ (List.mem_of_getElem? (i := 18) rfl))), _, _, rfl⟩),
  List.forall_mem_cons.mpr ⟨⟨_, _, _, rfl, Or.inl (wl2 _ (List.mem_of_getElem? (i := 7) rfl))⟩,
  List.forall_mem_cons.mpr ⟨Or.inr (Or.inr ⟨yo_199, (wl9 _ (List.mem_of_getElem? (i := 22) rfl)), (wl9 _ (List.mem_of_getElem? (i := 23) rfl)), (Or.inl (wl9 _ (List.mem_of_getElem? (i := 21) rfl))), _, _, rfl⟩),
  List.forall_mem_cons.mpr ⟨Or.inr (Or.inr ⟨by decide, by decide, yo_200, (wl9 _ (List.mem_of_getElem? (i := 25) rfl)), (Or.inl (wl9 _ (List.mem_of_getElem? (i := 24) rfl)))⟩),
  List.forall_mem_cons.mpr ⟨⟨_, _, _, rfl, Or.inl (wl4 _ (List.mem_of_getElem? (i := 68) rfl))⟩,
  List.forall_mem_cons.mpr ⟨Or.inr (Or.inr ⟨yo_201, (wl9 _ (List.mem_of_getElem? (i := 27) rfl)), (wl9 _ (List.mem_of_getElem? (i := 28) rfl)), (Or.inl (wl9 _ (List.mem_of_getElem? (i := 26) rfl))), _, _, rfl⟩),
  List.forall_mem_cons.mpr ⟨Or.inr (Or.inr ⟨yo_202, (wl9 _ (List.mem_of_getElem? (i := 30) rfl)), (wl9 _ (List.mem_of_getElem? (i := 31) rfl)), (Or.inl (wl9 _ (List.mem_of_getElem? (i := 29) rfl))), _, _, rfl⟩),
  List.forall_mem_cons.mpr ⟨Or.inr (Or.inr ⟨yo_203, (wl9 _ (List.mem_of_getElem? (i := 33) rfl)), (wl9 _ (List.mem_of_getElem? (i := 34) rfl)), (Or.inl (wl9 _ (List.mem_of_getElem? (i := 32) rfl))), _, _, rfl⟩),
  List.forall_mem_cons.mpr ⟨⟨_, _, _, rfl, Or.inl ⟨(wl9 _ (List.mem_of_getElem? (i := 35) rfl)), rfl⟩⟩,
  List.forall_mem_cons.mpr ⟨⟨_, _, _, rfl, Or.inl ⟨(wl9 _ (List.mem_of_getElem? (i := 36) rfl)), rfl⟩⟩,
  List.forall_mem_cons.mpr ⟨⟨_, _, _, rfl, Or.inl (wl2 _ (List.mem_of_getElem? (i := 8) rfl))⟩,
  List.forall_mem_cons.mpr ⟨⟨_, _, _, rfl, Or.inl (wl9 _ (List.mem_of_getElem? (i := 36) rfl))⟩,
  fun _ h => absurd h List.not_mem_nil⟩⟩⟩⟩⟩⟩⟩⟩⟩⟩⟩⟩⟩⟩⟩⟩⟩⟩⟩⟩⟩⟩⟩⟩⟩⟩⟩⟩⟩⟩⟩⟩⟩⟩⟩⟩⟩⟩⟩⟩
def lk_RX11_6 : tm_LK := [(.invokevirtual 494, 204, 3, 45), (.getfield 488, 11, 71, 0), (.putfield 498, 11, 74, 0), (.putfield 501, 11, 75, 0), (.getfield 501, 11, 75, 0), (.getfield 159, 11, 73, 2), (.getfield 498, 11, 74, 0), (.invokestatic 504, 213, 1, 1), (.getfield 162, 11, 76, 2), (.invokevirtual 507, 219, 2, 45), (.getfield 510, 11, 84, 0), (.getfield 183, 11, 83, 2), (.getfield 165, 11, 77, 2), (.getfield 168, 11, 78, 2), (.getfield 171, 11, 79, 2), (.getfield 174, 11, 80, 2), (.getfield 177, 11, 81, 2), (.getfield 513, 11, 85, 0), (.getfield 180, 11, 82, 2), (.putfield 510, 11, 84, 0), (.ldc_w 516, 0, 100000, 0), (.putfield 513, 11, 85, 0), (.invokevirtual 517, 238, 4, 45), (.invokestatic 521, 237, 1, 1), (.invokevirtual 524, 239, 3, 45)]
theorem lc_RX11_6 : ∀ e ∈ lk_RX11_6, tm_lnc RX11 tm_mt e.1 e.2.1 e.2.2.1 e.2.2.2 := List.forall_mem_cons.mpr ⟨Or.inr (Or.inr ⟨yo_204, (wl9 _ (List.mem_of_getElem? (i := 38) rfl)), (wl9 _ (List.mem_of_getElem? (i := 39) rfl)), (Or.inl (wl9 _ (List.mem_of_getElem? (i := 37) rfl))), _, _, rfl⟩),
  List.forall_mem_cons.mpr ⟨⟨_, _, _, rfl, Or.inl (wl9 _ (List.mem_of_getElem? (i := 35) rfl))⟩,
  List.forall_mem_cons.mpr ⟨⟨_, _, _, rfl, Or.inl ⟨(wl9 _ (List.mem_of_getElem? (i := 53) rfl)), rfl⟩⟩,
  List.forall_mem_cons.mpr ⟨⟨_, _, _, rfl, Or.inl ⟨(wl9 _ (List.mem_of_getElem? (i := 54) rfl)), rfl⟩⟩,
  List.forall_mem_cons.mpr ⟨⟨_, _, _, rfl, Or.inl (wl9 _ (List.mem_of_getElem? (i := 54) rfl))⟩,
  List.forall_mem_cons.mpr ⟨⟨_, _, _, rfl, Or.inl (wl2 _ (List.mem_of_getElem? (i := 9) rfl))⟩,
  List.forall_mem_cons.mpr ⟨⟨_, _, _, rfl, Or.inl (wl9 _ (List.mem_of_getElem? (i := 53) rfl))⟩,
  List.forall_mem_cons.mpr ⟨Or.inr (Or.inr ⟨by decide, by decide, yo_213, (wl9 _ (List.mem_of_getElem? (i := 56) rfl)), (Or.inl (wl9 _ (List.mem_of_getElem? (i := 55) rfl)))⟩),
  List.forall_mem_cons.mpr ⟨⟨_, _, _, rfl, Or.inl (wl2 _ (List.mem_of_getElem? (i := 10) rfl))⟩,
  List.forall_mem_cons.mpr ⟨Or.inr (Or.inr ⟨yo_219, (wl9 _ (List.mem_of_getElem? (i := 61) rfl)), (wl9 _ (List.mem_of_getElem? (i := 62) rfl)), (Or.inl (wl9 _ (List.mem_of_getElem? (i := 60) rfl))), _, _, rfl⟩),
  List.forall_mem_cons.mpr ⟨⟨_, _, _, rfl, Or.inl (wl9 _ (List.mem_of_getElem? (i := 77) rfl))⟩,
  List.forall_mem_cons.mpr ⟨⟨_, _, _, rfl, Or.inl (wl2 _ (List.mem_of_getElem? (i := 17) rfl))⟩,
  List.forall_mem_cons.mpr ⟨⟨_, _, _, rfl, Or.inl (wl2 _ (List.mem_of_getElem? (i := 11) rfl))⟩,
  List.forall_mem_cons.mpr ⟨⟨_, _, _, rfl, Or.inl (wl2 _ (List.mem_of_getElem? (i := 12) rfl))⟩,
  List.forall_mem_cons.mpr ⟨⟨_, _, _, rfl, Or.inl (wl2 _ (List.mem_of_getElem? (i := 13) rfl))⟩,
  List.forall_mem_cons.mpr ⟨⟨_, _, _, rfl, Or.inl (wl2 _ (List.mem_of_getElem? (i := 14) rfl))⟩,
  List.forall_mem_cons.mpr ⟨⟨_, _, _, rfl, Or.inl (wl2 _ (List.mem_of_getElem? (i := 15) rfl))⟩,
  List.forall_mem_cons.mpr ⟨⟨_, _, _, rfl, Or.inl (wl9 _ (List.mem_of_getElem? (i := 78) rfl))⟩,
  List.forall_mem_cons.mpr ⟨⟨_, _, _, rfl, Or.inl (wl2 _ (List.mem_of_getElem? (i := 16) rfl))⟩,
  List.forall_mem_cons.mpr ⟨⟨_, _, _, rfl, Or.inl ⟨(wl9 _ (List.mem_of_getElem? (i := 77) rfl)), rfl⟩⟩,
  List.forall_mem_cons.mpr ⟨(wl10 _ (List.mem_of_getElem? (i := 6) rfl)),
  List.forall_mem_cons.mpr ⟨⟨_, _, _, rfl, Or.inl ⟨(wl9 _ (List.mem_of_getElem? (i := 78) rfl)), rfl⟩⟩,
  List.forall_mem_cons.mpr ⟨Or.inr (Or.inr ⟨yo_238, (wl10 _ (List.mem_of_getElem? (i := 21) rfl)), (wl10 _ (List.mem_of_getElem? (i := 22) rfl)), (Or.inl (wl10 _ (List.mem_of_getElem? (i := 20) rfl))), _, _, rfl⟩),
  List.forall_mem_cons.mpr ⟨Or.inr (Or.inr ⟨by decide, by decide, yo_237, (wl10 _ (List.mem_of_getElem? (i := 24) rfl)), (Or.inl (wl10 _ (List.mem_of_getElem? (i := 23) rfl)))⟩),
  List.forall_mem_cons.mpr ⟨Or.inr (Or.inr ⟨yo_239, (wl10 _ (List.mem_of_getElem? (i := 26) rfl)), (wl10 _ (List.mem_of_getElem? (i := 27) rfl)), (Or.inl (wl10 _ (List.mem_of_getElem? (i := 25) rfl))), _, _, rfl⟩),
  fun _ h => absurd h List.not_mem_nil⟩⟩⟩⟩⟩⟩⟩⟩⟩⟩⟩⟩⟩⟩⟩⟩⟩⟩⟩⟩⟩⟩⟩⟩⟩
def lk_RX11 : tm_LK := lk_RX11_0 ++ (lk_RX11_1 ++ (lk_RX11_2 ++ (lk_RX11_3 ++ (lk_RX11_4 ++ (lk_RX11_5 ++ (lk_RX11_6))))))
theorem lc_RX11 : ∀ e ∈ lk_RX11, tm_lnc RX11 tm_mt e.1 e.2.1 e.2.2.1 e.2.2.2 := List.forall_mem_append.mpr ⟨lc_RX11_0, List.forall_mem_append.mpr ⟨lc_RX11_1, List.forall_mem_append.mpr ⟨lc_RX11_2, List.forall_mem_append.mpr ⟨lc_RX11_3, List.forall_mem_append.mpr ⟨lc_RX11_4, List.forall_mem_append.mpr ⟨lc_RX11_5, lc_RX11_6⟩⟩⟩⟩⟩⟩
def lk_RJ7_0 : tm_LK := []
theorem lc_RJ7_0 : ∀ e ∈ lk_RJ7_0, tm_lnc RJ7 tm_mt e.1 e.2.1 e.2.2.1 e.2.2.2 := fun _ h => absurd h List.not_mem_nil
def lk_RJ7 : tm_LK := lk_RJ7_0
theorem lc_RJ7 : ∀ e ∈ lk_RJ7, tm_lnc RJ7 tm_mt e.1 e.2.1 e.2.2.1 e.2.2.2 := lc_RJ7_0
def lk_RJ6_0 : tm_LK := [(.ldc_w 264, 0, 65536, 0)]
theorem lc_RJ6_0 : ∀ e ∈ lk_RJ6_0, tm_lnc RJ6 tm_mt e.1 e.2.1 e.2.2.1 e.2.2.2 := List.forall_mem_cons.mpr ⟨(wl8 _ (List.mem_of_getElem? (i := 45) rfl)),
  fun _ h => absurd h List.not_mem_nil⟩
def lk_RJ6 : tm_LK := lk_RJ6_0
theorem lc_RJ6 : ∀ e ∈ lk_RJ6, tm_lnc RJ6 tm_mt e.1 e.2.1 e.2.2.1 e.2.2.2 := lc_RJ6_0
def lk_L_0 : tm_LK := [(.new 7, 10, 14, 0), (.invokespecial 9, 12, 0, 40), (.new 10, 11, 86, 0), (.invokespecial 12, 13, 0, 44), (.invokevirtual 13, 15, 5, 41), (.invokevirtual 17, 16, 5, 45), (.invokevirtual 18, 17, 1, 41), (.invokevirtual 22, 18, 1, 45), (.invokevirtual 23, 53, 0, 41), (.invokevirtual 27, 73, 0, 45), (.invokevirtual 28, 79, 0, 41), (.invokevirtual 31, 81, 0, 45), (.invokevirtual 32, 82, 1, 41), (.invokevirtual 35, 83, 1, 45), (.invokevirtual 36, 92, 3, 41), (.invokevirtual 40, 101, 3, 45), (.invokevirtual 41, 104, 1, 41), (.invokevirtual 44, 107, 1, 45), (.invokevirtual 45, 108, 2, 41), (.invokevirtual 49, 109, 2, 45), (.invokevirtual 50, 145, 0, 41), (.invokevirtual 53, 164, 0, 45), (.invokevirtual 54, 165, 1, 41), (.invokevirtual 57, 166, 1, 45), (.invokevirtual 58, 168, 2, 41), (.invokevirtual 62, 169, 2, 45), (.invokevirtual 63, 171, 2, 41), (.invokevirtual 66, 172, 2, 45), (.invokevirtual 67, 175, 1, 41), (.invokevirtual 70, 177, 1, 45), (.invokevirtual 71, 179, 3, 41), (.invokevirtual 75, 181, 3, 45), (.invokevirtual 76, 183, 2, 41), (.invokevirtual 79, 184, 2, 45), (.invokevirtual 80, 197, 3, 41), (.invokevirtual 83, 205, 3, 45), (.invokevirtual 84, 207, 5, 41), (.invokevirtual 87, 208, 5, 45), (.invokevirtual 88, 212, 0, 41), (.invokevirtual 91, 214, 0, 45)]
theorem lc_L_0 : ∀ e ∈ lk_L_0, tm_lnc RL tm_mt e.1 e.2.1 e.2.2.1 e.2.2.2 := List.forall_mem_cons.mpr ⟨⟨_, _, _, rfl, (wl10 _ (List.mem_of_getElem? (i := 40) rfl)), (wl10 _ (List.mem_of_getElem? (i := 41) rfl)), (wl0 _ (List.mem_of_getElem? (i := 10) rfl))⟩,
  List.forall_mem_cons.mpr ⟨Or.inr ⟨by decide, yo_12, (wl10 _ (List.mem_of_getElem? (i := 43) rfl)), rfl, rfl, (Or.inl (wl10 _ (List.mem_of_getElem? (i := 42) rfl)))⟩,
  List.forall_mem_cons.mpr ⟨⟨_, _, _, rfl, (wl10 _ (List.mem_of_getElem? (i := 44) rfl)), (wl10 _ (List.mem_of_getElem? (i := 45) rfl)), (wl0 _ (List.mem_of_getElem? (i := 11) rfl))⟩,
  List.forall_mem_cons.mpr ⟨Or.inr ⟨by decide, yo_13, (wl10 _ (List.mem_of_getElem? (i := 47) rfl)), rfl, rfl, (Or.inl (wl10 _ (List.mem_of_getElem? (i := 46) rfl)))⟩,
  List.forall_mem_cons.mpr ⟨Or.inr (Or.inr ⟨yo_15, (wl10 _ (List.mem_of_getElem? (i := 49) rfl)), (wl10 _ (List.mem_of_getElem? (i := 50) rfl)), (Or.inl (wl10 _ (List.mem_of_getElem? (i := 48) rfl))), _, _, rfl⟩),
  List.forall_mem_cons.mpr ⟨Or.inr (Or.inr ⟨yo_16, (wl10 _ (List.mem_of_getElem? (i := 52) rfl)), (wl10 _ (List.mem_of_getElem? (i := 53) rfl)), (Or.inl (wl10 _ (List.mem_of_getElem? (i := 51) rfl))), _, _, rfl⟩),
  List.forall_mem_cons.mpr ⟨Or.inr (Or.inr ⟨yo_17, (wl10 _ (List.mem_of_getElem? (i := 55) rfl)), (wl10 _ (List.mem_of_getElem? (i := 56) rfl)), (Or.inl (wl10 _ (List.mem_of_getElem? (i := 54) rfl))), _, _, rfl⟩),
  List.forall_mem_cons.mpr ⟨Or.inr (Or.inr ⟨yo_18, (wl10 _ (List.mem_of_getElem? (i := 58) rfl)), (wl10 _ (List.mem_of_getElem? (i := 59) rfl)), (Or.inl (wl10 _ (List.mem_of_getElem? (i := 57) rfl))), _, _, rfl⟩),
  List.forall_mem_cons.mpr ⟨Or.inr (Or.inr ⟨yo_53, (wl10 _ (List.mem_of_getElem? (i := 61) rfl)), (wl10 _ (List.mem_of_getElem? (i := 62) rfl)), (Or.inl (wl10 _ (List.mem_of_getElem? (i := 60) rfl))), _, _, rfl⟩),
  List.forall_mem_cons.mpr ⟨Or.inr (Or.inr ⟨yo_73, (wl10 _ (List.mem_of_getElem? (i := 64) rfl)), (wl10 _ (List.mem_of_getElem? (i := 65) rfl)), (Or.inl (wl10 _ (List.mem_of_getElem? (i := 63) rfl))), _, _, rfl⟩),
  List.forall_mem_cons.mpr ⟨Or.inr (Or.inr ⟨yo_79, (wl10 _ (List.mem_of_getElem? (i := 67) rfl)), (wl10 _ (List.mem_of_getElem? (i := 68) rfl)), (Or.inl (wl10 _ (List.mem_of_getElem? (i := 66) rfl))), _, _, rfl⟩),
  List.forall_mem_cons.mpr ⟨Or.inr (Or.inr ⟨yo_81, (wl10 _ (List.mem_of_getElem? (i := 70) rfl)), (wl10 _ (List.mem_of_getElem? (i := 71) rfl)), (Or.inl (wl10 _ (List.mem_of_getElem? (i := 69) rfl))), _, _, rfl⟩),
  List.forall_mem_cons.mpr ⟨Or.inr (Or.inr ⟨yo_82, (wl10 _ (List.mem_of_getElem? (i := 73) rfl)), (wl10 _ (List.mem_of_getElem? (i := 74) rfl)), (Or.inl (wl10 _ (List.mem_of_getElem? (i := 72) rfl))), _, _, rfl⟩),
  List.forall_mem_cons.mpr ⟨Or.inr (Or.inr ⟨yo_83, (wl10 _ (List.mem_of_getElem? (i := 76) rfl)), (wl10 _ (List.mem_of_getElem? (i := 77) rfl)), (Or.inl (wl10 _ (List.mem_of_getElem? (i := 75) rfl))), _, _, rfl⟩),
  List.forall_mem_cons.mpr ⟨Or.inr (Or.inr ⟨yo_92, (wl10 _ (List.mem_of_getElem? (i := 79) rfl)), (wl11 _ (List.mem_of_getElem? (i := 0) rfl)), (Or.inl (wl10 _ (List.mem_of_getElem? (i := 78) rfl))), _, _, rfl⟩),
  List.forall_mem_cons.mpr ⟨Or.inr (Or.inr ⟨yo_101, (wl11 _ (List.mem_of_getElem? (i := 2) rfl)), (wl11 _ (List.mem_of_getElem? (i := 3) rfl)), (Or.inl (wl11 _ (List.mem_of_getElem? (i := 1) rfl))), _, _, rfl⟩),
  List.forall_mem_cons.mpr ⟨Or.inr (Or.inr ⟨yo_104, (wl11 _ (List.mem_of_getElem? (i := 5) rfl)), (wl11 _ (List.mem_of_getElem? (i := 6) rfl)), (Or.inl (wl11 _ (List.mem_of_getElem? (i := 4) rfl))), _, _, rfl⟩),
  List.forall_mem_cons.mpr ⟨Or.inr (Or.inr ⟨yo_107, (wl11 _ (List.mem_of_getElem? (i := 8) rfl)), (wl11 _ (List.mem_of_getElem? (i := 9) rfl)), (Or.inl (wl11 _ (List.mem_of_getElem? (i := 7) rfl))), _, _, rfl⟩),
  List.forall_mem_cons.mpr ⟨Or.inr (Or.inr ⟨yo_108, (wl11 _ (List.mem_of_getElem? (i := 11) rfl)), (wl11 _ (List.mem_of_getElem? (i := 12) rfl)), (Or.inl (wl11 _ (List.mem_of_getElem? (i := 10) rfl))), _, _, rfl⟩),
  List.forall_mem_cons.mpr ⟨Or.inr (Or.inr ⟨yo_109, (wl11 _ (List.mem_of_getElem? (i := 14) rfl)), (wl11 _ (List.mem_of_getElem? (i := 15) rfl)), (Or.inl (wl11 _ (List.mem_of_getElem? (i := 13) rfl))), _, _, rfl⟩),
  List.forall_mem_cons.mpr ⟨Or.inr (Or.inr ⟨yo_145, (wl11 _ (List.mem_of_getElem? (i := 17) rfl)), (wl11 _ (List.mem_of_getElem? (i := 18) rfl)), (Or.inl (wl11 _ (List.mem_of_getElem? (i := 16) rfl))), _, _, rfl⟩),
  List.forall_mem_cons.mpr ⟨Or.inr (Or.inr ⟨yo_164, (wl11 _ (List.mem_of_getElem? (i := 20) rfl)), (wl11 _ (List.mem_of_getElem? (i := 21) rfl)), (Or.inl (wl11 _ (List.mem_of_getElem? (i := 19) rfl))), _, _, rfl⟩),
  List.forall_mem_cons.mpr ⟨Or.inr (Or.inr ⟨yo_165, (wl11 _ (List.mem_of_getElem? (i := 23) rfl)), (wl11 _ (List.mem_of_getElem? (i := 24) rfl)), (Or.inl (wl11 _ (List.mem_of_getElem? (i := 22) rfl))), _, _, rfl⟩),
  List.forall_mem_cons.mpr ⟨Or.inr (Or.inr ⟨yo_166, (wl11 _ (List.mem_of_getElem? (i := 26) rfl)), (wl11 _ (List.mem_of_getElem? (i := 27) rfl)), (Or.inl (wl11 _ (List.mem_of_getElem? (i := 25) rfl))), _, _, rfl⟩),
  List.forall_mem_cons.mpr ⟨Or.inr (Or.inr ⟨yo_168, (wl11 _ (List.mem_of_getElem? (i := 29) rfl)), (wl11 _ (List.mem_of_getElem? (i := 30) rfl)), (Or.inl (wl11 _ (List.mem_of_getElem? (i := 28) rfl))), _, _, rfl⟩),
  List.forall_mem_cons.mpr ⟨Or.inr (Or.inr ⟨yo_169, (wl11 _ (List.mem_of_getElem? (i := 32) rfl)), (wl11 _ (List.mem_of_getElem? (i := 33) rfl)), (Or.inl (wl11 _ (List.mem_of_getElem? (i := 31) rfl))), _, _, rfl⟩),
  List.forall_mem_cons.mpr ⟨Or.inr (Or.inr ⟨yo_171, (wl11 _ (List.mem_of_getElem? (i := 35) rfl)), (wl11 _ (List.mem_of_getElem? (i := 36) rfl)), (Or.inl (wl11 _ (List.mem_of_getElem? (i := 34) rfl))), _, _, rfl⟩),
  List.forall_mem_cons.mpr ⟨Or.inr (Or.inr ⟨yo_172, (wl11 _ (List.mem_of_getElem? (i := 38) rfl)), (wl11 _ (List.mem_of_getElem? (i := 39) rfl)), (Or.inl (wl11 _ (List.mem_of_getElem? (i := 37) rfl))), _, _, rfl⟩),
  List.forall_mem_cons.mpr ⟨Or.inr (Or.inr ⟨yo_175, (wl11 _ (List.mem_of_getElem? (i := 41) rfl)), (wl11 _ (List.mem_of_getElem? (i := 42) rfl)), (Or.inl (wl11 _ (List.mem_of_getElem? (i := 40) rfl))), _, _, rfl⟩),
  List.forall_mem_cons.mpr ⟨Or.inr (Or.inr ⟨yo_177, (wl11 _ (List.mem_of_getElem? (i := 44) rfl)), (wl11 _ (List.mem_of_getElem? (i := 45) rfl)), (Or.inl (wl11 _ (List.mem_of_getElem? (i := 43) rfl))), _, _, rfl⟩),
  List.forall_mem_cons.mpr ⟨Or.inr (Or.inr ⟨yo_179, (wl11 _ (List.mem_of_getElem? (i := 47) rfl)), (wl11 _ (List.mem_of_getElem? (i := 48) rfl)), (Or.inl (wl11 _ (List.mem_of_getElem? (i := 46) rfl))), _, _, rfl⟩),
  List.forall_mem_cons.mpr ⟨Or.inr (Or.inr ⟨yo_181, (wl11 _ (List.mem_of_getElem? (i := 50) rfl)), (wl11 _ (List.mem_of_getElem? (i := 51) rfl)), (Or.inl (wl11 _ (List.mem_of_getElem? (i := 49) rfl))), _, _, rfl⟩),
  List.forall_mem_cons.mpr ⟨Or.inr (Or.inr ⟨yo_183, (wl11 _ (List.mem_of_getElem? (i := 53) rfl)), (wl11 _ (List.mem_of_getElem? (i := 54) rfl)), (Or.inl (wl11 _ (List.mem_of_getElem? (i := 52) rfl))), _, _, rfl⟩),
  List.forall_mem_cons.mpr ⟨Or.inr (Or.inr ⟨yo_184, (wl11 _ (List.mem_of_getElem? (i := 56) rfl)), (wl11 _ (List.mem_of_getElem? (i := 57) rfl)), (Or.inl (wl11 _ (List.mem_of_getElem? (i := 55) rfl))), _, _, rfl⟩),
  List.forall_mem_cons.mpr ⟨Or.inr (Or.inr ⟨yo_197, (wl11 _ (List.mem_of_getElem? (i := 59) rfl)), (wl11 _ (List.mem_of_getElem? (i := 60) rfl)), (Or.inl (wl11 _ (List.mem_of_getElem? (i := 58) rfl))), _, _, rfl⟩),
  List.forall_mem_cons.mpr ⟨Or.inr (Or.inr ⟨yo_205, (wl11 _ (List.mem_of_getElem? (i := 62) rfl)), (wl11 _ (List.mem_of_getElem? (i := 63) rfl)), (Or.inl (wl11 _ (List.mem_of_getElem? (i := 61) rfl))), _, _, rfl⟩),
  List.forall_mem_cons.mpr ⟨Or.inr (Or.inr ⟨yo_207, (wl11 _ (List.mem_of_getElem? (i := 65) rfl)), (wl11 _ (List.mem_of_getElem? (i := 66) rfl)), (Or.inl (wl11 _ (List.mem_of_getElem? (i := 64) rfl))), _, _, rfl⟩),
  List.forall_mem_cons.mpr ⟨Or.inr (Or.inr ⟨yo_208, (wl11 _ (List.mem_of_getElem? (i := 68) rfl)), (wl11 _ (List.mem_of_getElem? (i := 69) rfl)), (Or.inl (wl11 _ (List.mem_of_getElem? (i := 67) rfl))), _, _, rfl⟩),
  List.forall_mem_cons.mpr ⟨Or.inr (Or.inr ⟨yo_212, (wl11 _ (List.mem_of_getElem? (i := 71) rfl)), (wl11 _ (List.mem_of_getElem? (i := 72) rfl)), (Or.inl (wl11 _ (List.mem_of_getElem? (i := 70) rfl))), _, _, rfl⟩),
  List.forall_mem_cons.mpr ⟨Or.inr (Or.inr ⟨yo_214, (wl11 _ (List.mem_of_getElem? (i := 74) rfl)), (wl11 _ (List.mem_of_getElem? (i := 75) rfl)), (Or.inl (wl11 _ (List.mem_of_getElem? (i := 73) rfl))), _, _, rfl⟩),
  fun _ h => absurd h List.not_mem_nil⟩⟩⟩⟩⟩⟩⟩⟩⟩⟩⟩⟩⟩⟩⟩⟩⟩⟩⟩⟩⟩⟩⟩⟩⟩⟩⟩⟩⟩⟩⟩⟩⟩⟩⟩⟩⟩⟩⟩⟩
def lk_L_1 : tm_LK := [(.invokevirtual 92, 215, 1, 41), (.invokevirtual 95, 216, 1, 45), (.invokevirtual 96, 218, 1, 41), (.invokevirtual 99, 220, 1, 45), (.invokevirtual 100, 224, 3, 41), (.invokevirtual 103, 225, 3, 45), (.invokevirtual 104, 227, 1, 41), (.invokevirtual 108, 228, 1, 45), (.invokevirtual 109, 230, 1, 41), (.invokevirtual 112, 231, 1, 45), (.invokevirtual 113, 236, 3, 41), (.invokevirtual 116, 240, 3, 45), (.invokevirtual 117, 242, 6, 41), (.invokevirtual 121, 243, 6, 45), (.invokevirtual 122, 245, 5, 41), (.invokevirtual 126, 246, 5, 45), (.invokevirtual 127, 248, 3, 41), (.invokevirtual 130, 249, 3, 45), (.invokevirtual 131, 250, 1, 41), (.invokevirtual 134, 251, 1, 45)]
theorem lc_L_1 : ∀ e ∈ lk_L_1, tm_lnc RL tm_mt e.1 e.2.1 e.2.2.1 e.2.2.2 := List.forall_mem_cons.mpr ⟨Or.inr (Or.inr ⟨yo_215, (wl11 _ (List.mem_of_getElem? (i := 77) rfl)), (wl11 _ (List.mem_of_getElem? (i := 78) rfl)), (Or.inl (wl11 _ (List.mem_of_getElem? (i := 76) rfl))), _, _, rfl⟩),
  List.forall_mem_cons.mpr ⟨Or.inr (Or.inr ⟨yo_216, (wl12 _ (List.mem_of_getElem? (i := 0) rfl)), (wl12 _ (List.mem_of_getElem? (i := 1) rfl)), (Or.inl (wl11 _ (List.mem_of_getElem? (i := 79) rfl))), _, _, rfl⟩),
  List.forall_mem_cons.mpr ⟨Or.inr (Or.inr ⟨yo_218, (wl12 _ (List.mem_of_getElem? (i := 3) rfl)), (wl12 _ (List.mem_of_getElem? (i := 4) rfl)), (Or.inl (wl12 _ (List.mem_of_getElem? (i := 2) rfl))), _, _, rfl⟩),
  List.forall_mem_cons.mpr ⟨Or.inr (Or.inr ⟨yo_220, (wl12 _ (List.mem_of_getElem? (i := 6) rfl)), (wl12 _ (List.mem_of_getElem? (i := 7) rfl)), (Or.inl (wl12 _ (List.mem_of_getElem? (i := 5) rfl))), _, _, rfl⟩),
  List.forall_mem_cons.mpr ⟨Or.inr (Or.inr ⟨yo_224, (wl12 _ (List.mem_of_getElem? (i := 9) rfl)), (wl12 _ (List.mem_of_getElem? (i := 10) rfl)), (Or.inl (wl12 _ (List.mem_of_getElem? (i := 8) rfl))), _, _, rfl⟩),
  List.forall_mem_cons.mpr ⟨Or.inr (Or.inr ⟨yo_225, (wl12 _ (List.mem_of_getElem? (i := 12) rfl)), (wl12 _ (List.mem_of_getElem? (i := 13) rfl)), (Or.inl (wl12 _ (List.mem_of_getElem? (i := 11) rfl))), _, _, rfl⟩),
  List.forall_mem_cons.mpr ⟨Or.inr (Or.inr ⟨yo_227, (wl12 _ (List.mem_of_getElem? (i := 15) rfl)), (wl12 _ (List.mem_of_getElem? (i := 16) rfl)), (Or.inl (wl12 _ (List.mem_of_getElem? (i := 14) rfl))), _, _, rfl⟩),
  List.forall_mem_cons.mpr ⟨Or.inr (Or.inr ⟨yo_228, (wl12 _ (List.mem_of_getElem? (i := 18) rfl)), (wl12 _ (List.mem_of_getElem? (i := 19) rfl)), (Or.inl (wl12 _ (List.mem_of_getElem? (i := 17) rfl))), _, _, rfl⟩),
  List.forall_mem_cons.mpr ⟨Or.inr (Or.inr ⟨yo_230, (wl12 _ (List.mem_of_getElem? (i := 21) rfl)), (wl12 _ (List.mem_of_getElem? (i := 22) rfl)), (Or.inl (wl12 _ (List.mem_of_getElem? (i := 20) rfl))), _, _, rfl⟩),
  List.forall_mem_cons.mpr ⟨Or.inr (Or.inr ⟨yo_231, (wl12 _ (List.mem_of_getElem? (i := 24) rfl)), (wl12 _ (List.mem_of_getElem? (i := 25) rfl)), (Or.inl (wl12 _ (List.mem_of_getElem? (i := 23) rfl))), _, _, rfl⟩),
  List.forall_mem_cons.mpr ⟨Or.inr (Or.inr ⟨yo_236, (wl12 _ (List.mem_of_getElem? (i := 27) rfl)), (wl12 _ (List.mem_of_getElem? (i := 28) rfl)), (Or.inl (wl12 _ (List.mem_of_getElem? (i := 26) rfl))), _, _, rfl⟩),
  List.forall_mem_cons.mpr ⟨Or.inr (Or.inr ⟨yo_240, (wl12 _ (List.mem_of_getElem? (i := 30) rfl)), (wl12 _ (List.mem_of_getElem? (i := 31) rfl)), (Or.inl (wl12 _ (List.mem_of_getElem? (i := 29) rfl))), _, _, rfl⟩),
  List.forall_mem_cons.mpr ⟨Or.inr (Or.inr ⟨yo_242, (wl12 _ (List.mem_of_getElem? (i := 33) rfl)), (wl12 _ (List.mem_of_getElem? (i := 34) rfl)), (Or.inl (wl12 _ (List.mem_of_getElem? (i := 32) rfl))), _, _, rfl⟩),
  List.forall_mem_cons.mpr ⟨Or.inr (Or.inr ⟨yo_243, (wl12 _ (List.mem_of_getElem? (i := 36) rfl)), (wl12 _ (List.mem_of_getElem? (i := 37) rfl)), (Or.inl (wl12 _ (List.mem_of_getElem? (i := 35) rfl))), _, _, rfl⟩),
  List.forall_mem_cons.mpr ⟨Or.inr (Or.inr ⟨yo_245, (wl12 _ (List.mem_of_getElem? (i := 39) rfl)), (wl12 _ (List.mem_of_getElem? (i := 40) rfl)), (Or.inl (wl12 _ (List.mem_of_getElem? (i := 38) rfl))), _, _, rfl⟩),
  List.forall_mem_cons.mpr ⟨Or.inr (Or.inr ⟨yo_246, (wl12 _ (List.mem_of_getElem? (i := 42) rfl)), (wl12 _ (List.mem_of_getElem? (i := 43) rfl)), (Or.inl (wl12 _ (List.mem_of_getElem? (i := 41) rfl))), _, _, rfl⟩),
  List.forall_mem_cons.mpr ⟨Or.inr (Or.inr ⟨yo_248, (wl12 _ (List.mem_of_getElem? (i := 45) rfl)), (wl12 _ (List.mem_of_getElem? (i := 46) rfl)), (Or.inl (wl12 _ (List.mem_of_getElem? (i := 44) rfl))), _, _, rfl⟩),
  List.forall_mem_cons.mpr ⟨Or.inr (Or.inr ⟨yo_249, (wl12 _ (List.mem_of_getElem? (i := 48) rfl)), (wl12 _ (List.mem_of_getElem? (i := 49) rfl)), (Or.inl (wl12 _ (List.mem_of_getElem? (i := 47) rfl))), _, _, rfl⟩),
  List.forall_mem_cons.mpr ⟨Or.inr (Or.inr ⟨yo_250, (wl12 _ (List.mem_of_getElem? (i := 51) rfl)), (wl12 _ (List.mem_of_getElem? (i := 52) rfl)), (Or.inl (wl12 _ (List.mem_of_getElem? (i := 50) rfl))), _, _, rfl⟩),
  List.forall_mem_cons.mpr ⟨Or.inr (Or.inr ⟨yo_251, (wl12 _ (List.mem_of_getElem? (i := 54) rfl)), (wl12 _ (List.mem_of_getElem? (i := 55) rfl)), (Or.inl (wl12 _ (List.mem_of_getElem? (i := 53) rfl))), _, _, rfl⟩),
  fun _ h => absurd h List.not_mem_nil⟩⟩⟩⟩⟩⟩⟩⟩⟩⟩⟩⟩⟩⟩⟩⟩⟩⟩⟩⟩
def lk_L : tm_LK := lk_L_0 ++ (lk_L_1)
theorem lc_L : ∀ e ∈ lk_L, tm_lnc RL tm_mt e.1 e.2.1 e.2.2.1 e.2.2.2 := List.forall_mem_append.mpr ⟨lc_L_0, lc_L_1⟩
