theorem ax_okM152 : ax_okM 152 = true := by
  refine List.all_eq_true.mpr (fun i hi => ?_)
  have hl : (ax_code.getD 152 []).length = 1315 := by decide +kernel
  replace hi := List.mem_range.mp hi
  rw [hl] at hi
  by_cases h0 : i < 40
  · exact List.all_eq_true.mp ax_okb152_0 i (List.mem_range'_1.mpr (by omega))
  by_cases h1 : i < 80
  · exact List.all_eq_true.mp ax_okb152_1 i (List.mem_range'_1.mpr (by omega))
  by_cases h2 : i < 120
  · exact List.all_eq_true.mp ax_okb152_2 i (List.mem_range'_1.mpr (by omega))
  by_cases h3 : i < 160
  · exact List.all_eq_true.mp ax_okb152_3 i (List.mem_range'_1.mpr (by omega))
  by_cases h4 : i < 200
  · exact List.all_eq_true.mp ax_okb152_4 i (List.mem_range'_1.mpr (by omega))
  by_cases h5 : i < 240
  · exact List.all_eq_true.mp ax_okb152_5 i (List.mem_range'_1.mpr (by omega))
  by_cases h6 : i < 280
  · exact List.all_eq_true.mp ax_okb152_6 i (List.mem_range'_1.mpr (by omega))
  by_cases h7 : i < 320
  · exact List.all_eq_true.mp ax_okb152_7 i (List.mem_range'_1.mpr (by omega))
  by_cases h8 : i < 360
  · exact List.all_eq_true.mp ax_okb152_8 i (List.mem_range'_1.mpr (by omega))
  by_cases h9 : i < 400
  · exact List.all_eq_true.mp ax_okb152_9 i (List.mem_range'_1.mpr (by omega))
  by_cases h10 : i < 440
  · exact List.all_eq_true.mp ax_okb152_10 i (List.mem_range'_1.mpr (by omega))
  by_cases h11 : i < 480
  · exact List.all_eq_true.mp ax_okb152_11 i (List.mem_range'_1.mpr (by omega))
  by_cases h12 : i < 520
  · exact List.all_eq_true.mp ax_okb152_12 i (List.mem_range'_1.mpr (by omega))
  by_cases h13 : i < 560
  · exact List.all_eq_true.mp ax_okb152_13 i (List.mem_range'_1.mpr (by omega))
  by_cases h14 : i < 600
  · exact List.all_eq_true.mp ax_okb152_14 i (List.mem_range'_1.mpr (by omega))
  by_cases h15 : i < 640
  · exact List.all_eq_true.mp ax_okb152_15 i (List.mem_range'_1.mpr (by omega))
  by_cases h16 : i < 680
  · exact List.all_eq_true.mp ax_okb152_16 i (List.mem_range'_1.mpr (by omega))
  by_cases h17 : i < 720
  · exact List.all_eq_true.mp ax_okb152_17 i (List.mem_range'_1.mpr (by omega))
  by_cases h18 : i < 760
  · exact List.all_eq_true.mp ax_okb152_18 i (List.mem_range'_1.mpr (by omega))
  by_cases h19 : i < 800
  · exact List.all_eq_true.mp ax_okb152_19 i (List.mem_range'_1.mpr (by omega))
  by_cases h20 : i < 840
  · exact List.all_eq_true.mp ax_okb152_20 i (List.mem_range'_1.mpr (by omega))
  by_cases h21 : i < 880
  · exact List.all_eq_true.mp ax_okb152_21 i (List.mem_range'_1.mpr (by omega))
  by_cases h22 : i < 920
  · exact List.all_eq_true.mp ax_okb152_22 i (List.mem_range'_1.mpr (by omega))
  by_cases h23 : i < 960
  · exact List.all_eq_true.mp ax_okb152_23 i (List.mem_range'_1.mpr (by omega))
  by_cases h24 : i < 1000
  · exact List.all_eq_true.mp ax_okb152_24 i (List.mem_range'_1.mpr (by omega))
  by_cases h25 : i < 1040
  · exact List.all_eq_true.mp ax_okb152_25 i (List.mem_range'_1.mpr (by omega))
  by_cases h26 : i < 1080
  · exact List.all_eq_true.mp ax_okb152_26 i (List.mem_range'_1.mpr (by omega))
  by_cases h27 : i < 1120
  · exact List.all_eq_true.mp ax_okb152_27 i (List.mem_range'_1.mpr (by omega))
  by_cases h28 : i < 1160
  · exact List.all_eq_true.mp ax_okb152_28 i (List.mem_range'_1.mpr (by omega))
  by_cases h29 : i < 1200
  · exact List.all_eq_true.mp ax_okb152_29 i (List.mem_range'_1.mpr (by omega))
  by_cases h30 : i < 1240
  · exact List.all_eq_true.mp ax_okb152_30 i (List.mem_range'_1.mpr (by omega))
  by_cases h31 : i < 1280
  · exact List.all_eq_true.mp ax_okb152_31 i (List.mem_range'_1.mpr (by omega))
  by_cases h32 : i < 1315
  · exact List.all_eq_true.mp ax_okb152_32 i (List.mem_range'_1.mpr (by omega))
  omega
theorem ax_okM315 : ax_okM 315 = true := by
  refine List.all_eq_true.mpr (fun i hi => ?_)
  have hl : (ax_code.getD 315 []).length = 715 := by decide +kernel
  replace hi := List.mem_range.mp hi
  rw [hl] at hi
  by_cases h0 : i < 40
  · exact List.all_eq_true.mp ax_okb315_0 i (List.mem_range'_1.mpr (by omega))
  by_cases h1 : i < 80
  · exact List.all_eq_true.mp ax_okb315_1 i (List.mem_range'_1.mpr (by omega))
  by_cases h2 : i < 120
  · exact List.all_eq_true.mp ax_okb315_2 i (List.mem_range'_1.mpr (by omega))
  by_cases h3 : i < 160
  · exact List.all_eq_true.mp ax_okb315_3 i (List.mem_range'_1.mpr (by omega))
  by_cases h4 : i < 200
  · exact List.all_eq_true.mp ax_okb315_4 i (List.mem_range'_1.mpr (by omega))
  by_cases h5 : i < 240
  · exact List.all_eq_true.mp ax_okb315_5 i (List.mem_range'_1.mpr (by omega))
  by_cases h6 : i < 280
  · exact List.all_eq_true.mp ax_okb315_6 i (List.mem_range'_1.mpr (by omega))
  by_cases h7 : i < 320
  · exact List.all_eq_true.mp ax_okb315_7 i (List.mem_range'_1.mpr (by omega))
  by_cases h8 : i < 360
  · exact List.all_eq_true.mp ax_okb315_8 i (List.mem_range'_1.mpr (by omega))
  by_cases h9 : i < 400
  · exact List.all_eq_true.mp ax_okb315_9 i (List.mem_range'_1.mpr (by omega))
  by_cases h10 : i < 440
  · exact List.all_eq_true.mp ax_okb315_10 i (List.mem_range'_1.mpr (by omega))
  by_cases h11 : i < 480
  · exact List.all_eq_true.mp ax_okb315_11 i (List.mem_range'_1.mpr (by omega))
  by_cases h12 : i < 520
  · exact List.all_eq_true.mp ax_okb315_12 i (List.mem_range'_1.mpr (by omega))
  by_cases h13 : i < 560
  · exact List.all_eq_true.mp ax_okb315_13 i (List.mem_range'_1.mpr (by omega))
  by_cases h14 : i < 600
  · exact List.all_eq_true.mp ax_okb315_14 i (List.mem_range'_1.mpr (by omega))
  by_cases h15 : i < 640
  · exact List.all_eq_true.mp ax_okb315_15 i (List.mem_range'_1.mpr (by omega))
  by_cases h16 : i < 680
  · exact List.all_eq_true.mp ax_okb315_16 i (List.mem_range'_1.mpr (by omega))
  by_cases h17 : i < 715
  · exact List.all_eq_true.mp ax_okb315_17 i (List.mem_range'_1.mpr (by omega))
  omega
theorem ax_oks : ∀ j : Nat, j < 316 → ax_okM j = true := by
  intro j hj
  by_cases h0 : j < 13
  · exact List.all_eq_true.mp ax_ok0 j (List.mem_range'_1.mpr (by omega))
  by_cases h1 : j < 29
  · exact List.all_eq_true.mp ax_ok1 j (List.mem_range'_1.mpr (by omega))
  by_cases h2 : j < 49
  · exact List.all_eq_true.mp ax_ok2 j (List.mem_range'_1.mpr (by omega))
  by_cases h3 : j < 70
  · exact List.all_eq_true.mp ax_ok3 j (List.mem_range'_1.mpr (by omega))
  by_cases h4 : j < 84
  · exact List.all_eq_true.mp ax_ok4 j (List.mem_range'_1.mpr (by omega))
  by_cases h5 : j < 102
  · exact List.all_eq_true.mp ax_ok5 j (List.mem_range'_1.mpr (by omega))
  by_cases h6 : j < 128
  · exact List.all_eq_true.mp ax_ok6 j (List.mem_range'_1.mpr (by omega))
  by_cases h7 : j < 152
  · exact List.all_eq_true.mp ax_ok7 j (List.mem_range'_1.mpr (by omega))
  by_cases h8 : j < 153
  · have e : j = 152 := by omega
    rw [e]
    exact ax_okM152
  by_cases h9 : j < 169
  · exact List.all_eq_true.mp ax_ok8 j (List.mem_range'_1.mpr (by omega))
  by_cases h10 : j < 181
  · exact List.all_eq_true.mp ax_ok9 j (List.mem_range'_1.mpr (by omega))
  by_cases h11 : j < 203
  · exact List.all_eq_true.mp ax_ok10 j (List.mem_range'_1.mpr (by omega))
  by_cases h12 : j < 221
  · exact List.all_eq_true.mp ax_ok11 j (List.mem_range'_1.mpr (by omega))
  by_cases h13 : j < 242
  · exact List.all_eq_true.mp ax_ok12 j (List.mem_range'_1.mpr (by omega))
  by_cases h14 : j < 255
  · exact List.all_eq_true.mp ax_ok13 j (List.mem_range'_1.mpr (by omega))
  by_cases h15 : j < 275
  · exact List.all_eq_true.mp ax_ok14 j (List.mem_range'_1.mpr (by omega))
  by_cases h16 : j < 286
  · exact List.all_eq_true.mp ax_ok15 j (List.mem_range'_1.mpr (by omega))
  by_cases h17 : j < 299
  · exact List.all_eq_true.mp ax_ok16 j (List.mem_range'_1.mpr (by omega))
  by_cases h18 : j < 315
  · exact List.all_eq_true.mp ax_ok17 j (List.mem_range'_1.mpr (by omega))
  by_cases h19 : j < 316
  · have e : j = 315 := by omega
    rw [e]
    exact ax_okM315
  omega
