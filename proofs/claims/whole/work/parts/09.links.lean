set_option maxRecDepth 100000 in
theorem kc_X0 : ∀ w ∈ u_ws RX0 TX0 2, w ∈ wBig := by decide +kernel
theorem kp_X0_0 : xFP 0 TX0 2 tyX0 true := ⟨tyX0_ok, nmX0, rfl⟩
theorem kp_X0_1 : xFP 1 TX0 2 tyX0 true := ⟨tyX0_ok, nmX0, rfl⟩
set_option maxRecDepth 100000 in
theorem kc_X1 : ∀ w ∈ u_ws RX1 TX1 3, w ∈ wBig := by decide +kernel
theorem kp_X1_0 : xFP 0 TX1 3 tyX1 true := ⟨tyX1_ok, nmX1, rfl⟩
theorem kp_X1_1 : xFP 1 TX1 3 tyX1 false := ⟨tyX1_ok, nmX1, rfl⟩
theorem kp_X1_2 : xFP 2 TX1 3 tyX1 false := ⟨tyX1_ok, nmX1, rfl⟩
set_option maxRecDepth 100000 in
theorem kc_X2 : ∀ w ∈ u_ws RX2 TX2 4, w ∈ wBig := by decide +kernel
theorem kp_X2_0 : xFP 0 TX2 4 tyX2 true := ⟨tyX2_ok, nmX2, rfl⟩
theorem kp_X2_1 : xFP 1 TX2 4 tyX2 true := ⟨tyX2_ok, nmX2, rfl⟩
theorem kp_X2_2 : xFP 2 TX2 4 tyX2 true := ⟨tyX2_ok, nmX2, rfl⟩
theorem kp_X2_3 : xFP 3 TX2 4 tyX2 true := ⟨tyX2_ok, nmX2, rfl⟩
set_option maxRecDepth 100000 in
theorem kc_X3 : ∀ w ∈ u_ws RX3 TX3 8, w ∈ wBig := by decide +kernel
theorem kp_X3_0 : xFP 0 TX3 8 tyX3 true := ⟨tyX3_ok, nmX3, rfl⟩
theorem kp_X3_1 : xFP 1 TX3 8 tyX3 false := ⟨tyX3_ok, nmX3, rfl⟩
theorem kp_X3_2 : xFP 2 TX3 8 tyX3 false := ⟨tyX3_ok, nmX3, rfl⟩
theorem kp_X3_3 : xFP 3 TX3 8 tyX3 false := ⟨tyX3_ok, nmX3, rfl⟩
theorem kp_X3_4 : xFP 4 TX3 8 tyX3 false := ⟨tyX3_ok, nmX3, rfl⟩
theorem kp_X3_5 : xFP 5 TX3 8 tyX3 false := ⟨tyX3_ok, nmX3, rfl⟩
theorem kp_X3_6 : xFP 6 TX3 8 tyX3 true := ⟨tyX3_ok, nmX3, rfl⟩
theorem kp_X3_7 : xFP 7 TX3 8 tyX3 true := ⟨tyX3_ok, nmX3, rfl⟩
set_option maxRecDepth 100000 in
theorem kc_X4 : ∀ w ∈ u_ws RX4 TX4 2, w ∈ wBig := by decide +kernel
theorem kp_X4_0 : xFP 0 TX4 2 tyX4 true := ⟨tyX4_ok, nmX4, rfl⟩
theorem kp_X4_1 : xFP 1 TX4 2 tyX4 true := ⟨tyX4_ok, nmX4, rfl⟩
set_option maxRecDepth 100000 in
theorem kc_X5 : ∀ w ∈ u_ws RX5 TX5 5, w ∈ wBig := by decide +kernel
theorem kp_X5_0 : xFP 0 TX5 5 tyX5 false := ⟨tyX5_ok, nmX5, rfl⟩
theorem kp_X5_1 : xFP 1 TX5 5 tyX5 true := ⟨tyX5_ok, nmX5, rfl⟩
theorem kp_X5_2 : xFP 2 TX5 5 tyX5 true := ⟨tyX5_ok, nmX5, rfl⟩
theorem kp_X5_3 : xFP 3 TX5 5 tyX5 true := ⟨tyX5_ok, nmX5, rfl⟩
theorem kp_X5_4 : xFP 4 TX5 5 tyX5 true := ⟨tyX5_ok, nmX5, rfl⟩
set_option maxRecDepth 100000 in
theorem kc_X6 : ∀ w ∈ u_ws RX6 TX6 8, w ∈ wBig := by decide +kernel
theorem kp_X6_0 : xFP 0 TX6 8 tyX6 false := ⟨tyX6_ok, nmX6, rfl⟩
theorem kp_X6_1 : xFP 1 TX6 8 tyX6 false := ⟨tyX6_ok, nmX6, rfl⟩
theorem kp_X6_2 : xFP 2 TX6 8 tyX6 false := ⟨tyX6_ok, nmX6, rfl⟩
theorem kp_X6_3 : xFP 3 TX6 8 tyX6 false := ⟨tyX6_ok, nmX6, rfl⟩
theorem kp_X6_4 : xFP 4 TX6 8 tyX6 false := ⟨tyX6_ok, nmX6, rfl⟩
theorem kp_X6_5 : xFP 5 TX6 8 tyX6 false := ⟨tyX6_ok, nmX6, rfl⟩
theorem kp_X6_6 : xFP 6 TX6 8 tyX6 false := ⟨tyX6_ok, nmX6, rfl⟩
theorem kp_X6_7 : xFP 7 TX6 8 tyX6 false := ⟨tyX6_ok, nmX6, rfl⟩
set_option maxRecDepth 100000 in
theorem kc_X7 : ∀ w ∈ u_ws RX7 TX7 8, w ∈ wBig := by decide +kernel
theorem kp_X7_0 : xFP 0 TX7 8 tyX7 true := ⟨tyX7_ok, nmX7, rfl⟩
theorem kp_X7_1 : xFP 1 TX7 8 tyX7 true := ⟨tyX7_ok, nmX7, rfl⟩
theorem kp_X7_2 : xFP 2 TX7 8 tyX7 true := ⟨tyX7_ok, nmX7, rfl⟩
theorem kp_X7_3 : xFP 3 TX7 8 tyX7 false := ⟨tyX7_ok, nmX7, rfl⟩
theorem kp_X7_4 : xFP 4 TX7 8 tyX7 false := ⟨tyX7_ok, nmX7, rfl⟩
theorem kp_X7_5 : xFP 5 TX7 8 tyX7 false := ⟨tyX7_ok, nmX7, rfl⟩
theorem kp_X7_6 : xFP 6 TX7 8 tyX7 false := ⟨tyX7_ok, nmX7, rfl⟩
theorem kp_X7_7 : xFP 7 TX7 8 tyX7 false := ⟨tyX7_ok, nmX7, rfl⟩
set_option maxRecDepth 100000 in
theorem kc_X8 : ∀ w ∈ u_ws RX8 TX8 17, w ∈ wBig := by decide +kernel
theorem kp_X8_0 : xFP 0 TX8 17 tyX8 true := ⟨tyX8_ok, nmX8, rfl⟩
theorem kp_X8_1 : xFP 1 TX8 17 tyX8 true := ⟨tyX8_ok, nmX8, rfl⟩
theorem kp_X8_2 : xFP 2 TX8 17 tyX8 false := ⟨tyX8_ok, nmX8, rfl⟩
theorem kp_X8_3 : xFP 3 TX8 17 tyX8 false := ⟨tyX8_ok, nmX8, rfl⟩
theorem kp_X8_4 : xFP 4 TX8 17 tyX8 false := ⟨tyX8_ok, nmX8, rfl⟩
theorem kp_X8_5 : xFP 5 TX8 17 tyX8 false := ⟨tyX8_ok, nmX8, rfl⟩
theorem kp_X8_6 : xFP 6 TX8 17 tyX8 false := ⟨tyX8_ok, nmX8, rfl⟩
theorem kp_X8_7 : xFP 7 TX8 17 tyX8 false := ⟨tyX8_ok, nmX8, rfl⟩
theorem kp_X8_8 : xFP 8 TX8 17 tyX8 true := ⟨tyX8_ok, nmX8, rfl⟩
theorem kp_X8_9 : xFP 9 TX8 17 tyX8 true := ⟨tyX8_ok, nmX8, rfl⟩
theorem kp_X8_10 : xFP 10 TX8 17 tyX8 false := ⟨tyX8_ok, nmX8, rfl⟩
theorem kp_X8_11 : xFP 11 TX8 17 tyX8 false := ⟨tyX8_ok, nmX8, rfl⟩
theorem kp_X8_12 : xFP 12 TX8 17 tyX8 false := ⟨tyX8_ok, nmX8, rfl⟩
theorem kp_X8_13 : xFP 13 TX8 17 tyX8 false := ⟨tyX8_ok, nmX8, rfl⟩
theorem kp_X8_14 : xFP 14 TX8 17 tyX8 false := ⟨tyX8_ok, nmX8, rfl⟩
theorem kp_X8_15 : xFP 15 TX8 17 tyX8 true := ⟨tyX8_ok, nmX8, rfl⟩
theorem kp_X8_16 : xFP 16 TX8 17 tyX8 true := ⟨tyX8_ok, nmX8, rfl⟩
set_option maxRecDepth 100000 in
theorem kf_X5_27 : xFL RX5 27 5 0 RX5 TX5 5 := ⟨rfl, by decide, kc_X5, wB 147 rfl rfl⟩
set_option maxRecDepth 100000 in
theorem kf_X0_24 : xFN RX0 24 5 0 RX5 TX5 5 := ⟨rfl, by decide, kc_X5, nB 48 rfl rfl⟩
set_option maxRecDepth 100000 in
theorem kf_X2_74 : xFN RX2 74 5 0 RX5 TX5 5 := ⟨rfl, by decide, kc_X5, nB 49 rfl rfl⟩
set_option maxRecDepth 100000 in
theorem kf_X7_180 : xFN RX7 180 5 0 RX5 TX5 5 := ⟨rfl, by decide, kc_X5, nB 50 rfl rfl⟩
set_option maxRecDepth 100000 in
theorem kf_X5_11 : xFL RX5 11 5 1 RX5 TX5 5 := ⟨rfl, by decide, kc_X5, wB 151 rfl rfl⟩
set_option maxRecDepth 100000 in
theorem kf_X0_44 : xFN RX0 44 5 1 RX5 TX5 5 := ⟨rfl, by decide, kc_X5, nB 52 rfl rfl⟩
set_option maxRecDepth 100000 in
theorem kf_X2_58 : xFN RX2 58 5 1 RX5 TX5 5 := ⟨rfl, by decide, kc_X5, nB 53 rfl rfl⟩
set_option maxRecDepth 100000 in
theorem kf_X5_15 : xFL RX5 15 5 2 RX5 TX5 5 := ⟨rfl, by decide, kc_X5, wB 154 rfl rfl⟩
set_option maxRecDepth 100000 in
theorem kf_X2_62 : xFN RX2 62 5 2 RX5 TX5 5 := ⟨rfl, by decide, kc_X5, nB 55 rfl rfl⟩
set_option maxRecDepth 100000 in
theorem kf_X5_18 : xFL RX5 18 5 3 RX5 TX5 5 := ⟨rfl, by decide, kc_X5, wB 156 rfl rfl⟩
set_option maxRecDepth 100000 in
theorem kf_X2_65 : xFN RX2 65 5 3 RX5 TX5 5 := ⟨rfl, by decide, kc_X5, nB 57 rfl rfl⟩
set_option maxRecDepth 100000 in
theorem kf_X6_45 : xFN RX6 45 5 3 RX5 TX5 5 := ⟨rfl, by decide, kc_X5, nB 58 rfl rfl⟩
set_option maxRecDepth 100000 in
theorem kf_X5_24 : xFL RX5 24 5 4 RX5 TX5 5 := ⟨rfl, by decide, kc_X5, wB 159 rfl rfl⟩
set_option maxRecDepth 100000 in
theorem kf_X0_38 : xFN RX0 38 5 4 RX5 TX5 5 := ⟨rfl, by decide, kc_X5, nB 60 rfl rfl⟩
set_option maxRecDepth 100000 in
theorem kf_X6_39 : xFN RX6 39 5 4 RX5 TX5 5 := ⟨rfl, by decide, kc_X5, nB 61 rfl rfl⟩
set_option maxRecDepth 100000 in
theorem kf_X2_117 : xFN RX2 117 5 4 RX5 TX5 5 := ⟨rfl, by decide, kc_X5, nB 62 rfl rfl⟩
set_option maxRecDepth 100000 in
theorem kf_X7_201 : xFN RX7 201 5 4 RX5 TX5 5 := ⟨rfl, by decide, kc_X5, nB 63 rfl rfl⟩
set_option maxRecDepth 100000 in
theorem kf_X6_9 : xFL RX6 9 6 0 RX6 TX6 8 := ⟨rfl, by decide, kc_X6, wB 182 rfl rfl⟩
set_option maxRecDepth 100000 in
theorem kf_X2_108 : xFN RX2 108 6 0 RX6 TX6 8 := ⟨rfl, by decide, kc_X6, nB 83 rfl rfl⟩
set_option maxRecDepth 100000 in
theorem kf_X6_15 : xFL RX6 15 6 1 RX6 TX6 8 := ⟨rfl, by decide, kc_X6, wB 184 rfl rfl⟩
set_option maxRecDepth 100000 in
theorem kf_X2_101 : xFN RX2 101 6 1 RX6 TX6 8 := ⟨rfl, by decide, kc_X6, nB 85 rfl rfl⟩
set_option maxRecDepth 100000 in
theorem kf_X6_18 : xFL RX6 18 6 2 RX6 TX6 8 := ⟨rfl, by decide, kc_X6, wB 186 rfl rfl⟩
set_option maxRecDepth 100000 in
theorem kf_X2_91 : xFN RX2 91 6 2 RX6 TX6 8 := ⟨rfl, by decide, kc_X6, nB 87 rfl rfl⟩
set_option maxRecDepth 100000 in
theorem kf_X6_21 : xFL RX6 21 6 3 RX6 TX6 8 := ⟨rfl, by decide, kc_X6, wB 188 rfl rfl⟩
set_option maxRecDepth 100000 in
theorem kf_X2_140 : xFN RX2 140 6 3 RX6 TX6 8 := ⟨rfl, by decide, kc_X6, nB 89 rfl rfl⟩
set_option maxRecDepth 100000 in
theorem kf_X6_24 : xFL RX6 24 6 4 RX6 TX6 8 := ⟨rfl, by decide, kc_X6, wB 190 rfl rfl⟩
set_option maxRecDepth 100000 in
theorem kf_X2_146 : xFN RX2 146 6 4 RX6 TX6 8 := ⟨rfl, by decide, kc_X6, nB 91 rfl rfl⟩
set_option maxRecDepth 100000 in
theorem kf_X6_27 : xFL RX6 27 6 5 RX6 TX6 8 := ⟨rfl, by decide, kc_X6, wB 192 rfl rfl⟩
set_option maxRecDepth 100000 in
theorem kf_X2_123 : xFN RX2 123 6 5 RX6 TX6 8 := ⟨rfl, by decide, kc_X6, nB 93 rfl rfl⟩
set_option maxRecDepth 100000 in
theorem kf_X6_30 : xFL RX6 30 6 6 RX6 TX6 8 := ⟨rfl, by decide, kc_X6, wB 194 rfl rfl⟩
set_option maxRecDepth 100000 in
theorem kf_X2_114 : xFN RX2 114 6 6 RX6 TX6 8 := ⟨rfl, by decide, kc_X6, nB 95 rfl rfl⟩
set_option maxRecDepth 100000 in
theorem kf_X6_33 : xFL RX6 33 6 7 RX6 TX6 8 := ⟨rfl, by decide, kc_X6, wB 196 rfl rfl⟩
set_option maxRecDepth 100000 in
theorem kf_X2_152 : xFN RX2 152 6 7 RX6 TX6 8 := ⟨rfl, by decide, kc_X6, nB 97 rfl rfl⟩
set_option maxRecDepth 100000 in
theorem kf_X4_10 : xFL RX4 10 4 0 RX4 TX4 2 := ⟨rfl, by decide, kc_X4, wB 215 rfl rfl⟩
set_option maxRecDepth 100000 in
theorem kf_X2_18 : xFN RX2 18 4 0 RX4 TX4 2 := ⟨rfl, by decide, kc_X4, nB 116 rfl rfl⟩
set_option maxRecDepth 100000 in
theorem kf_X4_19 : xFL RX4 19 4 1 RX4 TX4 2 := ⟨rfl, by decide, kc_X4, wB 217 rfl rfl⟩
set_option maxRecDepth 100000 in
theorem kf_X2_23 : xFN RX2 23 4 1 RX4 TX4 2 := ⟨rfl, by decide, kc_X4, nB 118 rfl rfl⟩
set_option maxRecDepth 100000 in
theorem kf_X0_11 : xFL RX0 11 0 0 RX0 TX0 2 := ⟨rfl, by decide, kc_X0, wB 230 rfl rfl⟩
set_option maxRecDepth 100000 in
theorem kf_X2_71 : xFN RX2 71 0 0 RX0 TX0 2 := ⟨rfl, by decide, kc_X0, nB 131 rfl rfl⟩
set_option maxRecDepth 100000 in
theorem kf_X0_17 : xFL RX0 17 0 1 RX0 TX0 2 := ⟨rfl, by decide, kc_X0, wB 232 rfl rfl⟩
set_option maxRecDepth 100000 in
theorem kf_X2_78 : xFN RX2 78 0 1 RX0 TX0 2 := ⟨rfl, by decide, kc_X0, nB 133 rfl rfl⟩
set_option maxRecDepth 100000 in
theorem kf_X7_83 : xFN RX7 83 0 1 RX0 TX0 2 := ⟨rfl, by decide, kc_X0, nB 134 rfl rfl⟩
set_option maxRecDepth 100000 in
theorem kf_X2_12 : xFL RX2 12 2 0 RX2 TX2 4 := ⟨rfl, by decide, kc_X2, wB 266 rfl rfl⟩
set_option maxRecDepth 100000 in
theorem kf_X7_34 : xFN RX7 34 2 0 RX2 TX2 4 := ⟨rfl, by decide, kc_X2, nB 167 rfl rfl⟩
set_option maxRecDepth 100000 in
theorem kf_X2_22 : xFL RX2 22 2 1 RX2 TX2 4 := ⟨rfl, by decide, kc_X2, wB 268 rfl rfl⟩
set_option maxRecDepth 100000 in
theorem kf_X7_49 : xFN RX7 49 2 1 RX2 TX2 4 := ⟨rfl, by decide, kc_X2, nB 169 rfl rfl⟩
set_option maxRecDepth 100000 in
theorem kf_X2_27 : xFL RX2 27 2 2 RX2 TX2 4 := ⟨rfl, by decide, kc_X2, wB 270 rfl rfl⟩
set_option maxRecDepth 100000 in
theorem kf_X2_31 : xFL RX2 31 2 3 RX2 TX2 4 := ⟨rfl, by decide, kc_X2, wB 271 rfl rfl⟩
set_option maxRecDepth 100000 in
theorem kf_X7_79 : xFN RX7 79 2 3 RX2 TX2 4 := ⟨rfl, by decide, kc_X2, nB 172 rfl rfl⟩
set_option maxRecDepth 100000 in
theorem kf_X1_11 : xFL RX1 11 1 0 RX1 TX1 3 := ⟨rfl, by decide, kc_X1, wB 291 rfl rfl⟩
set_option maxRecDepth 100000 in
theorem kf_X1_16 : xFL RX1 16 1 1 RX1 TX1 3 := ⟨rfl, by decide, kc_X1, wB 292 rfl rfl⟩
set_option maxRecDepth 100000 in
theorem kf_X1_24 : xFL RX1 24 1 2 RX1 TX1 3 := ⟨rfl, by decide, kc_X1, wB 293 rfl rfl⟩
set_option maxRecDepth 100000 in
theorem kf_X7_167 : xFN RX7 167 1 2 RX1 TX1 3 := ⟨rfl, by decide, kc_X1, nB 194 rfl rfl⟩
set_option maxRecDepth 100000 in
theorem kf_X3_11 : xFL RX3 11 3 0 RX3 TX3 8 := ⟨rfl, by decide, kc_X3, wB 308 rfl rfl⟩
set_option maxRecDepth 100000 in
theorem kf_X3_25 : xFL RX3 25 3 1 RX3 TX3 8 := ⟨rfl, by decide, kc_X3, wB 309 rfl rfl⟩
set_option maxRecDepth 100000 in
theorem kf_X7_198 : xFN RX7 198 3 1 RX3 TX3 8 := ⟨rfl, by decide, kc_X3, nB 210 rfl rfl⟩
set_option maxRecDepth 100000 in
theorem kf_X3_29 : xFL RX3 29 3 2 RX3 TX3 8 := ⟨rfl, by decide, kc_X3, wB 311 rfl rfl⟩
set_option maxRecDepth 100000 in
theorem kf_X3_64 : xFL RX3 64 3 3 RX3 TX3 8 := ⟨rfl, by decide, kc_X3, wB 312 rfl rfl⟩
set_option maxRecDepth 100000 in
theorem kf_X7_135 : xFN RX7 135 3 3 RX3 TX3 8 := ⟨rfl, by decide, kc_X3, nB 213 rfl rfl⟩
set_option maxRecDepth 100000 in
theorem kf_X3_67 : xFL RX3 67 3 4 RX3 TX3 8 := ⟨rfl, by decide, kc_X3, wB 314 rfl rfl⟩
set_option maxRecDepth 100000 in
theorem kf_X7_138 : xFN RX7 138 3 4 RX3 TX3 8 := ⟨rfl, by decide, kc_X3, nB 215 rfl rfl⟩
set_option maxRecDepth 100000 in
theorem kf_X3_36 : xFL RX3 36 3 5 RX3 TX3 8 := ⟨rfl, by decide, kc_X3, wB 316 rfl rfl⟩
set_option maxRecDepth 100000 in
theorem kf_X7_145 : xFN RX7 145 3 5 RX3 TX3 8 := ⟨rfl, by decide, kc_X3, nB 217 rfl rfl⟩
set_option maxRecDepth 100000 in
theorem kf_X3_15 : xFL RX3 15 3 6 RX3 TX3 8 := ⟨rfl, by decide, kc_X3, wB 318 rfl rfl⟩
set_option maxRecDepth 100000 in
theorem kf_X7_195 : xFN RX7 195 3 6 RX3 TX3 8 := ⟨rfl, by decide, kc_X3, nB 219 rfl rfl⟩
set_option maxRecDepth 100000 in
theorem kf_X3_18 : xFL RX3 18 3 7 RX3 TX3 8 := ⟨rfl, by decide, kc_X3, wB 320 rfl rfl⟩
set_option maxRecDepth 100000 in
theorem kf_X7_10 : xFL RX7 10 7 0 RX7 TX7 8 := ⟨rfl, by decide, kc_X7, wB 338 rfl rfl⟩
set_option maxRecDepth 100000 in
theorem kf_X7_19 : xFL RX7 19 7 1 RX7 TX7 8 := ⟨rfl, by decide, kc_X7, wB 339 rfl rfl⟩
set_option maxRecDepth 100000 in
theorem kf_X7_26 : xFL RX7 26 7 2 RX7 TX7 8 := ⟨rfl, by decide, kc_X7, wB 340 rfl rfl⟩
set_option maxRecDepth 100000 in
theorem kf_X7_183 : xFL RX7 183 7 3 RX7 TX7 8 := ⟨rfl, by decide, kc_X7, wB 341 rfl rfl⟩
set_option maxRecDepth 100000 in
theorem kf_X7_186 : xFL RX7 186 7 4 RX7 TX7 8 := ⟨rfl, by decide, kc_X7, wB 342 rfl rfl⟩
set_option maxRecDepth 100000 in
theorem kf_X7_189 : xFL RX7 189 7 5 RX7 TX7 8 := ⟨rfl, by decide, kc_X7, wB 343 rfl rfl⟩
set_option maxRecDepth 100000 in
theorem kf_X7_166 : xFL RX7 166 7 6 RX7 TX7 8 := ⟨rfl, by decide, kc_X7, wB 344 rfl rfl⟩
set_option maxRecDepth 100000 in
theorem kf_X7_30 : xFL RX7 30 7 7 RX7 TX7 8 := ⟨rfl, by decide, kc_X7, wB 345 rfl rfl⟩
set_option maxRecDepth 100000 in
theorem kf_X8_7 : xFL RX8 7 8 0 RX8 TX8 17 := ⟨rfl, by decide, kc_X8, wB 768 rfl rfl⟩
set_option maxRecDepth 100000 in
theorem kf_X8_13 : xFL RX8 13 8 1 RX8 TX8 17 := ⟨rfl, by decide, kc_X8, wB 769 rfl rfl⟩
set_option maxRecDepth 100000 in
theorem kf_X8_38 : xFL RX8 38 8 2 RX8 TX8 17 := ⟨rfl, by decide, kc_X8, wB 770 rfl rfl⟩
set_option maxRecDepth 100000 in
theorem kf_X8_32 : xFL RX8 32 8 3 RX8 TX8 17 := ⟨rfl, by decide, kc_X8, wB 771 rfl rfl⟩
set_option maxRecDepth 100000 in
theorem kf_X8_35 : xFL RX8 35 8 4 RX8 TX8 17 := ⟨rfl, by decide, kc_X8, wB 772 rfl rfl⟩
set_option maxRecDepth 100000 in
theorem kf_X8_146 : xFL RX8 146 8 5 RX8 TX8 17 := ⟨rfl, by decide, kc_X8, wB 773 rfl rfl⟩
set_option maxRecDepth 100000 in
theorem kf_X8_192 : xFL RX8 192 8 6 RX8 TX8 17 := ⟨rfl, by decide, kc_X8, wB 774 rfl rfl⟩
set_option maxRecDepth 100000 in
theorem kf_X8_16 : xFL RX8 16 8 7 RX8 TX8 17 := ⟨rfl, by decide, kc_X8, wB 775 rfl rfl⟩
set_option maxRecDepth 100000 in
theorem kf_X8_20 : xFL RX8 20 8 8 RX8 TX8 17 := ⟨rfl, by decide, kc_X8, wB 776 rfl rfl⟩
set_option maxRecDepth 100000 in
theorem kf_X8_23 : xFL RX8 23 8 9 RX8 TX8 17 := ⟨rfl, by decide, kc_X8, wB 777 rfl rfl⟩
set_option maxRecDepth 100000 in
theorem kf_X8_143 : xFL RX8 143 8 10 RX8 TX8 17 := ⟨rfl, by decide, kc_X8, wB 778 rfl rfl⟩
set_option maxRecDepth 100000 in
theorem kf_X8_149 : xFL RX8 149 8 11 RX8 TX8 17 := ⟨rfl, by decide, kc_X8, wB 779 rfl rfl⟩
set_option maxRecDepth 100000 in
theorem kf_X8_159 : xFL RX8 159 8 12 RX8 TX8 17 := ⟨rfl, by decide, kc_X8, wB 780 rfl rfl⟩
set_option maxRecDepth 100000 in
theorem kf_X8_175 : xFL RX8 175 8 13 RX8 TX8 17 := ⟨rfl, by decide, kc_X8, wB 781 rfl rfl⟩
set_option maxRecDepth 100000 in
theorem kf_X8_179 : xFL RX8 179 8 14 RX8 TX8 17 := ⟨rfl, by decide, kc_X8, wB 782 rfl rfl⟩
set_option maxRecDepth 100000 in
theorem kf_X8_26 : xFL RX8 26 8 15 RX8 TX8 17 := ⟨rfl, by decide, kc_X8, wB 783 rfl rfl⟩
set_option maxRecDepth 100000 in
theorem kf_X8_29 : xFL RX8 29 8 16 RX8 TX8 17 := ⟨rfl, by decide, kc_X8, wB 784 rfl rfl⟩
set_option maxRecDepth 100000 in
theorem km_L_9 : xML RL 9 yX7_init cX7_init 1 none 0 := ⟨wB 120 rfl rfl, wB 101 rfl rfl, by decide +kernel, wB 118 rfl rfl⟩
set_option maxRecDepth 100000 in
theorem ki_X7_init : Cond.instanceMethod yX7_init ∈ wBig := wB 119 rfl rfl
set_option maxRecDepth 100000 in
theorem km_X7_9 : xMN RX7 9 yX2_init cX2_init 1 none 0 := ⟨wB 128 rfl rfl, wB 102 rfl rfl, by decide +kernel, nB 26 rfl rfl⟩
set_option maxRecDepth 100000 in
theorem ki_X2_init : Cond.instanceMethod yX2_init ∈ wBig := wB 127 rfl rfl
set_option maxRecDepth 100000 in
theorem km_X2_11 : xMN RX2 11 yX4_init cX4_init 1 none 0 := ⟨wB 134 rfl rfl, wB 103 rfl rfl, by decide +kernel, nB 32 rfl rfl⟩
set_option maxRecDepth 100000 in
theorem ki_X4_init : Cond.instanceMethod yX4_init ∈ wBig := wB 133 rfl rfl
set_option maxRecDepth 100000 in
theorem km_X4_9 : xMN RX4 9 yX5_init cX5_init 2 none 0 := ⟨wB 140 rfl rfl, wB 104 rfl rfl, by decide +kernel, nB 38 rfl rfl⟩
set_option maxRecDepth 100000 in
theorem ki_X5_init : Cond.instanceMethod yX5_init ∈ wBig := wB 139 rfl rfl
set_option maxRecDepth 100000 in
theorem kcopy_X5_31 : Cond.methodLink RX5 31 arraycopyName ∈ wBig ∧ Cond.native arraycopyName ∈ wBig ∧ Cond.static arraycopyName ∈ wBig ∧ Cond.initialized "java/lang/System" ∈ wBig := ⟨wB 144 rfl rfl, wB 146 rfl rfl, wB 145 rfl rfl, wB 105 rfl rfl⟩
set_option maxRecDepth 100000 in
theorem km_X4_18 : xMN RX4 18 yX6_init cX6_init 1 none 0 := ⟨wB 180 rfl rfl, wB 106 rfl rfl, by decide +kernel, nB 78 rfl rfl⟩
set_option maxRecDepth 100000 in
theorem ki_X6_init : Cond.instanceMethod yX6_init ∈ wBig := wB 179 rfl rfl
set_option maxRecDepth 100000 in
theorem km_X2_30 : xMN RX2 30 yX0_init cX0_init 1 none 0 := ⟨wB 228 rfl rfl, wB 107 rfl rfl, by decide +kernel, nB 126 rfl rfl⟩
set_option maxRecDepth 100000 in
theorem ki_X0_init : Cond.instanceMethod yX0_init ∈ wBig := wB 227 rfl rfl
set_option maxRecDepth 100000 in
theorem km_X2_35 : xML RX2 35 yX2_redraws cX2_redraws 1 none 0 := ⟨wB 243 rfl rfl, wB 102 rfl rfl, by decide +kernel, wB 240 rfl rfl⟩
set_option maxRecDepth 100000 in
theorem kv_X2_redraws : xMV yX2_redraws 2 RX2 TX2 4 := ⟨rfl, wB 242 rfl rfl, wB 0 rfl rfl⟩
set_option maxRecDepth 100000 in
theorem km_X2_38 : xMN RX2 38 yX0_draws cX0_draws 4 none 1 := ⟨wB 247 rfl rfl, wB 107 rfl rfl, by decide +kernel, nB 144 rfl rfl⟩
set_option maxRecDepth 100000 in
theorem kv_X0_draws : xMV yX0_draws 0 RX0 TX0 2 := ⟨rfl, wB 246 rfl rfl, wB 1 rfl rfl⟩
set_option maxRecDepth 100000 in
theorem km_X0_20 : xML RX0 20 yX0_drawsCeilings cX0_drawsCeilings 5 none 1 := ⟨wB 251 rfl rfl, wB 107 rfl rfl, by decide +kernel, wB 248 rfl rfl⟩
set_option maxRecDepth 100000 in
theorem kv_X0_drawsCeilings : xMV yX0_drawsCeilings 0 RX0 TX0 2 := ⟨rfl, wB 250 rfl rfl, wB 2 rfl rfl⟩
set_option maxRecDepth 100000 in
theorem km_X0_41 : xMM RX0 41 Lib.Math.max.name Lib.Math.max.code := ⟨wB 252 rfl rfl, wB 253 rfl rfl, wB 108 rfl rfl, wB 254 rfl rfl⟩
set_option maxRecDepth 100000 in
theorem km_X0_47 : xML RX0 47 yX0_leastCeiling cX0_leastCeiling 5 (some .int) 3 := ⟨wB 257 rfl rfl, wB 107 rfl rfl, by decide +kernel, wB 255 rfl rfl⟩
set_option maxRecDepth 100000 in
theorem ks_X0_leastCeiling : Cond.static yX0_leastCeiling ∈ wBig := wB 256 rfl rfl
set_option maxRecDepth 100000 in
theorem km_X0_28 : xMN RX0 28 yX5_decel cX5_decel 2 (some .int) 1 := ⟨wB 261 rfl rfl, wB 104 rfl rfl, by decide +kernel, nB 158 rfl rfl⟩
set_option maxRecDepth 100000 in
theorem kv_X5_decel : xMV yX5_decel 5 RX5 TX5 5 := ⟨rfl, wB 260 rfl rfl, wB 3 rfl rfl⟩
set_option maxRecDepth 100000 in
theorem km_X5_41 : xMM RX5 41 Lib.Math.max.name Lib.Math.max.code := ⟨wB 262 rfl rfl, wB 253 rfl rfl, wB 108 rfl rfl, wB 254 rfl rfl⟩
set_option maxRecDepth 100000 in
theorem km_X0_32 : xMM RX0 32 Lib.Math.min.name Lib.Math.min.code := ⟨wB 263 rfl rfl, wB 264 rfl rfl, wB 108 rfl rfl, wB 265 rfl rfl⟩
set_option maxRecDepth 100000 in
theorem km_X7_18 : xMN RX7 18 yX1_init cX1_init 2 none 0 := ⟨wB 286 rfl rfl, wB 109 rfl rfl, by decide +kernel, nB 184 rfl rfl⟩
set_option maxRecDepth 100000 in
theorem ki_X1_init : Cond.instanceMethod yX1_init ∈ wBig := wB 285 rfl rfl
set_option maxRecDepth 100000 in
theorem km_X1_15 : xMN RX1 15 yX4_init cX4_init 1 none 0 := ⟨wB 134 rfl rfl, wB 103 rfl rfl, by decide +kernel, nB 190 rfl rfl⟩
set_option maxRecDepth 100000 in
theorem km_X7_25 : xMN RX7 25 yX3_init cX3_init 1 none 0 := ⟨wB 306 rfl rfl, wB 110 rfl rfl, by decide +kernel, nB 204 rfl rfl⟩
set_option maxRecDepth 100000 in
theorem ki_X3_init : Cond.instanceMethod yX3_init ∈ wBig := wB 305 rfl rfl
set_option maxRecDepth 100000 in
theorem km_L_13 : xML RL 13 yX7_lengthens cX7_lengthens 2 (some .int) 1 := ⟨wB 366 rfl rfl, wB 101 rfl rfl, by decide +kernel, wB 363 rfl rfl⟩
set_option maxRecDepth 100000 in
theorem kv_X7_lengthens : xMV yX7_lengthens 7 RX7 TX7 8 := ⟨rfl, wB 364 rfl rfl, wB 365 rfl rfl⟩
set_option maxRecDepth 100000 in
theorem km_X7_38 : xMN RX7 38 yX1_notes cX1_notes 2 none 1 := ⟨wB 370 rfl rfl, wB 109 rfl rfl, by decide +kernel, nB 267 rfl rfl⟩
set_option maxRecDepth 100000 in
theorem kv_X1_notes : xMV yX1_notes 1 RX1 TX1 3 := ⟨rfl, wB 369 rfl rfl, wB 4 rfl rfl⟩
set_option maxRecDepth 100000 in
theorem km_X1_20 : xMN RX1 20 yX4_copies cX4_copies 2 none 1 := ⟨wB 374 rfl rfl, wB 103 rfl rfl, by decide +kernel, nB 271 rfl rfl⟩
set_option maxRecDepth 100000 in
theorem kv_X4_copies : xMV yX4_copies 4 RX4 TX4 2 := ⟨rfl, wB 373 rfl rfl, wB 5 rfl rfl⟩
set_option maxRecDepth 100000 in
theorem km_X4_23 : xMN RX4 23 yX5_copies cX5_copies 2 none 1 := ⟨wB 378 rfl rfl, wB 104 rfl rfl, by decide +kernel, nB 275 rfl rfl⟩
set_option maxRecDepth 100000 in
theorem kv_X5_copies : xMV yX5_copies 5 RX5 TX5 5 := ⟨rfl, wB 377 rfl rfl, wB 6 rfl rfl⟩
set_option maxRecDepth 100000 in
theorem km_X4_27 : xMN RX4 27 yX6_copies cX6_copies 2 none 1 := ⟨wB 382 rfl rfl, wB 106 rfl rfl, by decide +kernel, nB 279 rfl rfl⟩
set_option maxRecDepth 100000 in
theorem kv_X6_copies : xMV yX6_copies 6 RX6 TX6 8 := ⟨rfl, wB 381 rfl rfl, wB 7 rfl rfl⟩
set_option maxRecDepth 100000 in
theorem km_X7_42 : xMN RX7 42 yX2_resizes cX2_resizes 3 (some .int) 1 := ⟨wB 386 rfl rfl, wB 102 rfl rfl, by decide +kernel, nB 283 rfl rfl⟩
set_option maxRecDepth 100000 in
theorem kv_X2_resizes : xMV yX2_resizes 2 RX2 TX2 4 := ⟨rfl, wB 385 rfl rfl, wB 8 rfl rfl⟩
set_option maxRecDepth 100000 in
theorem km_X2_42 : xMN RX2 42 yX5_resized cX5_resized 4 (some .int) 1 := ⟨wB 390 rfl rfl, wB 104 rfl rfl, by decide +kernel, nB 287 rfl rfl⟩
set_option maxRecDepth 100000 in
theorem kv_X5_resized : xMV yX5_resized 5 RX5 TX5 5 := ⟨rfl, wB 389 rfl rfl, wB 9 rfl rfl⟩
set_option maxRecDepth 100000 in
theorem km_X5_37 : xMN RX5 37 yX7_within cX7_within 3 (some .boolean) 3 := ⟨wB 393 rfl rfl, wB 101 rfl rfl, by decide +kernel, nB 291 rfl rfl⟩
set_option maxRecDepth 100000 in
theorem ks_X7_within : Cond.static yX7_within ∈ wBig := wB 392 rfl rfl
set_option maxRecDepth 100000 in
theorem km_X2_48 : xMN RX2 48 yX6_puts cX6_puts 3 none 2 := ⟨wB 397 rfl rfl, wB 106 rfl rfl, by decide +kernel, nB 294 rfl rfl⟩
set_option maxRecDepth 100000 in
theorem kv_X6_puts : xMV yX6_puts 6 RX6 TX6 8 := ⟨rfl, wB 396 rfl rfl, wB 10 rfl rfl⟩
set_option maxRecDepth 100000 in
theorem km_X6_36 : xML RX6 36 yX6_knowsPlace cX6_knowsPlace 1 none 0 := ⟨wB 401 rfl rfl, wB 106 rfl rfl, by decide +kernel, wB 398 rfl rfl⟩
set_option maxRecDepth 100000 in
theorem kv_X6_knowsPlace : xMV yX6_knowsPlace 6 RX6 TX6 8 := ⟨rfl, wB 400 rfl rfl, wB 11 rfl rfl⟩
set_option maxRecDepth 100000 in
theorem km_X7_46 : xML RX7 46 yX7_redrawn cX7_redrawn 2 (some .int) 1 := ⟨wB 405 rfl rfl, wB 101 rfl rfl, by decide +kernel, wB 402 rfl rfl⟩
set_option maxRecDepth 100000 in
theorem kv_X7_redrawn : xMV yX7_redrawn 7 RX7 TX7 8 := ⟨rfl, wB 404 rfl rfl, wB 12 rfl rfl⟩
set_option maxRecDepth 100000 in
theorem km_X7_160 : xMN RX7 160 yX2_redraws cX2_redraws 1 none 0 := ⟨wB 243 rfl rfl, wB 102 rfl rfl, by decide +kernel, nB 306 rfl rfl⟩
set_option maxRecDepth 100000 in
theorem km_X7_63 : xML RX7 63 yX7_settled cX7_settled 2 (some .int) 1 := ⟨wB 410 rfl rfl, wB 101 rfl rfl, by decide +kernel, wB 407 rfl rfl⟩
set_option maxRecDepth 100000 in
theorem kv_X7_settled : xMV yX7_settled 7 RX7 TX7 8 := ⟨rfl, wB 409 rfl rfl, wB 13 rfl rfl⟩
set_option maxRecDepth 100000 in
theorem km_X7_163 : xMN RX7 163 yX1_keeps cX1_keeps 1 none 0 := ⟨wB 414 rfl rfl, wB 109 rfl rfl, by decide +kernel, nB 311 rfl rfl⟩
set_option maxRecDepth 100000 in
theorem kv_X1_keeps : xMV yX1_keeps 1 RX1 TX1 3 := ⟨rfl, wB 413 rfl rfl, wB 14 rfl rfl⟩
set_option maxRecDepth 100000 in
theorem km_X1_27 : xMM RX1 27 Lib.Math.min.name Lib.Math.min.code := ⟨wB 415 rfl rfl, wB 264 rfl rfl, wB 108 rfl rfl, wB 265 rfl rfl⟩
set_option maxRecDepth 100000 in
theorem km_X7_72 : xML RX7 72 yX7_counted cX7_counted 2 (some .int) 1 := ⟨wB 419 rfl rfl, wB 101 rfl rfl, by decide +kernel, wB 416 rfl rfl⟩
set_option maxRecDepth 100000 in
theorem kv_X7_counted : xMV yX7_counted 7 RX7 TX7 8 := ⟨rfl, wB 418 rfl rfl, wB 15 rfl rfl⟩
set_option maxRecDepth 100000 in
theorem km_L_18 : xML RL 18 yX7_lays cX7_lays 5 (some .int) 4 := ⟨wB 423 rfl rfl, wB 101 rfl rfl, by decide +kernel, wB 420 rfl rfl⟩
set_option maxRecDepth 100000 in
theorem kv_X7_lays : xMV yX7_lays 7 RX7 TX7 8 := ⟨rfl, wB 421 rfl rfl, wB 422 rfl rfl⟩
set_option maxRecDepth 100000 in
theorem km_X7_53 : xMN RX7 53 yX5_relaid cX5_relaid 5 (some .int) 4 := ⟨wB 427 rfl rfl, wB 104 rfl rfl, by decide +kernel, nB 324 rfl rfl⟩
set_option maxRecDepth 100000 in
theorem kv_X5_relaid : xMV yX5_relaid 5 RX5 TX5 5 := ⟨rfl, wB 426 rfl rfl, wB 16 rfl rfl⟩
set_option maxRecDepth 100000 in
theorem km_X5_47 : xML RX5 47 yX5_has cX5_has 2 (some .boolean) 1 := ⟨wB 431 rfl rfl, wB 104 rfl rfl, by decide +kernel, wB 428 rfl rfl⟩
set_option maxRecDepth 100000 in
theorem kv_X5_has : xMV yX5_has 5 RX5 TX5 5 := ⟨rfl, wB 430 rfl rfl, wB 17 rfl rfl⟩
set_option maxRecDepth 100000 in
theorem km_X5_51 : xML RX5 51 yX5_filled cX5_filled 6 (some .int) 4 := ⟨wB 434 rfl rfl, wB 104 rfl rfl, by decide +kernel, wB 432 rfl rfl⟩
set_option maxRecDepth 100000 in
theorem ks_X5_filled : Cond.static yX5_filled ∈ wBig := wB 433 rfl rfl
set_option maxRecDepth 100000 in
theorem km_L_23 : xML RL 23 yX7_beacon cX7_beacon 3 (some .int) 2 := ⟨wB 438 rfl rfl, wB 101 rfl rfl, by decide +kernel, wB 435 rfl rfl⟩
set_option maxRecDepth 100000 in
theorem kv_X7_beacon : xMV yX7_beacon 7 RX7 TX7 8 := ⟨rfl, wB 436 rfl rfl, wB 437 rfl rfl⟩
set_option maxRecDepth 100000 in
theorem km_X7_59 : xMN RX7 59 yX5_marked cX5_marked 4 (some .int) 2 := ⟨wB 442 rfl rfl, wB 104 rfl rfl, by decide +kernel, nB 339 rfl rfl⟩
set_option maxRecDepth 100000 in
theorem kv_X5_marked : xMV yX5_marked 5 RX5 TX5 5 := ⟨rfl, wB 441 rfl rfl, wB 18 rfl rfl⟩
set_option maxRecDepth 100000 in
theorem km_L_28 : xML RL 28 yX7_sets cX7_sets 3 (some .int) 2 := ⟨wB 446 rfl rfl, wB 101 rfl rfl, by decide +kernel, wB 443 rfl rfl⟩
set_option maxRecDepth 100000 in
theorem kv_X7_sets : xMV yX7_sets 7 RX7 TX7 8 := ⟨rfl, wB 444 rfl rfl, wB 445 rfl rfl⟩
set_option maxRecDepth 100000 in
theorem km_X7_66 : xMN RX7 66 yX5_adjusted cX5_adjusted 4 (some .int) 2 := ⟨wB 450 rfl rfl, wB 104 rfl rfl, by decide +kernel, nB 347 rfl rfl⟩
set_option maxRecDepth 100000 in
theorem kv_X5_adjusted : xMV yX5_adjusted 5 RX5 TX5 5 := ⟨rfl, wB 449 rfl rfl, wB 19 rfl rfl⟩
set_option maxRecDepth 100000 in
theorem km_L_32 : xML RL 32 yX7_cell cX7_cell 3 (some .int) 2 := ⟨wB 458 rfl rfl, wB 101 rfl rfl, by decide +kernel, wB 455 rfl rfl⟩
set_option maxRecDepth 100000 in
theorem kv_X7_cell : xMV yX7_cell 7 RX7 TX7 8 := ⟨rfl, wB 456 rfl rfl, wB 457 rfl rfl⟩
set_option maxRecDepth 100000 in
theorem km_X7_69 : xMN RX7 69 yX2_cellValue cX2_cellValue 3 (some .int) 2 := ⟨wB 462 rfl rfl, wB 102 rfl rfl, by decide +kernel, nB 359 rfl rfl⟩
set_option maxRecDepth 100000 in
theorem kv_X2_cellValue : xMV yX2_cellValue 2 RX2 TX2 4 := ⟨rfl, wB 461 rfl rfl, wB 20 rfl rfl⟩
set_option maxRecDepth 100000 in
theorem km_X2_54 : xMN RX2 54 yX5_has cX5_has 2 (some .boolean) 1 := ⟨wB 431 rfl rfl, wB 104 rfl rfl, by decide +kernel, nB 363 rfl rfl⟩
set_option maxRecDepth 100000 in
theorem km_X2_68 : xMN RX2 68 yX5_decel cX5_decel 2 (some .int) 1 := ⟨wB 261 rfl rfl, wB 104 rfl rfl, by decide +kernel, nB 364 rfl rfl⟩
set_option maxRecDepth 100000 in
theorem km_L_36 : xML RL 36 yX7_lawful cX7_lawful 2 (some .int) 1 := ⟨wB 468 rfl rfl, wB 101 rfl rfl, by decide +kernel, wB 465 rfl rfl⟩
set_option maxRecDepth 100000 in
theorem kv_X7_lawful : xMV yX7_lawful 7 RX7 TX7 8 := ⟨rfl, wB 466 rfl rfl, wB 467 rfl rfl⟩
set_option maxRecDepth 100000 in
theorem km_X7_75 : xMN RX7 75 yX5_has cX5_has 2 (some .boolean) 1 := ⟨wB 431 rfl rfl, wB 104 rfl rfl, by decide +kernel, nB 369 rfl rfl⟩
set_option maxRecDepth 100000 in
theorem km_L_40 : xML RL 40 yX7_permitted cX7_permitted 2 (some .int) 1 := ⟨wB 473 rfl rfl, wB 101 rfl rfl, by decide +kernel, wB 470 rfl rfl⟩
set_option maxRecDepth 100000 in
theorem kv_X7_permitted : xMV yX7_permitted 7 RX7 TX7 8 := ⟨rfl, wB 471 rfl rfl, wB 472 rfl rfl⟩
set_option maxRecDepth 100000 in
theorem km_X7_89 : xML RX7 89 yX7_root cX7_root 4 (some .int) 1 := ⟨wB 476 rfl rfl, wB 101 rfl rfl, by decide +kernel, wB 474 rfl rfl⟩
set_option maxRecDepth 100000 in
theorem ks_X7_root : Cond.static yX7_root ∈ wBig := wB 475 rfl rfl
set_option maxRecDepth 100000 in
theorem km_L_44 : xML RL 44 yX7_bound cX7_bound 2 (some .int) 1 := ⟨wB 480 rfl rfl, wB 101 rfl rfl, by decide +kernel, wB 477 rfl rfl⟩
set_option maxRecDepth 100000 in
theorem kv_X7_bound : xMV yX7_bound 7 RX7 TX7 8 := ⟨rfl, wB 478 rfl rfl, wB 479 rfl rfl⟩
set_option maxRecDepth 100000 in
theorem km_X7_92 : xMN RX7 92 yX0_boundOf cX0_boundOf 5 (some .int) 2 := ⟨wB 484 rfl rfl, wB 107 rfl rfl, by decide +kernel, nB 381 rfl rfl⟩
set_option maxRecDepth 100000 in
theorem kv_X0_boundOf : xMV yX0_boundOf 0 RX0 TX0 2 := ⟨rfl, wB 483 rfl rfl, wB 21 rfl rfl⟩
set_option maxRecDepth 100000 in
theorem km_L_48 : xML RL 48 yX7_stands cX7_stands 4 (some .int) 2 := ⟨wB 488 rfl rfl, wB 101 rfl rfl, by decide +kernel, wB 485 rfl rfl⟩
set_option maxRecDepth 100000 in
theorem kv_X7_stands : xMV yX7_stands 7 RX7 TX7 8 := ⟨rfl, wB 486 rfl rfl, wB 487 rfl rfl⟩
set_option maxRecDepth 100000 in
theorem km_X7_96 : xML RX7 96 yX7_within cX7_within 3 (some .boolean) 3 := ⟨wB 393 rfl rfl, wB 101 rfl rfl, by decide +kernel, wB 489 rfl rfl⟩
set_option maxRecDepth 100000 in
theorem km_X7_100 : xMN RX7 100 yX5_cellsToStand cX5_cellsToStand 5 (some .int) 2 := ⟨wB 493 rfl rfl, wB 104 rfl rfl, by decide +kernel, nB 390 rfl rfl⟩
set_option maxRecDepth 100000 in
theorem kv_X5_cellsToStand : xMV yX5_cellsToStand 5 RX5 TX5 5 := ⟨rfl, wB 492 rfl rfl, wB 22 rfl rfl⟩
set_option maxRecDepth 100000 in
theorem km_X5_61 : xML RX5 61 yX5_decel cX5_decel 2 (some .int) 1 := ⟨wB 261 rfl rfl, wB 104 rfl rfl, by decide +kernel, wB 494 rfl rfl⟩
set_option maxRecDepth 100000 in
theorem km_L_52 : xML RL 52 yX7_speed cX7_speed 4 (some .int) 2 := ⟨wB 498 rfl rfl, wB 101 rfl rfl, by decide +kernel, wB 495 rfl rfl⟩
set_option maxRecDepth 100000 in
theorem kv_X7_speed : xMV yX7_speed 7 RX7 TX7 8 := ⟨rfl, wB 496 rfl rfl, wB 497 rfl rfl⟩
set_option maxRecDepth 100000 in
theorem km_X7_103 : xMN RX7 103 yX5_fastestToStand cX5_fastestToStand 5 (some .int) 2 := ⟨wB 502 rfl rfl, wB 104 rfl rfl, by decide +kernel, nB 399 rfl rfl⟩
set_option maxRecDepth 100000 in
theorem kv_X5_fastestToStand : xMV yX5_fastestToStand 5 RX5 TX5 5 := ⟨rfl, wB 501 rfl rfl, wB 23 rfl rfl⟩
set_option maxRecDepth 100000 in
theorem km_X5_65 : xMN RX5 65 yX7_root cX7_root 4 (some .int) 1 := ⟨wB 476 rfl rfl, wB 101 rfl rfl, by decide +kernel, nB 403 rfl rfl⟩
set_option maxRecDepth 100000 in
theorem km_X5_68 : xMM RX5 68 Lib.Math.min.name Lib.Math.min.code := ⟨wB 504 rfl rfl, wB 264 rfl rfl, wB 108 rfl rfl, wB 265 rfl rfl⟩
set_option maxRecDepth 100000 in
theorem km_L_56 : xML RL 56 yX7_many cX7_many 2 (some .int) 1 := ⟨wB 508 rfl rfl, wB 101 rfl rfl, by decide +kernel, wB 505 rfl rfl⟩
set_option maxRecDepth 100000 in
theorem kv_X7_many : xMV yX7_many 7 RX7 TX7 8 := ⟨rfl, wB 506 rfl rfl, wB 507 rfl rfl⟩
set_option maxRecDepth 100000 in
theorem km_X7_106 : xMN RX7 106 yX2_countPermitted cX2_countPermitted 4 (some .int) 1 := ⟨wB 512 rfl rfl, wB 102 rfl rfl, by decide +kernel, nB 409 rfl rfl⟩
set_option maxRecDepth 100000 in
theorem kv_X2_countPermitted : xMV yX2_countPermitted 2 RX2 TX2 4 := ⟨rfl, wB 511 rfl rfl, wB 24 rfl rfl⟩
set_option maxRecDepth 100000 in
theorem km_X2_81 : xMN RX2 81 yX7_root cX7_root 4 (some .int) 1 := ⟨wB 476 rfl rfl, wB 101 rfl rfl, by decide +kernel, nB 413 rfl rfl⟩
set_option maxRecDepth 100000 in
theorem km_L_60 : xML RL 60 yX7_places cX7_places 3 (some .int) 2 := ⟨wB 517 rfl rfl, wB 101 rfl rfl, by decide +kernel, wB 514 rfl rfl⟩
set_option maxRecDepth 100000 in
theorem kv_X7_places : xMV yX7_places 7 RX7 TX7 8 := ⟨rfl, wB 515 rfl rfl, wB 516 rfl rfl⟩
set_option maxRecDepth 100000 in
theorem km_X7_109 : xMN RX7 109 yX2_putsTrain cX2_putsTrain 3 (some .int) 2 := ⟨wB 521 rfl rfl, wB 102 rfl rfl, by decide +kernel, nB 418 rfl rfl⟩
set_option maxRecDepth 100000 in
theorem kv_X2_putsTrain : xMV yX2_putsTrain 2 RX2 TX2 4 := ⟨rfl, wB 520 rfl rfl, wB 25 rfl rfl⟩
set_option maxRecDepth 100000 in
theorem km_X2_84 : xMN RX2 84 yX7_within cX7_within 3 (some .boolean) 3 := ⟨wB 393 rfl rfl, wB 101 rfl rfl, by decide +kernel, nB 422 rfl rfl⟩
set_option maxRecDepth 100000 in
theorem km_X2_88 : xML RX2 88 yX2_supervises cX2_supervises 2 none 0 := ⟨wB 526 rfl rfl, wB 102 rfl rfl, by decide +kernel, wB 523 rfl rfl⟩
set_option maxRecDepth 100000 in
theorem kv_X2_supervises : xMV yX2_supervises 2 RX2 TX2 4 := ⟨rfl, wB 525 rfl rfl, wB 26 rfl rfl⟩
set_option maxRecDepth 100000 in
theorem km_X2_120 : xML RX2 120 yX2_seen cX2_seen 1 (some .int) 0 := ⟨wB 530 rfl rfl, wB 102 rfl rfl, by decide +kernel, wB 527 rfl rfl⟩
set_option maxRecDepth 100000 in
theorem kv_X2_seen : xMV yX2_seen 2 RX2 TX2 4 := ⟨rfl, wB 529 rfl rfl, wB 27 rfl rfl⟩
set_option maxRecDepth 100000 in
theorem km_X2_134 : xML RX2 134 yX2_spanFirst cX2_spanFirst 1 (some .int) 0 := ⟨wB 534 rfl rfl, wB 102 rfl rfl, by decide +kernel, wB 531 rfl rfl⟩
set_option maxRecDepth 100000 in
theorem kv_X2_spanFirst : xMV yX2_spanFirst 2 RX2 TX2 4 := ⟨rfl, wB 533 rfl rfl, wB 28 rfl rfl⟩
set_option maxRecDepth 100000 in
theorem km_X2_143 : xML RX2 143 yX2_kept cX2_kept 2 (some .int) 1 := ⟨wB 538 rfl rfl, wB 102 rfl rfl, by decide +kernel, wB 535 rfl rfl⟩
set_option maxRecDepth 100000 in
theorem kv_X2_kept : xMV yX2_kept 2 RX2 TX2 4 := ⟨rfl, wB 537 rfl rfl, wB 29 rfl rfl⟩
set_option maxRecDepth 100000 in
theorem km_X2_129 : xMM RX2 129 Lib.Math.min.name Lib.Math.min.code := ⟨wB 539 rfl rfl, wB 264 rfl rfl, wB 108 rfl rfl, wB 265 rfl rfl⟩
set_option maxRecDepth 100000 in
theorem km_X2_149 : xMM RX2 149 Lib.Math.max.name Lib.Math.max.code := ⟨wB 540 rfl rfl, wB 253 rfl rfl, wB 108 rfl rfl, wB 254 rfl rfl⟩
set_option maxRecDepth 100000 in
theorem km_X2_126 : xML RX2 126 yX2_spanLast cX2_spanLast 1 (some .int) 0 := ⟨wB 544 rfl rfl, wB 102 rfl rfl, by decide +kernel, wB 541 rfl rfl⟩
set_option maxRecDepth 100000 in
theorem kv_X2_spanLast : xMV yX2_spanLast 2 RX2 TX2 4 := ⟨rfl, wB 543 rfl rfl, wB 30 rfl rfl⟩
set_option maxRecDepth 100000 in
theorem km_X2_137 : xMN RX2 137 yX0_leastSquare cX0_leastSquare 5 (some .int) 2 := ⟨wB 548 rfl rfl, wB 107 rfl rfl, by decide +kernel, nB 445 rfl rfl⟩
set_option maxRecDepth 100000 in
theorem kv_X0_leastSquare : xMV yX0_leastSquare 0 RX0 TX0 2 := ⟨rfl, wB 547 rfl rfl, wB 31 rfl rfl⟩
set_option maxRecDepth 100000 in
theorem km_L_64 : xML RL 64 yX7_steps cX7_steps 2 (some .int) 1 := ⟨wB 552 rfl rfl, wB 101 rfl rfl, by decide +kernel, wB 549 rfl rfl⟩
set_option maxRecDepth 100000 in
theorem kv_X7_steps : xMV yX7_steps 7 RX7 TX7 8 := ⟨rfl, wB 550 rfl rfl, wB 551 rfl rfl⟩
set_option maxRecDepth 100000 in
theorem km_X7_112 : xMN RX7 112 yX2_stepsOnce cX2_stepsOnce 2 (some .int) 1 := ⟨wB 556 rfl rfl, wB 102 rfl rfl, by decide +kernel, nB 453 rfl rfl⟩
set_option maxRecDepth 100000 in
theorem kv_X2_stepsOnce : xMV yX2_stepsOnce 2 RX2 TX2 4 := ⟨rfl, wB 555 rfl rfl, wB 32 rfl rfl⟩
set_option maxRecDepth 100000 in
theorem km_X2_94 : xML RX2 94 yX2_goesOn cX2_goesOn 5 (some .boolean) 1 := ⟨wB 560 rfl rfl, wB 102 rfl rfl, by decide +kernel, wB 557 rfl rfl⟩
set_option maxRecDepth 100000 in
theorem kv_X2_goesOn : xMV yX2_goesOn 2 RX2 TX2 4 := ⟨rfl, wB 559 rfl rfl, wB 33 rfl rfl⟩
set_option maxRecDepth 100000 in
theorem km_X2_104 : xML RX2 104 yX2_gain cX2_gain 5 (some .int) 2 := ⟨wB 564 rfl rfl, wB 102 rfl rfl, by decide +kernel, wB 561 rfl rfl⟩
set_option maxRecDepth 100000 in
theorem kv_X2_gain : xMV yX2_gain 2 RX2 TX2 4 := ⟨rfl, wB 563 rfl rfl, wB 34 rfl rfl⟩
set_option maxRecDepth 100000 in
theorem km_X2_111 : xMN RX2 111 yX6_goesOn cX6_goesOn 3 none 2 := ⟨wB 568 rfl rfl, wB 106 rfl rfl, by decide +kernel, nB 465 rfl rfl⟩
set_option maxRecDepth 100000 in
theorem kv_X6_goesOn : xMV yX6_goesOn 6 RX6 TX6 8 := ⟨rfl, wB 567 rfl rfl, wB 35 rfl rfl⟩
set_option maxRecDepth 100000 in
theorem km_L_68 : xML RL 68 yX7_drives cX7_drives 2 (some .int) 1 := ⟨wB 572 rfl rfl, wB 101 rfl rfl, by decide +kernel, wB 569 rfl rfl⟩
set_option maxRecDepth 100000 in
theorem kv_X7_drives : xMV yX7_drives 7 RX7 TX7 8 := ⟨rfl, wB 570 rfl rfl, wB 571 rfl rfl⟩
set_option maxRecDepth 100000 in
theorem km_X7_115 : xMN RX7 115 yX2_stepsByDriver cX2_stepsByDriver 3 (some .int) 1 := ⟨wB 576 rfl rfl, wB 102 rfl rfl, by decide +kernel, nB 473 rfl rfl⟩
set_option maxRecDepth 100000 in
theorem kv_X2_stepsByDriver : xMV yX2_stepsByDriver 2 RX2 TX2 4 := ⟨rfl, wB 575 rfl rfl, wB 36 rfl rfl⟩
set_option maxRecDepth 100000 in
theorem km_X2_97 : xML RX2 97 yX2_driverHandle cX2_driverHandle 4 (some .int) 0 := ⟨wB 580 rfl rfl, wB 102 rfl rfl, by decide +kernel, wB 577 rfl rfl⟩
set_option maxRecDepth 100000 in
theorem kv_X2_driverHandle : xMV yX2_driverHandle 2 RX2 TX2 4 := ⟨rfl, wB 579 rfl rfl, wB 37 rfl rfl⟩
set_option maxRecDepth 100000 in
theorem km_L_72 : xML RL 72 yX7_frees cX7_frees 1 (some .int) 0 := ⟨wB 584 rfl rfl, wB 101 rfl rfl, by decide +kernel, wB 581 rfl rfl⟩
set_option maxRecDepth 100000 in
theorem kv_X7_frees : xMV yX7_frees 7 RX7 TX7 8 := ⟨rfl, wB 582 rfl rfl, wB 583 rfl rfl⟩
set_option maxRecDepth 100000 in
theorem km_X7_118 : xMN RX7 118 yX2_releases cX2_releases 1 (some .int) 0 := ⟨wB 588 rfl rfl, wB 102 rfl rfl, by decide +kernel, nB 485 rfl rfl⟩
set_option maxRecDepth 100000 in
theorem kv_X2_releases : xMV yX2_releases 2 RX2 TX2 4 := ⟨rfl, wB 587 rfl rfl, wB 38 rfl rfl⟩
set_option maxRecDepth 100000 in
theorem km_L_77 : xML RL 77 yX7_train cX7_train 2 (some .int) 1 := ⟨wB 592 rfl rfl, wB 101 rfl rfl, by decide +kernel, wB 589 rfl rfl⟩
set_option maxRecDepth 100000 in
theorem kv_X7_train : xMV yX7_train 7 RX7 TX7 8 := ⟨rfl, wB 590 rfl rfl, wB 591 rfl rfl⟩
set_option maxRecDepth 100000 in
theorem km_X7_122 : xMN RX7 122 yX2_trainValue cX2_trainValue 2 (some .int) 1 := ⟨wB 596 rfl rfl, wB 102 rfl rfl, by decide +kernel, nB 493 rfl rfl⟩
set_option maxRecDepth 100000 in
theorem kv_X2_trainValue : xMV yX2_trainValue 2 RX2 TX2 4 := ⟨rfl, wB 595 rfl rfl, wB 39 rfl rfl⟩
set_option maxRecDepth 100000 in
theorem km_L_81 : xML RL 81 yX7_type cX7_type 2 (some .int) 1 := ⟨wB 600 rfl rfl, wB 101 rfl rfl, by decide +kernel, wB 597 rfl rfl⟩
set_option maxRecDepth 100000 in
theorem kv_X7_type : xMV yX7_type 7 RX7 TX7 8 := ⟨rfl, wB 598 rfl rfl, wB 599 rfl rfl⟩
set_option maxRecDepth 100000 in
theorem km_X7_125 : xMN RX7 125 yX3_adds cX3_adds 2 (some .int) 1 := ⟨wB 604 rfl rfl, wB 110 rfl rfl, by decide +kernel, nB 501 rfl rfl⟩
set_option maxRecDepth 100000 in
theorem kv_X3_adds : xMV yX3_adds 3 RX3 TX3 8 := ⟨rfl, wB 603 rfl rfl, wB 40 rfl rfl⟩
set_option maxRecDepth 100000 in
theorem km_X3_21 : xMN RX3 21 yX7_within cX7_within 3 (some .boolean) 3 := ⟨wB 393 rfl rfl, wB 101 rfl rfl, by decide +kernel, nB 505 rfl rfl⟩
set_option maxRecDepth 100000 in
theorem km_L_85 : xML RL 85 yX7_clear cX7_clear 1 (some .int) 0 := ⟨wB 609 rfl rfl, wB 101 rfl rfl, by decide +kernel, wB 606 rfl rfl⟩
set_option maxRecDepth 100000 in
theorem kv_X7_clear : xMV yX7_clear 7 RX7 TX7 8 := ⟨rfl, wB 607 rfl rfl, wB 608 rfl rfl⟩
set_option maxRecDepth 100000 in
theorem km_X7_128 : xMN RX7 128 yX3_empties cX3_empties 2 (some .int) 0 := ⟨wB 613 rfl rfl, wB 110 rfl rfl, by decide +kernel, nB 510 rfl rfl⟩
set_option maxRecDepth 100000 in
theorem kv_X3_empties : xMV yX3_empties 3 RX3 TX3 8 := ⟨rfl, wB 612 rfl rfl, wB 41 rfl rfl⟩
set_option maxRecDepth 100000 in
theorem km_L_89 : xML RL 89 yX7_does cX7_does 2 (some .int) 0 := ⟨wB 617 rfl rfl, wB 101 rfl rfl, by decide +kernel, wB 614 rfl rfl⟩
set_option maxRecDepth 100000 in
theorem kv_X7_does : xMV yX7_does 7 RX7 TX7 8 := ⟨rfl, wB 615 rfl rfl, wB 616 rfl rfl⟩
set_option maxRecDepth 100000 in
theorem km_X7_131 : xMN RX7 131 yX3_isReadable cX3_isReadable 2 (some .boolean) 0 := ⟨wB 621 rfl rfl, wB 110 rfl rfl, by decide +kernel, nB 518 rfl rfl⟩
set_option maxRecDepth 100000 in
theorem kv_X3_isReadable : xMV yX3_isReadable 3 RX3 TX3 8 := ⟨rfl, wB 620 rfl rfl, wB 42 rfl rfl⟩
set_option maxRecDepth 100000 in
theorem km_X3_32 : xML RX3 32 yX3_readsOrder cX3_readsOrder 7 (some .boolean) 1 := ⟨wB 625 rfl rfl, wB 110 rfl rfl, by decide +kernel, wB 622 rfl rfl⟩
set_option maxRecDepth 100000 in
theorem kv_X3_readsOrder : xMV yX3_readsOrder 3 RX3 TX3 8 := ⟨rfl, wB 624 rfl rfl, wB 43 rfl rfl⟩
set_option maxRecDepth 100000 in
theorem km_X3_39 : xML RX3 39 yX3_skipsBlanks cX3_skipsBlanks 1 none 0 := ⟨wB 629 rfl rfl, wB 110 rfl rfl, by decide +kernel, wB 626 rfl rfl⟩
set_option maxRecDepth 100000 in
theorem kv_X3_skipsBlanks : xMV yX3_skipsBlanks 3 RX3 TX3 8 := ⟨rfl, wB 628 rfl rfl, wB 44 rfl rfl⟩
set_option maxRecDepth 100000 in
theorem km_X3_46 : xML RX3 46 yX3_skipsLetters cX3_skipsLetters 1 none 0 := ⟨wB 633 rfl rfl, wB 110 rfl rfl, by decide +kernel, wB 630 rfl rfl⟩
set_option maxRecDepth 100000 in
theorem kv_X3_skipsLetters : xMV yX3_skipsLetters 3 RX3 TX3 8 := ⟨rfl, wB 632 rfl rfl, wB 45 rfl rfl⟩
set_option maxRecDepth 100000 in
theorem km_X3_42 : xML RX3 42 yX3_faulty cX3_faulty 3 (some .boolean) 2 := ⟨wB 637 rfl rfl, wB 110 rfl rfl, by decide +kernel, wB 634 rfl rfl⟩
set_option maxRecDepth 100000 in
theorem kv_X3_faulty : xMV yX3_faulty 3 RX3 TX3 8 := ⟨rfl, wB 636 rfl rfl, wB 46 rfl rfl⟩
set_option maxRecDepth 100000 in
theorem km_X3_49 : xML RX3 49 yX3_wordBetween cX3_wordBetween 4 (some .int) 2 := ⟨wB 641 rfl rfl, wB 110 rfl rfl, by decide +kernel, wB 638 rfl rfl⟩
set_option maxRecDepth 100000 in
theorem kv_X3_wordBetween : xMV yX3_wordBetween 3 RX3 TX3 8 := ⟨rfl, wB 640 rfl rfl, wB 47 rfl rfl⟩
set_option maxRecDepth 100000 in
theorem km_X3_70 : xML RX3 70 yX3_spelling cX3_spelling 1 (some ((.object "java/lang/String"))) 1 := ⟨wB 644 rfl rfl, wB 110 rfl rfl, by decide +kernel, wB 642 rfl rfl⟩
set_option maxRecDepth 100000 in
theorem ks_X3_spelling : Cond.static yX3_spelling ∈ wBig := wB 643 rfl rfl
set_option maxRecDepth 100000 in
theorem km_X3_74 : xML RX3 74 yX3_spells cX3_spells 5 (some .boolean) 3 := ⟨wB 657 rfl rfl, wB 110 rfl rfl, by decide +kernel, wB 654 rfl rfl⟩
set_option maxRecDepth 100000 in
theorem kv_X3_spells : xMV yX3_spells 3 RX3 TX3 8 := ⟨rfl, wB 656 rfl rfl, wB 48 rfl rfl⟩
set_option maxRecDepth 100000 in
theorem km_X3_78 : xML RX3 78 yJ0_length_8abf5 cJ0_length_8abf5 1 (some .int) 0 := ⟨wB 661 rfl rfl, wB 112 rfl rfl, by decide +kernel, wB 658 rfl rfl⟩
set_option maxRecDepth 100000 in
theorem ki_J0_length_8abf5 : Cond.instanceMethod yJ0_length_8abf5 ∈ wBig := wB 659 rfl rfl
set_option maxRecDepth 100000 in
theorem km_J0_335 : xML RJ0 335 yJ0_coder_7d493 cJ0_coder_7d493 1 (some .byte) 0 := ⟨wB 665 rfl rfl, wB 112 rfl rfl, by decide +kernel, wB 662 rfl rfl⟩
set_option maxRecDepth 100000 in
theorem ki_J0_coder_7d493 : Cond.instanceMethod yJ0_coder_7d493 ∈ wBig := wB 663 rfl rfl
set_option maxRecDepth 100000 in
theorem km_X3_84 : xML RX3 84 yJ0_charAt_5068e cJ0_charAt_5068e 2 (some .char) 1 := ⟨wB 671 rfl rfl, wB 112 rfl rfl, by decide +kernel, wB 668 rfl rfl⟩
set_option maxRecDepth 100000 in
theorem ki_J0_charAt_5068e : Cond.instanceMethod yJ0_charAt_5068e ∈ wBig := wB 669 rfl rfl
set_option maxRecDepth 100000 in
theorem km_J0_492 : xML RJ0 492 yJ0_isLatin1_aae02 cJ0_isLatin1_aae02 1 (some .boolean) 0 := ⟨wB 675 rfl rfl, wB 112 rfl rfl, by decide +kernel, wB 672 rfl rfl⟩
set_option maxRecDepth 100000 in
theorem ki_J0_isLatin1_aae02 : Cond.instanceMethod yJ0_isLatin1_aae02 ∈ wBig := wB 673 rfl rfl
set_option maxRecDepth 100000 in
theorem km_J0_495 : xML RJ0 495 yJ1_charAt_3b067 cJ1_charAt_3b067 2 (some .char) 2 := ⟨wB 678 rfl rfl, wB 113 rfl rfl, by decide +kernel, wB 676 rfl rfl⟩
set_option maxRecDepth 100000 in
theorem ks_J1_charAt_3b067 : Cond.static yJ1_charAt_3b067 ∈ wBig := wB 677 rfl rfl
set_option maxRecDepth 100000 in
theorem km_J1_9 : xML RJ1 9 yJ0_checkIndex_df160 cJ0_checkIndex_df160 2 none 2 := ⟨wB 681 rfl rfl, wB 112 rfl rfl, by decide +kernel, wB 679 rfl rfl⟩
set_option maxRecDepth 100000 in
theorem ks_J0_checkIndex_df160 : Cond.static yJ0_checkIndex_df160 ∈ wBig := wB 680 rfl rfl
set_option maxRecDepth 100000 in
theorem km_J0_1059 : xML RJ0 1059 yJ3_checkIndex_8e157 cJ3_checkIndex_8e157 3 (some .int) 3 := ⟨wB 686 rfl rfl, wB 114 rfl rfl, by decide +kernel, wB 684 rfl rfl⟩
set_option maxRecDepth 100000 in
theorem ks_J3_checkIndex_8e157 : Cond.static yJ3_checkIndex_8e157 ∈ wBig := wB 685 rfl rfl
set_option maxRecDepth 100000 in
theorem km_J0_498 : xML RJ0 498 yJ2_charAt_3b067 cJ2_charAt_3b067 2 (some .char) 2 := ⟨wB 689 rfl rfl, wB 115 rfl rfl, by decide +kernel, wB 687 rfl rfl⟩
set_option maxRecDepth 100000 in
theorem ks_J2_charAt_3b067 : Cond.static yJ2_charAt_3b067 ∈ wBig := wB 688 rfl rfl
set_option maxRecDepth 100000 in
theorem km_J2_67 : xML RJ2 67 yJ2_checkIndex_2214a cJ2_checkIndex_2214a 2 none 2 := ⟨wB 692 rfl rfl, wB 115 rfl rfl, by decide +kernel, wB 690 rfl rfl⟩
set_option maxRecDepth 100000 in
theorem ks_J2_checkIndex_2214a : Cond.static yJ2_checkIndex_2214a ∈ wBig := wB 691 rfl rfl
set_option maxRecDepth 100000 in
theorem km_J2_48 : xML RJ2 48 yJ2_length_9d52b cJ2_length_9d52b 1 (some .int) 1 := ⟨wB 695 rfl rfl, wB 115 rfl rfl, by decide +kernel, wB 693 rfl rfl⟩
set_option maxRecDepth 100000 in
theorem ks_J2_length_9d52b : Cond.static yJ2_length_9d52b ∈ wBig := wB 694 rfl rfl
set_option maxRecDepth 100000 in
theorem km_J2_414 : xML RJ2 414 yJ0_checkIndex_df160 cJ0_checkIndex_df160 2 none 2 := ⟨wB 681 rfl rfl, wB 112 rfl rfl, by decide +kernel, wB 696 rfl rfl⟩
set_option maxRecDepth 100000 in
theorem km_J2_71 : xML RJ2 71 yJ2_getChar_3b067 cJ2_getChar_3b067 2 (some .char) 2 := ⟨wB 699 rfl rfl, wB 115 rfl rfl, by decide +kernel, wB 697 rfl rfl⟩
set_option maxRecDepth 100000 in
theorem ks_J2_getChar_3b067 : Cond.static yJ2_getChar_3b067 ∈ wBig := wB 698 rfl rfl
set_option maxRecDepth 100000 in
theorem km_X3_53 : xML RX3 53 yX3_readsNumber cX3_readsNumber 6 (some .boolean) 2 := ⟨wB 709 rfl rfl, wB 110 rfl rfl, by decide +kernel, wB 706 rfl rfl⟩
set_option maxRecDepth 100000 in
theorem kv_X3_readsNumber : xMV yX3_readsNumber 3 RX3 TX3 8 := ⟨rfl, wB 708 rfl rfl, wB 49 rfl rfl⟩
set_option maxRecDepth 100000 in
theorem km_X3_57 : xML RX3 57 yX3_isAt cX3_isAt 2 (some .boolean) 1 := ⟨wB 713 rfl rfl, wB 110 rfl rfl, by decide +kernel, wB 710 rfl rfl⟩
set_option maxRecDepth 100000 in
theorem kv_X3_isAt : xMV yX3_isAt 3 RX3 TX3 8 := ⟨rfl, wB 712 rfl rfl, wB 50 rfl rfl⟩
set_option maxRecDepth 100000 in
theorem km_X3_60 : xML RX3 60 yX3_isAtFigure cX3_isAtFigure 1 (some .boolean) 0 := ⟨wB 717 rfl rfl, wB 110 rfl rfl, by decide +kernel, wB 714 rfl rfl⟩
set_option maxRecDepth 100000 in
theorem kv_X3_isAtFigure : xMV yX3_isAtFigure 3 RX3 TX3 8 := ⟨rfl, wB 716 rfl rfl, wB 51 rfl rfl⟩
set_option maxRecDepth 100000 in
theorem km_X7_141 : xML RX7 141 yX7_blames cX7_blames 3 none 2 := ⟨wB 721 rfl rfl, wB 101 rfl rfl, by decide +kernel, wB 718 rfl rfl⟩
set_option maxRecDepth 100000 in
theorem kv_X7_blames : xMV yX7_blames 7 RX7 TX7 8 := ⟨rfl, wB 720 rfl rfl, wB 52 rfl rfl⟩
set_option maxRecDepth 100000 in
theorem km_X7_148 : xML RX7 148 yX7_obeys cX7_obeys 5 (some .int) 1 := ⟨wB 725 rfl rfl, wB 101 rfl rfl, by decide +kernel, wB 722 rfl rfl⟩
set_option maxRecDepth 100000 in
theorem kv_X7_obeys : xMV yX7_obeys 7 RX7 TX7 8 := ⟨rfl, wB 724 rfl rfl, wB 53 rfl rfl⟩
set_option maxRecDepth 100000 in
theorem km_X7_192 : xMN RX7 192 yX3_number cX3_number 3 (some .int) 2 := ⟨wB 729 rfl rfl, wB 110 rfl rfl, by decide +kernel, nB 626 rfl rfl⟩
set_option maxRecDepth 100000 in
theorem kv_X3_number : xMV yX3_number 3 RX3 TX3 8 := ⟨rfl, wB 728 rfl rfl, wB 54 rfl rfl⟩
set_option maxRecDepth 100000 in
theorem km_X7_151 : xMN RX7 151 yX1_noted cX1_noted 1 (some ((.object "SpeedWarden$State"))) 0 := ⟨wB 733 rfl rfl, wB 109 rfl rfl, by decide +kernel, nB 630 rfl rfl⟩
set_option maxRecDepth 100000 in
theorem kv_X1_noted : xMV yX1_noted 1 RX1 TX1 3 := ⟨rfl, wB 732 rfl rfl, wB 55 rfl rfl⟩
set_option maxRecDepth 100000 in
theorem km_X7_155 : xMN RX7 155 yX4_copies cX4_copies 2 none 1 := ⟨wB 374 rfl rfl, wB 103 rfl rfl, by decide +kernel, nB 634 rfl rfl⟩
set_option maxRecDepth 100000 in
theorem km_L_93 : xML RL 93 yX7_why cX7_why 2 (some .int) 1 := ⟨wB 739 rfl rfl, wB 101 rfl rfl, by decide +kernel, wB 736 rfl rfl⟩
set_option maxRecDepth 100000 in
theorem kv_X7_why : xMV yX7_why 7 RX7 TX7 8 := ⟨rfl, wB 737 rfl rfl, wB 738 rfl rfl⟩
set_option maxRecDepth 100000 in
theorem km_L_97 : xML RL 97 yX7_back cX7_back 1 (some .int) 0 := ⟨wB 743 rfl rfl, wB 101 rfl rfl, by decide +kernel, wB 740 rfl rfl⟩
set_option maxRecDepth 100000 in
theorem kv_X7_back : xMV yX7_back 7 RX7 TX7 8 := ⟨rfl, wB 741 rfl rfl, wB 742 rfl rfl⟩
set_option maxRecDepth 100000 in
theorem km_X7_170 : xMN RX7 170 yX1_takes cX1_takes 1 (some ((.object "SpeedWarden$State"))) 0 := ⟨wB 747 rfl rfl, wB 109 rfl rfl, by decide +kernel, nB 644 rfl rfl⟩
set_option maxRecDepth 100000 in
theorem kv_X1_takes : xMV yX1_takes 1 RX1 TX1 3 := ⟨rfl, wB 746 rfl rfl, wB 56 rfl rfl⟩
set_option maxRecDepth 100000 in
theorem km_L_101 : xML RL 101 yX7_told cX7_told 2 (some .int) 1 := ⟨wB 751 rfl rfl, wB 101 rfl rfl, by decide +kernel, wB 748 rfl rfl⟩
set_option maxRecDepth 100000 in
theorem kv_X7_told : xMV yX7_told 7 RX7 TX7 8 := ⟨rfl, wB 749 rfl rfl, wB 750 rfl rfl⟩
set_option maxRecDepth 100000 in
theorem km_X7_173 : xML RX7 173 yX7_toldValue cX7_toldValue 2 (some .int) 1 := ⟨wB 755 rfl rfl, wB 101 rfl rfl, by decide +kernel, wB 752 rfl rfl⟩
set_option maxRecDepth 100000 in
theorem kv_X7_toldValue : xMV yX7_toldValue 7 RX7 TX7 8 := ⟨rfl, wB 754 rfl rfl, wB 57 rfl rfl⟩
set_option maxRecDepth 100000 in
theorem km_L_105 : xML RL 105 yX7_digest cX7_digest 5 (some .long) 0 := ⟨wB 759 rfl rfl, wB 101 rfl rfl, by decide +kernel, wB 756 rfl rfl⟩
set_option maxRecDepth 100000 in
theorem kv_X7_digest : xMV yX7_digest 7 RX7 TX7 8 := ⟨rfl, wB 757 rfl rfl, wB 758 rfl rfl⟩
set_option maxRecDepth 100000 in
theorem km_L_12 : xML RL 12 yX8_init cX8_init 2 none 0 := ⟨wB 766 rfl rfl, wB 111 rfl rfl, by decide +kernel, wB 764 rfl rfl⟩
set_option maxRecDepth 100000 in
theorem ki_X8_init : Cond.instanceMethod yX8_init ∈ wBig := wB 765 rfl rfl
set_option maxRecDepth 100000 in
theorem km_L_17 : xML RL 17 yX8_lengthens cX8_lengthens 2 (some .int) 1 := ⟨wB 823 rfl rfl, wB 111 rfl rfl, by decide +kernel, wB 820 rfl rfl⟩
set_option maxRecDepth 100000 in
theorem kv_X8_lengthens : xMV yX8_lengthens 8 RX8 TX8 17 := ⟨rfl, wB 821 rfl rfl, wB 822 rfl rfl⟩
set_option maxRecDepth 100000 in
theorem km_X8_56 : xML RX8 56 yX8_mayLengthen cX8_mayLengthen 2 (some .boolean) 1 := ⟨wB 827 rfl rfl, wB 111 rfl rfl, by decide +kernel, wB 824 rfl rfl⟩
set_option maxRecDepth 100000 in
theorem kv_X8_mayLengthen : xMV yX8_mayLengthen 8 RX8 TX8 17 := ⟨rfl, wB 826 rfl rfl, wB 58 rfl rfl⟩
set_option maxRecDepth 100000 in
theorem km_X8_45 : xML RX8 45 yX8_in cX8_in 3 (some .boolean) 3 := ⟨wB 830 rfl rfl, wB 111 rfl rfl, by decide +kernel, wB 828 rfl rfl⟩
set_option maxRecDepth 100000 in
theorem ks_X8_in : Cond.static yX8_in ∈ wBig := wB 829 rfl rfl
set_option maxRecDepth 100000 in
theorem km_X8_60 : xML RX8 60 yX8_bad cX8_bad 1 (some .int) 0 := ⟨wB 834 rfl rfl, wB 111 rfl rfl, by decide +kernel, wB 831 rfl rfl⟩
set_option maxRecDepth 100000 in
theorem kv_X8_bad : xMV yX8_bad 8 RX8 TX8 17 := ⟨rfl, wB 833 rfl rfl, wB 59 rfl rfl⟩
set_option maxRecDepth 100000 in
theorem km_X8_64 : xML RX8 64 yX8_notes cX8_notes 2 none 0 := ⟨wB 838 rfl rfl, wB 111 rfl rfl, by decide +kernel, wB 835 rfl rfl⟩
set_option maxRecDepth 100000 in
theorem kv_X8_notes : xMV yX8_notes 8 RX8 TX8 17 := ⟨rfl, wB 837 rfl rfl, wB 60 rfl rfl⟩
set_option maxRecDepth 100000 in
theorem km_X8_41 : xML RX8 41 yX8_keepTo cX8_keepTo 3 none 1 := ⟨wB 842 rfl rfl, wB 111 rfl rfl, by decide +kernel, wB 839 rfl rfl⟩
set_option maxRecDepth 100000 in
theorem kv_X8_keepTo : xMV yX8_keepTo 8 RX8 TX8 17 := ⟨rfl, wB 841 rfl rfl, wB 61 rfl rfl⟩
set_option maxRecDepth 100000 in
theorem km_X8_67 : xML RX8 67 yX8_lengthen cX8_lengthen 4 (some .int) 1 := ⟨wB 846 rfl rfl, wB 111 rfl rfl, by decide +kernel, wB 843 rfl rfl⟩
set_option maxRecDepth 100000 in
theorem kv_X8_lengthen : xMV yX8_lengthen 8 RX8 TX8 17 := ⟨rfl, wB 845 rfl rfl, wB 62 rfl rfl⟩
set_option maxRecDepth 100000 in
theorem km_L_22 : xML RL 22 yX8_lays cX8_lays 5 (some .int) 4 := ⟨wB 850 rfl rfl, wB 111 rfl rfl, by decide +kernel, wB 847 rfl rfl⟩
set_option maxRecDepth 100000 in
theorem kv_X8_lays : xMV yX8_lays 8 RX8 TX8 17 := ⟨rfl, wB 848 rfl rfl, wB 849 rfl rfl⟩
set_option maxRecDepth 100000 in
theorem km_X8_73 : xML RX8 73 yX8_mayLay cX8_mayLay 6 (some .boolean) 4 := ⟨wB 854 rfl rfl, wB 111 rfl rfl, by decide +kernel, wB 851 rfl rfl⟩
set_option maxRecDepth 100000 in
theorem kv_X8_mayLay : xMV yX8_mayLay 8 RX8 TX8 17 := ⟨rfl, wB 853 rfl rfl, wB 63 rfl rfl⟩
set_option maxRecDepth 100000 in
theorem km_X8_70 : xML RX8 70 yX8_isCell cX8_isCell 2 (some .boolean) 1 := ⟨wB 858 rfl rfl, wB 111 rfl rfl, by decide +kernel, wB 855 rfl rfl⟩
set_option maxRecDepth 100000 in
theorem kv_X8_isCell : xMV yX8_isCell 8 RX8 TX8 17 := ⟨rfl, wB 857 rfl rfl, wB 64 rfl rfl⟩
set_option maxRecDepth 100000 in
theorem km_X8_77 : xML RX8 77 yX8_lay cX8_lay 7 (some .int) 4 := ⟨wB 862 rfl rfl, wB 111 rfl rfl, by decide +kernel, wB 859 rfl rfl⟩
set_option maxRecDepth 100000 in
theorem kv_X8_lay : xMV yX8_lay 8 RX8 TX8 17 := ⟨rfl, wB 861 rfl rfl, wB 65 rfl rfl⟩
set_option maxRecDepth 100000 in
theorem km_L_27 : xML RL 27 yX8_beacon cX8_beacon 3 (some .int) 2 := ⟨wB 866 rfl rfl, wB 111 rfl rfl, by decide +kernel, wB 863 rfl rfl⟩
set_option maxRecDepth 100000 in
theorem kv_X8_beacon : xMV yX8_beacon 8 RX8 TX8 17 := ⟨rfl, wB 864 rfl rfl, wB 865 rfl rfl⟩
set_option maxRecDepth 100000 in
theorem km_X8_81 : xML RX8 81 yX8_signal cX8_signal 4 (some .int) 2 := ⟨wB 870 rfl rfl, wB 111 rfl rfl, by decide +kernel, wB 867 rfl rfl⟩
set_option maxRecDepth 100000 in
theorem kv_X8_signal : xMV yX8_signal 8 RX8 TX8 17 := ⟨rfl, wB 869 rfl rfl, wB 66 rfl rfl⟩
set_option maxRecDepth 100000 in
theorem km_L_31 : xML RL 31 yX8_sets cX8_sets 3 (some .int) 2 := ⟨wB 874 rfl rfl, wB 111 rfl rfl, by decide +kernel, wB 871 rfl rfl⟩
set_option maxRecDepth 100000 in
theorem kv_X8_sets : xMV yX8_sets 8 RX8 TX8 17 := ⟨rfl, wB 872 rfl rfl, wB 873 rfl rfl⟩
set_option maxRecDepth 100000 in
theorem km_X8_85 : xML RX8 85 yX8_maySet cX8_maySet 2 (some .boolean) 2 := ⟨wB 877 rfl rfl, wB 111 rfl rfl, by decide +kernel, wB 875 rfl rfl⟩
set_option maxRecDepth 100000 in
theorem ks_X8_maySet : Cond.static yX8_maySet ∈ wBig := wB 876 rfl rfl
set_option maxRecDepth 100000 in
theorem km_X8_89 : xML RX8 89 yX8_set cX8_set 4 (some .int) 2 := ⟨wB 881 rfl rfl, wB 111 rfl rfl, by decide +kernel, wB 878 rfl rfl⟩
set_option maxRecDepth 100000 in
theorem kv_X8_set : xMV yX8_set 8 RX8 TX8 17 := ⟨rfl, wB 880 rfl rfl, wB 67 rfl rfl⟩
set_option maxRecDepth 100000 in
theorem km_L_35 : xML RL 35 yX8_cell cX8_cell 3 (some .int) 2 := ⟨wB 885 rfl rfl, wB 111 rfl rfl, by decide +kernel, wB 882 rfl rfl⟩
set_option maxRecDepth 100000 in
theorem kv_X8_cell : xMV yX8_cell 8 RX8 TX8 17 := ⟨rfl, wB 883 rfl rfl, wB 884 rfl rfl⟩
set_option maxRecDepth 100000 in
theorem km_X8_98 : xML RX8 98 yX8_tellCell cX8_tellCell 3 (some .int) 2 := ⟨wB 889 rfl rfl, wB 111 rfl rfl, by decide +kernel, wB 886 rfl rfl⟩
set_option maxRecDepth 100000 in
theorem kv_X8_tellCell : xMV yX8_tellCell 8 RX8 TX8 17 := ⟨rfl, wB 888 rfl rfl, wB 68 rfl rfl⟩
set_option maxRecDepth 100000 in
theorem km_X8_53 : xML RX8 53 yX8_ceiling cX8_ceiling 2 (some .int) 1 := ⟨wB 893 rfl rfl, wB 111 rfl rfl, by decide +kernel, wB 890 rfl rfl⟩
set_option maxRecDepth 100000 in
theorem kv_X8_ceiling : xMV yX8_ceiling 8 RX8 TX8 17 := ⟨rfl, wB 892 rfl rfl, wB 69 rfl rfl⟩
set_option maxRecDepth 100000 in
theorem km_X8_49 : xML RX8 49 yX8_grade cX8_grade 2 (some .int) 1 := ⟨wB 897 rfl rfl, wB 111 rfl rfl, by decide +kernel, wB 894 rfl rfl⟩
set_option maxRecDepth 100000 in
theorem kv_X8_grade : xMV yX8_grade 8 RX8 TX8 17 := ⟨rfl, wB 896 rfl rfl, wB 70 rfl rfl⟩
set_option maxRecDepth 100000 in
theorem km_X8_92 : xML RX8 92 yX8_decel cX8_decel 3 (some .int) 1 := ⟨wB 901 rfl rfl, wB 111 rfl rfl, by decide +kernel, wB 898 rfl rfl⟩
set_option maxRecDepth 100000 in
theorem kv_X8_decel : xMV yX8_decel 8 RX8 TX8 17 := ⟨rfl, wB 900 rfl rfl, wB 71 rfl rfl⟩
set_option maxRecDepth 100000 in
theorem km_X8_95 : xML RX8 95 yX8_inForce cX8_inForce 4 (some .int) 1 := ⟨wB 905 rfl rfl, wB 111 rfl rfl, by decide +kernel, wB 902 rfl rfl⟩
set_option maxRecDepth 100000 in
theorem kv_X8_inForce : xMV yX8_inForce 8 RX8 TX8 17 := ⟨rfl, wB 904 rfl rfl, wB 72 rfl rfl⟩
set_option maxRecDepth 100000 in
theorem km_L_39 : xML RL 39 yX8_lawful cX8_lawful 2 (some .int) 1 := ⟨wB 909 rfl rfl, wB 111 rfl rfl, by decide +kernel, wB 906 rfl rfl⟩
set_option maxRecDepth 100000 in
theorem kv_X8_lawful : xMV yX8_lawful 8 RX8 TX8 17 := ⟨rfl, wB 907 rfl rfl, wB 908 rfl rfl⟩
set_option maxRecDepth 100000 in
theorem km_X8_101 : xML RX8 101 yX8_lawfuls cX8_lawfuls 4 none 0 := ⟨wB 913 rfl rfl, wB 111 rfl rfl, by decide +kernel, wB 910 rfl rfl⟩
set_option maxRecDepth 100000 in
theorem kv_X8_lawfuls : xMV yX8_lawfuls 8 RX8 TX8 17 := ⟨rfl, wB 912 rfl rfl, wB 73 rfl rfl⟩
set_option maxRecDepth 100000 in
theorem km_L_43 : xML RL 43 yX8_permitted cX8_permitted 2 (some .int) 1 := ⟨wB 917 rfl rfl, wB 111 rfl rfl, by decide +kernel, wB 914 rfl rfl⟩
set_option maxRecDepth 100000 in
theorem kv_X8_permitted : xMV yX8_permitted 8 RX8 TX8 17 := ⟨rfl, wB 915 rfl rfl, wB 916 rfl rfl⟩
set_option maxRecDepth 100000 in
theorem km_X8_104 : xML RX8 104 yX8_root cX8_root 2 (some .int) 1 := ⟨wB 920 rfl rfl, wB 111 rfl rfl, by decide +kernel, wB 918 rfl rfl⟩
set_option maxRecDepth 100000 in
theorem ks_X8_root : Cond.static yX8_root ∈ wBig := wB 919 rfl rfl
set_option maxRecDepth 100000 in
theorem km_L_47 : xML RL 47 yX8_bound cX8_bound 4 (some .int) 1 := ⟨wB 924 rfl rfl, wB 111 rfl rfl, by decide +kernel, wB 921 rfl rfl⟩
set_option maxRecDepth 100000 in
theorem kv_X8_bound : xMV yX8_bound 8 RX8 TX8 17 := ⟨rfl, wB 922 rfl rfl, wB 923 rfl rfl⟩
set_option maxRecDepth 100000 in
theorem km_L_51 : xML RL 51 yX8_stands cX8_stands 3 (some .int) 2 := ⟨wB 928 rfl rfl, wB 111 rfl rfl, by decide +kernel, wB 925 rfl rfl⟩
set_option maxRecDepth 100000 in
theorem kv_X8_stands : xMV yX8_stands 8 RX8 TX8 17 := ⟨rfl, wB 926 rfl rfl, wB 927 rfl rfl⟩
set_option maxRecDepth 100000 in
theorem km_X8_107 : xML RX8 107 yX8_standing cX8_standing 5 (some .int) 2 := ⟨wB 932 rfl rfl, wB 111 rfl rfl, by decide +kernel, wB 929 rfl rfl⟩
set_option maxRecDepth 100000 in
theorem kv_X8_standing : xMV yX8_standing 8 RX8 TX8 17 := ⟨rfl, wB 931 rfl rfl, wB 74 rfl rfl⟩
set_option maxRecDepth 100000 in
theorem km_L_55 : xML RL 55 yX8_speed cX8_speed 4 (some .int) 2 := ⟨wB 936 rfl rfl, wB 111 rfl rfl, by decide +kernel, wB 933 rfl rfl⟩
set_option maxRecDepth 100000 in
theorem kv_X8_speed : xMV yX8_speed 8 RX8 TX8 17 := ⟨rfl, wB 934 rfl rfl, wB 935 rfl rfl⟩
set_option maxRecDepth 100000 in
theorem km_L_59 : xML RL 59 yX8_many cX8_many 4 (some .int) 1 := ⟨wB 940 rfl rfl, wB 111 rfl rfl, by decide +kernel, wB 937 rfl rfl⟩
set_option maxRecDepth 100000 in
theorem kv_X8_many : xMV yX8_many 8 RX8 TX8 17 := ⟨rfl, wB 938 rfl rfl, wB 939 rfl rfl⟩
set_option maxRecDepth 100000 in
theorem km_L_63 : xML RL 63 yX8_places cX8_places 3 (some .int) 2 := ⟨wB 944 rfl rfl, wB 111 rfl rfl, by decide +kernel, wB 941 rfl rfl⟩
set_option maxRecDepth 100000 in
theorem kv_X8_places : xMV yX8_places 8 RX8 TX8 17 := ⟨rfl, wB 942 rfl rfl, wB 943 rfl rfl⟩
set_option maxRecDepth 100000 in
theorem km_X8_128 : xML RX8 128 yX8_supervises cX8_supervises 2 none 0 := ⟨wB 948 rfl rfl, wB 111 rfl rfl, by decide +kernel, wB 945 rfl rfl⟩
set_option maxRecDepth 100000 in
theorem kv_X8_supervises : xMV yX8_supervises 8 RX8 TX8 17 := ⟨rfl, wB 947 rfl rfl, wB 75 rfl rfl⟩
set_option maxRecDepth 100000 in
theorem km_X8_122 : xML RX8 122 yX8_sees cX8_sees 1 (some .int) 0 := ⟨wB 952 rfl rfl, wB 111 rfl rfl, by decide +kernel, wB 949 rfl rfl⟩
set_option maxRecDepth 100000 in
theorem kv_X8_sees : xMV yX8_sees 8 RX8 TX8 17 := ⟨rfl, wB 951 rfl rfl, wB 76 rfl rfl⟩
set_option maxRecDepth 100000 in
theorem km_X8_113 : xML RX8 113 yX8_first cX8_first 1 (some .int) 0 := ⟨wB 956 rfl rfl, wB 111 rfl rfl, by decide +kernel, wB 953 rfl rfl⟩
set_option maxRecDepth 100000 in
theorem kv_X8_first : xMV yX8_first 8 RX8 TX8 17 := ⟨rfl, wB 955 rfl rfl, wB 77 rfl rfl⟩
set_option maxRecDepth 100000 in
theorem km_X8_110 : xML RX8 110 yX8_cellAt cX8_cellAt 2 (some .int) 1 := ⟨wB 960 rfl rfl, wB 111 rfl rfl, by decide +kernel, wB 957 rfl rfl⟩
set_option maxRecDepth 100000 in
theorem kv_X8_cellAt : xMV yX8_cellAt 8 RX8 TX8 17 := ⟨rfl, wB 959 rfl rfl, wB 78 rfl rfl⟩
set_option maxRecDepth 100000 in
theorem km_X8_116 : xML RX8 116 yX8_last cX8_last 1 (some .int) 0 := ⟨wB 964 rfl rfl, wB 111 rfl rfl, by decide +kernel, wB 961 rfl rfl⟩
set_option maxRecDepth 100000 in
theorem kv_X8_last : xMV yX8_last 8 RX8 TX8 17 := ⟨rfl, wB 963 rfl rfl, wB 79 rfl rfl⟩
set_option maxRecDepth 100000 in
theorem km_X8_119 : xML RX8 119 yX8_leastOf cX8_leastOf 5 (some .int) 2 := ⟨wB 968 rfl rfl, wB 111 rfl rfl, by decide +kernel, wB 965 rfl rfl⟩
set_option maxRecDepth 100000 in
theorem kv_X8_leastOf : xMV yX8_leastOf 8 RX8 TX8 17 := ⟨rfl, wB 967 rfl rfl, wB 80 rfl rfl⟩
set_option maxRecDepth 100000 in
theorem km_L_67 : xML RL 67 yX8_steps cX8_steps 2 (some .int) 1 := ⟨wB 972 rfl rfl, wB 111 rfl rfl, by decide +kernel, wB 969 rfl rfl⟩
set_option maxRecDepth 100000 in
theorem kv_X8_steps : xMV yX8_steps 8 RX8 TX8 17 := ⟨rfl, wB 970 rfl rfl, wB 971 rfl rfl⟩
set_option maxRecDepth 100000 in
theorem km_X8_131 : xML RX8 131 yX8_goesOn cX8_goesOn 4 (some .boolean) 1 := ⟨wB 976 rfl rfl, wB 111 rfl rfl, by decide +kernel, wB 973 rfl rfl⟩
set_option maxRecDepth 100000 in
theorem kv_X8_goesOn : xMV yX8_goesOn 8 RX8 TX8 17 := ⟨rfl, wB 975 rfl rfl, wB 81 rfl rfl⟩
set_option maxRecDepth 100000 in
theorem km_X8_125 : xML RX8 125 yX8_gainOf cX8_gainOf 5 (some .int) 2 := ⟨wB 980 rfl rfl, wB 111 rfl rfl, by decide +kernel, wB 977 rfl rfl⟩
set_option maxRecDepth 100000 in
theorem kv_X8_gainOf : xMV yX8_gainOf 8 RX8 TX8 17 := ⟨rfl, wB 979 rfl rfl, wB 82 rfl rfl⟩
set_option maxRecDepth 100000 in
theorem km_L_71 : xML RL 71 yX8_drives cX8_drives 6 (some .int) 1 := ⟨wB 984 rfl rfl, wB 111 rfl rfl, by decide +kernel, wB 981 rfl rfl⟩
set_option maxRecDepth 100000 in
theorem kv_X8_drives : xMV yX8_drives 8 RX8 TX8 17 := ⟨rfl, wB 982 rfl rfl, wB 983 rfl rfl⟩
set_option maxRecDepth 100000 in
theorem km_X8_134 : xML RX8 134 yX8_handle cX8_handle 4 (some .int) 0 := ⟨wB 988 rfl rfl, wB 111 rfl rfl, by decide +kernel, wB 985 rfl rfl⟩
set_option maxRecDepth 100000 in
theorem kv_X8_handle : xMV yX8_handle 8 RX8 TX8 17 := ⟨rfl, wB 987 rfl rfl, wB 83 rfl rfl⟩
set_option maxRecDepth 100000 in
theorem km_L_76 : xML RL 76 yX8_frees cX8_frees 1 (some .int) 0 := ⟨wB 992 rfl rfl, wB 111 rfl rfl, by decide +kernel, wB 989 rfl rfl⟩
set_option maxRecDepth 100000 in
theorem kv_X8_frees : xMV yX8_frees 8 RX8 TX8 17 := ⟨rfl, wB 990 rfl rfl, wB 991 rfl rfl⟩
set_option maxRecDepth 100000 in
theorem km_X8_137 : xML RX8 137 yX8_no cX8_no 1 (some .int) 0 := ⟨wB 996 rfl rfl, wB 111 rfl rfl, by decide +kernel, wB 993 rfl rfl⟩
set_option maxRecDepth 100000 in
theorem kv_X8_no : xMV yX8_no 8 RX8 TX8 17 := ⟨rfl, wB 995 rfl rfl, wB 84 rfl rfl⟩
set_option maxRecDepth 100000 in
theorem km_L_80 : xML RL 80 yX8_train cX8_train 2 (some .int) 1 := ⟨wB 1000 rfl rfl, wB 111 rfl rfl, by decide +kernel, wB 997 rfl rfl⟩
set_option maxRecDepth 100000 in
theorem kv_X8_train : xMV yX8_train 8 RX8 TX8 17 := ⟨rfl, wB 998 rfl rfl, wB 999 rfl rfl⟩
set_option maxRecDepth 100000 in
theorem km_X8_140 : xML RX8 140 yX8_tellTrain cX8_tellTrain 2 (some .int) 1 := ⟨wB 1004 rfl rfl, wB 111 rfl rfl, by decide +kernel, wB 1001 rfl rfl⟩
set_option maxRecDepth 100000 in
theorem kv_X8_tellTrain : xMV yX8_tellTrain 8 RX8 TX8 17 := ⟨rfl, wB 1003 rfl rfl, wB 85 rfl rfl⟩
set_option maxRecDepth 100000 in
theorem km_L_84 : xML RL 84 yX8_type cX8_type 2 (some .int) 1 := ⟨wB 1008 rfl rfl, wB 111 rfl rfl, by decide +kernel, wB 1005 rfl rfl⟩
set_option maxRecDepth 100000 in
theorem kv_X8_type : xMV yX8_type 8 RX8 TX8 17 := ⟨rfl, wB 1006 rfl rfl, wB 1007 rfl rfl⟩
set_option maxRecDepth 100000 in
theorem km_L_88 : xML RL 88 yX8_clear cX8_clear 2 (some .int) 0 := ⟨wB 1012 rfl rfl, wB 111 rfl rfl, by decide +kernel, wB 1009 rfl rfl⟩
set_option maxRecDepth 100000 in
theorem kv_X8_clear : xMV yX8_clear 8 RX8 TX8 17 := ⟨rfl, wB 1010 rfl rfl, wB 1011 rfl rfl⟩
set_option maxRecDepth 100000 in
theorem km_L_92 : xML RL 92 yX8_does cX8_does 2 (some .int) 0 := ⟨wB 1016 rfl rfl, wB 111 rfl rfl, by decide +kernel, wB 1013 rfl rfl⟩
set_option maxRecDepth 100000 in
theorem kv_X8_does : xMV yX8_does 8 RX8 TX8 17 := ⟨rfl, wB 1014 rfl rfl, wB 1015 rfl rfl⟩
set_option maxRecDepth 100000 in
theorem km_X8_189 : xML RX8 189 yX8_reads cX8_reads 2 (some .boolean) 0 := ⟨wB 1020 rfl rfl, wB 111 rfl rfl, by decide +kernel, wB 1017 rfl rfl⟩
set_option maxRecDepth 100000 in
theorem kv_X8_reads : xMV yX8_reads 8 RX8 TX8 17 := ⟨rfl, wB 1019 rfl rfl, wB 86 rfl rfl⟩
set_option maxRecDepth 100000 in
theorem km_X8_162 : xML RX8 162 yX8_skips cX8_skips 1 none 0 := ⟨wB 1024 rfl rfl, wB 111 rfl rfl, by decide +kernel, wB 1021 rfl rfl⟩
set_option maxRecDepth 100000 in
theorem kv_X8_skips : xMV yX8_skips 8 RX8 TX8 17 := ⟨rfl, wB 1023 rfl rfl, wB 87 rfl rfl⟩
set_option maxRecDepth 100000 in
theorem km_X8_152 : xML RX8 152 yX8_here cX8_here 1 (some .int) 0 := ⟨wB 1028 rfl rfl, wB 111 rfl rfl, by decide +kernel, wB 1025 rfl rfl⟩
set_option maxRecDepth 100000 in
theorem kv_X8_here : xMV yX8_here 8 RX8 TX8 17 := ⟨rfl, wB 1027 rfl rfl, wB 88 rfl rfl⟩
set_option maxRecDepth 100000 in
theorem km_X8_186 : xML RX8 186 yX8_order cX8_order 6 (some .boolean) 0 := ⟨wB 1032 rfl rfl, wB 111 rfl rfl, by decide +kernel, wB 1029 rfl rfl⟩
set_option maxRecDepth 100000 in
theorem kv_X8_order : xMV yX8_order 8 RX8 TX8 17 := ⟨rfl, wB 1031 rfl rfl, wB 89 rfl rfl⟩
set_option maxRecDepth 100000 in
theorem km_X8_165 : xML RX8 165 yX8_stopsHere cX8_stopsHere 1 (some .boolean) 0 := ⟨wB 1036 rfl rfl, wB 111 rfl rfl, by decide +kernel, wB 1033 rfl rfl⟩
set_option maxRecDepth 100000 in
theorem kv_X8_stopsHere : xMV yX8_stopsHere 8 RX8 TX8 17 := ⟨rfl, wB 1035 rfl rfl, wB 90 rfl rfl⟩
set_option maxRecDepth 100000 in
theorem km_X8_172 : xML RX8 172 yX8_wordFrom cX8_wordFrom 6 (some .int) 1 := ⟨wB 1040 rfl rfl, wB 111 rfl rfl, by decide +kernel, wB 1037 rfl rfl⟩
set_option maxRecDepth 100000 in
theorem kv_X8_wordFrom : xMV yX8_wordFrom 8 RX8 TX8 17 := ⟨rfl, wB 1039 rfl rfl, wB 91 rfl rfl⟩
set_option maxRecDepth 100000 in
theorem km_X8_155 : xML RX8 155 yX8_spells cX8_spells 6 (some .boolean) 5 := ⟨wB 1044 rfl rfl, wB 111 rfl rfl, by decide +kernel, wB 1041 rfl rfl⟩
set_option maxRecDepth 100000 in
theorem kv_X8_spells : xMV yX8_spells 8 RX8 TX8 17 := ⟨rfl, wB 1043 rfl rfl, wB 92 rfl rfl⟩
set_option maxRecDepth 100000 in
theorem km_X8_182 : xML RX8 182 yX8_number cX8_number 6 (some .boolean) 2 := ⟨wB 1048 rfl rfl, wB 111 rfl rfl, by decide +kernel, wB 1045 rfl rfl⟩
set_option maxRecDepth 100000 in
theorem kv_X8_number : xMV yX8_number 8 RX8 TX8 17 := ⟨rfl, wB 1047 rfl rfl, wB 93 rfl rfl⟩
set_option maxRecDepth 100000 in
theorem km_X8_169 : xML RX8 169 yX8_isFigure cX8_isFigure 1 (some .boolean) 0 := ⟨wB 1052 rfl rfl, wB 111 rfl rfl, by decide +kernel, wB 1049 rfl rfl⟩
set_option maxRecDepth 100000 in
theorem kv_X8_isFigure : xMV yX8_isFigure 8 RX8 TX8 17 := ⟨rfl, wB 1051 rfl rfl, wB 94 rfl rfl⟩
set_option maxRecDepth 100000 in
theorem km_X8_195 : xML RX8 195 yX8_isDone cX8_isDone 8 (some .boolean) 1 := ⟨wB 1056 rfl rfl, wB 111 rfl rfl, by decide +kernel, wB 1053 rfl rfl⟩
set_option maxRecDepth 100000 in
theorem kv_X8_isDone : xMV yX8_isDone 8 RX8 TX8 17 := ⟨rfl, wB 1055 rfl rfl, wB 95 rfl rfl⟩
set_option maxRecDepth 100000 in
theorem km_X8_198 : xML RX8 198 yX8_takeFrom cX8_takeFrom 3 none 1 := ⟨wB 1060 rfl rfl, wB 111 rfl rfl, by decide +kernel, wB 1057 rfl rfl⟩
set_option maxRecDepth 100000 in
theorem kv_X8_takeFrom : xMV yX8_takeFrom 8 RX8 TX8 17 := ⟨rfl, wB 1059 rfl rfl, wB 96 rfl rfl⟩
set_option maxRecDepth 100000 in
theorem km_X8_201 : xML RX8 201 yX8_leaves cX8_leaves 2 none 0 := ⟨wB 1064 rfl rfl, wB 111 rfl rfl, by decide +kernel, wB 1061 rfl rfl⟩
set_option maxRecDepth 100000 in
theorem kv_X8_leaves : xMV yX8_leaves 8 RX8 TX8 17 := ⟨rfl, wB 1063 rfl rfl, wB 97 rfl rfl⟩
set_option maxRecDepth 100000 in
theorem km_L_96 : xML RL 96 yX8_why cX8_why 2 (some .int) 1 := ⟨wB 1068 rfl rfl, wB 111 rfl rfl, by decide +kernel, wB 1065 rfl rfl⟩
set_option maxRecDepth 100000 in
theorem kv_X8_why : xMV yX8_why 8 RX8 TX8 17 := ⟨rfl, wB 1066 rfl rfl, wB 1067 rfl rfl⟩
set_option maxRecDepth 100000 in
theorem km_X8_204 : xML RX8 204 yX8_tellWhy cX8_tellWhy 2 (some .int) 1 := ⟨wB 1072 rfl rfl, wB 111 rfl rfl, by decide +kernel, wB 1069 rfl rfl⟩
set_option maxRecDepth 100000 in
theorem kv_X8_tellWhy : xMV yX8_tellWhy 8 RX8 TX8 17 := ⟨rfl, wB 1071 rfl rfl, wB 98 rfl rfl⟩
set_option maxRecDepth 100000 in
theorem km_L_100 : xML RL 100 yX8_back cX8_back 1 (some .int) 0 := ⟨wB 1076 rfl rfl, wB 111 rfl rfl, by decide +kernel, wB 1073 rfl rfl⟩
set_option maxRecDepth 100000 in
theorem kv_X8_back : xMV yX8_back 8 RX8 TX8 17 := ⟨rfl, wB 1074 rfl rfl, wB 1075 rfl rfl⟩
set_option maxRecDepth 100000 in
theorem km_L_104 : xML RL 104 yX8_told cX8_told 2 (some .int) 1 := ⟨wB 1080 rfl rfl, wB 111 rfl rfl, by decide +kernel, wB 1077 rfl rfl⟩
set_option maxRecDepth 100000 in
theorem kv_X8_told : xMV yX8_told 8 RX8 TX8 17 := ⟨rfl, wB 1078 rfl rfl, wB 1079 rfl rfl⟩
set_option maxRecDepth 100000 in
theorem km_X8_207 : xML RX8 207 yX8_tell cX8_tell 2 (some .int) 1 := ⟨wB 1084 rfl rfl, wB 111 rfl rfl, by decide +kernel, wB 1081 rfl rfl⟩
set_option maxRecDepth 100000 in
theorem kv_X8_tell : xMV yX8_tell 8 RX8 TX8 17 := ⟨rfl, wB 1083 rfl rfl, wB 99 rfl rfl⟩
set_option maxRecDepth 100000 in
theorem km_L_109 : xML RL 109 yX8_digest cX8_digest 5 (some .long) 0 := ⟨wB 1088 rfl rfl, wB 111 rfl rfl, by decide +kernel, wB 1085 rfl rfl⟩
set_option maxRecDepth 100000 in
theorem kv_X8_digest : xMV yX8_digest 8 RX8 TX8 17 := ⟨rfl, wB 1086 rfl rfl, wB 1087 rfl rfl⟩
set_option maxRecDepth 100000 in
theorem km_X8_214 : xML RX8 214 yX8_more cX8_more 3 (some .long) 2 := ⟨wB 1092 rfl rfl, wB 111 rfl rfl, by decide +kernel, wB 1090 rfl rfl⟩
set_option maxRecDepth 100000 in
theorem ks_X8_more : Cond.static yX8_more ∈ wBig := wB 1091 rfl rfl
