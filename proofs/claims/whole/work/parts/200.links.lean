/-! ===== methods, links ===== -/
theorem in_X0 : ∀ w ∈ u_ws RX0 TX0 13, w ∈ gtb := by decide +kernel
theorem in_X1 : ∀ w ∈ u_ws RX1 TX1 4, w ∈ gtb := by decide +kernel
theorem in_X2 : ∀ w ∈ u_ws RX2 TX2 6, w ∈ gtb := by decide +kernel
theorem in_X3 : ∀ w ∈ u_ws RX3 TX3 4, w ∈ gtb := by decide +kernel
theorem in_X4 : ∀ w ∈ u_ws RX4 TX4 3, w ∈ gtb := by decide +kernel
theorem in_X5 : ∀ w ∈ u_ws RX5 TX5 7, w ∈ gtb := by decide +kernel
theorem in_X6 : ∀ w ∈ u_ws RX6 TX6 10, w ∈ gtb := by decide +kernel
theorem in_X7 : ∀ w ∈ u_ws RX7 TX7 31, w ∈ gtb := by decide +kernel
theorem fk_X0_9 : FK RX0 9 0 0 := ⟨RX0, TX0, 13, tyX0, rfl, by decide, gtb_in 100 (by decide +kernel) (by decide +kernel), in_X0, rfl, tyX0_ok, nmX0⟩
theorem fk_X0_15 : FK RX0 15 0 1 := ⟨RX0, TX0, 13, tyX0, rfl, by decide, gtb_in 101 (by decide +kernel) (by decide +kernel), in_X0, rfl, tyX0_ok, nmX0⟩
theorem fk_X0_18 : FK RX0 18 0 2 := ⟨RX0, TX0, 13, tyX0, rfl, by decide, gtb_in 105 (by decide +kernel) (by decide +kernel), in_X0, rfl, tyX0_ok, nmX0⟩
theorem fk_X0_21 : FK RX0 21 0 3 := ⟨RX0, TX0, 13, tyX0, rfl, by decide, gtb_in 107 (by decide +kernel) (by decide +kernel), in_X0, rfl, tyX0_ok, nmX0⟩
theorem fk_X0_24 : FK RX0 24 0 4 := ⟨RX0, TX0, 13, tyX0, rfl, by decide, gtb_in 109 (by decide +kernel) (by decide +kernel), in_X0, rfl, tyX0_ok, nmX0⟩
theorem fk_X0_27 : FK RX0 27 0 5 := ⟨RX0, TX0, 13, tyX0, rfl, by decide, gtb_in 111 (by decide +kernel) (by decide +kernel), in_X0, rfl, tyX0_ok, nmX0⟩
theorem fk_X0_30 : FK RX0 30 0 6 := ⟨RX0, TX0, 13, tyX0, rfl, by decide, gtb_in 115 (by decide +kernel) (by decide +kernel), in_X0, rfl, tyX0_ok, nmX0⟩
theorem fk_X0_33 : FK RX0 33 0 7 := ⟨RX0, TX0, 13, tyX0, rfl, by decide, gtb_in 119 (by decide +kernel) (by decide +kernel), in_X0, rfl, tyX0_ok, nmX0⟩
theorem fk_X0_36 : FK RX0 36 0 11 := ⟨RX0, TX0, 13, tyX0, rfl, by decide, gtb_in 133 (by decide +kernel) (by decide +kernel), in_X0, rfl, tyX0_ok, nmX0⟩
theorem fk_X0_40 : FK RX0 40 0 12 := ⟨RX0, TX0, 13, tyX0, rfl, by decide, gtb_in 135 (by decide +kernel) (by decide +kernel), in_X0, rfl, tyX0_ok, nmX0⟩
theorem fk_X0_43 : FK RX0 43 0 8 := ⟨RX0, TX0, 13, tyX0, rfl, by decide, gtb_in 123 (by decide +kernel) (by decide +kernel), in_X0, rfl, tyX0_ok, nmX0⟩
theorem fk_X0_46 : FK RX0 46 0 9 := ⟨RX0, TX0, 13, tyX0, rfl, by decide, gtb_in 127 (by decide +kernel) (by decide +kernel), in_X0, rfl, tyX0_ok, nmX0⟩
theorem fk_X0_49 : FK RX0 49 0 10 := ⟨RX0, TX0, 13, tyX0, rfl, by decide, gtb_in 131 (by decide +kernel) (by decide +kernel), in_X0, rfl, tyX0_ok, nmX0⟩
theorem fk_X1_14 : FK RX1 14 1 0 := ⟨RX1, TX1, 4, tyX1, rfl, by decide, gtb_in 197 (by decide +kernel) (by decide +kernel), in_X1, rfl, tyX1_ok, nmX1⟩
theorem fk_X1_20 : FK RX1 20 1 1 := ⟨RX1, TX1, 4, tyX1, rfl, by decide, gtb_in 199 (by decide +kernel) (by decide +kernel), in_X1, rfl, tyX1_ok, nmX1⟩
theorem fk_X1_24 : FK RX1 24 1 2 := ⟨RX1, TX1, 4, tyX1, rfl, by decide, gtb_in 200 (by decide +kernel) (by decide +kernel), in_X1, rfl, tyX1_ok, nmX1⟩
theorem fk_X1_28 : FK RX1 28 1 3 := ⟨RX1, TX1, 4, tyX1, rfl, by decide, gtb_in 202 (by decide +kernel) (by decide +kernel), in_X1, rfl, tyX1_ok, nmX1⟩
theorem fk_X1_31 : FK RX1 31 0 9 := ⟨RX0, TX0, 13, tyX0, rfl, by decide, gtb_in 128 (by decide +kernel) (by decide +kernel), in_X0, rfl, tyX0_ok, nmX0⟩
theorem fk_X1_42 : FK RX1 42 0 1 := ⟨RX0, TX0, 13, tyX0, rfl, by decide, gtb_in 102 (by decide +kernel) (by decide +kernel), in_X0, rfl, tyX0_ok, nmX0⟩
theorem fk_X1_45 : FK RX1 45 0 7 := ⟨RX0, TX0, 13, tyX0, rfl, by decide, gtb_in 120 (by decide +kernel) (by decide +kernel), in_X0, rfl, tyX0_ok, nmX0⟩
theorem fk_X1_55 : FK RX1 55 0 5 := ⟨RX0, TX0, 13, tyX0, rfl, by decide, gtb_in 112 (by decide +kernel) (by decide +kernel), in_X0, rfl, tyX0_ok, nmX0⟩
theorem fk_X1_62 : FK RX1 62 0 6 := ⟨RX0, TX0, 13, tyX0, rfl, by decide, gtb_in 116 (by decide +kernel) (by decide +kernel), in_X0, rfl, tyX0_ok, nmX0⟩
theorem fk_X1_94 : FK RX1 94 3 2 := ⟨RX3, TX3, 4, tyX3, rfl, by decide, gtb_in 185 (by decide +kernel) (by decide +kernel), in_X3, rfl, tyX3_ok, nmX3⟩
theorem fk_X2_9 : FK RX2 9 2 0 := ⟨RX2, TX2, 6, tyX2, rfl, by decide, gtb_in 254 (by decide +kernel) (by decide +kernel), in_X2, rfl, tyX2_ok, nmX2⟩
theorem fk_X2_15 : FK RX2 15 2 1 := ⟨RX2, TX2, 6, tyX2, rfl, by decide, gtb_in 255 (by decide +kernel) (by decide +kernel), in_X2, rfl, tyX2_ok, nmX2⟩
theorem fk_X2_19 : FK RX2 19 2 2 := ⟨RX2, TX2, 6, tyX2, rfl, by decide, gtb_in 256 (by decide +kernel) (by decide +kernel), in_X2, rfl, tyX2_ok, nmX2⟩
theorem fk_X2_22 : FK RX2 22 2 3 := ⟨RX2, TX2, 6, tyX2, rfl, by decide, gtb_in 257 (by decide +kernel) (by decide +kernel), in_X2, rfl, tyX2_ok, nmX2⟩
theorem fk_X2_25 : FK RX2 25 2 4 := ⟨RX2, TX2, 6, tyX2, rfl, by decide, gtb_in 258 (by decide +kernel) (by decide +kernel), in_X2, rfl, tyX2_ok, nmX2⟩
theorem fk_X2_28 : FK RX2 28 2 5 := ⟨RX2, TX2, 6, tyX2, rfl, by decide, gtb_in 259 (by decide +kernel) (by decide +kernel), in_X2, rfl, tyX2_ok, nmX2⟩
theorem fk_X2_32 : FK RX2 32 0 9 := ⟨RX0, TX0, 13, tyX0, rfl, by decide, gtb_in 126 (by decide +kernel) (by decide +kernel), in_X0, rfl, tyX0_ok, nmX0⟩
theorem fk_X2_53 : FK RX2 53 0 5 := ⟨RX0, TX0, 13, tyX0, rfl, by decide, gtb_in 114 (by decide +kernel) (by decide +kernel), in_X0, rfl, tyX0_ok, nmX0⟩
theorem fk_X2_56 : FK RX2 56 0 6 := ⟨RX0, TX0, 13, tyX0, rfl, by decide, gtb_in 118 (by decide +kernel) (by decide +kernel), in_X0, rfl, tyX0_ok, nmX0⟩
theorem fk_X2_59 : FK RX2 59 0 1 := ⟨RX0, TX0, 13, tyX0, rfl, by decide, gtb_in 104 (by decide +kernel) (by decide +kernel), in_X0, rfl, tyX0_ok, nmX0⟩
theorem fk_X2_62 : FK RX2 62 0 7 := ⟨RX0, TX0, 13, tyX0, rfl, by decide, gtb_in 122 (by decide +kernel) (by decide +kernel), in_X0, rfl, tyX0_ok, nmX0⟩
theorem fk_X3_15 : FK RX3 15 3 0 := ⟨RX3, TX3, 4, tyX3, rfl, by decide, gtb_in 179 (by decide +kernel) (by decide +kernel), in_X3, rfl, tyX3_ok, nmX3⟩
theorem fk_X3_21 : FK RX3 21 3 1 := ⟨RX3, TX3, 4, tyX3, rfl, by decide, gtb_in 181 (by decide +kernel) (by decide +kernel), in_X3, rfl, tyX3_ok, nmX3⟩
theorem fk_X3_24 : FK RX3 24 3 2 := ⟨RX3, TX3, 4, tyX3, rfl, by decide, gtb_in 183 (by decide +kernel) (by decide +kernel), in_X3, rfl, tyX3_ok, nmX3⟩
theorem fk_X3_27 : FK RX3 27 3 3 := ⟨RX3, TX3, 4, tyX3, rfl, by decide, gtb_in 186 (by decide +kernel) (by decide +kernel), in_X3, rfl, tyX3_ok, nmX3⟩
theorem fk_X4_9 : FK RX4 9 4 0 := ⟨RX4, TX4, 3, tyX4, rfl, by decide, gtb_in 281 (by decide +kernel) (by decide +kernel), in_X4, rfl, tyX4_ok, nmX4⟩
theorem fk_X4_15 : FK RX4 15 4 1 := ⟨RX4, TX4, 3, tyX4, rfl, by decide, gtb_in 283 (by decide +kernel) (by decide +kernel), in_X4, rfl, tyX4_ok, nmX4⟩
theorem fk_X4_19 : FK RX4 19 4 2 := ⟨RX4, TX4, 3, tyX4, rfl, by decide, gtb_in 285 (by decide +kernel) (by decide +kernel), in_X4, rfl, tyX4_ok, nmX4⟩
theorem fk_X5_14 : FK RX5 14 5 0 := ⟨RX5, TX5, 7, tyX5, rfl, by decide, gtb_in 223 (by decide +kernel) (by decide +kernel), in_X5, rfl, tyX5_ok, nmX5⟩
theorem fk_X5_20 : FK RX5 20 5 1 := ⟨RX5, TX5, 7, tyX5, rfl, by decide, gtb_in 225 (by decide +kernel) (by decide +kernel), in_X5, rfl, tyX5_ok, nmX5⟩
theorem fk_X5_23 : FK RX5 23 5 2 := ⟨RX5, TX5, 7, tyX5, rfl, by decide, gtb_in 226 (by decide +kernel) (by decide +kernel), in_X5, rfl, tyX5_ok, nmX5⟩
theorem fk_X5_27 : FK RX5 27 5 3 := ⟨RX5, TX5, 7, tyX5, rfl, by decide, gtb_in 227 (by decide +kernel) (by decide +kernel), in_X5, rfl, tyX5_ok, nmX5⟩
theorem fk_X5_30 : FK RX5 30 5 5 := ⟨RX5, TX5, 7, tyX5, rfl, by decide, gtb_in 230 (by decide +kernel) (by decide +kernel), in_X5, rfl, tyX5_ok, nmX5⟩
theorem fk_X5_34 : FK RX5 34 0 9 := ⟨RX0, TX0, 13, tyX0, rfl, by decide, gtb_in 125 (by decide +kernel) (by decide +kernel), in_X0, rfl, tyX0_ok, nmX0⟩
theorem fk_X5_38 : FK RX5 38 0 10 := ⟨RX0, TX0, 13, tyX0, rfl, by decide, gtb_in 130 (by decide +kernel) (by decide +kernel), in_X0, rfl, tyX0_ok, nmX0⟩
theorem fk_X5_41 : FK RX5 41 5 6 := ⟨RX5, TX5, 7, tyX5, rfl, by decide, gtb_in 232 (by decide +kernel) (by decide +kernel), in_X5, rfl, tyX5_ok, nmX5⟩
theorem fk_X5_48 : FK RX5 48 3 0 := ⟨RX3, TX3, 4, tyX3, rfl, by decide, gtb_in 180 (by decide +kernel) (by decide +kernel), in_X3, rfl, tyX3_ok, nmX3⟩
theorem fk_X5_51 : FK RX5 51 3 1 := ⟨RX3, TX3, 4, tyX3, rfl, by decide, gtb_in 182 (by decide +kernel) (by decide +kernel), in_X3, rfl, tyX3_ok, nmX3⟩
theorem fk_X5_54 : FK RX5 54 3 2 := ⟨RX3, TX3, 4, tyX3, rfl, by decide, gtb_in 184 (by decide +kernel) (by decide +kernel), in_X3, rfl, tyX3_ok, nmX3⟩
theorem fk_X5_57 : FK RX5 57 3 3 := ⟨RX3, TX3, 4, tyX3, rfl, by decide, gtb_in 187 (by decide +kernel) (by decide +kernel), in_X3, rfl, tyX3_ok, nmX3⟩
theorem fk_X5_78 : FK RX5 78 0 1 := ⟨RX0, TX0, 13, tyX0, rfl, by decide, gtb_in 103 (by decide +kernel) (by decide +kernel), in_X0, rfl, tyX0_ok, nmX0⟩
theorem fk_X5_81 : FK RX5 81 0 5 := ⟨RX0, TX0, 13, tyX0, rfl, by decide, gtb_in 113 (by decide +kernel) (by decide +kernel), in_X0, rfl, tyX0_ok, nmX0⟩
theorem fk_X5_84 : FK RX5 84 0 6 := ⟨RX0, TX0, 13, tyX0, rfl, by decide, gtb_in 117 (by decide +kernel) (by decide +kernel), in_X0, rfl, tyX0_ok, nmX0⟩
theorem fk_X5_87 : FK RX5 87 0 7 := ⟨RX0, TX0, 13, tyX0, rfl, by decide, gtb_in 121 (by decide +kernel) (by decide +kernel), in_X0, rfl, tyX0_ok, nmX0⟩
theorem fk_X5_108 : FK RX5 108 5 4 := ⟨RX5, TX5, 7, tyX5, rfl, by decide, gtb_in 228 (by decide +kernel) (by decide +kernel), in_X5, rfl, tyX5_ok, nmX5⟩
theorem fk_X6_10 : FK RX6 10 6 0 := ⟨RX6, TX6, 10, tyX6, rfl, by decide, gtb_in 294 (by decide +kernel) (by decide +kernel), in_X6, rfl, tyX6_ok, nmX6⟩
theorem fk_X6_19 : FK RX6 19 6 1 := ⟨RX6, TX6, 10, tyX6, rfl, by decide, gtb_in 295 (by decide +kernel) (by decide +kernel), in_X6, rfl, tyX6_ok, nmX6⟩
theorem fk_X6_28 : FK RX6 28 6 2 := ⟨RX6, TX6, 10, tyX6, rfl, by decide, gtb_in 296 (by decide +kernel) (by decide +kernel), in_X6, rfl, tyX6_ok, nmX6⟩
theorem fk_X6_35 : FK RX6 35 6 3 := ⟨RX6, TX6, 10, tyX6, rfl, by decide, gtb_in 297 (by decide +kernel) (by decide +kernel), in_X6, rfl, tyX6_ok, nmX6⟩
theorem fk_X6_42 : FK RX6 42 6 4 := ⟨RX6, TX6, 10, tyX6, rfl, by decide, gtb_in 298 (by decide +kernel) (by decide +kernel), in_X6, rfl, tyX6_ok, nmX6⟩
theorem fk_X6_48 : FK RX6 48 6 5 := ⟨RX6, TX6, 10, tyX6, rfl, by decide, gtb_in 299 (by decide +kernel) (by decide +kernel), in_X6, rfl, tyX6_ok, nmX6⟩
theorem fk_X6_53 : FK RX6 53 6 6 := ⟨RX6, TX6, 10, tyX6, rfl, by decide, gtb_in 300 (by decide +kernel) (by decide +kernel), in_X6, rfl, tyX6_ok, nmX6⟩
theorem fk_X6_70 : FK RX6 70 0 8 := ⟨RX0, TX0, 13, tyX0, rfl, by decide, gtb_in 124 (by decide +kernel) (by decide +kernel), in_X0, rfl, tyX0_ok, nmX0⟩
theorem fk_X6_73 : FK RX6 73 0 11 := ⟨RX0, TX0, 13, tyX0, rfl, by decide, gtb_in 134 (by decide +kernel) (by decide +kernel), in_X0, rfl, tyX0_ok, nmX0⟩
theorem fk_X6_88 : FK RX6 88 4 2 := ⟨RX4, TX4, 3, tyX4, rfl, by decide, gtb_in 286 (by decide +kernel) (by decide +kernel), in_X4, rfl, tyX4_ok, nmX4⟩
theorem fk_X6_97 : FK RX6 97 0 2 := ⟨RX0, TX0, 13, tyX0, rfl, by decide, gtb_in 106 (by decide +kernel) (by decide +kernel), in_X0, rfl, tyX0_ok, nmX0⟩
theorem fk_X6_101 : FK RX6 101 0 3 := ⟨RX0, TX0, 13, tyX0, rfl, by decide, gtb_in 108 (by decide +kernel) (by decide +kernel), in_X0, rfl, tyX0_ok, nmX0⟩
theorem fk_X6_106 : FK RX6 106 0 4 := ⟨RX0, TX0, 13, tyX0, rfl, by decide, gtb_in 110 (by decide +kernel) (by decide +kernel), in_X0, rfl, tyX0_ok, nmX0⟩
theorem fk_X6_109 : FK RX6 109 1 0 := ⟨RX1, TX1, 4, tyX1, rfl, by decide, gtb_in 198 (by decide +kernel) (by decide +kernel), in_X1, rfl, tyX1_ok, nmX1⟩
theorem fk_X6_116 : FK RX6 116 1 2 := ⟨RX1, TX1, 4, tyX1, rfl, by decide, gtb_in 201 (by decide +kernel) (by decide +kernel), in_X1, rfl, tyX1_ok, nmX1⟩
theorem fk_X6_119 : FK RX6 119 1 3 := ⟨RX1, TX1, 4, tyX1, rfl, by decide, gtb_in 203 (by decide +kernel) (by decide +kernel), in_X1, rfl, tyX1_ok, nmX1⟩
theorem fk_X6_122 : FK RX6 122 6 8 := ⟨RX6, TX6, 10, tyX6, rfl, by decide, gtb_in 302 (by decide +kernel) (by decide +kernel), in_X6, rfl, tyX6_ok, nmX6⟩
theorem fk_X6_126 : FK RX6 126 6 9 := ⟨RX6, TX6, 10, tyX6, rfl, by decide, gtb_in 303 (by decide +kernel) (by decide +kernel), in_X6, rfl, tyX6_ok, nmX6⟩
theorem fk_X6_136 : FK RX6 136 0 10 := ⟨RX0, TX0, 13, tyX0, rfl, by decide, gtb_in 132 (by decide +kernel) (by decide +kernel), in_X0, rfl, tyX0_ok, nmX0⟩
theorem fk_X6_142 : FK RX6 142 5 5 := ⟨RX5, TX5, 7, tyX5, rfl, by decide, gtb_in 231 (by decide +kernel) (by decide +kernel), in_X5, rfl, tyX5_ok, nmX5⟩
theorem fk_X6_145 : FK RX6 145 5 4 := ⟨RX5, TX5, 7, tyX5, rfl, by decide, gtb_in 229 (by decide +kernel) (by decide +kernel), in_X5, rfl, tyX5_ok, nmX5⟩
theorem fk_X6_172 : FK RX6 172 4 1 := ⟨RX4, TX4, 3, tyX4, rfl, by decide, gtb_in 284 (by decide +kernel) (by decide +kernel), in_X4, rfl, tyX4_ok, nmX4⟩
theorem fk_X6_179 : FK RX6 179 4 0 := ⟨RX4, TX4, 3, tyX4, rfl, by decide, gtb_in 282 (by decide +kernel) (by decide +kernel), in_X4, rfl, tyX4_ok, nmX4⟩
theorem fk_X6_196 : FK RX6 196 0 9 := ⟨RX0, TX0, 13, tyX0, rfl, by decide, gtb_in 129 (by decide +kernel) (by decide +kernel), in_X0, rfl, tyX0_ok, nmX0⟩
theorem fk_X6_205 : FK RX6 205 6 7 := ⟨RX6, TX6, 10, tyX6, rfl, by decide, gtb_in 301 (by decide +kernel) (by decide +kernel), in_X6, rfl, tyX6_ok, nmX6⟩
theorem fk_X6_285 : FK RX6 285 5 0 := ⟨RX5, TX5, 7, tyX5, rfl, by decide, gtb_in 224 (by decide +kernel) (by decide +kernel), in_X5, rfl, tyX5_ok, nmX5⟩
theorem fk_X7_7 : FK RX7 7 7 1 := ⟨RX7, TX7, 31, tyX7, rfl, by decide, gtb_in 733 (by decide +kernel) (by decide +kernel), in_X7, rfl, tyX7_ok, nmX7⟩
theorem fk_X7_13 : FK RX7 13 7 2 := ⟨RX7, TX7, 31, tyX7, rfl, by decide, gtb_in 734 (by decide +kernel) (by decide +kernel), in_X7, rfl, tyX7_ok, nmX7⟩
theorem fk_X7_17 : FK RX7 17 7 6 := ⟨RX7, TX7, 31, tyX7, rfl, by decide, gtb_in 738 (by decide +kernel) (by decide +kernel), in_X7, rfl, tyX7_ok, nmX7⟩
theorem fk_X7_20 : FK RX7 20 7 7 := ⟨RX7, TX7, 31, tyX7, rfl, by decide, gtb_in 739 (by decide +kernel) (by decide +kernel), in_X7, rfl, tyX7_ok, nmX7⟩
theorem fk_X7_23 : FK RX7 23 7 8 := ⟨RX7, TX7, 31, tyX7, rfl, by decide, gtb_in 740 (by decide +kernel) (by decide +kernel), in_X7, rfl, tyX7_ok, nmX7⟩
theorem fk_X7_26 : FK RX7 26 7 9 := ⟨RX7, TX7, 31, tyX7, rfl, by decide, gtb_in 741 (by decide +kernel) (by decide +kernel), in_X7, rfl, tyX7_ok, nmX7⟩
theorem fk_X7_29 : FK RX7 29 7 10 := ⟨RX7, TX7, 31, tyX7, rfl, by decide, gtb_in 742 (by decide +kernel) (by decide +kernel), in_X7, rfl, tyX7_ok, nmX7⟩
theorem fk_X7_32 : FK RX7 32 7 11 := ⟨RX7, TX7, 31, tyX7, rfl, by decide, gtb_in 743 (by decide +kernel) (by decide +kernel), in_X7, rfl, tyX7_ok, nmX7⟩
theorem fk_X7_35 : FK RX7 35 7 12 := ⟨RX7, TX7, 31, tyX7, rfl, by decide, gtb_in 744 (by decide +kernel) (by decide +kernel), in_X7, rfl, tyX7_ok, nmX7⟩
theorem fk_X7_38 : FK RX7 38 7 13 := ⟨RX7, TX7, 31, tyX7, rfl, by decide, gtb_in 745 (by decide +kernel) (by decide +kernel), in_X7, rfl, tyX7_ok, nmX7⟩
theorem fk_X7_41 : FK RX7 41 7 14 := ⟨RX7, TX7, 31, tyX7, rfl, by decide, gtb_in 746 (by decide +kernel) (by decide +kernel), in_X7, rfl, tyX7_ok, nmX7⟩
theorem fk_X7_44 : FK RX7 44 7 20 := ⟨RX7, TX7, 31, tyX7, rfl, by decide, gtb_in 752 (by decide +kernel) (by decide +kernel), in_X7, rfl, tyX7_ok, nmX7⟩
theorem fk_X7_47 : FK RX7 47 7 21 := ⟨RX7, TX7, 31, tyX7, rfl, by decide, gtb_in 753 (by decide +kernel) (by decide +kernel), in_X7, rfl, tyX7_ok, nmX7⟩
theorem fk_X7_50 : FK RX7 50 7 22 := ⟨RX7, TX7, 31, tyX7, rfl, by decide, gtb_in 754 (by decide +kernel) (by decide +kernel), in_X7, rfl, tyX7_ok, nmX7⟩
theorem fk_X7_53 : FK RX7 53 7 23 := ⟨RX7, TX7, 31, tyX7, rfl, by decide, gtb_in 755 (by decide +kernel) (by decide +kernel), in_X7, rfl, tyX7_ok, nmX7⟩
theorem fk_X7_56 : FK RX7 56 7 24 := ⟨RX7, TX7, 31, tyX7, rfl, by decide, gtb_in 756 (by decide +kernel) (by decide +kernel), in_X7, rfl, tyX7_ok, nmX7⟩
theorem fk_X7_59 : FK RX7 59 7 25 := ⟨RX7, TX7, 31, tyX7, rfl, by decide, gtb_in 757 (by decide +kernel) (by decide +kernel), in_X7, rfl, tyX7_ok, nmX7⟩
theorem fk_X7_63 : FK RX7 63 7 26 := ⟨RX7, TX7, 31, tyX7, rfl, by decide, gtb_in 758 (by decide +kernel) (by decide +kernel), in_X7, rfl, tyX7_ok, nmX7⟩
theorem fk_X7_66 : FK RX7 66 7 27 := ⟨RX7, TX7, 31, tyX7, rfl, by decide, gtb_in 759 (by decide +kernel) (by decide +kernel), in_X7, rfl, tyX7_ok, nmX7⟩
theorem fk_X7_69 : FK RX7 69 7 28 := ⟨RX7, TX7, 31, tyX7, rfl, by decide, gtb_in 760 (by decide +kernel) (by decide +kernel), in_X7, rfl, tyX7_ok, nmX7⟩
theorem fk_X7_72 : FK RX7 72 7 29 := ⟨RX7, TX7, 31, tyX7, rfl, by decide, gtb_in 761 (by decide +kernel) (by decide +kernel), in_X7, rfl, tyX7_ok, nmX7⟩
theorem fk_X7_79 : FK RX7 79 7 0 := ⟨RX7, TX7, 31, tyX7, rfl, by decide, gtb_in 732 (by decide +kernel) (by decide +kernel), in_X7, rfl, tyX7_ok, nmX7⟩
theorem fk_X7_93 : FK RX7 93 7 4 := ⟨RX7, TX7, 31, tyX7, rfl, by decide, gtb_in 736 (by decide +kernel) (by decide +kernel), in_X7, rfl, tyX7_ok, nmX7⟩
theorem fk_X7_96 : FK RX7 96 7 5 := ⟨RX7, TX7, 31, tyX7, rfl, by decide, gtb_in 737 (by decide +kernel) (by decide +kernel), in_X7, rfl, tyX7_ok, nmX7⟩
theorem fk_X7_109 : FK RX7 109 7 3 := ⟨RX7, TX7, 31, tyX7, rfl, by decide, gtb_in 735 (by decide +kernel) (by decide +kernel), in_X7, rfl, tyX7_ok, nmX7⟩
theorem fk_X7_138 : FK RX7 138 7 15 := ⟨RX7, TX7, 31, tyX7, rfl, by decide, gtb_in 747 (by decide +kernel) (by decide +kernel), in_X7, rfl, tyX7_ok, nmX7⟩
theorem fk_X7_141 : FK RX7 141 7 17 := ⟨RX7, TX7, 31, tyX7, rfl, by decide, gtb_in 749 (by decide +kernel) (by decide +kernel), in_X7, rfl, tyX7_ok, nmX7⟩
theorem fk_X7_148 : FK RX7 148 7 16 := ⟨RX7, TX7, 31, tyX7, rfl, by decide, gtb_in 748 (by decide +kernel) (by decide +kernel), in_X7, rfl, tyX7_ok, nmX7⟩
theorem fk_X7_193 : FK RX7 193 7 19 := ⟨RX7, TX7, 31, tyX7, rfl, by decide, gtb_in 751 (by decide +kernel) (by decide +kernel), in_X7, rfl, tyX7_ok, nmX7⟩
theorem fk_X7_197 : FK RX7 197 7 18 := ⟨RX7, TX7, 31, tyX7, rfl, by decide, gtb_in 750 (by decide +kernel) (by decide +kernel), in_X7, rfl, tyX7_ok, nmX7⟩
theorem fk_X7_276 : FK RX7 276 7 30 := ⟨RX7, TX7, 31, tyX7, rfl, by decide, gtb_in 762 (by decide +kernel) (by decide +kernel), in_X7, rfl, tyX7_ok, nmX7⟩
theorem ft_0_8 : FT 0 8 .int := fun C T N h => by cases h; exact ⟨rfl, by decide +kernel⟩
theorem ft_0_9 : FT 0 9 .int := fun C T N h => by cases h; exact ⟨rfl, by decide +kernel⟩
theorem ft_0_10 : FT 0 10 .int := fun C T N h => by cases h; exact ⟨rfl, by decide +kernel⟩
theorem ft_0_11 : FT 0 11 .int := fun C T N h => by cases h; exact ⟨rfl, by decide +kernel⟩
theorem ft_0_12 : FT 0 12 .int := fun C T N h => by cases h; exact ⟨rfl, by decide +kernel⟩
theorem ft_1_2 : FT 1 2 .int := fun C T N h => by cases h; exact ⟨rfl, by decide +kernel⟩
theorem ft_1_3 : FT 1 3 .int := fun C T N h => by cases h; exact ⟨rfl, by decide +kernel⟩
theorem ft_2_5 : FT 2 5 .int := fun C T N h => by cases h; exact ⟨rfl, by decide +kernel⟩
theorem ft_4_1 : FT 4 1 .int := fun C T N h => by cases h; exact ⟨rfl, by decide +kernel⟩
theorem ft_4_2 : FT 4 2 .int := fun C T N h => by cases h; exact ⟨rfl, by decide +kernel⟩
theorem ft_5_4 : FT 5 4 .int := fun C T N h => by cases h; exact ⟨rfl, by decide +kernel⟩
theorem ft_5_5 : FT 5 5 .int := fun C T N h => by cases h; exact ⟨rfl, by decide +kernel⟩
theorem ft_5_6 : FT 5 6 .int := fun C T N h => by cases h; exact ⟨rfl, by decide +kernel⟩
theorem ft_6_6 : FT 6 6 .int := fun C T N h => by cases h; exact ⟨rfl, by decide +kernel⟩
theorem ft_6_7 : FT 6 7 .int := fun C T N h => by cases h; exact ⟨rfl, by decide +kernel⟩
theorem ft_6_8 : FT 6 8 .boolean := fun C T N h => by cases h; exact ⟨rfl, by decide +kernel⟩
theorem ft_6_9 : FT 6 9 .boolean := fun C T N h => by cases h; exact ⟨rfl, by decide +kernel⟩
theorem ft_7_0 : FT 7 0 .int := fun C T N h => by cases h; exact ⟨rfl, by decide +kernel⟩
theorem ft_7_2 : FT 7 2 .int := fun C T N h => by cases h; exact ⟨rfl, by decide +kernel⟩
theorem ft_7_3 : FT 7 3 .int := fun C T N h => by cases h; exact ⟨rfl, by decide +kernel⟩
theorem ft_7_4 : FT 7 4 .int := fun C T N h => by cases h; exact ⟨rfl, by decide +kernel⟩
theorem ft_7_5 : FT 7 5 .int := fun C T N h => by cases h; exact ⟨rfl, by decide +kernel⟩
theorem ft_7_15 : FT 7 15 .int := fun C T N h => by cases h; exact ⟨rfl, by decide +kernel⟩
theorem ft_7_16 : FT 7 16 .int := fun C T N h => by cases h; exact ⟨rfl, by decide +kernel⟩
theorem ft_7_17 : FT 7 17 .int := fun C T N h => by cases h; exact ⟨rfl, by decide +kernel⟩
theorem ft_7_18 : FT 7 18 .int := fun C T N h => by cases h; exact ⟨rfl, by decide +kernel⟩
theorem ft_7_19 : FT 7 19 .boolean := fun C T N h => by cases h; exact ⟨rfl, by decide +kernel⟩
theorem ft_7_30 : FT 7 30 .int := fun C T N h => by cases h; exact ⟨rfl, by decide +kernel⟩
theorem cn_X6_171 : Cond.constant RX6 171 (-2147483648) ∈ gtb := gtb_in 674 (by decide +kernel) (by decide +kernel)
theorem cn_X7_285 : Cond.constant RX7 285 (-2147483648) ∈ gtb := gtb_in 1112 (by decide +kernel) (by decide +kernel)
theorem cl_X6_208 : Cond.constantLong RX6 208 (17) ∈ gtb := gtb_in 698 (by decide +kernel) (by decide +kernel)
theorem cl_X6_210 : Cond.constantLong RX6 210 (31) ∈ gtb := gtb_in 699 (by decide +kernel) (by decide +kernel)
theorem cl_X7_295 : Cond.constantLong RX7 295 (31) ∈ gtb := gtb_in 1142 (by decide +kernel) (by decide +kernel)
theorem cl_X7_303 : Cond.constantLong RX7 303 (17) ∈ gtb := gtb_in 1141 (by decide +kernel) (by decide +kernel)
theorem lk_X0_52 : Cond.methodLink RX0 52 yX0_goesOn ∈ gtb := gtb_in 344 (by decide +kernel) (by decide +kernel)
theorem lk_X0_56 : Cond.methodLink RX0 56 yX0_measure ∈ gtb := gtb_in 375 (by decide +kernel) (by decide +kernel)
theorem lk_X0_59 : Cond.methodLink RX0 59 yX0_hasPart ∈ gtb := gtb_in 348 (by decide +kernel) (by decide +kernel)
theorem lk_X0_63 : Cond.methodLink RX0 63 yX0_takesFigure ∈ gtb := gtb_in 352 (by decide +kernel) (by decide +kernel)
theorem lk_X0_66 : Cond.methodLink RX0 66 yX0_kindOf ∈ gtb := gtb_in 356 (by decide +kernel) (by decide +kernel)
theorem lk_X0_70 : Cond.methodLink RX0 70 yX0_begin ∈ gtb := gtb_in 359 (by decide +kernel) (by decide +kernel)
theorem lk_X0_74 : Cond.methodLink RX0 74 yX0_hangBelowOpen ∈ gtb := gtb_in 363 (by decide +kernel) (by decide +kernel)
theorem lk_X0_78 : Cond.methodLink RX0 78 yX0_closeFull ∈ gtb := gtb_in 367 (by decide +kernel) (by decide +kernel)
theorem lk_X0_81 : Cond.methodLink RX0 81 yX0_hasTwo ∈ gtb := gtb_in 371 (by decide +kernel) (by decide +kernel)
theorem lk_X0_84 : Cond.methodLink RX0 84 yX0_sizeBelow ∈ gtb := gtb_in 379 (by decide +kernel) (by decide +kernel)
theorem lk_X1_36 : Cond.methodLink RX1 36 Lib.Math.min.name ∈ gtb := gtb_in 441 (by decide +kernel) (by decide +kernel)
theorem lk_X1_48 : Cond.methodLink RX1 48 yX3_setWord ∈ gtb := gtb_in 444 (by decide +kernel) (by decide +kernel)
theorem lk_X1_52 : Cond.methodLink RX1 52 yX1_tryLast ∈ gtb := gtb_in 445 (by decide +kernel) (by decide +kernel)
theorem lk_X1_58 : Cond.methodLink RX1 58 yX1_tryEach ∈ gtb := gtb_in 459 (by decide +kernel) (by decide +kernel)
theorem lk_X1_65 : Cond.methodLink RX1 65 yX1_tryPairs ∈ gtb := gtb_in 467 (by decide +kernel) (by decide +kernel)
theorem lk_X1_69 : Cond.methodLink RX1 69 yX1_tryAlone ∈ gtb := gtb_in 472 (by decide +kernel) (by decide +kernel)
theorem lk_X1_72 : Cond.methodLink RX1 72 yX1_sizeOf ∈ gtb := gtb_in 463 (by decide +kernel) (by decide +kernel)
theorem lk_X1_76 : Cond.methodLink RX1 76 yX1_trialPlace ∈ gtb := gtb_in 449 (by decide +kernel) (by decide +kernel)
theorem lk_X1_79 : Cond.methodLink RX1 79 yX3_setLike ∈ gtb := gtb_in 458 (by decide +kernel) (by decide +kernel)
theorem lk_X1_83 : Cond.methodLink RX1 83 yX3_setMade ∈ gtb := gtb_in 471 (by decide +kernel) (by decide +kernel)
theorem lk_X1_87 : Cond.methodLink RX1 87 yX3_tell ∈ gtb := gtb_in 476 (by decide +kernel) (by decide +kernel)
theorem lk_X1_90 : Cond.methodLink RX1 90 yX3_has ∈ gtb := gtb_in 453 (by decide +kernel) (by decide +kernel)
theorem lk_X1_97 : Cond.methodLink RX1 97 yX3_noneGreater ∈ gtb := gtb_in 454 (by decide +kernel) (by decide +kernel)
theorem lk_X1_101 : Cond.methodLink RX1 101 yX3_fewerLines ∈ gtb := gtb_in 481 (by decide +kernel) (by decide +kernel)
theorem lk_X1_104 : Cond.methodLink RX1 104 yX3_lessMost ∈ gtb := gtb_in 489 (by decide +kernel) (by decide +kernel)
theorem lk_X2_35 : Cond.methodLink RX2 35 yX2_putAt ∈ gtb := gtb_in 508 (by decide +kernel) (by decide +kernel)
theorem lk_X2_39 : Cond.methodLink RX2 39 yX3_tell ∈ gtb := gtb_in 512 (by decide +kernel) (by decide +kernel)
theorem lk_X2_45 : Cond.methodLink RX2 45 yX0_hasPart ∈ gtb := gtb_in 513 (by decide +kernel) (by decide +kernel)
theorem lk_X2_49 : Cond.methodLink RX2 49 yX2_placeBelow ∈ gtb := gtb_in 514 (by decide +kernel) (by decide +kernel)
theorem lk_X2_65 : Cond.methodLink RX2 65 yX2_isWordOn ∈ gtb := gtb_in 580 (by decide +kernel) (by decide +kernel)
theorem lk_X2_69 : Cond.methodLink RX2 69 Lib.Math.max.name ∈ gtb := gtb_in 584 (by decide +kernel) (by decide +kernel)
theorem lk_X2_74 : Cond.methodLink RX2 74 yX2_columnsOf ∈ gtb := gtb_in 589 (by decide +kernel) (by decide +kernel)
theorem lk_X3_9 : Cond.methodLink RX3 9 Lib.Math.max.name ∈ gtb := gtb_in 176 (by decide +kernel) (by decide +kernel)
theorem lk_X3_30 : Cond.methodLink RX3 30 yX3_set ∈ gtb := gtb_in 400 (by decide +kernel) (by decide +kernel)
theorem lk_X3_34 : Cond.methodLink RX3 34 yX3_has ∈ gtb := gtb_in 408 (by decide +kernel) (by decide +kernel)
theorem lk_X5_44 : Cond.methodLink RX5 44 yX5_shapeParts ∈ gtb := gtb_in 387 (by decide +kernel) (by decide +kernel)
theorem lk_X5_60 : Cond.methodLink RX5 60 yX3_set ∈ gtb := gtb_in 420 (by decide +kernel) (by decide +kernel)
theorem lk_X5_64 : Cond.methodLink RX5 64 yX5_findLines ∈ gtb := gtb_in 425 (by decide +kernel) (by decide +kernel)
theorem lk_X5_67 : Cond.methodLink RX5 67 yX5_findShrinks ∈ gtb := gtb_in 429 (by decide +kernel) (by decide +kernel)
theorem lk_X5_70 : Cond.methodLink RX5 70 yX5_shapeOne ∈ gtb := gtb_in 391 (by decide +kernel) (by decide +kernel)
theorem lk_X5_74 : Cond.methodLink RX5 74 yX0_hasPart ∈ gtb := gtb_in 395 (by decide +kernel) (by decide +kernel)
theorem lk_X5_90 : Cond.methodLink RX5 90 yX3_setWord ∈ gtb := gtb_in 396 (by decide +kernel) (by decide +kernel)
theorem lk_X5_94 : Cond.methodLink RX5 94 yX3_setLike ∈ gtb := gtb_in 404 (by decide +kernel) (by decide +kernel)
theorem lk_X5_98 : Cond.methodLink RX5 98 yX5_stands ∈ gtb := gtb_in 412 (by decide +kernel) (by decide +kernel)
theorem lk_X5_101 : Cond.methodLink RX5 101 yX3_tell ∈ gtb := gtb_in 416 (by decide +kernel) (by decide +kernel)
theorem lk_X5_105 : Cond.methodLink RX5 105 yX3_setMade ∈ gtb := gtb_in 421 (by decide +kernel) (by decide +kernel)
theorem lk_X5_111 : Cond.methodLink RX5 111 yX5_isAny ∈ gtb := gtb_in 606 (by decide +kernel) (by decide +kernel)
theorem lk_X5_115 : Cond.methodLink RX5 115 yX5_fits ∈ gtb := gtb_in 610 (by decide +kernel) (by decide +kernel)
theorem lk_X5_119 : Cond.methodLink RX5 119 yX3_fewerLines ∈ gtb := gtb_in 639 (by decide +kernel) (by decide +kernel)
theorem lk_X5_122 : Cond.methodLink RX5 122 yX3_lessMost ∈ gtb := gtb_in 634 (by decide +kernel) (by decide +kernel)
theorem lk_X6_57 : Cond.methodLink RX6 57 yX6_isByte ∈ gtb := gtb_in 329 (by decide +kernel) (by decide +kernel)
theorem lk_X6_61 : Cond.methodLink RX6 61 yX0_append ∈ gtb := gtb_in 332 (by decide +kernel) (by decide +kernel)
theorem lk_X6_64 : Cond.methodLink RX6 64 yX6_readDoc ∈ gtb := gtb_in 336 (by decide +kernel) (by decide +kernel)
theorem lk_X6_67 : Cond.methodLink RX6 67 yX6_chooseBest ∈ gtb := gtb_in 433 (by decide +kernel) (by decide +kernel)
theorem lk_X6_76 : Cond.methodLink RX6 76 yX6_sheetOf ∈ gtb := gtb_in 538 (by decide +kernel) (by decide +kernel)
theorem lk_X6_80 : Cond.methodLink RX6 80 yX4_isLost ∈ gtb := gtb_in 542 (by decide +kernel) (by decide +kernel)
theorem lk_X6_84 : Cond.methodLink RX6 84 yX6_found ∈ gtb := gtb_in 546 (by decide +kernel) (by decide +kernel)
theorem lk_X6_91 : Cond.methodLink RX6 91 yX4_itemAt ∈ gtb := gtb_in 550 (by decide +kernel) (by decide +kernel)
theorem lk_X6_94 : Cond.methodLink RX6 94 yX0_hasPart ∈ gtb := gtb_in 558 (by decide +kernel) (by decide +kernel)
theorem lk_X6_103 : Cond.methodLink RX6 103 yX1_sizeOf ∈ gtb := gtb_in 559 (by decide +kernel) (by decide +kernel)
theorem lk_X6_112 : Cond.methodLink RX6 112 yX3_tell ∈ gtb := gtb_in 501 (by decide +kernel) (by decide +kernel)
theorem lk_X6_129 : Cond.methodLink RX6 129 yX2_columnsOf ∈ gtb := gtb_in 576 (by decide +kernel) (by decide +kernel)
theorem lk_X6_132 : Cond.methodLink RX6 132 yX2_byteAt ∈ gtb := gtb_in 585 (by decide +kernel) (by decide +kernel)
theorem lk_X6_135 : Cond.methodLink RX6 135 yX5_tell ∈ gtb := gtb_in 594 (by decide +kernel) (by decide +kernel)
theorem lk_X6_139 : Cond.methodLink RX6 139 yX5_hasty ∈ gtb := gtb_in 602 (by decide +kernel) (by decide +kernel)
theorem lk_X6_148 : Cond.methodLink RX6 148 yX5_shrinkAt ∈ gtb := gtb_in 622 (by decide +kernel) (by decide +kernel)
theorem lk_X6_151 : Cond.methodLink RX6 151 yX5_linesOfLeastMost ∈ gtb := gtb_in 630 (by decide +kernel) (by decide +kernel)
theorem lk_X6_154 : Cond.methodLink RX6 154 yX5_fewestLines ∈ gtb := gtb_in 635 (by decide +kernel) (by decide +kernel)
theorem lk_X6_157 : Cond.methodLink RX6 157 yX6_isForm ∈ gtb := gtb_in 644 (by decide +kernel) (by decide +kernel)
theorem lk_X6_160 : Cond.methodLink RX6 160 yX4_renew ∈ gtb := gtb_in 647 (by decide +kernel) (by decide +kernel)
theorem lk_X6_164 : Cond.methodLink RX6 164 yX6_wrongItem ∈ gtb := gtb_in 659 (by decide +kernel) (by decide +kernel)
theorem lk_X6_168 : Cond.methodLink RX6 168 yX4_store ∈ gtb := gtb_in 666 (by decide +kernel) (by decide +kernel)
theorem lk_X6_175 : Cond.methodLink RX6 175 yX4_hasItems ∈ gtb := gtb_in 662 (by decide +kernel) (by decide +kernel)
theorem lk_X6_182 : Cond.methodLink RX6 182 arraycopyName ∈ gtb := gtb_in 679 (by decide +kernel) (by decide +kernel)
theorem lk_X6_188 : Cond.methodLink RX6 188 Lib.Math.min.name ∈ gtb := gtb_in 686 (by decide +kernel) (by decide +kernel)
theorem lk_X6_193 : Cond.methodLink RX6 193 Lib.Math.max.name ∈ gtb := gtb_in 687 (by decide +kernel) (by decide +kernel)
theorem lk_X6_199 : Cond.methodLink RX6 199 yX6_tried ∈ gtb := gtb_in 692 (by decide +kernel) (by decide +kernel)
theorem lk_X6_202 : Cond.methodLink RX6 202 yX6_best ∈ gtb := gtb_in 693 (by decide +kernel) (by decide +kernel)
theorem lk_X6_212 : Cond.methodLink RX6 212 yX6_count ∈ gtb := gtb_in 700 (by decide +kernel) (by decide +kernel)
theorem lk_X6_215 : Cond.methodLink RX6 215 yX6_fault ∈ gtb := gtb_in 701 (by decide +kernel) (by decide +kernel)
theorem lk_X6_218 : Cond.methodLink RX6 218 yX6_digestParts ∈ gtb := gtb_in 702 (by decide +kernel) (by decide +kernel)
theorem lk_X6_222 : Cond.methodLink RX6 222 yX6_digestBest ∈ gtb := gtb_in 712 (by decide +kernel) (by decide +kernel)
theorem lk_X6_225 : Cond.methodLink RX6 225 yX6_digestWays ∈ gtb := gtb_in 717 (by decide +kernel) (by decide +kernel)
theorem lk_X6_228 : Cond.methodLink RX6 228 yX6_part ∈ gtb := gtb_in 706 (by decide +kernel) (by decide +kernel)
theorem lk_X6_231 : Cond.methodLink RX6 231 yX6_digestShape ∈ gtb := gtb_in 707 (by decide +kernel) (by decide +kernel)
theorem lk_X6_235 : Cond.methodLink RX6 235 yX6_frontier ∈ gtb := gtb_in 711 (by decide +kernel) (by decide +kernel)
theorem lk_X6_239 : Cond.methodLink RX6 239 yX6_line ∈ gtb := gtb_in 716 (by decide +kernel) (by decide +kernel)
theorem lk_X6_242 : Cond.methodLink RX6 242 yX6_way ∈ gtb := gtb_in 721 (by decide +kernel) (by decide +kernel)
theorem lk_X6_245 : Cond.methodLink RX6 245 yX6_haste ∈ gtb := gtb_in 722 (by decide +kernel) (by decide +kernel)
theorem lk_X6_248 : Cond.methodLink RX6 248 yX6_enough ∈ gtb := gtb_in 723 (by decide +kernel) (by decide +kernel)
theorem lk_X6_251 : Cond.methodLink RX6 251 yX6_shrinks ∈ gtb := gtb_in 724 (by decide +kernel) (by decide +kernel)
theorem lk_X6_254 : Cond.methodLink RX6 254 yX6_spare ∈ gtb := gtb_in 725 (by decide +kernel) (by decide +kernel)
theorem lk_X6_257 : Cond.methodLink RX6 257 yX0_parse ∈ gtb := gtb_in 340 (by decide +kernel) (by decide +kernel)
theorem lk_X6_260 : Cond.methodLink RX6 260 yX5_make ∈ gtb := gtb_in 383 (by decide +kernel) (by decide +kernel)
theorem lk_X6_264 : Cond.methodLink RX6 264 yX1_make ∈ gtb := gtb_in 437 (by decide +kernel) (by decide +kernel)
theorem lk_X6_267 : Cond.methodLink RX6 267 yX1_fewestLines ∈ gtb := gtb_in 477 (by decide +kernel) (by decide +kernel)
theorem lk_X6_269 : Cond.methodLink RX6 269 yX1_leastMost ∈ gtb := gtb_in 485 (by decide +kernel) (by decide +kernel)
theorem lk_X6_272 : Cond.methodLink RX6 272 yX2_clear ∈ gtb := gtb_in 493 (by decide +kernel) (by decide +kernel)
theorem lk_X6_275 : Cond.methodLink RX6 275 yX6_keepBest ∈ gtb := gtb_in 497 (by decide +kernel) (by decide +kernel)
theorem lk_X6_278 : Cond.methodLink RX6 278 yX3_set ∈ gtb := gtb_in 502 (by decide +kernel) (by decide +kernel)
theorem lk_X6_282 : Cond.methodLink RX6 282 yX5_shapeParts ∈ gtb := gtb_in 503 (by decide +kernel) (by decide +kernel)
theorem lk_X6_287 : Cond.methodLink RX6 287 yX2_place ∈ gtb := gtb_in 504 (by decide +kernel) (by decide +kernel)
theorem lk_X7_75 : Cond.methodLink RX7 75 yX7_in ∈ gtb := gtb_in 830 (by decide +kernel) (by decide +kernel)
theorem lk_X7_82 : Cond.methodLink RX7 82 yX7_isSheet ∈ gtb := gtb_in 849 (by decide +kernel) (by decide +kernel)
theorem lk_X7_86 : Cond.methodLink RX7 86 yX7_meets ∈ gtb := gtb_in 852 (by decide +kernel) (by decide +kernel)
theorem lk_X7_90 : Cond.methodLink RX7 90 yX7_type ∈ gtb := gtb_in 856 (by decide +kernel) (by decide +kernel)
theorem lk_X7_99 : Cond.methodLink RX7 99 yX7_kindOf ∈ gtb := gtb_in 873 (by decide +kernel) (by decide +kernel)
theorem lk_X7_102 : Cond.methodLink RX7 102 yX7_isTwofold ∈ gtb := gtb_in 876 (by decide +kernel) (by decide +kernel)
theorem lk_X7_105 : Cond.methodLink RX7 105 yX7_readsText ∈ gtb := gtb_in 869 (by decide +kernel) (by decide +kernel)
theorem lk_X7_112 : Cond.methodLink RX7 112 yX7_reads ∈ gtb := gtb_in 865 (by decide +kernel) (by decide +kernel)
theorem lk_X7_115 : Cond.methodLink RX7 115 yX7_faultOf ∈ gtb := gtb_in 861 (by decide +kernel) (by decide +kernel)
theorem lk_X7_118 : Cond.methodLink RX7 118 yX7_wayOf ∈ gtb := gtb_in 933 (by decide +kernel) (by decide +kernel)
theorem lk_X7_121 : Cond.methodLink RX7 121 yX7_lines ∈ gtb := gtb_in 913 (by decide +kernel) (by decide +kernel)
theorem lk_X7_124 : Cond.methodLink RX7 124 yX7_last ∈ gtb := gtb_in 919 (by decide +kernel) (by decide +kernel)
theorem lk_X7_127 : Cond.methodLink RX7 127 yX7_most ∈ gtb := gtb_in 910 (by decide +kernel) (by decide +kernel)
theorem lk_X7_130 : Cond.methodLink RX7 130 yX7_max ∈ gtb := gtb_in 936 (by decide +kernel) (by decide +kernel)
theorem lk_X7_134 : Cond.methodLink RX7 134 yX7_shape ∈ gtb := gtb_in 903 (by decide +kernel) (by decide +kernel)
theorem lk_X7_144 : Cond.methodLink RX7 144 yX7_isNoGreater ∈ gtb := gtb_in 916 (by decide +kernel) (by decide +kernel)
theorem lk_X7_151 : Cond.methodLink RX7 151 yX7_both ∈ gtb := gtb_in 930 (by decide +kernel) (by decide +kernel)
theorem lk_X7_155 : Cond.methodLink RX7 155 yX7_tries ∈ gtb := gtb_in 906 (by decide +kernel) (by decide +kernel)
theorem lk_X7_159 : Cond.methodLink RX7 159 yX7_triesChoice ∈ gtb := gtb_in 922 (by decide +kernel) (by decide +kernel)
theorem lk_X7_163 : Cond.methodLink RX7 163 yX7_triesBoth ∈ gtb := gtb_in 926 (by decide +kernel) (by decide +kernel)
theorem lk_X7_166 : Cond.methodLink RX7 166 yX7_pushed ∈ gtb := gtb_in 939 (by decide +kernel) (by decide +kernel)
theorem lk_X7_169 : Cond.methodLink RX7 169 yX7_findsFronts ∈ gtb := gtb_in 899 (by decide +kernel) (by decide +kernel)
theorem lk_X7_172 : Cond.methodLink RX7 172 yX7_frontsTold ∈ gtb := gtb_in 895 (by decide +kernel) (by decide +kernel)
theorem lk_X7_175 : Cond.methodLink RX7 175 yX7_manyOf ∈ gtb := gtb_in 891 (by decide +kernel) (by decide +kernel)
theorem lk_X7_178 : Cond.methodLink RX7 178 yX7_isPart ∈ gtb := gtb_in 883 (by decide +kernel) (by decide +kernel)
theorem lk_X7_181 : Cond.methodLink RX7 181 yX7_partOf ∈ gtb := gtb_in 887 (by decide +kernel) (by decide +kernel)
theorem lk_X7_184 : Cond.methodLink RX7 184 yX7_tellOf ∈ gtb := gtb_in 950 (by decide +kernel) (by decide +kernel)
theorem lk_X7_187 : Cond.methodLink RX7 187 yX7_frontierOf ∈ gtb := gtb_in 946 (by decide +kernel) (by decide +kernel)
theorem lk_X7_190 : Cond.methodLink RX7 190 yX7_triedOf ∈ gtb := gtb_in 957 (by decide +kernel) (by decide +kernel)
theorem lk_X7_200 : Cond.methodLink RX7 200 yX7_isAhead ∈ gtb := gtb_in 973 (by decide +kernel) (by decide +kernel)
theorem lk_X7_203 : Cond.methodLink RX7 203 yX7_findsBest ∈ gtb := gtb_in 969 (by decide +kernel) (by decide +kernel)
theorem lk_X7_206 : Cond.methodLink RX7 206 yX7_bestOf ∈ gtb := gtb_in 965 (by decide +kernel) (by decide +kernel)
theorem lk_X7_209 : Cond.methodLink RX7 209 yX7_isIn ∈ gtb := gtb_in 993 (by decide +kernel) (by decide +kernel)
theorem lk_X7_212 : Cond.methodLink RX7 212 yX7_shapeBy ∈ gtb := gtb_in 989 (by decide +kernel) (by decide +kernel)
theorem lk_X7_215 : Cond.methodLink RX7 215 yX7_shapeOf ∈ gtb := gtb_in 985 (by decide +kernel) (by decide +kernel)
theorem lk_X7_218 : Cond.methodLink RX7 218 yX7_wayFor ∈ gtb := gtb_in 981 (by decide +kernel) (by decide +kernel)
theorem lk_X7_221 : Cond.methodLink RX7 221 yX7_setsBelow ∈ gtb := gtb_in 1008 (by decide +kernel) (by decide +kernel)
theorem lk_X7_224 : Cond.methodLink RX7 224 yX7_puts ∈ gtb := gtb_in 1012 (by decide +kernel) (by decide +kernel)
theorem lk_X7_228 : Cond.methodLink RX7 228 yX7_sets ∈ gtb := gtb_in 1004 (by decide +kernel) (by decide +kernel)
theorem lk_X7_231 : Cond.methodLink RX7 231 yX7_columnsIn ∈ gtb := gtb_in 1016 (by decide +kernel) (by decide +kernel)
theorem lk_X7_234 : Cond.methodLink RX7 234 yX7_byteIn ∈ gtb := gtb_in 1020 (by decide +kernel) (by decide +kernel)
theorem lk_X7_237 : Cond.methodLink RX7 237 yX7_lineOf ∈ gtb := gtb_in 1000 (by decide +kernel) (by decide +kernel)
theorem lk_X7_240 : Cond.methodLink RX7 240 yX7_isAllowed ∈ gtb := gtb_in 1040 (by decide +kernel) (by decide +kernel)
theorem lk_X7_243 : Cond.methodLink RX7 243 yX7_findsWays ∈ gtb := gtb_in 1032 (by decide +kernel) (by decide +kernel)
theorem lk_X7_246 : Cond.methodLink RX7 246 yX7_isAny ∈ gtb := gtb_in 1036 (by decide +kernel) (by decide +kernel)
theorem lk_X7_249 : Cond.methodLink RX7 249 yX7_hasteOf ∈ gtb := gtb_in 1028 (by decide +kernel) (by decide +kernel)
theorem lk_X7_252 : Cond.methodLink RX7 252 yX7_leastMost ∈ gtb := gtb_in 1052 (by decide +kernel) (by decide +kernel)
theorem lk_X7_255 : Cond.methodLink RX7 255 yX7_enoughOf ∈ gtb := gtb_in 1048 (by decide +kernel) (by decide +kernel)
theorem lk_X7_258 : Cond.methodLink RX7 258 yX7_fewest ∈ gtb := gtb_in 1064 (by decide +kernel) (by decide +kernel)
theorem lk_X7_261 : Cond.methodLink RX7 261 yX7_shrinksOf ∈ gtb := gtb_in 1060 (by decide +kernel) (by decide +kernel)
theorem lk_X7_264 : Cond.methodLink RX7 264 yX7_leastWithout ∈ gtb := gtb_in 1080 (by decide +kernel) (by decide +kernel)
theorem lk_X7_267 : Cond.methodLink RX7 267 yX7_linesWithout ∈ gtb := gtb_in 1076 (by decide +kernel) (by decide +kernel)
theorem lk_X7_270 : Cond.methodLink RX7 270 yX7_isOverBy ∈ gtb := gtb_in 1084 (by decide +kernel) (by decide +kernel)
theorem lk_X7_273 : Cond.methodLink RX7 273 yX7_spareOf ∈ gtb := gtb_in 1072 (by decide +kernel) (by decide +kernel)
theorem lk_X7_279 : Cond.methodLink RX7 279 yX7_lacks ∈ gtb := gtb_in 1100 (by decide +kernel) (by decide +kernel)
theorem lk_X7_282 : Cond.methodLink RX7 282 yX7_keep ∈ gtb := gtb_in 1104 (by decide +kernel) (by decide +kernel)
theorem lk_X7_286 : Cond.methodLink RX7 286 yX7_partsOf ∈ gtb := gtb_in 1125 (by decide +kernel) (by decide +kernel)
theorem lk_X7_289 : Cond.methodLink RX7 289 yX7_choicesOf ∈ gtb := gtb_in 1129 (by decide +kernel) (by decide +kernel)
theorem lk_X7_292 : Cond.methodLink RX7 292 yX7_wholeOf ∈ gtb := gtb_in 1133 (by decide +kernel) (by decide +kernel)
theorem lk_X7_297 : Cond.methodLink RX7 297 yX7_part ∈ gtb := gtb_in 1148 (by decide +kernel) (by decide +kernel)
theorem lk_X7_300 : Cond.methodLink RX7 300 yX7_frontier ∈ gtb := gtb_in 1149 (by decide +kernel) (by decide +kernel)
theorem lk_X7_305 : Cond.methodLink RX7 305 yX7_count ∈ gtb := gtb_in 1143 (by decide +kernel) (by decide +kernel)
theorem lk_X7_308 : Cond.methodLink RX7 308 yX7_partDigest ∈ gtb := gtb_in 1144 (by decide +kernel) (by decide +kernel)
theorem jm_max_s : Cond.static Lib.Math.max.name ∈ gtb := gtb_in 177 (by decide +kernel) (by decide +kernel)
theorem jm_max_c : Cond.code Lib.Math.max.name Lib.Math.max.code 2 (some .int) ∈ gtb := gtb_in 178 (by decide +kernel) (by decide +kernel)
theorem jm_min_s : Cond.static Lib.Math.min.name ∈ gtb := gtb_in 442 (by decide +kernel) (by decide +kernel)
theorem jm_min_c : Cond.code Lib.Math.min.name Lib.Math.min.code 2 (some .int) ∈ gtb := gtb_in 443 (by decide +kernel) (by decide +kernel)
theorem jm_i : Cond.initialized "java/lang/Math" ∈ gtb := gtb_in 80 (by decide +kernel) (by decide +kernel)
theorem js_n : Cond.native arraycopyName ∈ gtb := gtb_in 681 (by decide +kernel) (by decide +kernel)
theorem js_s : Cond.static arraycopyName ∈ gtb := gtb_in 680 (by decide +kernel) (by decide +kernel)
theorem js_i : Cond.initialized "java/lang/System" ∈ gtb := gtb_in 85 (by decide +kernel) (by decide +kernel)
def FU : Nat := 200
def M_X6_isByte : MI := (yX6_isByte, cX6_isByte, 1, some .boolean, { frames := 0, cells := 0, slots := 0, locals := 0 })
theorem mk_X6_isByte : MK M_X6_isByte 1 := ⟨gtb_in 331 (by decide +kernel) (by decide +kernel), gtb_in 76 (by decide +kernel) (by decide +kernel), ⟨by decide, by decide, by decide +kernel⟩, rfl, rfl⟩
theorem ms_X6_isByte : Cond.static M_X6_isByte.1 ∈ gtb := gtb_in 330 (by decide +kernel) (by decide +kernel)
def M_X0_append : MI := (yX0_append, cX0_append, 2, some .boolean, { frames := 0, cells := 0, slots := 0, locals := 0 })
theorem mk_X0_append : MK M_X0_append 1 := ⟨gtb_in 335 (by decide +kernel) (by decide +kernel), gtb_in 77 (by decide +kernel) (by decide +kernel), ⟨by decide, by decide, by decide +kernel⟩, rfl, rfl⟩
theorem mv_X0_append : MV M_X0_append := ⟨gtb_in 333 (by decide +kernel) (by decide +kernel), gtb_in 334 (by decide +kernel) (by decide +kernel)⟩
def M_X0_hasPart : MI := (yX0_hasPart, cX0_hasPart, 2, some .boolean, { frames := 0, cells := 0, slots := 0, locals := 0 })
theorem mk_X0_hasPart : MK M_X0_hasPart 1 := ⟨gtb_in 351 (by decide +kernel) (by decide +kernel), gtb_in 77 (by decide +kernel) (by decide +kernel), ⟨by decide, by decide, by decide +kernel⟩, rfl, rfl⟩
theorem mv_X0_hasPart : MV M_X0_hasPart := ⟨gtb_in 349 (by decide +kernel) (by decide +kernel), gtb_in 350 (by decide +kernel) (by decide +kernel)⟩
def M_X0_takesFigure : MI := (yX0_takesFigure, cX0_takesFigure, 2, some .boolean, { frames := 0, cells := 0, slots := 0, locals := 0 })
theorem mk_X0_takesFigure : MK M_X0_takesFigure 1 := ⟨gtb_in 355 (by decide +kernel) (by decide +kernel), gtb_in 77 (by decide +kernel) (by decide +kernel), ⟨by decide, by decide, by decide +kernel⟩, rfl, rfl⟩
theorem mv_X0_takesFigure : MV M_X0_takesFigure := ⟨gtb_in 354 (by decide +kernel) (by decide +kernel), gtb_in 2 (by decide +kernel) (by decide +kernel)⟩
def M_X0_kindOf : MI := (yX0_kindOf, cX0_kindOf, 1, some .int, { frames := 0, cells := 0, slots := 0, locals := 0 })
theorem mk_X0_kindOf : MK M_X0_kindOf 1 := ⟨gtb_in 358 (by decide +kernel) (by decide +kernel), gtb_in 77 (by decide +kernel) (by decide +kernel), ⟨by decide, by decide, by decide +kernel⟩, rfl, rfl⟩
theorem ms_X0_kindOf : Cond.static M_X0_kindOf.1 ∈ gtb := gtb_in 357 (by decide +kernel) (by decide +kernel)
def M_X0_hangBelowOpen : MI := (yX0_hangBelowOpen, cX0_hangBelowOpen, 2, none, { frames := 1, cells := 0, slots := 0, locals := 21 })
theorem mk_X0_hangBelowOpen : MK M_X0_hangBelowOpen 1 := ⟨gtb_in 366 (by decide +kernel) (by decide +kernel), gtb_in 77 (by decide +kernel) (by decide +kernel), ⟨by decide, by decide, by decide +kernel⟩, rfl, rfl⟩
theorem mv_X0_hangBelowOpen : MV M_X0_hangBelowOpen := ⟨gtb_in 365 (by decide +kernel) (by decide +kernel), gtb_in 4 (by decide +kernel) (by decide +kernel)⟩
def M_X0_hasTwo : MI := (yX0_hasTwo, cX0_hasTwo, 2, some .boolean, { frames := 0, cells := 0, slots := 0, locals := 0 })
theorem mk_X0_hasTwo : MK M_X0_hasTwo 1 := ⟨gtb_in 374 (by decide +kernel) (by decide +kernel), gtb_in 77 (by decide +kernel) (by decide +kernel), ⟨by decide, by decide, by decide +kernel⟩, rfl, rfl⟩
theorem mv_X0_hasTwo : MV M_X0_hasTwo := ⟨gtb_in 373 (by decide +kernel) (by decide +kernel), gtb_in 6 (by decide +kernel) (by decide +kernel)⟩
def M_X0_closeFull : MI := (yX0_closeFull, cX0_closeFull, 3, none, { frames := 1, cells := 0, slots := 0, locals := 21 })
theorem mk_X0_closeFull : MK M_X0_closeFull 0 := ⟨gtb_in 370 (by decide +kernel) (by decide +kernel), gtb_in 77 (by decide +kernel) (by decide +kernel), ⟨by decide, by decide, by decide +kernel⟩, rfl, rfl⟩
theorem mv_X0_closeFull : MV M_X0_closeFull := ⟨gtb_in 369 (by decide +kernel) (by decide +kernel), gtb_in 5 (by decide +kernel) (by decide +kernel)⟩
def M_X0_begin : MI := (yX0_begin, cX0_begin, 5, none, { frames := 2, cells := 0, slots := 0, locals := 43 })
theorem mk_X0_begin : MK M_X0_begin 3 := ⟨gtb_in 362 (by decide +kernel) (by decide +kernel), gtb_in 77 (by decide +kernel) (by decide +kernel), ⟨by decide, by decide, by decide +kernel⟩, rfl, rfl⟩
theorem mv_X0_begin : MV M_X0_begin := ⟨gtb_in 361 (by decide +kernel) (by decide +kernel), gtb_in 3 (by decide +kernel) (by decide +kernel)⟩
def M_X0_goesOn : MI := (yX0_goesOn, cX0_goesOn, 5, some .boolean, { frames := 3, cells := 0, slots := 0, locals := 67 })
theorem mk_X0_goesOn : MK M_X0_goesOn 2 := ⟨gtb_in 347 (by decide +kernel) (by decide +kernel), gtb_in 77 (by decide +kernel) (by decide +kernel), ⟨by decide, by decide, by decide +kernel⟩, rfl, rfl⟩
theorem mv_X0_goesOn : MV M_X0_goesOn := ⟨gtb_in 346 (by decide +kernel) (by decide +kernel), gtb_in 1 (by decide +kernel) (by decide +kernel)⟩
def M_X0_sizeBelow : MI := (yX0_sizeBelow, cX0_sizeBelow, 2, some .int, { frames := 1, cells := 0, slots := 0, locals := 21 })
theorem mk_X0_sizeBelow : MK M_X0_sizeBelow 1 := ⟨gtb_in 382 (by decide +kernel) (by decide +kernel), gtb_in 77 (by decide +kernel) (by decide +kernel), ⟨by decide, by decide, by decide +kernel⟩, rfl, rfl⟩
theorem mv_X0_sizeBelow : MV M_X0_sizeBelow := ⟨gtb_in 381 (by decide +kernel) (by decide +kernel), gtb_in 8 (by decide +kernel) (by decide +kernel)⟩
def M_X0_measure : MI := (yX0_measure, cX0_measure, 3, none, { frames := 2, cells := 0, slots := 0, locals := 42 })
theorem mk_X0_measure : MK M_X0_measure 0 := ⟨gtb_in 378 (by decide +kernel) (by decide +kernel), gtb_in 77 (by decide +kernel) (by decide +kernel), ⟨by decide, by decide, by decide +kernel⟩, rfl, rfl⟩
theorem mv_X0_measure : MV M_X0_measure := ⟨gtb_in 377 (by decide +kernel) (by decide +kernel), gtb_in 7 (by decide +kernel) (by decide +kernel)⟩
def M_X0_parse : MI := (yX0_parse, cX0_parse, 2, none, { frames := 4, cells := 0, slots := 0, locals := 91 })
theorem mk_X0_parse : MK M_X0_parse 0 := ⟨gtb_in 343 (by decide +kernel) (by decide +kernel), gtb_in 77 (by decide +kernel) (by decide +kernel), ⟨by decide, by decide, by decide +kernel⟩, rfl, rfl⟩
theorem mv_X0_parse : MV M_X0_parse := ⟨gtb_in 341 (by decide +kernel) (by decide +kernel), gtb_in 342 (by decide +kernel) (by decide +kernel)⟩
def M_X3_set : MI := (yX3_set, cX3_set, 6, none, { frames := 0, cells := 0, slots := 0, locals := 0 })
theorem mk_X3_set : MK M_X3_set 5 := ⟨gtb_in 403 (by decide +kernel) (by decide +kernel), gtb_in 79 (by decide +kernel) (by decide +kernel), ⟨by decide, by decide, by decide +kernel⟩, rfl, rfl⟩
theorem mv_X3_set : MV M_X3_set := ⟨gtb_in 401 (by decide +kernel) (by decide +kernel), gtb_in 402 (by decide +kernel) (by decide +kernel)⟩
def M_X3_setWord : MI := (yX3_setWord, cX3_setWord, 3, none, { frames := 1, cells := 0, slots := 0, locals := 25 })
theorem mk_X3_setWord : MK M_X3_setWord 2 := ⟨gtb_in 399 (by decide +kernel) (by decide +kernel), gtb_in 79 (by decide +kernel) (by decide +kernel), ⟨by decide, by decide, by decide +kernel⟩, rfl, rfl⟩
theorem mv_X3_setWord : MV M_X3_setWord := ⟨gtb_in 397 (by decide +kernel) (by decide +kernel), gtb_in 398 (by decide +kernel) (by decide +kernel)⟩
def M_X3_has : MI := (yX3_has, cX3_has, 2, some .boolean, { frames := 0, cells := 0, slots := 0, locals := 0 })
theorem mk_X3_has : MK M_X3_has 1 := ⟨gtb_in 411 (by decide +kernel) (by decide +kernel), gtb_in 79 (by decide +kernel) (by decide +kernel), ⟨by decide, by decide, by decide +kernel⟩, rfl, rfl⟩
theorem mv_X3_has : MV M_X3_has := ⟨gtb_in 409 (by decide +kernel) (by decide +kernel), gtb_in 410 (by decide +kernel) (by decide +kernel)⟩
def M_X3_setLike : MI := (yX3_setLike, cX3_setLike, 4, none, { frames := 1, cells := 0, slots := 0, locals := 25 })
theorem mk_X3_setLike : MK M_X3_setLike 3 := ⟨gtb_in 407 (by decide +kernel) (by decide +kernel), gtb_in 79 (by decide +kernel) (by decide +kernel), ⟨by decide, by decide, by decide +kernel⟩, rfl, rfl⟩
theorem mv_X3_setLike : MV M_X3_setLike := ⟨gtb_in 405 (by decide +kernel) (by decide +kernel), gtb_in 406 (by decide +kernel) (by decide +kernel)⟩
def M_X3_tell : MI := (yX3_tell, cX3_tell, 3, some .int, { frames := 0, cells := 0, slots := 0, locals := 0 })
theorem mk_X3_tell : MK M_X3_tell 2 := ⟨gtb_in 419 (by decide +kernel) (by decide +kernel), gtb_in 79 (by decide +kernel) (by decide +kernel), ⟨by decide, by decide, by decide +kernel⟩, rfl, rfl⟩
theorem mv_X3_tell : MV M_X3_tell := ⟨gtb_in 417 (by decide +kernel) (by decide +kernel), gtb_in 418 (by decide +kernel) (by decide +kernel)⟩
def M_X5_stands : MI := (yX5_stands, cX5_stands, 2, some .boolean, { frames := 1, cells := 0, slots := 0, locals := 22 })
theorem mk_X5_stands : MK M_X5_stands 1 := ⟨gtb_in 415 (by decide +kernel) (by decide +kernel), gtb_in 81 (by decide +kernel) (by decide +kernel), ⟨by decide, by decide, by decide +kernel⟩, rfl, rfl⟩
theorem mv_X5_stands : MV M_X5_stands := ⟨gtb_in 414 (by decide +kernel) (by decide +kernel), gtb_in 10 (by decide +kernel) (by decide +kernel)⟩
def M_X3_setMade : MI := (yX3_setMade, cX3_setMade, 6, none, { frames := 1, cells := 0, slots := 0, locals := 25 })
theorem mk_X3_setMade : MK M_X3_setMade 5 := ⟨gtb_in 424 (by decide +kernel) (by decide +kernel), gtb_in 79 (by decide +kernel) (by decide +kernel), ⟨by decide, by decide, by decide +kernel⟩, rfl, rfl⟩
theorem mv_X3_setMade : MV M_X3_setMade := ⟨gtb_in 422 (by decide +kernel) (by decide +kernel), gtb_in 423 (by decide +kernel) (by decide +kernel)⟩
def M_X5_shapeOne : MI := (yX5_shapeOne, cX5_shapeOne, 8, none, { frames := 2, cells := 0, slots := 0, locals := 50 })
theorem mk_X5_shapeOne : MK M_X5_shapeOne 3 := ⟨gtb_in 394 (by decide +kernel) (by decide +kernel), gtb_in 81 (by decide +kernel) (by decide +kernel), ⟨by decide, by decide, by decide +kernel⟩, rfl, rfl⟩
theorem mv_X5_shapeOne : MV M_X5_shapeOne := ⟨gtb_in 393 (by decide +kernel) (by decide +kernel), gtb_in 9 (by decide +kernel) (by decide +kernel)⟩
def M_X5_shapeParts : MI := (yX5_shapeParts, cX5_shapeParts, 4, none, { frames := 3, cells := 0, slots := 0, locals := 77 })
theorem mk_X5_shapeParts : MK M_X5_shapeParts 2 := ⟨gtb_in 390 (by decide +kernel) (by decide +kernel), gtb_in 81 (by decide +kernel) (by decide +kernel), ⟨by decide, by decide, by decide +kernel⟩, rfl, rfl⟩
theorem mv_X5_shapeParts : MV M_X5_shapeParts := ⟨gtb_in 388 (by decide +kernel) (by decide +kernel), gtb_in 389 (by decide +kernel) (by decide +kernel)⟩
def M_X5_findLines : MI := (yX5_findLines, cX5_findLines, 4, none, { frames := 1, cells := 0, slots := 0, locals := 22 })
theorem mk_X5_findLines : MK M_X5_findLines 0 := ⟨gtb_in 428 (by decide +kernel) (by decide +kernel), gtb_in 81 (by decide +kernel) (by decide +kernel), ⟨by decide, by decide, by decide +kernel⟩, rfl, rfl⟩
theorem mv_X5_findLines : MV M_X5_findLines := ⟨gtb_in 427 (by decide +kernel) (by decide +kernel), gtb_in 11 (by decide +kernel) (by decide +kernel)⟩
def M_X5_findShrinks : MI := (yX5_findShrinks, cX5_findShrinks, 2, none, { frames := 0, cells := 0, slots := 0, locals := 0 })
theorem mk_X5_findShrinks : MK M_X5_findShrinks 0 := ⟨gtb_in 432 (by decide +kernel) (by decide +kernel), gtb_in 81 (by decide +kernel) (by decide +kernel), ⟨by decide, by decide, by decide +kernel⟩, rfl, rfl⟩
theorem mv_X5_findShrinks : MV M_X5_findShrinks := ⟨gtb_in 431 (by decide +kernel) (by decide +kernel), gtb_in 12 (by decide +kernel) (by decide +kernel)⟩
def M_X5_make : MI := (yX5_make, cX5_make, 3, none, { frames := 4, cells := 0, slots := 0, locals := 100 })
theorem mk_X5_make : MK M_X5_make 1 := ⟨gtb_in 386 (by decide +kernel) (by decide +kernel), gtb_in 81 (by decide +kernel) (by decide +kernel), ⟨by decide, by decide, by decide +kernel⟩, rfl, rfl⟩
theorem mv_X5_make : MV M_X5_make := ⟨gtb_in 384 (by decide +kernel) (by decide +kernel), gtb_in 385 (by decide +kernel) (by decide +kernel)⟩
def M_X6_readDoc : MI := (yX6_readDoc, cX6_readDoc, 1, none, { frames := 5, cells := 0, slots := 0, locals := 122 })
theorem mk_X6_readDoc : MK M_X6_readDoc 0 := ⟨gtb_in 339 (by decide +kernel) (by decide +kernel), gtb_in 76 (by decide +kernel) (by decide +kernel), ⟨by decide, by decide, by decide +kernel⟩, rfl, rfl⟩
theorem mv_X6_readDoc : MV M_X6_readDoc := ⟨gtb_in 338 (by decide +kernel) (by decide +kernel), gtb_in 0 (by decide +kernel) (by decide +kernel)⟩
def M_X1_trialPlace : MI := (yX1_trialPlace, cX1_trialPlace, 2, some .int, { frames := 0, cells := 0, slots := 0, locals := 0 })
theorem mk_X1_trialPlace : MK M_X1_trialPlace 1 := ⟨gtb_in 452 (by decide +kernel) (by decide +kernel), gtb_in 78 (by decide +kernel) (by decide +kernel), ⟨by decide, by decide, by decide +kernel⟩, rfl, rfl⟩
theorem mv_X1_trialPlace : MV M_X1_trialPlace := ⟨gtb_in 451 (by decide +kernel) (by decide +kernel), gtb_in 15 (by decide +kernel) (by decide +kernel)⟩
def M_X3_noneGreater : MI := (yX3_noneGreater, cX3_noneGreater, 3, some .boolean, { frames := 0, cells := 0, slots := 0, locals := 0 })
theorem mk_X3_noneGreater : MK M_X3_noneGreater 2 := ⟨gtb_in 457 (by decide +kernel) (by decide +kernel), gtb_in 79 (by decide +kernel) (by decide +kernel), ⟨by decide, by decide, by decide +kernel⟩, rfl, rfl⟩
theorem mv_X3_noneGreater : MV M_X3_noneGreater := ⟨gtb_in 455 (by decide +kernel) (by decide +kernel), gtb_in 456 (by decide +kernel) (by decide +kernel)⟩
def M_X1_tryLast : MI := (yX1_tryLast, cX1_tryLast, 8, none, { frames := 2, cells := 0, slots := 0, locals := 48 })
theorem mk_X1_tryLast : MK M_X1_tryLast 2 := ⟨gtb_in 448 (by decide +kernel) (by decide +kernel), gtb_in 78 (by decide +kernel) (by decide +kernel), ⟨by decide, by decide, by decide +kernel⟩, rfl, rfl⟩
theorem mv_X1_tryLast : MV M_X1_tryLast := ⟨gtb_in 447 (by decide +kernel) (by decide +kernel), gtb_in 14 (by decide +kernel) (by decide +kernel)⟩
def M_X1_sizeOf : MI := (yX1_sizeOf, cX1_sizeOf, 2, some .int, { frames := 0, cells := 0, slots := 0, locals := 0 })
theorem mk_X1_sizeOf : MK M_X1_sizeOf 1 := ⟨gtb_in 466 (by decide +kernel) (by decide +kernel), gtb_in 78 (by decide +kernel) (by decide +kernel), ⟨by decide, by decide, by decide +kernel⟩, rfl, rfl⟩
theorem mv_X1_sizeOf : MV M_X1_sizeOf := ⟨gtb_in 464 (by decide +kernel) (by decide +kernel), gtb_in 465 (by decide +kernel) (by decide +kernel)⟩
def M_X1_tryEach : MI := (yX1_tryEach, cX1_tryEach, 6, none, { frames := 3, cells := 0, slots := 0, locals := 75 })
theorem mk_X1_tryEach : MK M_X1_tryEach 4 := ⟨gtb_in 462 (by decide +kernel) (by decide +kernel), gtb_in 78 (by decide +kernel) (by decide +kernel), ⟨by decide, by decide, by decide +kernel⟩, rfl, rfl⟩
theorem mv_X1_tryEach : MV M_X1_tryEach := ⟨gtb_in 461 (by decide +kernel) (by decide +kernel), gtb_in 16 (by decide +kernel) (by decide +kernel)⟩
def M_X1_tryPairs : MI := (yX1_tryPairs, cX1_tryPairs, 8, none, { frames := 3, cells := 0, slots := 0, locals := 75 })
theorem mk_X1_tryPairs : MK M_X1_tryPairs 3 := ⟨gtb_in 470 (by decide +kernel) (by decide +kernel), gtb_in 78 (by decide +kernel) (by decide +kernel), ⟨by decide, by decide, by decide +kernel⟩, rfl, rfl⟩
theorem mv_X1_tryPairs : MV M_X1_tryPairs := ⟨gtb_in 469 (by decide +kernel) (by decide +kernel), gtb_in 17 (by decide +kernel) (by decide +kernel)⟩
def M_X1_tryAlone : MI := (yX1_tryAlone, cX1_tryAlone, 7, none, { frames := 3, cells := 0, slots := 0, locals := 75 })
theorem mk_X1_tryAlone : MK M_X1_tryAlone 3 := ⟨gtb_in 475 (by decide +kernel) (by decide +kernel), gtb_in 78 (by decide +kernel) (by decide +kernel), ⟨by decide, by decide, by decide +kernel⟩, rfl, rfl⟩
theorem mv_X1_tryAlone : MV M_X1_tryAlone := ⟨gtb_in 474 (by decide +kernel) (by decide +kernel), gtb_in 18 (by decide +kernel) (by decide +kernel)⟩
def M_X1_make : MI := (yX1_make, cX1_make, 4, none, { frames := 4, cells := 0, slots := 0, locals := 102 })
theorem mk_X1_make : MK M_X1_make 2 := ⟨gtb_in 440 (by decide +kernel) (by decide +kernel), gtb_in 78 (by decide +kernel) (by decide +kernel), ⟨by decide, by decide, by decide +kernel⟩, rfl, rfl⟩
theorem mv_X1_make : MV M_X1_make := ⟨gtb_in 438 (by decide +kernel) (by decide +kernel), gtb_in 439 (by decide +kernel) (by decide +kernel)⟩
def M_X3_fewerLines : MI := (yX3_fewerLines, cX3_fewerLines, 3, some .boolean, { frames := 1, cells := 0, slots := 0, locals := 21 })
theorem mk_X3_fewerLines : MK M_X3_fewerLines 2 := ⟨gtb_in 484 (by decide +kernel) (by decide +kernel), gtb_in 79 (by decide +kernel) (by decide +kernel), ⟨by decide, by decide, by decide +kernel⟩, rfl, rfl⟩
theorem mv_X3_fewerLines : MV M_X3_fewerLines := ⟨gtb_in 482 (by decide +kernel) (by decide +kernel), gtb_in 483 (by decide +kernel) (by decide +kernel)⟩
def M_X1_fewestLines : MI := (yX1_fewestLines, cX1_fewestLines, 3, some .int, { frames := 2, cells := 0, slots := 0, locals := 43 })
theorem mk_X1_fewestLines : MK M_X1_fewestLines 0 := ⟨gtb_in 480 (by decide +kernel) (by decide +kernel), gtb_in 78 (by decide +kernel) (by decide +kernel), ⟨by decide, by decide, by decide +kernel⟩, rfl, rfl⟩
theorem mv_X1_fewestLines : MV M_X1_fewestLines := ⟨gtb_in 478 (by decide +kernel) (by decide +kernel), gtb_in 479 (by decide +kernel) (by decide +kernel)⟩
def M_X3_lessMost : MI := (yX3_lessMost, cX3_lessMost, 3, some .boolean, { frames := 1, cells := 0, slots := 0, locals := 21 })
theorem mk_X3_lessMost : MK M_X3_lessMost 2 := ⟨gtb_in 492 (by decide +kernel) (by decide +kernel), gtb_in 79 (by decide +kernel) (by decide +kernel), ⟨by decide, by decide, by decide +kernel⟩, rfl, rfl⟩
theorem mv_X3_lessMost : MV M_X3_lessMost := ⟨gtb_in 490 (by decide +kernel) (by decide +kernel), gtb_in 491 (by decide +kernel) (by decide +kernel)⟩
def M_X1_leastMost : MI := (yX1_leastMost, cX1_leastMost, 3, some .int, { frames := 2, cells := 0, slots := 0, locals := 43 })
theorem mk_X1_leastMost : MK M_X1_leastMost 0 := ⟨gtb_in 488 (by decide +kernel) (by decide +kernel), gtb_in 78 (by decide +kernel) (by decide +kernel), ⟨by decide, by decide, by decide +kernel⟩, rfl, rfl⟩
theorem mv_X1_leastMost : MV M_X1_leastMost := ⟨gtb_in 486 (by decide +kernel) (by decide +kernel), gtb_in 487 (by decide +kernel) (by decide +kernel)⟩
def M_X2_clear : MI := (yX2_clear, cX2_clear, 1, none, { frames := 0, cells := 0, slots := 0, locals := 0 })
theorem mk_X2_clear : MK M_X2_clear 0 := ⟨gtb_in 496 (by decide +kernel) (by decide +kernel), gtb_in 82 (by decide +kernel) (by decide +kernel), ⟨by decide, by decide, by decide +kernel⟩, rfl, rfl⟩
theorem mv_X2_clear : MV M_X2_clear := ⟨gtb_in 494 (by decide +kernel) (by decide +kernel), gtb_in 495 (by decide +kernel) (by decide +kernel)⟩
def M_X2_putAt : MI := (yX2_putAt, cX2_putAt, 4, none, { frames := 0, cells := 0, slots := 0, locals := 0 })
theorem mk_X2_putAt : MK M_X2_putAt 3 := ⟨gtb_in 511 (by decide +kernel) (by decide +kernel), gtb_in 82 (by decide +kernel) (by decide +kernel), ⟨by decide, by decide, by decide +kernel⟩, rfl, rfl⟩
theorem mv_X2_putAt : MV M_X2_putAt := ⟨gtb_in 510 (by decide +kernel) (by decide +kernel), gtb_in 20 (by decide +kernel) (by decide +kernel)⟩
def M_X2_placeBelow : MI := (yX2_placeBelow, cX2_placeBelow, 7, none, { frames := 1, cells := 0, slots := 0, locals := 23 })
theorem mk_X2_placeBelow : MK M_X2_placeBelow 4 := ⟨gtb_in 517 (by decide +kernel) (by decide +kernel), gtb_in 82 (by decide +kernel) (by decide +kernel), ⟨by decide, by decide, by decide +kernel⟩, rfl, rfl⟩
theorem mv_X2_placeBelow : MV M_X2_placeBelow := ⟨gtb_in 516 (by decide +kernel) (by decide +kernel), gtb_in 21 (by decide +kernel) (by decide +kernel)⟩
def M_X2_place : MI := (yX2_place, cX2_place, 5, none, { frames := 2, cells := 0, slots := 0, locals := 49 })
theorem mk_X2_place : MK M_X2_place 2 := ⟨gtb_in 507 (by decide +kernel) (by decide +kernel), gtb_in 82 (by decide +kernel) (by decide +kernel), ⟨by decide, by decide, by decide +kernel⟩, rfl, rfl⟩
theorem mv_X2_place : MV M_X2_place := ⟨gtb_in 505 (by decide +kernel) (by decide +kernel), gtb_in 506 (by decide +kernel) (by decide +kernel)⟩
def M_X6_keepBest : MI := (yX6_keepBest, cX6_keepBest, 3, none, { frames := 4, cells := 0, slots := 0, locals := 100 })
theorem mk_X6_keepBest : MK M_X6_keepBest 1 := ⟨gtb_in 500 (by decide +kernel) (by decide +kernel), gtb_in 76 (by decide +kernel) (by decide +kernel), ⟨by decide, by decide, by decide +kernel⟩, rfl, rfl⟩
theorem mv_X6_keepBest : MV M_X6_keepBest := ⟨gtb_in 499 (by decide +kernel) (by decide +kernel), gtb_in 19 (by decide +kernel) (by decide +kernel)⟩
def M_X6_chooseBest : MI := (yX6_chooseBest, cX6_chooseBest, 2, none, { frames := 5, cells := 0, slots := 0, locals := 125 })
theorem mk_X6_chooseBest : MK M_X6_chooseBest 0 := ⟨gtb_in 436 (by decide +kernel) (by decide +kernel), gtb_in 76 (by decide +kernel) (by decide +kernel), ⟨by decide, by decide, by decide +kernel⟩, rfl, rfl⟩
theorem mv_X6_chooseBest : MV M_X6_chooseBest := ⟨gtb_in 435 (by decide +kernel) (by decide +kernel), gtb_in 13 (by decide +kernel) (by decide +kernel)⟩
def M_X6_type : MI := (yX6_type, cX6_type, 2, some .int, { frames := 6, cells := 0, slots := 0, locals := 146 })
theorem mk_X6_type : MK M_X6_type 1 := ⟨gtb_in 328 (by decide +kernel) (by decide +kernel), gtb_in 76 (by decide +kernel) (by decide +kernel), ⟨by decide, by decide, by decide +kernel⟩, rfl, rfl⟩
theorem mv_X6_type : MV M_X6_type := ⟨gtb_in 326 (by decide +kernel) (by decide +kernel), gtb_in 327 (by decide +kernel) (by decide +kernel)⟩
def M_X6_wipe : MI := (yX6_wipe, cX6_wipe, 2, some .int, { frames := 6, cells := 0, slots := 0, locals := 146 })
theorem mk_X6_wipe : MK M_X6_wipe 0 := ⟨gtb_in 521 (by decide +kernel) (by decide +kernel), gtb_in 76 (by decide +kernel) (by decide +kernel), ⟨by decide, by decide, by decide +kernel⟩, rfl, rfl⟩
theorem mv_X6_wipe : MV M_X6_wipe := ⟨gtb_in 519 (by decide +kernel) (by decide +kernel), gtb_in 520 (by decide +kernel) (by decide +kernel)⟩
def M_X6_undo : MI := (yX6_undo, cX6_undo, 1, some .int, { frames := 6, cells := 0, slots := 0, locals := 146 })
theorem mk_X6_undo : MK M_X6_undo 0 := ⟨gtb_in 525 (by decide +kernel) (by decide +kernel), gtb_in 76 (by decide +kernel) (by decide +kernel), ⟨by decide, by decide, by decide +kernel⟩, rfl, rfl⟩
theorem mv_X6_undo : MV M_X6_undo := ⟨gtb_in 523 (by decide +kernel) (by decide +kernel), gtb_in 524 (by decide +kernel) (by decide +kernel)⟩
def M_X6_fault : MI := (yX6_fault, cX6_fault, 1, some .int, { frames := 0, cells := 0, slots := 0, locals := 0 })
theorem mk_X6_fault : MK M_X6_fault 0 := ⟨gtb_in 529 (by decide +kernel) (by decide +kernel), gtb_in 76 (by decide +kernel) (by decide +kernel), ⟨by decide, by decide, by decide +kernel⟩, rfl, rfl⟩
theorem mv_X6_fault : MV M_X6_fault := ⟨gtb_in 527 (by decide +kernel) (by decide +kernel), gtb_in 528 (by decide +kernel) (by decide +kernel)⟩
def M_X6_width : MI := (yX6_width, cX6_width, 3, some .int, { frames := 6, cells := 0, slots := 0, locals := 146 })
theorem mk_X6_width : MK M_X6_width 1 := ⟨gtb_in 533 (by decide +kernel) (by decide +kernel), gtb_in 76 (by decide +kernel) (by decide +kernel), ⟨by decide, by decide, by decide +kernel⟩, rfl, rfl⟩
theorem mv_X6_width : MV M_X6_width := ⟨gtb_in 531 (by decide +kernel) (by decide +kernel), gtb_in 532 (by decide +kernel) (by decide +kernel)⟩
def M_X6_sheetOf : MI := (yX6_sheetOf, cX6_sheetOf, 2, some (.object "PrettyShapes$Sheet"), { frames := 0, cells := 0, slots := 0, locals := 0 })
theorem mk_X6_sheetOf : MK M_X6_sheetOf 1 := ⟨gtb_in 541 (by decide +kernel) (by decide +kernel), gtb_in 76 (by decide +kernel) (by decide +kernel), ⟨by decide, by decide, by decide +kernel⟩, rfl, rfl⟩
theorem mv_X6_sheetOf : MV M_X6_sheetOf := ⟨gtb_in 540 (by decide +kernel) (by decide +kernel), gtb_in 22 (by decide +kernel) (by decide +kernel)⟩
def M_X4_isLost : MI := (yX4_isLost, cX4_isLost, 1, some .boolean, { frames := 0, cells := 0, slots := 0, locals := 0 })
theorem mk_X4_isLost : MK M_X4_isLost 0 := ⟨gtb_in 545 (by decide +kernel) (by decide +kernel), gtb_in 83 (by decide +kernel) (by decide +kernel), ⟨by decide, by decide, by decide +kernel⟩, rfl, rfl⟩
theorem mv_X4_isLost : MV M_X4_isLost := ⟨gtb_in 543 (by decide +kernel) (by decide +kernel), gtb_in 544 (by decide +kernel) (by decide +kernel)⟩
def M_X6_found : MI := (yX6_found, cX6_found, 2, some .int, { frames := 0, cells := 0, slots := 0, locals := 0 })
theorem mk_X6_found : MK M_X6_found 1 := ⟨gtb_in 549 (by decide +kernel) (by decide +kernel), gtb_in 76 (by decide +kernel) (by decide +kernel), ⟨by decide, by decide, by decide +kernel⟩, rfl, rfl⟩
theorem mv_X6_found : MV M_X6_found := ⟨gtb_in 548 (by decide +kernel) (by decide +kernel), gtb_in 23 (by decide +kernel) (by decide +kernel)⟩
def M_X4_itemAt : MI := (yX4_itemAt, cX4_itemAt, 2, some .int, { frames := 0, cells := 0, slots := 0, locals := 0 })
theorem mk_X4_itemAt : MK M_X4_itemAt 1 := ⟨gtb_in 553 (by decide +kernel) (by decide +kernel), gtb_in 83 (by decide +kernel) (by decide +kernel), ⟨by decide, by decide, by decide +kernel⟩, rfl, rfl⟩
theorem mv_X4_itemAt : MV M_X4_itemAt := ⟨gtb_in 551 (by decide +kernel) (by decide +kernel), gtb_in 552 (by decide +kernel) (by decide +kernel)⟩
def M_X6_read : MI := (yX6_read, cX6_read, 4, some .int, { frames := 6, cells := 0, slots := 0, locals := 146 })
theorem mk_X6_read : MK M_X6_read 1 := ⟨gtb_in 537 (by decide +kernel) (by decide +kernel), gtb_in 76 (by decide +kernel) (by decide +kernel), ⟨by decide, by decide, by decide +kernel⟩, rfl, rfl⟩
theorem mv_X6_read : MV M_X6_read := ⟨gtb_in 535 (by decide +kernel) (by decide +kernel), gtb_in 536 (by decide +kernel) (by decide +kernel)⟩
def M_X6_part : MI := (yX6_part, cX6_part, 3, some .int, { frames := 1, cells := 0, slots := 0, locals := 21 })
theorem mk_X6_part : MK M_X6_part 2 := ⟨gtb_in 557 (by decide +kernel) (by decide +kernel), gtb_in 76 (by decide +kernel) (by decide +kernel), ⟨by decide, by decide, by decide +kernel⟩, rfl, rfl⟩
theorem mv_X6_part : MV M_X6_part := ⟨gtb_in 555 (by decide +kernel) (by decide +kernel), gtb_in 556 (by decide +kernel) (by decide +kernel)⟩
def M_X6_frontier : MI := (yX6_frontier, cX6_frontier, 4, some .int, { frames := 1, cells := 0, slots := 0, locals := 22 })
theorem mk_X6_frontier : MK M_X6_frontier 3 := ⟨gtb_in 563 (by decide +kernel) (by decide +kernel), gtb_in 76 (by decide +kernel) (by decide +kernel), ⟨by decide, by decide, by decide +kernel⟩, rfl, rfl⟩
theorem mv_X6_frontier : MV M_X6_frontier := ⟨gtb_in 561 (by decide +kernel) (by decide +kernel), gtb_in 562 (by decide +kernel) (by decide +kernel)⟩
def M_X6_tried : MI := (yX6_tried, cX6_tried, 2, some .int, { frames := 0, cells := 0, slots := 0, locals := 0 })
theorem mk_X6_tried : MK M_X6_tried 1 := ⟨gtb_in 567 (by decide +kernel) (by decide +kernel), gtb_in 76 (by decide +kernel) (by decide +kernel), ⟨by decide, by decide, by decide +kernel⟩, rfl, rfl⟩
theorem mv_X6_tried : MV M_X6_tried := ⟨gtb_in 565 (by decide +kernel) (by decide +kernel), gtb_in 566 (by decide +kernel) (by decide +kernel)⟩
def M_X6_best : MI := (yX6_best, cX6_best, 2, some .int, { frames := 1, cells := 0, slots := 0, locals := 22 })
theorem mk_X6_best : MK M_X6_best 1 := ⟨gtb_in 571 (by decide +kernel) (by decide +kernel), gtb_in 76 (by decide +kernel) (by decide +kernel), ⟨by decide, by decide, by decide +kernel⟩, rfl, rfl⟩
theorem mv_X6_best : MV M_X6_best := ⟨gtb_in 569 (by decide +kernel) (by decide +kernel), gtb_in 570 (by decide +kernel) (by decide +kernel)⟩
def M_X2_isWordOn : MI := (yX2_isWordOn, cX2_isWordOn, 3, some .boolean, { frames := 0, cells := 0, slots := 0, locals := 0 })
theorem mk_X2_isWordOn : MK M_X2_isWordOn 2 := ⟨gtb_in 583 (by decide +kernel) (by decide +kernel), gtb_in 82 (by decide +kernel) (by decide +kernel), ⟨by decide, by decide, by decide +kernel⟩, rfl, rfl⟩
theorem mv_X2_isWordOn : MV M_X2_isWordOn := ⟨gtb_in 582 (by decide +kernel) (by decide +kernel), gtb_in 24 (by decide +kernel) (by decide +kernel)⟩
def M_X2_columnsOf : MI := (yX2_columnsOf, cX2_columnsOf, 4, some .int, { frames := 1, cells := 0, slots := 0, locals := 22 })
theorem mk_X2_columnsOf : MK M_X2_columnsOf 1 := ⟨gtb_in 579 (by decide +kernel) (by decide +kernel), gtb_in 82 (by decide +kernel) (by decide +kernel), ⟨by decide, by decide, by decide +kernel⟩, rfl, rfl⟩
theorem mv_X2_columnsOf : MV M_X2_columnsOf := ⟨gtb_in 577 (by decide +kernel) (by decide +kernel), gtb_in 578 (by decide +kernel) (by decide +kernel)⟩
def M_X2_byteAt : MI := (yX2_byteAt, cX2_byteAt, 5, some .int, { frames := 2, cells := 0, slots := 0, locals := 45 })
theorem mk_X2_byteAt : MK M_X2_byteAt 2 := ⟨gtb_in 588 (by decide +kernel) (by decide +kernel), gtb_in 82 (by decide +kernel) (by decide +kernel), ⟨by decide, by decide, by decide +kernel⟩, rfl, rfl⟩
theorem mv_X2_byteAt : MV M_X2_byteAt := ⟨gtb_in 586 (by decide +kernel) (by decide +kernel), gtb_in 587 (by decide +kernel) (by decide +kernel)⟩
def M_X6_line : MI := (yX6_line, cX6_line, 3, some .int, { frames := 3, cells := 0, slots := 0, locals := 69 })
theorem mk_X6_line : MK M_X6_line 2 := ⟨gtb_in 575 (by decide +kernel) (by decide +kernel), gtb_in 76 (by decide +kernel) (by decide +kernel), ⟨by decide, by decide, by decide +kernel⟩, rfl, rfl⟩
theorem mv_X6_line : MV M_X6_line := ⟨gtb_in 573 (by decide +kernel) (by decide +kernel), gtb_in 574 (by decide +kernel) (by decide +kernel)⟩
def M_X5_tell : MI := (yX5_tell, cX5_tell, 4, some .int, { frames := 1, cells := 0, slots := 0, locals := 22 })
theorem mk_X5_tell : MK M_X5_tell 2 := ⟨gtb_in 597 (by decide +kernel) (by decide +kernel), gtb_in 81 (by decide +kernel) (by decide +kernel), ⟨by decide, by decide, by decide +kernel⟩, rfl, rfl⟩
theorem mv_X5_tell : MV M_X5_tell := ⟨gtb_in 595 (by decide +kernel) (by decide +kernel), gtb_in 596 (by decide +kernel) (by decide +kernel)⟩
def M_X6_way : MI := (yX6_way, cX6_way, 3, some .int, { frames := 2, cells := 0, slots := 0, locals := 45 })
theorem mk_X6_way : MK M_X6_way 2 := ⟨gtb_in 593 (by decide +kernel) (by decide +kernel), gtb_in 76 (by decide +kernel) (by decide +kernel), ⟨by decide, by decide, by decide +kernel⟩, rfl, rfl⟩
theorem mv_X6_way : MV M_X6_way := ⟨gtb_in 591 (by decide +kernel) (by decide +kernel), gtb_in 592 (by decide +kernel) (by decide +kernel)⟩
def M_X5_fits : MI := (yX5_fits, cX5_fits, 3, some .boolean, { frames := 1, cells := 0, slots := 0, locals := 22 })
theorem mk_X5_fits : MK M_X5_fits 2 := ⟨gtb_in 613 (by decide +kernel) (by decide +kernel), gtb_in 81 (by decide +kernel) (by decide +kernel), ⟨by decide, by decide, by decide +kernel⟩, rfl, rfl⟩
theorem mv_X5_fits : MV M_X5_fits := ⟨gtb_in 612 (by decide +kernel) (by decide +kernel), gtb_in 26 (by decide +kernel) (by decide +kernel)⟩
def M_X5_isAny : MI := (yX5_isAny, cX5_isAny, 5, some .boolean, { frames := 2, cells := 0, slots := 0, locals := 44 })
theorem mk_X5_isAny : MK M_X5_isAny 3 := ⟨gtb_in 609 (by decide +kernel) (by decide +kernel), gtb_in 81 (by decide +kernel) (by decide +kernel), ⟨by decide, by decide, by decide +kernel⟩, rfl, rfl⟩
theorem mv_X5_isAny : MV M_X5_isAny := ⟨gtb_in 608 (by decide +kernel) (by decide +kernel), gtb_in 25 (by decide +kernel) (by decide +kernel)⟩
def M_X5_hasty : MI := (yX5_hasty, cX5_hasty, 6, some .int, { frames := 3, cells := 0, slots := 0, locals := 68 })
theorem mk_X5_hasty : MK M_X5_hasty 2 := ⟨gtb_in 605 (by decide +kernel) (by decide +kernel), gtb_in 81 (by decide +kernel) (by decide +kernel), ⟨by decide, by decide, by decide +kernel⟩, rfl, rfl⟩
theorem mv_X5_hasty : MV M_X5_hasty := ⟨gtb_in 603 (by decide +kernel) (by decide +kernel), gtb_in 604 (by decide +kernel) (by decide +kernel)⟩
def M_X6_haste : MI := (yX6_haste, cX6_haste, 3, some .int, { frames := 4, cells := 0, slots := 0, locals := 93 })
theorem mk_X6_haste : MK M_X6_haste 1 := ⟨gtb_in 601 (by decide +kernel) (by decide +kernel), gtb_in 76 (by decide +kernel) (by decide +kernel), ⟨by decide, by decide, by decide +kernel⟩, rfl, rfl⟩
theorem mv_X6_haste : MV M_X6_haste := ⟨gtb_in 599 (by decide +kernel) (by decide +kernel), gtb_in 600 (by decide +kernel) (by decide +kernel)⟩
def M_X6_enough : MI := (yX6_enough, cX6_enough, 1, some .int, { frames := 0, cells := 0, slots := 0, locals := 0 })
theorem mk_X6_enough : MK M_X6_enough 0 := ⟨gtb_in 617 (by decide +kernel) (by decide +kernel), gtb_in 76 (by decide +kernel) (by decide +kernel), ⟨by decide, by decide, by decide +kernel⟩, rfl, rfl⟩
theorem mv_X6_enough : MV M_X6_enough := ⟨gtb_in 615 (by decide +kernel) (by decide +kernel), gtb_in 616 (by decide +kernel) (by decide +kernel)⟩
def M_X5_shrinkAt : MI := (yX5_shrinkAt, cX5_shrinkAt, 2, some .int, { frames := 0, cells := 0, slots := 0, locals := 0 })
theorem mk_X5_shrinkAt : MK M_X5_shrinkAt 1 := ⟨gtb_in 625 (by decide +kernel) (by decide +kernel), gtb_in 81 (by decide +kernel) (by decide +kernel), ⟨by decide, by decide, by decide +kernel⟩, rfl, rfl⟩
theorem mv_X5_shrinkAt : MV M_X5_shrinkAt := ⟨gtb_in 623 (by decide +kernel) (by decide +kernel), gtb_in 624 (by decide +kernel) (by decide +kernel)⟩
def M_X6_shrinks : MI := (yX6_shrinks, cX6_shrinks, 2, some .int, { frames := 1, cells := 0, slots := 0, locals := 21 })
theorem mk_X6_shrinks : MK M_X6_shrinks 1 := ⟨gtb_in 621 (by decide +kernel) (by decide +kernel), gtb_in 76 (by decide +kernel) (by decide +kernel), ⟨by decide, by decide, by decide +kernel⟩, rfl, rfl⟩
theorem mv_X6_shrinks : MV M_X6_shrinks := ⟨gtb_in 619 (by decide +kernel) (by decide +kernel), gtb_in 620 (by decide +kernel) (by decide +kernel)⟩
def M_X5_linesOfLeastMost : MI := (yX5_linesOfLeastMost, cX5_linesOfLeastMost, 5, some .int, { frames := 2, cells := 0, slots := 0, locals := 44 })
theorem mk_X5_linesOfLeastMost : MK M_X5_linesOfLeastMost 1 := ⟨gtb_in 633 (by decide +kernel) (by decide +kernel), gtb_in 81 (by decide +kernel) (by decide +kernel), ⟨by decide, by decide, by decide +kernel⟩, rfl, rfl⟩
theorem mv_X5_linesOfLeastMost : MV M_X5_linesOfLeastMost := ⟨gtb_in 631 (by decide +kernel) (by decide +kernel), gtb_in 632 (by decide +kernel) (by decide +kernel)⟩
def M_X5_fewestLines : MI := (yX5_fewestLines, cX5_fewestLines, 6, some .int, { frames := 2, cells := 0, slots := 0, locals := 44 })
theorem mk_X5_fewestLines : MK M_X5_fewestLines 2 := ⟨gtb_in 638 (by decide +kernel) (by decide +kernel), gtb_in 81 (by decide +kernel) (by decide +kernel), ⟨by decide, by decide, by decide +kernel⟩, rfl, rfl⟩
theorem mv_X5_fewestLines : MV M_X5_fewestLines := ⟨gtb_in 636 (by decide +kernel) (by decide +kernel), gtb_in 637 (by decide +kernel) (by decide +kernel)⟩
def M_X6_spare : MI := (yX6_spare, cX6_spare, 6, some .int, { frames := 3, cells := 0, slots := 0, locals := 69 })
theorem mk_X6_spare : MK M_X6_spare 0 := ⟨gtb_in 629 (by decide +kernel) (by decide +kernel), gtb_in 76 (by decide +kernel) (by decide +kernel), ⟨by decide, by decide, by decide +kernel⟩, rfl, rfl⟩
theorem mv_X6_spare : MV M_X6_spare := ⟨gtb_in 627 (by decide +kernel) (by decide +kernel), gtb_in 628 (by decide +kernel) (by decide +kernel)⟩
def M_X6_isForm : MI := (yX6_isForm, cX6_isForm, 1, some .boolean, { frames := 0, cells := 0, slots := 0, locals := 0 })
theorem mk_X6_isForm : MK M_X6_isForm 1 := ⟨gtb_in 646 (by decide +kernel) (by decide +kernel), gtb_in 76 (by decide +kernel) (by decide +kernel), ⟨by decide, by decide, by decide +kernel⟩, rfl, rfl⟩
theorem ms_X6_isForm : Cond.static M_X6_isForm.1 ∈ gtb := gtb_in 645 (by decide +kernel) (by decide +kernel)
def M_X4_renew : MI := (yX4_renew, cX4_renew, 4, none, { frames := 0, cells := 0, slots := 0, locals := 0 })
theorem mk_X4_renew : MK M_X4_renew 2 := ⟨gtb_in 650 (by decide +kernel) (by decide +kernel), gtb_in 83 (by decide +kernel) (by decide +kernel), ⟨by decide, by decide, by decide +kernel⟩, rfl, rfl⟩
theorem mv_X4_renew : MV M_X4_renew := ⟨gtb_in 648 (by decide +kernel) (by decide +kernel), gtb_in 649 (by decide +kernel) (by decide +kernel)⟩
def M_X6_sheet : MI := (yX6_sheet, cX6_sheet, 5, some .int, { frames := 1, cells := 0, slots := 0, locals := 23 })
theorem mk_X6_sheet : MK M_X6_sheet 3 := ⟨gtb_in 643 (by decide +kernel) (by decide +kernel), gtb_in 76 (by decide +kernel) (by decide +kernel), ⟨by decide, by decide, by decide +kernel⟩, rfl, rfl⟩
theorem mv_X6_sheet : MV M_X6_sheet := ⟨gtb_in 641 (by decide +kernel) (by decide +kernel), gtb_in 642 (by decide +kernel) (by decide +kernel)⟩
def M_X6_lose : MI := (yX6_lose, cX6_lose, 4, some .int, { frames := 1, cells := 0, slots := 0, locals := 23 })
theorem mk_X6_lose : MK M_X6_lose 1 := ⟨gtb_in 654 (by decide +kernel) (by decide +kernel), gtb_in 76 (by decide +kernel) (by decide +kernel), ⟨by decide, by decide, by decide +kernel⟩, rfl, rfl⟩
theorem mv_X6_lose : MV M_X6_lose := ⟨gtb_in 652 (by decide +kernel) (by decide +kernel), gtb_in 653 (by decide +kernel) (by decide +kernel)⟩
def M_X4_hasItems : MI := (yX4_hasItems, cX4_hasItems, 3, some .boolean, { frames := 0, cells := 0, slots := 0, locals := 0 })
theorem mk_X4_hasItems : MK M_X4_hasItems 2 := ⟨gtb_in 665 (by decide +kernel) (by decide +kernel), gtb_in 83 (by decide +kernel) (by decide +kernel), ⟨by decide, by decide, by decide +kernel⟩, rfl, rfl⟩
theorem mv_X4_hasItems : MV M_X4_hasItems := ⟨gtb_in 663 (by decide +kernel) (by decide +kernel), gtb_in 664 (by decide +kernel) (by decide +kernel)⟩
def M_X6_wrongItem : MI := (yX6_wrongItem, cX6_wrongItem, 3, some .int, { frames := 1, cells := 0, slots := 0, locals := 22 })
theorem mk_X6_wrongItem : MK M_X6_wrongItem 3 := ⟨gtb_in 661 (by decide +kernel) (by decide +kernel), gtb_in 76 (by decide +kernel) (by decide +kernel), ⟨by decide, by decide, by decide +kernel⟩, rfl, rfl⟩
theorem ms_X6_wrongItem : Cond.static M_X6_wrongItem.1 ∈ gtb := gtb_in 660 (by decide +kernel) (by decide +kernel)
def M_X4_store : MI := (yX4_store, cX4_store, 3, none, { frames := 0, cells := 0, slots := 0, locals := 0 })
theorem mk_X4_store : MK M_X4_store 2 := ⟨gtb_in 669 (by decide +kernel) (by decide +kernel), gtb_in 83 (by decide +kernel) (by decide +kernel), ⟨by decide, by decide, by decide +kernel⟩, rfl, rfl⟩
theorem mv_X4_store : MV M_X4_store := ⟨gtb_in 667 (by decide +kernel) (by decide +kernel), gtb_in 668 (by decide +kernel) (by decide +kernel)⟩
def M_X6_put : MI := (yX6_put, cX6_put, 7, some .int, { frames := 2, cells := 0, slots := 0, locals := 44 })
theorem mk_X6_put : MK M_X6_put 4 := ⟨gtb_in 658 (by decide +kernel) (by decide +kernel), gtb_in 76 (by decide +kernel) (by decide +kernel), ⟨by decide, by decide, by decide +kernel⟩, rfl, rfl⟩
theorem mv_X6_put : MV M_X6_put := ⟨gtb_in 656 (by decide +kernel) (by decide +kernel), gtb_in 657 (by decide +kernel) (by decide +kernel)⟩
def M_X6_get : MI := (yX6_get, cX6_get, 6, some .int, { frames := 2, cells := 0, slots := 0, locals := 44 })
theorem mk_X6_get : MK M_X6_get 3 := ⟨gtb_in 673 (by decide +kernel) (by decide +kernel), gtb_in 76 (by decide +kernel) (by decide +kernel), ⟨by decide, by decide, by decide +kernel⟩, rfl, rfl⟩
theorem mv_X6_get : MV M_X6_get := ⟨gtb_in 671 (by decide +kernel) (by decide +kernel), gtb_in 672 (by decide +kernel) (by decide +kernel)⟩
def M_X6_copy : MI := (yX6_copy, cX6_copy, 8, some .int, { frames := 1, cells := 0, slots := 0, locals := 40 })
theorem mk_X6_copy : MK M_X6_copy 5 := ⟨gtb_in 678 (by decide +kernel) (by decide +kernel), gtb_in 76 (by decide +kernel) (by decide +kernel), ⟨by decide, by decide, by decide +kernel⟩, rfl, rfl⟩
theorem mv_X6_copy : MV M_X6_copy := ⟨gtb_in 676 (by decide +kernel) (by decide +kernel), gtb_in 677 (by decide +kernel) (by decide +kernel)⟩
def M_X6_write : MI := (yX6_write, cX6_write, 6, some .int, { frames := 3, cells := 0, slots := 0, locals := 69 })
theorem mk_X6_write : MK M_X6_write 2 := ⟨gtb_in 685 (by decide +kernel) (by decide +kernel), gtb_in 76 (by decide +kernel) (by decide +kernel), ⟨by decide, by decide, by decide +kernel⟩, rfl, rfl⟩
theorem mv_X6_write : MV M_X6_write := ⟨gtb_in 683 (by decide +kernel) (by decide +kernel), gtb_in 684 (by decide +kernel) (by decide +kernel)⟩
def M_X6_count : MI := (yX6_count, cX6_count, 2, some .int, { frames := 2, cells := 0, slots := 0, locals := 43 })
theorem mk_X6_count : MK M_X6_count 1 := ⟨gtb_in 691 (by decide +kernel) (by decide +kernel), gtb_in 76 (by decide +kernel) (by decide +kernel), ⟨by decide, by decide, by decide +kernel⟩, rfl, rfl⟩
theorem mv_X6_count : MV M_X6_count := ⟨gtb_in 689 (by decide +kernel) (by decide +kernel), gtb_in 690 (by decide +kernel) (by decide +kernel)⟩
def M_X6_digestShape : MI := (yX6_digestShape, cX6_digestShape, 8, some .long, { frames := 2, cells := 0, slots := 0, locals := 45 })
theorem mk_X6_digestShape : MK M_X6_digestShape 3 := ⟨gtb_in 710 (by decide +kernel) (by decide +kernel), gtb_in 76 (by decide +kernel) (by decide +kernel), ⟨by decide, by decide, by decide +kernel⟩, rfl, rfl⟩
theorem mv_X6_digestShape : MV M_X6_digestShape := ⟨gtb_in 709 (by decide +kernel) (by decide +kernel), gtb_in 28 (by decide +kernel) (by decide +kernel)⟩
def M_X6_digestParts : MI := (yX6_digestParts, cX6_digestParts, 7, some .long, { frames := 3, cells := 0, slots := 0, locals := 72 })
theorem mk_X6_digestParts : MK M_X6_digestParts 1 := ⟨gtb_in 705 (by decide +kernel) (by decide +kernel), gtb_in 76 (by decide +kernel) (by decide +kernel), ⟨by decide, by decide, by decide +kernel⟩, rfl, rfl⟩
theorem mv_X6_digestParts : MV M_X6_digestParts := ⟨gtb_in 704 (by decide +kernel) (by decide +kernel), gtb_in 27 (by decide +kernel) (by decide +kernel)⟩
def M_X6_digestBest : MI := (yX6_digestBest, cX6_digestBest, 6, some .long, { frames := 4, cells := 0, slots := 0, locals := 91 })
theorem mk_X6_digestBest : MK M_X6_digestBest 1 := ⟨gtb_in 715 (by decide +kernel) (by decide +kernel), gtb_in 76 (by decide +kernel) (by decide +kernel), ⟨by decide, by decide, by decide +kernel⟩, rfl, rfl⟩
theorem mv_X6_digestBest : MV M_X6_digestBest := ⟨gtb_in 714 (by decide +kernel) (by decide +kernel), gtb_in 29 (by decide +kernel) (by decide +kernel)⟩
def M_X6_digestWays : MI := (yX6_digestWays, cX6_digestWays, 7, some .long, { frames := 5, cells := 0, slots := 0, locals := 115 })
theorem mk_X6_digestWays : MK M_X6_digestWays 1 := ⟨gtb_in 720 (by decide +kernel) (by decide +kernel), gtb_in 76 (by decide +kernel) (by decide +kernel), ⟨by decide, by decide, by decide +kernel⟩, rfl, rfl⟩
theorem mv_X6_digestWays : MV M_X6_digestWays := ⟨gtb_in 719 (by decide +kernel) (by decide +kernel), gtb_in 30 (by decide +kernel) (by decide +kernel)⟩
def M_X6_digest : MI := (yX6_digest, cX6_digest, 4, some .long, { frames := 6, cells := 0, slots := 0, locals := 141 })
theorem mk_X6_digest : MK M_X6_digest 0 := ⟨gtb_in 697 (by decide +kernel) (by decide +kernel), gtb_in 76 (by decide +kernel) (by decide +kernel), ⟨by decide, by decide, by decide +kernel⟩, rfl, rfl⟩
theorem mv_X6_digest : MV M_X6_digest := ⟨gtb_in 695 (by decide +kernel) (by decide +kernel), gtb_in 696 (by decide +kernel) (by decide +kernel)⟩
def M_X7_in : MI := (yX7_in, cX7_in, 3, some .boolean, { frames := 0, cells := 0, slots := 0, locals := 0 })
theorem mk_X7_in : MK M_X7_in 3 := ⟨gtb_in 832 (by decide +kernel) (by decide +kernel), gtb_in 84 (by decide +kernel) (by decide +kernel), ⟨by decide, by decide, by decide +kernel⟩, rfl, rfl⟩
theorem ms_X7_in : Cond.static M_X7_in.1 ∈ gtb := gtb_in 831 (by decide +kernel) (by decide +kernel)
def M_X7_isIn : MI := (yX7_isIn, cX7_isIn, 2, some .boolean, { frames := 0, cells := 0, slots := 0, locals := 0 })
theorem mk_X7_isIn : MK M_X7_isIn 2 := ⟨gtb_in 995 (by decide +kernel) (by decide +kernel), gtb_in 84 (by decide +kernel) (by decide +kernel), ⟨by decide, by decide, by decide +kernel⟩, rfl, rfl⟩
theorem ms_X7_isIn : Cond.static M_X7_isIn.1 ∈ gtb := gtb_in 994 (by decide +kernel) (by decide +kernel)
def M_X7_type : MI := (yX7_type, cX7_type, 2, some .int, { frames := 1, cells := 0, slots := 0, locals := 22 })
theorem mk_X7_type : MK M_X7_type 1 := ⟨gtb_in 829 (by decide +kernel) (by decide +kernel), gtb_in 84 (by decide +kernel) (by decide +kernel), ⟨by decide, by decide, by decide +kernel⟩, rfl, rfl⟩
theorem mv_X7_type : MV M_X7_type := ⟨gtb_in 827 (by decide +kernel) (by decide +kernel), gtb_in 828 (by decide +kernel) (by decide +kernel)⟩
def M_X7_wipe : MI := (yX7_wipe, cX7_wipe, 2, some .int, { frames := 0, cells := 0, slots := 0, locals := 0 })
theorem mk_X7_wipe : MK M_X7_wipe 0 := ⟨gtb_in 836 (by decide +kernel) (by decide +kernel), gtb_in 84 (by decide +kernel) (by decide +kernel), ⟨by decide, by decide, by decide +kernel⟩, rfl, rfl⟩
theorem mv_X7_wipe : MV M_X7_wipe := ⟨gtb_in 834 (by decide +kernel) (by decide +kernel), gtb_in 835 (by decide +kernel) (by decide +kernel)⟩
def M_X7_undo : MI := (yX7_undo, cX7_undo, 1, some .int, { frames := 0, cells := 0, slots := 0, locals := 0 })
theorem mk_X7_undo : MK M_X7_undo 0 := ⟨gtb_in 840 (by decide +kernel) (by decide +kernel), gtb_in 84 (by decide +kernel) (by decide +kernel), ⟨by decide, by decide, by decide +kernel⟩, rfl, rfl⟩
theorem mv_X7_undo : MV M_X7_undo := ⟨gtb_in 838 (by decide +kernel) (by decide +kernel), gtb_in 839 (by decide +kernel) (by decide +kernel)⟩
def M_X7_width : MI := (yX7_width, cX7_width, 3, some .int, { frames := 1, cells := 0, slots := 0, locals := 22 })
theorem mk_X7_width : MK M_X7_width 1 := ⟨gtb_in 844 (by decide +kernel) (by decide +kernel), gtb_in 84 (by decide +kernel) (by decide +kernel), ⟨by decide, by decide, by decide +kernel⟩, rfl, rfl⟩
theorem mv_X7_width : MV M_X7_width := ⟨gtb_in 842 (by decide +kernel) (by decide +kernel), gtb_in 843 (by decide +kernel) (by decide +kernel)⟩
def M_X7_isSheet : MI := (yX7_isSheet, cX7_isSheet, 1, some .boolean, { frames := 1, cells := 0, slots := 0, locals := 22 })
theorem mk_X7_isSheet : MK M_X7_isSheet 1 := ⟨gtb_in 851 (by decide +kernel) (by decide +kernel), gtb_in 84 (by decide +kernel) (by decide +kernel), ⟨by decide, by decide, by decide +kernel⟩, rfl, rfl⟩
theorem ms_X7_isSheet : Cond.static M_X7_isSheet.1 ∈ gtb := gtb_in 850 (by decide +kernel) (by decide +kernel)
def M_X7_meets : MI := (yX7_meets, cX7_meets, 2, some .int, { frames := 0, cells := 0, slots := 0, locals := 0 })
theorem mk_X7_meets : MK M_X7_meets 1 := ⟨gtb_in 855 (by decide +kernel) (by decide +kernel), gtb_in 84 (by decide +kernel) (by decide +kernel), ⟨by decide, by decide, by decide +kernel⟩, rfl, rfl⟩
theorem mv_X7_meets : MV M_X7_meets := ⟨gtb_in 854 (by decide +kernel) (by decide +kernel), gtb_in 31 (by decide +kernel) (by decide +kernel)⟩
def M_X7_read : MI := (yX7_read, cX7_read, 3, some .int, { frames := 2, cells := 0, slots := 0, locals := 43 })
theorem mk_X7_read : MK M_X7_read 1 := ⟨gtb_in 848 (by decide +kernel) (by decide +kernel), gtb_in 84 (by decide +kernel) (by decide +kernel), ⟨by decide, by decide, by decide +kernel⟩, rfl, rfl⟩
theorem mv_X7_read : MV M_X7_read := ⟨gtb_in 846 (by decide +kernel) (by decide +kernel), gtb_in 847 (by decide +kernel) (by decide +kernel)⟩
def M_X7_kindOf : MI := (yX7_kindOf, cX7_kindOf, 1, some .int, { frames := 1, cells := 0, slots := 0, locals := 22 })
theorem mk_X7_kindOf : MK M_X7_kindOf 1 := ⟨gtb_in 875 (by decide +kernel) (by decide +kernel), gtb_in 84 (by decide +kernel) (by decide +kernel), ⟨by decide, by decide, by decide +kernel⟩, rfl, rfl⟩
theorem ms_X7_kindOf : Cond.static M_X7_kindOf.1 ∈ gtb := gtb_in 874 (by decide +kernel) (by decide +kernel)
def M_X7_isTwofold : MI := (yX7_isTwofold, cX7_isTwofold, 1, some .boolean, { frames := 1, cells := 0, slots := 0, locals := 22 })
theorem mk_X7_isTwofold : MK M_X7_isTwofold 1 := ⟨gtb_in 878 (by decide +kernel) (by decide +kernel), gtb_in 84 (by decide +kernel) (by decide +kernel), ⟨by decide, by decide, by decide +kernel⟩, rfl, rfl⟩
theorem ms_X7_isTwofold : Cond.static M_X7_isTwofold.1 ∈ gtb := gtb_in 877 (by decide +kernel) (by decide +kernel)
def M_X7_readsText : MI := (yX7_readsText, cX7_readsText, 5, some .int, { frames := 2, cells := 0, slots := 0, locals := 42 })
theorem mk_X7_readsText : MK M_X7_readsText 0 := ⟨gtb_in 872 (by decide +kernel) (by decide +kernel), gtb_in 84 (by decide +kernel) (by decide +kernel), ⟨by decide, by decide, by decide +kernel⟩, rfl, rfl⟩
theorem mv_X7_readsText : MV M_X7_readsText := ⟨gtb_in 871 (by decide +kernel) (by decide +kernel), gtb_in 34 (by decide +kernel) (by decide +kernel)⟩
def M_X7_reads : MI := (yX7_reads, cX7_reads, 4, none, { frames := 3, cells := 0, slots := 0, locals := 66 })
theorem mk_X7_reads : MK M_X7_reads 0 := ⟨gtb_in 868 (by decide +kernel) (by decide +kernel), gtb_in 84 (by decide +kernel) (by decide +kernel), ⟨by decide, by decide, by decide +kernel⟩, rfl, rfl⟩
theorem mv_X7_reads : MV M_X7_reads := ⟨gtb_in 867 (by decide +kernel) (by decide +kernel), gtb_in 33 (by decide +kernel) (by decide +kernel)⟩
def M_X7_faultOf : MI := (yX7_faultOf, cX7_faultOf, 1, some .int, { frames := 4, cells := 0, slots := 0, locals := 89 })
theorem mk_X7_faultOf : MK M_X7_faultOf 0 := ⟨gtb_in 864 (by decide +kernel) (by decide +kernel), gtb_in 84 (by decide +kernel) (by decide +kernel), ⟨by decide, by decide, by decide +kernel⟩, rfl, rfl⟩
theorem mv_X7_faultOf : MV M_X7_faultOf := ⟨gtb_in 863 (by decide +kernel) (by decide +kernel), gtb_in 32 (by decide +kernel) (by decide +kernel)⟩
def M_X7_fault : MI := (yX7_fault, cX7_fault, 1, some .int, { frames := 5, cells := 0, slots := 0, locals := 109 })
theorem mk_X7_fault : MK M_X7_fault 0 := ⟨gtb_in 860 (by decide +kernel) (by decide +kernel), gtb_in 84 (by decide +kernel) (by decide +kernel), ⟨by decide, by decide, by decide +kernel⟩, rfl, rfl⟩
theorem mv_X7_fault : MV M_X7_fault := ⟨gtb_in 858 (by decide +kernel) (by decide +kernel), gtb_in 859 (by decide +kernel) (by decide +kernel)⟩
def M_X7_shape : MI := (yX7_shape, cX7_shape, 4, some .int, { frames := 0, cells := 0, slots := 0, locals := 0 })
theorem mk_X7_shape : MK M_X7_shape 4 := ⟨gtb_in 905 (by decide +kernel) (by decide +kernel), gtb_in 84 (by decide +kernel) (by decide +kernel), ⟨by decide, by decide, by decide +kernel⟩, rfl, rfl⟩
theorem ms_X7_shape : Cond.static M_X7_shape.1 ∈ gtb := gtb_in 904 (by decide +kernel) (by decide +kernel)
def M_X7_lines : MI := (yX7_lines, cX7_lines, 1, some .int, { frames := 0, cells := 0, slots := 0, locals := 0 })
theorem mk_X7_lines : MK M_X7_lines 1 := ⟨gtb_in 915 (by decide +kernel) (by decide +kernel), gtb_in 84 (by decide +kernel) (by decide +kernel), ⟨by decide, by decide, by decide +kernel⟩, rfl, rfl⟩
theorem ms_X7_lines : Cond.static M_X7_lines.1 ∈ gtb := gtb_in 914 (by decide +kernel) (by decide +kernel)
def M_X7_last : MI := (yX7_last, cX7_last, 1, some .int, { frames := 0, cells := 0, slots := 0, locals := 0 })
theorem mk_X7_last : MK M_X7_last 1 := ⟨gtb_in 921 (by decide +kernel) (by decide +kernel), gtb_in 84 (by decide +kernel) (by decide +kernel), ⟨by decide, by decide, by decide +kernel⟩, rfl, rfl⟩
theorem ms_X7_last : Cond.static M_X7_last.1 ∈ gtb := gtb_in 920 (by decide +kernel) (by decide +kernel)
def M_X7_most : MI := (yX7_most, cX7_most, 1, some .int, { frames := 0, cells := 0, slots := 0, locals := 0 })
theorem mk_X7_most : MK M_X7_most 1 := ⟨gtb_in 912 (by decide +kernel) (by decide +kernel), gtb_in 84 (by decide +kernel) (by decide +kernel), ⟨by decide, by decide, by decide +kernel⟩, rfl, rfl⟩
theorem ms_X7_most : Cond.static M_X7_most.1 ∈ gtb := gtb_in 911 (by decide +kernel) (by decide +kernel)
def M_X7_wayOf : MI := (yX7_wayOf, cX7_wayOf, 1, some .int, { frames := 0, cells := 0, slots := 0, locals := 0 })
theorem mk_X7_wayOf : MK M_X7_wayOf 1 := ⟨gtb_in 935 (by decide +kernel) (by decide +kernel), gtb_in 84 (by decide +kernel) (by decide +kernel), ⟨by decide, by decide, by decide +kernel⟩, rfl, rfl⟩
theorem ms_X7_wayOf : Cond.static M_X7_wayOf.1 ∈ gtb := gtb_in 934 (by decide +kernel) (by decide +kernel)
def M_X7_max : MI := (yX7_max, cX7_max, 2, some .int, { frames := 0, cells := 0, slots := 0, locals := 0 })
theorem mk_X7_max : MK M_X7_max 2 := ⟨gtb_in 938 (by decide +kernel) (by decide +kernel), gtb_in 84 (by decide +kernel) (by decide +kernel), ⟨by decide, by decide, by decide +kernel⟩, rfl, rfl⟩
theorem ms_X7_max : Cond.static M_X7_max.1 ∈ gtb := gtb_in 937 (by decide +kernel) (by decide +kernel)
def M_X7_both : MI := (yX7_both, cX7_both, 4, some .int, { frames := 1, cells := 0, slots := 0, locals := 23 })
theorem mk_X7_both : MK M_X7_both 3 := ⟨gtb_in 932 (by decide +kernel) (by decide +kernel), gtb_in 84 (by decide +kernel) (by decide +kernel), ⟨by decide, by decide, by decide +kernel⟩, rfl, rfl⟩
theorem ms_X7_both : Cond.static M_X7_both.1 ∈ gtb := gtb_in 931 (by decide +kernel) (by decide +kernel)
def M_X7_pushed : MI := (yX7_pushed, cX7_pushed, 2, some .int, { frames := 1, cells := 0, slots := 0, locals := 23 })
theorem mk_X7_pushed : MK M_X7_pushed 2 := ⟨gtb_in 941 (by decide +kernel) (by decide +kernel), gtb_in 84 (by decide +kernel) (by decide +kernel), ⟨by decide, by decide, by decide +kernel⟩, rfl, rfl⟩
theorem ms_X7_pushed : Cond.static M_X7_pushed.1 ∈ gtb := gtb_in 940 (by decide +kernel) (by decide +kernel)
def M_X7_isNoGreater : MI := (yX7_isNoGreater, cX7_isNoGreater, 2, some .boolean, { frames := 1, cells := 0, slots := 0, locals := 20 })
theorem mk_X7_isNoGreater : MK M_X7_isNoGreater 2 := ⟨gtb_in 918 (by decide +kernel) (by decide +kernel), gtb_in 84 (by decide +kernel) (by decide +kernel), ⟨by decide, by decide, by decide +kernel⟩, rfl, rfl⟩
theorem ms_X7_isNoGreater : Cond.static M_X7_isNoGreater.1 ∈ gtb := gtb_in 917 (by decide +kernel) (by decide +kernel)
def M_X7_tries : MI := (yX7_tries, cX7_tries, 7, none, { frames := 2, cells := 0, slots := 0, locals := 41 })
theorem mk_X7_tries : MK M_X7_tries 2 := ⟨gtb_in 909 (by decide +kernel) (by decide +kernel), gtb_in 84 (by decide +kernel) (by decide +kernel), ⟨by decide, by decide, by decide +kernel⟩, rfl, rfl⟩
theorem mv_X7_tries : MV M_X7_tries := ⟨gtb_in 908 (by decide +kernel) (by decide +kernel), gtb_in 40 (by decide +kernel) (by decide +kernel)⟩
def M_X7_triesBoth : MI := (yX7_triesBoth, cX7_triesBoth, 6, none, { frames := 3, cells := 0, slots := 0, locals := 67 })
theorem mk_X7_triesBoth : MK M_X7_triesBoth 1 := ⟨gtb_in 929 (by decide +kernel) (by decide +kernel), gtb_in 84 (by decide +kernel) (by decide +kernel), ⟨by decide, by decide, by decide +kernel⟩, rfl, rfl⟩
theorem mv_X7_triesBoth : MV M_X7_triesBoth := ⟨gtb_in 928 (by decide +kernel) (by decide +kernel), gtb_in 42 (by decide +kernel) (by decide +kernel)⟩
def M_X7_triesChoice : MI := (yX7_triesChoice, cX7_triesChoice, 4, none, { frames := 3, cells := 0, slots := 0, locals := 67 })
theorem mk_X7_triesChoice : MK M_X7_triesChoice 1 := ⟨gtb_in 925 (by decide +kernel) (by decide +kernel), gtb_in 84 (by decide +kernel) (by decide +kernel), ⟨by decide, by decide, by decide +kernel⟩, rfl, rfl⟩
theorem mv_X7_triesChoice : MV M_X7_triesChoice := ⟨gtb_in 924 (by decide +kernel) (by decide +kernel), gtb_in 41 (by decide +kernel) (by decide +kernel)⟩
def M_X7_findsFronts : MI := (yX7_findsFronts, cX7_findsFronts, 4, none, { frames := 4, cells := 0, slots := 0, locals := 92 })
theorem mk_X7_findsFronts : MK M_X7_findsFronts 1 := ⟨gtb_in 902 (by decide +kernel) (by decide +kernel), gtb_in 84 (by decide +kernel) (by decide +kernel), ⟨by decide, by decide, by decide +kernel⟩, rfl, rfl⟩
theorem mv_X7_findsFronts : MV M_X7_findsFronts := ⟨gtb_in 901 (by decide +kernel) (by decide +kernel), gtb_in 39 (by decide +kernel) (by decide +kernel)⟩
def M_X7_frontsTold : MI := (yX7_frontsTold, cX7_frontsTold, 1, none, { frames := 5, cells := 0, slots := 0, locals := 115 })
theorem mk_X7_frontsTold : MK M_X7_frontsTold 0 := ⟨gtb_in 898 (by decide +kernel) (by decide +kernel), gtb_in 84 (by decide +kernel) (by decide +kernel), ⟨by decide, by decide, by decide +kernel⟩, rfl, rfl⟩
theorem mv_X7_frontsTold : MV M_X7_frontsTold := ⟨gtb_in 897 (by decide +kernel) (by decide +kernel), gtb_in 38 (by decide +kernel) (by decide +kernel)⟩
def M_X7_isPart : MI := (yX7_isPart, cX7_isPart, 2, some .boolean, { frames := 4, cells := 0, slots := 0, locals := 89 })
theorem mk_X7_isPart : MK M_X7_isPart 1 := ⟨gtb_in 886 (by decide +kernel) (by decide +kernel), gtb_in 84 (by decide +kernel) (by decide +kernel), ⟨by decide, by decide, by decide +kernel⟩, rfl, rfl⟩
theorem mv_X7_isPart : MV M_X7_isPart := ⟨gtb_in 885 (by decide +kernel) (by decide +kernel), gtb_in 35 (by decide +kernel) (by decide +kernel)⟩
def M_X7_manyOf : MI := (yX7_manyOf, cX7_manyOf, 2, some .int, { frames := 6, cells := 0, slots := 0, locals := 135 })
theorem mk_X7_manyOf : MK M_X7_manyOf 1 := ⟨gtb_in 894 (by decide +kernel) (by decide +kernel), gtb_in 84 (by decide +kernel) (by decide +kernel), ⟨by decide, by decide, by decide +kernel⟩, rfl, rfl⟩
theorem mv_X7_manyOf : MV M_X7_manyOf := ⟨gtb_in 893 (by decide +kernel) (by decide +kernel), gtb_in 37 (by decide +kernel) (by decide +kernel)⟩
def M_X7_partOf : MI := (yX7_partOf, cX7_partOf, 3, some .int, { frames := 7, cells := 0, slots := 0, locals := 156 })
theorem mk_X7_partOf : MK M_X7_partOf 2 := ⟨gtb_in 890 (by decide +kernel) (by decide +kernel), gtb_in 84 (by decide +kernel) (by decide +kernel), ⟨by decide, by decide, by decide +kernel⟩, rfl, rfl⟩
theorem mv_X7_partOf : MV M_X7_partOf := ⟨gtb_in 889 (by decide +kernel) (by decide +kernel), gtb_in 36 (by decide +kernel) (by decide +kernel)⟩
def M_X7_part : MI := (yX7_part, cX7_part, 3, some .int, { frames := 8, cells := 0, slots := 0, locals := 178 })
theorem mk_X7_part : MK M_X7_part 2 := ⟨gtb_in 882 (by decide +kernel) (by decide +kernel), gtb_in 84 (by decide +kernel) (by decide +kernel), ⟨by decide, by decide, by decide +kernel⟩, rfl, rfl⟩
theorem mv_X7_part : MV M_X7_part := ⟨gtb_in 880 (by decide +kernel) (by decide +kernel), gtb_in 881 (by decide +kernel) (by decide +kernel)⟩
def M_X7_tellOf : MI := (yX7_tellOf, cX7_tellOf, 2, some .int, { frames := 1, cells := 0, slots := 0, locals := 20 })
theorem mk_X7_tellOf : MK M_X7_tellOf 2 := ⟨gtb_in 952 (by decide +kernel) (by decide +kernel), gtb_in 84 (by decide +kernel) (by decide +kernel), ⟨by decide, by decide, by decide +kernel⟩, rfl, rfl⟩
theorem ms_X7_tellOf : Cond.static M_X7_tellOf.1 ∈ gtb := gtb_in 951 (by decide +kernel) (by decide +kernel)
def M_X7_frontierOf : MI := (yX7_frontierOf, cX7_frontierOf, 4, some .int, { frames := 6, cells := 0, slots := 0, locals := 135 })
theorem mk_X7_frontierOf : MK M_X7_frontierOf 3 := ⟨gtb_in 949 (by decide +kernel) (by decide +kernel), gtb_in 84 (by decide +kernel) (by decide +kernel), ⟨by decide, by decide, by decide +kernel⟩, rfl, rfl⟩
theorem mv_X7_frontierOf : MV M_X7_frontierOf := ⟨gtb_in 948 (by decide +kernel) (by decide +kernel), gtb_in 43 (by decide +kernel) (by decide +kernel)⟩
def M_X7_frontier : MI := (yX7_frontier, cX7_frontier, 4, some .int, { frames := 7, cells := 0, slots := 0, locals := 158 })
theorem mk_X7_frontier : MK M_X7_frontier 3 := ⟨gtb_in 945 (by decide +kernel) (by decide +kernel), gtb_in 84 (by decide +kernel) (by decide +kernel), ⟨by decide, by decide, by decide +kernel⟩, rfl, rfl⟩
theorem mv_X7_frontier : MV M_X7_frontier := ⟨gtb_in 943 (by decide +kernel) (by decide +kernel), gtb_in 944 (by decide +kernel) (by decide +kernel)⟩
def M_X7_triedOf : MI := (yX7_triedOf, cX7_triedOf, 2, some .int, { frames := 6, cells := 0, slots := 0, locals := 135 })
theorem mk_X7_triedOf : MK M_X7_triedOf 1 := ⟨gtb_in 960 (by decide +kernel) (by decide +kernel), gtb_in 84 (by decide +kernel) (by decide +kernel), ⟨by decide, by decide, by decide +kernel⟩, rfl, rfl⟩
theorem mv_X7_triedOf : MV M_X7_triedOf := ⟨gtb_in 959 (by decide +kernel) (by decide +kernel), gtb_in 44 (by decide +kernel) (by decide +kernel)⟩
def M_X7_tried : MI := (yX7_tried, cX7_tried, 2, some .int, { frames := 7, cells := 0, slots := 0, locals := 156 })
theorem mk_X7_tried : MK M_X7_tried 1 := ⟨gtb_in 956 (by decide +kernel) (by decide +kernel), gtb_in 84 (by decide +kernel) (by decide +kernel), ⟨by decide, by decide, by decide +kernel⟩, rfl, rfl⟩
theorem mv_X7_tried : MV M_X7_tried := ⟨gtb_in 954 (by decide +kernel) (by decide +kernel), gtb_in 955 (by decide +kernel) (by decide +kernel)⟩
def M_X7_isAhead : MI := (yX7_isAhead, cX7_isAhead, 7, some .boolean, { frames := 1, cells := 0, slots := 0, locals := 20 })
theorem mk_X7_isAhead : MK M_X7_isAhead 2 := ⟨gtb_in 976 (by decide +kernel) (by decide +kernel), gtb_in 84 (by decide +kernel) (by decide +kernel), ⟨by decide, by decide, by decide +kernel⟩, rfl, rfl⟩
theorem mv_X7_isAhead : MV M_X7_isAhead := ⟨gtb_in 975 (by decide +kernel) (by decide +kernel), gtb_in 47 (by decide +kernel) (by decide +kernel)⟩
def M_X7_findsBest : MI := (yX7_findsBest, cX7_findsBest, 2, none, { frames := 6, cells := 0, slots := 0, locals := 135 })
theorem mk_X7_findsBest : MK M_X7_findsBest 0 := ⟨gtb_in 972 (by decide +kernel) (by decide +kernel), gtb_in 84 (by decide +kernel) (by decide +kernel), ⟨by decide, by decide, by decide +kernel⟩, rfl, rfl⟩
theorem mv_X7_findsBest : MV M_X7_findsBest := ⟨gtb_in 971 (by decide +kernel) (by decide +kernel), gtb_in 46 (by decide +kernel) (by decide +kernel)⟩
def M_X7_bestOf : MI := (yX7_bestOf, cX7_bestOf, 2, some .int, { frames := 7, cells := 0, slots := 0, locals := 156 })
theorem mk_X7_bestOf : MK M_X7_bestOf 1 := ⟨gtb_in 968 (by decide +kernel) (by decide +kernel), gtb_in 84 (by decide +kernel) (by decide +kernel), ⟨by decide, by decide, by decide +kernel⟩, rfl, rfl⟩
theorem mv_X7_bestOf : MV M_X7_bestOf := ⟨gtb_in 967 (by decide +kernel) (by decide +kernel), gtb_in 45 (by decide +kernel) (by decide +kernel)⟩
def M_X7_best : MI := (yX7_best, cX7_best, 2, some .int, { frames := 8, cells := 0, slots := 0, locals := 177 })
theorem mk_X7_best : MK M_X7_best 1 := ⟨gtb_in 964 (by decide +kernel) (by decide +kernel), gtb_in 84 (by decide +kernel) (by decide +kernel), ⟨by decide, by decide, by decide +kernel⟩, rfl, rfl⟩
theorem mv_X7_best : MV M_X7_best := ⟨gtb_in 962 (by decide +kernel) (by decide +kernel), gtb_in 963 (by decide +kernel) (by decide +kernel)⟩
def M_X7_shapeBy : MI := (yX7_shapeBy, cX7_shapeBy, 6, some .int, { frames := 2, cells := 0, slots := 0, locals := 46 })
theorem mk_X7_shapeBy : MK M_X7_shapeBy 2 := ⟨gtb_in 992 (by decide +kernel) (by decide +kernel), gtb_in 84 (by decide +kernel) (by decide +kernel), ⟨by decide, by decide, by decide +kernel⟩, rfl, rfl⟩
theorem mv_X7_shapeBy : MV M_X7_shapeBy := ⟨gtb_in 991 (by decide +kernel) (by decide +kernel), gtb_in 50 (by decide +kernel) (by decide +kernel)⟩
def M_X7_shapeOf : MI := (yX7_shapeOf, cX7_shapeOf, 3, some .int, { frames := 3, cells := 0, slots := 0, locals := 71 })
theorem mk_X7_shapeOf : MK M_X7_shapeOf 1 := ⟨gtb_in 988 (by decide +kernel) (by decide +kernel), gtb_in 84 (by decide +kernel) (by decide +kernel), ⟨by decide, by decide, by decide +kernel⟩, rfl, rfl⟩
theorem mv_X7_shapeOf : MV M_X7_shapeOf := ⟨gtb_in 987 (by decide +kernel) (by decide +kernel), gtb_in 49 (by decide +kernel) (by decide +kernel)⟩
def M_X7_findsWays : MI := (yX7_findsWays, cX7_findsWays, 2, none, { frames := 4, cells := 0, slots := 0, locals := 93 })
theorem mk_X7_findsWays : MK M_X7_findsWays 0 := ⟨gtb_in 1035 (by decide +kernel) (by decide +kernel), gtb_in 84 (by decide +kernel) (by decide +kernel), ⟨by decide, by decide, by decide +kernel⟩, rfl, rfl⟩
theorem mv_X7_findsWays : MV M_X7_findsWays := ⟨gtb_in 1034 (by decide +kernel) (by decide +kernel), gtb_in 58 (by decide +kernel) (by decide +kernel)⟩
def M_X7_wayFor : MI := (yX7_wayFor, cX7_wayFor, 4, some .int, { frames := 4, cells := 0, slots := 0, locals := 93 })
theorem mk_X7_wayFor : MK M_X7_wayFor 2 := ⟨gtb_in 984 (by decide +kernel) (by decide +kernel), gtb_in 84 (by decide +kernel) (by decide +kernel), ⟨by decide, by decide, by decide +kernel⟩, rfl, rfl⟩
theorem mv_X7_wayFor : MV M_X7_wayFor := ⟨gtb_in 983 (by decide +kernel) (by decide +kernel), gtb_in 48 (by decide +kernel) (by decide +kernel)⟩
def M_X7_way : MI := (yX7_way, cX7_way, 3, some .int, { frames := 5, cells := 0, slots := 0, locals := 116 })
theorem mk_X7_way : MK M_X7_way 2 := ⟨gtb_in 980 (by decide +kernel) (by decide +kernel), gtb_in 84 (by decide +kernel) (by decide +kernel), ⟨by decide, by decide, by decide +kernel⟩, rfl, rfl⟩
theorem mv_X7_way : MV M_X7_way := ⟨gtb_in 978 (by decide +kernel) (by decide +kernel), gtb_in 979 (by decide +kernel) (by decide +kernel)⟩
def M_X7_puts : MI := (yX7_puts, cX7_puts, 4, none, { frames := 0, cells := 0, slots := 0, locals := 0 })
theorem mk_X7_puts : MK M_X7_puts 3 := ⟨gtb_in 1015 (by decide +kernel) (by decide +kernel), gtb_in 84 (by decide +kernel) (by decide +kernel), ⟨by decide, by decide, by decide +kernel⟩, rfl, rfl⟩
theorem mv_X7_puts : MV M_X7_puts := ⟨gtb_in 1014 (by decide +kernel) (by decide +kernel), gtb_in 54 (by decide +kernel) (by decide +kernel)⟩
def M_X7_setsBelow : MI := (yX7_setsBelow, cX7_setsBelow, 5, none, { frames := 1, cells := 0, slots := 0, locals := 23 })
theorem mk_X7_setsBelow : MK M_X7_setsBelow 1 := ⟨gtb_in 1011 (by decide +kernel) (by decide +kernel), gtb_in 84 (by decide +kernel) (by decide +kernel), ⟨by decide, by decide, by decide +kernel⟩, rfl, rfl⟩
theorem mv_X7_setsBelow : MV M_X7_setsBelow := ⟨gtb_in 1010 (by decide +kernel) (by decide +kernel), gtb_in 53 (by decide +kernel) (by decide +kernel)⟩
def M_X7_sets : MI := (yX7_sets, cX7_sets, 2, none, { frames := 7, cells := 0, slots := 0, locals := 156 })
theorem mk_X7_sets : MK M_X7_sets 0 := ⟨gtb_in 1007 (by decide +kernel) (by decide +kernel), gtb_in 84 (by decide +kernel) (by decide +kernel), ⟨by decide, by decide, by decide +kernel⟩, rfl, rfl⟩
theorem mv_X7_sets : MV M_X7_sets := ⟨gtb_in 1006 (by decide +kernel) (by decide +kernel), gtb_in 52 (by decide +kernel) (by decide +kernel)⟩
def M_X7_columnsIn : MI := (yX7_columnsIn, cX7_columnsIn, 5, some .int, { frames := 1, cells := 0, slots := 0, locals := 21 })
theorem mk_X7_columnsIn : MK M_X7_columnsIn 1 := ⟨gtb_in 1019 (by decide +kernel) (by decide +kernel), gtb_in 84 (by decide +kernel) (by decide +kernel), ⟨by decide, by decide, by decide +kernel⟩, rfl, rfl⟩
theorem mv_X7_columnsIn : MV M_X7_columnsIn := ⟨gtb_in 1018 (by decide +kernel) (by decide +kernel), gtb_in 55 (by decide +kernel) (by decide +kernel)⟩
def M_X7_byteIn : MI := (yX7_byteIn, cX7_byteIn, 6, some .int, { frames := 1, cells := 0, slots := 0, locals := 22 })
theorem mk_X7_byteIn : MK M_X7_byteIn 2 := ⟨gtb_in 1023 (by decide +kernel) (by decide +kernel), gtb_in 84 (by decide +kernel) (by decide +kernel), ⟨by decide, by decide, by decide +kernel⟩, rfl, rfl⟩
theorem mv_X7_byteIn : MV M_X7_byteIn := ⟨gtb_in 1022 (by decide +kernel) (by decide +kernel), gtb_in 56 (by decide +kernel) (by decide +kernel)⟩
def M_X7_lineOf : MI := (yX7_lineOf, cX7_lineOf, 4, some .int, { frames := 8, cells := 0, slots := 0, locals := 177 })
theorem mk_X7_lineOf : MK M_X7_lineOf 2 := ⟨gtb_in 1003 (by decide +kernel) (by decide +kernel), gtb_in 84 (by decide +kernel) (by decide +kernel), ⟨by decide, by decide, by decide +kernel⟩, rfl, rfl⟩
theorem mv_X7_lineOf : MV M_X7_lineOf := ⟨gtb_in 1002 (by decide +kernel) (by decide +kernel), gtb_in 51 (by decide +kernel) (by decide +kernel)⟩
def M_X7_line : MI := (yX7_line, cX7_line, 3, some .int, { frames := 9, cells := 0, slots := 0, locals := 200 })
theorem mk_X7_line : MK M_X7_line 2 := ⟨gtb_in 999 (by decide +kernel) (by decide +kernel), gtb_in 84 (by decide +kernel) (by decide +kernel), ⟨by decide, by decide, by decide +kernel⟩, rfl, rfl⟩
theorem mv_X7_line : MV M_X7_line := ⟨gtb_in 997 (by decide +kernel) (by decide +kernel), gtb_in 998 (by decide +kernel) (by decide +kernel)⟩
def M_X7_isAllowed : MI := (yX7_isAllowed, cX7_isAllowed, 3, some .boolean, { frames := 1, cells := 0, slots := 0, locals := 20 })
theorem mk_X7_isAllowed : MK M_X7_isAllowed 2 := ⟨gtb_in 1043 (by decide +kernel) (by decide +kernel), gtb_in 84 (by decide +kernel) (by decide +kernel), ⟨by decide, by decide, by decide +kernel⟩, rfl, rfl⟩
theorem mv_X7_isAllowed : MV M_X7_isAllowed := ⟨gtb_in 1042 (by decide +kernel) (by decide +kernel), gtb_in 60 (by decide +kernel) (by decide +kernel)⟩
def M_X7_isAny : MI := (yX7_isAny, cX7_isAny, 5, some .boolean, { frames := 2, cells := 0, slots := 0, locals := 42 })
theorem mk_X7_isAny : MK M_X7_isAny 2 := ⟨gtb_in 1039 (by decide +kernel) (by decide +kernel), gtb_in 84 (by decide +kernel) (by decide +kernel), ⟨by decide, by decide, by decide +kernel⟩, rfl, rfl⟩
theorem mv_X7_isAny : MV M_X7_isAny := ⟨gtb_in 1038 (by decide +kernel) (by decide +kernel), gtb_in 59 (by decide +kernel) (by decide +kernel)⟩
def M_X7_hasteOf : MI := (yX7_hasteOf, cX7_hasteOf, 4, some .int, { frames := 5, cells := 0, slots := 0, locals := 114 })
theorem mk_X7_hasteOf : MK M_X7_hasteOf 1 := ⟨gtb_in 1031 (by decide +kernel) (by decide +kernel), gtb_in 84 (by decide +kernel) (by decide +kernel), ⟨by decide, by decide, by decide +kernel⟩, rfl, rfl⟩
theorem mv_X7_hasteOf : MV M_X7_hasteOf := ⟨gtb_in 1030 (by decide +kernel) (by decide +kernel), gtb_in 57 (by decide +kernel) (by decide +kernel)⟩
def M_X7_haste : MI := (yX7_haste, cX7_haste, 2, some .int, { frames := 6, cells := 0, slots := 0, locals := 137 })
theorem mk_X7_haste : MK M_X7_haste 1 := ⟨gtb_in 1027 (by decide +kernel) (by decide +kernel), gtb_in 84 (by decide +kernel) (by decide +kernel), ⟨by decide, by decide, by decide +kernel⟩, rfl, rfl⟩
theorem mv_X7_haste : MV M_X7_haste := ⟨gtb_in 1025 (by decide +kernel) (by decide +kernel), gtb_in 1026 (by decide +kernel) (by decide +kernel)⟩
def M_X7_leastMost : MI := (yX7_leastMost, cX7_leastMost, 4, some .int, { frames := 1, cells := 0, slots := 0, locals := 20 })
theorem mk_X7_leastMost : MK M_X7_leastMost 0 := ⟨gtb_in 1055 (by decide +kernel) (by decide +kernel), gtb_in 84 (by decide +kernel) (by decide +kernel), ⟨by decide, by decide, by decide +kernel⟩, rfl, rfl⟩
theorem mv_X7_leastMost : MV M_X7_leastMost := ⟨gtb_in 1054 (by decide +kernel) (by decide +kernel), gtb_in 62 (by decide +kernel) (by decide +kernel)⟩
def M_X7_enoughOf : MI := (yX7_enoughOf, cX7_enoughOf, 2, some .int, { frames := 5, cells := 0, slots := 0, locals := 114 })
theorem mk_X7_enoughOf : MK M_X7_enoughOf 0 := ⟨gtb_in 1051 (by decide +kernel) (by decide +kernel), gtb_in 84 (by decide +kernel) (by decide +kernel), ⟨by decide, by decide, by decide +kernel⟩, rfl, rfl⟩
theorem mv_X7_enoughOf : MV M_X7_enoughOf := ⟨gtb_in 1050 (by decide +kernel) (by decide +kernel), gtb_in 61 (by decide +kernel) (by decide +kernel)⟩
def M_X7_enough : MI := (yX7_enough, cX7_enough, 1, some .int, { frames := 6, cells := 0, slots := 0, locals := 135 })
theorem mk_X7_enough : MK M_X7_enough 0 := ⟨gtb_in 1047 (by decide +kernel) (by decide +kernel), gtb_in 84 (by decide +kernel) (by decide +kernel), ⟨by decide, by decide, by decide +kernel⟩, rfl, rfl⟩
theorem mv_X7_enough : MV M_X7_enough := ⟨gtb_in 1045 (by decide +kernel) (by decide +kernel), gtb_in 1046 (by decide +kernel) (by decide +kernel)⟩
def M_X7_fewest : MI := (yX7_fewest, cX7_fewest, 6, some .int, { frames := 2, cells := 0, slots := 0, locals := 42 })
theorem mk_X7_fewest : MK M_X7_fewest 2 := ⟨gtb_in 1067 (by decide +kernel) (by decide +kernel), gtb_in 84 (by decide +kernel) (by decide +kernel), ⟨by decide, by decide, by decide +kernel⟩, rfl, rfl⟩
theorem mv_X7_fewest : MV M_X7_fewest := ⟨gtb_in 1066 (by decide +kernel) (by decide +kernel), gtb_in 64 (by decide +kernel) (by decide +kernel)⟩
def M_X7_shrinksOf : MI := (yX7_shrinksOf, cX7_shrinksOf, 7, some .int, { frames := 5, cells := 0, slots := 0, locals := 114 })
theorem mk_X7_shrinksOf : MK M_X7_shrinksOf 1 := ⟨gtb_in 1063 (by decide +kernel) (by decide +kernel), gtb_in 84 (by decide +kernel) (by decide +kernel), ⟨by decide, by decide, by decide +kernel⟩, rfl, rfl⟩
theorem mv_X7_shrinksOf : MV M_X7_shrinksOf := ⟨gtb_in 1062 (by decide +kernel) (by decide +kernel), gtb_in 63 (by decide +kernel) (by decide +kernel)⟩
def M_X7_shrinks : MI := (yX7_shrinks, cX7_shrinks, 2, some .int, { frames := 6, cells := 0, slots := 0, locals := 140 })
theorem mk_X7_shrinks : MK M_X7_shrinks 1 := ⟨gtb_in 1059 (by decide +kernel) (by decide +kernel), gtb_in 84 (by decide +kernel) (by decide +kernel), ⟨by decide, by decide, by decide +kernel⟩, rfl, rfl⟩
theorem mv_X7_shrinks : MV M_X7_shrinks := ⟨gtb_in 1057 (by decide +kernel) (by decide +kernel), gtb_in 1058 (by decide +kernel) (by decide +kernel)⟩
def M_X7_leastWithout : MI := (yX7_leastWithout, cX7_leastWithout, 5, some .int, { frames := 1, cells := 0, slots := 0, locals := 20 })
theorem mk_X7_leastWithout : MK M_X7_leastWithout 1 := ⟨gtb_in 1083 (by decide +kernel) (by decide +kernel), gtb_in 84 (by decide +kernel) (by decide +kernel), ⟨by decide, by decide, by decide +kernel⟩, rfl, rfl⟩
theorem mv_X7_leastWithout : MV M_X7_leastWithout := ⟨gtb_in 1082 (by decide +kernel) (by decide +kernel), gtb_in 67 (by decide +kernel) (by decide +kernel)⟩
def M_X7_linesWithout : MI := (yX7_linesWithout, cX7_linesWithout, 3, some .int, { frames := 3, cells := 0, slots := 0, locals := 67 })
theorem mk_X7_linesWithout : MK M_X7_linesWithout 1 := ⟨gtb_in 1079 (by decide +kernel) (by decide +kernel), gtb_in 84 (by decide +kernel) (by decide +kernel), ⟨by decide, by decide, by decide +kernel⟩, rfl, rfl⟩
theorem mv_X7_linesWithout : MV M_X7_linesWithout := ⟨gtb_in 1078 (by decide +kernel) (by decide +kernel), gtb_in 66 (by decide +kernel) (by decide +kernel)⟩
def M_X7_isOverBy : MI := (yX7_isOverBy, cX7_isOverBy, 2, some .boolean, { frames := 2, cells := 0, slots := 0, locals := 44 })
theorem mk_X7_isOverBy : MK M_X7_isOverBy 1 := ⟨gtb_in 1087 (by decide +kernel) (by decide +kernel), gtb_in 84 (by decide +kernel) (by decide +kernel), ⟨by decide, by decide, by decide +kernel⟩, rfl, rfl⟩
theorem mv_X7_isOverBy : MV M_X7_isOverBy := ⟨gtb_in 1086 (by decide +kernel) (by decide +kernel), gtb_in 68 (by decide +kernel) (by decide +kernel)⟩
def M_X7_spareOf : MI := (yX7_spareOf, cX7_spareOf, 5, some .int, { frames := 5, cells := 0, slots := 0, locals := 114 })
theorem mk_X7_spareOf : MK M_X7_spareOf 0 := ⟨gtb_in 1075 (by decide +kernel) (by decide +kernel), gtb_in 84 (by decide +kernel) (by decide +kernel), ⟨by decide, by decide, by decide +kernel⟩, rfl, rfl⟩
theorem mv_X7_spareOf : MV M_X7_spareOf := ⟨gtb_in 1074 (by decide +kernel) (by decide +kernel), gtb_in 65 (by decide +kernel) (by decide +kernel)⟩
def M_X7_spare : MI := (yX7_spare, cX7_spare, 1, some .int, { frames := 6, cells := 0, slots := 0, locals := 138 })
theorem mk_X7_spare : MK M_X7_spare 0 := ⟨gtb_in 1071 (by decide +kernel) (by decide +kernel), gtb_in 84 (by decide +kernel) (by decide +kernel), ⟨by decide, by decide, by decide +kernel⟩, rfl, rfl⟩
theorem mv_X7_spare : MV M_X7_spare := ⟨gtb_in 1069 (by decide +kernel) (by decide +kernel), gtb_in 1070 (by decide +kernel) (by decide +kernel)⟩
def M_X7_sheet : MI := (yX7_sheet, cX7_sheet, 5, some .int, { frames := 2, cells := 0, slots := 0, locals := 42 })
theorem mk_X7_sheet : MK M_X7_sheet 3 := ⟨gtb_in 1091 (by decide +kernel) (by decide +kernel), gtb_in 84 (by decide +kernel) (by decide +kernel), ⟨by decide, by decide, by decide +kernel⟩, rfl, rfl⟩
theorem mv_X7_sheet : MV M_X7_sheet := ⟨gtb_in 1089 (by decide +kernel) (by decide +kernel), gtb_in 1090 (by decide +kernel) (by decide +kernel)⟩
def M_X7_lose : MI := (yX7_lose, cX7_lose, 2, some .int, { frames := 2, cells := 0, slots := 0, locals := 42 })
theorem mk_X7_lose : MK M_X7_lose 1 := ⟨gtb_in 1095 (by decide +kernel) (by decide +kernel), gtb_in 84 (by decide +kernel) (by decide +kernel), ⟨by decide, by decide, by decide +kernel⟩, rfl, rfl⟩
theorem mv_X7_lose : MV M_X7_lose := ⟨gtb_in 1093 (by decide +kernel) (by decide +kernel), gtb_in 1094 (by decide +kernel) (by decide +kernel)⟩
def M_X7_lacks : MI := (yX7_lacks, cX7_lacks, 4, some .int, { frames := 1, cells := 0, slots := 0, locals := 22 })
theorem mk_X7_lacks : MK M_X7_lacks 3 := ⟨gtb_in 1103 (by decide +kernel) (by decide +kernel), gtb_in 84 (by decide +kernel) (by decide +kernel), ⟨by decide, by decide, by decide +kernel⟩, rfl, rfl⟩
theorem mv_X7_lacks : MV M_X7_lacks := ⟨gtb_in 1102 (by decide +kernel) (by decide +kernel), gtb_in 69 (by decide +kernel) (by decide +kernel)⟩
def M_X7_keep : MI := (yX7_keep, cX7_keep, 4, none, { frames := 0, cells := 0, slots := 0, locals := 0 })
theorem mk_X7_keep : MK M_X7_keep 3 := ⟨gtb_in 1107 (by decide +kernel) (by decide +kernel), gtb_in 84 (by decide +kernel) (by decide +kernel), ⟨by decide, by decide, by decide +kernel⟩, rfl, rfl⟩
theorem mv_X7_keep : MV M_X7_keep := ⟨gtb_in 1106 (by decide +kernel) (by decide +kernel), gtb_in 70 (by decide +kernel) (by decide +kernel)⟩
def M_X7_put : MI := (yX7_put, cX7_put, 6, some .int, { frames := 2, cells := 0, slots := 0, locals := 45 })
theorem mk_X7_put : MK M_X7_put 4 := ⟨gtb_in 1099 (by decide +kernel) (by decide +kernel), gtb_in 84 (by decide +kernel) (by decide +kernel), ⟨by decide, by decide, by decide +kernel⟩, rfl, rfl⟩
theorem mv_X7_put : MV M_X7_put := ⟨gtb_in 1097 (by decide +kernel) (by decide +kernel), gtb_in 1098 (by decide +kernel) (by decide +kernel)⟩
def M_X7_get : MI := (yX7_get, cX7_get, 5, some .int, { frames := 2, cells := 0, slots := 0, locals := 45 })
theorem mk_X7_get : MK M_X7_get 3 := ⟨gtb_in 1111 (by decide +kernel) (by decide +kernel), gtb_in 84 (by decide +kernel) (by decide +kernel), ⟨by decide, by decide, by decide +kernel⟩, rfl, rfl⟩
theorem mv_X7_get : MV M_X7_get := ⟨gtb_in 1109 (by decide +kernel) (by decide +kernel), gtb_in 1110 (by decide +kernel) (by decide +kernel)⟩
def M_X7_copy : MI := (yX7_copy, cX7_copy, 7, some .int, { frames := 2, cells := 0, slots := 0, locals := 42 })
theorem mk_X7_copy : MK M_X7_copy 5 := ⟨gtb_in 1116 (by decide +kernel) (by decide +kernel), gtb_in 84 (by decide +kernel) (by decide +kernel), ⟨by decide, by decide, by decide +kernel⟩, rfl, rfl⟩
theorem mv_X7_copy : MV M_X7_copy := ⟨gtb_in 1114 (by decide +kernel) (by decide +kernel), gtb_in 1115 (by decide +kernel) (by decide +kernel)⟩
def M_X7_write : MI := (yX7_write, cX7_write, 5, some .int, { frames := 8, cells := 0, slots := 0, locals := 177 })
theorem mk_X7_write : MK M_X7_write 2 := ⟨gtb_in 1120 (by decide +kernel) (by decide +kernel), gtb_in 84 (by decide +kernel) (by decide +kernel), ⟨by decide, by decide, by decide +kernel⟩, rfl, rfl⟩
theorem mv_X7_write : MV M_X7_write := ⟨gtb_in 1118 (by decide +kernel) (by decide +kernel), gtb_in 1119 (by decide +kernel) (by decide +kernel)⟩
def M_X7_partsOf : MI := (yX7_partsOf, cX7_partsOf, 1, some .int, { frames := 4, cells := 0, slots := 0, locals := 89 })
theorem mk_X7_partsOf : MK M_X7_partsOf 0 := ⟨gtb_in 1128 (by decide +kernel) (by decide +kernel), gtb_in 84 (by decide +kernel) (by decide +kernel), ⟨by decide, by decide, by decide +kernel⟩, rfl, rfl⟩
theorem mv_X7_partsOf : MV M_X7_partsOf := ⟨gtb_in 1127 (by decide +kernel) (by decide +kernel), gtb_in 71 (by decide +kernel) (by decide +kernel)⟩
def M_X7_choicesOf : MI := (yX7_choicesOf, cX7_choicesOf, 1, some .int, { frames := 4, cells := 0, slots := 0, locals := 89 })
theorem mk_X7_choicesOf : MK M_X7_choicesOf 0 := ⟨gtb_in 1132 (by decide +kernel) (by decide +kernel), gtb_in 84 (by decide +kernel) (by decide +kernel), ⟨by decide, by decide, by decide +kernel⟩, rfl, rfl⟩
theorem mv_X7_choicesOf : MV M_X7_choicesOf := ⟨gtb_in 1131 (by decide +kernel) (by decide +kernel), gtb_in 72 (by decide +kernel) (by decide +kernel)⟩
def M_X7_wholeOf : MI := (yX7_wholeOf, cX7_wholeOf, 1, some .int, { frames := 6, cells := 0, slots := 0, locals := 135 })
theorem mk_X7_wholeOf : MK M_X7_wholeOf 0 := ⟨gtb_in 1136 (by decide +kernel) (by decide +kernel), gtb_in 84 (by decide +kernel) (by decide +kernel), ⟨by decide, by decide, by decide +kernel⟩, rfl, rfl⟩
theorem mv_X7_wholeOf : MV M_X7_wholeOf := ⟨gtb_in 1135 (by decide +kernel) (by decide +kernel), gtb_in 73 (by decide +kernel) (by decide +kernel)⟩
def M_X7_count : MI := (yX7_count, cX7_count, 2, some .int, { frames := 8, cells := 0, slots := 0, locals := 177 })
theorem mk_X7_count : MK M_X7_count 1 := ⟨gtb_in 1124 (by decide +kernel) (by decide +kernel), gtb_in 84 (by decide +kernel) (by decide +kernel), ⟨by decide, by decide, by decide +kernel⟩, rfl, rfl⟩
theorem mv_X7_count : MV M_X7_count := ⟨gtb_in 1122 (by decide +kernel) (by decide +kernel), gtb_in 1123 (by decide +kernel) (by decide +kernel)⟩
def M_X7_partDigest : MI := (yX7_partDigest, cX7_partDigest, 8, some .long, { frames := 9, cells := 0, slots := 0, locals := 200 })
theorem mk_X7_partDigest : MK M_X7_partDigest 2 := ⟨gtb_in 1147 (by decide +kernel) (by decide +kernel), gtb_in 84 (by decide +kernel) (by decide +kernel), ⟨by decide, by decide, by decide +kernel⟩, rfl, rfl⟩
theorem mv_X7_partDigest : MV M_X7_partDigest := ⟨gtb_in 1146 (by decide +kernel) (by decide +kernel), gtb_in 74 (by decide +kernel) (by decide +kernel)⟩
def M_X7_digest : MI := (yX7_digest, cX7_digest, 6, some .long, { frames := 10, cells := 0, slots := 0, locals := 227 })
theorem mk_X7_digest : MK M_X7_digest 0 := ⟨gtb_in 1140 (by decide +kernel) (by decide +kernel), gtb_in 84 (by decide +kernel) (by decide +kernel), ⟨by decide, by decide, by decide +kernel⟩, rfl, rfl⟩
theorem mv_X7_digest : MV M_X7_digest := ⟨gtb_in 1138 (by decide +kernel) (by decide +kernel), gtb_in 1139 (by decide +kernel) (by decide +kernel)⟩
