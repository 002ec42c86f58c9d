/-! THE WORDS, each by its place in the tables -/
set_option maxRecDepth 100000 in
theorem q9_n : lw_privs.length = 47 := by decide +kernel
set_option maxRecDepth 100000 in
theorem inJx4a65c : ∀ w ∈ u_ws RJx4a65c TJx4a65c 3, w ∈ lw_good := by decide +kernel
theorem vcJx4a65c : vwCl[2]? = some (RJx4a65c, TJx4a65c, 3) := rfl
set_option maxRecDepth 100000 in
theorem inX0 : ∀ w ∈ u_ws RX0 TX0 3, w ∈ lw_good := by decide +kernel
theorem vcX0 : vwCl[3]? = some (RX0, TX0, 3) := rfl
set_option maxRecDepth 100000 in
theorem inX1 : ∀ w ∈ u_ws RX1 TX1 3, w ∈ lw_good := by decide +kernel
theorem vcX1 : vwCl[4]? = some (RX1, TX1, 3) := rfl
set_option maxRecDepth 100000 in
theorem inX2 : ∀ w ∈ u_ws RX2 TX2 6, w ∈ lw_good := by decide +kernel
theorem vcX2 : vwCl[5]? = some (RX2, TX2, 6) := rfl
set_option maxRecDepth 100000 in
theorem inX3 : ∀ w ∈ u_ws RX3 TX3 1, w ∈ lw_good := by decide +kernel
theorem vcX3 : vwCl[6]? = some (RX3, TX3, 1) := rfl
set_option maxRecDepth 100000 in
theorem inX4 : ∀ w ∈ u_ws RX4 TX4 10, w ∈ lw_good := by decide +kernel
theorem vcX4 : vwCl[7]? = some (RX4, TX4, 10) := rfl
set_option maxRecDepth 100000 in
theorem inX5 : ∀ w ∈ u_ws RX5 TX5 2, w ∈ lw_good := by decide +kernel
theorem vcX5 : vwCl[8]? = some (RX5, TX5, 2) := rfl
set_option maxRecDepth 100000 in
theorem inX6 : ∀ w ∈ u_ws RX6 TX6 11, w ∈ lw_good := by decide +kernel
theorem vcX6 : vwCl[9]? = some (RX6, TX6, 11) := rfl
set_option maxRecDepth 100000 in
theorem inX7 : ∀ w ∈ u_ws RX7 TX7 27, w ∈ lw_good := by decide +kernel
theorem vcX7 : vwCl[10]? = some (RX7, TX7, 27) := rfl
set_option maxRecDepth 100000 in
theorem kf_X1_9 : FLk RX1 9 4 0 1 (.array .int) := ⟨_, _, _, tyX1, "Swapyard$History", vcX1, inX1, by decide, tyX1_ok, nmX1, q9 44 (by decide +kernel) (by decide +kernel), Or.inl rfl, rfl, (fun _ => rfl), by decide +kernel⟩
set_option maxRecDepth 100000 in
theorem kf_X1_19 : FLk RX1 19 4 1 0 .int := ⟨_, _, _, tyX1, "Swapyard$History", vcX1, inX1, by decide, tyX1_ok, nmX1, q9 45 (by decide +kernel) (by decide +kernel), Or.inl rfl, rfl, (fun h => by cases h), by decide +kernel⟩
set_option maxRecDepth 100000 in
theorem kf_X1_15 : FLk RX1 15 4 2 1 (.array .char) := ⟨_, _, _, tyX1, "Swapyard$History", vcX1, inX1, by decide, tyX1_ok, nmX1, q9 46 (by decide +kernel) (by decide +kernel), Or.inl rfl, rfl, (fun _ => rfl), by decide +kernel⟩
set_option maxRecDepth 100000 in
theorem kf_X0_11 : FLk RX0 11 3 0 1 (.array (.object "Swapyard$Page")) := ⟨_, _, _, tyX0, "Swapyard$Frames", vcX0, inX0, by decide, tyX0_ok, nmX0, q9 64 (by decide +kernel) (by decide +kernel), Or.inl rfl, rfl, (fun _ => rfl), by decide +kernel⟩
set_option maxRecDepth 100000 in
theorem kf_X0_17 : FLk RX0 17 3 1 0 .int := ⟨_, _, _, tyX0, "Swapyard$Frames", vcX0, inX0, by decide, tyX0_ok, nmX0, q9 65 (by decide +kernel) (by decide +kernel), Or.inl rfl, rfl, (fun h => by cases h), by decide +kernel⟩
set_option maxRecDepth 100000 in
theorem kf_X6_122 : FLk RX6 122 3 1 0 .int := ⟨_, _, _, tyX0, "Swapyard$Frames", vcX0, inX0, by decide, tyX0_ok, nmX0, q9 66 (by decide +kernel) (by decide +kernel), Or.inl rfl, rfl, (fun h => by cases h), by decide +kernel⟩
set_option maxRecDepth 100000 in
theorem kf_X0_25 : FLk RX0 25 3 2 0 .int := ⟨_, _, _, tyX0, "Swapyard$Frames", vcX0, inX0, by decide, tyX0_ok, nmX0, q9 67 (by decide +kernel) (by decide +kernel), Or.inl rfl, rfl, (fun h => by cases h), by decide +kernel⟩
set_option maxRecDepth 100000 in
theorem kf_X6_186 : FLk RX6 186 3 2 0 .int := ⟨_, _, _, tyX0, "Swapyard$Frames", vcX0, inX0, by decide, tyX0_ok, nmX0, q9 68 (by decide +kernel) (by decide +kernel), Or.inl rfl, rfl, (fun h => by cases h), by decide +kernel⟩
set_option maxRecDepth 100000 in
theorem kf_Jx4a65c_9 : FLk RJx4a65c 9 2 1 0 (.array (.object "java/lang/Object")) := ⟨_, _, _, tyJx4a65c, "java/util/ArrayList", vcJx4a65c, inJx4a65c, by decide, tyJx4a65c_ok, nmJx4a65c, q9 96 (by decide +kernel) (by decide +kernel), Or.inl rfl, rfl, (fun h => by cases h), by decide +kernel⟩
set_option maxRecDepth 100000 in
theorem kf_Jx4a65c_48 : FLk RJx4a65c 48 2 2 0 .int := ⟨_, _, _, tyJx4a65c, "java/util/ArrayList", vcJx4a65c, inJx4a65c, by decide, tyJx4a65c_ok, nmJx4a65c, q9 97 (by decide +kernel) (by decide +kernel), Or.inl rfl, rfl, (fun h => by cases h), by decide +kernel⟩
set_option maxRecDepth 100000 in
theorem kf_Jxc12de_7 : FLk RJxc12de 7 2 0 0 .int := ⟨_, _, _, tyJx4a65c, "java/util/AbstractList", vcJx4a65c, inJx4a65c, by decide, tyJx4a65c_ok, nmJx4a65c, q9 98 (by decide +kernel) (by decide +kernel), Or.inl rfl, rfl, (fun h => by cases h), by decide +kernel⟩
set_option maxRecDepth 100000 in
theorem kf_Jx4a65c_63 : FLk RJx4a65c 63 2 0 0 .int := ⟨_, _, _, tyJx4a65c, "java/util/ArrayList", vcJx4a65c, inJx4a65c, by decide, tyJx4a65c_ok, nmJx4a65c, q9 99 (by decide +kernel) (by decide +kernel), Or.inr (q9 100 (by decide +kernel) (by decide +kernel)), rfl, (fun h => by cases h), by decide +kernel⟩
set_option maxRecDepth 100000 in
theorem kf_X5_12 : FLk RX5 12 8 0 1 (.object "java/util/ArrayList") := ⟨_, _, _, tyX5, "Swapyard$Store", vcX5, inX5, by decide, tyX5_ok, nmX5, q9 108 (by decide +kernel) (by decide +kernel), Or.inl rfl, rfl, (fun _ => rfl), by decide +kernel⟩
set_option maxRecDepth 100000 in
theorem kf_X6_195 : FLk RX6 195 8 0 2 (.object "java/util/ArrayList") := ⟨_, _, _, tyX5, "Swapyard$Store", vcX5, inX5, by decide, tyX5_ok, nmX5, q9 109 (by decide +kernel) (by decide +kernel), Or.inl rfl, rfl, (fun h => by cases h), by decide +kernel⟩
set_option maxRecDepth 100000 in
theorem kf_X5_18 : FLk RX5 18 8 1 0 .int := ⟨_, _, _, tyX5, "Swapyard$Store", vcX5, inX5, by decide, tyX5_ok, nmX5, q9 110 (by decide +kernel) (by decide +kernel), Or.inl rfl, rfl, (fun h => by cases h), by decide +kernel⟩
set_option maxRecDepth 100000 in
theorem kf_X6_136 : FLk RX6 136 8 1 0 .int := ⟨_, _, _, tyX5, "Swapyard$Store", vcX5, inX5, by decide, tyX5_ok, nmX5, q9 111 (by decide +kernel) (by decide +kernel), Or.inl rfl, rfl, (fun h => by cases h), by decide +kernel⟩
set_option maxRecDepth 100000 in
theorem kf_X3_7 : FLk RX3 7 6 0 1 (.array .int) := ⟨_, _, _, tyX3, "Swapyard$RecentStalls", vcX3, inX3, by decide, tyX3_ok, nmX3, q9 123 (by decide +kernel) (by decide +kernel), Or.inl rfl, rfl, (fun _ => rfl), by decide +kernel⟩
set_option maxRecDepth 100000 in
theorem kf_X6_12 : FLk RX6 12 9 0 1 (.object "Swapyard$History") := ⟨_, _, _, tyX6, "Swapyard", vcX6, inX6, by decide, tyX6_ok, nmX6, q9 129 (by decide +kernel) (by decide +kernel), Or.inl rfl, rfl, (fun _ => rfl), by decide +kernel⟩
set_option maxRecDepth 100000 in
theorem kf_X6_19 : FLk RX6 19 9 1 1 (.object "Swapyard$Frames") := ⟨_, _, _, tyX6, "Swapyard", vcX6, inX6, by decide, tyX6_ok, nmX6, q9 130 (by decide +kernel) (by decide +kernel), Or.inl rfl, rfl, (fun _ => rfl), by decide +kernel⟩
set_option maxRecDepth 100000 in
theorem kf_X6_26 : FLk RX6 26 9 2 1 (.object "Swapyard$Store") := ⟨_, _, _, tyX6, "Swapyard", vcX6, inX6, by decide, tyX6_ok, nmX6, q9 131 (by decide +kernel) (by decide +kernel), Or.inl rfl, rfl, (fun _ => rfl), by decide +kernel⟩
set_option maxRecDepth 100000 in
theorem kf_X6_33 : FLk RX6 33 9 3 1 (.object "Swapyard$RecentStalls") := ⟨_, _, _, tyX6, "Swapyard", vcX6, inX6, by decide, tyX6_ok, nmX6, q9 132 (by decide +kernel) (by decide +kernel), Or.inl rfl, rfl, (fun _ => rfl), by decide +kernel⟩
set_option maxRecDepth 100000 in
theorem kf_X6_40 : FLk RX6 40 9 4 1 (.object "java/util/ArrayList") := ⟨_, _, _, tyX6, "Swapyard", vcX6, inX6, by decide, tyX6_ok, nmX6, q9 133 (by decide +kernel) (by decide +kernel), Or.inl rfl, rfl, (fun _ => rfl), by decide +kernel⟩
set_option maxRecDepth 100000 in
theorem kf_X6_44 : FLk RX6 44 9 5 0 .int := ⟨_, _, _, tyX6, "Swapyard", vcX6, inX6, by decide, tyX6_ok, nmX6, q9 134 (by decide +kernel) (by decide +kernel), Or.inl rfl, rfl, (fun h => by cases h), by decide +kernel⟩
set_option maxRecDepth 100000 in
theorem kf_X6_165 : FLk RX6 165 9 6 0 .int := ⟨_, _, _, tyX6, "Swapyard", vcX6, inX6, by decide, tyX6_ok, nmX6, q9 135 (by decide +kernel) (by decide +kernel), Or.inl rfl, rfl, (fun h => by cases h), by decide +kernel⟩
set_option maxRecDepth 100000 in
theorem kf_X6_159 : FLk RX6 159 9 7 0 .int := ⟨_, _, _, tyX6, "Swapyard", vcX6, inX6, by decide, tyX6_ok, nmX6, q9 136 (by decide +kernel) (by decide +kernel), Or.inl rfl, rfl, (fun h => by cases h), by decide +kernel⟩
set_option maxRecDepth 100000 in
theorem kf_X6_251 : FLk RX6 251 9 8 0 .int := ⟨_, _, _, tyX6, "Swapyard", vcX6, inX6, by decide, tyX6_ok, nmX6, q9 137 (by decide +kernel) (by decide +kernel), Or.inl rfl, rfl, (fun h => by cases h), by decide +kernel⟩
set_option maxRecDepth 100000 in
theorem kf_X6_259 : FLk RX6 259 9 9 0 .int := ⟨_, _, _, tyX6, "Swapyard", vcX6, inX6, by decide, tyX6_ok, nmX6, q9 138 (by decide +kernel) (by decide +kernel), Or.inl rfl, rfl, (fun h => by cases h), by decide +kernel⟩
set_option maxRecDepth 100000 in
theorem kf_X6_262 : FLk RX6 262 9 10 0 .long := ⟨_, _, _, tyX6, "Swapyard", vcX6, inX6, by decide, tyX6_ok, nmX6, q9 139 (by decide +kernel) (by decide +kernel), Or.inl rfl, rfl, (fun h => by cases h), by decide +kernel⟩
set_option maxRecDepth 100000 in
theorem kf_X2_22 : FLk RX2 22 5 0 1 .int := ⟨_, _, _, tyX2, "Swapyard$Page", vcX2, inX2, by decide, tyX2_ok, nmX2, q9 364 (by decide +kernel) (by decide +kernel), Or.inl rfl, rfl, (fun _ => rfl), by decide +kernel⟩
set_option maxRecDepth 100000 in
theorem kf_X6_171 : FLk RX6 171 5 0 2 .int := ⟨_, _, _, tyX2, "Swapyard$Page", vcX2, inX2, by decide, tyX2_ok, nmX2, q9 365 (by decide +kernel) (by decide +kernel), Or.inl rfl, rfl, (fun h => by cases h), by decide +kernel⟩
set_option maxRecDepth 100000 in
theorem kf_X2_25 : FLk RX2 25 5 1 1 (.object "Swapyard$History") := ⟨_, _, _, tyX2, "Swapyard$Page", vcX2, inX2, by decide, tyX2_ok, nmX2, q9 366 (by decide +kernel) (by decide +kernel), Or.inl rfl, rfl, (fun _ => rfl), by decide +kernel⟩
set_option maxRecDepth 100000 in
theorem kf_X2_9 : FLk RX2 9 5 2 0 .int := ⟨_, _, _, tyX2, "Swapyard$Page", vcX2, inX2, by decide, tyX2_ok, nmX2, q9 367 (by decide +kernel) (by decide +kernel), Or.inl rfl, rfl, (fun h => by cases h), by decide +kernel⟩
set_option maxRecDepth 100000 in
theorem kf_X5_32 : FLk RX5 32 5 2 0 .int := ⟨_, _, _, tyX2, "Swapyard$Page", vcX2, inX2, by decide, tyX2_ok, nmX2, q9 368 (by decide +kernel) (by decide +kernel), Or.inl rfl, rfl, (fun h => by cases h), by decide +kernel⟩
set_option maxRecDepth 100000 in
theorem kf_X6_120 : FLk RX6 120 5 2 0 .int := ⟨_, _, _, tyX2, "Swapyard$Page", vcX2, inX2, by decide, tyX2_ok, nmX2, q9 369 (by decide +kernel) (by decide +kernel), Or.inl rfl, rfl, (fun h => by cases h), by decide +kernel⟩
set_option maxRecDepth 100000 in
theorem kf_X2_15 : FLk RX2 15 5 3 0 .char := ⟨_, _, _, tyX2, "Swapyard$Page", vcX2, inX2, by decide, tyX2_ok, nmX2, q9 370 (by decide +kernel) (by decide +kernel), Or.inl rfl, rfl, (fun h => by cases h), by decide +kernel⟩
set_option maxRecDepth 100000 in
theorem kf_X4_34 : FLk RX4 34 5 3 0 .char := ⟨_, _, _, tyX2, "Swapyard$Page", vcX2, inX2, by decide, tyX2_ok, nmX2, q9 371 (by decide +kernel) (by decide +kernel), Or.inl rfl, rfl, (fun h => by cases h), by decide +kernel⟩
set_option maxRecDepth 100000 in
theorem kf_X6_112 : FLk RX6 112 5 3 0 .char := ⟨_, _, _, tyX2, "Swapyard$Page", vcX2, inX2, by decide, tyX2_ok, nmX2, q9 372 (by decide +kernel) (by decide +kernel), Or.inl rfl, rfl, (fun h => by cases h), by decide +kernel⟩
set_option maxRecDepth 100000 in
theorem kf_X2_19 : FLk RX2 19 5 4 0 .int := ⟨_, _, _, tyX2, "Swapyard$Page", vcX2, inX2, by decide, tyX2_ok, nmX2, q9 373 (by decide +kernel) (by decide +kernel), Or.inl rfl, rfl, (fun h => by cases h), by decide +kernel⟩
set_option maxRecDepth 100000 in
theorem kf_X6_183 : FLk RX6 183 5 4 0 .int := ⟨_, _, _, tyX2, "Swapyard$Page", vcX2, inX2, by decide, tyX2_ok, nmX2, q9 374 (by decide +kernel) (by decide +kernel), Or.inl rfl, rfl, (fun h => by cases h), by decide +kernel⟩
set_option maxRecDepth 100000 in
theorem kf_X2_33 : FLk RX2 33 5 5 0 .boolean := ⟨_, _, _, tyX2, "Swapyard$Page", vcX2, inX2, by decide, tyX2_ok, nmX2, q9 375 (by decide +kernel) (by decide +kernel), Or.inl rfl, rfl, (fun h => by cases h), by decide +kernel⟩
set_option maxRecDepth 100000 in
theorem kf_X0_36 : FLk RX0 36 5 5 0 .boolean := ⟨_, _, _, tyX2, "Swapyard$Page", vcX2, inX2, by decide, tyX2_ok, nmX2, q9 376 (by decide +kernel) (by decide +kernel), Or.inl rfl, rfl, (fun h => by cases h), by decide +kernel⟩
set_option maxRecDepth 100000 in
theorem kf_X6_148 : FLk RX6 148 5 5 0 .boolean := ⟨_, _, _, tyX2, "Swapyard$Page", vcX2, inX2, by decide, tyX2_ok, nmX2, q9 377 (by decide +kernel) (by decide +kernel), Or.inl rfl, rfl, (fun h => by cases h), by decide +kernel⟩
set_option maxRecDepth 100000 in
theorem kf_X4_17 : FLk RX4 17 7 0 1 .int := ⟨_, _, _, tyX4, "Swapyard$Service", vcX4, inX4, by decide, tyX4_ok, nmX4, q9 391 (by decide +kernel) (by decide +kernel), Or.inl rfl, rfl, (fun _ => rfl), by decide +kernel⟩
set_option maxRecDepth 100000 in
theorem kf_X6_248 : FLk RX6 248 7 0 2 .int := ⟨_, _, _, tyX4, "Swapyard$Service", vcX4, inX4, by decide, tyX4_ok, nmX4, q9 392 (by decide +kernel) (by decide +kernel), Or.inl rfl, rfl, (fun h => by cases h), by decide +kernel⟩
set_option maxRecDepth 100000 in
theorem kf_X4_21 : FLk RX4 21 7 1 1 .int := ⟨_, _, _, tyX4, "Swapyard$Service", vcX4, inX4, by decide, tyX4_ok, nmX4, q9 393 (by decide +kernel) (by decide +kernel), Or.inl rfl, rfl, (fun _ => rfl), by decide +kernel⟩
set_option maxRecDepth 100000 in
theorem kf_X4_24 : FLk RX4 24 7 2 1 .char := ⟨_, _, _, tyX4, "Swapyard$Service", vcX4, inX4, by decide, tyX4_ok, nmX4, q9 394 (by decide +kernel) (by decide +kernel), Or.inl rfl, rfl, (fun _ => rfl), by decide +kernel⟩
set_option maxRecDepth 100000 in
theorem kf_X6_330 : FLk RX6 330 7 2 2 .char := ⟨_, _, _, tyX4, "Swapyard$Service", vcX4, inX4, by decide, tyX4_ok, nmX4, q9 395 (by decide +kernel) (by decide +kernel), Or.inl rfl, rfl, (fun h => by cases h), by decide +kernel⟩
set_option maxRecDepth 100000 in
theorem kf_X4_28 : FLk RX4 28 7 3 1 .int := ⟨_, _, _, tyX4, "Swapyard$Service", vcX4, inX4, by decide, tyX4_ok, nmX4, q9 396 (by decide +kernel) (by decide +kernel), Or.inl rfl, rfl, (fun _ => rfl), by decide +kernel⟩
set_option maxRecDepth 100000 in
theorem kf_X4_11 : FLk RX4 11 7 4 1 (.array (.object "Swapyard$Page")) := ⟨_, _, _, tyX4, "Swapyard$Service", vcX4, inX4, by decide, tyX4_ok, nmX4, q9 397 (by decide +kernel) (by decide +kernel), Or.inl rfl, rfl, (fun _ => rfl), by decide +kernel⟩
set_option maxRecDepth 100000 in
theorem kf_X6_279 : FLk RX6 279 7 4 2 (.array (.object "Swapyard$Page")) := ⟨_, _, _, tyX4, "Swapyard$Service", vcX4, inX4, by decide, tyX4_ok, nmX4, q9 398 (by decide +kernel) (by decide +kernel), Or.inl rfl, rfl, (fun h => by cases h), by decide +kernel⟩
set_option maxRecDepth 100000 in
theorem kf_X6_100 : FLk RX6 100 7 5 0 .int := ⟨_, _, _, tyX4, "Swapyard$Service", vcX4, inX4, by decide, tyX4_ok, nmX4, q9 399 (by decide +kernel) (by decide +kernel), Or.inl rfl, rfl, (fun h => by cases h), by decide +kernel⟩
set_option maxRecDepth 100000 in
theorem kf_X6_217 : FLk RX6 217 7 6 0 .boolean := ⟨_, _, _, tyX4, "Swapyard$Service", vcX4, inX4, by decide, tyX4_ok, nmX4, q9 400 (by decide +kernel) (by decide +kernel), Or.inl rfl, rfl, (fun h => by cases h), by decide +kernel⟩
set_option maxRecDepth 100000 in
theorem kf_X4_44 : FLk RX4 44 7 7 0 .int := ⟨_, _, _, tyX4, "Swapyard$Service", vcX4, inX4, by decide, tyX4_ok, nmX4, q9 401 (by decide +kernel) (by decide +kernel), Or.inl rfl, rfl, (fun h => by cases h), by decide +kernel⟩
set_option maxRecDepth 100000 in
theorem kf_X6_327 : FLk RX6 327 7 7 0 .int := ⟨_, _, _, tyX4, "Swapyard$Service", vcX4, inX4, by decide, tyX4_ok, nmX4, q9 402 (by decide +kernel) (by decide +kernel), Or.inl rfl, rfl, (fun h => by cases h), by decide +kernel⟩
set_option maxRecDepth 100000 in
theorem kf_X4_41 : FLk RX4 41 7 8 0 .int := ⟨_, _, _, tyX4, "Swapyard$Service", vcX4, inX4, by decide, tyX4_ok, nmX4, q9 403 (by decide +kernel) (by decide +kernel), Or.inl rfl, rfl, (fun h => by cases h), by decide +kernel⟩
set_option maxRecDepth 100000 in
theorem kf_X6_236 : FLk RX6 236 7 8 0 .int := ⟨_, _, _, tyX4, "Swapyard$Service", vcX4, inX4, by decide, tyX4_ok, nmX4, q9 404 (by decide +kernel) (by decide +kernel), Or.inl rfl, rfl, (fun h => by cases h), by decide +kernel⟩
set_option maxRecDepth 100000 in
theorem kf_X6_213 : FLk RX6 213 7 9 0 .long := ⟨_, _, _, tyX4, "Swapyard$Service", vcX4, inX4, by decide, tyX4_ok, nmX4, q9 405 (by decide +kernel) (by decide +kernel), Or.inl rfl, rfl, (fun h => by cases h), by decide +kernel⟩
set_option maxRecDepth 100000 in
theorem kf_X7_68 : FLk RX7 68 10 0 0 .int := ⟨_, _, _, tyX7, "SwapyardModel", vcX7, inX7, by decide, tyX7_ok, nmX7, q9 905 (by decide +kernel) (by decide +kernel), Or.inl rfl, rfl, (fun h => by cases h), by decide +kernel⟩
set_option maxRecDepth 100000 in
theorem kf_X7_7 : FLk RX7 7 10 1 1 (.array .int) := ⟨_, _, _, tyX7, "SwapyardModel", vcX7, inX7, by decide, tyX7_ok, nmX7, q9 906 (by decide +kernel) (by decide +kernel), Or.inl rfl, rfl, (fun _ => rfl), by decide +kernel⟩
set_option maxRecDepth 100000 in
theorem kf_X7_13 : FLk RX7 13 10 2 1 (.array .char) := ⟨_, _, _, tyX7, "SwapyardModel", vcX7, inX7, by decide, tyX7_ok, nmX7, q9 907 (by decide +kernel) (by decide +kernel), Or.inl rfl, rfl, (fun _ => rfl), by decide +kernel⟩
set_option maxRecDepth 100000 in
theorem kf_X7_17 : FLk RX7 17 10 3 1 (.array .int) := ⟨_, _, _, tyX7, "SwapyardModel", vcX7, inX7, by decide, tyX7_ok, nmX7, q9 908 (by decide +kernel) (by decide +kernel), Or.inl rfl, rfl, (fun _ => rfl), by decide +kernel⟩
set_option maxRecDepth 100000 in
theorem kf_X7_20 : FLk RX7 20 10 4 1 (.array .boolean) := ⟨_, _, _, tyX7, "SwapyardModel", vcX7, inX7, by decide, tyX7_ok, nmX7, q9 909 (by decide +kernel) (by decide +kernel), Or.inl rfl, rfl, (fun _ => rfl), by decide +kernel⟩
set_option maxRecDepth 100000 in
theorem kf_X7_24 : FLk RX7 24 10 5 1 (.array .int) := ⟨_, _, _, tyX7, "SwapyardModel", vcX7, inX7, by decide, tyX7_ok, nmX7, q9 910 (by decide +kernel) (by decide +kernel), Or.inl rfl, rfl, (fun _ => rfl), by decide +kernel⟩
set_option maxRecDepth 100000 in
theorem kf_X7_27 : FLk RX7 27 10 6 1 (.array .int) := ⟨_, _, _, tyX7, "SwapyardModel", vcX7, inX7, by decide, tyX7_ok, nmX7, q9 911 (by decide +kernel) (by decide +kernel), Or.inl rfl, rfl, (fun _ => rfl), by decide +kernel⟩
set_option maxRecDepth 100000 in
theorem kf_X7_30 : FLk RX7 30 10 7 1 (.array .int) := ⟨_, _, _, tyX7, "SwapyardModel", vcX7, inX7, by decide, tyX7_ok, nmX7, q9 912 (by decide +kernel) (by decide +kernel), Or.inl rfl, rfl, (fun _ => rfl), by decide +kernel⟩
set_option maxRecDepth 100000 in
theorem kf_X7_33 : FLk RX7 33 10 8 1 (.array .long) := ⟨_, _, _, tyX7, "SwapyardModel", vcX7, inX7, by decide, tyX7_ok, nmX7, q9 913 (by decide +kernel) (by decide +kernel), Or.inl rfl, rfl, (fun _ => rfl), by decide +kernel⟩
set_option maxRecDepth 100000 in
theorem kf_X7_37 : FLk RX7 37 10 9 1 (.array .int) := ⟨_, _, _, tyX7, "SwapyardModel", vcX7, inX7, by decide, tyX7_ok, nmX7, q9 914 (by decide +kernel) (by decide +kernel), Or.inl rfl, rfl, (fun _ => rfl), by decide +kernel⟩
set_option maxRecDepth 100000 in
theorem kf_X7_40 : FLk RX7 40 10 10 1 (.array .int) := ⟨_, _, _, tyX7, "SwapyardModel", vcX7, inX7, by decide, tyX7_ok, nmX7, q9 915 (by decide +kernel) (by decide +kernel), Or.inl rfl, rfl, (fun _ => rfl), by decide +kernel⟩
set_option maxRecDepth 100000 in
theorem kf_X7_43 : FLk RX7 43 10 11 0 .int := ⟨_, _, _, tyX7, "SwapyardModel", vcX7, inX7, by decide, tyX7_ok, nmX7, q9 916 (by decide +kernel) (by decide +kernel), Or.inl rfl, rfl, (fun h => by cases h), by decide +kernel⟩
set_option maxRecDepth 100000 in
theorem kf_X7_47 : FLk RX7 47 10 12 1 (.array .int) := ⟨_, _, _, tyX7, "SwapyardModel", vcX7, inX7, by decide, tyX7_ok, nmX7, q9 917 (by decide +kernel) (by decide +kernel), Or.inl rfl, rfl, (fun _ => rfl), by decide +kernel⟩
set_option maxRecDepth 100000 in
theorem kf_X7_50 : FLk RX7 50 10 13 1 (.array .boolean) := ⟨_, _, _, tyX7, "SwapyardModel", vcX7, inX7, by decide, tyX7_ok, nmX7, q9 918 (by decide +kernel) (by decide +kernel), Or.inl rfl, rfl, (fun _ => rfl), by decide +kernel⟩
set_option maxRecDepth 100000 in
theorem kf_X7_114 : FLk RX7 114 10 14 0 .int := ⟨_, _, _, tyX7, "SwapyardModel", vcX7, inX7, by decide, tyX7_ok, nmX7, q9 919 (by decide +kernel) (by decide +kernel), Or.inl rfl, rfl, (fun h => by cases h), by decide +kernel⟩
set_option maxRecDepth 100000 in
theorem kf_X7_53 : FLk RX7 53 10 15 0 .int := ⟨_, _, _, tyX7, "SwapyardModel", vcX7, inX7, by decide, tyX7_ok, nmX7, q9 920 (by decide +kernel) (by decide +kernel), Or.inl rfl, rfl, (fun h => by cases h), by decide +kernel⟩
set_option maxRecDepth 100000 in
theorem kf_X7_94 : FLk RX7 94 10 16 0 .int := ⟨_, _, _, tyX7, "SwapyardModel", vcX7, inX7, by decide, tyX7_ok, nmX7, q9 921 (by decide +kernel) (by decide +kernel), Or.inl rfl, rfl, (fun h => by cases h), by decide +kernel⟩
set_option maxRecDepth 100000 in
theorem kf_X7_56 : FLk RX7 56 10 17 1 (.array .int) := ⟨_, _, _, tyX7, "SwapyardModel", vcX7, inX7, by decide, tyX7_ok, nmX7, q9 922 (by decide +kernel) (by decide +kernel), Or.inl rfl, rfl, (fun _ => rfl), by decide +kernel⟩
set_option maxRecDepth 100000 in
theorem kf_X7_59 : FLk RX7 59 10 18 0 .int := ⟨_, _, _, tyX7, "SwapyardModel", vcX7, inX7, by decide, tyX7_ok, nmX7, q9 923 (by decide +kernel) (by decide +kernel), Or.inl rfl, rfl, (fun h => by cases h), by decide +kernel⟩
set_option maxRecDepth 100000 in
theorem kf_X7_133 : FLk RX7 133 10 19 0 .int := ⟨_, _, _, tyX7, "SwapyardModel", vcX7, inX7, by decide, tyX7_ok, nmX7, q9 924 (by decide +kernel) (by decide +kernel), Or.inl rfl, rfl, (fun h => by cases h), by decide +kernel⟩
set_option maxRecDepth 100000 in
theorem kf_X7_62 : FLk RX7 62 10 20 1 (.array .int) := ⟨_, _, _, tyX7, "SwapyardModel", vcX7, inX7, by decide, tyX7_ok, nmX7, q9 925 (by decide +kernel) (by decide +kernel), Or.inl rfl, rfl, (fun _ => rfl), by decide +kernel⟩
set_option maxRecDepth 100000 in
theorem kf_X7_105 : FLk RX7 105 10 21 0 .int := ⟨_, _, _, tyX7, "SwapyardModel", vcX7, inX7, by decide, tyX7_ok, nmX7, q9 926 (by decide +kernel) (by decide +kernel), Or.inl rfl, rfl, (fun h => by cases h), by decide +kernel⟩
set_option maxRecDepth 100000 in
theorem kf_X7_140 : FLk RX7 140 10 22 0 .int := ⟨_, _, _, tyX7, "SwapyardModel", vcX7, inX7, by decide, tyX7_ok, nmX7, q9 927 (by decide +kernel) (by decide +kernel), Or.inl rfl, rfl, (fun h => by cases h), by decide +kernel⟩
set_option maxRecDepth 100000 in
theorem kf_X7_143 : FLk RX7 143 10 23 0 .int := ⟨_, _, _, tyX7, "SwapyardModel", vcX7, inX7, by decide, tyX7_ok, nmX7, q9 928 (by decide +kernel) (by decide +kernel), Or.inl rfl, rfl, (fun h => by cases h), by decide +kernel⟩
set_option maxRecDepth 100000 in
theorem kf_X7_136 : FLk RX7 136 10 24 0 .long := ⟨_, _, _, tyX7, "SwapyardModel", vcX7, inX7, by decide, tyX7_ok, nmX7, q9 929 (by decide +kernel) (by decide +kernel), Or.inl rfl, rfl, (fun h => by cases h), by decide +kernel⟩
set_option maxRecDepth 100000 in
theorem kf_X7_153 : FLk RX7 153 10 25 0 .int := ⟨_, _, _, tyX7, "SwapyardModel", vcX7, inX7, by decide, tyX7_ok, nmX7, q9 930 (by decide +kernel) (by decide +kernel), Or.inl rfl, rfl, (fun h => by cases h), by decide +kernel⟩
set_option maxRecDepth 100000 in
theorem kf_X7_65 : FLk RX7 65 10 26 0 .int := ⟨_, _, _, tyX7, "SwapyardModel", vcX7, inX7, by decide, tyX7_ok, nmX7, q9 931 (by decide +kernel) (by decide +kernel), Or.inl rfl, rfl, (fun h => by cases h), by decide +kernel⟩
set_option maxRecDepth 100000 in
theorem km_L_106 : MLk RL 106 yX6_init 0 := ⟨q9 32 (by decide +kernel) (by decide +kernel), q9 1 (by decide +kernel) (by decide +kernel), by decide +kernel⟩
set_option maxRecDepth 100000 in
theorem km_X5_11 : MLk RX5 11 yJx4a65c_init_da8c8 0 := ⟨q9 84 (by decide +kernel) (by decide +kernel), q9 7 (by decide +kernel) (by decide +kernel), by decide +kernel⟩
set_option maxRecDepth 100000 in
theorem km_Jx4a65c_1 : MLk RJx4a65c 1 yJxc12de_init_da8c8 0 := ⟨q9 87 (by decide +kernel) (by decide +kernel), q9 6 (by decide +kernel) (by decide +kernel), by decide +kernel⟩
set_option maxRecDepth 100000 in
theorem km_Jxc12de_1 : MLk RJxc12de 1 yJxa1e45_init_da8c8 0 := ⟨q9 90 (by decide +kernel) (by decide +kernel), q9 5 (by decide +kernel) (by decide +kernel), by decide +kernel⟩
set_option maxRecDepth 100000 in
theorem km_X6_39 : MLk RX6 39 yJx4a65c_init_da8c8 0 := ⟨q9 128 (by decide +kernel) (by decide +kernel), q9 7 (by decide +kernel) (by decide +kernel), by decide +kernel⟩
set_option maxRecDepth 100000 in
theorem km_L_143 : MLk RL 143 yX6_time 0 := ⟨q9 163 (by decide +kernel) (by decide +kernel), q9 1 (by decide +kernel) (by decide +kernel), by decide +kernel⟩
set_option maxRecDepth 100000 in
theorem km_L_159 : MLk RL 159 yX6_hand 0 := ⟨q9 167 (by decide +kernel) (by decide +kernel), q9 1 (by decide +kernel) (by decide +kernel), by decide +kernel⟩
set_option maxRecDepth 100000 in
theorem km_L_163 : MLk RL 163 yX6_free 0 := ⟨q9 171 (by decide +kernel) (by decide +kernel), q9 1 (by decide +kernel) (by decide +kernel), by decide +kernel⟩
set_option maxRecDepth 100000 in
theorem km_X6_189 : MLk RX6 189 yX0_countFree 0 := ⟨q9 175 (by decide +kernel) (by decide +kernel), q9 3 (by decide +kernel) (by decide +kernel), by decide +kernel⟩
set_option maxRecDepth 100000 in
theorem km_L_167 : MLk RL 167 yX6_stored 0 := ⟨q9 179 (by decide +kernel) (by decide +kernel), q9 1 (by decide +kernel) (by decide +kernel), by decide +kernel⟩
set_option maxRecDepth 100000 in
theorem km_X6_192 : MLk RX6 192 yX5_takenRoom 0 := ⟨q9 183 (by decide +kernel) (by decide +kernel), q9 4 (by decide +kernel) (by decide +kernel), by decide +kernel⟩
set_option maxRecDepth 100000 in
theorem km_X5_22 : MLk RX5 22 yJx4a65c_size_8abf5 0 := ⟨q9 187 (by decide +kernel) (by decide +kernel), q9 7 (by decide +kernel) (by decide +kernel), by decide +kernel⟩
set_option maxRecDepth 100000 in
theorem km_X5_26 : MLk RX5 26 yJx4a65c_get_915e3 1 := ⟨q9 191 (by decide +kernel) (by decide +kernel), q9 7 (by decide +kernel) (by decide +kernel), by decide +kernel⟩
set_option maxRecDepth 100000 in
theorem km_Jx4a65c_118 : MLk RJx4a65c 118 yJ15_checkIndex_7cf53 2 := ⟨q9 195 (by decide +kernel) (by decide +kernel), q9 24 (by decide +kernel) (by decide +kernel), by decide +kernel⟩
set_option maxRecDepth 100000 in
theorem km_J15_105 : MLk RJ15 105 yJ3_checkIndex_8e157 3 := ⟨q9 198 (by decide +kernel) (by decide +kernel), q9 25 (by decide +kernel) (by decide +kernel), by decide +kernel⟩
set_option maxRecDepth 100000 in
theorem km_Jx4a65c_123 : MLk RJx4a65c 123 yJx4a65c_elementData_915e3 1 := ⟨q9 201 (by decide +kernel) (by decide +kernel), q9 7 (by decide +kernel) (by decide +kernel), by decide +kernel⟩
set_option maxRecDepth 100000 in
theorem km_L_174 : MLk RL 174 yX6_onDisk 0 := ⟨q9 206 (by decide +kernel) (by decide +kernel), q9 1 (by decide +kernel) (by decide +kernel), by decide +kernel⟩
set_option maxRecDepth 100000 in
theorem km_X6_59 : MLk RX6 59 yJx4a65c_size_8abf5 0 := ⟨q9 210 (by decide +kernel) (by decide +kernel), q9 7 (by decide +kernel) (by decide +kernel), by decide +kernel⟩
set_option maxRecDepth 100000 in
theorem km_X6_200 : MLk RX6 200 yJx4a65c_get_915e3 1 := ⟨q9 211 (by decide +kernel) (by decide +kernel), q9 7 (by decide +kernel) (by decide +kernel), by decide +kernel⟩
set_option maxRecDepth 100000 in
theorem km_X6_204 : MLk RX6 204 yX4_countPages 1 := ⟨q9 213 (by decide +kernel) (by decide +kernel), q9 15 (by decide +kernel) (by decide +kernel), by decide +kernel⟩
set_option maxRecDepth 100000 in
theorem km_L_182 : MLk RL 182 yX6_pressure 0 := ⟨q9 217 (by decide +kernel) (by decide +kernel), q9 1 (by decide +kernel) (by decide +kernel), by decide +kernel⟩
set_option maxRecDepth 100000 in
theorem km_X6_210 : MLk RX6 210 yX3_sum 0 := ⟨q9 221 (by decide +kernel) (by decide +kernel), q9 8 (by decide +kernel) (by decide +kernel), by decide +kernel⟩
set_option maxRecDepth 100000 in
theorem km_L_211 : MLk RL 211 yX6_deaths 0 := ⟨q9 225 (by decide +kernel) (by decide +kernel), q9 1 (by decide +kernel) (by decide +kernel), by decide +kernel⟩
set_option maxRecDepth 100000 in
theorem km_L_222 : MLk RL 222 yX6_isSound 0 := ⟨q9 229 (by decide +kernel) (by decide +kernel), q9 1 (by decide +kernel) (by decide +kernel), by decide +kernel⟩
set_option maxRecDepth 100000 in
theorem km_X6_265 : MLk RX6 265 yX6_placesAgree 0 := ⟨q9 233 (by decide +kernel) (by decide +kernel), q9 1 (by decide +kernel) (by decide +kernel), by decide +kernel⟩
set_option maxRecDepth 100000 in
theorem km_X6_168 : MLk RX6 168 yX1_replay 0 := ⟨q9 237 (by decide +kernel) (by decide +kernel), q9 2 (by decide +kernel) (by decide +kernel), by decide +kernel⟩
set_option maxRecDepth 100000 in
theorem km_X6_174 : MLk RX6 174 yX1_replayedPlace 1 := ⟨q9 241 (by decide +kernel) (by decide +kernel), q9 2 (by decide +kernel) (by decide +kernel), by decide +kernel⟩
set_option maxRecDepth 100000 in
theorem km_X6_269 : MLk RX6 269 yX6_framesAreSingle 0 := ⟨q9 245 (by decide +kernel) (by decide +kernel), q9 1 (by decide +kernel) (by decide +kernel), by decide +kernel⟩
set_option maxRecDepth 100000 in
theorem km_X6_91 : MLk RX6 91 yX6_hasBit 2 := ⟨q9 249 (by decide +kernel) (by decide +kernel), q9 1 (by decide +kernel) (by decide +kernel), by decide +kernel⟩
set_option maxRecDepth 100000 in
theorem km_L_110 : MLk RL 110 yL_addService 5 := ⟨q9 252 (by decide +kernel) (by decide +kernel), q9 0 (by decide +kernel) (by decide +kernel), by decide +kernel⟩
set_option maxRecDepth 100000 in
theorem km_L_7 : MLk RL 7 yX6_addService 3 := ⟨q9 257 (by decide +kernel) (by decide +kernel), q9 1 (by decide +kernel) (by decide +kernel), by decide +kernel⟩
set_option maxRecDepth 100000 in
theorem km_X6_48 : MLk RX6 48 yX6_requireRange 3 := ⟨q9 261 (by decide +kernel) (by decide +kernel), q9 1 (by decide +kernel) (by decide +kernel), by decide +kernel⟩
set_option maxRecDepth 100000 in
theorem km_X6_70 : MLk RX6 70 yX4_init 5 := ⟨q9 354 (by decide +kernel) (by decide +kernel), q9 15 (by decide +kernel) (by decide +kernel), by decide +kernel⟩
set_option maxRecDepth 100000 in
theorem km_X4_31 : MLk RX4 31 yX2_init 2 := ⟨q9 360 (by decide +kernel) (by decide +kernel), q9 16 (by decide +kernel) (by decide +kernel), by decide +kernel⟩
set_option maxRecDepth 100000 in
theorem km_X6_73 : MLk RX6 73 yJx4a65c_add_9ea2d 1 := ⟨q9 427 (by decide +kernel) (by decide +kernel), q9 7 (by decide +kernel) (by decide +kernel), by decide +kernel⟩
set_option maxRecDepth 100000 in
theorem km_Jx4a65c_131 : MLk RJx4a65c 131 yJx4a65c_add_72be8 3 := ⟨q9 431 (by decide +kernel) (by decide +kernel), q9 7 (by decide +kernel) (by decide +kernel), by decide +kernel⟩
set_option maxRecDepth 100000 in
theorem km_Jx4a65c_129 : MLk RJx4a65c 129 yJx4a65c_grow_d5877 0 := ⟨q9 435 (by decide +kernel) (by decide +kernel), q9 7 (by decide +kernel) (by decide +kernel), by decide +kernel⟩
set_option maxRecDepth 100000 in
theorem km_Jx4a65c_69 : MLk RJx4a65c 69 yJx4a65c_grow_92f84 1 := ⟨q9 439 (by decide +kernel) (by decide +kernel), q9 7 (by decide +kernel) (by decide +kernel), by decide +kernel⟩
set_option maxRecDepth 100000 in
theorem km_Jx4a65c_73 : MLk RJx4a65c 73 yJ8_newLength_cabcc 3 := ⟨q9 443 (by decide +kernel) (by decide +kernel), q9 17 (by decide +kernel) (by decide +kernel), by decide +kernel⟩
set_option maxRecDepth 100000 in
theorem km_J8_194 : MLk RJ8 194 yJ9_max_7cf53 2 := ⟨q9 446 (by decide +kernel) (by decide +kernel), q9 18 (by decide +kernel) (by decide +kernel), by decide +kernel⟩
set_option maxRecDepth 100000 in
theorem km_J8_201 : MLk RJ8 201 yJ8_hugeLength_7cf53 2 := ⟨q9 450 (by decide +kernel) (by decide +kernel), q9 17 (by decide +kernel) (by decide +kernel), by decide +kernel⟩
set_option maxRecDepth 100000 in
theorem km_Jx4a65c_66 : MLk RJx4a65c 66 yJ7_copyOf_1904c 2 := ⟨q9 453 (by decide +kernel) (by decide +kernel), q9 19 (by decide +kernel) (by decide +kernel), by decide +kernel⟩
set_option maxRecDepth 100000 in
theorem km_J7_300 : MLk RJ7 300 yJ7_copyOf_6403c 3 := ⟨q9 476 (by decide +kernel) (by decide +kernel), q9 19 (by decide +kernel) (by decide +kernel), by decide +kernel⟩
set_option maxRecDepth 100000 in
theorem km_J7_304 : MLk RJ7 304 yJ9_min_7cf53 2 := ⟨q9 482 (by decide +kernel) (by decide +kernel), q9 18 (by decide +kernel) (by decide +kernel), by decide +kernel⟩
set_option maxRecDepth 100000 in
theorem km_Jx4a65c_79 : MLk RJx4a65c 79 yJ9_max_7cf53 2 := ⟨q9 488 (by decide +kernel) (by decide +kernel), q9 18 (by decide +kernel) (by decide +kernel), by decide +kernel⟩
set_option maxRecDepth 100000 in
theorem km_L_119 : MLk RL 119 yL_addNeed 4 := ⟨q9 490 (by decide +kernel) (by decide +kernel), q9 0 (by decide +kernel) (by decide +kernel), by decide +kernel⟩
set_option maxRecDepth 100000 in
theorem km_L_17 : MLk RL 17 yX6_addNeed 2 := ⟨q9 518 (by decide +kernel) (by decide +kernel), q9 1 (by decide +kernel) (by decide +kernel), by decide +kernel⟩
set_option maxRecDepth 100000 in
theorem km_X6_77 : MLk RX6 77 yX6_serviceAt 1 := ⟨q9 522 (by decide +kernel) (by decide +kernel), q9 1 (by decide +kernel) (by decide +kernel), by decide +kernel⟩
set_option maxRecDepth 100000 in
theorem km_X6_81 : MLk RX6 81 yX6_requireService 1 := ⟨q9 526 (by decide +kernel) (by decide +kernel), q9 1 (by decide +kernel) (by decide +kernel), by decide +kernel⟩
set_option maxRecDepth 100000 in
theorem km_X6_87 : MLk RX6 87 yX6_allNeedsOf 1 := ⟨q9 544 (by decide +kernel) (by decide +kernel), q9 1 (by decide +kernel) (by decide +kernel), by decide +kernel⟩
set_option maxRecDepth 100000 in
theorem km_X6_103 : MLk RX6 103 yJ6_bitCount_0f7a4 1 := ⟨q9 564 (by decide +kernel) (by decide +kernel), q9 27 (by decide +kernel) (by decide +kernel), by decide +kernel⟩
set_option maxRecDepth 100000 in
theorem km_L_123 : MLk RL 123 yL_setSize 5 := ⟨q9 570 (by decide +kernel) (by decide +kernel), q9 0 (by decide +kernel) (by decide +kernel), by decide +kernel⟩
set_option maxRecDepth 100000 in
theorem km_L_25 : MLk RL 25 yX6_setSize 3 := ⟨q9 573 (by decide +kernel) (by decide +kernel), q9 1 (by decide +kernel) (by decide +kernel), by decide +kernel⟩
set_option maxRecDepth 100000 in
theorem km_X6_108 : MLk RX6 108 yX6_pageAt 2 := ⟨q9 577 (by decide +kernel) (by decide +kernel), q9 1 (by decide +kernel) (by decide +kernel), by decide +kernel⟩
set_option maxRecDepth 100000 in
theorem km_L_127 : MLk RL 127 yL_setFrames 3 := ⟨q9 583 (by decide +kernel) (by decide +kernel), q9 0 (by decide +kernel) (by decide +kernel), by decide +kernel⟩
set_option maxRecDepth 100000 in
theorem km_L_29 : MLk RL 29 yX6_setFrames 1 := ⟨q9 586 (by decide +kernel) (by decide +kernel), q9 1 (by decide +kernel) (by decide +kernel), by decide +kernel⟩
set_option maxRecDepth 100000 in
theorem km_X6_125 : MLk RX6 125 yX0_takeOut 1 := ⟨q9 590 (by decide +kernel) (by decide +kernel), q9 3 (by decide +kernel) (by decide +kernel), by decide +kernel⟩
set_option maxRecDepth 100000 in
theorem km_X6_129 : MLk RX6 129 yX5_takeIn 1 := ⟨q9 594 (by decide +kernel) (by decide +kernel), q9 4 (by decide +kernel) (by decide +kernel), by decide +kernel⟩
set_option maxRecDepth 100000 in
theorem km_X5_34 : MLk RX5 34 yX2_moveTo 1 := ⟨q9 598 (by decide +kernel) (by decide +kernel), q9 16 (by decide +kernel) (by decide +kernel), by decide +kernel⟩
set_option maxRecDepth 100000 in
theorem km_X2_37 : MLk RX2 37 yX1_record 2 := ⟨q9 602 (by decide +kernel) (by decide +kernel), q9 2 (by decide +kernel) (by decide +kernel), by decide +kernel⟩
set_option maxRecDepth 100000 in
theorem km_X5_38 : MLk RX5 38 yX5_makeRoomFor 1 := ⟨q9 606 (by decide +kernel) (by decide +kernel), q9 4 (by decide +kernel) (by decide +kernel), by decide +kernel⟩
set_option maxRecDepth 100000 in
theorem km_X5_46 : MLk RX5 46 yX5_takenRoom 0 := ⟨q9 610 (by decide +kernel) (by decide +kernel), q9 4 (by decide +kernel) (by decide +kernel), by decide +kernel⟩
set_option maxRecDepth 100000 in
theorem km_X5_49 : MLk RX5 49 yJx4a65c_remove_915e3 1 := ⟨q9 611 (by decide +kernel) (by decide +kernel), q9 7 (by decide +kernel) (by decide +kernel), by decide +kernel⟩
set_option maxRecDepth 100000 in
theorem km_Jx4a65c_144 : MLk RJx4a65c 144 yJx4a65c_fastRemove_b59b0 2 := ⟨q9 615 (by decide +kernel) (by decide +kernel), q9 7 (by decide +kernel) (by decide +kernel), by decide +kernel⟩
set_option maxRecDepth 100000 in
theorem km_X5_42 : MLk RX5 42 yJx4a65c_add_9ea2d 1 := ⟨q9 620 (by decide +kernel) (by decide +kernel), q9 7 (by decide +kernel) (by decide +kernel), by decide +kernel⟩
set_option maxRecDepth 100000 in
theorem km_X6_133 : MLk RX6 133 yX0_resize 1 := ⟨q9 621 (by decide +kernel) (by decide +kernel), q9 3 (by decide +kernel) (by decide +kernel), by decide +kernel⟩
set_option maxRecDepth 100000 in
theorem km_L_131 : MLk RL 131 yL_setRoom 3 := ⟨q9 625 (by decide +kernel) (by decide +kernel), q9 0 (by decide +kernel) (by decide +kernel), by decide +kernel⟩
set_option maxRecDepth 100000 in
theorem km_L_33 : MLk RL 33 yX6_setRoom 1 := ⟨q9 628 (by decide +kernel) (by decide +kernel), q9 1 (by decide +kernel) (by decide +kernel), by decide +kernel⟩
set_option maxRecDepth 100000 in
theorem km_X6_139 : MLk RX6 139 yX5_makeRoomFor 1 := ⟨q9 632 (by decide +kernel) (by decide +kernel), q9 4 (by decide +kernel) (by decide +kernel), by decide +kernel⟩
set_option maxRecDepth 100000 in
theorem km_L_134 : MLk RL 134 yL_setLimit 3 := ⟨q9 633 (by decide +kernel) (by decide +kernel), q9 0 (by decide +kernel) (by decide +kernel), by decide +kernel⟩
set_option maxRecDepth 100000 in
theorem km_L_36 : MLk RL 36 yX6_setLimit 1 := ⟨q9 636 (by decide +kernel) (by decide +kernel), q9 1 (by decide +kernel) (by decide +kernel), by decide +kernel⟩
set_option maxRecDepth 100000 in
theorem km_L_137 : MLk RL 137 yL_touch 4 := ⟨q9 640 (by decide +kernel) (by decide +kernel), q9 0 (by decide +kernel) (by decide +kernel), by decide +kernel⟩
set_option maxRecDepth 100000 in
theorem km_L_39 : MLk RL 39 yX6_touch 2 := ⟨q9 643 (by decide +kernel) (by decide +kernel), q9 1 (by decide +kernel) (by decide +kernel), by decide +kernel⟩
set_option maxRecDepth 100000 in
theorem km_X6_142 : MLk RX6 142 yX6_isRunning 1 := ⟨q9 647 (by decide +kernel) (by decide +kernel), q9 1 (by decide +kernel) (by decide +kernel), by decide +kernel⟩
set_option maxRecDepth 100000 in
theorem km_X6_152 : MLk RX6 152 yX6_bringIntoFrame 1 := ⟨q9 652 (by decide +kernel) (by decide +kernel), q9 1 (by decide +kernel) (by decide +kernel), by decide +kernel⟩
set_option maxRecDepth 100000 in
theorem km_X6_285 : MLk RX6 285 yX6_stallsFrom 1 := ⟨q9 656 (by decide +kernel) (by decide +kernel), q9 1 (by decide +kernel) (by decide +kernel), by decide +kernel⟩
set_option maxRecDepth 100000 in
theorem km_X6_288 : MLk RX6 288 yX6_detach 1 := ⟨q9 659 (by decide +kernel) (by decide +kernel), q9 1 (by decide +kernel) (by decide +kernel), by decide +kernel⟩
set_option maxRecDepth 100000 in
theorem km_X6_302 : MLk RX6 302 yX5_drop 1 := ⟨q9 663 (by decide +kernel) (by decide +kernel), q9 4 (by decide +kernel) (by decide +kernel), by decide +kernel⟩
set_option maxRecDepth 100000 in
theorem km_X6_292 : MLk RX6 292 yX0_lowestFree 0 := ⟨q9 667 (by decide +kernel) (by decide +kernel), q9 3 (by decide +kernel) (by decide +kernel), by decide +kernel⟩
set_option maxRecDepth 100000 in
theorem km_X6_295 : MLk RX6 295 yX6_clearFrame 0 := ⟨q9 671 (by decide +kernel) (by decide +kernel), q9 1 (by decide +kernel) (by decide +kernel), by decide +kernel⟩
set_option maxRecDepth 100000 in
theorem km_X6_305 : MLk RX6 305 yX0_takeOutByClock 0 := ⟨q9 675 (by decide +kernel) (by decide +kernel), q9 3 (by decide +kernel) (by decide +kernel), by decide +kernel⟩
set_option maxRecDepth 100000 in
theorem km_X0_28 : MLk RX0 28 yX0_takeReference 1 := ⟨q9 679 (by decide +kernel) (by decide +kernel), q9 3 (by decide +kernel) (by decide +kernel), by decide +kernel⟩
set_option maxRecDepth 100000 in
theorem km_X0_32 : MLk RX0 32 yX0_takeOut 1 := ⟨q9 683 (by decide +kernel) (by decide +kernel), q9 3 (by decide +kernel) (by decide +kernel), by decide +kernel⟩
set_option maxRecDepth 100000 in
theorem km_X6_298 : MLk RX6 298 yX0_put 2 := ⟨q9 684 (by decide +kernel) (by decide +kernel), q9 3 (by decide +kernel) (by decide +kernel), by decide +kernel⟩
set_option maxRecDepth 100000 in
theorem km_X0_21 : MLk RX0 21 yX2_moveIntoFrame 1 := ⟨q9 688 (by decide +kernel) (by decide +kernel), q9 16 (by decide +kernel) (by decide +kernel), by decide +kernel⟩
set_option maxRecDepth 100000 in
theorem km_X2_29 : MLk RX2 29 yX2_moveTo 1 := ⟨q9 692 (by decide +kernel) (by decide +kernel), q9 16 (by decide +kernel) (by decide +kernel), by decide +kernel⟩
set_option maxRecDepth 100000 in
theorem km_X6_155 : MLk RX6 155 yX6_countTouch 2 := ⟨q9 693 (by decide +kernel) (by decide +kernel), q9 1 (by decide +kernel) (by decide +kernel), by decide +kernel⟩
set_option maxRecDepth 100000 in
theorem km_X6_309 : MLk RX6 309 yX3_add 1 := ⟨q9 697 (by decide +kernel) (by decide +kernel), q9 8 (by decide +kernel) (by decide +kernel), by decide +kernel⟩
set_option maxRecDepth 100000 in
theorem km_L_140 : MLk RL 140 yL_tick 3 := ⟨q9 701 (by decide +kernel) (by decide +kernel), q9 0 (by decide +kernel) (by decide +kernel), by decide +kernel⟩
set_option maxRecDepth 100000 in
theorem km_L_42 : MLk RL 42 yX6_tick 1 := ⟨q9 704 (by decide +kernel) (by decide +kernel), q9 1 (by decide +kernel) (by decide +kernel), by decide +kernel⟩
set_option maxRecDepth 100000 in
theorem km_X6_162 : MLk RX6 162 yX6_passOneTick 0 := ⟨q9 708 (by decide +kernel) (by decide +kernel), q9 1 (by decide +kernel) (by decide +kernel), by decide +kernel⟩
set_option maxRecDepth 100000 in
theorem km_X6_311 : MLk RX6 311 yX6_killNextVictim 0 := ⟨q9 712 (by decide +kernel) (by decide +kernel), q9 1 (by decide +kernel) (by decide +kernel), by decide +kernel⟩
set_option maxRecDepth 100000 in
theorem km_X6_242 : MLk RX6 242 yX6_nextVictim 0 := ⟨q9 716 (by decide +kernel) (by decide +kernel), q9 1 (by decide +kernel) (by decide +kernel), by decide +kernel⟩
set_option maxRecDepth 100000 in
theorem km_X6_239 : MLk RX6 239 yX4_killScore 0 := ⟨q9 720 (by decide +kernel) (by decide +kernel), q9 15 (by decide +kernel) (by decide +kernel), by decide +kernel⟩
set_option maxRecDepth 100000 in
theorem km_X4_37 : MLk RX4 37 yX4_countPages 1 := ⟨q9 724 (by decide +kernel) (by decide +kernel), q9 15 (by decide +kernel) (by decide +kernel), by decide +kernel⟩
set_option maxRecDepth 100000 in
theorem km_X6_323 : MLk RX6 323 yX2_moveTo 1 := ⟨q9 725 (by decide +kernel) (by decide +kernel), q9 16 (by decide +kernel) (by decide +kernel), by decide +kernel⟩
set_option maxRecDepth 100000 in
theorem km_X6_314 : MLk RX6 314 yX3_forget 0 := ⟨q9 726 (by decide +kernel) (by decide +kernel), q9 8 (by decide +kernel) (by decide +kernel), by decide +kernel⟩
set_option maxRecDepth 100000 in
theorem km_X6_317 : MLk RX6 317 yX3_beginTick 0 := ⟨q9 730 (by decide +kernel) (by decide +kernel), q9 8 (by decide +kernel) (by decide +kernel), by decide +kernel⟩
set_option maxRecDepth 100000 in
theorem km_X6_320 : MLk RX6 320 yX6_startDeadServices 0 := ⟨q9 734 (by decide +kernel) (by decide +kernel), q9 1 (by decide +kernel) (by decide +kernel), by decide +kernel⟩
set_option maxRecDepth 100000 in
theorem km_X6_227 : MLk RX6 227 yX4_delayLeft 1 := ⟨q9 738 (by decide +kernel) (by decide +kernel), q9 15 (by decide +kernel) (by decide +kernel), by decide +kernel⟩
set_option maxRecDepth 100000 in
theorem km_X6_222 : MLk RX6 222 yX6_isNeededByLiving 1 := ⟨q9 742 (by decide +kernel) (by decide +kernel), q9 1 (by decide +kernel) (by decide +kernel), by decide +kernel⟩
set_option maxRecDepth 100000 in
theorem km_L_147 : MLk RL 147 yL_placeOf 4 := ⟨q9 746 (by decide +kernel) (by decide +kernel), q9 0 (by decide +kernel) (by decide +kernel), by decide +kernel⟩
set_option maxRecDepth 100000 in
theorem km_L_45 : MLk RL 45 yX6_placeOf 2 := ⟨q9 749 (by decide +kernel) (by decide +kernel), q9 1 (by decide +kernel) (by decide +kernel), by decide +kernel⟩
set_option maxRecDepth 100000 in
theorem km_L_150 : MLk RL 150 yL_placeByEvents 4 := ⟨q9 753 (by decide +kernel) (by decide +kernel), q9 0 (by decide +kernel) (by decide +kernel), by decide +kernel⟩
set_option maxRecDepth 100000 in
theorem km_L_49 : MLk RL 49 yX6_placeByEvents 2 := ⟨q9 756 (by decide +kernel) (by decide +kernel), q9 1 (by decide +kernel) (by decide +kernel), by decide +kernel⟩
set_option maxRecDepth 100000 in
theorem km_L_153 : MLk RL 153 yL_frameOf 4 := ⟨q9 760 (by decide +kernel) (by decide +kernel), q9 0 (by decide +kernel) (by decide +kernel), by decide +kernel⟩
set_option maxRecDepth 100000 in
theorem km_L_52 : MLk RL 52 yX6_frameOf 2 := ⟨q9 764 (by decide +kernel) (by decide +kernel), q9 1 (by decide +kernel) (by decide +kernel), by decide +kernel⟩
set_option maxRecDepth 100000 in
theorem km_L_156 : MLk RL 156 yL_isReferenced 4 := ⟨q9 784 (by decide +kernel) (by decide +kernel), q9 0 (by decide +kernel) (by decide +kernel), by decide +kernel⟩
set_option maxRecDepth 100000 in
theorem km_L_57 : MLk RL 57 yX6_isReferenced 2 := ⟨q9 787 (by decide +kernel) (by decide +kernel), q9 1 (by decide +kernel) (by decide +kernel), by decide +kernel⟩
set_option maxRecDepth 100000 in
theorem km_L_171 : MLk RL 171 yL_storedAt 3 := ⟨q9 791 (by decide +kernel) (by decide +kernel), q9 0 (by decide +kernel) (by decide +kernel), by decide +kernel⟩
set_option maxRecDepth 100000 in
theorem km_L_61 : MLk RL 61 yX6_storedAt 1 := ⟨q9 794 (by decide +kernel) (by decide +kernel), q9 1 (by decide +kernel) (by decide +kernel), by decide +kernel⟩
set_option maxRecDepth 100000 in
theorem km_L_178 : MLk RL 178 yL_pagesIn 4 := ⟨q9 800 (by decide +kernel) (by decide +kernel), q9 0 (by decide +kernel) (by decide +kernel), by decide +kernel⟩
set_option maxRecDepth 100000 in
theorem km_L_64 : MLk RL 64 yX6_pagesIn 2 := ⟨q9 803 (by decide +kernel) (by decide +kernel), q9 1 (by decide +kernel) (by decide +kernel), by decide +kernel⟩
set_option maxRecDepth 100000 in
theorem km_L_186 : MLk RL 186 yL_stallsOf 3 := ⟨q9 808 (by decide +kernel) (by decide +kernel), q9 0 (by decide +kernel) (by decide +kernel), by decide +kernel⟩
set_option maxRecDepth 100000 in
theorem km_L_68 : MLk RL 68 yX6_stallsOf 1 := ⟨q9 811 (by decide +kernel) (by decide +kernel), q9 1 (by decide +kernel) (by decide +kernel), by decide +kernel⟩
set_option maxRecDepth 100000 in
theorem km_L_189 : MLk RL 189 yL_stateOf 3 := ⟨q9 815 (by decide +kernel) (by decide +kernel), q9 0 (by decide +kernel) (by decide +kernel), by decide +kernel⟩
set_option maxRecDepth 100000 in
theorem km_L_72 : MLk RL 72 yX6_stateOf 1 := ⟨q9 818 (by decide +kernel) (by decide +kernel), q9 1 (by decide +kernel) (by decide +kernel), by decide +kernel⟩
set_option maxRecDepth 100000 in
theorem km_L_192 : MLk RL 192 yL_waitsFor 3 := ⟨q9 822 (by decide +kernel) (by decide +kernel), q9 0 (by decide +kernel) (by decide +kernel), by decide +kernel⟩
set_option maxRecDepth 100000 in
theorem km_L_76 : MLk RL 76 yX6_waitsFor 1 := ⟨q9 825 (by decide +kernel) (by decide +kernel), q9 1 (by decide +kernel) (by decide +kernel), by decide +kernel⟩
set_option maxRecDepth 100000 in
theorem km_L_195 : MLk RL 195 yL_isNeeded 3 := ⟨q9 830 (by decide +kernel) (by decide +kernel), q9 0 (by decide +kernel) (by decide +kernel), by decide +kernel⟩
set_option maxRecDepth 100000 in
theorem km_L_79 : MLk RL 79 yX6_isNeeded 1 := ⟨q9 833 (by decide +kernel) (by decide +kernel), q9 1 (by decide +kernel) (by decide +kernel), by decide +kernel⟩
set_option maxRecDepth 100000 in
theorem km_L_198 : MLk RL 198 yL_startsIn 3 := ⟨q9 837 (by decide +kernel) (by decide +kernel), q9 0 (by decide +kernel) (by decide +kernel), by decide +kernel⟩
set_option maxRecDepth 100000 in
theorem km_L_83 : MLk RL 83 yX6_startsIn 1 := ⟨q9 840 (by decide +kernel) (by decide +kernel), q9 1 (by decide +kernel) (by decide +kernel), by decide +kernel⟩
set_option maxRecDepth 100000 in
theorem km_X6_230 : MLk RX6 230 yJ9_max_7cf53 2 := ⟨q9 845 (by decide +kernel) (by decide +kernel), q9 18 (by decide +kernel) (by decide +kernel), by decide +kernel⟩
set_option maxRecDepth 100000 in
theorem km_L_201 : MLk RL 201 yL_starts 3 := ⟨q9 846 (by decide +kernel) (by decide +kernel), q9 0 (by decide +kernel) (by decide +kernel), by decide +kernel⟩
set_option maxRecDepth 100000 in
theorem km_L_86 : MLk RL 86 yX6_starts 1 := ⟨q9 849 (by decide +kernel) (by decide +kernel), q9 1 (by decide +kernel) (by decide +kernel), by decide +kernel⟩
set_option maxRecDepth 100000 in
theorem km_L_204 : MLk RL 204 yL_score 3 := ⟨q9 853 (by decide +kernel) (by decide +kernel), q9 0 (by decide +kernel) (by decide +kernel), by decide +kernel⟩
set_option maxRecDepth 100000 in
theorem km_L_89 : MLk RL 89 yX6_score 1 := ⟨q9 856 (by decide +kernel) (by decide +kernel), q9 1 (by decide +kernel) (by decide +kernel), by decide +kernel⟩
set_option maxRecDepth 100000 in
theorem km_L_207 : MLk RL 207 yL_victim 2 := ⟨q9 860 (by decide +kernel) (by decide +kernel), q9 0 (by decide +kernel) (by decide +kernel), by decide +kernel⟩
set_option maxRecDepth 100000 in
theorem km_L_92 : MLk RL 92 yX6_victim 0 := ⟨q9 863 (by decide +kernel) (by decide +kernel), q9 1 (by decide +kernel) (by decide +kernel), by decide +kernel⟩
set_option maxRecDepth 100000 in
theorem km_L_215 : MLk RL 215 yL_smoothShare 2 := ⟨q9 868 (by decide +kernel) (by decide +kernel), q9 0 (by decide +kernel) (by decide +kernel), by decide +kernel⟩
set_option maxRecDepth 100000 in
theorem km_L_96 : MLk RL 96 yX6_smoothShare 0 := ⟨q9 885 (by decide +kernel) (by decide +kernel), q9 1 (by decide +kernel) (by decide +kernel), by decide +kernel⟩
set_option maxRecDepth 100000 in
theorem km_L_219 : MLk RL 219 yL_meanStalls 2 := ⟨q9 892 (by decide +kernel) (by decide +kernel), q9 0 (by decide +kernel) (by decide +kernel), by decide +kernel⟩
set_option maxRecDepth 100000 in
theorem km_L_102 : MLk RL 102 yX6_meanStalls 0 := ⟨q9 895 (by decide +kernel) (by decide +kernel), q9 1 (by decide +kernel) (by decide +kernel), by decide +kernel⟩
set_option maxRecDepth 100000 in
theorem km_L_109 : MLk RL 109 yX7_init 0 := ⟨q9 901 (by decide +kernel) (by decide +kernel), q9 9 (by decide +kernel) (by decide +kernel), by decide +kernel⟩
set_option maxRecDepth 100000 in
theorem km_L_116 : MLk RL 116 yX7_thrown 0 := ⟨q9 989 (by decide +kernel) (by decide +kernel), q9 9 (by decide +kernel) (by decide +kernel), by decide +kernel⟩
set_option maxRecDepth 100000 in
theorem km_L_115 : MLk RL 115 yX7_addService 3 := ⟨q9 993 (by decide +kernel) (by decide +kernel), q9 9 (by decide +kernel) (by decide +kernel), by decide +kernel⟩
set_option maxRecDepth 100000 in
theorem km_X7_71 : MLk RX7 71 yX7_in 3 := ⟨q9 997 (by decide +kernel) (by decide +kernel), q9 9 (by decide +kernel) (by decide +kernel), by decide +kernel⟩
set_option maxRecDepth 100000 in
theorem km_X7_79 : MLk RX7 79 yX7_fails 1 := ⟨q9 1000 (by decide +kernel) (by decide +kernel), q9 9 (by decide +kernel) (by decide +kernel), by decide +kernel⟩
set_option maxRecDepth 100000 in
theorem km_L_122 : MLk RL 122 yX7_addNeed 2 := ⟨q9 1004 (by decide +kernel) (by decide +kernel), q9 9 (by decide +kernel) (by decide +kernel), by decide +kernel⟩
set_option maxRecDepth 100000 in
theorem km_X7_75 : MLk RX7 75 yX7_isNone 1 := ⟨q9 1008 (by decide +kernel) (by decide +kernel), q9 9 (by decide +kernel) (by decide +kernel), by decide +kernel⟩
set_option maxRecDepth 100000 in
theorem km_X7_85 : MLk RX7 85 yX7_needsAtLast 2 := ⟨q9 1012 (by decide +kernel) (by decide +kernel), q9 9 (by decide +kernel) (by decide +kernel), by decide +kernel⟩
set_option maxRecDepth 100000 in
theorem km_X7_82 : MLk RX7 82 yX7_needs 2 := ⟨q9 1016 (by decide +kernel) (by decide +kernel), q9 9 (by decide +kernel) (by decide +kernel), by decide +kernel⟩
set_option maxRecDepth 100000 in
theorem km_L_126 : MLk RL 126 yX7_setSize 3 := ⟨q9 1020 (by decide +kernel) (by decide +kernel), q9 9 (by decide +kernel) (by decide +kernel), by decide +kernel⟩
set_option maxRecDepth 100000 in
theorem km_X7_91 : MLk RX7 91 yX7_isNoPage 2 := ⟨q9 1024 (by decide +kernel) (by decide +kernel), q9 9 (by decide +kernel) (by decide +kernel), by decide +kernel⟩
set_option maxRecDepth 100000 in
theorem km_L_130 : MLk RL 130 yX7_setFrames 1 := ⟨q9 1028 (by decide +kernel) (by decide +kernel), q9 9 (by decide +kernel) (by decide +kernel), by decide +kernel⟩
set_option maxRecDepth 100000 in
theorem km_X7_111 : MLk RX7 111 yX7_takesOut 1 := ⟨q9 1032 (by decide +kernel) (by decide +kernel), q9 9 (by decide +kernel) (by decide +kernel), by decide +kernel⟩
set_option maxRecDepth 100000 in
theorem km_X7_108 : MLk RX7 108 yX7_makesRoom 1 := ⟨q9 1036 (by decide +kernel) (by decide +kernel), q9 9 (by decide +kernel) (by decide +kernel), by decide +kernel⟩
set_option maxRecDepth 100000 in
theorem km_X7_97 : MLk RX7 97 yX7_taken 0 := ⟨q9 1040 (by decide +kernel) (by decide +kernel), q9 9 (by decide +kernel) (by decide +kernel), by decide +kernel⟩
set_option maxRecDepth 100000 in
theorem km_X7_101 : MLk RX7 101 yX7_unstores 1 := ⟨q9 1044 (by decide +kernel) (by decide +kernel), q9 9 (by decide +kernel) (by decide +kernel), by decide +kernel⟩
set_option maxRecDepth 100000 in
theorem km_L_133 : MLk RL 133 yX7_setRoom 1 := ⟨q9 1048 (by decide +kernel) (by decide +kernel), q9 9 (by decide +kernel) (by decide +kernel), by decide +kernel⟩
set_option maxRecDepth 100000 in
theorem km_L_136 : MLk RL 136 yX7_setLimit 1 := ⟨q9 1052 (by decide +kernel) (by decide +kernel), q9 9 (by decide +kernel) (by decide +kernel), by decide +kernel⟩
set_option maxRecDepth 100000 in
theorem km_L_139 : MLk RL 139 yX7_touch 2 := ⟨q9 1056 (by decide +kernel) (by decide +kernel), q9 9 (by decide +kernel) (by decide +kernel), by decide +kernel⟩
set_option maxRecDepth 100000 in
theorem km_X7_88 : MLk RX7 88 yX7_runs 1 := ⟨q9 1060 (by decide +kernel) (by decide +kernel), q9 9 (by decide +kernel) (by decide +kernel), by decide +kernel⟩
set_option maxRecDepth 100000 in
theorem km_X7_126 : MLk RX7 126 yX7_frameWith 1 := ⟨q9 1064 (by decide +kernel) (by decide +kernel), q9 9 (by decide +kernel) (by decide +kernel), by decide +kernel⟩
set_option maxRecDepth 100000 in
theorem km_X7_130 : MLk RX7 130 yX7_comes 1 := ⟨q9 1068 (by decide +kernel) (by decide +kernel), q9 9 (by decide +kernel) (by decide +kernel), by decide +kernel⟩
set_option maxRecDepth 100000 in
theorem km_X7_117 : MLk RX7 117 yX7_leaves 1 := ⟨q9 1072 (by decide +kernel) (by decide +kernel), q9 9 (by decide +kernel) (by decide +kernel), by decide +kernel⟩
set_option maxRecDepth 100000 in
theorem km_X7_120 : MLk RX7 120 yX7_freeFrame 0 := ⟨q9 1076 (by decide +kernel) (by decide +kernel), q9 9 (by decide +kernel) (by decide +kernel), by decide +kernel⟩
set_option maxRecDepth 100000 in
theorem km_X7_123 : MLk RX7 123 yX7_clears 0 := ⟨q9 1080 (by decide +kernel) (by decide +kernel), q9 9 (by decide +kernel) (by decide +kernel), by decide +kernel⟩
set_option maxRecDepth 100000 in
theorem km_L_142 : MLk RL 142 yX7_tick 1 := ⟨q9 1084 (by decide +kernel) (by decide +kernel), q9 9 (by decide +kernel) (by decide +kernel), by decide +kernel⟩
set_option maxRecDepth 100000 in
theorem km_X7_168 : MLk RX7 168 yX7_ticks 0 := ⟨q9 1088 (by decide +kernel) (by decide +kernel), q9 9 (by decide +kernel) (by decide +kernel), by decide +kernel⟩
set_option maxRecDepth 100000 in
theorem km_X7_156 : MLk RX7 156 yX7_pressing 0 := ⟨q9 1092 (by decide +kernel) (by decide +kernel), q9 9 (by decide +kernel) (by decide +kernel), by decide +kernel⟩
set_option maxRecDepth 100000 in
theorem km_X7_159 : MLk RX7 159 yX7_worst 0 := ⟨q9 1096 (by decide +kernel) (by decide +kernel), q9 9 (by decide +kernel) (by decide +kernel), by decide +kernel⟩
set_option maxRecDepth 100000 in
theorem km_X7_150 : MLk RX7 150 yX7_scoreOf 1 := ⟨q9 1100 (by decide +kernel) (by decide +kernel), q9 9 (by decide +kernel) (by decide +kernel), by decide +kernel⟩
set_option maxRecDepth 100000 in
theorem km_X7_146 : MLk RX7 146 yX7_inPlace 2 := ⟨q9 1104 (by decide +kernel) (by decide +kernel), q9 9 (by decide +kernel) (by decide +kernel), by decide +kernel⟩
set_option maxRecDepth 100000 in
theorem km_X7_162 : MLk RX7 162 yX7_kills 1 := ⟨q9 1108 (by decide +kernel) (by decide +kernel), q9 9 (by decide +kernel) (by decide +kernel), by decide +kernel⟩
set_option maxRecDepth 100000 in
theorem km_X7_165 : MLk RX7 165 yX7_isWanted 1 := ⟨q9 1112 (by decide +kernel) (by decide +kernel), q9 9 (by decide +kernel) (by decide +kernel), by decide +kernel⟩
set_option maxRecDepth 100000 in
theorem km_L_146 : MLk RL 146 yX7_time 0 := ⟨q9 1116 (by decide +kernel) (by decide +kernel), q9 9 (by decide +kernel) (by decide +kernel), by decide +kernel⟩
set_option maxRecDepth 100000 in
theorem km_X7_171 : MLk RX7 171 yX7_tells 1 := ⟨q9 1120 (by decide +kernel) (by decide +kernel), q9 9 (by decide +kernel) (by decide +kernel), by decide +kernel⟩
set_option maxRecDepth 100000 in
theorem km_L_149 : MLk RL 149 yX7_placeOf 2 := ⟨q9 1124 (by decide +kernel) (by decide +kernel), q9 9 (by decide +kernel) (by decide +kernel), by decide +kernel⟩
set_option maxRecDepth 100000 in
theorem km_X7_174 : MLk RX7 174 yX7_placed 2 := ⟨q9 1128 (by decide +kernel) (by decide +kernel), q9 9 (by decide +kernel) (by decide +kernel), by decide +kernel⟩
set_option maxRecDepth 100000 in
theorem km_L_152 : MLk RL 152 yX7_placeByEvents 2 := ⟨q9 1132 (by decide +kernel) (by decide +kernel), q9 9 (by decide +kernel) (by decide +kernel), by decide +kernel⟩
set_option maxRecDepth 100000 in
theorem km_L_155 : MLk RL 155 yX7_frameOf 2 := ⟨q9 1136 (by decide +kernel) (by decide +kernel), q9 9 (by decide +kernel) (by decide +kernel), by decide +kernel⟩
set_option maxRecDepth 100000 in
theorem km_L_158 : MLk RL 158 yX7_isReferenced 2 := ⟨q9 1140 (by decide +kernel) (by decide +kernel), q9 9 (by decide +kernel) (by decide +kernel), by decide +kernel⟩
set_option maxRecDepth 100000 in
theorem km_L_162 : MLk RL 162 yX7_hand 0 := ⟨q9 1144 (by decide +kernel) (by decide +kernel), q9 9 (by decide +kernel) (by decide +kernel), by decide +kernel⟩
set_option maxRecDepth 100000 in
theorem km_L_166 : MLk RL 166 yX7_free 0 := ⟨q9 1148 (by decide +kernel) (by decide +kernel), q9 9 (by decide +kernel) (by decide +kernel), by decide +kernel⟩
set_option maxRecDepth 100000 in
theorem km_L_170 : MLk RL 170 yX7_stored 0 := ⟨q9 1152 (by decide +kernel) (by decide +kernel), q9 9 (by decide +kernel) (by decide +kernel), by decide +kernel⟩
set_option maxRecDepth 100000 in
theorem km_L_173 : MLk RL 173 yX7_storedAt 1 := ⟨q9 1156 (by decide +kernel) (by decide +kernel), q9 9 (by decide +kernel) (by decide +kernel), by decide +kernel⟩
set_option maxRecDepth 100000 in
theorem km_L_177 : MLk RL 177 yX7_onDisk 0 := ⟨q9 1160 (by decide +kernel) (by decide +kernel), q9 9 (by decide +kernel) (by decide +kernel), by decide +kernel⟩
set_option maxRecDepth 100000 in
theorem km_L_181 : MLk RL 181 yX7_pagesIn 2 := ⟨q9 1164 (by decide +kernel) (by decide +kernel), q9 9 (by decide +kernel) (by decide +kernel), by decide +kernel⟩
set_option maxRecDepth 100000 in
theorem km_L_185 : MLk RL 185 yX7_pressure 0 := ⟨q9 1168 (by decide +kernel) (by decide +kernel), q9 9 (by decide +kernel) (by decide +kernel), by decide +kernel⟩
set_option maxRecDepth 100000 in
theorem km_L_188 : MLk RL 188 yX7_stallsOf 1 := ⟨q9 1172 (by decide +kernel) (by decide +kernel), q9 9 (by decide +kernel) (by decide +kernel), by decide +kernel⟩
set_option maxRecDepth 100000 in
theorem km_X7_178 : MLk RX7 178 yX7_isNobody 1 := ⟨q9 1176 (by decide +kernel) (by decide +kernel), q9 9 (by decide +kernel) (by decide +kernel), by decide +kernel⟩
set_option maxRecDepth 100000 in
theorem km_L_191 : MLk RL 191 yX7_stateOf 1 := ⟨q9 1180 (by decide +kernel) (by decide +kernel), q9 9 (by decide +kernel) (by decide +kernel), by decide +kernel⟩
set_option maxRecDepth 100000 in
theorem km_L_194 : MLk RL 194 yX7_waitsFor 1 := ⟨q9 1184 (by decide +kernel) (by decide +kernel), q9 9 (by decide +kernel) (by decide +kernel), by decide +kernel⟩
set_option maxRecDepth 100000 in
theorem km_L_197 : MLk RL 197 yX7_isNeeded 1 := ⟨q9 1188 (by decide +kernel) (by decide +kernel), q9 9 (by decide +kernel) (by decide +kernel), by decide +kernel⟩
set_option maxRecDepth 100000 in
theorem km_L_200 : MLk RL 200 yX7_startsIn 1 := ⟨q9 1192 (by decide +kernel) (by decide +kernel), q9 9 (by decide +kernel) (by decide +kernel), by decide +kernel⟩
set_option maxRecDepth 100000 in
theorem km_L_203 : MLk RL 203 yX7_starts 1 := ⟨q9 1196 (by decide +kernel) (by decide +kernel), q9 9 (by decide +kernel) (by decide +kernel), by decide +kernel⟩
set_option maxRecDepth 100000 in
theorem km_L_206 : MLk RL 206 yX7_score 1 := ⟨q9 1200 (by decide +kernel) (by decide +kernel), q9 9 (by decide +kernel) (by decide +kernel), by decide +kernel⟩
set_option maxRecDepth 100000 in
theorem km_L_210 : MLk RL 210 yX7_victim 0 := ⟨q9 1204 (by decide +kernel) (by decide +kernel), q9 9 (by decide +kernel) (by decide +kernel), by decide +kernel⟩
set_option maxRecDepth 100000 in
theorem km_L_214 : MLk RL 214 yX7_deaths 0 := ⟨q9 1208 (by decide +kernel) (by decide +kernel), q9 9 (by decide +kernel) (by decide +kernel), by decide +kernel⟩
set_option maxRecDepth 100000 in
theorem km_L_218 : MLk RL 218 yX7_smoothShare 0 := ⟨q9 1212 (by decide +kernel) (by decide +kernel), q9 9 (by decide +kernel) (by decide +kernel), by decide +kernel⟩
set_option maxRecDepth 100000 in
theorem km_L_221 : MLk RL 221 yX7_meanStalls 0 := ⟨q9 1216 (by decide +kernel) (by decide +kernel), q9 9 (by decide +kernel) (by decide +kernel), by decide +kernel⟩
set_option maxRecDepth 100000 in
theorem km_L_226 : MLk RL 226 yX7_isSound 0 := ⟨q9 1220 (by decide +kernel) (by decide +kernel), q9 9 (by decide +kernel) (by decide +kernel), by decide +kernel⟩
set_option maxRecDepth 100000 in
theorem kc_X6_init : Cond.code yX6_init cX6_init 1 none ∈ lw_good := q9 34 (by decide +kernel) (by decide +kernel)
set_option maxRecDepth 100000 in
theorem ki_X6_init : Cond.instanceMethod yX6_init ∈ lw_good ∧ yX6_init.name = "<init>" := ⟨q9 33 (by decide +kernel) (by decide +kernel), rfl⟩
set_option maxRecDepth 100000 in
theorem kc_X1_init : Cond.code yX1_init cX1_init 1 none ∈ lw_good := q9 42 (by decide +kernel) (by decide +kernel)
set_option maxRecDepth 100000 in
theorem ki_X1_init : Cond.instanceMethod yX1_init ∈ lw_good ∧ yX1_init.name = "<init>" := ⟨q9 41 (by decide +kernel) (by decide +kernel), rfl⟩
set_option maxRecDepth 100000 in
theorem kc_X0_init : Cond.code yX0_init cX0_init 1 none ∈ lw_good := q9 60 (by decide +kernel) (by decide +kernel)
set_option maxRecDepth 100000 in
theorem ki_X0_init : Cond.instanceMethod yX0_init ∈ lw_good ∧ yX0_init.name = "<init>" := ⟨q9 59 (by decide +kernel) (by decide +kernel), rfl⟩
set_option maxRecDepth 100000 in
theorem kc_X5_init : Cond.code yX5_init cX5_init 1 none ∈ lw_good := q9 80 (by decide +kernel) (by decide +kernel)
set_option maxRecDepth 100000 in
theorem ki_X5_init : Cond.instanceMethod yX5_init ∈ lw_good ∧ yX5_init.name = "<init>" := ⟨q9 79 (by decide +kernel) (by decide +kernel), rfl⟩
set_option maxRecDepth 100000 in
theorem kc_Jx4a65c_init_da8c8 : Cond.code yJx4a65c_init_da8c8 cJx4a65c_init_da8c8 1 none ∈ lw_good := q9 86 (by decide +kernel) (by decide +kernel)
set_option maxRecDepth 100000 in
theorem ki_Jx4a65c_init_da8c8 : Cond.instanceMethod yJx4a65c_init_da8c8 ∈ lw_good ∧ yJx4a65c_init_da8c8.name = "<init>" := ⟨q9 85 (by decide +kernel) (by decide +kernel), rfl⟩
set_option maxRecDepth 100000 in
theorem kc_Jxc12de_init_da8c8 : Cond.code yJxc12de_init_da8c8 cJxc12de_init_da8c8 1 none ∈ lw_good := q9 89 (by decide +kernel) (by decide +kernel)
set_option maxRecDepth 100000 in
theorem ki_Jxc12de_init_da8c8 : Cond.instanceMethod yJxc12de_init_da8c8 ∈ lw_good ∧ yJxc12de_init_da8c8.name = "<init>" := ⟨q9 88 (by decide +kernel) (by decide +kernel), rfl⟩
set_option maxRecDepth 100000 in
theorem kc_Jxa1e45_init_da8c8 : Cond.code yJxa1e45_init_da8c8 cJxa1e45_init_da8c8 1 none ∈ lw_good := q9 92 (by decide +kernel) (by decide +kernel)
set_option maxRecDepth 100000 in
theorem ki_Jxa1e45_init_da8c8 : Cond.instanceMethod yJxa1e45_init_da8c8 ∈ lw_good ∧ yJxa1e45_init_da8c8.name = "<init>" := ⟨q9 91 (by decide +kernel) (by decide +kernel), rfl⟩
set_option maxRecDepth 100000 in
theorem kc_X3_init : Cond.code yX3_init cX3_init 1 none ∈ lw_good := q9 121 (by decide +kernel) (by decide +kernel)
set_option maxRecDepth 100000 in
theorem ki_X3_init : Cond.instanceMethod yX3_init ∈ lw_good ∧ yX3_init.name = "<init>" := ⟨q9 120 (by decide +kernel) (by decide +kernel), rfl⟩
set_option maxRecDepth 100000 in
theorem kc_X6_time : Cond.code yX6_time cX6_time 1 (some .int) ∈ lw_good := q9 166 (by decide +kernel) (by decide +kernel)
set_option maxRecDepth 100000 in
theorem kv_X6_time : MLv yX6_time := ⟨q9 164 (by decide +kernel) (by decide +kernel), q9 165 (by decide +kernel) (by decide +kernel)⟩
set_option maxRecDepth 100000 in
theorem kc_X6_hand : Cond.code yX6_hand cX6_hand 1 (some .int) ∈ lw_good := q9 170 (by decide +kernel) (by decide +kernel)
set_option maxRecDepth 100000 in
theorem kv_X6_hand : MLv yX6_hand := ⟨q9 168 (by decide +kernel) (by decide +kernel), q9 169 (by decide +kernel) (by decide +kernel)⟩
set_option maxRecDepth 100000 in
theorem kc_X6_free : Cond.code yX6_free cX6_free 1 (some .int) ∈ lw_good := q9 174 (by decide +kernel) (by decide +kernel)
set_option maxRecDepth 100000 in
theorem kv_X6_free : MLv yX6_free := ⟨q9 172 (by decide +kernel) (by decide +kernel), q9 173 (by decide +kernel) (by decide +kernel)⟩
set_option maxRecDepth 100000 in
theorem kc_X0_countFree : Cond.code yX0_countFree cX0_countFree 3 (some .int) ∈ lw_good := q9 178 (by decide +kernel) (by decide +kernel)
set_option maxRecDepth 100000 in
theorem kv_X0_countFree : MLv yX0_countFree := ⟨q9 176 (by decide +kernel) (by decide +kernel), q9 177 (by decide +kernel) (by decide +kernel)⟩
set_option maxRecDepth 100000 in
theorem kc_X6_stored : Cond.code yX6_stored cX6_stored 1 (some .int) ∈ lw_good := q9 182 (by decide +kernel) (by decide +kernel)
set_option maxRecDepth 100000 in
theorem kv_X6_stored : MLv yX6_stored := ⟨q9 180 (by decide +kernel) (by decide +kernel), q9 181 (by decide +kernel) (by decide +kernel)⟩
set_option maxRecDepth 100000 in
theorem kc_X5_takenRoom : Cond.code yX5_takenRoom cX5_takenRoom 3 (some .int) ∈ lw_good := q9 186 (by decide +kernel) (by decide +kernel)
set_option maxRecDepth 100000 in
theorem kv_X5_takenRoom : MLv yX5_takenRoom := ⟨q9 184 (by decide +kernel) (by decide +kernel), q9 185 (by decide +kernel) (by decide +kernel)⟩
set_option maxRecDepth 100000 in
theorem kc_Jx4a65c_size_8abf5 : Cond.code yJx4a65c_size_8abf5 cJx4a65c_size_8abf5 1 (some .int) ∈ lw_good := q9 190 (by decide +kernel) (by decide +kernel)
set_option maxRecDepth 100000 in
theorem kv_Jx4a65c_size_8abf5 : MLv yJx4a65c_size_8abf5 := ⟨q9 188 (by decide +kernel) (by decide +kernel), q9 189 (by decide +kernel) (by decide +kernel)⟩
set_option maxRecDepth 100000 in
theorem kc_Jx4a65c_get_915e3 : Cond.code yJx4a65c_get_915e3 cJx4a65c_get_915e3 2 (some (.object "java/lang/Object")) ∈ lw_good := q9 194 (by decide +kernel) (by decide +kernel)
set_option maxRecDepth 100000 in
theorem kv_Jx4a65c_get_915e3 : MLv yJx4a65c_get_915e3 := ⟨q9 192 (by decide +kernel) (by decide +kernel), q9 193 (by decide +kernel) (by decide +kernel)⟩
set_option maxRecDepth 100000 in
theorem kc_J15_checkIndex_7cf53 : Cond.code yJ15_checkIndex_7cf53 cJ15_checkIndex_7cf53 2 (some .int) ∈ lw_good := q9 197 (by decide +kernel) (by decide +kernel)
set_option maxRecDepth 100000 in
theorem ks_J15_checkIndex_7cf53 : Cond.static yJ15_checkIndex_7cf53 ∈ lw_good := q9 196 (by decide +kernel) (by decide +kernel)
set_option maxRecDepth 100000 in
theorem kc_J3_checkIndex_8e157 : Cond.code yJ3_checkIndex_8e157 cJ3_checkIndex_8e157 3 (some .int) ∈ lw_good := q9 200 (by decide +kernel) (by decide +kernel)
set_option maxRecDepth 100000 in
theorem ks_J3_checkIndex_8e157 : Cond.static yJ3_checkIndex_8e157 ∈ lw_good := q9 199 (by decide +kernel) (by decide +kernel)
set_option maxRecDepth 100000 in
theorem kc_Jx4a65c_elementData_915e3 : Cond.code yJx4a65c_elementData_915e3 cJx4a65c_elementData_915e3 2 (some (.object "java/lang/Object")) ∈ lw_good := q9 204 (by decide +kernel) (by decide +kernel)
set_option maxRecDepth 100000 in
theorem kv_Jx4a65c_elementData_915e3 : MLv yJx4a65c_elementData_915e3 := ⟨q9 202 (by decide +kernel) (by decide +kernel), q9 203 (by decide +kernel) (by decide +kernel)⟩
set_option maxRecDepth 100000 in
theorem kc_X6_onDisk : Cond.code yX6_onDisk cX6_onDisk 3 (some .int) ∈ lw_good := q9 209 (by decide +kernel) (by decide +kernel)
set_option maxRecDepth 100000 in
theorem kv_X6_onDisk : MLv yX6_onDisk := ⟨q9 207 (by decide +kernel) (by decide +kernel), q9 208 (by decide +kernel) (by decide +kernel)⟩
set_option maxRecDepth 100000 in
theorem kc_X4_countPages : Cond.code yX4_countPages cX4_countPages 7 (some .int) ∈ lw_good := q9 216 (by decide +kernel) (by decide +kernel)
set_option maxRecDepth 100000 in
theorem kv_X4_countPages : MLv yX4_countPages := ⟨q9 214 (by decide +kernel) (by decide +kernel), q9 215 (by decide +kernel) (by decide +kernel)⟩
set_option maxRecDepth 100000 in
theorem kc_X6_pressure : Cond.code yX6_pressure cX6_pressure 1 (some .int) ∈ lw_good := q9 220 (by decide +kernel) (by decide +kernel)
set_option maxRecDepth 100000 in
theorem kv_X6_pressure : MLv yX6_pressure := ⟨q9 218 (by decide +kernel) (by decide +kernel), q9 219 (by decide +kernel) (by decide +kernel)⟩
set_option maxRecDepth 100000 in
theorem kc_X3_sum : Cond.code yX3_sum cX3_sum 6 (some .int) ∈ lw_good := q9 224 (by decide +kernel) (by decide +kernel)
set_option maxRecDepth 100000 in
theorem kv_X3_sum : MLv yX3_sum := ⟨q9 222 (by decide +kernel) (by decide +kernel), q9 223 (by decide +kernel) (by decide +kernel)⟩
set_option maxRecDepth 100000 in
theorem kc_X6_deaths : Cond.code yX6_deaths cX6_deaths 1 (some .int) ∈ lw_good := q9 228 (by decide +kernel) (by decide +kernel)
set_option maxRecDepth 100000 in
theorem kv_X6_deaths : MLv yX6_deaths := ⟨q9 226 (by decide +kernel) (by decide +kernel), q9 227 (by decide +kernel) (by decide +kernel)⟩
set_option maxRecDepth 100000 in
theorem kc_X6_isSound : Cond.code yX6_isSound cX6_isSound 1 (some .boolean) ∈ lw_good := q9 232 (by decide +kernel) (by decide +kernel)
set_option maxRecDepth 100000 in
theorem kv_X6_isSound : MLv yX6_isSound := ⟨q9 230 (by decide +kernel) (by decide +kernel), q9 231 (by decide +kernel) (by decide +kernel)⟩
set_option maxRecDepth 100000 in
theorem kc_X6_placesAgree : Cond.code yX6_placesAgree cX6_placesAgree 6 (some .boolean) ∈ lw_good := q9 236 (by decide +kernel) (by decide +kernel)
set_option maxRecDepth 100000 in
theorem kv_X6_placesAgree : MLv yX6_placesAgree := ⟨q9 235 (by decide +kernel) (by decide +kernel), q8 0 (by decide +kernel) (by decide +kernel)⟩
set_option maxRecDepth 100000 in
theorem kc_X1_replay : Cond.code yX1_replay cX1_replay 3 none ∈ lw_good := q9 240 (by decide +kernel) (by decide +kernel)
set_option maxRecDepth 100000 in
theorem kv_X1_replay : MLv yX1_replay := ⟨q9 238 (by decide +kernel) (by decide +kernel), q9 239 (by decide +kernel) (by decide +kernel)⟩
set_option maxRecDepth 100000 in
theorem kc_X1_replayedPlace : Cond.code yX1_replayedPlace cX1_replayedPlace 2 (some .char) ∈ lw_good := q9 244 (by decide +kernel) (by decide +kernel)
set_option maxRecDepth 100000 in
theorem kv_X1_replayedPlace : MLv yX1_replayedPlace := ⟨q9 242 (by decide +kernel) (by decide +kernel), q9 243 (by decide +kernel) (by decide +kernel)⟩
set_option maxRecDepth 100000 in
theorem kc_X6_framesAreSingle : Cond.code yX6_framesAreSingle cX6_framesAreSingle 7 (some .boolean) ∈ lw_good := q9 248 (by decide +kernel) (by decide +kernel)
set_option maxRecDepth 100000 in
theorem kv_X6_framesAreSingle : MLv yX6_framesAreSingle := ⟨q9 247 (by decide +kernel) (by decide +kernel), q8 1 (by decide +kernel) (by decide +kernel)⟩
set_option maxRecDepth 100000 in
theorem kc_X6_hasBit : Cond.code yX6_hasBit cX6_hasBit 2 (some .boolean) ∈ lw_good := q9 251 (by decide +kernel) (by decide +kernel)
set_option maxRecDepth 100000 in
theorem ks_X6_hasBit : Cond.static yX6_hasBit ∈ lw_good := q9 250 (by decide +kernel) (by decide +kernel)
set_option maxRecDepth 100000 in
theorem kc_X6_addService : Cond.code yX6_addService cX6_addService 5 (some .int) ∈ lw_good := q9 260 (by decide +kernel) (by decide +kernel)
set_option maxRecDepth 100000 in
theorem kv_X6_addService : MLv yX6_addService := ⟨q9 258 (by decide +kernel) (by decide +kernel), q9 259 (by decide +kernel) (by decide +kernel)⟩
set_option maxRecDepth 100000 in
theorem kc_X6_requireRange : Cond.code yX6_requireRange cX6_requireRange 3 none ∈ lw_good := q9 263 (by decide +kernel) (by decide +kernel)
set_option maxRecDepth 100000 in
theorem ks_X6_requireRange : Cond.static yX6_requireRange ∈ lw_good := q9 262 (by decide +kernel) (by decide +kernel)
set_option maxRecDepth 100000 in
theorem kc_X4_init : Cond.code yX4_init cX4_init 7 none ∈ lw_good := q9 356 (by decide +kernel) (by decide +kernel)
set_option maxRecDepth 100000 in
theorem ki_X4_init : Cond.instanceMethod yX4_init ∈ lw_good ∧ yX4_init.name = "<init>" := ⟨q9 355 (by decide +kernel) (by decide +kernel), rfl⟩
set_option maxRecDepth 100000 in
theorem kc_X2_init : Cond.code yX2_init cX2_init 3 none ∈ lw_good := q9 362 (by decide +kernel) (by decide +kernel)
set_option maxRecDepth 100000 in
theorem ki_X2_init : Cond.instanceMethod yX2_init ∈ lw_good ∧ yX2_init.name = "<init>" := ⟨q9 361 (by decide +kernel) (by decide +kernel), rfl⟩
set_option maxRecDepth 100000 in
theorem kc_Jx4a65c_add_9ea2d : Cond.code yJx4a65c_add_9ea2d cJx4a65c_add_9ea2d 2 (some .boolean) ∈ lw_good := q9 430 (by decide +kernel) (by decide +kernel)
set_option maxRecDepth 100000 in
theorem kv_Jx4a65c_add_9ea2d : MLv yJx4a65c_add_9ea2d := ⟨q9 428 (by decide +kernel) (by decide +kernel), q9 429 (by decide +kernel) (by decide +kernel)⟩
set_option maxRecDepth 100000 in
theorem kc_Jx4a65c_add_72be8 : Cond.code yJx4a65c_add_72be8 cJx4a65c_add_72be8 4 none ∈ lw_good := q9 434 (by decide +kernel) (by decide +kernel)
set_option maxRecDepth 100000 in
theorem kv_Jx4a65c_add_72be8 : MLv yJx4a65c_add_72be8 := ⟨q9 433 (by decide +kernel) (by decide +kernel), q8 3 (by decide +kernel) (by decide +kernel)⟩
set_option maxRecDepth 100000 in
theorem kc_Jx4a65c_grow_d5877 : Cond.code yJx4a65c_grow_d5877 cJx4a65c_grow_d5877 1 (some (.array (.object "java/lang/Object"))) ∈ lw_good := q9 438 (by decide +kernel) (by decide +kernel)
set_option maxRecDepth 100000 in
theorem kv_Jx4a65c_grow_d5877 : MLv yJx4a65c_grow_d5877 := ⟨q9 437 (by decide +kernel) (by decide +kernel), q8 4 (by decide +kernel) (by decide +kernel)⟩
set_option maxRecDepth 100000 in
theorem kc_Jx4a65c_grow_92f84 : Cond.code yJx4a65c_grow_92f84 cJx4a65c_grow_92f84 4 (some (.array (.object "java/lang/Object"))) ∈ lw_good := q9 442 (by decide +kernel) (by decide +kernel)
set_option maxRecDepth 100000 in
theorem kv_Jx4a65c_grow_92f84 : MLv yJx4a65c_grow_92f84 := ⟨q9 441 (by decide +kernel) (by decide +kernel), q8 5 (by decide +kernel) (by decide +kernel)⟩
set_option maxRecDepth 100000 in
theorem kc_J8_newLength_cabcc : Cond.code yJ8_newLength_cabcc cJ8_newLength_cabcc 4 (some .int) ∈ lw_good := q9 445 (by decide +kernel) (by decide +kernel)
set_option maxRecDepth 100000 in
theorem ks_J8_newLength_cabcc : Cond.static yJ8_newLength_cabcc ∈ lw_good := q9 444 (by decide +kernel) (by decide +kernel)
set_option maxRecDepth 100000 in
theorem kc_J9_max_7cf53 : Cond.code yJ9_max_7cf53 cJ9_max_7cf53 2 (some .int) ∈ lw_good := q9 448 (by decide +kernel) (by decide +kernel)
set_option maxRecDepth 100000 in
theorem ks_J9_max_7cf53 : Cond.static yJ9_max_7cf53 ∈ lw_good := q9 447 (by decide +kernel) (by decide +kernel)
set_option maxRecDepth 100000 in
theorem kc_J8_hugeLength_7cf53 : Cond.code yJ8_hugeLength_7cf53 cJ8_hugeLength_7cf53 3 (some .int) ∈ lw_good := q9 452 (by decide +kernel) (by decide +kernel)
set_option maxRecDepth 100000 in
theorem ks_J8_hugeLength_7cf53 : Cond.static yJ8_hugeLength_7cf53 ∈ lw_good := q9 451 (by decide +kernel) (by decide +kernel)
set_option maxRecDepth 100000 in
theorem kc_J7_copyOf_1904c : Cond.code yJ7_copyOf_1904c cJ7_copyOf_1904c 2 (some (.array (.object "java/lang/Object"))) ∈ lw_good := q9 455 (by decide +kernel) (by decide +kernel)
set_option maxRecDepth 100000 in
theorem ks_J7_copyOf_1904c : Cond.static yJ7_copyOf_1904c ∈ lw_good := q9 454 (by decide +kernel) (by decide +kernel)
set_option maxRecDepth 100000 in
theorem kc_J7_copyOf_6403c : Cond.code yJ7_copyOf_6403c cJ7_copyOf_6403c 4 (some (.array (.object "java/lang/Object"))) ∈ lw_good := q9 478 (by decide +kernel) (by decide +kernel)
set_option maxRecDepth 100000 in
theorem ks_J7_copyOf_6403c : Cond.static yJ7_copyOf_6403c ∈ lw_good := q9 477 (by decide +kernel) (by decide +kernel)
set_option maxRecDepth 100000 in
theorem kc_J9_min_7cf53 : Cond.code yJ9_min_7cf53 cJ9_min_7cf53 2 (some .int) ∈ lw_good := q9 484 (by decide +kernel) (by decide +kernel)
set_option maxRecDepth 100000 in
theorem ks_J9_min_7cf53 : Cond.static yJ9_min_7cf53 ∈ lw_good := q9 483 (by decide +kernel) (by decide +kernel)
set_option maxRecDepth 100000 in
theorem kc_Jx00060_init_a7421 : Cond.code yJx00060_init_a7421 cJx00060_init_a7421 2 none ∈ lw_good := q9 496 (by decide +kernel) (by decide +kernel)
set_option maxRecDepth 100000 in
theorem ki_Jx00060_init_a7421 : Cond.instanceMethod yJx00060_init_a7421 ∈ lw_good ∧ yJx00060_init_a7421.name = "<init>" := ⟨q9 495 (by decide +kernel) (by decide +kernel), rfl⟩
set_option maxRecDepth 100000 in
theorem kc_X6_addNeed : Cond.code yX6_addNeed cX6_addNeed 4 (some .int) ∈ lw_good := q9 521 (by decide +kernel) (by decide +kernel)
set_option maxRecDepth 100000 in
theorem kv_X6_addNeed : MLv yX6_addNeed := ⟨q9 519 (by decide +kernel) (by decide +kernel), q9 520 (by decide +kernel) (by decide +kernel)⟩
set_option maxRecDepth 100000 in
theorem kc_X6_serviceAt : Cond.code yX6_serviceAt cX6_serviceAt 2 (some (.object "Swapyard$Service")) ∈ lw_good := q9 525 (by decide +kernel) (by decide +kernel)
set_option maxRecDepth 100000 in
theorem kv_X6_serviceAt : MLv yX6_serviceAt := ⟨q9 524 (by decide +kernel) (by decide +kernel), q8 6 (by decide +kernel) (by decide +kernel)⟩
set_option maxRecDepth 100000 in
theorem kc_X6_requireService : Cond.code yX6_requireService cX6_requireService 2 none ∈ lw_good := q9 529 (by decide +kernel) (by decide +kernel)
set_option maxRecDepth 100000 in
theorem kv_X6_requireService : MLv yX6_requireService := ⟨q9 528 (by decide +kernel) (by decide +kernel), q8 7 (by decide +kernel) (by decide +kernel)⟩
set_option maxRecDepth 100000 in
theorem kc_X6_allNeedsOf : Cond.code yX6_allNeedsOf cX6_allNeedsOf 5 (some .int) ∈ lw_good := q9 547 (by decide +kernel) (by decide +kernel)
set_option maxRecDepth 100000 in
theorem kv_X6_allNeedsOf : MLv yX6_allNeedsOf := ⟨q9 546 (by decide +kernel) (by decide +kernel), q8 8 (by decide +kernel) (by decide +kernel)⟩
set_option maxRecDepth 100000 in
theorem kc_J6_bitCount_0f7a4 : Cond.code yJ6_bitCount_0f7a4 cJ6_bitCount_0f7a4 1 (some .int) ∈ lw_good := q9 566 (by decide +kernel) (by decide +kernel)
set_option maxRecDepth 100000 in
theorem ks_J6_bitCount_0f7a4 : Cond.static yJ6_bitCount_0f7a4 ∈ lw_good := q9 565 (by decide +kernel) (by decide +kernel)
set_option maxRecDepth 100000 in
theorem kc_X6_setSize : Cond.code yX6_setSize cX6_setSize 6 (some .int) ∈ lw_good := q9 576 (by decide +kernel) (by decide +kernel)
set_option maxRecDepth 100000 in
theorem kv_X6_setSize : MLv yX6_setSize := ⟨q9 574 (by decide +kernel) (by decide +kernel), q9 575 (by decide +kernel) (by decide +kernel)⟩
set_option maxRecDepth 100000 in
theorem kc_X6_pageAt : Cond.code yX6_pageAt cX6_pageAt 4 (some (.object "Swapyard$Page")) ∈ lw_good := q9 580 (by decide +kernel) (by decide +kernel)
set_option maxRecDepth 100000 in
theorem kv_X6_pageAt : MLv yX6_pageAt := ⟨q9 579 (by decide +kernel) (by decide +kernel), q8 9 (by decide +kernel) (by decide +kernel)⟩
set_option maxRecDepth 100000 in
theorem kc_X6_setFrames : Cond.code yX6_setFrames cX6_setFrames 5 (some .int) ∈ lw_good := q9 589 (by decide +kernel) (by decide +kernel)
set_option maxRecDepth 100000 in
theorem kv_X6_setFrames : MLv yX6_setFrames := ⟨q9 587 (by decide +kernel) (by decide +kernel), q9 588 (by decide +kernel) (by decide +kernel)⟩
set_option maxRecDepth 100000 in
theorem kc_X0_takeOut : Cond.code yX0_takeOut cX0_takeOut 3 (some (.object "Swapyard$Page")) ∈ lw_good := q9 593 (by decide +kernel) (by decide +kernel)
set_option maxRecDepth 100000 in
theorem kv_X0_takeOut : MLv yX0_takeOut := ⟨q9 591 (by decide +kernel) (by decide +kernel), q9 592 (by decide +kernel) (by decide +kernel)⟩
set_option maxRecDepth 100000 in
theorem kc_X5_takeIn : Cond.code yX5_takeIn cX5_takeIn 3 (some .int) ∈ lw_good := q9 597 (by decide +kernel) (by decide +kernel)
set_option maxRecDepth 100000 in
theorem kv_X5_takeIn : MLv yX5_takeIn := ⟨q9 595 (by decide +kernel) (by decide +kernel), q9 596 (by decide +kernel) (by decide +kernel)⟩
set_option maxRecDepth 100000 in
theorem kc_X2_moveTo : Cond.code yX2_moveTo cX2_moveTo 2 none ∈ lw_good := q9 601 (by decide +kernel) (by decide +kernel)
set_option maxRecDepth 100000 in
theorem kv_X2_moveTo : MLv yX2_moveTo := ⟨q9 599 (by decide +kernel) (by decide +kernel), q9 600 (by decide +kernel) (by decide +kernel)⟩
set_option maxRecDepth 100000 in
theorem kc_X1_record : Cond.code yX1_record cX1_record 3 none ∈ lw_good := q9 605 (by decide +kernel) (by decide +kernel)
set_option maxRecDepth 100000 in
theorem kv_X1_record : MLv yX1_record := ⟨q9 603 (by decide +kernel) (by decide +kernel), q9 604 (by decide +kernel) (by decide +kernel)⟩
set_option maxRecDepth 100000 in
theorem kc_X5_makeRoomFor : Cond.code yX5_makeRoomFor cX5_makeRoomFor 4 (some .int) ∈ lw_good := q9 609 (by decide +kernel) (by decide +kernel)
set_option maxRecDepth 100000 in
theorem kv_X5_makeRoomFor : MLv yX5_makeRoomFor := ⟨q9 607 (by decide +kernel) (by decide +kernel), q9 608 (by decide +kernel) (by decide +kernel)⟩
set_option maxRecDepth 100000 in
theorem kc_Jx4a65c_remove_915e3 : Cond.code yJx4a65c_remove_915e3 cJx4a65c_remove_915e3 4 (some (.object "java/lang/Object")) ∈ lw_good := q9 614 (by decide +kernel) (by decide +kernel)
set_option maxRecDepth 100000 in
theorem kv_Jx4a65c_remove_915e3 : MLv yJx4a65c_remove_915e3 := ⟨q9 612 (by decide +kernel) (by decide +kernel), q9 613 (by decide +kernel) (by decide +kernel)⟩
set_option maxRecDepth 100000 in
theorem kc_Jx4a65c_fastRemove_b59b0 : Cond.code yJx4a65c_fastRemove_b59b0 cJx4a65c_fastRemove_b59b0 4 none ∈ lw_good := q9 618 (by decide +kernel) (by decide +kernel)
set_option maxRecDepth 100000 in
theorem kv_Jx4a65c_fastRemove_b59b0 : MLv yJx4a65c_fastRemove_b59b0 := ⟨q9 617 (by decide +kernel) (by decide +kernel), q8 10 (by decide +kernel) (by decide +kernel)⟩
set_option maxRecDepth 100000 in
theorem kc_X0_resize : Cond.code yX0_resize cX0_resize 2 none ∈ lw_good := q9 624 (by decide +kernel) (by decide +kernel)
set_option maxRecDepth 100000 in
theorem kv_X0_resize : MLv yX0_resize := ⟨q9 622 (by decide +kernel) (by decide +kernel), q9 623 (by decide +kernel) (by decide +kernel)⟩
set_option maxRecDepth 100000 in
theorem kc_X6_setRoom : Cond.code yX6_setRoom cX6_setRoom 3 (some .int) ∈ lw_good := q9 631 (by decide +kernel) (by decide +kernel)
set_option maxRecDepth 100000 in
theorem kv_X6_setRoom : MLv yX6_setRoom := ⟨q9 629 (by decide +kernel) (by decide +kernel), q9 630 (by decide +kernel) (by decide +kernel)⟩
set_option maxRecDepth 100000 in
theorem kc_X6_setLimit : Cond.code yX6_setLimit cX6_setLimit 3 (some .int) ∈ lw_good := q9 639 (by decide +kernel) (by decide +kernel)
set_option maxRecDepth 100000 in
theorem kv_X6_setLimit : MLv yX6_setLimit := ⟨q9 637 (by decide +kernel) (by decide +kernel), q9 638 (by decide +kernel) (by decide +kernel)⟩
set_option maxRecDepth 100000 in
theorem kc_X6_touch : Cond.code yX6_touch cX6_touch 5 (some .int) ∈ lw_good := q9 646 (by decide +kernel) (by decide +kernel)
set_option maxRecDepth 100000 in
theorem kv_X6_touch : MLv yX6_touch := ⟨q9 644 (by decide +kernel) (by decide +kernel), q9 645 (by decide +kernel) (by decide +kernel)⟩
set_option maxRecDepth 100000 in
theorem kc_X6_isRunning : Cond.code yX6_isRunning cX6_isRunning 4 (some .boolean) ∈ lw_good := q9 650 (by decide +kernel) (by decide +kernel)
set_option maxRecDepth 100000 in
theorem kv_X6_isRunning : MLv yX6_isRunning := ⟨q9 649 (by decide +kernel) (by decide +kernel), q8 11 (by decide +kernel) (by decide +kernel)⟩
set_option maxRecDepth 100000 in
theorem kc_X6_bringIntoFrame : Cond.code yX6_bringIntoFrame cX6_bringIntoFrame 4 (some .int) ∈ lw_good := q9 655 (by decide +kernel) (by decide +kernel)
set_option maxRecDepth 100000 in
theorem kv_X6_bringIntoFrame : MLv yX6_bringIntoFrame := ⟨q9 654 (by decide +kernel) (by decide +kernel), q8 12 (by decide +kernel) (by decide +kernel)⟩
set_option maxRecDepth 100000 in
theorem kc_X6_stallsFrom : Cond.code yX6_stallsFrom cX6_stallsFrom 1 (some .int) ∈ lw_good := q9 658 (by decide +kernel) (by decide +kernel)
set_option maxRecDepth 100000 in
theorem ks_X6_stallsFrom : Cond.static yX6_stallsFrom ∈ lw_good := q9 657 (by decide +kernel) (by decide +kernel)
set_option maxRecDepth 100000 in
theorem kc_X6_detach : Cond.code yX6_detach cX6_detach 2 none ∈ lw_good := q9 662 (by decide +kernel) (by decide +kernel)
set_option maxRecDepth 100000 in
theorem kv_X6_detach : MLv yX6_detach := ⟨q9 661 (by decide +kernel) (by decide +kernel), q8 13 (by decide +kernel) (by decide +kernel)⟩
set_option maxRecDepth 100000 in
theorem kc_X5_drop : Cond.code yX5_drop cX5_drop 3 none ∈ lw_good := q9 666 (by decide +kernel) (by decide +kernel)
set_option maxRecDepth 100000 in
theorem kv_X5_drop : MLv yX5_drop := ⟨q9 664 (by decide +kernel) (by decide +kernel), q9 665 (by decide +kernel) (by decide +kernel)⟩
set_option maxRecDepth 100000 in
theorem kc_X0_lowestFree : Cond.code yX0_lowestFree cX0_lowestFree 2 (some .int) ∈ lw_good := q9 670 (by decide +kernel) (by decide +kernel)
set_option maxRecDepth 100000 in
theorem kv_X0_lowestFree : MLv yX0_lowestFree := ⟨q9 668 (by decide +kernel) (by decide +kernel), q9 669 (by decide +kernel) (by decide +kernel)⟩
set_option maxRecDepth 100000 in
theorem kc_X6_clearFrame : Cond.code yX6_clearFrame cX6_clearFrame 2 (some .int) ∈ lw_good := q9 674 (by decide +kernel) (by decide +kernel)
set_option maxRecDepth 100000 in
theorem kv_X6_clearFrame : MLv yX6_clearFrame := ⟨q9 673 (by decide +kernel) (by decide +kernel), q8 14 (by decide +kernel) (by decide +kernel)⟩
set_option maxRecDepth 100000 in
theorem kc_X0_takeOutByClock : Cond.code yX0_takeOutByClock cX0_takeOutByClock 3 (some (.object "Swapyard$Page")) ∈ lw_good := q9 678 (by decide +kernel) (by decide +kernel)
set_option maxRecDepth 100000 in
theorem kv_X0_takeOutByClock : MLv yX0_takeOutByClock := ⟨q9 676 (by decide +kernel) (by decide +kernel), q9 677 (by decide +kernel) (by decide +kernel)⟩
set_option maxRecDepth 100000 in
theorem kc_X0_takeReference : Cond.code yX0_takeReference cX0_takeReference 3 (some .boolean) ∈ lw_good := q9 682 (by decide +kernel) (by decide +kernel)
set_option maxRecDepth 100000 in
theorem kv_X0_takeReference : MLv yX0_takeReference := ⟨q9 681 (by decide +kernel) (by decide +kernel), q8 15 (by decide +kernel) (by decide +kernel)⟩
set_option maxRecDepth 100000 in
theorem kc_X0_put : Cond.code yX0_put cX0_put 3 none ∈ lw_good := q9 687 (by decide +kernel) (by decide +kernel)
set_option maxRecDepth 100000 in
theorem kv_X0_put : MLv yX0_put := ⟨q9 685 (by decide +kernel) (by decide +kernel), q9 686 (by decide +kernel) (by decide +kernel)⟩
set_option maxRecDepth 100000 in
theorem kc_X2_moveIntoFrame : Cond.code yX2_moveIntoFrame cX2_moveIntoFrame 2 none ∈ lw_good := q9 691 (by decide +kernel) (by decide +kernel)
set_option maxRecDepth 100000 in
theorem kv_X2_moveIntoFrame : MLv yX2_moveIntoFrame := ⟨q9 689 (by decide +kernel) (by decide +kernel), q9 690 (by decide +kernel) (by decide +kernel)⟩
set_option maxRecDepth 100000 in
theorem kc_X6_countTouch : Cond.code yX6_countTouch cX6_countTouch 3 none ∈ lw_good := q9 696 (by decide +kernel) (by decide +kernel)
set_option maxRecDepth 100000 in
theorem kv_X6_countTouch : MLv yX6_countTouch := ⟨q9 695 (by decide +kernel) (by decide +kernel), q8 16 (by decide +kernel) (by decide +kernel)⟩
set_option maxRecDepth 100000 in
theorem kc_X3_add : Cond.code yX3_add cX3_add 2 none ∈ lw_good := q9 700 (by decide +kernel) (by decide +kernel)
set_option maxRecDepth 100000 in
theorem kv_X3_add : MLv yX3_add := ⟨q9 698 (by decide +kernel) (by decide +kernel), q9 699 (by decide +kernel) (by decide +kernel)⟩
set_option maxRecDepth 100000 in
theorem kc_X6_tick : Cond.code yX6_tick cX6_tick 4 (some .int) ∈ lw_good := q9 707 (by decide +kernel) (by decide +kernel)
set_option maxRecDepth 100000 in
theorem kv_X6_tick : MLv yX6_tick := ⟨q9 705 (by decide +kernel) (by decide +kernel), q9 706 (by decide +kernel) (by decide +kernel)⟩
set_option maxRecDepth 100000 in
theorem kc_X6_passOneTick : Cond.code yX6_passOneTick cX6_passOneTick 1 none ∈ lw_good := q9 711 (by decide +kernel) (by decide +kernel)
set_option maxRecDepth 100000 in
theorem kv_X6_passOneTick : MLv yX6_passOneTick := ⟨q9 710 (by decide +kernel) (by decide +kernel), q8 17 (by decide +kernel) (by decide +kernel)⟩
set_option maxRecDepth 100000 in
theorem kc_X6_killNextVictim : Cond.code yX6_killNextVictim cX6_killNextVictim 6 none ∈ lw_good := q9 715 (by decide +kernel) (by decide +kernel)
set_option maxRecDepth 100000 in
theorem kv_X6_killNextVictim : MLv yX6_killNextVictim := ⟨q9 714 (by decide +kernel) (by decide +kernel), q8 18 (by decide +kernel) (by decide +kernel)⟩
set_option maxRecDepth 100000 in
theorem kc_X6_nextVictim : Cond.code yX6_nextVictim cX6_nextVictim 4 (some (.object "Swapyard$Service")) ∈ lw_good := q9 719 (by decide +kernel) (by decide +kernel)
set_option maxRecDepth 100000 in
theorem kv_X6_nextVictim : MLv yX6_nextVictim := ⟨q9 718 (by decide +kernel) (by decide +kernel), q8 19 (by decide +kernel) (by decide +kernel)⟩
set_option maxRecDepth 100000 in
theorem kc_X4_killScore : Cond.code yX4_killScore cX4_killScore 1 (some .int) ∈ lw_good := q9 723 (by decide +kernel) (by decide +kernel)
set_option maxRecDepth 100000 in
theorem kv_X4_killScore : MLv yX4_killScore := ⟨q9 721 (by decide +kernel) (by decide +kernel), q9 722 (by decide +kernel) (by decide +kernel)⟩
set_option maxRecDepth 100000 in
theorem kc_X3_forget : Cond.code yX3_forget cX3_forget 2 none ∈ lw_good := q9 729 (by decide +kernel) (by decide +kernel)
set_option maxRecDepth 100000 in
theorem kv_X3_forget : MLv yX3_forget := ⟨q9 727 (by decide +kernel) (by decide +kernel), q9 728 (by decide +kernel) (by decide +kernel)⟩
set_option maxRecDepth 100000 in
theorem kc_X3_beginTick : Cond.code yX3_beginTick cX3_beginTick 2 none ∈ lw_good := q9 733 (by decide +kernel) (by decide +kernel)
set_option maxRecDepth 100000 in
theorem kv_X3_beginTick : MLv yX3_beginTick := ⟨q9 731 (by decide +kernel) (by decide +kernel), q9 732 (by decide +kernel) (by decide +kernel)⟩
set_option maxRecDepth 100000 in
theorem kc_X6_startDeadServices : Cond.code yX6_startDeadServices cX6_startDeadServices 3 none ∈ lw_good := q9 737 (by decide +kernel) (by decide +kernel)
set_option maxRecDepth 100000 in
theorem kv_X6_startDeadServices : MLv yX6_startDeadServices := ⟨q9 736 (by decide +kernel) (by decide +kernel), q8 20 (by decide +kernel) (by decide +kernel)⟩
set_option maxRecDepth 100000 in
theorem kc_X4_delayLeft : Cond.code yX4_delayLeft cX4_delayLeft 2 (some .int) ∈ lw_good := q9 741 (by decide +kernel) (by decide +kernel)
set_option maxRecDepth 100000 in
theorem kv_X4_delayLeft : MLv yX4_delayLeft := ⟨q9 739 (by decide +kernel) (by decide +kernel), q9 740 (by decide +kernel) (by decide +kernel)⟩
set_option maxRecDepth 100000 in
theorem kc_X6_isNeededByLiving : Cond.code yX6_isNeededByLiving cX6_isNeededByLiving 4 (some .boolean) ∈ lw_good := q9 745 (by decide +kernel) (by decide +kernel)
set_option maxRecDepth 100000 in
theorem kv_X6_isNeededByLiving : MLv yX6_isNeededByLiving := ⟨q9 744 (by decide +kernel) (by decide +kernel), q8 21 (by decide +kernel) (by decide +kernel)⟩
set_option maxRecDepth 100000 in
theorem kc_X6_placeOf : Cond.code yX6_placeOf cX6_placeOf 3 (some .char) ∈ lw_good := q9 752 (by decide +kernel) (by decide +kernel)
set_option maxRecDepth 100000 in
theorem kv_X6_placeOf : MLv yX6_placeOf := ⟨q9 750 (by decide +kernel) (by decide +kernel), q9 751 (by decide +kernel) (by decide +kernel)⟩
set_option maxRecDepth 100000 in
theorem kc_X6_placeByEvents : Cond.code yX6_placeByEvents cX6_placeByEvents 4 (some .char) ∈ lw_good := q9 759 (by decide +kernel) (by decide +kernel)
set_option maxRecDepth 100000 in
theorem kv_X6_placeByEvents : MLv yX6_placeByEvents := ⟨q9 757 (by decide +kernel) (by decide +kernel), q9 758 (by decide +kernel) (by decide +kernel)⟩
set_option maxRecDepth 100000 in
theorem kc_X6_frameOf : Cond.code yX6_frameOf cX6_frameOf 4 (some .int) ∈ lw_good := q9 767 (by decide +kernel) (by decide +kernel)
set_option maxRecDepth 100000 in
theorem kv_X6_frameOf : MLv yX6_frameOf := ⟨q9 765 (by decide +kernel) (by decide +kernel), q9 766 (by decide +kernel) (by decide +kernel)⟩
set_option maxRecDepth 100000 in
theorem kc_X6_isReferenced : Cond.code yX6_isReferenced cX6_isReferenced 3 (some .boolean) ∈ lw_good := q9 790 (by decide +kernel) (by decide +kernel)
set_option maxRecDepth 100000 in
theorem kv_X6_isReferenced : MLv yX6_isReferenced := ⟨q9 788 (by decide +kernel) (by decide +kernel), q9 789 (by decide +kernel) (by decide +kernel)⟩
set_option maxRecDepth 100000 in
theorem kc_X6_storedAt : Cond.code yX6_storedAt cX6_storedAt 2 (some .int) ∈ lw_good := q9 797 (by decide +kernel) (by decide +kernel)
set_option maxRecDepth 100000 in
theorem kv_X6_storedAt : MLv yX6_storedAt := ⟨q9 795 (by decide +kernel) (by decide +kernel), q9 796 (by decide +kernel) (by decide +kernel)⟩
set_option maxRecDepth 100000 in
theorem kc_X6_pagesIn : Cond.code yX6_pagesIn cX6_pagesIn 4 (some .int) ∈ lw_good := q9 806 (by decide +kernel) (by decide +kernel)
set_option maxRecDepth 100000 in
theorem kv_X6_pagesIn : MLv yX6_pagesIn := ⟨q9 804 (by decide +kernel) (by decide +kernel), q9 805 (by decide +kernel) (by decide +kernel)⟩
set_option maxRecDepth 100000 in
theorem kc_X6_stallsOf : Cond.code yX6_stallsOf cX6_stallsOf 2 (some .long) ∈ lw_good := q9 814 (by decide +kernel) (by decide +kernel)
set_option maxRecDepth 100000 in
theorem kv_X6_stallsOf : MLv yX6_stallsOf := ⟨q9 812 (by decide +kernel) (by decide +kernel), q9 813 (by decide +kernel) (by decide +kernel)⟩
set_option maxRecDepth 100000 in
theorem kc_X6_stateOf : Cond.code yX6_stateOf cX6_stateOf 2 (some .char) ∈ lw_good := q9 821 (by decide +kernel) (by decide +kernel)
set_option maxRecDepth 100000 in
theorem kv_X6_stateOf : MLv yX6_stateOf := ⟨q9 819 (by decide +kernel) (by decide +kernel), q9 820 (by decide +kernel) (by decide +kernel)⟩
set_option maxRecDepth 100000 in
theorem kc_X6_waitsFor : Cond.code yX6_waitsFor cX6_waitsFor 4 (some .int) ∈ lw_good := q9 828 (by decide +kernel) (by decide +kernel)
set_option maxRecDepth 100000 in
theorem kv_X6_waitsFor : MLv yX6_waitsFor := ⟨q9 826 (by decide +kernel) (by decide +kernel), q9 827 (by decide +kernel) (by decide +kernel)⟩
set_option maxRecDepth 100000 in
theorem kc_X6_isNeeded : Cond.code yX6_isNeeded cX6_isNeeded 2 (some .boolean) ∈ lw_good := q9 836 (by decide +kernel) (by decide +kernel)
set_option maxRecDepth 100000 in
theorem kv_X6_isNeeded : MLv yX6_isNeeded := ⟨q9 834 (by decide +kernel) (by decide +kernel), q9 835 (by decide +kernel) (by decide +kernel)⟩
set_option maxRecDepth 100000 in
theorem kc_X6_startsIn : Cond.code yX6_startsIn cX6_startsIn 3 (some .int) ∈ lw_good := q9 843 (by decide +kernel) (by decide +kernel)
set_option maxRecDepth 100000 in
theorem kv_X6_startsIn : MLv yX6_startsIn := ⟨q9 841 (by decide +kernel) (by decide +kernel), q9 842 (by decide +kernel) (by decide +kernel)⟩
set_option maxRecDepth 100000 in
theorem kc_X6_starts : Cond.code yX6_starts cX6_starts 2 (some .int) ∈ lw_good := q9 852 (by decide +kernel) (by decide +kernel)
set_option maxRecDepth 100000 in
theorem kv_X6_starts : MLv yX6_starts := ⟨q9 850 (by decide +kernel) (by decide +kernel), q9 851 (by decide +kernel) (by decide +kernel)⟩
set_option maxRecDepth 100000 in
theorem kc_X6_score : Cond.code yX6_score cX6_score 2 (some .int) ∈ lw_good := q9 859 (by decide +kernel) (by decide +kernel)
set_option maxRecDepth 100000 in
theorem kv_X6_score : MLv yX6_score := ⟨q9 857 (by decide +kernel) (by decide +kernel), q9 858 (by decide +kernel) (by decide +kernel)⟩
set_option maxRecDepth 100000 in
theorem kc_X6_victim : Cond.code yX6_victim cX6_victim 2 (some .int) ∈ lw_good := q9 866 (by decide +kernel) (by decide +kernel)
set_option maxRecDepth 100000 in
theorem kv_X6_victim : MLv yX6_victim := ⟨q9 864 (by decide +kernel) (by decide +kernel), q9 865 (by decide +kernel) (by decide +kernel)⟩
set_option maxRecDepth 100000 in
theorem kc_X6_smoothShare : Cond.code yX6_smoothShare cX6_smoothShare 1 (some .float) ∈ lw_good := q9 888 (by decide +kernel) (by decide +kernel)
set_option maxRecDepth 100000 in
theorem kv_X6_smoothShare : MLv yX6_smoothShare := ⟨q9 886 (by decide +kernel) (by decide +kernel), q9 887 (by decide +kernel) (by decide +kernel)⟩
set_option maxRecDepth 100000 in
theorem kc_X6_meanStalls : Cond.code yX6_meanStalls cX6_meanStalls 1 (some .double) ∈ lw_good := q9 898 (by decide +kernel) (by decide +kernel)
set_option maxRecDepth 100000 in
theorem kv_X6_meanStalls : MLv yX6_meanStalls := ⟨q9 896 (by decide +kernel) (by decide +kernel), q9 897 (by decide +kernel) (by decide +kernel)⟩
set_option maxRecDepth 100000 in
theorem kc_X7_init : Cond.code yX7_init cX7_init 1 none ∈ lw_good := q9 903 (by decide +kernel) (by decide +kernel)
set_option maxRecDepth 100000 in
theorem ki_X7_init : Cond.instanceMethod yX7_init ∈ lw_good ∧ yX7_init.name = "<init>" := ⟨q9 902 (by decide +kernel) (by decide +kernel), rfl⟩
set_option maxRecDepth 100000 in
theorem kc_X7_thrown : Cond.code yX7_thrown cX7_thrown 1 (some .int) ∈ lw_good := q9 992 (by decide +kernel) (by decide +kernel)
set_option maxRecDepth 100000 in
theorem kv_X7_thrown : MLv yX7_thrown := ⟨q9 990 (by decide +kernel) (by decide +kernel), q9 991 (by decide +kernel) (by decide +kernel)⟩
set_option maxRecDepth 100000 in
theorem kc_X7_addService : Cond.code yX7_addService cX7_addService 5 (some .int) ∈ lw_good := q9 996 (by decide +kernel) (by decide +kernel)
set_option maxRecDepth 100000 in
theorem kv_X7_addService : MLv yX7_addService := ⟨q9 994 (by decide +kernel) (by decide +kernel), q9 995 (by decide +kernel) (by decide +kernel)⟩
set_option maxRecDepth 100000 in
theorem kc_X7_in : Cond.code yX7_in cX7_in 3 (some .boolean) ∈ lw_good := q9 999 (by decide +kernel) (by decide +kernel)
set_option maxRecDepth 100000 in
theorem ks_X7_in : Cond.static yX7_in ∈ lw_good := q9 998 (by decide +kernel) (by decide +kernel)
set_option maxRecDepth 100000 in
theorem kc_X7_fails : Cond.code yX7_fails cX7_fails 2 (some .boolean) ∈ lw_good := q9 1003 (by decide +kernel) (by decide +kernel)
set_option maxRecDepth 100000 in
theorem kv_X7_fails : MLv yX7_fails := ⟨q9 1002 (by decide +kernel) (by decide +kernel), q8 22 (by decide +kernel) (by decide +kernel)⟩
set_option maxRecDepth 100000 in
theorem kc_X7_addNeed : Cond.code yX7_addNeed cX7_addNeed 5 (some .int) ∈ lw_good := q9 1007 (by decide +kernel) (by decide +kernel)
set_option maxRecDepth 100000 in
theorem kv_X7_addNeed : MLv yX7_addNeed := ⟨q9 1005 (by decide +kernel) (by decide +kernel), q9 1006 (by decide +kernel) (by decide +kernel)⟩
set_option maxRecDepth 100000 in
theorem kc_X7_isNone : Cond.code yX7_isNone cX7_isNone 2 (some .boolean) ∈ lw_good := q9 1011 (by decide +kernel) (by decide +kernel)
set_option maxRecDepth 100000 in
theorem kv_X7_isNone : MLv yX7_isNone := ⟨q9 1010 (by decide +kernel) (by decide +kernel), q8 23 (by decide +kernel) (by decide +kernel)⟩
set_option maxRecDepth 100000 in
theorem kc_X7_needsAtLast : Cond.code yX7_needsAtLast cX7_needsAtLast 4 (some .boolean) ∈ lw_good := q9 1015 (by decide +kernel) (by decide +kernel)
set_option maxRecDepth 100000 in
theorem kv_X7_needsAtLast : MLv yX7_needsAtLast := ⟨q9 1014 (by decide +kernel) (by decide +kernel), q8 24 (by decide +kernel) (by decide +kernel)⟩
set_option maxRecDepth 100000 in
theorem kc_X7_needs : Cond.code yX7_needs cX7_needs 3 (some .boolean) ∈ lw_good := q9 1019 (by decide +kernel) (by decide +kernel)
set_option maxRecDepth 100000 in
theorem kv_X7_needs : MLv yX7_needs := ⟨q9 1018 (by decide +kernel) (by decide +kernel), q8 25 (by decide +kernel) (by decide +kernel)⟩
set_option maxRecDepth 100000 in
theorem kc_X7_setSize : Cond.code yX7_setSize cX7_setSize 5 (some .int) ∈ lw_good := q9 1023 (by decide +kernel) (by decide +kernel)
set_option maxRecDepth 100000 in
theorem kv_X7_setSize : MLv yX7_setSize := ⟨q9 1021 (by decide +kernel) (by decide +kernel), q9 1022 (by decide +kernel) (by decide +kernel)⟩
set_option maxRecDepth 100000 in
theorem kc_X7_isNoPage : Cond.code yX7_isNoPage cX7_isNoPage 3 (some .boolean) ∈ lw_good := q9 1027 (by decide +kernel) (by decide +kernel)
set_option maxRecDepth 100000 in
theorem kv_X7_isNoPage : MLv yX7_isNoPage := ⟨q9 1026 (by decide +kernel) (by decide +kernel), q8 26 (by decide +kernel) (by decide +kernel)⟩
set_option maxRecDepth 100000 in
theorem kc_X7_setFrames : Cond.code yX7_setFrames cX7_setFrames 4 (some .int) ∈ lw_good := q9 1031 (by decide +kernel) (by decide +kernel)
set_option maxRecDepth 100000 in
theorem kv_X7_setFrames : MLv yX7_setFrames := ⟨q9 1029 (by decide +kernel) (by decide +kernel), q9 1030 (by decide +kernel) (by decide +kernel)⟩
set_option maxRecDepth 100000 in
theorem kc_X7_takesOut : Cond.code yX7_takesOut cX7_takesOut 3 none ∈ lw_good := q9 1035 (by decide +kernel) (by decide +kernel)
set_option maxRecDepth 100000 in
theorem kv_X7_takesOut : MLv yX7_takesOut := ⟨q9 1034 (by decide +kernel) (by decide +kernel), q8 27 (by decide +kernel) (by decide +kernel)⟩
set_option maxRecDepth 100000 in
theorem kc_X7_makesRoom : Cond.code yX7_makesRoom cX7_makesRoom 2 none ∈ lw_good := q9 1039 (by decide +kernel) (by decide +kernel)
set_option maxRecDepth 100000 in
theorem kv_X7_makesRoom : MLv yX7_makesRoom := ⟨q9 1038 (by decide +kernel) (by decide +kernel), q8 28 (by decide +kernel) (by decide +kernel)⟩
set_option maxRecDepth 100000 in
theorem kc_X7_taken : Cond.code yX7_taken cX7_taken 3 (some .int) ∈ lw_good := q9 1043 (by decide +kernel) (by decide +kernel)
set_option maxRecDepth 100000 in
theorem kv_X7_taken : MLv yX7_taken := ⟨q9 1042 (by decide +kernel) (by decide +kernel), q8 29 (by decide +kernel) (by decide +kernel)⟩
set_option maxRecDepth 100000 in
theorem kc_X7_unstores : Cond.code yX7_unstores cX7_unstores 3 none ∈ lw_good := q9 1047 (by decide +kernel) (by decide +kernel)
set_option maxRecDepth 100000 in
theorem kv_X7_unstores : MLv yX7_unstores := ⟨q9 1046 (by decide +kernel) (by decide +kernel), q8 30 (by decide +kernel) (by decide +kernel)⟩
set_option maxRecDepth 100000 in
theorem kc_X7_setRoom : Cond.code yX7_setRoom cX7_setRoom 3 (some .int) ∈ lw_good := q9 1051 (by decide +kernel) (by decide +kernel)
set_option maxRecDepth 100000 in
theorem kv_X7_setRoom : MLv yX7_setRoom := ⟨q9 1049 (by decide +kernel) (by decide +kernel), q9 1050 (by decide +kernel) (by decide +kernel)⟩
set_option maxRecDepth 100000 in
theorem kc_X7_setLimit : Cond.code yX7_setLimit cX7_setLimit 3 (some .int) ∈ lw_good := q9 1055 (by decide +kernel) (by decide +kernel)
set_option maxRecDepth 100000 in
theorem kv_X7_setLimit : MLv yX7_setLimit := ⟨q9 1053 (by decide +kernel) (by decide +kernel), q9 1054 (by decide +kernel) (by decide +kernel)⟩
set_option maxRecDepth 100000 in
theorem kc_X7_touch : Cond.code yX7_touch cX7_touch 4 (some .int) ∈ lw_good := q9 1059 (by decide +kernel) (by decide +kernel)
set_option maxRecDepth 100000 in
theorem kv_X7_touch : MLv yX7_touch := ⟨q9 1057 (by decide +kernel) (by decide +kernel), q9 1058 (by decide +kernel) (by decide +kernel)⟩
set_option maxRecDepth 100000 in
theorem kc_X7_runs : Cond.code yX7_runs cX7_runs 3 (some .boolean) ∈ lw_good := q9 1063 (by decide +kernel) (by decide +kernel)
set_option maxRecDepth 100000 in
theorem kv_X7_runs : MLv yX7_runs := ⟨q9 1062 (by decide +kernel) (by decide +kernel), q8 31 (by decide +kernel) (by decide +kernel)⟩
set_option maxRecDepth 100000 in
theorem kc_X7_frameWith : Cond.code yX7_frameWith cX7_frameWith 3 (some .int) ∈ lw_good := q9 1067 (by decide +kernel) (by decide +kernel)
set_option maxRecDepth 100000 in
theorem kv_X7_frameWith : MLv yX7_frameWith := ⟨q9 1066 (by decide +kernel) (by decide +kernel), q8 32 (by decide +kernel) (by decide +kernel)⟩
set_option maxRecDepth 100000 in
theorem kc_X7_comes : Cond.code yX7_comes cX7_comes 3 none ∈ lw_good := q9 1071 (by decide +kernel) (by decide +kernel)
set_option maxRecDepth 100000 in
theorem kv_X7_comes : MLv yX7_comes := ⟨q9 1070 (by decide +kernel) (by decide +kernel), q8 33 (by decide +kernel) (by decide +kernel)⟩
set_option maxRecDepth 100000 in
theorem kc_X7_leaves : Cond.code yX7_leaves cX7_leaves 3 none ∈ lw_good := q9 1075 (by decide +kernel) (by decide +kernel)
set_option maxRecDepth 100000 in
theorem kv_X7_leaves : MLv yX7_leaves := ⟨q9 1074 (by decide +kernel) (by decide +kernel), q8 34 (by decide +kernel) (by decide +kernel)⟩
set_option maxRecDepth 100000 in
theorem kc_X7_freeFrame : Cond.code yX7_freeFrame cX7_freeFrame 2 (some .int) ∈ lw_good := q9 1079 (by decide +kernel) (by decide +kernel)
set_option maxRecDepth 100000 in
theorem kv_X7_freeFrame : MLv yX7_freeFrame := ⟨q9 1078 (by decide +kernel) (by decide +kernel), q8 35 (by decide +kernel) (by decide +kernel)⟩
set_option maxRecDepth 100000 in
theorem kc_X7_clears : Cond.code yX7_clears cX7_clears 1 none ∈ lw_good := q9 1083 (by decide +kernel) (by decide +kernel)
set_option maxRecDepth 100000 in
theorem kv_X7_clears : MLv yX7_clears := ⟨q9 1082 (by decide +kernel) (by decide +kernel), q8 36 (by decide +kernel) (by decide +kernel)⟩
set_option maxRecDepth 100000 in
theorem kc_X7_tick : Cond.code yX7_tick cX7_tick 4 (some .int) ∈ lw_good := q9 1087 (by decide +kernel) (by decide +kernel)
set_option maxRecDepth 100000 in
theorem kv_X7_tick : MLv yX7_tick := ⟨q9 1085 (by decide +kernel) (by decide +kernel), q9 1086 (by decide +kernel) (by decide +kernel)⟩
set_option maxRecDepth 100000 in
theorem kc_X7_ticks : Cond.code yX7_ticks cX7_ticks 3 (some .int) ∈ lw_good := q9 1091 (by decide +kernel) (by decide +kernel)
set_option maxRecDepth 100000 in
theorem kv_X7_ticks : MLv yX7_ticks := ⟨q9 1090 (by decide +kernel) (by decide +kernel), q8 37 (by decide +kernel) (by decide +kernel)⟩
set_option maxRecDepth 100000 in
theorem kc_X7_pressing : Cond.code yX7_pressing cX7_pressing 1 (some .int) ∈ lw_good := q9 1095 (by decide +kernel) (by decide +kernel)
set_option maxRecDepth 100000 in
theorem kv_X7_pressing : MLv yX7_pressing := ⟨q9 1094 (by decide +kernel) (by decide +kernel), q8 38 (by decide +kernel) (by decide +kernel)⟩
set_option maxRecDepth 100000 in
theorem kc_X7_worst : Cond.code yX7_worst cX7_worst 3 (some .int) ∈ lw_good := q9 1099 (by decide +kernel) (by decide +kernel)
set_option maxRecDepth 100000 in
theorem kv_X7_worst : MLv yX7_worst := ⟨q9 1098 (by decide +kernel) (by decide +kernel), q8 39 (by decide +kernel) (by decide +kernel)⟩
set_option maxRecDepth 100000 in
theorem kc_X7_scoreOf : Cond.code yX7_scoreOf cX7_scoreOf 2 (some .int) ∈ lw_good := q9 1103 (by decide +kernel) (by decide +kernel)
set_option maxRecDepth 100000 in
theorem kv_X7_scoreOf : MLv yX7_scoreOf := ⟨q9 1102 (by decide +kernel) (by decide +kernel), q8 40 (by decide +kernel) (by decide +kernel)⟩
set_option maxRecDepth 100000 in
theorem kc_X7_inPlace : Cond.code yX7_inPlace cX7_inPlace 5 (some .int) ∈ lw_good := q9 1107 (by decide +kernel) (by decide +kernel)
set_option maxRecDepth 100000 in
theorem kv_X7_inPlace : MLv yX7_inPlace := ⟨q9 1106 (by decide +kernel) (by decide +kernel), q8 41 (by decide +kernel) (by decide +kernel)⟩
set_option maxRecDepth 100000 in
theorem kc_X7_kills : Cond.code yX7_kills cX7_kills 3 none ∈ lw_good := q9 1111 (by decide +kernel) (by decide +kernel)
set_option maxRecDepth 100000 in
theorem kv_X7_kills : MLv yX7_kills := ⟨q9 1110 (by decide +kernel) (by decide +kernel), q8 42 (by decide +kernel) (by decide +kernel)⟩
set_option maxRecDepth 100000 in
theorem kc_X7_isWanted : Cond.code yX7_isWanted cX7_isWanted 3 (some .boolean) ∈ lw_good := q9 1115 (by decide +kernel) (by decide +kernel)
set_option maxRecDepth 100000 in
theorem kv_X7_isWanted : MLv yX7_isWanted := ⟨q9 1114 (by decide +kernel) (by decide +kernel), q8 43 (by decide +kernel) (by decide +kernel)⟩
set_option maxRecDepth 100000 in
theorem kc_X7_time : Cond.code yX7_time cX7_time 1 (some .int) ∈ lw_good := q9 1119 (by decide +kernel) (by decide +kernel)
set_option maxRecDepth 100000 in
theorem kv_X7_time : MLv yX7_time := ⟨q9 1117 (by decide +kernel) (by decide +kernel), q9 1118 (by decide +kernel) (by decide +kernel)⟩
set_option maxRecDepth 100000 in
theorem kc_X7_tells : Cond.code yX7_tells cX7_tells 2 (some .int) ∈ lw_good := q9 1123 (by decide +kernel) (by decide +kernel)
set_option maxRecDepth 100000 in
theorem kv_X7_tells : MLv yX7_tells := ⟨q9 1122 (by decide +kernel) (by decide +kernel), q8 44 (by decide +kernel) (by decide +kernel)⟩
set_option maxRecDepth 100000 in
theorem kc_X7_placeOf : Cond.code yX7_placeOf cX7_placeOf 3 (some .char) ∈ lw_good := q9 1127 (by decide +kernel) (by decide +kernel)
set_option maxRecDepth 100000 in
theorem kv_X7_placeOf : MLv yX7_placeOf := ⟨q9 1125 (by decide +kernel) (by decide +kernel), q9 1126 (by decide +kernel) (by decide +kernel)⟩
set_option maxRecDepth 100000 in
theorem kc_X7_placed : Cond.code yX7_placed cX7_placed 4 (some .char) ∈ lw_good := q9 1131 (by decide +kernel) (by decide +kernel)
set_option maxRecDepth 100000 in
theorem kv_X7_placed : MLv yX7_placed := ⟨q9 1130 (by decide +kernel) (by decide +kernel), q8 45 (by decide +kernel) (by decide +kernel)⟩
set_option maxRecDepth 100000 in
theorem kc_X7_placeByEvents : Cond.code yX7_placeByEvents cX7_placeByEvents 3 (some .char) ∈ lw_good := q9 1135 (by decide +kernel) (by decide +kernel)
set_option maxRecDepth 100000 in
theorem kv_X7_placeByEvents : MLv yX7_placeByEvents := ⟨q9 1133 (by decide +kernel) (by decide +kernel), q9 1134 (by decide +kernel) (by decide +kernel)⟩
set_option maxRecDepth 100000 in
theorem kc_X7_frameOf : Cond.code yX7_frameOf cX7_frameOf 3 (some .int) ∈ lw_good := q9 1139 (by decide +kernel) (by decide +kernel)
set_option maxRecDepth 100000 in
theorem kv_X7_frameOf : MLv yX7_frameOf := ⟨q9 1137 (by decide +kernel) (by decide +kernel), q9 1138 (by decide +kernel) (by decide +kernel)⟩
set_option maxRecDepth 100000 in
theorem kc_X7_isReferenced : Cond.code yX7_isReferenced cX7_isReferenced 3 (some .boolean) ∈ lw_good := q9 1143 (by decide +kernel) (by decide +kernel)
set_option maxRecDepth 100000 in
theorem kv_X7_isReferenced : MLv yX7_isReferenced := ⟨q9 1141 (by decide +kernel) (by decide +kernel), q9 1142 (by decide +kernel) (by decide +kernel)⟩
set_option maxRecDepth 100000 in
theorem kc_X7_hand : Cond.code yX7_hand cX7_hand 1 (some .int) ∈ lw_good := q9 1147 (by decide +kernel) (by decide +kernel)
set_option maxRecDepth 100000 in
theorem kv_X7_hand : MLv yX7_hand := ⟨q9 1145 (by decide +kernel) (by decide +kernel), q9 1146 (by decide +kernel) (by decide +kernel)⟩
set_option maxRecDepth 100000 in
theorem kc_X7_free : Cond.code yX7_free cX7_free 3 (some .int) ∈ lw_good := q9 1151 (by decide +kernel) (by decide +kernel)
set_option maxRecDepth 100000 in
theorem kv_X7_free : MLv yX7_free := ⟨q9 1149 (by decide +kernel) (by decide +kernel), q9 1150 (by decide +kernel) (by decide +kernel)⟩
set_option maxRecDepth 100000 in
theorem kc_X7_stored : Cond.code yX7_stored cX7_stored 1 (some .int) ∈ lw_good := q9 1155 (by decide +kernel) (by decide +kernel)
set_option maxRecDepth 100000 in
theorem kv_X7_stored : MLv yX7_stored := ⟨q9 1153 (by decide +kernel) (by decide +kernel), q9 1154 (by decide +kernel) (by decide +kernel)⟩
set_option maxRecDepth 100000 in
theorem kc_X7_storedAt : Cond.code yX7_storedAt cX7_storedAt 2 (some .int) ∈ lw_good := q9 1159 (by decide +kernel) (by decide +kernel)
set_option maxRecDepth 100000 in
theorem kv_X7_storedAt : MLv yX7_storedAt := ⟨q9 1157 (by decide +kernel) (by decide +kernel), q9 1158 (by decide +kernel) (by decide +kernel)⟩
set_option maxRecDepth 100000 in
theorem kc_X7_onDisk : Cond.code yX7_onDisk cX7_onDisk 3 (some .int) ∈ lw_good := q9 1163 (by decide +kernel) (by decide +kernel)
set_option maxRecDepth 100000 in
theorem kv_X7_onDisk : MLv yX7_onDisk := ⟨q9 1161 (by decide +kernel) (by decide +kernel), q9 1162 (by decide +kernel) (by decide +kernel)⟩
set_option maxRecDepth 100000 in
theorem kc_X7_pagesIn : Cond.code yX7_pagesIn cX7_pagesIn 4 (some .int) ∈ lw_good := q9 1167 (by decide +kernel) (by decide +kernel)
set_option maxRecDepth 100000 in
theorem kv_X7_pagesIn : MLv yX7_pagesIn := ⟨q9 1165 (by decide +kernel) (by decide +kernel), q9 1166 (by decide +kernel) (by decide +kernel)⟩
set_option maxRecDepth 100000 in
theorem kc_X7_pressure : Cond.code yX7_pressure cX7_pressure 1 (some .int) ∈ lw_good := q9 1171 (by decide +kernel) (by decide +kernel)
set_option maxRecDepth 100000 in
theorem kv_X7_pressure : MLv yX7_pressure := ⟨q9 1169 (by decide +kernel) (by decide +kernel), q9 1170 (by decide +kernel) (by decide +kernel)⟩
set_option maxRecDepth 100000 in
theorem kc_X7_stallsOf : Cond.code yX7_stallsOf cX7_stallsOf 2 (some .long) ∈ lw_good := q9 1175 (by decide +kernel) (by decide +kernel)
set_option maxRecDepth 100000 in
theorem kv_X7_stallsOf : MLv yX7_stallsOf := ⟨q9 1173 (by decide +kernel) (by decide +kernel), q9 1174 (by decide +kernel) (by decide +kernel)⟩
set_option maxRecDepth 100000 in
theorem kc_X7_isNobody : Cond.code yX7_isNobody cX7_isNobody 2 (some .boolean) ∈ lw_good := q9 1179 (by decide +kernel) (by decide +kernel)
set_option maxRecDepth 100000 in
theorem kv_X7_isNobody : MLv yX7_isNobody := ⟨q9 1178 (by decide +kernel) (by decide +kernel), q8 46 (by decide +kernel) (by decide +kernel)⟩
set_option maxRecDepth 100000 in
theorem kc_X7_stateOf : Cond.code yX7_stateOf cX7_stateOf 2 (some .char) ∈ lw_good := q9 1183 (by decide +kernel) (by decide +kernel)
set_option maxRecDepth 100000 in
theorem kv_X7_stateOf : MLv yX7_stateOf := ⟨q9 1181 (by decide +kernel) (by decide +kernel), q9 1182 (by decide +kernel) (by decide +kernel)⟩
set_option maxRecDepth 100000 in
theorem kc_X7_waitsFor : Cond.code yX7_waitsFor cX7_waitsFor 3 (some .int) ∈ lw_good := q9 1187 (by decide +kernel) (by decide +kernel)
set_option maxRecDepth 100000 in
theorem kv_X7_waitsFor : MLv yX7_waitsFor := ⟨q9 1185 (by decide +kernel) (by decide +kernel), q9 1186 (by decide +kernel) (by decide +kernel)⟩
set_option maxRecDepth 100000 in
theorem kc_X7_isNeeded : Cond.code yX7_isNeeded cX7_isNeeded 2 (some .boolean) ∈ lw_good := q9 1191 (by decide +kernel) (by decide +kernel)
set_option maxRecDepth 100000 in
theorem kv_X7_isNeeded : MLv yX7_isNeeded := ⟨q9 1189 (by decide +kernel) (by decide +kernel), q9 1190 (by decide +kernel) (by decide +kernel)⟩
set_option maxRecDepth 100000 in
theorem kc_X7_startsIn : Cond.code yX7_startsIn cX7_startsIn 3 (some .int) ∈ lw_good := q9 1195 (by decide +kernel) (by decide +kernel)
set_option maxRecDepth 100000 in
theorem kv_X7_startsIn : MLv yX7_startsIn := ⟨q9 1193 (by decide +kernel) (by decide +kernel), q9 1194 (by decide +kernel) (by decide +kernel)⟩
set_option maxRecDepth 100000 in
theorem kc_X7_starts : Cond.code yX7_starts cX7_starts 2 (some .int) ∈ lw_good := q9 1199 (by decide +kernel) (by decide +kernel)
set_option maxRecDepth 100000 in
theorem kv_X7_starts : MLv yX7_starts := ⟨q9 1197 (by decide +kernel) (by decide +kernel), q9 1198 (by decide +kernel) (by decide +kernel)⟩
set_option maxRecDepth 100000 in
theorem kc_X7_score : Cond.code yX7_score cX7_score 2 (some .int) ∈ lw_good := q9 1203 (by decide +kernel) (by decide +kernel)
set_option maxRecDepth 100000 in
theorem kv_X7_score : MLv yX7_score := ⟨q9 1201 (by decide +kernel) (by decide +kernel), q9 1202 (by decide +kernel) (by decide +kernel)⟩
set_option maxRecDepth 100000 in
theorem kc_X7_victim : Cond.code yX7_victim cX7_victim 1 (some .int) ∈ lw_good := q9 1207 (by decide +kernel) (by decide +kernel)
set_option maxRecDepth 100000 in
theorem kv_X7_victim : MLv yX7_victim := ⟨q9 1205 (by decide +kernel) (by decide +kernel), q9 1206 (by decide +kernel) (by decide +kernel)⟩
set_option maxRecDepth 100000 in
theorem kc_X7_deaths : Cond.code yX7_deaths cX7_deaths 1 (some .int) ∈ lw_good := q9 1211 (by decide +kernel) (by decide +kernel)
set_option maxRecDepth 100000 in
theorem kv_X7_deaths : MLv yX7_deaths := ⟨q9 1209 (by decide +kernel) (by decide +kernel), q9 1210 (by decide +kernel) (by decide +kernel)⟩
set_option maxRecDepth 100000 in
theorem kc_X7_smoothShare : Cond.code yX7_smoothShare cX7_smoothShare 1 (some .float) ∈ lw_good := q9 1215 (by decide +kernel) (by decide +kernel)
set_option maxRecDepth 100000 in
theorem kv_X7_smoothShare : MLv yX7_smoothShare := ⟨q9 1213 (by decide +kernel) (by decide +kernel), q9 1214 (by decide +kernel) (by decide +kernel)⟩
set_option maxRecDepth 100000 in
theorem kc_X7_meanStalls : Cond.code yX7_meanStalls cX7_meanStalls 1 (some .double) ∈ lw_good := q9 1219 (by decide +kernel) (by decide +kernel)
set_option maxRecDepth 100000 in
theorem kv_X7_meanStalls : MLv yX7_meanStalls := ⟨q9 1217 (by decide +kernel) (by decide +kernel), q9 1218 (by decide +kernel) (by decide +kernel)⟩
set_option maxRecDepth 100000 in
theorem kc_X7_isSound : Cond.code yX7_isSound cX7_isSound 4 (some .boolean) ∈ lw_good := q9 1223 (by decide +kernel) (by decide +kernel)
set_option maxRecDepth 100000 in
theorem kv_X7_isSound : MLv yX7_isSound := ⟨q9 1221 (by decide +kernel) (by decide +kernel), q9 1222 (by decide +kernel) (by decide +kernel)⟩
set_option maxRecDepth 100000 in
theorem kh_L_addService : Cond.codeWith yL_addService cL_addService 6 (some .int) [((0), (12), (15), (13)), ((0), (12), (19), (15))] ∈ lw_good := q9 254 (by decide +kernel) (by decide +kernel)
set_option maxRecDepth 100000 in
theorem ks_L_addService : Cond.static yL_addService ∈ lw_good := q9 253 (by decide +kernel) (by decide +kernel)
set_option maxRecDepth 100000 in
theorem kh_L_addNeed : Cond.codeWith yL_addNeed cL_addNeed 5 (some .int) [((0), (10), (13), (21)), ((0), (10), (17), (13)), ((0), (10), (21), (23))] ∈ lw_good := q9 492 (by decide +kernel) (by decide +kernel)
set_option maxRecDepth 100000 in
theorem ks_L_addNeed : Cond.static yL_addNeed ∈ lw_good := q9 491 (by decide +kernel) (by decide +kernel)
set_option maxRecDepth 100000 in
theorem kh_L_setSize : Cond.codeWith yL_setSize cL_setSize 6 (some .int) [((0), (12), (15), (21)), ((0), (12), (19), (13)), ((0), (12), (23), (15))] ∈ lw_good := q9 572 (by decide +kernel) (by decide +kernel)
set_option maxRecDepth 100000 in
theorem ks_L_setSize : Cond.static yL_setSize ∈ lw_good := q9 571 (by decide +kernel) (by decide +kernel)
set_option maxRecDepth 100000 in
theorem kh_L_setFrames : Cond.codeWith yL_setFrames cL_setFrames 4 (some .int) [((0), (9), (12), (13))] ∈ lw_good := q9 585 (by decide +kernel) (by decide +kernel)
set_option maxRecDepth 100000 in
theorem ks_L_setFrames : Cond.static yL_setFrames ∈ lw_good := q9 584 (by decide +kernel) (by decide +kernel)
set_option maxRecDepth 100000 in
theorem kh_L_setRoom : Cond.codeWith yL_setRoom cL_setRoom 4 (some .int) [((0), (9), (12), (13))] ∈ lw_good := q9 627 (by decide +kernel) (by decide +kernel)
set_option maxRecDepth 100000 in
theorem ks_L_setRoom : Cond.static yL_setRoom ∈ lw_good := q9 626 (by decide +kernel) (by decide +kernel)
set_option maxRecDepth 100000 in
theorem kh_L_setLimit : Cond.codeWith yL_setLimit cL_setLimit 4 (some .int) [((0), (9), (12), (13))] ∈ lw_good := q9 635 (by decide +kernel) (by decide +kernel)
set_option maxRecDepth 100000 in
theorem ks_L_setLimit : Cond.static yL_setLimit ∈ lw_good := q9 634 (by decide +kernel) (by decide +kernel)
set_option maxRecDepth 100000 in
theorem kh_L_touch : Cond.codeWith yL_touch cL_touch 5 (some .int) [((0), (10), (13), (21)), ((0), (10), (17), (15))] ∈ lw_good := q9 642 (by decide +kernel) (by decide +kernel)
set_option maxRecDepth 100000 in
theorem ks_L_touch : Cond.static yL_touch ∈ lw_good := q9 641 (by decide +kernel) (by decide +kernel)
set_option maxRecDepth 100000 in
theorem kh_L_tick : Cond.codeWith yL_tick cL_tick 4 (some .int) [((0), (9), (12), (13))] ∈ lw_good := q9 703 (by decide +kernel) (by decide +kernel)
set_option maxRecDepth 100000 in
theorem ks_L_tick : Cond.static yL_tick ∈ lw_good := q9 702 (by decide +kernel) (by decide +kernel)
set_option maxRecDepth 100000 in
theorem kh_L_placeOf : Cond.codeWith yL_placeOf cL_placeOf 5 (some .int) [((0), (10), (13), (21))] ∈ lw_good := q9 748 (by decide +kernel) (by decide +kernel)
set_option maxRecDepth 100000 in
theorem ks_L_placeOf : Cond.static yL_placeOf ∈ lw_good := q9 747 (by decide +kernel) (by decide +kernel)
set_option maxRecDepth 100000 in
theorem kh_L_placeByEvents : Cond.codeWith yL_placeByEvents cL_placeByEvents 5 (some .int) [((0), (10), (13), (21))] ∈ lw_good := q9 755 (by decide +kernel) (by decide +kernel)
set_option maxRecDepth 100000 in
theorem ks_L_placeByEvents : Cond.static yL_placeByEvents ∈ lw_good := q9 754 (by decide +kernel) (by decide +kernel)
set_option maxRecDepth 100000 in
theorem kh_L_frameOf : Cond.codeWith yL_frameOf cL_frameOf 5 (some .int) [((0), (10), (13), (21)), ((0), (10), (17), (55))] ∈ lw_good := q9 762 (by decide +kernel) (by decide +kernel)
set_option maxRecDepth 100000 in
theorem ks_L_frameOf : Cond.static yL_frameOf ∈ lw_good := q9 761 (by decide +kernel) (by decide +kernel)
set_option maxRecDepth 100000 in
theorem kh_L_isReferenced : Cond.codeWith yL_isReferenced cL_isReferenced 5 (some .int) [((0), (17), (20), (21))] ∈ lw_good := q9 786 (by decide +kernel) (by decide +kernel)
set_option maxRecDepth 100000 in
theorem ks_L_isReferenced : Cond.static yL_isReferenced ∈ lw_good := q9 785 (by decide +kernel) (by decide +kernel)
set_option maxRecDepth 100000 in
theorem kh_L_storedAt : Cond.codeWith yL_storedAt cL_storedAt 4 (some .int) [((0), (9), (12), (55))] ∈ lw_good := q9 793 (by decide +kernel) (by decide +kernel)
set_option maxRecDepth 100000 in
theorem ks_L_storedAt : Cond.static yL_storedAt ∈ lw_good := q9 792 (by decide +kernel) (by decide +kernel)
set_option maxRecDepth 100000 in
theorem kh_L_pagesIn : Cond.codeWith yL_pagesIn cL_pagesIn 5 (some .int) [((0), (10), (13), (21)), ((0), (10), (17), (13))] ∈ lw_good := q9 802 (by decide +kernel) (by decide +kernel)
set_option maxRecDepth 100000 in
theorem ks_L_pagesIn : Cond.static yL_pagesIn ∈ lw_good := q9 801 (by decide +kernel) (by decide +kernel)
set_option maxRecDepth 100000 in
theorem kh_L_stallsOf : Cond.codeWith yL_stallsOf cL_stallsOf 4 (some .int) [((0), (8), (11), (21))] ∈ lw_good := q9 810 (by decide +kernel) (by decide +kernel)
set_option maxRecDepth 100000 in
theorem ks_L_stallsOf : Cond.static yL_stallsOf ∈ lw_good := q9 809 (by decide +kernel) (by decide +kernel)
set_option maxRecDepth 100000 in
theorem kh_L_stateOf : Cond.codeWith yL_stateOf cL_stateOf 4 (some .int) [((0), (9), (12), (21))] ∈ lw_good := q9 817 (by decide +kernel) (by decide +kernel)
set_option maxRecDepth 100000 in
theorem ks_L_stateOf : Cond.static yL_stateOf ∈ lw_good := q9 816 (by decide +kernel) (by decide +kernel)
set_option maxRecDepth 100000 in
theorem kh_L_waitsFor : Cond.codeWith yL_waitsFor cL_waitsFor 4 (some .int) [((0), (9), (12), (21)), ((0), (9), (15), (55))] ∈ lw_good := q9 824 (by decide +kernel) (by decide +kernel)
set_option maxRecDepth 100000 in
theorem ks_L_waitsFor : Cond.static yL_waitsFor ∈ lw_good := q9 823 (by decide +kernel) (by decide +kernel)
set_option maxRecDepth 100000 in
theorem kh_L_isNeeded : Cond.codeWith yL_isNeeded cL_isNeeded 4 (some .int) [((0), (16), (19), (21))] ∈ lw_good := q9 832 (by decide +kernel) (by decide +kernel)
set_option maxRecDepth 100000 in
theorem ks_L_isNeeded : Cond.static yL_isNeeded ∈ lw_good := q9 831 (by decide +kernel) (by decide +kernel)
set_option maxRecDepth 100000 in
theorem kh_L_startsIn : Cond.codeWith yL_startsIn cL_startsIn 4 (some .int) [((0), (9), (12), (21)), ((0), (9), (15), (15))] ∈ lw_good := q9 839 (by decide +kernel) (by decide +kernel)
set_option maxRecDepth 100000 in
theorem ks_L_startsIn : Cond.static yL_startsIn ∈ lw_good := q9 838 (by decide +kernel) (by decide +kernel)
set_option maxRecDepth 100000 in
theorem kh_L_starts : Cond.codeWith yL_starts cL_starts 4 (some .int) [((0), (9), (12), (21))] ∈ lw_good := q9 848 (by decide +kernel) (by decide +kernel)
set_option maxRecDepth 100000 in
theorem ks_L_starts : Cond.static yL_starts ∈ lw_good := q9 847 (by decide +kernel) (by decide +kernel)
set_option maxRecDepth 100000 in
theorem kh_L_score : Cond.codeWith yL_score cL_score 4 (some .int) [((0), (9), (12), (21))] ∈ lw_good := q9 855 (by decide +kernel) (by decide +kernel)
set_option maxRecDepth 100000 in
theorem ks_L_score : Cond.static yL_score ∈ lw_good := q9 854 (by decide +kernel) (by decide +kernel)
set_option maxRecDepth 100000 in
theorem kh_L_victim : Cond.codeWith yL_victim cL_victim 3 (some .int) [((0), (8), (11), (55))] ∈ lw_good := q9 862 (by decide +kernel) (by decide +kernel)
set_option maxRecDepth 100000 in
theorem ks_L_victim : Cond.static yL_victim ∈ lw_good := q9 861 (by decide +kernel) (by decide +kernel)
set_option maxRecDepth 100000 in
theorem kh_L_smoothShare : Cond.codeWith yL_smoothShare cL_smoothShare 3 (some .int) [((0), (8), (11), (100))] ∈ lw_good := q9 870 (by decide +kernel) (by decide +kernel)
set_option maxRecDepth 100000 in
theorem ks_L_smoothShare : Cond.static yL_smoothShare ∈ lw_good := q9 869 (by decide +kernel) (by decide +kernel)
set_option maxRecDepth 100000 in
theorem kh_L_meanStalls : Cond.codeWith yL_meanStalls cL_meanStalls 3 (some .int) [((0), (7), (10), (100))] ∈ lw_good := q9 894 (by decide +kernel) (by decide +kernel)
set_option maxRecDepth 100000 in
theorem ks_L_meanStalls : Cond.static yL_meanStalls ∈ lw_good := q9 893 (by decide +kernel) (by decide +kernel)
set_option maxRecDepth 100000 in
theorem kl_L_8 : Cond.classLink RL 8 "Swapyard" ∈ lw_good := q9 30 (by decide +kernel) (by decide +kernel)
set_option maxRecDepth 100000 in
theorem kl_X6_9 : Cond.classLink RX6 9 "Swapyard$History" ∈ lw_good := q9 38 (by decide +kernel) (by decide +kernel)
set_option maxRecDepth 100000 in
theorem kl_X6_16 : Cond.classLink RX6 16 "Swapyard$Frames" ∈ lw_good := q9 56 (by decide +kernel) (by decide +kernel)
set_option maxRecDepth 100000 in
theorem kl_X0_9 : Cond.classLink RX0 9 "Swapyard$Page" ∈ lw_good := q9 62 (by decide +kernel) (by decide +kernel)
set_option maxRecDepth 100000 in
theorem kl_X6_23 : Cond.classLink RX6 23 "Swapyard$Store" ∈ lw_good := q9 76 (by decide +kernel) (by decide +kernel)
set_option maxRecDepth 100000 in
theorem kl_X5_9 : Cond.classLink RX5 9 "java/util/ArrayList" ∈ lw_good := q9 82 (by decide +kernel) (by decide +kernel)
set_option maxRecDepth 100000 in
theorem kl_X6_30 : Cond.classLink RX6 30 "Swapyard$RecentStalls" ∈ lw_good := q9 117 (by decide +kernel) (by decide +kernel)
set_option maxRecDepth 100000 in
theorem kl_X6_37 : Cond.classLink RX6 37 "java/util/ArrayList" ∈ lw_good := q9 127 (by decide +kernel) (by decide +kernel)
set_option maxRecDepth 100000 in
theorem kl_X5_30 : Cond.classLink RX5 30 "Swapyard$Page" ∈ lw_good := q9 205 (by decide +kernel) (by decide +kernel)
set_option maxRecDepth 100000 in
theorem kl_X6_68 : Cond.classLink RX6 68 "Swapyard$Service" ∈ lw_good := q9 212 (by decide +kernel) (by decide +kernel)
set_option maxRecDepth 100000 in
theorem kl_L_13 : Cond.classLink RL 13 "java/lang/IllegalArgumentException" ∈ lw_good := q9 255 (by decide +kernel) (by decide +kernel)
set_option maxRecDepth 100000 in
theorem kl_L_15 : Cond.classLink RL 15 "java/lang/IllegalStateException" ∈ lw_good := q9 256 (by decide +kernel) (by decide +kernel)
set_option maxRecDepth 100000 in
theorem kl_X6_52 : Cond.classLink RX6 52 "java/lang/IllegalArgumentException" ∈ lw_good := q9 264 (by decide +kernel) (by decide +kernel)
set_option maxRecDepth 100000 in
theorem kl_X6_63 : Cond.classLink RX6 63 "java/lang/IllegalStateException" ∈ lw_good := q9 337 (by decide +kernel) (by decide +kernel)
set_option maxRecDepth 100000 in
theorem kl_X4_9 : Cond.classLink RX4 9 "Swapyard$Page" ∈ lw_good := q9 358 (by decide +kernel) (by decide +kernel)
set_option maxRecDepth 100000 in
theorem kl_J7_110 : Cond.classLink RJ7 110 "[Ljava/lang/Object;" ∈ lw_good := q9 479 (by decide +kernel) (by decide +kernel)
set_option maxRecDepth 100000 in
theorem kl_J7_2 : Cond.classLink RJ7 2 "java/lang/Object" ∈ lw_good := q9 481 (by decide +kernel) (by decide +kernel)
set_option maxRecDepth 100000 in
theorem kl_Jx4a65c_7 : Cond.classLink RJx4a65c 7 "java/lang/Object" ∈ lw_good := q9 489 (by decide +kernel) (by decide +kernel)
set_option maxRecDepth 100000 in
theorem kl_L_21 : Cond.classLink RL 21 "java/lang/IndexOutOfBoundsException" ∈ lw_good := q9 493 (by decide +kernel) (by decide +kernel)
set_option maxRecDepth 100000 in
theorem kl_L_23 : Cond.classLink RL 23 "java/lang/UnsupportedOperationException" ∈ lw_good := q9 517 (by decide +kernel) (by decide +kernel)
set_option maxRecDepth 100000 in
theorem kl_X6_274 : Cond.classLink RX6 274 "java/lang/IndexOutOfBoundsException" ∈ lw_good := q9 530 (by decide +kernel) (by decide +kernel)
set_option maxRecDepth 100000 in
theorem kl_X6_95 : Cond.classLink RX6 95 "java/lang/UnsupportedOperationException" ∈ lw_good := q9 548 (by decide +kernel) (by decide +kernel)
set_option maxRecDepth 100000 in
theorem kl_L_55 : Cond.classLink RL 55 "java/util/NoSuchElementException" ∈ lw_good := q9 763 (by decide +kernel) (by decide +kernel)
set_option maxRecDepth 100000 in
theorem kl_X6_178 : Cond.classLink RX6 178 "java/util/NoSuchElementException" ∈ lw_good := q9 768 (by decide +kernel) (by decide +kernel)
set_option maxRecDepth 100000 in
theorem kl_X6_113 : Cond.classLink RX6 113 "Swapyard$Page" ∈ lw_good := q9 799 (by decide +kernel) (by decide +kernel)
set_option maxRecDepth 100000 in
theorem kl_L_100 : Cond.classLink RL 100 "java/lang/ArithmeticException" ∈ lw_good := q9 871 (by decide +kernel) (by decide +kernel)
set_option maxRecDepth 100000 in
theorem kl_X6_254 : Cond.classLink RX6 254 "java/lang/ArithmeticException" ∈ lw_good := q9 889 (by decide +kernel) (by decide +kernel)
set_option maxRecDepth 100000 in
theorem kl_L_107 : Cond.classLink RL 107 "SwapyardModel" ∈ lw_good := q9 899 (by decide +kernel) (by decide +kernel)
set_option maxRecDepth 100000 in
theorem kn_L_8 : NWk RL 8 9 11 [vR none, vR none, vR none, vR none, vR none, vI 0, vI 0, vI 0, vI 0, vI 0, vL 0] := ⟨_, _, tyX6, vcX6, inX6, tyX6_ok, kl_L_8, q9 31 (by decide +kernel) (by decide +kernel), q9 1 (by decide +kernel) (by decide +kernel), fun ad j hj => match j, hj with | 0, _ => rfl | 1, _ => rfl | 2, _ => rfl | 3, _ => rfl | 4, _ => rfl | 5, _ => rfl | 6, _ => rfl | 7, _ => rfl | 8, _ => rfl | 9, _ => rfl | 10, _ => rfl, by decide⟩
set_option maxRecDepth 100000 in
theorem kn_X6_9 : NWk RX6 9 4 3 [vR none, vI 0, vR none] := ⟨_, _, tyX1, vcX1, inX1, tyX1_ok, kl_X6_9, q9 39 (by decide +kernel) (by decide +kernel), q9 2 (by decide +kernel) (by decide +kernel), fun ad j hj => match j, hj with | 0, _ => rfl | 1, _ => rfl | 2, _ => rfl, by decide⟩
set_option maxRecDepth 100000 in
theorem kn_X6_16 : NWk RX6 16 3 3 [vR none, vI 0, vI 0] := ⟨_, _, tyX0, vcX0, inX0, tyX0_ok, kl_X6_16, q9 57 (by decide +kernel) (by decide +kernel), q9 3 (by decide +kernel) (by decide +kernel), fun ad j hj => match j, hj with | 0, _ => rfl | 1, _ => rfl | 2, _ => rfl, by decide⟩
set_option maxRecDepth 100000 in
theorem kn_X0_9 : NWk RX0 9 5 6 [vI 0, vR none, vI 0, vI 0, vI 0, vI 0] := ⟨_, _, tyX2, vcX2, inX2, tyX2_ok, kl_X0_9, q9 359 (by decide +kernel) (by decide +kernel), q9 16 (by decide +kernel) (by decide +kernel), fun ad j hj => match j, hj with | 0, _ => rfl | 1, _ => rfl | 2, _ => rfl | 3, _ => rfl | 4, _ => rfl | 5, _ => rfl, by decide⟩
set_option maxRecDepth 100000 in
theorem kn_X6_23 : NWk RX6 23 8 2 [vR none, vI 0] := ⟨_, _, tyX5, vcX5, inX5, tyX5_ok, kl_X6_23, q9 77 (by decide +kernel) (by decide +kernel), q9 4 (by decide +kernel) (by decide +kernel), fun ad j hj => match j, hj with | 0, _ => rfl | 1, _ => rfl, by decide⟩
set_option maxRecDepth 100000 in
theorem kn_X5_9 : NWk RX5 9 2 3 [vI 0, vR none, vI 0] := ⟨_, _, tyJx4a65c, vcJx4a65c, inJx4a65c, tyJx4a65c_ok, kl_X5_9, q9 83 (by decide +kernel) (by decide +kernel), q9 7 (by decide +kernel) (by decide +kernel), fun ad j hj => match j, hj with | 0, _ => rfl | 1, _ => rfl | 2, _ => rfl, by decide⟩
set_option maxRecDepth 100000 in
theorem kn_X6_30 : NWk RX6 30 6 1 [vR none] := ⟨_, _, tyX3, vcX3, inX3, tyX3_ok, kl_X6_30, q9 118 (by decide +kernel) (by decide +kernel), q9 8 (by decide +kernel) (by decide +kernel), fun ad j hj => match j, hj with | 0, _ => rfl, by decide⟩
set_option maxRecDepth 100000 in
theorem kn_X6_37 : NWk RX6 37 2 3 [vI 0, vR none, vI 0] := ⟨_, _, tyJx4a65c, vcJx4a65c, inJx4a65c, tyJx4a65c_ok, kl_X6_37, q9 83 (by decide +kernel) (by decide +kernel), q9 7 (by decide +kernel) (by decide +kernel), fun ad j hj => match j, hj with | 0, _ => rfl | 1, _ => rfl | 2, _ => rfl, by decide⟩
set_option maxRecDepth 100000 in
theorem kn_X5_30 : NWk RX5 30 5 6 [vI 0, vR none, vI 0, vI 0, vI 0, vI 0] := ⟨_, _, tyX2, vcX2, inX2, tyX2_ok, kl_X5_30, q9 359 (by decide +kernel) (by decide +kernel), q9 16 (by decide +kernel) (by decide +kernel), fun ad j hj => match j, hj with | 0, _ => rfl | 1, _ => rfl | 2, _ => rfl | 3, _ => rfl | 4, _ => rfl | 5, _ => rfl, by decide⟩
set_option maxRecDepth 100000 in
theorem kn_X6_68 : NWk RX6 68 7 10 [vI 0, vI 0, vI 0, vI 0, vR none, vI 0, vI 0, vI 0, vI 0, vL 0] := ⟨_, _, tyX4, vcX4, inX4, tyX4_ok, kl_X6_68, q9 353 (by decide +kernel) (by decide +kernel), q9 15 (by decide +kernel) (by decide +kernel), fun ad j hj => match j, hj with | 0, _ => rfl | 1, _ => rfl | 2, _ => rfl | 3, _ => rfl | 4, _ => rfl | 5, _ => rfl | 6, _ => rfl | 7, _ => rfl | 8, _ => rfl | 9, _ => rfl, by decide⟩
set_option maxRecDepth 100000 in
theorem kn_X4_9 : NWk RX4 9 5 6 [vI 0, vR none, vI 0, vI 0, vI 0, vI 0] := ⟨_, _, tyX2, vcX2, inX2, tyX2_ok, kl_X4_9, q9 359 (by decide +kernel) (by decide +kernel), q9 16 (by decide +kernel) (by decide +kernel), fun ad j hj => match j, hj with | 0, _ => rfl | 1, _ => rfl | 2, _ => rfl | 3, _ => rfl | 4, _ => rfl | 5, _ => rfl, by decide⟩
set_option maxRecDepth 100000 in
theorem kn_X6_113 : NWk RX6 113 5 6 [vI 0, vR none, vI 0, vI 0, vI 0, vI 0] := ⟨_, _, tyX2, vcX2, inX2, tyX2_ok, kl_X6_113, q9 359 (by decide +kernel) (by decide +kernel), q9 16 (by decide +kernel) (by decide +kernel), fun ad j hj => match j, hj with | 0, _ => rfl | 1, _ => rfl | 2, _ => rfl | 3, _ => rfl | 4, _ => rfl | 5, _ => rfl, by decide⟩
set_option maxRecDepth 100000 in
theorem kn_L_107 : NWk RL 107 10 27 [vI 0, vR none, vR none, vR none, vR none, vR none, vR none, vR none, vR none, vR none, vR none, vI 0, vR none, vR none, vI 0, vI 0, vI 0, vR none, vI 0, vI 0, vR none, vI 0, vI 0, vI 0, vL 0, vI 0, vI 0] := ⟨_, _, tyX7, vcX7, inX7, tyX7_ok, kl_L_107, q9 900 (by decide +kernel) (by decide +kernel), q9 9 (by decide +kernel) (by decide +kernel), fun ad j hj => match j, hj with | 0, _ => rfl | 1, _ => rfl | 2, _ => rfl | 3, _ => rfl | 4, _ => rfl | 5, _ => rfl | 6, _ => rfl | 7, _ => rfl | 8, _ => rfl | 9, _ => rfl | 10, _ => rfl | 11, _ => rfl | 12, _ => rfl | 13, _ => rfl | 14, _ => rfl | 15, _ => rfl | 16, _ => rfl | 17, _ => rfl | 18, _ => rfl | 19, _ => rfl | 20, _ => rfl | 21, _ => rfl | 22, _ => rfl | 23, _ => rfl | 24, _ => rfl | 25, _ => rfl | 26, _ => rfl | n + 27, h => absurd h (by omega), by decide⟩
set_option maxRecDepth 100000 in
theorem ka_int : Cond.arrayClass .int ∈ lw_good := q9 54 (by decide +kernel) (by decide +kernel)
set_option maxRecDepth 100000 in
theorem ka_char : Cond.arrayClass .char ∈ lw_good := q9 55 (by decide +kernel) (by decide +kernel)
set_option maxRecDepth 100000 in
theorem ka_byte : Cond.arrayClass .byte ∈ lw_good := q9 335 (by decide +kernel) (by decide +kernel)
set_option maxRecDepth 100000 in
theorem ka_boolean : Cond.arrayClass .boolean ∈ lw_good := q9 987 (by decide +kernel) (by decide +kernel)
set_option maxRecDepth 100000 in
theorem ka_long : Cond.arrayClass .long ∈ lw_good := q9 988 (by decide +kernel) (by decide +kernel)
set_option maxRecDepth 100000 in
theorem ka_double : Cond.arrayClass .double ∈ lw_good := q9 1224 (by decide +kernel) (by decide +kernel)
set_option maxRecDepth 100000 in
theorem kk_J8_200 : Cond.constant RJ8 200 (2147483639) ∈ lw_good := q9 449 (by decide +kernel) (by decide +kernel)
set_option maxRecDepth 100000 in
theorem kk_J6_265 : Cond.constant RJ6 265 (1431655765) ∈ lw_good := q9 567 (by decide +kernel) (by decide +kernel)
set_option maxRecDepth 100000 in
theorem kk_J6_266 : Cond.constant RJ6 266 (858993459) ∈ lw_good := q9 568 (by decide +kernel) (by decide +kernel)
set_option maxRecDepth 100000 in
theorem kk_J6_267 : Cond.constant RJ6 267 (252645135) ∈ lw_good := q9 569 (by decide +kernel) (by decide +kernel)
set_option maxRecDepth 100000 in
theorem ko_1 : Cond.instanceMethod Lib.objectInit ∈ lw_good := q9 36 (by decide +kernel) (by decide +kernel)
set_option maxRecDepth 100000 in
theorem ko_2 : Cond.code Lib.objectInit ⟨#[0xb1]⟩ 1 none ∈ lw_good := q9 37 (by decide +kernel) (by decide +kernel)
set_option maxRecDepth 100000 in
theorem kb_X6_3 : Cond.methodLink RX6 3 Lib.objectInit ∈ lw_good := q9 35 (by decide +kernel) (by decide +kernel)
set_option maxRecDepth 100000 in
theorem kb_X1_3 : Cond.methodLink RX1 3 Lib.objectInit ∈ lw_good := q9 43 (by decide +kernel) (by decide +kernel)
set_option maxRecDepth 100000 in
theorem kb_X0_3 : Cond.methodLink RX0 3 Lib.objectInit ∈ lw_good := q9 61 (by decide +kernel) (by decide +kernel)
set_option maxRecDepth 100000 in
theorem kb_X5_3 : Cond.methodLink RX5 3 Lib.objectInit ∈ lw_good := q9 81 (by decide +kernel) (by decide +kernel)
set_option maxRecDepth 100000 in
theorem kb_Jxa1e45_1 : Cond.methodLink RJxa1e45 1 Lib.objectInit ∈ lw_good := q9 93 (by decide +kernel) (by decide +kernel)
set_option maxRecDepth 100000 in
theorem kb_X3_1 : Cond.methodLink RX3 1 Lib.objectInit ∈ lw_good := q9 122 (by decide +kernel) (by decide +kernel)
set_option maxRecDepth 100000 in
theorem kb_X4_3 : Cond.methodLink RX4 3 Lib.objectInit ∈ lw_good := q9 357 (by decide +kernel) (by decide +kernel)
set_option maxRecDepth 100000 in
theorem kb_X2_3 : Cond.methodLink RX2 3 Lib.objectInit ∈ lw_good := q9 363 (by decide +kernel) (by decide +kernel)
set_option maxRecDepth 100000 in
theorem kb_X7_1 : Cond.methodLink RX7 1 Lib.objectInit ∈ lw_good := q9 904 (by decide +kernel) (by decide +kernel)
set_option maxRecDepth 100000 in
theorem kt_52_56 : TLk 52 56 "java/lang/IllegalArgumentException" := ⟨by decide, kl_X6_52, q9 13 (by decide +kernel) (by decide +kernel), by decide, by decide +kernel, by decide +kernel, by decide +kernel⟩
set_option maxRecDepth 100000 in
theorem kt_63_67 : TLk 63 67 "java/lang/IllegalStateException" := ⟨by decide, kl_X6_63, q9 14 (by decide +kernel) (by decide +kernel), by decide, by decide +kernel, by decide +kernel, by decide +kernel⟩
set_option maxRecDepth 100000 in
theorem kt_274_278 : TLk 274 278 "java/lang/IndexOutOfBoundsException" := ⟨by decide, kl_X6_274, q9 21 (by decide +kernel) (by decide +kernel), by decide, by decide +kernel, by decide +kernel, by decide +kernel⟩
set_option maxRecDepth 100000 in
theorem kt_95_99 : TLk 95 99 "java/lang/UnsupportedOperationException" := ⟨by decide, kl_X6_95, q9 26 (by decide +kernel) (by decide +kernel), by decide, by decide +kernel, by decide +kernel, by decide +kernel⟩
set_option maxRecDepth 100000 in
theorem kt_254_258 : TLk 254 258 "java/lang/ArithmeticException" := ⟨by decide, kl_X6_254, q9 29 (by decide +kernel) (by decide +kernel), by decide, by decide +kernel, by decide +kernel, by decide +kernel⟩
