set_option maxRecDepth 20000 in
theorem uw_X0 : ∀ w ∈ u_ws RX0 TX0 7, w ∈ AW := by
  intro w hw
  simp only [u_ws, List.mem_map, List.mem_range] at hw
  obtain ⟨k, hk, rfl⟩ := hw
  match k, hk with
  | 0, _ => exact aw1 (i := 181) rfl rfl
  | 1, _ => exact aw1 (i := 183) rfl rfl
  | 2, _ => exact aw1 (i := 185) rfl rfl
  | 3, _ => exact aw1 (i := 187) rfl rfl
  | 4, _ => exact aw1 (i := 189) rfl rfl
  | 5, _ => exact aw1 (i := 191) rfl rfl
  | 6, _ => exact aw1 (i := 193) rfl rfl
  | k + 7, hk => exact absurd hk (by omega)
set_option maxRecDepth 20000 in
theorem uw_X1 : ∀ w ∈ u_ws RX1 TX1 11, w ∈ AW := by
  intro w hw
  simp only [u_ws, List.mem_map, List.mem_range] at hw
  obtain ⟨k, hk, rfl⟩ := hw
  match k, hk with
  | 0, _ => exact aw1 (i := 67) rfl rfl
  | 1, _ => exact aw1 (i := 69) rfl rfl
  | 2, _ => exact aw1 (i := 71) rfl rfl
  | 3, _ => exact aw1 (i := 73) rfl rfl
  | 4, _ => exact aw1 (i := 75) rfl rfl
  | 5, _ => exact aw1 (i := 77) rfl rfl
  | 6, _ => exact aw1 (i := 79) rfl rfl
  | 7, _ => exact aw1 (i := 81) rfl rfl
  | 8, _ => exact aw1 (i := 83) rfl rfl
  | 9, _ => exact aw1 (i := 85) rfl rfl
  | 10, _ => exact aw1 (i := 87) rfl rfl
  | k + 11, hk => exact absurd hk (by omega)
set_option maxRecDepth 20000 in
theorem uw_X2 : ∀ w ∈ u_ws RX2 TX2 5, w ∈ AW := by
  intro w hw
  simp only [u_ws, List.mem_map, List.mem_range] at hw
  obtain ⟨k, hk, rfl⟩ := hw
  match k, hk with
  | 0, _ => exact aw1 (i := 135) rfl rfl
  | 1, _ => exact aw1 (i := 137) rfl rfl
  | 2, _ => exact aw1 (i := 139) rfl rfl
  | 3, _ => exact aw1 (i := 141) rfl rfl
  | 4, _ => exact aw1 (i := 143) rfl rfl
  | k + 5, hk => exact absurd hk (by omega)
set_option maxRecDepth 20000 in
theorem uw_X3 : ∀ w ∈ u_ws RX3 TX3 5, w ∈ AW := by
  intro w hw
  simp only [u_ws, List.mem_map, List.mem_range] at hw
  obtain ⟨k, hk, rfl⟩ := hw
  match k, hk with
  | 0, _ => exact aw1 (i := 211) rfl rfl
  | 1, _ => exact aw1 (i := 213) rfl rfl
  | 2, _ => exact aw1 (i := 215) rfl rfl
  | 3, _ => exact aw1 (i := 217) rfl rfl
  | 4, _ => exact aw1 (i := 219) rfl rfl
  | k + 5, hk => exact absurd hk (by omega)
set_option maxRecDepth 20000 in
theorem uw_X4 : ∀ w ∈ u_ws RX4 TX4 8, w ∈ AW := by
  intro w hw
  simp only [u_ws, List.mem_map, List.mem_range] at hw
  obtain ⟨k, hk, rfl⟩ := hw
  match k, hk with
  | 0, _ => exact aw1 (i := 107) rfl rfl
  | 1, _ => exact aw1 (i := 109) rfl rfl
  | 2, _ => exact aw1 (i := 111) rfl rfl
  | 3, _ => exact aw1 (i := 113) rfl rfl
  | 4, _ => exact aw1 (i := 115) rfl rfl
  | 5, _ => exact aw1 (i := 117) rfl rfl
  | 6, _ => exact aw1 (i := 119) rfl rfl
  | 7, _ => exact aw1 (i := 121) rfl rfl
  | k + 8, hk => exact absurd hk (by omega)
set_option maxRecDepth 20000 in
theorem uw_X5 : ∀ w ∈ u_ws RX5 TX5 3, w ∈ AW := by
  intro w hw
  simp only [u_ws, List.mem_map, List.mem_range] at hw
  obtain ⟨k, hk, rfl⟩ := hw
  match k, hk with
  | 0, _ => exact aw1 (i := 165) rfl rfl
  | 1, _ => exact aw1 (i := 167) rfl rfl
  | 2, _ => exact aw1 (i := 169) rfl rfl
  | k + 3, hk => exact absurd hk (by omega)
set_option maxRecDepth 20000 in
theorem uw_X6 : ∀ w ∈ u_ws RX6 TX6 9, w ∈ AW := by
  intro w hw
  simp only [u_ws, List.mem_map, List.mem_range] at hw
  obtain ⟨k, hk, rfl⟩ := hw
  match k, hk with
  | 0, _ => exact aw1 (i := 231) rfl rfl
  | 1, _ => exact aw1 (i := 233) rfl rfl
  | 2, _ => exact aw1 (i := 235) rfl rfl
  | 3, _ => exact aw1 (i := 237) rfl rfl
  | 4, _ => exact aw1 (i := 239) rfl rfl
  | 5, _ => exact aw2 (i := 1) rfl rfl
  | 6, _ => exact aw2 (i := 3) rfl rfl
  | 7, _ => exact aw2 (i := 5) rfl rfl
  | 8, _ => exact aw2 (i := 7) rfl rfl
  | k + 9, hk => exact absurd hk (by omega)
set_option maxRecDepth 20000 in
theorem uw_X7 : ∀ w ∈ u_ws RX7 TX7 24, w ∈ AW := by
  intro w hw
  simp only [u_ws, List.mem_map, List.mem_range] at hw
  obtain ⟨k, hk, rfl⟩ := hw
  match k, hk with
  | 0, _ => exact aw4 (i := 50) rfl rfl
  | 1, _ => exact aw4 (i := 52) rfl rfl
  | 2, _ => exact aw4 (i := 54) rfl rfl
  | 3, _ => exact aw4 (i := 56) rfl rfl
  | 4, _ => exact aw4 (i := 58) rfl rfl
  | 5, _ => exact aw4 (i := 60) rfl rfl
  | 6, _ => exact aw4 (i := 62) rfl rfl
  | 7, _ => exact aw4 (i := 64) rfl rfl
  | 8, _ => exact aw4 (i := 66) rfl rfl
  | 9, _ => exact aw4 (i := 68) rfl rfl
  | 10, _ => exact aw4 (i := 70) rfl rfl
  | 11, _ => exact aw4 (i := 72) rfl rfl
  | 12, _ => exact aw4 (i := 74) rfl rfl
  | 13, _ => exact aw4 (i := 76) rfl rfl
  | 14, _ => exact aw4 (i := 78) rfl rfl
  | 15, _ => exact aw4 (i := 80) rfl rfl
  | 16, _ => exact aw4 (i := 82) rfl rfl
  | 17, _ => exact aw4 (i := 84) rfl rfl
  | 18, _ => exact aw4 (i := 86) rfl rfl
  | 19, _ => exact aw4 (i := 88) rfl rfl
  | 20, _ => exact aw4 (i := 90) rfl rfl
  | 21, _ => exact aw4 (i := 92) rfl rfl
  | 22, _ => exact aw4 (i := 94) rfl rfl
  | 23, _ => exact aw4 (i := 96) rfl rfl
  | k + 24, hk => exact absurd hk (by omega)
set_option maxRecDepth 20000 in
theorem fl_X1_9 : FL RX1 9 1 0 := ⟨_, _, _, rfl, by decide, uw_X1, aw1 (i := 31) rfl rfl⟩
set_option maxRecDepth 20000 in
theorem fp_X1_9 : FP RX1 9 1 0 (.array .int) true := ⟨_, _, _, tyX1, rfl, by decide, uw_X1, aw1 (i := 31) rfl rfl, tyX1_ok, nmX1, rfl, rfl, fun _ => rfl⟩
set_option maxRecDepth 20000 in
theorem fl_X6_83 : FL RX6 83 1 0 := ⟨_, _, _, rfl, by decide, uw_X1, aw1 (i := 32) rfl rfl⟩
set_option maxRecDepth 20000 in
theorem fl_X2_68 : FL RX2 68 1 0 := ⟨_, _, _, rfl, by decide, uw_X1, aw1 (i := 33) rfl rfl⟩
set_option maxRecDepth 20000 in
theorem fl_X1_15 : FL RX1 15 1 1 := ⟨_, _, _, rfl, by decide, uw_X1, aw1 (i := 34) rfl rfl⟩
set_option maxRecDepth 20000 in
theorem fp_X1_15 : FP RX1 15 1 1 (.array .int) true := ⟨_, _, _, tyX1, rfl, by decide, uw_X1, aw1 (i := 34) rfl rfl, tyX1_ok, nmX1, rfl, rfl, fun _ => rfl⟩
set_option maxRecDepth 20000 in
theorem fl_X2_33 : FL RX2 33 1 1 := ⟨_, _, _, rfl, by decide, uw_X1, aw1 (i := 35) rfl rfl⟩
set_option maxRecDepth 20000 in
theorem fl_X6_86 : FL RX6 86 1 1 := ⟨_, _, _, rfl, by decide, uw_X1, aw1 (i := 36) rfl rfl⟩
set_option maxRecDepth 20000 in
theorem fl_X5_73 : FL RX5 73 1 1 := ⟨_, _, _, rfl, by decide, uw_X1, aw1 (i := 37) rfl rfl⟩
set_option maxRecDepth 20000 in
theorem fl_X1_18 : FL RX1 18 1 2 := ⟨_, _, _, rfl, by decide, uw_X1, aw1 (i := 38) rfl rfl⟩
set_option maxRecDepth 20000 in
theorem fp_X1_18 : FP RX1 18 1 2 (.array .int) true := ⟨_, _, _, tyX1, rfl, by decide, uw_X1, aw1 (i := 38) rfl rfl, tyX1_ok, nmX1, rfl, rfl, fun _ => rfl⟩
set_option maxRecDepth 20000 in
theorem fl_X6_89 : FL RX6 89 1 2 := ⟨_, _, _, rfl, by decide, uw_X1, aw1 (i := 39) rfl rfl⟩
set_option maxRecDepth 20000 in
theorem fl_X2_57 : FL RX2 57 1 2 := ⟨_, _, _, rfl, by decide, uw_X1, aw1 (i := 40) rfl rfl⟩
set_option maxRecDepth 20000 in
theorem fl_X1_21 : FL RX1 21 1 3 := ⟨_, _, _, rfl, by decide, uw_X1, aw1 (i := 41) rfl rfl⟩
set_option maxRecDepth 20000 in
theorem fp_X1_21 : FP RX1 21 1 3 (.array .int) true := ⟨_, _, _, tyX1, rfl, by decide, uw_X1, aw1 (i := 41) rfl rfl, tyX1_ok, nmX1, rfl, rfl, fun _ => rfl⟩
set_option maxRecDepth 20000 in
theorem fl_X6_95 : FL RX6 95 1 3 := ⟨_, _, _, rfl, by decide, uw_X1, aw1 (i := 42) rfl rfl⟩
set_option maxRecDepth 20000 in
theorem fl_X5_38 : FL RX5 38 1 3 := ⟨_, _, _, rfl, by decide, uw_X1, aw1 (i := 43) rfl rfl⟩
set_option maxRecDepth 20000 in
theorem fl_X1_24 : FL RX1 24 1 4 := ⟨_, _, _, rfl, by decide, uw_X1, aw1 (i := 44) rfl rfl⟩
set_option maxRecDepth 20000 in
theorem fp_X1_24 : FP RX1 24 1 4 (.array .int) true := ⟨_, _, _, tyX1, rfl, by decide, uw_X1, aw1 (i := 44) rfl rfl, tyX1_ok, nmX1, rfl, rfl, fun _ => rfl⟩
set_option maxRecDepth 20000 in
theorem fl_X6_98 : FL RX6 98 1 4 := ⟨_, _, _, rfl, by decide, uw_X1, aw1 (i := 45) rfl rfl⟩
set_option maxRecDepth 20000 in
theorem fl_X5_43 : FL RX5 43 1 4 := ⟨_, _, _, rfl, by decide, uw_X1, aw1 (i := 46) rfl rfl⟩
set_option maxRecDepth 20000 in
theorem fl_X1_27 : FL RX1 27 1 5 := ⟨_, _, _, rfl, by decide, uw_X1, aw1 (i := 47) rfl rfl⟩
set_option maxRecDepth 20000 in
theorem fp_X1_27 : FP RX1 27 1 5 (.array .int) true := ⟨_, _, _, tyX1, rfl, by decide, uw_X1, aw1 (i := 47) rfl rfl, tyX1_ok, nmX1, rfl, rfl, fun _ => rfl⟩
set_option maxRecDepth 20000 in
theorem fl_X6_101 : FL RX6 101 1 5 := ⟨_, _, _, rfl, by decide, uw_X1, aw1 (i := 48) rfl rfl⟩
set_option maxRecDepth 20000 in
theorem fl_X5_46 : FL RX5 46 1 5 := ⟨_, _, _, rfl, by decide, uw_X1, aw1 (i := 49) rfl rfl⟩
set_option maxRecDepth 20000 in
theorem fl_X1_30 : FL RX1 30 1 6 := ⟨_, _, _, rfl, by decide, uw_X1, aw1 (i := 50) rfl rfl⟩
set_option maxRecDepth 20000 in
theorem fp_X1_30 : FP RX1 30 1 6 (.array .int) true := ⟨_, _, _, tyX1, rfl, by decide, uw_X1, aw1 (i := 50) rfl rfl, tyX1_ok, nmX1, rfl, rfl, fun _ => rfl⟩
set_option maxRecDepth 20000 in
theorem fl_X0_87 : FL RX0 87 1 6 := ⟨_, _, _, rfl, by decide, uw_X1, aw1 (i := 51) rfl rfl⟩
set_option maxRecDepth 20000 in
theorem fl_X6_104 : FL RX6 104 1 6 := ⟨_, _, _, rfl, by decide, uw_X1, aw1 (i := 52) rfl rfl⟩
set_option maxRecDepth 20000 in
theorem fl_X1_33 : FL RX1 33 1 7 := ⟨_, _, _, rfl, by decide, uw_X1, aw1 (i := 53) rfl rfl⟩
set_option maxRecDepth 20000 in
theorem fp_X1_33 : FP RX1 33 1 7 .int false := ⟨_, _, _, tyX1, rfl, by decide, uw_X1, aw1 (i := 53) rfl rfl, tyX1_ok, nmX1, rfl, rfl, fun _ => rfl⟩
set_option maxRecDepth 20000 in
theorem fl_X2_28 : FL RX2 28 1 7 := ⟨_, _, _, rfl, by decide, uw_X1, aw1 (i := 54) rfl rfl⟩
set_option maxRecDepth 20000 in
theorem fp_X2_28 : FP RX2 28 1 7 .int false := ⟨_, _, _, tyX1, rfl, by decide, uw_X1, aw1 (i := 54) rfl rfl, tyX1_ok, nmX1, rfl, rfl, fun _ => by first | rfl | contradiction⟩
set_option maxRecDepth 20000 in
theorem fl_X5_70 : FL RX5 70 1 7 := ⟨_, _, _, rfl, by decide, uw_X1, aw1 (i := 55) rfl rfl⟩
set_option maxRecDepth 20000 in
theorem fp_X5_70 : FP RX5 70 1 7 .int false := ⟨_, _, _, tyX1, rfl, by decide, uw_X1, aw1 (i := 55) rfl rfl, tyX1_ok, nmX1, rfl, rfl, fun _ => by first | rfl | contradiction⟩
set_option maxRecDepth 20000 in
theorem fl_X6_220 : FL RX6 220 1 7 := ⟨_, _, _, rfl, by decide, uw_X1, aw1 (i := 56) rfl rfl⟩
set_option maxRecDepth 20000 in
theorem fp_X6_220 : FP RX6 220 1 7 .int false := ⟨_, _, _, tyX1, rfl, by decide, uw_X1, aw1 (i := 56) rfl rfl, tyX1_ok, nmX1, rfl, rfl, fun _ => by first | rfl | contradiction⟩
set_option maxRecDepth 20000 in
theorem fl_X1_37 : FL RX1 37 1 8 := ⟨_, _, _, rfl, by decide, uw_X1, aw1 (i := 57) rfl rfl⟩
set_option maxRecDepth 20000 in
theorem fp_X1_37 : FP RX1 37 1 8 .int false := ⟨_, _, _, tyX1, rfl, by decide, uw_X1, aw1 (i := 57) rfl rfl, tyX1_ok, nmX1, rfl, rfl, fun _ => rfl⟩
set_option maxRecDepth 20000 in
theorem fl_X0_84 : FL RX0 84 1 8 := ⟨_, _, _, rfl, by decide, uw_X1, aw1 (i := 58) rfl rfl⟩
set_option maxRecDepth 20000 in
theorem fp_X0_84 : FP RX0 84 1 8 .int false := ⟨_, _, _, tyX1, rfl, by decide, uw_X1, aw1 (i := 58) rfl rfl, tyX1_ok, nmX1, rfl, rfl, fun _ => by first | rfl | contradiction⟩
set_option maxRecDepth 20000 in
theorem fl_X6_229 : FL RX6 229 1 8 := ⟨_, _, _, rfl, by decide, uw_X1, aw1 (i := 59) rfl rfl⟩
set_option maxRecDepth 20000 in
theorem fp_X6_229 : FP RX6 229 1 8 .int false := ⟨_, _, _, tyX1, rfl, by decide, uw_X1, aw1 (i := 59) rfl rfl, tyX1_ok, nmX1, rfl, rfl, fun _ => by first | rfl | contradiction⟩
set_option maxRecDepth 20000 in
theorem fl_X1_40 : FL RX1 40 1 9 := ⟨_, _, _, rfl, by decide, uw_X1, aw1 (i := 60) rfl rfl⟩
set_option maxRecDepth 20000 in
theorem fp_X1_40 : FP RX1 40 1 9 .int false := ⟨_, _, _, tyX1, rfl, by decide, uw_X1, aw1 (i := 60) rfl rfl, tyX1_ok, nmX1, rfl, rfl, fun _ => rfl⟩
set_option maxRecDepth 20000 in
theorem fl_X2_40 : FL RX2 40 1 9 := ⟨_, _, _, rfl, by decide, uw_X1, aw1 (i := 61) rfl rfl⟩
set_option maxRecDepth 20000 in
theorem fp_X2_40 : FP RX2 40 1 9 .int false := ⟨_, _, _, tyX1, rfl, by decide, uw_X1, aw1 (i := 61) rfl rfl, tyX1_ok, nmX1, rfl, rfl, fun _ => by first | rfl | contradiction⟩
set_option maxRecDepth 20000 in
theorem fl_X0_74 : FL RX0 74 1 9 := ⟨_, _, _, rfl, by decide, uw_X1, aw1 (i := 62) rfl rfl⟩
set_option maxRecDepth 20000 in
theorem fp_X0_74 : FP RX0 74 1 9 .int false := ⟨_, _, _, tyX1, rfl, by decide, uw_X1, aw1 (i := 62) rfl rfl, tyX1_ok, nmX1, rfl, rfl, fun _ => by first | rfl | contradiction⟩
set_option maxRecDepth 20000 in
theorem fl_X6_114 : FL RX6 114 1 9 := ⟨_, _, _, rfl, by decide, uw_X1, aw1 (i := 63) rfl rfl⟩
set_option maxRecDepth 20000 in
theorem fp_X6_114 : FP RX6 114 1 9 .int false := ⟨_, _, _, tyX1, rfl, by decide, uw_X1, aw1 (i := 63) rfl rfl, tyX1_ok, nmX1, rfl, rfl, fun _ => by first | rfl | contradiction⟩
set_option maxRecDepth 20000 in
theorem fl_X1_43 : FL RX1 43 1 10 := ⟨_, _, _, rfl, by decide, uw_X1, aw1 (i := 64) rfl rfl⟩
set_option maxRecDepth 20000 in
theorem fp_X1_43 : FP RX1 43 1 10 .int false := ⟨_, _, _, tyX1, rfl, by decide, uw_X1, aw1 (i := 64) rfl rfl, tyX1_ok, nmX1, rfl, rfl, fun _ => rfl⟩
set_option maxRecDepth 20000 in
theorem fl_X2_43 : FL RX2 43 1 10 := ⟨_, _, _, rfl, by decide, uw_X1, aw1 (i := 65) rfl rfl⟩
set_option maxRecDepth 20000 in
theorem fp_X2_43 : FP RX2 43 1 10 .int false := ⟨_, _, _, tyX1, rfl, by decide, uw_X1, aw1 (i := 65) rfl rfl, tyX1_ok, nmX1, rfl, rfl, fun _ => by first | rfl | contradiction⟩
set_option maxRecDepth 20000 in
theorem fl_X6_117 : FL RX6 117 1 10 := ⟨_, _, _, rfl, by decide, uw_X1, aw1 (i := 66) rfl rfl⟩
set_option maxRecDepth 20000 in
theorem fp_X6_117 : FP RX6 117 1 10 .int false := ⟨_, _, _, tyX1, rfl, by decide, uw_X1, aw1 (i := 66) rfl rfl, tyX1_ok, nmX1, rfl, rfl, fun _ => by first | rfl | contradiction⟩
set_option maxRecDepth 20000 in
theorem fl_X4_9 : FL RX4 9 4 0 := ⟨_, _, _, rfl, by decide, uw_X4, aw1 (i := 97) rfl rfl⟩
set_option maxRecDepth 20000 in
theorem fp_X4_9 : FP RX4 9 4 0 (.array .int) true := ⟨_, _, _, tyX4, rfl, by decide, uw_X4, aw1 (i := 97) rfl rfl, tyX4_ok, nmX4, rfl, rfl, fun _ => rfl⟩
set_option maxRecDepth 20000 in
theorem fl_X4_15 : FL RX4 15 4 1 := ⟨_, _, _, rfl, by decide, uw_X4, aw1 (i := 98) rfl rfl⟩
set_option maxRecDepth 20000 in
theorem fp_X4_15 : FP RX4 15 4 1 .int false := ⟨_, _, _, tyX4, rfl, by decide, uw_X4, aw1 (i := 98) rfl rfl, tyX4_ok, nmX4, rfl, rfl, fun _ => rfl⟩
set_option maxRecDepth 20000 in
theorem fl_X6_62 : FL RX6 62 4 1 := ⟨_, _, _, rfl, by decide, uw_X4, aw1 (i := 99) rfl rfl⟩
set_option maxRecDepth 20000 in
theorem fp_X6_62 : FP RX6 62 4 1 .int false := ⟨_, _, _, tyX4, rfl, by decide, uw_X4, aw1 (i := 99) rfl rfl, tyX4_ok, nmX4, rfl, rfl, fun _ => by first | rfl | contradiction⟩
set_option maxRecDepth 20000 in
theorem fl_X4_19 : FL RX4 19 4 2 := ⟨_, _, _, rfl, by decide, uw_X4, aw1 (i := 100) rfl rfl⟩
set_option maxRecDepth 20000 in
theorem fp_X4_19 : FP RX4 19 4 2 .int false := ⟨_, _, _, tyX4, rfl, by decide, uw_X4, aw1 (i := 100) rfl rfl, tyX4_ok, nmX4, rfl, rfl, fun _ => rfl⟩
set_option maxRecDepth 20000 in
theorem fl_X6_235 : FL RX6 235 4 2 := ⟨_, _, _, rfl, by decide, uw_X4, aw1 (i := 101) rfl rfl⟩
set_option maxRecDepth 20000 in
theorem fp_X6_235 : FP RX6 235 4 2 .int false := ⟨_, _, _, tyX4, rfl, by decide, uw_X4, aw1 (i := 101) rfl rfl, tyX4_ok, nmX4, rfl, rfl, fun _ => by first | rfl | contradiction⟩
set_option maxRecDepth 20000 in
theorem fl_X4_22 : FL RX4 22 4 3 := ⟨_, _, _, rfl, by decide, uw_X4, aw1 (i := 102) rfl rfl⟩
set_option maxRecDepth 20000 in
theorem fp_X4_22 : FP RX4 22 4 3 .int false := ⟨_, _, _, tyX4, rfl, by decide, uw_X4, aw1 (i := 102) rfl rfl, tyX4_ok, nmX4, rfl, rfl, fun _ => rfl⟩
set_option maxRecDepth 20000 in
theorem fl_X4_25 : FL RX4 25 4 4 := ⟨_, _, _, rfl, by decide, uw_X4, aw1 (i := 103) rfl rfl⟩
set_option maxRecDepth 20000 in
theorem fp_X4_25 : FP RX4 25 4 4 .int false := ⟨_, _, _, tyX4, rfl, by decide, uw_X4, aw1 (i := 103) rfl rfl, tyX4_ok, nmX4, rfl, rfl, fun _ => rfl⟩
set_option maxRecDepth 20000 in
theorem fl_X4_28 : FL RX4 28 4 5 := ⟨_, _, _, rfl, by decide, uw_X4, aw1 (i := 104) rfl rfl⟩
set_option maxRecDepth 20000 in
theorem fp_X4_28 : FP RX4 28 4 5 .int false := ⟨_, _, _, tyX4, rfl, by decide, uw_X4, aw1 (i := 104) rfl rfl, tyX4_ok, nmX4, rfl, rfl, fun _ => rfl⟩
set_option maxRecDepth 20000 in
theorem fl_X4_31 : FL RX4 31 4 6 := ⟨_, _, _, rfl, by decide, uw_X4, aw1 (i := 105) rfl rfl⟩
set_option maxRecDepth 20000 in
theorem fp_X4_31 : FP RX4 31 4 6 .int false := ⟨_, _, _, tyX4, rfl, by decide, uw_X4, aw1 (i := 105) rfl rfl, tyX4_ok, nmX4, rfl, rfl, fun _ => rfl⟩
set_option maxRecDepth 20000 in
theorem fl_X4_34 : FL RX4 34 4 7 := ⟨_, _, _, rfl, by decide, uw_X4, aw1 (i := 106) rfl rfl⟩
set_option maxRecDepth 20000 in
theorem fp_X4_34 : FP RX4 34 4 7 .int false := ⟨_, _, _, tyX4, rfl, by decide, uw_X4, aw1 (i := 106) rfl rfl, tyX4_ok, nmX4, rfl, rfl, fun _ => rfl⟩
set_option maxRecDepth 20000 in
theorem fl_X2_9 : FL RX2 9 2 0 := ⟨_, _, _, rfl, by decide, uw_X2, aw1 (i := 130) rfl rfl⟩
set_option maxRecDepth 20000 in
theorem fp_X2_9 : FP RX2 9 2 0 (.array .int) true := ⟨_, _, _, tyX2, rfl, by decide, uw_X2, aw1 (i := 130) rfl rfl, tyX2_ok, nmX2, rfl, rfl, fun _ => rfl⟩
set_option maxRecDepth 20000 in
theorem fl_X2_15 : FL RX2 15 2 1 := ⟨_, _, _, rfl, by decide, uw_X2, aw1 (i := 131) rfl rfl⟩
set_option maxRecDepth 20000 in
theorem fp_X2_15 : FP RX2 15 2 1 .int false := ⟨_, _, _, tyX2, rfl, by decide, uw_X2, aw1 (i := 131) rfl rfl, tyX2_ok, nmX2, rfl, rfl, fun _ => rfl⟩
set_option maxRecDepth 20000 in
theorem fl_X2_19 : FL RX2 19 2 2 := ⟨_, _, _, rfl, by decide, uw_X2, aw1 (i := 132) rfl rfl⟩
set_option maxRecDepth 20000 in
theorem fp_X2_19 : FP RX2 19 2 2 .int false := ⟨_, _, _, tyX2, rfl, by decide, uw_X2, aw1 (i := 132) rfl rfl, tyX2_ok, nmX2, rfl, rfl, fun _ => rfl⟩
set_option maxRecDepth 20000 in
theorem fl_X2_22 : FL RX2 22 2 3 := ⟨_, _, _, rfl, by decide, uw_X2, aw1 (i := 133) rfl rfl⟩
set_option maxRecDepth 20000 in
theorem fp_X2_22 : FP RX2 22 2 3 .int false := ⟨_, _, _, tyX2, rfl, by decide, uw_X2, aw1 (i := 133) rfl rfl, tyX2_ok, nmX2, rfl, rfl, fun _ => rfl⟩
set_option maxRecDepth 20000 in
theorem fl_X2_25 : FL RX2 25 2 4 := ⟨_, _, _, rfl, by decide, uw_X2, aw1 (i := 134) rfl rfl⟩
set_option maxRecDepth 20000 in
theorem fp_X2_25 : FP RX2 25 2 4 .int false := ⟨_, _, _, tyX2, rfl, by decide, uw_X2, aw1 (i := 134) rfl rfl, tyX2_ok, nmX2, rfl, rfl, fun _ => rfl⟩
set_option maxRecDepth 20000 in
theorem fl_X5_9 : FL RX5 9 5 0 := ⟨_, _, _, rfl, by decide, uw_X5, aw1 (i := 160) rfl rfl⟩
set_option maxRecDepth 20000 in
theorem fp_X5_9 : FP RX5 9 5 0 (.array .int) true := ⟨_, _, _, tyX5, rfl, by decide, uw_X5, aw1 (i := 160) rfl rfl, tyX5_ok, nmX5, rfl, rfl, fun _ => rfl⟩
set_option maxRecDepth 20000 in
theorem fl_X5_15 : FL RX5 15 5 1 := ⟨_, _, _, rfl, by decide, uw_X5, aw1 (i := 161) rfl rfl⟩
set_option maxRecDepth 20000 in
theorem fp_X5_15 : FP RX5 15 5 1 (.array .int) true := ⟨_, _, _, tyX5, rfl, by decide, uw_X5, aw1 (i := 161) rfl rfl, tyX5_ok, nmX5, rfl, rfl, fun _ => rfl⟩
set_option maxRecDepth 20000 in
theorem fl_X5_18 : FL RX5 18 5 2 := ⟨_, _, _, rfl, by decide, uw_X5, aw1 (i := 162) rfl rfl⟩
set_option maxRecDepth 20000 in
theorem fp_X5_18 : FP RX5 18 5 2 .int false := ⟨_, _, _, tyX5, rfl, by decide, uw_X5, aw1 (i := 162) rfl rfl, tyX5_ok, nmX5, rfl, rfl, fun _ => rfl⟩
set_option maxRecDepth 20000 in
theorem fl_X0_46 : FL RX0 46 5 2 := ⟨_, _, _, rfl, by decide, uw_X5, aw1 (i := 163) rfl rfl⟩
set_option maxRecDepth 20000 in
theorem fp_X0_46 : FP RX0 46 5 2 .int false := ⟨_, _, _, tyX5, rfl, by decide, uw_X5, aw1 (i := 163) rfl rfl, tyX5_ok, nmX5, rfl, rfl, fun _ => by first | rfl | contradiction⟩
set_option maxRecDepth 20000 in
theorem fl_X6_144 : FL RX6 144 5 2 := ⟨_, _, _, rfl, by decide, uw_X5, aw1 (i := 164) rfl rfl⟩
set_option maxRecDepth 20000 in
theorem fp_X6_144 : FP RX6 144 5 2 .int false := ⟨_, _, _, tyX5, rfl, by decide, uw_X5, aw1 (i := 164) rfl rfl, tyX5_ok, nmX5, rfl, rfl, fun _ => by first | rfl | contradiction⟩
set_option maxRecDepth 20000 in
theorem fl_X0_12 : FL RX0 12 0 0 := ⟨_, _, _, rfl, by decide, uw_X0, aw1 (i := 172) rfl rfl⟩
set_option maxRecDepth 20000 in
theorem fp_X0_12 : FP RX0 12 0 0 (.object "WhosePage$Press") true := ⟨_, _, _, tyX0, rfl, by decide, uw_X0, aw1 (i := 172) rfl rfl, tyX0_ok, nmX0, rfl, rfl, fun _ => rfl⟩
set_option maxRecDepth 20000 in
theorem fl_X0_21 : FL RX0 21 0 1 := ⟨_, _, _, rfl, by decide, uw_X0, aw1 (i := 173) rfl rfl⟩
set_option maxRecDepth 20000 in
theorem fp_X0_21 : FP RX0 21 0 1 (.object "WhosePage$Tray") true := ⟨_, _, _, tyX0, rfl, by decide, uw_X0, aw1 (i := 173) rfl rfl, tyX0_ok, nmX0, rfl, rfl, fun _ => rfl⟩
set_option maxRecDepth 20000 in
theorem fl_X6_140 : FL RX6 140 0 1 := ⟨_, _, _, rfl, by decide, uw_X0, aw1 (i := 174) rfl rfl⟩
set_option maxRecDepth 20000 in
theorem fl_X0_25 : FL RX0 25 0 2 := ⟨_, _, _, rfl, by decide, uw_X0, aw1 (i := 175) rfl rfl⟩
set_option maxRecDepth 20000 in
theorem fp_X0_25 : FP RX0 25 0 2 (.array .int) true := ⟨_, _, _, tyX0, rfl, by decide, uw_X0, aw1 (i := 175) rfl rfl, tyX0_ok, nmX0, rfl, rfl, fun _ => rfl⟩
set_option maxRecDepth 20000 in
theorem fl_X0_29 : FL RX0 29 0 3 := ⟨_, _, _, rfl, by decide, uw_X0, aw1 (i := 176) rfl rfl⟩
set_option maxRecDepth 20000 in
theorem fp_X0_29 : FP RX0 29 0 3 (.array .int) true := ⟨_, _, _, tyX0, rfl, by decide, uw_X0, aw1 (i := 176) rfl rfl, tyX0_ok, nmX0, rfl, rfl, fun _ => rfl⟩
set_option maxRecDepth 20000 in
theorem fl_X0_32 : FL RX0 32 0 4 := ⟨_, _, _, rfl, by decide, uw_X0, aw1 (i := 177) rfl rfl⟩
set_option maxRecDepth 20000 in
theorem fp_X0_32 : FP RX0 32 0 4 .int false := ⟨_, _, _, tyX0, rfl, by decide, uw_X0, aw1 (i := 177) rfl rfl, tyX0_ok, nmX0, rfl, rfl, fun _ => rfl⟩
set_option maxRecDepth 20000 in
theorem fl_X6_137 : FL RX6 137 0 4 := ⟨_, _, _, rfl, by decide, uw_X0, aw1 (i := 178) rfl rfl⟩
set_option maxRecDepth 20000 in
theorem fp_X6_137 : FP RX6 137 0 4 .int false := ⟨_, _, _, tyX0, rfl, by decide, uw_X0, aw1 (i := 178) rfl rfl, tyX0_ok, nmX0, rfl, rfl, fun _ => by first | rfl | contradiction⟩
set_option maxRecDepth 20000 in
theorem fl_X0_36 : FL RX0 36 0 5 := ⟨_, _, _, rfl, by decide, uw_X0, aw1 (i := 179) rfl rfl⟩
set_option maxRecDepth 20000 in
theorem fp_X0_36 : FP RX0 36 0 5 (.array .int) true := ⟨_, _, _, tyX0, rfl, by decide, uw_X0, aw1 (i := 179) rfl rfl, tyX0_ok, nmX0, rfl, rfl, fun _ => rfl⟩
set_option maxRecDepth 20000 in
theorem fl_X0_39 : FL RX0 39 0 6 := ⟨_, _, _, rfl, by decide, uw_X0, aw1 (i := 180) rfl rfl⟩
set_option maxRecDepth 20000 in
theorem fp_X0_39 : FP RX0 39 0 6 (.array .int) true := ⟨_, _, _, tyX0, rfl, by decide, uw_X0, aw1 (i := 180) rfl rfl, tyX0_ok, nmX0, rfl, rfl, fun _ => rfl⟩
set_option maxRecDepth 20000 in
theorem fl_X3_9 : FL RX3 9 3 0 := ⟨_, _, _, rfl, by decide, uw_X3, aw1 (i := 202) rfl rfl⟩
set_option maxRecDepth 20000 in
theorem fp_X3_9 : FP RX3 9 3 0 (.array .int) true := ⟨_, _, _, tyX3, rfl, by decide, uw_X3, aw1 (i := 202) rfl rfl, tyX3_ok, nmX3, rfl, rfl, fun _ => rfl⟩
set_option maxRecDepth 20000 in
theorem fl_X5_35 : FL RX5 35 3 0 := ⟨_, _, _, rfl, by decide, uw_X3, aw1 (i := 203) rfl rfl⟩
set_option maxRecDepth 20000 in
theorem fl_X6_216 : FL RX6 216 3 0 := ⟨_, _, _, rfl, by decide, uw_X3, aw1 (i := 204) rfl rfl⟩
set_option maxRecDepth 20000 in
theorem fl_X3_15 : FL RX3 15 3 1 := ⟨_, _, _, rfl, by decide, uw_X3, aw1 (i := 205) rfl rfl⟩
set_option maxRecDepth 20000 in
theorem fp_X3_15 : FP RX3 15 3 1 .int false := ⟨_, _, _, tyX3, rfl, by decide, uw_X3, aw1 (i := 205) rfl rfl, tyX3_ok, nmX3, rfl, rfl, fun _ => rfl⟩
set_option maxRecDepth 20000 in
theorem fl_X5_28 : FL RX5 28 3 1 := ⟨_, _, _, rfl, by decide, uw_X3, aw1 (i := 206) rfl rfl⟩
set_option maxRecDepth 20000 in
theorem fp_X5_28 : FP RX5 28 3 1 .int false := ⟨_, _, _, tyX3, rfl, by decide, uw_X3, aw1 (i := 206) rfl rfl, tyX3_ok, nmX3, rfl, rfl, fun _ => by first | rfl | contradiction⟩
set_option maxRecDepth 20000 in
theorem fl_X6_214 : FL RX6 214 3 1 := ⟨_, _, _, rfl, by decide, uw_X3, aw1 (i := 207) rfl rfl⟩
set_option maxRecDepth 20000 in
theorem fp_X6_214 : FP RX6 214 3 1 .int false := ⟨_, _, _, tyX3, rfl, by decide, uw_X3, aw1 (i := 207) rfl rfl, tyX3_ok, nmX3, rfl, rfl, fun _ => by first | rfl | contradiction⟩
set_option maxRecDepth 20000 in
theorem fl_X3_19 : FL RX3 19 3 2 := ⟨_, _, _, rfl, by decide, uw_X3, aw1 (i := 208) rfl rfl⟩
set_option maxRecDepth 20000 in
theorem fp_X3_19 : FP RX3 19 3 2 (.array .int) true := ⟨_, _, _, tyX3, rfl, by decide, uw_X3, aw1 (i := 208) rfl rfl, tyX3_ok, nmX3, rfl, rfl, fun _ => rfl⟩
set_option maxRecDepth 20000 in
theorem fl_X3_22 : FL RX3 22 3 3 := ⟨_, _, _, rfl, by decide, uw_X3, aw1 (i := 209) rfl rfl⟩
set_option maxRecDepth 20000 in
theorem fp_X3_22 : FP RX3 22 3 3 (.array .int) true := ⟨_, _, _, tyX3, rfl, by decide, uw_X3, aw1 (i := 209) rfl rfl, tyX3_ok, nmX3, rfl, rfl, fun _ => rfl⟩
set_option maxRecDepth 20000 in
theorem fl_X3_25 : FL RX3 25 3 4 := ⟨_, _, _, rfl, by decide, uw_X3, aw1 (i := 210) rfl rfl⟩
set_option maxRecDepth 20000 in
theorem fp_X3_25 : FP RX3 25 3 4 (.array .int) true := ⟨_, _, _, tyX3, rfl, by decide, uw_X3, aw1 (i := 210) rfl rfl, tyX3_ok, nmX3, rfl, rfl, fun _ => rfl⟩
set_option maxRecDepth 20000 in
theorem fl_X6_12 : FL RX6 12 6 0 := ⟨_, _, _, rfl, by decide, uw_X6, aw1 (i := 222) rfl rfl⟩
set_option maxRecDepth 20000 in
theorem fp_X6_12 : FP RX6 12 6 0 (.object "WhosePage$Plan") true := ⟨_, _, _, tyX6, rfl, by decide, uw_X6, aw1 (i := 222) rfl rfl, tyX6_ok, nmX6, rfl, rfl, fun _ => rfl⟩
set_option maxRecDepth 20000 in
theorem fl_X6_16 : FL RX6 16 6 1 := ⟨_, _, _, rfl, by decide, uw_X6, aw1 (i := 223) rfl rfl⟩
set_option maxRecDepth 20000 in
theorem fp_X6_16 : FP RX6 16 6 1 (.object "WhosePage$Plan") true := ⟨_, _, _, tyX6, rfl, by decide, uw_X6, aw1 (i := 223) rfl rfl, tyX6_ok, nmX6, rfl, rfl, fun _ => rfl⟩
set_option maxRecDepth 20000 in
theorem fl_X6_19 : FL RX6 19 6 2 := ⟨_, _, _, rfl, by decide, uw_X6, aw1 (i := 224) rfl rfl⟩
set_option maxRecDepth 20000 in
theorem fp_X6_19 : FP RX6 19 6 2 (.object "WhosePage$Plan") true := ⟨_, _, _, tyX6, rfl, by decide, uw_X6, aw1 (i := 224) rfl rfl, tyX6_ok, nmX6, rfl, rfl, fun _ => rfl⟩
set_option maxRecDepth 20000 in
theorem fl_X6_25 : FL RX6 25 6 3 := ⟨_, _, _, rfl, by decide, uw_X6, aw1 (i := 225) rfl rfl⟩
set_option maxRecDepth 20000 in
theorem fp_X6_25 : FP RX6 25 6 3 (.object "WhosePage$Text") true := ⟨_, _, _, tyX6, rfl, by decide, uw_X6, aw1 (i := 225) rfl rfl, tyX6_ok, nmX6, rfl, rfl, fun _ => rfl⟩
set_option maxRecDepth 20000 in
theorem fl_X6_32 : FL RX6 32 6 4 := ⟨_, _, _, rfl, by decide, uw_X6, aw1 (i := 226) rfl rfl⟩
set_option maxRecDepth 20000 in
theorem fp_X6_32 : FP RX6 32 6 4 (.object "WhosePage$Press") true := ⟨_, _, _, tyX6, rfl, by decide, uw_X6, aw1 (i := 226) rfl rfl, tyX6_ok, nmX6, rfl, rfl, fun _ => rfl⟩
set_option maxRecDepth 20000 in
theorem fl_X6_39 : FL RX6 39 6 5 := ⟨_, _, _, rfl, by decide, uw_X6, aw1 (i := 227) rfl rfl⟩
set_option maxRecDepth 20000 in
theorem fp_X6_39 : FP RX6 39 6 5 (.object "WhosePage$Day") true := ⟨_, _, _, tyX6, rfl, by decide, uw_X6, aw1 (i := 227) rfl rfl, tyX6_ok, nmX6, rfl, rfl, fun _ => rfl⟩
set_option maxRecDepth 20000 in
theorem fl_X6_46 : FL RX6 46 6 6 := ⟨_, _, _, rfl, by decide, uw_X6, aw1 (i := 228) rfl rfl⟩
set_option maxRecDepth 20000 in
theorem fp_X6_46 : FP RX6 46 6 6 (.object "WhosePage$Row") true := ⟨_, _, _, tyX6, rfl, by decide, uw_X6, aw1 (i := 228) rfl rfl, tyX6_ok, nmX6, rfl, rfl, fun _ => rfl⟩
set_option maxRecDepth 20000 in
theorem fl_X6_50 : FL RX6 50 6 7 := ⟨_, _, _, rfl, by decide, uw_X6, aw1 (i := 229) rfl rfl⟩
set_option maxRecDepth 20000 in
theorem fp_X6_50 : FP RX6 50 6 7 (.array .int) true := ⟨_, _, _, tyX6, rfl, by decide, uw_X6, aw1 (i := 229) rfl rfl, tyX6_ok, nmX6, rfl, rfl, fun _ => rfl⟩
set_option maxRecDepth 20000 in
theorem fl_X6_54 : FL RX6 54 6 8 := ⟨_, _, _, rfl, by decide, uw_X6, aw1 (i := 230) rfl rfl⟩
set_option maxRecDepth 20000 in
theorem fp_X6_54 : FP RX6 54 6 8 .boolean false := ⟨_, _, _, tyX6, rfl, by decide, uw_X6, aw1 (i := 230) rfl rfl, tyX6_ok, nmX6, rfl, rfl, fun _ => rfl⟩
set_option maxRecDepth 20000 in
theorem fl_X7_1 : FL RX7 1 7 0 := ⟨_, _, _, rfl, by decide, uw_X7, aw4 (i := 26) rfl rfl⟩
set_option maxRecDepth 20000 in
theorem fp_X7_1 : FP RX7 1 7 0 (.array .int) true := ⟨_, _, _, tyX7, rfl, by decide, uw_X7, aw4 (i := 26) rfl rfl, tyX7_ok, nmX7, rfl, rfl, fun _ => rfl⟩
set_option maxRecDepth 20000 in
theorem fl_X7_13 : FL RX7 13 7 1 := ⟨_, _, _, rfl, by decide, uw_X7, aw4 (i := 27) rfl rfl⟩
set_option maxRecDepth 20000 in
theorem fp_X7_13 : FP RX7 13 7 1 (.array .int) true := ⟨_, _, _, tyX7, rfl, by decide, uw_X7, aw4 (i := 27) rfl rfl, tyX7_ok, nmX7, rfl, rfl, fun _ => rfl⟩
set_option maxRecDepth 20000 in
theorem fl_X7_16 : FL RX7 16 7 2 := ⟨_, _, _, rfl, by decide, uw_X7, aw4 (i := 28) rfl rfl⟩
set_option maxRecDepth 20000 in
theorem fp_X7_16 : FP RX7 16 7 2 (.array .int) true := ⟨_, _, _, tyX7, rfl, by decide, uw_X7, aw4 (i := 28) rfl rfl, tyX7_ok, nmX7, rfl, rfl, fun _ => rfl⟩
set_option maxRecDepth 20000 in
theorem fl_X7_60 : FL RX7 60 7 3 := ⟨_, _, _, rfl, by decide, uw_X7, aw4 (i := 29) rfl rfl⟩
set_option maxRecDepth 20000 in
theorem fp_X7_60 : FP RX7 60 7 3 .boolean false := ⟨_, _, _, tyX7, rfl, by decide, uw_X7, aw4 (i := 29) rfl rfl, tyX7_ok, nmX7, rfl, rfl, fun _ => rfl⟩
set_option maxRecDepth 20000 in
theorem fl_X7_19 : FL RX7 19 7 4 := ⟨_, _, _, rfl, by decide, uw_X7, aw4 (i := 30) rfl rfl⟩
set_option maxRecDepth 20000 in
theorem fp_X7_19 : FP RX7 19 7 4 (.array .int) true := ⟨_, _, _, tyX7, rfl, by decide, uw_X7, aw4 (i := 30) rfl rfl, tyX7_ok, nmX7, rfl, rfl, fun _ => rfl⟩
set_option maxRecDepth 20000 in
theorem fl_X7_68 : FL RX7 68 7 5 := ⟨_, _, _, rfl, by decide, uw_X7, aw4 (i := 31) rfl rfl⟩
set_option maxRecDepth 20000 in
theorem fp_X7_68 : FP RX7 68 7 5 .int false := ⟨_, _, _, tyX7, rfl, by decide, uw_X7, aw4 (i := 31) rfl rfl, tyX7_ok, nmX7, rfl, rfl, fun _ => rfl⟩
set_option maxRecDepth 20000 in
theorem fl_X7_75 : FL RX7 75 7 6 := ⟨_, _, _, rfl, by decide, uw_X7, aw4 (i := 32) rfl rfl⟩
set_option maxRecDepth 20000 in
theorem fp_X7_75 : FP RX7 75 7 6 .int false := ⟨_, _, _, tyX7, rfl, by decide, uw_X7, aw4 (i := 32) rfl rfl, tyX7_ok, nmX7, rfl, rfl, fun _ => rfl⟩
set_option maxRecDepth 20000 in
theorem fl_X7_72 : FL RX7 72 7 7 := ⟨_, _, _, rfl, by decide, uw_X7, aw4 (i := 33) rfl rfl⟩
set_option maxRecDepth 20000 in
theorem fp_X7_72 : FP RX7 72 7 7 .boolean false := ⟨_, _, _, tyX7, rfl, by decide, uw_X7, aw4 (i := 33) rfl rfl, tyX7_ok, nmX7, rfl, rfl, fun _ => rfl⟩
set_option maxRecDepth 20000 in
theorem fl_X7_22 : FL RX7 22 7 8 := ⟨_, _, _, rfl, by decide, uw_X7, aw4 (i := 34) rfl rfl⟩
set_option maxRecDepth 20000 in
theorem fp_X7_22 : FP RX7 22 7 8 (.array .char) true := ⟨_, _, _, tyX7, rfl, by decide, uw_X7, aw4 (i := 34) rfl rfl, tyX7_ok, nmX7, rfl, rfl, fun _ => rfl⟩
set_option maxRecDepth 20000 in
theorem fl_X7_26 : FL RX7 26 7 9 := ⟨_, _, _, rfl, by decide, uw_X7, aw4 (i := 35) rfl rfl⟩
set_option maxRecDepth 20000 in
theorem fp_X7_26 : FP RX7 26 7 9 (.array .char) true := ⟨_, _, _, tyX7, rfl, by decide, uw_X7, aw4 (i := 35) rfl rfl, tyX7_ok, nmX7, rfl, rfl, fun _ => rfl⟩
set_option maxRecDepth 20000 in
theorem fl_X7_29 : FL RX7 29 7 10 := ⟨_, _, _, rfl, by decide, uw_X7, aw4 (i := 36) rfl rfl⟩
set_option maxRecDepth 20000 in
theorem fp_X7_29 : FP RX7 29 7 10 (.array .char) true := ⟨_, _, _, tyX7, rfl, by decide, uw_X7, aw4 (i := 36) rfl rfl, tyX7_ok, nmX7, rfl, rfl, fun _ => rfl⟩
set_option maxRecDepth 20000 in
theorem fl_X7_82 : FL RX7 82 7 11 := ⟨_, _, _, rfl, by decide, uw_X7, aw4 (i := 37) rfl rfl⟩
set_option maxRecDepth 20000 in
theorem fp_X7_82 : FP RX7 82 7 11 .int false := ⟨_, _, _, tyX7, rfl, by decide, uw_X7, aw4 (i := 37) rfl rfl, tyX7_ok, nmX7, rfl, rfl, fun _ => rfl⟩
set_option maxRecDepth 20000 in
theorem fl_X7_32 : FL RX7 32 7 12 := ⟨_, _, _, rfl, by decide, uw_X7, aw4 (i := 38) rfl rfl⟩
set_option maxRecDepth 20000 in
theorem fp_X7_32 : FP RX7 32 7 12 (.array .int) true := ⟨_, _, _, tyX7, rfl, by decide, uw_X7, aw4 (i := 38) rfl rfl, tyX7_ok, nmX7, rfl, rfl, fun _ => rfl⟩
set_option maxRecDepth 20000 in
theorem fl_X7_35 : FL RX7 35 7 13 := ⟨_, _, _, rfl, by decide, uw_X7, aw4 (i := 39) rfl rfl⟩
set_option maxRecDepth 20000 in
theorem fp_X7_35 : FP RX7 35 7 13 (.array .int) true := ⟨_, _, _, tyX7, rfl, by decide, uw_X7, aw4 (i := 39) rfl rfl, tyX7_ok, nmX7, rfl, rfl, fun _ => rfl⟩
set_option maxRecDepth 20000 in
theorem fl_X7_38 : FL RX7 38 7 14 := ⟨_, _, _, rfl, by decide, uw_X7, aw4 (i := 40) rfl rfl⟩
set_option maxRecDepth 20000 in
theorem fp_X7_38 : FP RX7 38 7 14 (.array .int) true := ⟨_, _, _, tyX7, rfl, by decide, uw_X7, aw4 (i := 40) rfl rfl, tyX7_ok, nmX7, rfl, rfl, fun _ => rfl⟩
set_option maxRecDepth 20000 in
theorem fl_X7_41 : FL RX7 41 7 15 := ⟨_, _, _, rfl, by decide, uw_X7, aw4 (i := 41) rfl rfl⟩
set_option maxRecDepth 20000 in
theorem fp_X7_41 : FP RX7 41 7 15 (.array .int) true := ⟨_, _, _, tyX7, rfl, by decide, uw_X7, aw4 (i := 41) rfl rfl, tyX7_ok, nmX7, rfl, rfl, fun _ => rfl⟩
set_option maxRecDepth 20000 in
theorem fl_X7_113 : FL RX7 113 7 16 := ⟨_, _, _, rfl, by decide, uw_X7, aw4 (i := 42) rfl rfl⟩
set_option maxRecDepth 20000 in
theorem fp_X7_113 : FP RX7 113 7 16 .int false := ⟨_, _, _, tyX7, rfl, by decide, uw_X7, aw4 (i := 42) rfl rfl, tyX7_ok, nmX7, rfl, rfl, fun _ => rfl⟩
set_option maxRecDepth 20000 in
theorem fl_X7_44 : FL RX7 44 7 17 := ⟨_, _, _, rfl, by decide, uw_X7, aw4 (i := 43) rfl rfl⟩
set_option maxRecDepth 20000 in
theorem fp_X7_44 : FP RX7 44 7 17 (.array .int) true := ⟨_, _, _, tyX7, rfl, by decide, uw_X7, aw4 (i := 43) rfl rfl, tyX7_ok, nmX7, rfl, rfl, fun _ => rfl⟩
set_option maxRecDepth 20000 in
theorem fl_X7_116 : FL RX7 116 7 18 := ⟨_, _, _, rfl, by decide, uw_X7, aw4 (i := 44) rfl rfl⟩
set_option maxRecDepth 20000 in
theorem fp_X7_116 : FP RX7 116 7 18 .int false := ⟨_, _, _, tyX7, rfl, by decide, uw_X7, aw4 (i := 44) rfl rfl, tyX7_ok, nmX7, rfl, rfl, fun _ => rfl⟩
set_option maxRecDepth 20000 in
theorem fl_X7_47 : FL RX7 47 7 19 := ⟨_, _, _, rfl, by decide, uw_X7, aw4 (i := 45) rfl rfl⟩
set_option maxRecDepth 20000 in
theorem fp_X7_47 : FP RX7 47 7 19 (.array .int) true := ⟨_, _, _, tyX7, rfl, by decide, uw_X7, aw4 (i := 45) rfl rfl, tyX7_ok, nmX7, rfl, rfl, fun _ => rfl⟩
set_option maxRecDepth 20000 in
theorem fl_X7_50 : FL RX7 50 7 20 := ⟨_, _, _, rfl, by decide, uw_X7, aw4 (i := 46) rfl rfl⟩
set_option maxRecDepth 20000 in
theorem fp_X7_50 : FP RX7 50 7 20 (.array .boolean) true := ⟨_, _, _, tyX7, rfl, by decide, uw_X7, aw4 (i := 46) rfl rfl, tyX7_ok, nmX7, rfl, rfl, fun _ => rfl⟩
set_option maxRecDepth 20000 in
theorem fl_X7_54 : FL RX7 54 7 21 := ⟨_, _, _, rfl, by decide, uw_X7, aw4 (i := 47) rfl rfl⟩
set_option maxRecDepth 20000 in
theorem fp_X7_54 : FP RX7 54 7 21 (.array .int) true := ⟨_, _, _, tyX7, rfl, by decide, uw_X7, aw4 (i := 47) rfl rfl, tyX7_ok, nmX7, rfl, rfl, fun _ => rfl⟩
set_option maxRecDepth 20000 in
theorem fl_X7_166 : FL RX7 166 7 22 := ⟨_, _, _, rfl, by decide, uw_X7, aw4 (i := 48) rfl rfl⟩
set_option maxRecDepth 20000 in
theorem fp_X7_166 : FP RX7 166 7 22 .int false := ⟨_, _, _, tyX7, rfl, by decide, uw_X7, aw4 (i := 48) rfl rfl, tyX7_ok, nmX7, rfl, rfl, fun _ => rfl⟩
set_option maxRecDepth 20000 in
theorem fl_X7_57 : FL RX7 57 7 23 := ⟨_, _, _, rfl, by decide, uw_X7, aw4 (i := 49) rfl rfl⟩
set_option maxRecDepth 20000 in
theorem fp_X7_57 : FP RX7 57 7 23 (.array .int) true := ⟨_, _, _, tyX7, rfl, by decide, uw_X7, aw4 (i := 49) rfl rfl, tyX7_ok, nmX7, rfl, rfl, fun _ => rfl⟩
abbrev mu_X6_init : MI := (yX6_init, cX6_init, 1, none)
set_option maxRecDepth 20000 in
theorem mc_X6_init : Cond.code yX6_init cX6_init 1 none ∈ AW := aw1 (i := 21) rfl rfl
set_option maxRecDepth 20000 in
theorem ml_L_9 : MSI RL 9 mu_X6_init 0 := ⟨aw1 (i := 19) rfl rfl, aw1 (i := 1) rfl rfl, mc_X6_init, ⟨by decide, by decide, by decide +kernel⟩, by decide, rfl, aw1 (i := 20) rfl rfl⟩
abbrev mu_X1_init : MI := (yX1_init, cX1_init, 1, none)
set_option maxRecDepth 20000 in
theorem mc_X1_init : Cond.code yX1_init cX1_init 1 none ∈ AW := aw1 (i := 29) rfl rfl
set_option maxRecDepth 20000 in
theorem ml_X6_11 : MNI RX6 11 mu_X1_init 0 := ⟨List.mem_of_getElem? (i := 0) rfl, aw1 (i := 2) rfl rfl, mc_X1_init, ⟨by decide, by decide, by decide +kernel⟩, by decide, rfl, aw1 (i := 28) rfl rfl⟩
abbrev mu_X4_init : MI := (yX4_init, cX4_init, 1, none)
set_option maxRecDepth 20000 in
theorem mc_X4_init : Cond.code yX4_init cX4_init 1 none ∈ AW := aw1 (i := 95) rfl rfl
set_option maxRecDepth 20000 in
theorem ml_X6_24 : MNI RX6 24 mu_X4_init 0 := ⟨List.mem_of_getElem? (i := 1) rfl, aw1 (i := 3) rfl rfl, mc_X4_init, ⟨by decide, by decide, by decide +kernel⟩, by decide, rfl, aw1 (i := 94) rfl rfl⟩
abbrev mu_X2_init : MI := (yX2_init, cX2_init, 1, none)
set_option maxRecDepth 20000 in
theorem mc_X2_init : Cond.code yX2_init cX2_init 1 none ∈ AW := aw1 (i := 128) rfl rfl
set_option maxRecDepth 20000 in
theorem ml_X6_31 : MNI RX6 31 mu_X2_init 0 := ⟨List.mem_of_getElem? (i := 2) rfl, aw1 (i := 4) rfl rfl, mc_X2_init, ⟨by decide, by decide, by decide +kernel⟩, by decide, rfl, aw1 (i := 127) rfl rfl⟩
abbrev mu_X0_init : MI := (yX0_init, cX0_init, 1, none)
set_option maxRecDepth 20000 in
theorem mc_X0_init : Cond.code yX0_init cX0_init 1 none ∈ AW := aw1 (i := 150) rfl rfl
set_option maxRecDepth 20000 in
theorem ml_X6_38 : MNI RX6 38 mu_X0_init 0 := ⟨List.mem_of_getElem? (i := 3) rfl, aw1 (i := 5) rfl rfl, mc_X0_init, ⟨by decide, by decide, by decide +kernel⟩, by decide, rfl, aw1 (i := 149) rfl rfl⟩
set_option maxRecDepth 20000 in
theorem ml_X0_11 : MNI RX0 11 mu_X2_init 0 := ⟨List.mem_of_getElem? (i := 5) rfl, aw1 (i := 4) rfl rfl, mc_X2_init, ⟨by decide, by decide, by decide +kernel⟩, by decide, rfl, aw1 (i := 127) rfl rfl⟩
abbrev mu_X5_init : MI := (yX5_init, cX5_init, 1, none)
set_option maxRecDepth 20000 in
theorem mc_X5_init : Cond.code yX5_init cX5_init 1 none ∈ AW := aw1 (i := 158) rfl rfl
set_option maxRecDepth 20000 in
theorem ml_X0_20 : MNI RX0 20 mu_X5_init 0 := ⟨List.mem_of_getElem? (i := 6) rfl, aw1 (i := 6) rfl rfl, mc_X5_init, ⟨by decide, by decide, by decide +kernel⟩, by decide, rfl, aw1 (i := 157) rfl rfl⟩
abbrev mu_X3_init : MI := (yX3_init, cX3_init, 1, none)
set_option maxRecDepth 20000 in
theorem mc_X3_init : Cond.code yX3_init cX3_init 1 none ∈ AW := aw1 (i := 200) rfl rfl
set_option maxRecDepth 20000 in
theorem ml_X6_45 : MNI RX6 45 mu_X3_init 0 := ⟨List.mem_of_getElem? (i := 4) rfl, aw1 (i := 7) rfl rfl, mc_X3_init, ⟨by decide, by decide, by decide +kernel⟩, by decide, rfl, aw1 (i := 199) rfl rfl⟩
abbrev mu_X6_letter : MI := (yX6_letter, cX6_letter, 2, (some .int))
set_option maxRecDepth 20000 in
theorem mc_X6_letter : Cond.code yX6_letter cX6_letter 2 (some .int) ∈ AW := aw2 (i := 13) rfl rfl
set_option maxRecDepth 20000 in
theorem ml_L_13 : MSV RL 13 mu_X6_letter 1 := ⟨aw2 (i := 10) rfl rfl, aw1 (i := 1) rfl rfl, mc_X6_letter, ⟨by decide, by decide, by decide +kernel⟩, by decide, aw2 (i := 11) rfl rfl, aw2 (i := 12) rfl rfl⟩
abbrev mu_X6_refuse : MI := (yX6_refuse, cX6_refuse, 3, (some .int))
set_option maxRecDepth 20000 in
theorem mc_X6_refuse : Cond.code yX6_refuse cX6_refuse 3 (some .int) ∈ AW := aw2 (i := 17) rfl rfl
set_option maxRecDepth 20000 in
theorem ml_X6_58 : MSV RX6 58 mu_X6_refuse 1 := ⟨aw2 (i := 14) rfl rfl, aw1 (i := 1) rfl rfl, mc_X6_refuse, ⟨by decide, by decide, by decide +kernel⟩, by decide, aw2 (i := 16) rfl rfl, awp (i := 0) rfl rfl⟩
abbrev mu_X4_add : MI := (yX4_add, cX4_add, 2, (some .int))
set_option maxRecDepth 20000 in
theorem mc_X4_add : Cond.code yX4_add cX4_add 2 (some .int) ∈ AW := aw2 (i := 21) rfl rfl
set_option maxRecDepth 20000 in
theorem ml_X6_66 : MSV RX6 66 mu_X4_add 1 := ⟨aw2 (i := 18) rfl rfl, aw1 (i := 3) rfl rfl, mc_X4_add, ⟨by decide, by decide, by decide +kernel⟩, by decide, aw2 (i := 19) rfl rfl, aw2 (i := 20) rfl rfl⟩
abbrev mu_X6_floor : MI := (yX6_floor, cX6_floor, 3, (some .int))
set_option maxRecDepth 20000 in
theorem mc_X6_floor : Cond.code yX6_floor cX6_floor 3 (some .int) ∈ AW := aw2 (i := 25) rfl rfl
set_option maxRecDepth 20000 in
theorem ml_L_18 : MSV RL 18 mu_X6_floor 0 := ⟨aw2 (i := 22) rfl rfl, aw1 (i := 1) rfl rfl, mc_X6_floor, ⟨by decide, by decide, by decide +kernel⟩, by decide, aw2 (i := 23) rfl rfl, aw2 (i := 24) rfl rfl⟩
abbrev mu_X4_wrongPlace : MI := (yX4_wrongPlace, cX4_wrongPlace, 2, (some .int))
set_option maxRecDepth 20000 in
theorem mc_X4_wrongPlace : Cond.code yX4_wrongPlace cX4_wrongPlace 2 (some .int) ∈ AW := aw2 (i := 29) rfl rfl
set_option maxRecDepth 20000 in
theorem ml_X6_69 : MSV RX6 69 mu_X4_wrongPlace 0 := ⟨aw2 (i := 26) rfl rfl, aw1 (i := 3) rfl rfl, mc_X4_wrongPlace, ⟨by decide, by decide, by decide +kernel⟩, by decide, aw2 (i := 27) rfl rfl, aw2 (i := 28) rfl rfl⟩
abbrev mu_X4_readStatement : MI := (yX4_readStatement, cX4_readStatement, 1, (some .boolean))
set_option maxRecDepth 20000 in
theorem mc_X4_readStatement : Cond.code yX4_readStatement cX4_readStatement 1 (some .boolean) ∈ AW := aw2 (i := 33) rfl rfl
set_option maxRecDepth 20000 in
theorem ml_X4_37 : MSV RX4 37 mu_X4_readStatement 0 := ⟨aw2 (i := 30) rfl rfl, aw1 (i := 3) rfl rfl, mc_X4_readStatement, ⟨by decide, by decide, by decide +kernel⟩, by decide, aw2 (i := 31) rfl rfl, aw2 (i := 32) rfl rfl⟩
abbrev mu_X4_readOwnerFigureMinute : MI := (yX4_readOwnerFigureMinute, cX4_readOwnerFigureMinute, 1, (some .boolean))
set_option maxRecDepth 20000 in
theorem mc_X4_readOwnerFigureMinute : Cond.code yX4_readOwnerFigureMinute cX4_readOwnerFigureMinute 1 (some .boolean) ∈ AW := aw2 (i := 37) rfl rfl
set_option maxRecDepth 20000 in
theorem ml_X4_41 : MSV RX4 41 mu_X4_readOwnerFigureMinute 0 := ⟨aw2 (i := 34) rfl rfl, aw1 (i := 3) rfl rfl, mc_X4_readOwnerFigureMinute, ⟨by decide, by decide, by decide +kernel⟩, by decide, aw2 (i := 36) rfl rfl, awp (i := 1) rfl rfl⟩
abbrev mu_X4_readDigit : MI := (yX4_readDigit, cX4_readDigit, 2, (some .int))
set_option maxRecDepth 20000 in
theorem mc_X4_readDigit : Cond.code yX4_readDigit cX4_readDigit 2 (some .int) ∈ AW := aw2 (i := 41) rfl rfl
set_option maxRecDepth 20000 in
theorem ml_X4_73 : MSV RX4 73 mu_X4_readDigit 0 := ⟨aw2 (i := 38) rfl rfl, aw1 (i := 3) rfl rfl, mc_X4_readDigit, ⟨by decide, by decide, by decide +kernel⟩, by decide, aw2 (i := 40) rfl rfl, awp (i := 2) rfl rfl⟩
abbrev mu_X4_readFigure : MI := (yX4_readFigure, cX4_readFigure, 1, (some .boolean))
set_option maxRecDepth 20000 in
theorem mc_X4_readFigure : Cond.code yX4_readFigure cX4_readFigure 1 (some .boolean) ∈ AW := aw2 (i := 45) rfl rfl
set_option maxRecDepth 20000 in
theorem ml_X4_50 : MSV RX4 50 mu_X4_readFigure 0 := ⟨aw2 (i := 42) rfl rfl, aw1 (i := 3) rfl rfl, mc_X4_readFigure, ⟨by decide, by decide, by decide +kernel⟩, by decide, aw2 (i := 44) rfl rfl, awp (i := 3) rfl rfl⟩
abbrev mu_X4_readSign : MI := (yX4_readSign, cX4_readSign, 2, (some .boolean))
set_option maxRecDepth 20000 in
theorem mc_X4_readSign : Cond.code yX4_readSign cX4_readSign 2 (some .boolean) ∈ AW := aw2 (i := 49) rfl rfl
set_option maxRecDepth 20000 in
theorem ml_X4_53 : MSV RX4 53 mu_X4_readSign 1 := ⟨aw2 (i := 46) rfl rfl, aw1 (i := 3) rfl rfl, mc_X4_readSign, ⟨by decide, by decide, by decide +kernel⟩, by decide, aw2 (i := 48) rfl rfl, awp (i := 4) rfl rfl⟩
abbrev mu_X4_readMinute : MI := (yX4_readMinute, cX4_readMinute, 2, (some .boolean))
set_option maxRecDepth 20000 in
theorem mc_X4_readMinute : Cond.code yX4_readMinute cX4_readMinute 2 (some .boolean) ∈ AW := aw2 (i := 53) rfl rfl
set_option maxRecDepth 20000 in
theorem ml_X4_77 : MSV RX4 77 mu_X4_readMinute 0 := ⟨aw2 (i := 50) rfl rfl, aw1 (i := 3) rfl rfl, mc_X4_readMinute, ⟨by decide, by decide, by decide +kernel⟩, by decide, aw2 (i := 52) rfl rfl, awp (i := 5) rfl rfl⟩
abbrev mu_X4_readKind : MI := (yX4_readKind, cX4_readKind, 2, (some .boolean))
set_option maxRecDepth 20000 in
theorem mc_X4_readKind : Cond.code yX4_readKind cX4_readKind 2 (some .boolean) ∈ AW := aw2 (i := 58) rfl rfl
set_option maxRecDepth 20000 in
theorem ml_X4_46 : MSV RX4 46 mu_X4_readKind 1 := ⟨aw2 (i := 55) rfl rfl, aw1 (i := 3) rfl rfl, mc_X4_readKind, ⟨by decide, by decide, by decide +kernel⟩, by decide, aw2 (i := 57) rfl rfl, awp (i := 6) rfl rfl⟩
abbrev mu_J0_indexOf_0f7a4 : MI := (yJ0_indexOf_0f7a4, cJ0_indexOf_0f7a4, 2, (some .int))
set_option maxRecDepth 20000 in
theorem mc_J0_indexOf_0f7a4 : Cond.code yJ0_indexOf_0f7a4 cJ0_indexOf_0f7a4 2 (some .int) ∈ AW := aw2 (i := 62) rfl rfl
set_option maxRecDepth 20000 in
theorem ml_X4_80 : MSV RX4 80 mu_J0_indexOf_0f7a4 1 := ⟨aw2 (i := 59) rfl rfl, aw1 (i := 9) rfl rfl, mc_J0_indexOf_0f7a4, ⟨by decide, by decide, by decide +kernel⟩, by decide, aw2 (i := 60) rfl rfl, aw2 (i := 61) rfl rfl⟩
abbrev mu_J0_indexOf_7cf53 : MI := (yJ0_indexOf_7cf53, cJ0_indexOf_7cf53, 3, (some .int))
set_option maxRecDepth 20000 in
theorem mc_J0_indexOf_7cf53 : Cond.code yJ0_indexOf_7cf53 cJ0_indexOf_7cf53 3 (some .int) ∈ AW := aw2 (i := 66) rfl rfl
set_option maxRecDepth 20000 in
theorem ml_J0_633 : MSV RJ0 633 mu_J0_indexOf_7cf53 2 := ⟨aw2 (i := 63) rfl rfl, aw1 (i := 9) rfl rfl, mc_J0_indexOf_7cf53, ⟨by decide, by decide, by decide +kernel⟩, by decide, aw2 (i := 64) rfl rfl, aw2 (i := 65) rfl rfl⟩
abbrev mu_J0_isLatin1_aae02 : MI := (yJ0_isLatin1_aae02, cJ0_isLatin1_aae02, 1, (some .boolean))
set_option maxRecDepth 20000 in
theorem mc_J0_isLatin1_aae02 : Cond.code yJ0_isLatin1_aae02 cJ0_isLatin1_aae02 1 (some .boolean) ∈ AW := aw2 (i := 70) rfl rfl
set_option maxRecDepth 20000 in
theorem ml_J0_492 : MSV RJ0 492 mu_J0_isLatin1_aae02 0 := ⟨aw2 (i := 67) rfl rfl, aw1 (i := 9) rfl rfl, mc_J0_isLatin1_aae02, ⟨by decide, by decide, by decide +kernel⟩, by decide, aw2 (i := 68) rfl rfl, aw2 (i := 69) rfl rfl⟩
abbrev mu_J0_length_8abf5 : MI := (yJ0_length_8abf5, cJ0_length_8abf5, 1, (some .int))
set_option maxRecDepth 20000 in
theorem mc_J0_length_8abf5 : Cond.code yJ0_length_8abf5 cJ0_length_8abf5 1 (some .int) ∈ AW := aw2 (i := 76) rfl rfl
set_option maxRecDepth 20000 in
theorem ml_J0_505 : MSV RJ0 505 mu_J0_length_8abf5 0 := ⟨aw2 (i := 73) rfl rfl, aw1 (i := 9) rfl rfl, mc_J0_length_8abf5, ⟨by decide, by decide, by decide +kernel⟩, by decide, aw2 (i := 74) rfl rfl, aw2 (i := 75) rfl rfl⟩
abbrev mu_J0_coder_7d493 : MI := (yJ0_coder_7d493, cJ0_coder_7d493, 1, (some .byte))
set_option maxRecDepth 20000 in
theorem mc_J0_coder_7d493 : Cond.code yJ0_coder_7d493 cJ0_coder_7d493 1 (some .byte) ∈ AW := aw2 (i := 80) rfl rfl
set_option maxRecDepth 20000 in
theorem ml_J0_335 : MSV RJ0 335 mu_J0_coder_7d493 0 := ⟨aw2 (i := 77) rfl rfl, aw1 (i := 9) rfl rfl, mc_J0_coder_7d493, ⟨by decide, by decide, by decide +kernel⟩, by decide, aw2 (i := 78) rfl rfl, aw2 (i := 79) rfl rfl⟩
abbrev mu_J1_indexOf_4cfef : MI := (yJ1_indexOf_4cfef, cJ1_indexOf_4cfef, 4, (some .int))
set_option maxRecDepth 20000 in
theorem mc_J1_indexOf_4cfef : Cond.code yJ1_indexOf_4cfef cJ1_indexOf_4cfef 4 (some .int) ∈ AW := aw2 (i := 83) rfl rfl
set_option maxRecDepth 20000 in
theorem ml_J0_637 : MSS RJ0 637 mu_J1_indexOf_4cfef 4 := ⟨aw2 (i := 81) rfl rfl, aw1 (i := 10) rfl rfl, mc_J1_indexOf_4cfef, ⟨by decide, by decide, by decide +kernel⟩, by decide, aw2 (i := 82) rfl rfl⟩
abbrev mu_J1_canEncode_9a6ad : MI := (yJ1_canEncode_9a6ad, cJ1_canEncode_9a6ad, 1, (some .boolean))
set_option maxRecDepth 20000 in
theorem mc_J1_canEncode_9a6ad : Cond.code yJ1_canEncode_9a6ad cJ1_canEncode_9a6ad 1 (some .boolean) ∈ AW := aw2 (i := 86) rfl rfl
set_option maxRecDepth 20000 in
theorem ml_J1_88 : MSS RJ1 88 mu_J1_canEncode_9a6ad 1 := ⟨aw2 (i := 84) rfl rfl, aw1 (i := 10) rfl rfl, mc_J1_canEncode_9a6ad, ⟨by decide, by decide, by decide +kernel⟩, by decide, aw2 (i := 85) rfl rfl⟩
abbrev mu_Math_max : MI := (Lib.Math.max.name, Lib.Math.max.code, 2, (some .int))
set_option maxRecDepth 20000 in
theorem mc_Math_max : Cond.code Lib.Math.max.name Lib.Math.max.code 2 (some .int) ∈ AW := aw2 (i := 89) rfl rfl
set_option maxRecDepth 20000 in
theorem ml_J1_92 : MSS RJ1 92 mu_Math_max 2 := ⟨aw2 (i := 87) rfl rfl, aw1 (i := 11) rfl rfl, mc_Math_max, ⟨by decide, by decide, by decide +kernel⟩, by decide, aw2 (i := 88) rfl rfl⟩
abbrev mu_Math_min : MI := (Lib.Math.min.name, Lib.Math.min.code, 2, (some .int))
set_option maxRecDepth 20000 in
theorem mc_Math_min : Cond.code Lib.Math.min.name Lib.Math.min.code 2 (some .int) ∈ AW := aw2 (i := 92) rfl rfl
set_option maxRecDepth 20000 in
theorem ml_J1_38 : MSS RJ1 38 mu_Math_min 2 := ⟨aw2 (i := 90) rfl rfl, aw1 (i := 11) rfl rfl, mc_Math_min, ⟨by decide, by decide, by decide +kernel⟩, by decide, aw2 (i := 91) rfl rfl⟩
abbrev mu_J1_indexOfChar_4cfef : MI := (yJ1_indexOfChar_4cfef, cJ1_indexOfChar_4cfef, 6, (some .int))
set_option maxRecDepth 20000 in
theorem mc_J1_indexOfChar_4cfef : Cond.code yJ1_indexOfChar_4cfef cJ1_indexOfChar_4cfef 6 (some .int) ∈ AW := aw2 (i := 95) rfl rfl
set_option maxRecDepth 20000 in
theorem ml_J1_95 : MSS RJ1 95 mu_J1_indexOfChar_4cfef 4 := ⟨aw2 (i := 93) rfl rfl, aw1 (i := 10) rfl rfl, mc_J1_indexOfChar_4cfef, ⟨by decide, by decide, by decide +kernel⟩, by decide, aw2 (i := 94) rfl rfl⟩
abbrev mu_J2_indexOf_4cfef : MI := (yJ2_indexOf_4cfef, cJ2_indexOf_4cfef, 4, (some .int))
set_option maxRecDepth 20000 in
theorem mc_J2_indexOf_4cfef : Cond.code yJ2_indexOf_4cfef cJ2_indexOf_4cfef 4 (some .int) ∈ AW := aw2 (i := 98) rfl rfl
set_option maxRecDepth 20000 in
theorem ml_J0_640 : MSS RJ0 640 mu_J2_indexOf_4cfef 4 := ⟨aw2 (i := 96) rfl rfl, aw1 (i := 12) rfl rfl, mc_J2_indexOf_4cfef, ⟨by decide, by decide, by decide +kernel⟩, by decide, aw2 (i := 97) rfl rfl⟩
set_option maxRecDepth 20000 in
theorem ml_J2_224 : MSS RJ2 224 mu_Math_max 2 := ⟨aw2 (i := 99) rfl rfl, aw1 (i := 11) rfl rfl, mc_Math_max, ⟨by decide, by decide, by decide +kernel⟩, by decide, aw2 (i := 88) rfl rfl⟩
set_option maxRecDepth 20000 in
theorem ml_J2_183 : MSS RJ2 183 mu_Math_min 2 := ⟨aw2 (i := 100) rfl rfl, aw1 (i := 11) rfl rfl, mc_Math_min, ⟨by decide, by decide, by decide +kernel⟩, by decide, aw2 (i := 91) rfl rfl⟩
abbrev mu_J2_indexOfChar_4cfef : MI := (yJ2_indexOfChar_4cfef, cJ2_indexOfChar_4cfef, 4, (some .int))
set_option maxRecDepth 20000 in
theorem mc_J2_indexOfChar_4cfef : Cond.code yJ2_indexOfChar_4cfef cJ2_indexOfChar_4cfef 4 (some .int) ∈ AW := aw2 (i := 104) rfl rfl
set_option maxRecDepth 20000 in
theorem ml_J2_228 : MSS RJ2 228 mu_J2_indexOfChar_4cfef 4 := ⟨aw2 (i := 102) rfl rfl, aw1 (i := 12) rfl rfl, mc_J2_indexOfChar_4cfef, ⟨by decide, by decide, by decide +kernel⟩, by decide, aw2 (i := 103) rfl rfl⟩
abbrev mu_J2_checkBoundsBeginEnd_d044e : MI := (yJ2_checkBoundsBeginEnd_d044e, cJ2_checkBoundsBeginEnd_d044e, 3, none)
set_option maxRecDepth 20000 in
theorem mc_J2_checkBoundsBeginEnd_d044e : Cond.code yJ2_checkBoundsBeginEnd_d044e cJ2_checkBoundsBeginEnd_d044e 3 none ∈ AW := aw2 (i := 107) rfl rfl
set_option maxRecDepth 20000 in
theorem ml_J2_96 : MSS RJ2 96 mu_J2_checkBoundsBeginEnd_d044e 3 := ⟨aw2 (i := 105) rfl rfl, aw1 (i := 12) rfl rfl, mc_J2_checkBoundsBeginEnd_d044e, ⟨by decide, by decide, by decide +kernel⟩, by decide, aw2 (i := 106) rfl rfl⟩
abbrev mu_J2_length_9d52b : MI := (yJ2_length_9d52b, cJ2_length_9d52b, 1, (some .int))
set_option maxRecDepth 20000 in
theorem mc_J2_length_9d52b : Cond.code yJ2_length_9d52b cJ2_length_9d52b 1 (some .int) ∈ AW := aw2 (i := 110) rfl rfl
set_option maxRecDepth 20000 in
theorem ml_J2_48 : MSS RJ2 48 mu_J2_length_9d52b 1 := ⟨aw2 (i := 108) rfl rfl, aw1 (i := 12) rfl rfl, mc_J2_length_9d52b, ⟨by decide, by decide, by decide +kernel⟩, by decide, aw2 (i := 109) rfl rfl⟩
abbrev mu_J0_checkBoundsBeginEnd_23922 : MI := (yJ0_checkBoundsBeginEnd_23922, cJ0_checkBoundsBeginEnd_23922, 3, none)
set_option maxRecDepth 20000 in
theorem mc_J0_checkBoundsBeginEnd_23922 : Cond.code yJ0_checkBoundsBeginEnd_23922 cJ0_checkBoundsBeginEnd_23922 3 none ∈ AW := aw2 (i := 113) rfl rfl
set_option maxRecDepth 20000 in
theorem ml_J2_241 : MSS RJ2 241 mu_J0_checkBoundsBeginEnd_23922 3 := ⟨aw2 (i := 111) rfl rfl, aw1 (i := 9) rfl rfl, mc_J0_checkBoundsBeginEnd_23922, ⟨by decide, by decide, by decide +kernel⟩, by decide, aw2 (i := 112) rfl rfl⟩
abbrev mu_J3_checkFromToIndex_8c36e : MI := (yJ3_checkFromToIndex_8c36e, cJ3_checkFromToIndex_8c36e, 4, (some .int))
set_option maxRecDepth 20000 in
theorem mc_J3_checkFromToIndex_8c36e : Cond.code yJ3_checkFromToIndex_8c36e cJ3_checkFromToIndex_8c36e 4 (some .int) ∈ AW := aw2 (i := 118) rfl rfl
set_option maxRecDepth 20000 in
theorem ml_J0_1062 : MSS RJ0 1062 mu_J3_checkFromToIndex_8c36e 4 := ⟨aw2 (i := 116) rfl rfl, aw1 (i := 13) rfl rfl, mc_J3_checkFromToIndex_8c36e, ⟨by decide, by decide, by decide +kernel⟩, by decide, aw2 (i := 117) rfl rfl⟩
abbrev mu_J2_indexOfCharUnsafe_4cfef : MI := (yJ2_indexOfCharUnsafe_4cfef, cJ2_indexOfCharUnsafe_4cfef, 5, (some .int))
set_option maxRecDepth 20000 in
theorem mc_J2_indexOfCharUnsafe_4cfef : Cond.code yJ2_indexOfCharUnsafe_4cfef cJ2_indexOfCharUnsafe_4cfef 5 (some .int) ∈ AW := aw2 (i := 121) rfl rfl
set_option maxRecDepth 20000 in
theorem ml_J2_244 : MSS RJ2 244 mu_J2_indexOfCharUnsafe_4cfef 4 := ⟨aw2 (i := 119) rfl rfl, aw1 (i := 12) rfl rfl, mc_J2_indexOfCharUnsafe_4cfef, ⟨by decide, by decide, by decide +kernel⟩, by decide, aw2 (i := 120) rfl rfl⟩
abbrev mu_J2_getChar_3b067 : MI := (yJ2_getChar_3b067, cJ2_getChar_3b067, 2, (some .char))
set_option maxRecDepth 20000 in
theorem mc_J2_getChar_3b067 : Cond.code yJ2_getChar_3b067 cJ2_getChar_3b067 2 (some .char) ∈ AW := aw2 (i := 124) rfl rfl
set_option maxRecDepth 20000 in
theorem ml_J2_71 : MSS RJ2 71 mu_J2_getChar_3b067 2 := ⟨aw2 (i := 122) rfl rfl, aw1 (i := 12) rfl rfl, mc_J2_getChar_3b067, ⟨by decide, by decide, by decide +kernel⟩, by decide, aw2 (i := 123) rfl rfl⟩
abbrev mu_J2_indexOfSupplementary_4cfef : MI := (yJ2_indexOfSupplementary_4cfef, cJ2_indexOfSupplementary_4cfef, 7, (some .int))
set_option maxRecDepth 20000 in
theorem mc_J2_indexOfSupplementary_4cfef : Cond.code yJ2_indexOfSupplementary_4cfef cJ2_indexOfSupplementary_4cfef 7 (some .int) ∈ AW := aw2 (i := 133) rfl rfl
set_option maxRecDepth 20000 in
theorem ml_J2_232 : MSS RJ2 232 mu_J2_indexOfSupplementary_4cfef 4 := ⟨aw2 (i := 131) rfl rfl, aw1 (i := 12) rfl rfl, mc_J2_indexOfSupplementary_4cfef, ⟨by decide, by decide, by decide +kernel⟩, by decide, aw2 (i := 132) rfl rfl⟩
abbrev mu_J11_isValidCodePoint_9a6ad : MI := (yJ11_isValidCodePoint_9a6ad, cJ11_isValidCodePoint_9a6ad, 2, (some .boolean))
set_option maxRecDepth 20000 in
theorem mc_J11_isValidCodePoint_9a6ad : Cond.code yJ11_isValidCodePoint_9a6ad cJ11_isValidCodePoint_9a6ad 2 (some .boolean) ∈ AW := aw2 (i := 136) rfl rfl
set_option maxRecDepth 20000 in
theorem ml_J2_164 : MSS RJ2 164 mu_J11_isValidCodePoint_9a6ad 1 := ⟨aw2 (i := 134) rfl rfl, aw1 (i := 14) rfl rfl, mc_J11_isValidCodePoint_9a6ad, ⟨by decide, by decide, by decide +kernel⟩, by decide, aw2 (i := 135) rfl rfl⟩
abbrev mu_J11_highSurrogate_5068e : MI := (yJ11_highSurrogate_5068e, cJ11_highSurrogate_5068e, 1, (some .char))
set_option maxRecDepth 20000 in
theorem mc_J11_highSurrogate_5068e : Cond.code yJ11_highSurrogate_5068e cJ11_highSurrogate_5068e 1 (some .char) ∈ AW := aw2 (i := 139) rfl rfl
set_option maxRecDepth 20000 in
theorem ml_J2_157 : MSS RJ2 157 mu_J11_highSurrogate_5068e 1 := ⟨aw2 (i := 137) rfl rfl, aw1 (i := 14) rfl rfl, mc_J11_highSurrogate_5068e, ⟨by decide, by decide, by decide +kernel⟩, by decide, aw2 (i := 138) rfl rfl⟩
abbrev mu_J11_lowSurrogate_5068e : MI := (yJ11_lowSurrogate_5068e, cJ11_lowSurrogate_5068e, 1, (some .char))
set_option maxRecDepth 20000 in
theorem mc_J11_lowSurrogate_5068e : Cond.code yJ11_lowSurrogate_5068e cJ11_lowSurrogate_5068e 1 (some .char) ∈ AW := aw2 (i := 143) rfl rfl
set_option maxRecDepth 20000 in
theorem ml_J2_161 : MSS RJ2 161 mu_J11_lowSurrogate_5068e 1 := ⟨aw2 (i := 141) rfl rfl, aw1 (i := 14) rfl rfl, mc_J11_lowSurrogate_5068e, ⟨by decide, by decide, by decide +kernel⟩, by decide, aw2 (i := 142) rfl rfl⟩
abbrev mu_X6_tellStatements : MI := (yX6_tellStatements, cX6_tellStatements, 3, (some .int))
set_option maxRecDepth 20000 in
theorem mc_X6_tellStatements : Cond.code yX6_tellStatements cX6_tellStatements 3 (some .int) ∈ AW := aw2 (i := 149) rfl rfl
set_option maxRecDepth 20000 in
theorem ml_X6_73 : MSV RX6 73 mu_X6_tellStatements 0 := ⟨aw2 (i := 146) rfl rfl, aw1 (i := 1) rfl rfl, mc_X6_tellStatements, ⟨by decide, by decide, by decide +kernel⟩, by decide, aw2 (i := 148) rfl rfl, awp (i := 7) rfl rfl⟩
abbrev mu_X1_copyFrom : MI := (yX1_copyFrom, cX1_copyFrom, 2, none)
set_option maxRecDepth 20000 in
theorem mc_X1_copyFrom : Cond.code yX1_copyFrom cX1_copyFrom 2 none ∈ AW := aw2 (i := 153) rfl rfl
set_option maxRecDepth 20000 in
theorem ml_X6_177 : MSV RX6 177 mu_X1_copyFrom 1 := ⟨aw2 (i := 150) rfl rfl, aw1 (i := 2) rfl rfl, mc_X1_copyFrom, ⟨by decide, by decide, by decide +kernel⟩, by decide, aw2 (i := 151) rfl rfl, aw2 (i := 152) rfl rfl⟩
set_option maxRecDepth 20000 in
theorem ml_X6_238 : MSV RX6 238 mu_X4_readStatement 0 := ⟨aw2 (i := 157) rfl rfl, aw1 (i := 3) rfl rfl, mc_X4_readStatement, ⟨by decide, by decide, by decide +kernel⟩, by decide, aw2 (i := 31) rfl rfl, aw2 (i := 32) rfl rfl⟩
abbrev mu_X4_tellTo : MI := (yX4_tellTo, cX4_tellTo, 2, (some .boolean))
set_option maxRecDepth 20000 in
theorem mc_X4_tellTo : Cond.code yX4_tellTo cX4_tellTo 2 (some .boolean) ∈ AW := aw2 (i := 161) rfl rfl
set_option maxRecDepth 20000 in
theorem ml_X6_242 : MSV RX6 242 mu_X4_tellTo 1 := ⟨aw2 (i := 158) rfl rfl, aw1 (i := 3) rfl rfl, mc_X4_tellTo, ⟨by decide, by decide, by decide +kernel⟩, by decide, aw2 (i := 159) rfl rfl, aw2 (i := 160) rfl rfl⟩
abbrev mu_X1_addJob : MI := (yX1_addJob, cX1_addJob, 5, (some .boolean))
set_option maxRecDepth 20000 in
theorem mc_X1_addJob : Cond.code yX1_addJob cX1_addJob 5 (some .boolean) ∈ AW := aw2 (i := 165) rfl rfl
set_option maxRecDepth 20000 in
theorem ml_X4_59 : MSV RX4 59 mu_X1_addJob 3 := ⟨aw2 (i := 162) rfl rfl, aw1 (i := 2) rfl rfl, mc_X1_addJob, ⟨by decide, by decide, by decide +kernel⟩, by decide, aw2 (i := 163) rfl rfl, aw2 (i := 164) rfl rfl⟩
abbrev mu_X6_isOwner : MI := (yX6_isOwner, cX6_isOwner, 1, (some .boolean))
set_option maxRecDepth 20000 in
theorem mc_X6_isOwner : Cond.code yX6_isOwner cX6_isOwner 1 (some .boolean) ∈ AW := aw2 (i := 168) rfl rfl
set_option maxRecDepth 20000 in
theorem ml_X1_53 : MNS RX1 53 mu_X6_isOwner 1 := ⟨List.mem_of_getElem? (i := 7) rfl, aw1 (i := 1) rfl rfl, mc_X6_isOwner, ⟨by decide, by decide, by decide +kernel⟩, by decide, aw2 (i := 167) rfl rfl⟩
abbrev mu_X1_addTaker : MI := (yX1_addTaker, cX1_addTaker, 6, (some .boolean))
set_option maxRecDepth 20000 in
theorem mc_X1_addTaker : Cond.code yX1_addTaker cX1_addTaker 6 (some .boolean) ∈ AW := aw2 (i := 172) rfl rfl
set_option maxRecDepth 20000 in
theorem ml_X4_65 : MSV RX4 65 mu_X1_addTaker 4 := ⟨aw2 (i := 169) rfl rfl, aw1 (i := 2) rfl rfl, mc_X1_addTaker, ⟨by decide, by decide, by decide +kernel⟩, by decide, aw2 (i := 170) rfl rfl, aw2 (i := 171) rfl rfl⟩
abbrev mu_X1_setMachine : MI := (yX1_setMachine, cX1_setMachine, 3, none)
set_option maxRecDepth 20000 in
theorem mc_X1_setMachine : Cond.code yX1_setMachine cX1_setMachine 3 none ∈ AW := aw2 (i := 176) rfl rfl
set_option maxRecDepth 20000 in
theorem ml_X4_69 : MSV RX4 69 mu_X1_setMachine 2 := ⟨aw2 (i := 173) rfl rfl, aw1 (i := 2) rfl rfl, mc_X1_setMachine, ⟨by decide, by decide, by decide +kernel⟩, by decide, aw2 (i := 174) rfl rfl, aw2 (i := 175) rfl rfl⟩
abbrev mu_X4_clear : MI := (yX4_clear, cX4_clear, 1, none)
set_option maxRecDepth 20000 in
theorem mc_X4_clear : Cond.code yX4_clear cX4_clear 1 none ∈ AW := aw2 (i := 180) rfl rfl
set_option maxRecDepth 20000 in
theorem ml_X6_76 : MSV RX6 76 mu_X4_clear 0 := ⟨aw2 (i := 177) rfl rfl, aw1 (i := 3) rfl rfl, mc_X4_clear, ⟨by decide, by decide, by decide +kernel⟩, by decide, aw2 (i := 178) rfl rfl, aw2 (i := 179) rfl rfl⟩
abbrev mu_X6_job : MI := (yX6_job, cX6_job, 3, (some .int))
set_option maxRecDepth 20000 in
theorem mc_X6_job : Cond.code yX6_job cX6_job 3 (some .int) ∈ AW := aw2 (i := 185) rfl rfl
set_option maxRecDepth 20000 in
theorem ml_L_23 : MSV RL 23 mu_X6_job 2 := ⟨aw2 (i := 182) rfl rfl, aw1 (i := 1) rfl rfl, mc_X6_job, ⟨by decide, by decide, by decide +kernel⟩, by decide, aw2 (i := 183) rfl rfl, aw2 (i := 184) rfl rfl⟩
abbrev mu_X1_hasJob : MI := (yX1_hasJob, cX1_hasJob, 2, (some .boolean))
set_option maxRecDepth 20000 in
theorem mc_X1_hasJob : Cond.code yX1_hasJob cX1_hasJob 2 (some .boolean) ∈ AW := aw2 (i := 189) rfl rfl
set_option maxRecDepth 20000 in
theorem ml_X6_79 : MSV RX6 79 mu_X1_hasJob 1 := ⟨aw2 (i := 186) rfl rfl, aw1 (i := 2) rfl rfl, mc_X1_hasJob, ⟨by decide, by decide, by decide +kernel⟩, by decide, aw2 (i := 187) rfl rfl, aw2 (i := 188) rfl rfl⟩
abbrev mu_X6_taker : MI := (yX6_taker, cX6_taker, 3, (some .int))
set_option maxRecDepth 20000 in
theorem mc_X6_taker : Cond.code yX6_taker cX6_taker 3 (some .int) ∈ AW := aw2 (i := 193) rfl rfl
set_option maxRecDepth 20000 in
theorem ml_L_28 : MSV RL 28 mu_X6_taker 2 := ⟨aw2 (i := 190) rfl rfl, aw1 (i := 1) rfl rfl, mc_X6_taker, ⟨by decide, by decide, by decide +kernel⟩, by decide, aw2 (i := 191) rfl rfl, aw2 (i := 192) rfl rfl⟩
abbrev mu_X1_hasTaker : MI := (yX1_hasTaker, cX1_hasTaker, 2, (some .boolean))
set_option maxRecDepth 20000 in
theorem mc_X1_hasTaker : Cond.code yX1_hasTaker cX1_hasTaker 2 (some .boolean) ∈ AW := aw2 (i := 197) rfl rfl
set_option maxRecDepth 20000 in
theorem ml_X6_92 : MSV RX6 92 mu_X1_hasTaker 1 := ⟨aw2 (i := 194) rfl rfl, aw1 (i := 2) rfl rfl, mc_X1_hasTaker, ⟨by decide, by decide, by decide +kernel⟩, by decide, aw2 (i := 195) rfl rfl, aw2 (i := 196) rfl rfl⟩
abbrev mu_X6_sent : MI := (yX6_sent, cX6_sent, 4, (some .int))
set_option maxRecDepth 20000 in
theorem mc_X6_sent : Cond.code yX6_sent cX6_sent 4 (some .int) ∈ AW := aw2 (i := 201) rfl rfl
set_option maxRecDepth 20000 in
theorem ml_L_32 : MSV RL 32 mu_X6_sent 2 := ⟨aw2 (i := 198) rfl rfl, aw1 (i := 1) rfl rfl, mc_X6_sent, ⟨by decide, by decide, by decide +kernel⟩, by decide, aw2 (i := 199) rfl rfl, aw2 (i := 200) rfl rfl⟩
abbrev mu_X6_machine : MI := (yX6_machine, cX6_machine, 4, (some .int))
set_option maxRecDepth 20000 in
theorem mc_X6_machine : Cond.code yX6_machine cX6_machine 4 (some .int) ∈ AW := aw2 (i := 205) rfl rfl
set_option maxRecDepth 20000 in
theorem ml_L_36 : MSV RL 36 mu_X6_machine 2 := ⟨aw2 (i := 202) rfl rfl, aw1 (i := 1) rfl rfl, mc_X6_machine, ⟨by decide, by decide, by decide +kernel⟩, by decide, aw2 (i := 203) rfl rfl, aw2 (i := 204) rfl rfl⟩
set_option maxRecDepth 20000 in
theorem ml_X6_109 : MSV RX6 109 mu_J0_length_8abf5 0 := ⟨aw2 (i := 207) rfl rfl, aw1 (i := 9) rfl rfl, mc_J0_length_8abf5, ⟨by decide, by decide, by decide +kernel⟩, by decide, aw2 (i := 74) rfl rfl, aw2 (i := 75) rfl rfl⟩
set_option maxRecDepth 20000 in
theorem ml_X6_120 : MSV RX6 120 mu_X1_setMachine 2 := ⟨aw2 (i := 208) rfl rfl, aw1 (i := 2) rfl rfl, mc_X1_setMachine, ⟨by decide, by decide, by decide +kernel⟩, by decide, aw2 (i := 174) rfl rfl, aw2 (i := 175) rfl rfl⟩
abbrev mu_X6_comes : MI := (yX6_comes, cX6_comes, 4, (some .int))
set_option maxRecDepth 20000 in
theorem mc_X6_comes : Cond.code yX6_comes cX6_comes 4 (some .int) ∈ AW := aw2 (i := 212) rfl rfl
set_option maxRecDepth 20000 in
theorem ml_L_40 : MSV RL 40 mu_X6_comes 2 := ⟨aw2 (i := 209) rfl rfl, aw1 (i := 1) rfl rfl, mc_X6_comes, ⟨by decide, by decide, by decide +kernel⟩, by decide, aw2 (i := 210) rfl rfl, aw2 (i := 211) rfl rfl⟩
abbrev mu_X6_out : MI := (yX6_out, cX6_out, 3, (some .int))
set_option maxRecDepth 20000 in
theorem mc_X6_out : Cond.code yX6_out cX6_out 3 (some .int) ∈ AW := aw2 (i := 216) rfl rfl
set_option maxRecDepth 20000 in
theorem ml_L_44 : MSV RL 44 mu_X6_out 2 := ⟨aw2 (i := 213) rfl rfl, aw1 (i := 1) rfl rfl, mc_X6_out, ⟨by decide, by decide, by decide +kernel⟩, by decide, aw2 (i := 214) rfl rfl, aw2 (i := 215) rfl rfl⟩
abbrev mu_X6_isZeroOrOne : MI := (yX6_isZeroOrOne, cX6_isZeroOrOne, 1, (some .boolean))
set_option maxRecDepth 20000 in
theorem mc_X6_isZeroOrOne : Cond.code yX6_isZeroOrOne cX6_isZeroOrOne 1 (some .boolean) ∈ AW := aw2 (i := 219) rfl rfl
set_option maxRecDepth 20000 in
theorem ml_X6_124 : MSS RX6 124 mu_X6_isZeroOrOne 1 := ⟨aw2 (i := 217) rfl rfl, aw1 (i := 1) rfl rfl, mc_X6_isZeroOrOne, ⟨by decide, by decide, by decide +kernel⟩, by decide, aw2 (i := 218) rfl rfl⟩
abbrev mu_X0_passThrough : MI := (yX0_passThrough, cX0_passThrough, 4, none)
set_option maxRecDepth 20000 in
theorem mc_X0_passThrough : Cond.code yX0_passThrough cX0_passThrough 4 none ∈ AW := aw2 (i := 223) rfl rfl
set_option maxRecDepth 20000 in
theorem ml_X6_127 : MSV RX6 127 mu_X0_passThrough 2 := ⟨aw2 (i := 220) rfl rfl, aw1 (i := 5) rfl rfl, mc_X0_passThrough, ⟨by decide, by decide, by decide +kernel⟩, by decide, aw2 (i := 221) rfl rfl, aw2 (i := 222) rfl rfl⟩
abbrev mu_X0_begin : MI := (yX0_begin, cX0_begin, 2, none)
set_option maxRecDepth 20000 in
theorem mc_X0_begin : Cond.code yX0_begin cX0_begin 2 none ∈ AW := aw2 (i := 227) rfl rfl
set_option maxRecDepth 20000 in
theorem ml_X0_55 : MSV RX0 55 mu_X0_begin 1 := ⟨aw2 (i := 224) rfl rfl, aw1 (i := 5) rfl rfl, mc_X0_begin, ⟨by decide, by decide, by decide +kernel⟩, by decide, aw2 (i := 225) rfl rfl, aw2 (i := 226) rfl rfl⟩
abbrev mu_X2_begin : MI := (yX2_begin, cX2_begin, 3, none)
set_option maxRecDepth 20000 in
theorem mc_X2_begin : Cond.code yX2_begin cX2_begin 3 none ∈ AW := aw2 (i := 231) rfl rfl
set_option maxRecDepth 20000 in
theorem ml_X0_42 : MSV RX0 42 mu_X2_begin 1 := ⟨aw2 (i := 228) rfl rfl, aw1 (i := 4) rfl rfl, mc_X2_begin, ⟨by decide, by decide, by decide +kernel⟩, by decide, aw2 (i := 229) rfl rfl, aw2 (i := 230) rfl rfl⟩
abbrev mu_X1_allSheets : MI := (yX1_allSheets, cX1_allSheets, 3, (some .int))
set_option maxRecDepth 20000 in
theorem mc_X1_allSheets : Cond.code yX1_allSheets cX1_allSheets 3 (some .int) ∈ AW := aw2 (i := 235) rfl rfl
set_option maxRecDepth 20000 in
theorem ml_X2_36 : MSV RX2 36 mu_X1_allSheets 0 := ⟨aw2 (i := 232) rfl rfl, aw1 (i := 2) rfl rfl, mc_X1_allSheets, ⟨by decide, by decide, by decide +kernel⟩, by decide, aw2 (i := 233) rfl rfl, aw2 (i := 234) rfl rfl⟩
abbrev mu_J7_fill_53178 : MI := (yJ7_fill_53178, cJ7_fill_53178, 4, none)
set_option maxRecDepth 20000 in
theorem mc_J7_fill_53178 : Cond.code yJ7_fill_53178 cJ7_fill_53178 4 none ∈ AW := aw2 (i := 238) rfl rfl
set_option maxRecDepth 20000 in
theorem ml_X0_49 : MSS RX0 49 mu_J7_fill_53178 2 := ⟨aw2 (i := 236) rfl rfl, aw1 (i := 16) rfl rfl, mc_J7_fill_53178, ⟨by decide, by decide, by decide +kernel⟩, by decide, aw2 (i := 237) rfl rfl⟩
abbrev mu_X0_passMinute : MI := (yX0_passMinute, cX0_passMinute, 5, none)
set_option maxRecDepth 20000 in
theorem mc_X0_passMinute : Cond.code yX0_passMinute cX0_passMinute 5 none ∈ AW := aw3 (i := 2) rfl rfl
set_option maxRecDepth 20000 in
theorem ml_X0_56 : MSV RX0 56 mu_X0_passMinute 2 := ⟨aw2 (i := 239) rfl rfl, aw1 (i := 5) rfl rfl, mc_X0_passMinute, ⟨by decide, by decide, by decide +kernel⟩, by decide, aw3 (i := 0) rfl rfl, aw3 (i := 1) rfl rfl⟩
abbrev mu_X2_putOut : MI := (yX2_putOut, cX2_putOut, 4, (some .int))
set_option maxRecDepth 20000 in
theorem mc_X2_putOut : Cond.code yX2_putOut cX2_putOut 4 (some .int) ∈ AW := aw3 (i := 6) rfl rfl
set_option maxRecDepth 20000 in
theorem ml_X0_60 : MSV RX0 60 mu_X2_putOut 2 := ⟨aw3 (i := 3) rfl rfl, aw1 (i := 4) rfl rfl, mc_X2_putOut, ⟨by decide, by decide, by decide +kernel⟩, by decide, aw3 (i := 4) rfl rfl, aw3 (i := 5) rfl rfl⟩
abbrev mu_X2_chosenJob : MI := (yX2_chosenJob, cX2_chosenJob, 6, (some .int))
set_option maxRecDepth 20000 in
theorem mc_X2_chosenJob : Cond.code yX2_chosenJob cX2_chosenJob 6 (some .int) ∈ AW := aw3 (i := 10) rfl rfl
set_option maxRecDepth 20000 in
theorem ml_X2_46 : MSV RX2 46 mu_X2_chosenJob 2 := ⟨aw3 (i := 7) rfl rfl, aw1 (i := 4) rfl rfl, mc_X2_chosenJob, ⟨by decide, by decide, by decide +kernel⟩, by decide, aw3 (i := 9) rfl rfl, awp (i := 8) rfl rfl⟩
abbrev mu_X2_isAhead : MI := (yX2_isAhead, cX2_isAhead, 5, (some .boolean))
set_option maxRecDepth 20000 in
theorem mc_X2_isAhead : Cond.code yX2_isAhead cX2_isAhead 5 (some .boolean) ∈ AW := aw3 (i := 14) rfl rfl
set_option maxRecDepth 20000 in
theorem ml_X2_60 : MSV RX2 60 mu_X2_isAhead 3 := ⟨aw3 (i := 11) rfl rfl, aw1 (i := 4) rfl rfl, mc_X2_isAhead, ⟨by decide, by decide, by decide +kernel⟩, by decide, aw3 (i := 13) rfl rfl, awp (i := 9) rfl rfl⟩
abbrev mu_X2_turnsUntil : MI := (yX2_turnsUntil, cX2_turnsUntil, 3, (some .int))
set_option maxRecDepth 20000 in
theorem mc_X2_turnsUntil : Cond.code yX2_turnsUntil cX2_turnsUntil 3 (some .int) ∈ AW := aw3 (i := 18) rfl rfl
set_option maxRecDepth 20000 in
theorem ml_X2_64 : MSV RX2 64 mu_X2_turnsUntil 1 := ⟨aw3 (i := 15) rfl rfl, aw1 (i := 4) rfl rfl, mc_X2_turnsUntil, ⟨by decide, by decide, by decide +kernel⟩, by decide, aw3 (i := 17) rfl rfl, awp (i := 10) rfl rfl⟩
abbrev mu_X1_hasSheet : MI := (yX1_hasSheet, cX1_hasSheet, 3, (some .boolean))
set_option maxRecDepth 20000 in
theorem mc_X1_hasSheet : Cond.code yX1_hasSheet cX1_hasSheet 3 (some .boolean) ∈ AW := aw3 (i := 22) rfl rfl
set_option maxRecDepth 20000 in
theorem ml_X0_64 : MSV RX0 64 mu_X1_hasSheet 1 := ⟨aw3 (i := 19) rfl rfl, aw1 (i := 2) rfl rfl, mc_X1_hasSheet, ⟨by decide, by decide, by decide +kernel⟩, by decide, aw3 (i := 20) rfl rfl, aw3 (i := 21) rfl rfl⟩
set_option maxRecDepth 20000 in
theorem ml_X1_46 : MSV RX1 46 mu_X1_hasJob 1 := ⟨aw3 (i := 23) rfl rfl, aw1 (i := 2) rfl rfl, mc_X1_hasJob, ⟨by decide, by decide, by decide +kernel⟩, by decide, aw2 (i := 187) rfl rfl, aw2 (i := 188) rfl rfl⟩
abbrev mu_X0_noteOut : MI := (yX0_noteOut, cX0_noteOut, 3, none)
set_option maxRecDepth 20000 in
theorem mc_X0_noteOut : Cond.code yX0_noteOut cX0_noteOut 3 none ∈ AW := aw3 (i := 27) rfl rfl
set_option maxRecDepth 20000 in
theorem ml_X0_70 : MSV RX0 70 mu_X0_noteOut 2 := ⟨aw3 (i := 24) rfl rfl, aw1 (i := 5) rfl rfl, mc_X0_noteOut, ⟨by decide, by decide, by decide +kernel⟩, by decide, aw3 (i := 26) rfl rfl, awp (i := 11) rfl rfl⟩
abbrev mu_X5_putBeneath : MI := (yX5_putBeneath, cX5_putBeneath, 2, none)
set_option maxRecDepth 20000 in
theorem mc_X5_putBeneath : Cond.code yX5_putBeneath cX5_putBeneath 2 none ∈ AW := aw3 (i := 31) rfl rfl
set_option maxRecDepth 20000 in
theorem ml_X0_77 : MSV RX0 77 mu_X5_putBeneath 1 := ⟨aw3 (i := 28) rfl rfl, aw1 (i := 6) rfl rfl, mc_X5_putBeneath, ⟨by decide, by decide, by decide +kernel⟩, by decide, aw3 (i := 29) rfl rfl, aw3 (i := 30) rfl rfl⟩
abbrev mu_X5_putUpon : MI := (yX5_putUpon, cX5_putUpon, 2, none)
set_option maxRecDepth 20000 in
theorem mc_X5_putUpon : Cond.code yX5_putUpon cX5_putUpon 2 none ∈ AW := aw3 (i := 36) rfl rfl
set_option maxRecDepth 20000 in
theorem ml_X0_81 : MSV RX0 81 mu_X5_putUpon 1 := ⟨aw3 (i := 33) rfl rfl, aw1 (i := 6) rfl rfl, mc_X5_putUpon, ⟨by decide, by decide, by decide +kernel⟩, by decide, aw3 (i := 34) rfl rfl, aw3 (i := 35) rfl rfl⟩
abbrev mu_X5_giveTo : MI := (yX5_giveTo, cX5_giveTo, 13, none)
set_option maxRecDepth 20000 in
theorem mc_X5_giveTo : Cond.code yX5_giveTo cX5_giveTo 13 none ∈ AW := aw3 (i := 40) rfl rfl
set_option maxRecDepth 20000 in
theorem ml_X0_90 : MSV RX0 90 mu_X5_giveTo 3 := ⟨aw3 (i := 37) rfl rfl, aw1 (i := 6) rfl rfl, mc_X5_giveTo, ⟨by decide, by decide, by decide +kernel⟩, by decide, aw3 (i := 38) rfl rfl, aw3 (i := 39) rfl rfl⟩
abbrev mu_X5_jobsWanted : MI := (yX5_jobsWanted, cX5_jobsWanted, 5, (some .int))
set_option maxRecDepth 20000 in
theorem mc_X5_jobsWanted : Cond.code yX5_jobsWanted cX5_jobsWanted 5 (some .int) ∈ AW := aw3 (i := 44) rfl rfl
set_option maxRecDepth 20000 in
theorem ml_X5_49 : MSV RX5 49 mu_X5_jobsWanted 3 := ⟨aw3 (i := 41) rfl rfl, aw1 (i := 6) rfl rfl, mc_X5_jobsWanted, ⟨by decide, by decide, by decide +kernel⟩, by decide, aw3 (i := 43) rfl rfl, awp (i := 12) rfl rfl⟩
abbrev mu_X1_jobsOf : MI := (yX1_jobsOf, cX1_jobsOf, 4, (some .int))
set_option maxRecDepth 20000 in
theorem mc_X1_jobsOf : Cond.code yX1_jobsOf cX1_jobsOf 4 (some .int) ∈ AW := aw3 (i := 48) rfl rfl
set_option maxRecDepth 20000 in
theorem ml_X5_57 : MSV RX5 57 mu_X1_jobsOf 1 := ⟨aw3 (i := 45) rfl rfl, aw1 (i := 2) rfl rfl, mc_X1_jobsOf, ⟨by decide, by decide, by decide +kernel⟩, by decide, aw3 (i := 46) rfl rfl, aw3 (i := 47) rfl rfl⟩
abbrev mu_X5_wholeJobs : MI := (yX5_wholeJobs, cX5_wholeJobs, 4, (some .int))
set_option maxRecDepth 20000 in
theorem mc_X5_wholeJobs : Cond.code yX5_wholeJobs cX5_wholeJobs 4 (some .int) ∈ AW := aw3 (i := 52) rfl rfl
set_option maxRecDepth 20000 in
theorem ml_X5_60 : MSV RX5 60 mu_X5_wholeJobs 1 := ⟨aw3 (i := 49) rfl rfl, aw1 (i := 6) rfl rfl, mc_X5_wholeJobs, ⟨by decide, by decide, by decide +kernel⟩, by decide, aw3 (i := 51) rfl rfl, awp (i := 13) rfl rfl⟩
set_option maxRecDepth 20000 in
theorem ml_X5_64 : MSS RX5 64 mu_J7_fill_53178 2 := ⟨aw3 (i := 53) rfl rfl, aw1 (i := 16) rfl rfl, mc_J7_fill_53178, ⟨by decide, by decide, by decide +kernel⟩, by decide, aw2 (i := 237) rfl rfl⟩
abbrev mu_X6_bitsUpTo : MI := (yX6_bitsUpTo, cX6_bitsUpTo, 1, (some .int))
set_option maxRecDepth 20000 in
theorem mc_X6_bitsUpTo : Cond.code yX6_bitsUpTo cX6_bitsUpTo 1 (some .int) ∈ AW := aw3 (i := 56) rfl rfl
set_option maxRecDepth 20000 in
theorem ml_X5_76 : MNS RX5 76 mu_X6_bitsUpTo 1 := ⟨List.mem_of_getElem? (i := 10) rfl, aw1 (i := 1) rfl rfl, mc_X6_bitsUpTo, ⟨by decide, by decide, by decide +kernel⟩, by decide, aw3 (i := 55) rfl rfl⟩
abbrev mu_X6_hasBit : MI := (yX6_hasBit, cX6_hasBit, 2, (some .boolean))
set_option maxRecDepth 20000 in
theorem mc_X6_hasBit : Cond.code yX6_hasBit cX6_hasBit 2 (some .boolean) ∈ AW := aw3 (i := 59) rfl rfl
set_option maxRecDepth 20000 in
theorem ml_X5_53 : MNS RX5 53 mu_X6_hasBit 2 := ⟨List.mem_of_getElem? (i := 9) rfl, aw1 (i := 1) rfl rfl, mc_X6_hasBit, ⟨by decide, by decide, by decide +kernel⟩, by decide, aw3 (i := 58) rfl rfl⟩
abbrev mu_X0_sheetOut : MI := (yX0_sheetOut, cX0_sheetOut, 2, (some .int))
set_option maxRecDepth 20000 in
theorem mc_X0_sheetOut : Cond.code yX0_sheetOut cX0_sheetOut 2 (some .int) ∈ AW := aw3 (i := 63) rfl rfl
set_option maxRecDepth 20000 in
theorem ml_X6_131 : MSV RX6 131 mu_X0_sheetOut 1 := ⟨aw3 (i := 60) rfl rfl, aw1 (i := 5) rfl rfl, mc_X0_sheetOut, ⟨by decide, by decide, by decide +kernel⟩, by decide, aw3 (i := 61) rfl rfl, aw3 (i := 62) rfl rfl⟩
abbrev mu_X0_minuteOut : MI := (yX0_minuteOut, cX0_minuteOut, 2, (some .int))
set_option maxRecDepth 20000 in
theorem mc_X0_minuteOut : Cond.code yX0_minuteOut cX0_minuteOut 2 (some .int) ∈ AW := aw3 (i := 67) rfl rfl
set_option maxRecDepth 20000 in
theorem ml_X6_134 : MSV RX6 134 mu_X0_minuteOut 1 := ⟨aw3 (i := 64) rfl rfl, aw1 (i := 5) rfl rfl, mc_X0_minuteOut, ⟨by decide, by decide, by decide +kernel⟩, by decide, aw3 (i := 65) rfl rfl, aw3 (i := 66) rfl rfl⟩
abbrev mu_X6_outMany : MI := (yX6_outMany, cX6_outMany, 1, (some .int))
set_option maxRecDepth 20000 in
theorem mc_X6_outMany : Cond.code yX6_outMany cX6_outMany 1 (some .int) ∈ AW := aw3 (i := 71) rfl rfl
set_option maxRecDepth 20000 in
theorem ml_L_48 : MSV RL 48 mu_X6_outMany 0 := ⟨aw3 (i := 68) rfl rfl, aw1 (i := 1) rfl rfl, mc_X6_outMany, ⟨by decide, by decide, by decide +kernel⟩, by decide, aw3 (i := 69) rfl rfl, aw3 (i := 70) rfl rfl⟩
abbrev mu_X6_lies : MI := (yX6_lies, cX6_lies, 3, (some .int))
set_option maxRecDepth 20000 in
theorem mc_X6_lies : Cond.code yX6_lies cX6_lies 3 (some .int) ∈ AW := aw3 (i := 75) rfl rfl
set_option maxRecDepth 20000 in
theorem ml_L_52 : MSV RL 52 mu_X6_lies 2 := ⟨aw3 (i := 72) rfl rfl, aw1 (i := 1) rfl rfl, mc_X6_lies, ⟨by decide, by decide, by decide +kernel⟩, by decide, aw3 (i := 73) rfl rfl, aw3 (i := 74) rfl rfl⟩
abbrev mu_X5_fromTop : MI := (yX5_fromTop, cX5_fromTop, 2, (some .int))
set_option maxRecDepth 20000 in
theorem mc_X5_fromTop : Cond.code yX5_fromTop cX5_fromTop 2 (some .int) ∈ AW := aw3 (i := 79) rfl rfl
set_option maxRecDepth 20000 in
theorem ml_X6_147 : MSV RX6 147 mu_X5_fromTop 1 := ⟨aw3 (i := 76) rfl rfl, aw1 (i := 6) rfl rfl, mc_X5_fromTop, ⟨by decide, by decide, by decide +kernel⟩, by decide, aw3 (i := 77) rfl rfl, aw3 (i := 78) rfl rfl⟩
abbrev mu_X6_held : MI := (yX6_held, cX6_held, 3, (some .int))
set_option maxRecDepth 20000 in
theorem mc_X6_held : Cond.code yX6_held cX6_held 3 (some .int) ∈ AW := aw3 (i := 83) rfl rfl
set_option maxRecDepth 20000 in
theorem ml_L_56 : MSV RL 56 mu_X6_held 2 := ⟨aw3 (i := 80) rfl rfl, aw1 (i := 1) rfl rfl, mc_X6_held, ⟨by decide, by decide, by decide +kernel⟩, by decide, aw3 (i := 81) rfl rfl, aw3 (i := 82) rfl rfl⟩
set_option maxRecDepth 20000 in
theorem ml_X6_150 : MSS RX6 150 mu_X6_isOwner 1 := ⟨aw3 (i := 84) rfl rfl, aw1 (i := 1) rfl rfl, mc_X6_isOwner, ⟨by decide, by decide, by decide +kernel⟩, by decide, aw2 (i := 167) rfl rfl⟩
abbrev mu_X0_heldBy : MI := (yX0_heldBy, cX0_heldBy, 6, (some .int))
set_option maxRecDepth 20000 in
theorem mc_X0_heldBy : Cond.code yX0_heldBy cX0_heldBy 6 (some .int) ∈ AW := aw3 (i := 88) rfl rfl
set_option maxRecDepth 20000 in
theorem ml_X6_153 : MSV RX6 153 mu_X0_heldBy 3 := ⟨aw3 (i := 85) rfl rfl, aw1 (i := 5) rfl rfl, mc_X0_heldBy, ⟨by decide, by decide, by decide +kernel⟩, by decide, aw3 (i := 86) rfl rfl, aw3 (i := 87) rfl rfl⟩
abbrev mu_X1_isOf : MI := (yX1_isOf, cX1_isOf, 3, (some .boolean))
set_option maxRecDepth 20000 in
theorem mc_X1_isOf : Cond.code yX1_isOf cX1_isOf 3 (some .boolean) ∈ AW := aw3 (i := 92) rfl rfl
set_option maxRecDepth 20000 in
theorem ml_X0_94 : MSV RX0 94 mu_X1_isOf 2 := ⟨aw3 (i := 89) rfl rfl, aw1 (i := 2) rfl rfl, mc_X1_isOf, ⟨by decide, by decide, by decide +kernel⟩, by decide, aw3 (i := 90) rfl rfl, aw3 (i := 91) rfl rfl⟩
set_option maxRecDepth 20000 in
theorem ml_X1_50 : MSV RX1 50 mu_X1_hasSheet 1 := ⟨aw3 (i := 93) rfl rfl, aw1 (i := 2) rfl rfl, mc_X1_hasSheet, ⟨by decide, by decide, by decide +kernel⟩, by decide, aw3 (i := 20) rfl rfl, aw3 (i := 21) rfl rfl⟩
abbrev mu_X6_who : MI := (yX6_who, cX6_who, 2, (some .int))
set_option maxRecDepth 20000 in
theorem mc_X6_who : Cond.code yX6_who cX6_who 2 (some .int) ∈ AW := aw3 (i := 97) rfl rfl
set_option maxRecDepth 20000 in
theorem ml_L_60 : MSV RL 60 mu_X6_who 1 := ⟨aw3 (i := 94) rfl rfl, aw1 (i := 1) rfl rfl, mc_X6_who, ⟨by decide, by decide, by decide +kernel⟩, by decide, aw3 (i := 95) rfl rfl, aw3 (i := 96) rfl rfl⟩
set_option maxRecDepth 20000 in
theorem ml_X6_157 : MSV RX6 157 mu_X1_hasSheet 1 := ⟨aw3 (i := 98) rfl rfl, aw1 (i := 2) rfl rfl, mc_X1_hasSheet, ⟨by decide, by decide, by decide +kernel⟩, by decide, aw3 (i := 20) rfl rfl, aw3 (i := 21) rfl rfl⟩
abbrev mu_X0_holderOf : MI := (yX0_holderOf, cX0_holderOf, 2, (some .int))
set_option maxRecDepth 20000 in
theorem mc_X0_holderOf : Cond.code yX0_holderOf cX0_holderOf 2 (some .int) ∈ AW := aw3 (i := 102) rfl rfl
set_option maxRecDepth 20000 in
theorem ml_X6_160 : MSV RX6 160 mu_X0_holderOf 1 := ⟨aw3 (i := 99) rfl rfl, aw1 (i := 5) rfl rfl, mc_X0_holderOf, ⟨by decide, by decide, by decide +kernel⟩, by decide, aw3 (i := 100) rfl rfl, aw3 (i := 101) rfl rfl⟩
abbrev mu_X6_missing : MI := (yX6_missing, cX6_missing, 2, (some .int))
set_option maxRecDepth 20000 in
theorem mc_X6_missing : Cond.code yX6_missing cX6_missing 2 (some .int) ∈ AW := aw3 (i := 106) rfl rfl
set_option maxRecDepth 20000 in
theorem ml_L_64 : MSV RL 64 mu_X6_missing 1 := ⟨aw3 (i := 103) rfl rfl, aw1 (i := 1) rfl rfl, mc_X6_missing, ⟨by decide, by decide, by decide +kernel⟩, by decide, aw3 (i := 104) rfl rfl, aw3 (i := 105) rfl rfl⟩
abbrev mu_X1_sheetsOf : MI := (yX1_sheetsOf, cX1_sheetsOf, 4, (some .int))
set_option maxRecDepth 20000 in
theorem mc_X1_sheetsOf : Cond.code yX1_sheetsOf cX1_sheetsOf 4 (some .int) ∈ AW := aw3 (i := 110) rfl rfl
set_option maxRecDepth 20000 in
theorem ml_X6_163 : MSV RX6 163 mu_X1_sheetsOf 1 := ⟨aw3 (i := 107) rfl rfl, aw1 (i := 2) rfl rfl, mc_X1_sheetsOf, ⟨by decide, by decide, by decide +kernel⟩, by decide, aw3 (i := 108) rfl rfl, aw3 (i := 109) rfl rfl⟩
abbrev mu_X6_ask : MI := (yX6_ask, cX6_ask, 2, (some .int))
set_option maxRecDepth 20000 in
theorem mc_X6_ask : Cond.code yX6_ask cX6_ask 2 (some .int) ∈ AW := aw3 (i := 114) rfl rfl
set_option maxRecDepth 20000 in
theorem ml_L_68 : MSV RL 68 mu_X6_ask 1 := ⟨aw3 (i := 111) rfl rfl, aw1 (i := 1) rfl rfl, mc_X6_ask, ⟨by decide, by decide, by decide +kernel⟩, by decide, aw3 (i := 112) rfl rfl, aw3 (i := 113) rfl rfl⟩
abbrev mu_X0_othersWith : MI := (yX0_othersWith, cX0_othersWith, 6, (some .int))
set_option maxRecDepth 20000 in
theorem mc_X0_othersWith : Cond.code yX0_othersWith cX0_othersWith 6 (some .int) ∈ AW := aw3 (i := 118) rfl rfl
set_option maxRecDepth 20000 in
theorem ml_X6_166 : MSV RX6 166 mu_X0_othersWith 2 := ⟨aw3 (i := 115) rfl rfl, aw1 (i := 5) rfl rfl, mc_X0_othersWith, ⟨by decide, by decide, by decide +kernel⟩, by decide, aw3 (i := 116) rfl rfl, aw3 (i := 117) rfl rfl⟩
abbrev mu_X6_ready : MI := (yX6_ready, cX6_ready, 2, (some .int))
set_option maxRecDepth 20000 in
theorem mc_X6_ready : Cond.code yX6_ready cX6_ready 2 (some .int) ∈ AW := aw3 (i := 122) rfl rfl
set_option maxRecDepth 20000 in
theorem ml_L_72 : MSV RL 72 mu_X6_ready 1 := ⟨aw3 (i := 119) rfl rfl, aw1 (i := 1) rfl rfl, mc_X6_ready, ⟨by decide, by decide, by decide +kernel⟩, by decide, aw3 (i := 120) rfl rfl, aw3 (i := 121) rfl rfl⟩
abbrev mu_X0_lastFirstOut : MI := (yX0_lastFirstOut, cX0_lastFirstOut, 5, (some .int))
set_option maxRecDepth 20000 in
theorem mc_X0_lastFirstOut : Cond.code yX0_lastFirstOut cX0_lastFirstOut 5 (some .int) ∈ AW := aw3 (i := 126) rfl rfl
set_option maxRecDepth 20000 in
theorem ml_X6_170 : MSV RX6 170 mu_X0_lastFirstOut 2 := ⟨aw3 (i := 123) rfl rfl, aw1 (i := 5) rfl rfl, mc_X0_lastFirstOut, ⟨by decide, by decide, by decide +kernel⟩, by decide, aw3 (i := 124) rfl rfl, aw3 (i := 125) rfl rfl⟩
set_option maxRecDepth 20000 in
theorem ml_X0_98 : MSS RX0 98 mu_Math_max 2 := ⟨aw3 (i := 127) rfl rfl, aw1 (i := 11) rfl rfl, mc_Math_max, ⟨by decide, by decide, by decide +kernel⟩, by decide, aw2 (i := 88) rfl rfl⟩
abbrev mu_X6_mixed : MI := (yX6_mixed, cX6_mixed, 1, (some .int))
set_option maxRecDepth 20000 in
theorem mc_X6_mixed : Cond.code yX6_mixed cX6_mixed 1 (some .int) ∈ AW := aw3 (i := 131) rfl rfl
set_option maxRecDepth 20000 in
theorem ml_L_76 : MSV RL 76 mu_X6_mixed 0 := ⟨aw3 (i := 128) rfl rfl, aw1 (i := 1) rfl rfl, mc_X6_mixed, ⟨by decide, by decide, by decide +kernel⟩, by decide, aw3 (i := 129) rfl rfl, aw3 (i := 130) rfl rfl⟩
abbrev mu_X2_mixedIn : MI := (yX2_mixedIn, cX2_mixedIn, 3, (some .int))
set_option maxRecDepth 20000 in
theorem mc_X2_mixedIn : Cond.code yX2_mixedIn cX2_mixedIn 3 (some .int) ∈ AW := aw3 (i := 135) rfl rfl
set_option maxRecDepth 20000 in
theorem ml_X6_173 : MSV RX6 173 mu_X2_mixedIn 1 := ⟨aw3 (i := 132) rfl rfl, aw1 (i := 4) rfl rfl, mc_X2_mixedIn, ⟨by decide, by decide, by decide +kernel⟩, by decide, aw3 (i := 133) rfl rfl, aw3 (i := 134) rfl rfl⟩
set_option maxRecDepth 20000 in
theorem ml_X2_50 : MSV RX2 50 mu_X2_begin 1 := ⟨aw3 (i := 136) rfl rfl, aw1 (i := 4) rfl rfl, mc_X2_begin, ⟨by decide, by decide, by decide +kernel⟩, by decide, aw2 (i := 229) rfl rfl, aw2 (i := 230) rfl rfl⟩
set_option maxRecDepth 20000 in
theorem ml_X2_54 : MSV RX2 54 mu_X2_putOut 2 := ⟨aw3 (i := 137) rfl rfl, aw1 (i := 4) rfl rfl, mc_X2_putOut, ⟨by decide, by decide, by decide +kernel⟩, by decide, aw3 (i := 4) rfl rfl, aw3 (i := 5) rfl rfl⟩
abbrev mu_X6_byKind : MI := (yX6_byKind, cX6_byKind, 5, (some .int))
set_option maxRecDepth 20000 in
theorem mc_X6_byKind : Cond.code yX6_byKind cX6_byKind 5 (some .int) ∈ AW := aw3 (i := 141) rfl rfl
set_option maxRecDepth 20000 in
theorem ml_L_80 : MSV RL 80 mu_X6_byKind 0 := ⟨aw3 (i := 138) rfl rfl, aw1 (i := 1) rfl rfl, mc_X6_byKind, ⟨by decide, by decide, by decide +kernel⟩, by decide, aw3 (i := 139) rfl rfl, aw3 (i := 140) rfl rfl⟩
abbrev mu_X6_send : MI := (yX6_send, cX6_send, 7, (some .int))
set_option maxRecDepth 20000 in
theorem mc_X6_send : Cond.code yX6_send cX6_send 7 (some .int) ∈ AW := aw3 (i := 145) rfl rfl
set_option maxRecDepth 20000 in
theorem ml_L_84 : MSV RL 84 mu_X6_send 2 := ⟨aw3 (i := 142) rfl rfl, aw1 (i := 1) rfl rfl, mc_X6_send, ⟨by decide, by decide, by decide +kernel⟩, by decide, aw3 (i := 143) rfl rfl, aw3 (i := 144) rfl rfl⟩
abbrev mu_X6_two : MI := (yX6_two, cX6_two, 3, (some .int))
set_option maxRecDepth 20000 in
theorem mc_X6_two : Cond.code yX6_two cX6_two 3 (some .int) ∈ AW := aw3 (i := 149) rfl rfl
set_option maxRecDepth 20000 in
theorem ml_L_88 : MSV RL 88 mu_X6_two 2 := ⟨aw3 (i := 146) rfl rfl, aw1 (i := 1) rfl rfl, mc_X6_two, ⟨by decide, by decide, by decide +kernel⟩, by decide, aw3 (i := 147) rfl rfl, aw3 (i := 148) rfl rfl⟩
abbrev mu_X6_areTwoJobs : MI := (yX6_areTwoJobs, cX6_areTwoJobs, 3, (some .boolean))
set_option maxRecDepth 20000 in
theorem mc_X6_areTwoJobs : Cond.code yX6_areTwoJobs cX6_areTwoJobs 3 (some .boolean) ∈ AW := aw3 (i := 153) rfl rfl
set_option maxRecDepth 20000 in
theorem ml_X6_181 : MSV RX6 181 mu_X6_areTwoJobs 2 := ⟨aw3 (i := 150) rfl rfl, aw1 (i := 1) rfl rfl, mc_X6_areTwoJobs, ⟨by decide, by decide, by decide +kernel⟩, by decide, aw3 (i := 152) rfl rfl, awp (i := 14) rfl rfl⟩
abbrev mu_X3_waysOfThree : MI := (yX3_waysOfThree, cX3_waysOfThree, 7, (some .int))
set_option maxRecDepth 20000 in
theorem mc_X3_waysOfThree : Cond.code yX3_waysOfThree cX3_waysOfThree 7 (some .int) ∈ AW := aw3 (i := 157) rfl rfl
set_option maxRecDepth 20000 in
theorem ml_X6_185 : MSV RX6 185 mu_X3_waysOfThree 3 := ⟨aw3 (i := 154) rfl rfl, aw1 (i := 7) rfl rfl, mc_X3_waysOfThree, ⟨by decide, by decide, by decide +kernel⟩, by decide, aw3 (i := 155) rfl rfl, aw3 (i := 156) rfl rfl⟩
abbrev mu_X3_at : MI := (yX3_at, cX3_at, 3, (some .int))
set_option maxRecDepth 20000 in
theorem mc_X3_at : Cond.code yX3_at cX3_at 3 (some .int) ∈ AW := aw3 (i := 160) rfl rfl
set_option maxRecDepth 20000 in
theorem ml_X3_28 : MSS RX3 28 mu_X3_at 3 := ⟨aw3 (i := 158) rfl rfl, aw1 (i := 7) rfl rfl, mc_X3_at, ⟨by decide, by decide, by decide +kernel⟩, by decide, aw3 (i := 159) rfl rfl⟩
abbrev mu_X3_waysTo : MI := (yX3_waysTo, cX3_waysTo, 7, (some .int))
set_option maxRecDepth 20000 in
theorem mc_X3_waysTo : Cond.code yX3_waysTo cX3_waysTo 7 (some .int) ∈ AW := aw3 (i := 164) rfl rfl
set_option maxRecDepth 20000 in
theorem ml_X3_32 : MSV RX3 32 mu_X3_waysTo 3 := ⟨aw3 (i := 161) rfl rfl, aw1 (i := 7) rfl rfl, mc_X3_waysTo, ⟨by decide, by decide, by decide +kernel⟩, by decide, aw3 (i := 163) rfl rfl, awp (i := 15) rfl rfl⟩
abbrev mu_X6_three : MI := (yX6_three, cX6_three, 4, (some .int))
set_option maxRecDepth 20000 in
theorem mc_X6_three : Cond.code yX6_three cX6_three 4 (some .int) ∈ AW := aw3 (i := 168) rfl rfl
set_option maxRecDepth 20000 in
theorem ml_L_92 : MSV RL 92 mu_X6_three 3 := ⟨aw3 (i := 165) rfl rfl, aw1 (i := 1) rfl rfl, mc_X6_three, ⟨by decide, by decide, by decide +kernel⟩, by decide, aw3 (i := 166) rfl rfl, aw3 (i := 167) rfl rfl⟩
abbrev mu_X6_parts : MI := (yX6_parts, cX6_parts, 1, (some .int))
set_option maxRecDepth 20000 in
theorem mc_X6_parts : Cond.code yX6_parts cX6_parts 1 (some .int) ∈ AW := aw3 (i := 172) rfl rfl
set_option maxRecDepth 20000 in
theorem ml_L_97 : MSV RL 97 mu_X6_parts 0 := ⟨aw3 (i := 169) rfl rfl, aw1 (i := 1) rfl rfl, mc_X6_parts, ⟨by decide, by decide, by decide +kernel⟩, by decide, aw3 (i := 170) rfl rfl, aw3 (i := 171) rfl rfl⟩
abbrev mu_X3_fewestParts : MI := (yX3_fewestParts, cX3_fewestParts, 6, (some .int))
set_option maxRecDepth 20000 in
theorem mc_X3_fewestParts : Cond.code yX3_fewestParts cX3_fewestParts 6 (some .int) ∈ AW := aw3 (i := 176) rfl rfl
set_option maxRecDepth 20000 in
theorem ml_X6_189 : MSV RX6 189 mu_X3_fewestParts 0 := ⟨aw3 (i := 173) rfl rfl, aw1 (i := 7) rfl rfl, mc_X3_fewestParts, ⟨by decide, by decide, by decide +kernel⟩, by decide, aw3 (i := 174) rfl rfl, aw3 (i := 175) rfl rfl⟩
set_option maxRecDepth 20000 in
theorem ml_X3_35 : MSS RX3 35 mu_J7_fill_53178 2 := ⟨aw3 (i := 177) rfl rfl, aw1 (i := 16) rfl rfl, mc_J7_fill_53178, ⟨by decide, by decide, by decide +kernel⟩, by decide, aw2 (i := 237) rfl rfl⟩
set_option maxRecDepth 20000 in
theorem ml_X3_41 : MSS RX3 41 mu_Math_max 2 := ⟨aw3 (i := 178) rfl rfl, aw1 (i := 11) rfl rfl, mc_Math_max, ⟨by decide, by decide, by decide +kernel⟩, by decide, aw2 (i := 88) rfl rfl⟩
abbrev mu_X6_lacks : MI := (yX6_lacks, cX6_lacks, 2, (some .int))
set_option maxRecDepth 20000 in
theorem mc_X6_lacks : Cond.code yX6_lacks cX6_lacks 2 (some .int) ∈ AW := aw3 (i := 182) rfl rfl
set_option maxRecDepth 20000 in
theorem ml_L_101 : MSV RL 101 mu_X6_lacks 1 := ⟨aw3 (i := 179) rfl rfl, aw1 (i := 1) rfl rfl, mc_X6_lacks, ⟨by decide, by decide, by decide +kernel⟩, by decide, aw3 (i := 180) rfl rfl, aw3 (i := 181) rfl rfl⟩
abbrev mu_X3_numbersLacking : MI := (yX3_numbersLacking, cX3_numbersLacking, 5, (some .int))
set_option maxRecDepth 20000 in
theorem mc_X3_numbersLacking : Cond.code yX3_numbersLacking cX3_numbersLacking 5 (some .int) ∈ AW := aw3 (i := 186) rfl rfl
set_option maxRecDepth 20000 in
theorem ml_X6_192 : MSV RX6 192 mu_X3_numbersLacking 2 := ⟨aw3 (i := 183) rfl rfl, aw1 (i := 7) rfl rfl, mc_X3_numbersLacking, ⟨by decide, by decide, by decide +kernel⟩, by decide, aw3 (i := 184) rfl rfl, aw3 (i := 185) rfl rfl⟩
set_option maxRecDepth 20000 in
theorem ml_X3_47 : MNS RX3 47 mu_X6_bitsUpTo 1 := ⟨List.mem_of_getElem? (i := 8) rfl, aw1 (i := 1) rfl rfl, mc_X6_bitsUpTo, ⟨by decide, by decide, by decide +kernel⟩, by decide, aw3 (i := 55) rfl rfl⟩
abbrev mu_X6_laps : MI := (yX6_laps, cX6_laps, 2, (some .int))
set_option maxRecDepth 20000 in
theorem mc_X6_laps : Cond.code yX6_laps cX6_laps 2 (some .int) ∈ AW := aw3 (i := 191) rfl rfl
set_option maxRecDepth 20000 in
theorem ml_L_105 : MSV RL 105 mu_X6_laps 1 := ⟨aw3 (i := 188) rfl rfl, aw1 (i := 1) rfl rfl, mc_X6_laps, ⟨by decide, by decide, by decide +kernel⟩, by decide, aw3 (i := 189) rfl rfl, aw3 (i := 190) rfl rfl⟩
abbrev mu_X3_fewestLaps : MI := (yX3_fewestLaps, cX3_fewestLaps, 5, (some .int))
set_option maxRecDepth 20000 in
theorem mc_X3_fewestLaps : Cond.code yX3_fewestLaps cX3_fewestLaps 5 (some .int) ∈ AW := aw3 (i := 195) rfl rfl
set_option maxRecDepth 20000 in
theorem ml_X6_196 : MSV RX6 196 mu_X3_fewestLaps 1 := ⟨aw3 (i := 192) rfl rfl, aw1 (i := 7) rfl rfl, mc_X3_fewestLaps, ⟨by decide, by decide, by decide +kernel⟩, by decide, aw3 (i := 193) rfl rfl, aw3 (i := 194) rfl rfl⟩
abbrev mu_X3_runsBySize : MI := (yX3_runsBySize, cX3_runsBySize, 4, (some .int))
set_option maxRecDepth 20000 in
theorem mc_X3_runsBySize : Cond.code yX3_runsBySize cX3_runsBySize 4 (some .int) ∈ AW := aw3 (i := 199) rfl rfl
set_option maxRecDepth 20000 in
theorem ml_X3_51 : MSV RX3 51 mu_X3_runsBySize 0 := ⟨aw3 (i := 196) rfl rfl, aw1 (i := 7) rfl rfl, mc_X3_runsBySize, ⟨by decide, by decide, by decide +kernel⟩, by decide, aw3 (i := 198) rfl rfl, awp (i := 16) rfl rfl⟩
abbrev mu_X6_waits : MI := (yX6_waits, cX6_waits, 5, (some .int))
set_option maxRecDepth 20000 in
theorem mc_X6_waits : Cond.code yX6_waits cX6_waits 5 (some .int) ∈ AW := aw3 (i := 203) rfl rfl
set_option maxRecDepth 20000 in
theorem ml_L_109 : MSV RL 109 mu_X6_waits 3 := ⟨aw3 (i := 200) rfl rfl, aw1 (i := 1) rfl rfl, mc_X6_waits, ⟨by decide, by decide, by decide +kernel⟩, by decide, aw3 (i := 201) rfl rfl, aw3 (i := 202) rfl rfl⟩
set_option maxRecDepth 20000 in
theorem ml_X6_199 : MSS RX6 199 mu_Math_max 2 := ⟨aw3 (i := 204) rfl rfl, aw1 (i := 11) rfl rfl, mc_Math_max, ⟨by decide, by decide, by decide +kernel⟩, by decide, aw2 (i := 88) rfl rfl⟩
abbrev mu_X6_vain : MI := (yX6_vain, cX6_vain, 5, (some .int))
set_option maxRecDepth 20000 in
theorem mc_X6_vain : Cond.code yX6_vain cX6_vain 5 (some .int) ∈ AW := aw3 (i := 208) rfl rfl
set_option maxRecDepth 20000 in
theorem ml_L_113 : MSV RL 113 mu_X6_vain 3 := ⟨aw3 (i := 205) rfl rfl, aw1 (i := 1) rfl rfl, mc_X6_vain, ⟨by decide, by decide, by decide +kernel⟩, by decide, aw3 (i := 206) rfl rfl, aw3 (i := 207) rfl rfl⟩
abbrev mu_X6_seen : MI := (yX6_seen, cX6_seen, 5, (some .int))
set_option maxRecDepth 20000 in
theorem mc_X6_seen : Cond.code yX6_seen cX6_seen 5 (some .int) ∈ AW := aw3 (i := 212) rfl rfl
set_option maxRecDepth 20000 in
theorem ml_L_117 : MSV RL 117 mu_X6_seen 1 := ⟨aw3 (i := 209) rfl rfl, aw1 (i := 1) rfl rfl, mc_X6_seen, ⟨by decide, by decide, by decide +kernel⟩, by decide, aw3 (i := 210) rfl rfl, aw3 (i := 211) rfl rfl⟩
set_option maxRecDepth 20000 in
theorem ml_X6_204 : MSV RX6 204 mu_X0_begin 1 := ⟨aw3 (i := 213) rfl rfl, aw1 (i := 5) rfl rfl, mc_X0_begin, ⟨by decide, by decide, by decide +kernel⟩, by decide, aw2 (i := 225) rfl rfl, aw2 (i := 226) rfl rfl⟩
set_option maxRecDepth 20000 in
theorem ml_X6_207 : MSV RX6 207 mu_X0_passMinute 2 := ⟨aw3 (i := 214) rfl rfl, aw1 (i := 5) rfl rfl, mc_X0_passMinute, ⟨by decide, by decide, by decide +kernel⟩, by decide, aw3 (i := 0) rfl rfl, aw3 (i := 1) rfl rfl⟩
abbrev mu_X5_looksAs : MI := (yX5_looksAs, cX5_looksAs, 3, (some .boolean))
set_option maxRecDepth 20000 in
theorem mc_X5_looksAs : Cond.code yX5_looksAs cX5_looksAs 3 (some .boolean) ∈ AW := aw3 (i := 218) rfl rfl
set_option maxRecDepth 20000 in
theorem ml_X6_210 : MSV RX6 210 mu_X5_looksAs 1 := ⟨aw3 (i := 215) rfl rfl, aw1 (i := 6) rfl rfl, mc_X5_looksAs, ⟨by decide, by decide, by decide +kernel⟩, by decide, aw3 (i := 216) rfl rfl, aw3 (i := 217) rfl rfl⟩
set_option maxRecDepth 20000 in
theorem ml_X5_31 : MSV RX5 31 mu_X5_fromTop 1 := ⟨aw3 (i := 219) rfl rfl, aw1 (i := 6) rfl rfl, mc_X5_fromTop, ⟨by decide, by decide, by decide +kernel⟩, by decide, aw3 (i := 77) rfl rfl, aw3 (i := 78) rfl rfl⟩
abbrev mu_X6_row : MI := (yX6_row, cX6_row, 2, (some .int))
set_option maxRecDepth 20000 in
theorem mc_X6_row : Cond.code yX6_row cX6_row 2 (some .int) ∈ AW := aw3 (i := 223) rfl rfl
set_option maxRecDepth 20000 in
theorem ml_L_121 : MSV RL 121 mu_X6_row 1 := ⟨aw3 (i := 220) rfl rfl, aw1 (i := 1) rfl rfl, mc_X6_row, ⟨by decide, by decide, by decide +kernel⟩, by decide, aw3 (i := 221) rfl rfl, aw3 (i := 222) rfl rfl⟩
abbrev mu_X3_add : MI := (yX3_add, cX3_add, 2, (some .int))
set_option maxRecDepth 20000 in
theorem mc_X3_add : Cond.code yX3_add cX3_add 2 (some .int) ∈ AW := aw3 (i := 227) rfl rfl
set_option maxRecDepth 20000 in
theorem ml_X6_215 : MSV RX6 215 mu_X3_add 1 := ⟨aw3 (i := 224) rfl rfl, aw1 (i := 7) rfl rfl, mc_X3_add, ⟨by decide, by decide, by decide +kernel⟩, by decide, aw3 (i := 225) rfl rfl, aw3 (i := 226) rfl rfl⟩
abbrev mu_X6_judge : MI := (yX6_judge, cX6_judge, 3, (some .int))
set_option maxRecDepth 20000 in
theorem mc_X6_judge : Cond.code yX6_judge cX6_judge 3 (some .int) ∈ AW := aw3 (i := 231) rfl rfl
set_option maxRecDepth 20000 in
theorem ml_L_125 : MSV RL 125 mu_X6_judge 0 := ⟨aw3 (i := 228) rfl rfl, aw1 (i := 1) rfl rfl, mc_X6_judge, ⟨by decide, by decide, by decide +kernel⟩, by decide, aw3 (i := 229) rfl rfl, aw3 (i := 230) rfl rfl⟩
abbrev mu_X3_clear : MI := (yX3_clear, cX3_clear, 1, none)
set_option maxRecDepth 20000 in
theorem mc_X3_clear : Cond.code yX3_clear cX3_clear 1 none ∈ AW := aw3 (i := 235) rfl rfl
set_option maxRecDepth 20000 in
theorem ml_X6_219 : MSV RX6 219 mu_X3_clear 0 := ⟨aw3 (i := 232) rfl rfl, aw1 (i := 7) rfl rfl, mc_X3_clear, ⟨by decide, by decide, by decide +kernel⟩, by decide, aw3 (i := 233) rfl rfl, aw3 (i := 234) rfl rfl⟩
abbrev mu_X6_lots : MI := (yX6_lots, cX6_lots, 7, (some .int))
set_option maxRecDepth 20000 in
theorem mc_X6_lots : Cond.code yX6_lots cX6_lots 7 (some .int) ∈ AW := aw3 (i := 239) rfl rfl
set_option maxRecDepth 20000 in
theorem ml_L_129 : MSV RL 129 mu_X6_lots 2 := ⟨aw3 (i := 236) rfl rfl, aw1 (i := 1) rfl rfl, mc_X6_lots, ⟨by decide, by decide, by decide +kernel⟩, by decide, aw3 (i := 237) rfl rfl, aw3 (i := 238) rfl rfl⟩
abbrev mu_X6_image : MI := (yX6_image, cX6_image, 1, (some .int))
set_option maxRecDepth 20000 in
theorem mc_X6_image : Cond.code yX6_image cX6_image 1 (some .int) ∈ AW := aw4 (i := 6) rfl rfl
set_option maxRecDepth 20000 in
theorem ml_L_133 : MSV RL 133 mu_X6_image 0 := ⟨aw4 (i := 3) rfl rfl, aw1 (i := 1) rfl rfl, mc_X6_image, ⟨by decide, by decide, by decide +kernel⟩, by decide, aw4 (i := 4) rfl rfl, aw4 (i := 5) rfl rfl⟩
abbrev mu_X6_on : MI := (yX6_on, cX6_on, 1, (some .int))
set_option maxRecDepth 20000 in
theorem mc_X6_on : Cond.code yX6_on cX6_on 1 (some .int) ∈ AW := aw4 (i := 10) rfl rfl
set_option maxRecDepth 20000 in
theorem ml_L_137 : MSV RL 137 mu_X6_on 0 := ⟨aw4 (i := 7) rfl rfl, aw1 (i := 1) rfl rfl, mc_X6_on, ⟨by decide, by decide, by decide +kernel⟩, by decide, aw4 (i := 8) rfl rfl, aw4 (i := 9) rfl rfl⟩
abbrev mu_X6_count : MI := (yX6_count, cX6_count, 2, (some .int))
set_option maxRecDepth 20000 in
theorem mc_X6_count : Cond.code yX6_count cX6_count 2 (some .int) ∈ AW := aw4 (i := 14) rfl rfl
set_option maxRecDepth 20000 in
theorem ml_L_141 : MSV RL 141 mu_X6_count 1 := ⟨aw4 (i := 11) rfl rfl, aw1 (i := 1) rfl rfl, mc_X6_count, ⟨by decide, by decide, by decide +kernel⟩, by decide, aw4 (i := 12) rfl rfl, aw4 (i := 13) rfl rfl⟩
set_option maxRecDepth 20000 in
theorem ml_X6_226 : MSV RX6 226 mu_X1_allSheets 0 := ⟨aw4 (i := 15) rfl rfl, aw1 (i := 2) rfl rfl, mc_X1_allSheets, ⟨by decide, by decide, by decide +kernel⟩, by decide, aw2 (i := 233) rfl rfl, aw2 (i := 234) rfl rfl⟩
abbrev mu_X6_refusalsCounted : MI := (yX6_refusalsCounted, cX6_refusalsCounted, 2, (some .int))
set_option maxRecDepth 20000 in
theorem mc_X6_refusalsCounted : Cond.code yX6_refusalsCounted cX6_refusalsCounted 2 (some .int) ∈ AW := aw4 (i := 19) rfl rfl
set_option maxRecDepth 20000 in
theorem ml_X6_232 : MSV RX6 232 mu_X6_refusalsCounted 1 := ⟨aw4 (i := 16) rfl rfl, aw1 (i := 1) rfl rfl, mc_X6_refusalsCounted, ⟨by decide, by decide, by decide +kernel⟩, by decide, aw4 (i := 18) rfl rfl, awp (i := 17) rfl rfl⟩
abbrev mu_X7_init : MI := (yX7_init, cX7_init, 1, none)
set_option maxRecDepth 20000 in
theorem mc_X7_init : Cond.code yX7_init cX7_init 1 none ∈ AW := aw4 (i := 24) rfl rfl
set_option maxRecDepth 20000 in
theorem ml_L_12 : MSI RL 12 mu_X7_init 0 := ⟨aw4 (i := 22) rfl rfl, aw1 (i := 8) rfl rfl, mc_X7_init, ⟨by decide, by decide, by decide +kernel⟩, by decide, rfl, aw4 (i := 23) rfl rfl⟩
abbrev mu_X7_image : MI := (yX7_image, cX7_image, 2, (some .int))
set_option maxRecDepth 20000 in
theorem mc_X7_image : Cond.code yX7_image cX7_image 2 (some .int) ∈ AW := aw4 (i := 104) rfl rfl
set_option maxRecDepth 20000 in
theorem ml_L_136 : MSV RL 136 mu_X7_image 0 := ⟨aw4 (i := 101) rfl rfl, aw1 (i := 8) rfl rfl, mc_X7_image, ⟨by decide, by decide, by decide +kernel⟩, by decide, aw4 (i := 102) rfl rfl, aw4 (i := 103) rfl rfl⟩
abbrev mu_X7_on : MI := (yX7_on, cX7_on, 2, (some .int))
set_option maxRecDepth 20000 in
theorem mc_X7_on : Cond.code yX7_on cX7_on 2 (some .int) ∈ AW := aw4 (i := 108) rfl rfl
set_option maxRecDepth 20000 in
theorem ml_L_140 : MSV RL 140 mu_X7_on 0 := ⟨aw4 (i := 105) rfl rfl, aw1 (i := 8) rfl rfl, mc_X7_on, ⟨by decide, by decide, by decide +kernel⟩, by decide, aw4 (i := 106) rfl rfl, aw4 (i := 107) rfl rfl⟩
abbrev mu_X7_no : MI := (yX7_no, cX7_no, 2, (some .int))
set_option maxRecDepth 20000 in
theorem mc_X7_no : Cond.code yX7_no cX7_no 2 (some .int) ∈ AW := aw4 (i := 112) rfl rfl
set_option maxRecDepth 20000 in
theorem ml_X7_64 : MSV RX7 64 mu_X7_no 1 := ⟨aw4 (i := 109) rfl rfl, aw1 (i := 8) rfl rfl, mc_X7_no, ⟨by decide, by decide, by decide +kernel⟩, by decide, aw4 (i := 111) rfl rfl, awp (i := 18) rfl rfl⟩
abbrev mu_X7_letter : MI := (yX7_letter, cX7_letter, 2, (some .int))
set_option maxRecDepth 20000 in
theorem mc_X7_letter : Cond.code yX7_letter cX7_letter 2 (some .int) ∈ AW := aw4 (i := 116) rfl rfl
set_option maxRecDepth 20000 in
theorem ml_L_17 : MSV RL 17 mu_X7_letter 1 := ⟨aw4 (i := 113) rfl rfl, aw1 (i := 8) rfl rfl, mc_X7_letter, ⟨by decide, by decide, by decide +kernel⟩, by decide, aw4 (i := 114) rfl rfl, aw4 (i := 115) rfl rfl⟩
abbrev mu_X7_floor : MI := (yX7_floor, cX7_floor, 2, (some .int))
set_option maxRecDepth 20000 in
theorem mc_X7_floor : Cond.code yX7_floor cX7_floor 2 (some .int) ∈ AW := aw4 (i := 120) rfl rfl
set_option maxRecDepth 20000 in
theorem ml_L_22 : MSV RL 22 mu_X7_floor 0 := ⟨aw4 (i := 117) rfl rfl, aw1 (i := 8) rfl rfl, mc_X7_floor, ⟨by decide, by decide, by decide +kernel⟩, by decide, aw4 (i := 118) rfl rfl, aw4 (i := 119) rfl rfl⟩
abbrev mu_X7_read : MI := (yX7_read, cX7_read, 5, (some .int))
set_option maxRecDepth 20000 in
theorem mc_X7_read : Cond.code yX7_read cX7_read 5 (some .int) ∈ AW := aw4 (i := 124) rfl rfl
set_option maxRecDepth 20000 in
theorem ml_X7_102 : MSV RX7 102 mu_X7_read 0 := ⟨aw4 (i := 121) rfl rfl, aw1 (i := 8) rfl rfl, mc_X7_read, ⟨by decide, by decide, by decide +kernel⟩, by decide, aw4 (i := 123) rfl rfl, awp (i := 19) rfl rfl⟩
abbrev mu_X7_statement : MI := (yX7_statement, cX7_statement, 1, none)
set_option maxRecDepth 20000 in
theorem mc_X7_statement : Cond.code yX7_statement cX7_statement 1 none ∈ AW := aw4 (i := 128) rfl rfl
set_option maxRecDepth 20000 in
theorem ml_X7_92 : MSV RX7 92 mu_X7_statement 0 := ⟨aw4 (i := 125) rfl rfl, aw1 (i := 8) rfl rfl, mc_X7_statement, ⟨by decide, by decide, by decide +kernel⟩, by decide, aw4 (i := 127) rfl rfl, awp (i := 20) rfl rfl⟩
abbrev mu_X7_oneOf : MI := (yX7_oneOf, cX7_oneOf, 3, (some .int))
set_option maxRecDepth 20000 in
theorem mc_X7_oneOf : Cond.code yX7_oneOf cX7_oneOf 3 (some .int) ∈ AW := aw4 (i := 132) rfl rfl
set_option maxRecDepth 20000 in
theorem ml_X7_78 : MSV RX7 78 mu_X7_oneOf 1 := ⟨aw4 (i := 129) rfl rfl, aw1 (i := 8) rfl rfl, mc_X7_oneOf, ⟨by decide, by decide, by decide +kernel⟩, by decide, aw4 (i := 131) rfl rfl, awp (i := 21) rfl rfl⟩
abbrev mu_X7_figures : MI := (yX7_figures, cX7_figures, 4, (some .int))
set_option maxRecDepth 20000 in
theorem mc_X7_figures : Cond.code yX7_figures cX7_figures 4 (some .int) ∈ AW := aw4 (i := 136) rfl rfl
set_option maxRecDepth 20000 in
theorem ml_X7_85 : MSV RX7 85 mu_X7_figures 1 := ⟨aw4 (i := 133) rfl rfl, aw1 (i := 8) rfl rfl, mc_X7_figures, ⟨by decide, by decide, by decide +kernel⟩, by decide, aw4 (i := 135) rfl rfl, awp (i := 22) rfl rfl⟩
abbrev mu_X7_expect : MI := (yX7_expect, cX7_expect, 2, none)
set_option maxRecDepth 20000 in
theorem mc_X7_expect : Cond.code yX7_expect cX7_expect 2 none ∈ AW := aw4 (i := 140) rfl rfl
set_option maxRecDepth 20000 in
theorem ml_X7_88 : MSV RX7 88 mu_X7_expect 1 := ⟨aw4 (i := 137) rfl rfl, aw1 (i := 8) rfl rfl, mc_X7_expect, ⟨by decide, by decide, by decide +kernel⟩, by decide, aw4 (i := 139) rfl rfl, awp (i := 23) rfl rfl⟩
abbrev mu_X7_isAsItMustBe : MI := (yX7_isAsItMustBe, cX7_isAsItMustBe, 3, (some .boolean))
set_option maxRecDepth 20000 in
theorem mc_X7_isAsItMustBe : Cond.code yX7_isAsItMustBe cX7_isAsItMustBe 3 (some .boolean) ∈ AW := aw4 (i := 144) rfl rfl
set_option maxRecDepth 20000 in
theorem ml_X7_95 : MSV RX7 95 mu_X7_isAsItMustBe 2 := ⟨aw4 (i := 141) rfl rfl, aw1 (i := 8) rfl rfl, mc_X7_isAsItMustBe, ⟨by decide, by decide, by decide +kernel⟩, by decide, aw4 (i := 143) rfl rfl, awp (i := 24) rfl rfl⟩
abbrev mu_X7_come : MI := (yX7_come, cX7_come, 1, none)
set_option maxRecDepth 20000 in
theorem mc_X7_come : Cond.code yX7_come cX7_come 1 none ∈ AW := aw4 (i := 148) rfl rfl
set_option maxRecDepth 20000 in
theorem ml_X7_99 : MSV RX7 99 mu_X7_come 0 := ⟨aw4 (i := 145) rfl rfl, aw1 (i := 8) rfl rfl, mc_X7_come, ⟨by decide, by decide, by decide +kernel⟩, by decide, aw4 (i := 147) rfl rfl, awp (i := 25) rfl rfl⟩
abbrev mu_X7_job : MI := (yX7_job, cX7_job, 3, (some .int))
set_option maxRecDepth 20000 in
theorem mc_X7_job : Cond.code yX7_job cX7_job 3 (some .int) ∈ AW := aw4 (i := 152) rfl rfl
set_option maxRecDepth 20000 in
theorem ml_L_27 : MSV RL 27 mu_X7_job 2 := ⟨aw4 (i := 149) rfl rfl, aw1 (i := 8) rfl rfl, mc_X7_job, ⟨by decide, by decide, by decide +kernel⟩, by decide, aw4 (i := 150) rfl rfl, aw4 (i := 151) rfl rfl⟩
abbrev mu_X7_isNoJob : MI := (yX7_isNoJob, cX7_isNoJob, 2, (some .boolean))
set_option maxRecDepth 20000 in
theorem mc_X7_isNoJob : Cond.code yX7_isNoJob cX7_isNoJob 2 (some .boolean) ∈ AW := aw4 (i := 156) rfl rfl
set_option maxRecDepth 20000 in
theorem ml_X7_138 : MSV RX7 138 mu_X7_isNoJob 1 := ⟨aw4 (i := 153) rfl rfl, aw1 (i := 8) rfl rfl, mc_X7_isNoJob, ⟨by decide, by decide, by decide +kernel⟩, by decide, aw4 (i := 155) rfl rfl, awp (i := 26) rfl rfl⟩
abbrev mu_X7_taker : MI := (yX7_taker, cX7_taker, 3, (some .int))
set_option maxRecDepth 20000 in
theorem mc_X7_taker : Cond.code yX7_taker cX7_taker 3 (some .int) ∈ AW := aw4 (i := 160) rfl rfl
set_option maxRecDepth 20000 in
theorem ml_L_31 : MSV RL 31 mu_X7_taker 2 := ⟨aw4 (i := 157) rfl rfl, aw1 (i := 8) rfl rfl, mc_X7_taker, ⟨by decide, by decide, by decide +kernel⟩, by decide, aw4 (i := 158) rfl rfl, aw4 (i := 159) rfl rfl⟩
abbrev mu_X7_isNoTaker : MI := (yX7_isNoTaker, cX7_isNoTaker, 2, (some .boolean))
set_option maxRecDepth 20000 in
theorem mc_X7_isNoTaker : Cond.code yX7_isNoTaker cX7_isNoTaker 2 (some .boolean) ∈ AW := aw4 (i := 164) rfl rfl
set_option maxRecDepth 20000 in
theorem ml_X7_141 : MSV RX7 141 mu_X7_isNoTaker 1 := ⟨aw4 (i := 161) rfl rfl, aw1 (i := 8) rfl rfl, mc_X7_isNoTaker, ⟨by decide, by decide, by decide +kernel⟩, by decide, aw4 (i := 163) rfl rfl, awp (i := 27) rfl rfl⟩
abbrev mu_X7_sent : MI := (yX7_sent, cX7_sent, 3, (some .int))
set_option maxRecDepth 20000 in
theorem mc_X7_sent : Cond.code yX7_sent cX7_sent 3 (some .int) ∈ AW := aw4 (i := 168) rfl rfl
set_option maxRecDepth 20000 in
theorem ml_L_35 : MSV RL 35 mu_X7_sent 2 := ⟨aw4 (i := 165) rfl rfl, aw1 (i := 8) rfl rfl, mc_X7_sent, ⟨by decide, by decide, by decide +kernel⟩, by decide, aw4 (i := 166) rfl rfl, aw4 (i := 167) rfl rfl⟩
abbrev mu_X7_change : MI := (yX7_change, cX7_change, 5, (some .int))
set_option maxRecDepth 20000 in
theorem mc_X7_change : Cond.code yX7_change cX7_change 5 (some .int) ∈ AW := aw4 (i := 172) rfl rfl
set_option maxRecDepth 20000 in
theorem ml_X7_144 : MSV RX7 144 mu_X7_change 3 := ⟨aw4 (i := 169) rfl rfl, aw1 (i := 8) rfl rfl, mc_X7_change, ⟨by decide, by decide, by decide +kernel⟩, by decide, aw4 (i := 171) rfl rfl, awp (i := 28) rfl rfl⟩
abbrev mu_X7_machine : MI := (yX7_machine, cX7_machine, 5, (some .int))
set_option maxRecDepth 20000 in
theorem mc_X7_machine : Cond.code yX7_machine cX7_machine 5 (some .int) ∈ AW := aw4 (i := 176) rfl rfl
set_option maxRecDepth 20000 in
theorem ml_L_39 : MSV RL 39 mu_X7_machine 2 := ⟨aw4 (i := 173) rfl rfl, aw1 (i := 8) rfl rfl, mc_X7_machine, ⟨by decide, by decide, by decide +kernel⟩, by decide, aw4 (i := 174) rfl rfl, aw4 (i := 175) rfl rfl⟩
abbrev mu_X7_comes : MI := (yX7_comes, cX7_comes, 3, (some .int))
set_option maxRecDepth 20000 in
theorem mc_X7_comes : Cond.code yX7_comes cX7_comes 3 (some .int) ∈ AW := aw4 (i := 180) rfl rfl
set_option maxRecDepth 20000 in
theorem ml_L_43 : MSV RL 43 mu_X7_comes 2 := ⟨aw4 (i := 177) rfl rfl, aw1 (i := 8) rfl rfl, mc_X7_comes, ⟨by decide, by decide, by decide +kernel⟩, by decide, aw4 (i := 178) rfl rfl, aw4 (i := 179) rfl rfl⟩
abbrev mu_X7_out : MI := (yX7_out, cX7_out, 3, (some .int))
set_option maxRecDepth 20000 in
theorem mc_X7_out : Cond.code yX7_out cX7_out 3 (some .int) ∈ AW := aw4 (i := 184) rfl rfl
set_option maxRecDepth 20000 in
theorem ml_L_47 : MSV RL 47 mu_X7_out 2 := ⟨aw4 (i := 181) rfl rfl, aw1 (i := 8) rfl rfl, mc_X7_out, ⟨by decide, by decide, by decide +kernel⟩, by decide, aw4 (i := 182) rfl rfl, aw4 (i := 183) rfl rfl⟩
abbrev mu_X7_goTo : MI := (yX7_goTo, cX7_goTo, 7, none)
set_option maxRecDepth 20000 in
theorem mc_X7_goTo : Cond.code yX7_goTo cX7_goTo 7 none ∈ AW := aw4 (i := 188) rfl rfl
set_option maxRecDepth 20000 in
theorem ml_X7_147 : MSV RX7 147 mu_X7_goTo 1 := ⟨aw4 (i := 185) rfl rfl, aw1 (i := 8) rfl rfl, mc_X7_goTo, ⟨by decide, by decide, by decide +kernel⟩, by decide, aw4 (i := 187) rfl rfl, awp (i := 29) rfl rfl⟩
abbrev mu_X7_put : MI := (yX7_put, cX7_put, 4, none)
set_option maxRecDepth 20000 in
theorem mc_X7_put : Cond.code yX7_put cX7_put 4 none ∈ AW := aw4 (i := 192) rfl rfl
set_option maxRecDepth 20000 in
theorem ml_X7_126 : MSV RX7 126 mu_X7_put 2 := ⟨aw4 (i := 189) rfl rfl, aw1 (i := 8) rfl rfl, mc_X7_put, ⟨by decide, by decide, by decide +kernel⟩, by decide, aw4 (i := 191) rfl rfl, awp (i := 30) rfl rfl⟩
abbrev mu_X7_chosen : MI := (yX7_chosen, cX7_chosen, 7, (some .int))
set_option maxRecDepth 20000 in
theorem mc_X7_chosen : Cond.code yX7_chosen cX7_chosen 7 (some .int) ∈ AW := aw4 (i := 196) rfl rfl
set_option maxRecDepth 20000 in
theorem ml_X7_130 : MSV RX7 130 mu_X7_chosen 3 := ⟨aw4 (i := 193) rfl rfl, aw1 (i := 8) rfl rfl, mc_X7_chosen, ⟨by decide, by decide, by decide +kernel⟩, by decide, aw4 (i := 195) rfl rfl, awp (i := 31) rfl rfl⟩
abbrev mu_X7_waits : MI := (yX7_waits, cX7_waits, 3, (some .boolean))
set_option maxRecDepth 20000 in
theorem mc_X7_waits : Cond.code yX7_waits cX7_waits 3 (some .boolean) ∈ AW := aw4 (i := 200) rfl rfl
set_option maxRecDepth 20000 in
theorem ml_X7_106 : MSV RX7 106 mu_X7_waits 2 := ⟨aw4 (i := 197) rfl rfl, aw1 (i := 8) rfl rfl, mc_X7_waits, ⟨by decide, by decide, by decide +kernel⟩, by decide, aw4 (i := 199) rfl rfl, awp (i := 32) rfl rfl⟩
abbrev mu_X7_ahead : MI := (yX7_ahead, cX7_ahead, 4, (some .boolean))
set_option maxRecDepth 20000 in
theorem mc_X7_ahead : Cond.code yX7_ahead cX7_ahead 4 (some .boolean) ∈ AW := aw4 (i := 204) rfl rfl
set_option maxRecDepth 20000 in
theorem ml_X7_109 : MSV RX7 109 mu_X7_ahead 3 := ⟨aw4 (i := 201) rfl rfl, aw1 (i := 8) rfl rfl, mc_X7_ahead, ⟨by decide, by decide, by decide +kernel⟩, by decide, aw4 (i := 203) rfl rfl, awp (i := 33) rfl rfl⟩
abbrev mu_X7_take : MI := (yX7_take, cX7_take, 12, none)
set_option maxRecDepth 20000 in
theorem mc_X7_take : Cond.code yX7_take cX7_take 12 none ∈ AW := aw4 (i := 208) rfl rfl
set_option maxRecDepth 20000 in
theorem ml_X7_134 : MSV RX7 134 mu_X7_take 1 := ⟨aw4 (i := 205) rfl rfl, aw1 (i := 8) rfl rfl, mc_X7_take, ⟨by decide, by decide, by decide +kernel⟩, by decide, aw4 (i := 207) rfl rfl, awp (i := 34) rfl rfl⟩
abbrev mu_X7_takesSome : MI := (yX7_takesSome, cX7_takesSome, 3, (some .boolean))
set_option maxRecDepth 20000 in
theorem mc_X7_takesSome : Cond.code yX7_takesSome cX7_takesSome 3 (some .boolean) ∈ AW := aw4 (i := 212) rfl rfl
set_option maxRecDepth 20000 in
theorem ml_X7_123 : MSV RX7 123 mu_X7_takesSome 1 := ⟨aw4 (i := 209) rfl rfl, aw1 (i := 8) rfl rfl, mc_X7_takesSome, ⟨by decide, by decide, by decide +kernel⟩, by decide, aw4 (i := 211) rfl rfl, awp (i := 35) rfl rfl⟩
abbrev mu_X7_isWhole : MI := (yX7_isWhole, cX7_isWhole, 4, (some .boolean))
set_option maxRecDepth 20000 in
theorem mc_X7_isWhole : Cond.code yX7_isWhole cX7_isWhole 4 (some .boolean) ∈ AW := aw4 (i := 216) rfl rfl
set_option maxRecDepth 20000 in
theorem ml_X7_119 : MSV RX7 119 mu_X7_isWhole 1 := ⟨aw4 (i := 213) rfl rfl, aw1 (i := 8) rfl rfl, mc_X7_isWhole, ⟨by decide, by decide, by decide +kernel⟩, by decide, aw4 (i := 215) rfl rfl, awp (i := 36) rfl rfl⟩
abbrev mu_X7_outMany : MI := (yX7_outMany, cX7_outMany, 1, (some .int))
set_option maxRecDepth 20000 in
theorem mc_X7_outMany : Cond.code yX7_outMany cX7_outMany 1 (some .int) ∈ AW := aw4 (i := 220) rfl rfl
set_option maxRecDepth 20000 in
theorem ml_L_51 : MSV RL 51 mu_X7_outMany 0 := ⟨aw4 (i := 217) rfl rfl, aw1 (i := 8) rfl rfl, mc_X7_outMany, ⟨by decide, by decide, by decide +kernel⟩, by decide, aw4 (i := 218) rfl rfl, aw4 (i := 219) rfl rfl⟩
abbrev mu_X7_lies : MI := (yX7_lies, cX7_lies, 3, (some .int))
set_option maxRecDepth 20000 in
theorem mc_X7_lies : Cond.code yX7_lies cX7_lies 3 (some .int) ∈ AW := aw4 (i := 224) rfl rfl
set_option maxRecDepth 20000 in
theorem ml_L_55 : MSV RL 55 mu_X7_lies 2 := ⟨aw4 (i := 221) rfl rfl, aw1 (i := 8) rfl rfl, mc_X7_lies, ⟨by decide, by decide, by decide +kernel⟩, by decide, aw4 (i := 222) rfl rfl, aw4 (i := 223) rfl rfl⟩
abbrev mu_X7_held : MI := (yX7_held, cX7_held, 3, (some .int))
set_option maxRecDepth 20000 in
theorem mc_X7_held : Cond.code yX7_held cX7_held 3 (some .int) ∈ AW := aw4 (i := 228) rfl rfl
set_option maxRecDepth 20000 in
theorem ml_L_59 : MSV RL 59 mu_X7_held 2 := ⟨aw4 (i := 225) rfl rfl, aw1 (i := 8) rfl rfl, mc_X7_held, ⟨by decide, by decide, by decide +kernel⟩, by decide, aw4 (i := 226) rfl rfl, aw4 (i := 227) rfl rfl⟩
abbrev mu_X7_isNoOwner : MI := (yX7_isNoOwner, cX7_isNoOwner, 2, (some .boolean))
set_option maxRecDepth 20000 in
theorem mc_X7_isNoOwner : Cond.code yX7_isNoOwner cX7_isNoOwner 2 (some .boolean) ∈ AW := aw4 (i := 232) rfl rfl
set_option maxRecDepth 20000 in
theorem ml_X7_150 : MSV RX7 150 mu_X7_isNoOwner 1 := ⟨aw4 (i := 229) rfl rfl, aw1 (i := 8) rfl rfl, mc_X7_isNoOwner, ⟨by decide, by decide, by decide +kernel⟩, by decide, aw4 (i := 231) rfl rfl, awp (i := 37) rfl rfl⟩
abbrev mu_X7_has : MI := (yX7_has, cX7_has, 5, (some .int))
set_option maxRecDepth 20000 in
theorem mc_X7_has : Cond.code yX7_has cX7_has 5 (some .int) ∈ AW := aw4 (i := 236) rfl rfl
set_option maxRecDepth 20000 in
theorem ml_X7_153 : MSV RX7 153 mu_X7_has 2 := ⟨aw4 (i := 233) rfl rfl, aw1 (i := 8) rfl rfl, mc_X7_has, ⟨by decide, by decide, by decide +kernel⟩, by decide, aw4 (i := 235) rfl rfl, awp (i := 38) rfl rfl⟩
abbrev mu_X7_who : MI := (yX7_who, cX7_who, 2, (some .int))
set_option maxRecDepth 20000 in
theorem mc_X7_who : Cond.code yX7_who cX7_who 2 (some .int) ∈ AW := aw5 (i := 0) rfl rfl
set_option maxRecDepth 20000 in
theorem ml_L_63 : MSV RL 63 mu_X7_who 1 := ⟨aw4 (i := 237) rfl rfl, aw1 (i := 8) rfl rfl, mc_X7_who, ⟨by decide, by decide, by decide +kernel⟩, by decide, aw4 (i := 238) rfl rfl, aw4 (i := 239) rfl rfl⟩
abbrev mu_X7_missing : MI := (yX7_missing, cX7_missing, 4, (some .int))
set_option maxRecDepth 20000 in
theorem mc_X7_missing : Cond.code yX7_missing cX7_missing 4 (some .int) ∈ AW := aw5 (i := 4) rfl rfl
set_option maxRecDepth 20000 in
theorem ml_L_67 : MSV RL 67 mu_X7_missing 1 := ⟨aw5 (i := 1) rfl rfl, aw1 (i := 8) rfl rfl, mc_X7_missing, ⟨by decide, by decide, by decide +kernel⟩, by decide, aw5 (i := 2) rfl rfl, aw5 (i := 3) rfl rfl⟩
abbrev mu_X7_ask : MI := (yX7_ask, cX7_ask, 4, (some .int))
set_option maxRecDepth 20000 in
theorem mc_X7_ask : Cond.code yX7_ask cX7_ask 4 (some .int) ∈ AW := aw5 (i := 8) rfl rfl
set_option maxRecDepth 20000 in
theorem ml_L_71 : MSV RL 71 mu_X7_ask 1 := ⟨aw5 (i := 5) rfl rfl, aw1 (i := 8) rfl rfl, mc_X7_ask, ⟨by decide, by decide, by decide +kernel⟩, by decide, aw5 (i := 6) rfl rfl, aw5 (i := 7) rfl rfl⟩
abbrev mu_X7_ready : MI := (yX7_ready, cX7_ready, 2, (some .int))
set_option maxRecDepth 20000 in
theorem mc_X7_ready : Cond.code yX7_ready cX7_ready 2 (some .int) ∈ AW := aw5 (i := 12) rfl rfl
set_option maxRecDepth 20000 in
theorem ml_L_75 : MSV RL 75 mu_X7_ready 1 := ⟨aw5 (i := 9) rfl rfl, aw1 (i := 8) rfl rfl, mc_X7_ready, ⟨by decide, by decide, by decide +kernel⟩, by decide, aw5 (i := 10) rfl rfl, aw5 (i := 11) rfl rfl⟩
abbrev mu_X7_when : MI := (yX7_when, cX7_when, 7, (some .int))
set_option maxRecDepth 20000 in
theorem mc_X7_when : Cond.code yX7_when cX7_when 7 (some .int) ∈ AW := aw5 (i := 16) rfl rfl
set_option maxRecDepth 20000 in
theorem ml_X7_157 : MSV RX7 157 mu_X7_when 1 := ⟨aw5 (i := 13) rfl rfl, aw1 (i := 8) rfl rfl, mc_X7_when, ⟨by decide, by decide, by decide +kernel⟩, by decide, aw5 (i := 15) rfl rfl, awp (i := 39) rfl rfl⟩
abbrev mu_X7_mixed : MI := (yX7_mixed, cX7_mixed, 1, (some .int))
set_option maxRecDepth 20000 in
theorem mc_X7_mixed : Cond.code yX7_mixed cX7_mixed 1 (some .int) ∈ AW := aw5 (i := 20) rfl rfl
set_option maxRecDepth 20000 in
theorem ml_L_79 : MSV RL 79 mu_X7_mixed 0 := ⟨aw5 (i := 17) rfl rfl, aw1 (i := 8) rfl rfl, mc_X7_mixed, ⟨by decide, by decide, by decide +kernel⟩, by decide, aw5 (i := 18) rfl rfl, aw5 (i := 19) rfl rfl⟩
abbrev mu_X7_mixing : MI := (yX7_mixing, cX7_mixing, 3, (some .int))
set_option maxRecDepth 20000 in
theorem mc_X7_mixing : Cond.code yX7_mixing cX7_mixing 3 (some .int) ∈ AW := aw5 (i := 24) rfl rfl
set_option maxRecDepth 20000 in
theorem ml_X7_160 : MSV RX7 160 mu_X7_mixing 0 := ⟨aw5 (i := 21) rfl rfl, aw1 (i := 8) rfl rfl, mc_X7_mixing, ⟨by decide, by decide, by decide +kernel⟩, by decide, aw5 (i := 23) rfl rfl, awp (i := 40) rfl rfl⟩
abbrev mu_X7_byKind : MI := (yX7_byKind, cX7_byKind, 6, (some .int))
set_option maxRecDepth 20000 in
theorem mc_X7_byKind : Cond.code yX7_byKind cX7_byKind 6 (some .int) ∈ AW := aw5 (i := 28) rfl rfl
set_option maxRecDepth 20000 in
theorem ml_L_83 : MSV RL 83 mu_X7_byKind 0 := ⟨aw5 (i := 25) rfl rfl, aw1 (i := 8) rfl rfl, mc_X7_byKind, ⟨by decide, by decide, by decide +kernel⟩, by decide, aw5 (i := 26) rfl rfl, aw5 (i := 27) rfl rfl⟩
set_option maxRecDepth 20000 in
theorem ml_X7_163 : MSV RX7 163 mu_X7_mixed 0 := ⟨aw5 (i := 29) rfl rfl, aw1 (i := 8) rfl rfl, mc_X7_mixed, ⟨by decide, by decide, by decide +kernel⟩, by decide, aw5 (i := 18) rfl rfl, aw5 (i := 19) rfl rfl⟩
abbrev mu_X7_send : MI := (yX7_send, cX7_send, 8, (some .int))
set_option maxRecDepth 20000 in
theorem mc_X7_send : Cond.code yX7_send cX7_send 8 (some .int) ∈ AW := aw5 (i := 33) rfl rfl
set_option maxRecDepth 20000 in
theorem ml_L_87 : MSV RL 87 mu_X7_send 2 := ⟨aw5 (i := 30) rfl rfl, aw1 (i := 8) rfl rfl, mc_X7_send, ⟨by decide, by decide, by decide +kernel⟩, by decide, aw5 (i := 31) rfl rfl, aw5 (i := 32) rfl rfl⟩
abbrev mu_X7_two : MI := (yX7_two, cX7_two, 3, (some .int))
set_option maxRecDepth 20000 in
theorem mc_X7_two : Cond.code yX7_two cX7_two 3 (some .int) ∈ AW := aw5 (i := 37) rfl rfl
set_option maxRecDepth 20000 in
theorem ml_L_91 : MSV RL 91 mu_X7_two 2 := ⟨aw5 (i := 34) rfl rfl, aw1 (i := 8) rfl rfl, mc_X7_two, ⟨by decide, by decide, by decide +kernel⟩, by decide, aw5 (i := 35) rfl rfl, aw5 (i := 36) rfl rfl⟩
abbrev mu_X7_together : MI := (yX7_together, cX7_together, 9, (some .int))
set_option maxRecDepth 20000 in
theorem mc_X7_together : Cond.code yX7_together cX7_together 9 (some .int) ∈ AW := aw5 (i := 41) rfl rfl
set_option maxRecDepth 20000 in
theorem ml_X7_169 : MSV RX7 169 mu_X7_together 3 := ⟨aw5 (i := 38) rfl rfl, aw1 (i := 8) rfl rfl, mc_X7_together, ⟨by decide, by decide, by decide +kernel⟩, by decide, aw5 (i := 40) rfl rfl, awp (i := 41) rfl rfl⟩
abbrev mu_X7_three : MI := (yX7_three, cX7_three, 4, (some .int))
set_option maxRecDepth 20000 in
theorem mc_X7_three : Cond.code yX7_three cX7_three 4 (some .int) ∈ AW := aw5 (i := 45) rfl rfl
set_option maxRecDepth 20000 in
theorem ml_L_96 : MSV RL 96 mu_X7_three 3 := ⟨aw5 (i := 42) rfl rfl, aw1 (i := 8) rfl rfl, mc_X7_three, ⟨by decide, by decide, by decide +kernel⟩, by decide, aw5 (i := 43) rfl rfl, aw5 (i := 44) rfl rfl⟩
abbrev mu_X7_parts : MI := (yX7_parts, cX7_parts, 5, (some .int))
set_option maxRecDepth 20000 in
theorem mc_X7_parts : Cond.code yX7_parts cX7_parts 5 (some .int) ∈ AW := aw5 (i := 49) rfl rfl
set_option maxRecDepth 20000 in
theorem ml_L_100 : MSV RL 100 mu_X7_parts 0 := ⟨aw5 (i := 46) rfl rfl, aw1 (i := 8) rfl rfl, mc_X7_parts, ⟨by decide, by decide, by decide +kernel⟩, by decide, aw5 (i := 47) rfl rfl, aw5 (i := 48) rfl rfl⟩
set_option maxRecDepth 20000 in
theorem ml_X7_172 : MSS RX7 172 mu_Math_max 2 := ⟨aw5 (i := 50) rfl rfl, aw1 (i := 11) rfl rfl, mc_Math_max, ⟨by decide, by decide, by decide +kernel⟩, by decide, aw2 (i := 88) rfl rfl⟩
abbrev mu_X7_lacks : MI := (yX7_lacks, cX7_lacks, 4, (some .int))
set_option maxRecDepth 20000 in
theorem mc_X7_lacks : Cond.code yX7_lacks cX7_lacks 4 (some .int) ∈ AW := aw5 (i := 54) rfl rfl
set_option maxRecDepth 20000 in
theorem ml_L_104 : MSV RL 104 mu_X7_lacks 1 := ⟨aw5 (i := 51) rfl rfl, aw1 (i := 8) rfl rfl, mc_X7_lacks, ⟨by decide, by decide, by decide +kernel⟩, by decide, aw5 (i := 52) rfl rfl, aw5 (i := 53) rfl rfl⟩
abbrev mu_X7_laps : MI := (yX7_laps, cX7_laps, 6, (some .int))
set_option maxRecDepth 20000 in
theorem mc_X7_laps : Cond.code yX7_laps cX7_laps 6 (some .int) ∈ AW := aw5 (i := 58) rfl rfl
set_option maxRecDepth 20000 in
theorem ml_L_108 : MSV RL 108 mu_X7_laps 1 := ⟨aw5 (i := 55) rfl rfl, aw1 (i := 8) rfl rfl, mc_X7_laps, ⟨by decide, by decide, by decide +kernel⟩, by decide, aw5 (i := 56) rfl rfl, aw5 (i := 57) rfl rfl⟩
abbrev mu_X7_firstPlace : MI := (yX7_firstPlace, cX7_firstPlace, 3, (some .int))
set_option maxRecDepth 20000 in
theorem mc_X7_firstPlace : Cond.code yX7_firstPlace cX7_firstPlace 3 (some .int) ∈ AW := aw5 (i := 62) rfl rfl
set_option maxRecDepth 20000 in
theorem ml_X7_178 : MSV RX7 178 mu_X7_firstPlace 1 := ⟨aw5 (i := 59) rfl rfl, aw1 (i := 8) rfl rfl, mc_X7_firstPlace, ⟨by decide, by decide, by decide +kernel⟩, by decide, aw5 (i := 61) rfl rfl, awp (i := 42) rfl rfl⟩
abbrev mu_X7_waits_ : MI := (yX7_waits_, cX7_waits_, 5, (some .int))
set_option maxRecDepth 20000 in
theorem mc_X7_waits_ : Cond.code yX7_waits_ cX7_waits_ 5 (some .int) ∈ AW := aw5 (i := 66) rfl rfl
set_option maxRecDepth 20000 in
theorem ml_L_112 : MSV RL 112 mu_X7_waits_ 3 := ⟨aw5 (i := 63) rfl rfl, aw1 (i := 8) rfl rfl, mc_X7_waits_, ⟨by decide, by decide, by decide +kernel⟩, by decide, aw5 (i := 64) rfl rfl, aw5 (i := 65) rfl rfl⟩
abbrev mu_X7_vain : MI := (yX7_vain, cX7_vain, 7, (some .int))
set_option maxRecDepth 20000 in
theorem mc_X7_vain : Cond.code yX7_vain cX7_vain 7 (some .int) ∈ AW := aw5 (i := 70) rfl rfl
set_option maxRecDepth 20000 in
theorem ml_L_116 : MSV RL 116 mu_X7_vain 3 := ⟨aw5 (i := 67) rfl rfl, aw1 (i := 8) rfl rfl, mc_X7_vain, ⟨by decide, by decide, by decide +kernel⟩, by decide, aw5 (i := 68) rfl rfl, aw5 (i := 69) rfl rfl⟩
abbrev mu_X7_seen : MI := (yX7_seen, cX7_seen, 7, (some .int))
set_option maxRecDepth 20000 in
theorem mc_X7_seen : Cond.code yX7_seen cX7_seen 7 (some .int) ∈ AW := aw5 (i := 74) rfl rfl
set_option maxRecDepth 20000 in
theorem ml_L_120 : MSV RL 120 mu_X7_seen 1 := ⟨aw5 (i := 71) rfl rfl, aw1 (i := 8) rfl rfl, mc_X7_seen, ⟨by decide, by decide, by decide +kernel⟩, by decide, aw5 (i := 72) rfl rfl, aw5 (i := 73) rfl rfl⟩
abbrev mu_X7_row : MI := (yX7_row, cX7_row, 2, (some .int))
set_option maxRecDepth 20000 in
theorem mc_X7_row : Cond.code yX7_row cX7_row 2 (some .int) ∈ AW := aw5 (i := 78) rfl rfl
set_option maxRecDepth 20000 in
theorem ml_L_124 : MSV RL 124 mu_X7_row 1 := ⟨aw5 (i := 75) rfl rfl, aw1 (i := 8) rfl rfl, mc_X7_row, ⟨by decide, by decide, by decide +kernel⟩, by decide, aw5 (i := 76) rfl rfl, aw5 (i := 77) rfl rfl⟩
abbrev mu_X7_judge : MI := (yX7_judge, cX7_judge, 3, (some .int))
set_option maxRecDepth 20000 in
theorem mc_X7_judge : Cond.code yX7_judge cX7_judge 3 (some .int) ∈ AW := aw5 (i := 82) rfl rfl
set_option maxRecDepth 20000 in
theorem ml_L_128 : MSV RL 128 mu_X7_judge 0 := ⟨aw5 (i := 79) rfl rfl, aw1 (i := 8) rfl rfl, mc_X7_judge, ⟨by decide, by decide, by decide +kernel⟩, by decide, aw5 (i := 80) rfl rfl, aw5 (i := 81) rfl rfl⟩
abbrev mu_X7_lots : MI := (yX7_lots, cX7_lots, 8, (some .int))
set_option maxRecDepth 20000 in
theorem mc_X7_lots : Cond.code yX7_lots cX7_lots 8 (some .int) ∈ AW := aw5 (i := 86) rfl rfl
set_option maxRecDepth 20000 in
theorem ml_L_132 : MSV RL 132 mu_X7_lots 2 := ⟨aw5 (i := 83) rfl rfl, aw1 (i := 8) rfl rfl, mc_X7_lots, ⟨by decide, by decide, by decide +kernel⟩, by decide, aw5 (i := 84) rfl rfl, aw5 (i := 85) rfl rfl⟩
abbrev mu_X7_count : MI := (yX7_count, cX7_count, 4, (some .int))
set_option maxRecDepth 20000 in
theorem mc_X7_count : Cond.code yX7_count cX7_count 4 (some .int) ∈ AW := aw5 (i := 93) rfl rfl
set_option maxRecDepth 20000 in
theorem ml_L_144 : MSV RL 144 mu_X7_count 1 := ⟨aw5 (i := 90) rfl rfl, aw1 (i := 8) rfl rfl, mc_X7_count, ⟨by decide, by decide, by decide +kernel⟩, by decide, aw5 (i := 91) rfl rfl, aw5 (i := 92) rfl rfl⟩
set_option maxRecDepth 20000 in
theorem cn_L_7 : CN RL 7 6 := ⟨_, _, _, tyX6, rfl, uw_X6, tyX6_ok, aw1 (i := 17) rfl rfl, aw1 (i := 18) rfl rfl, aw1 (i := 1) rfl rfl⟩
set_option maxRecDepth 20000 in
theorem oi_X6_3 : Cond.methodLink RX6 3 objectInit ∈ AW := aw1 (i := 22) rfl rfl
set_option maxRecDepth 20000 in
theorem cn_X6_9 : CN RX6 9 1 := ⟨_, _, _, tyX1, rfl, uw_X1, tyX1_ok, aw1 (i := 25) rfl rfl, aw1 (i := 26) rfl rfl, aw1 (i := 2) rfl rfl⟩
set_option maxRecDepth 20000 in
theorem oi_X1_3 : Cond.methodLink RX1 3 objectInit ∈ AW := aw1 (i := 30) rfl rfl
set_option maxRecDepth 20000 in
theorem cn_X6_22 : CN RX6 22 4 := ⟨_, _, _, tyX4, rfl, uw_X4, tyX4_ok, aw1 (i := 91) rfl rfl, aw1 (i := 92) rfl rfl, aw1 (i := 3) rfl rfl⟩
set_option maxRecDepth 20000 in
theorem oi_X4_3 : Cond.methodLink RX4 3 objectInit ∈ AW := aw1 (i := 96) rfl rfl
set_option maxRecDepth 20000 in
theorem cn_X6_29 : CN RX6 29 2 := ⟨_, _, _, tyX2, rfl, uw_X2, tyX2_ok, aw1 (i := 124) rfl rfl, aw1 (i := 125) rfl rfl, aw1 (i := 4) rfl rfl⟩
set_option maxRecDepth 20000 in
theorem oi_X2_3 : Cond.methodLink RX2 3 objectInit ∈ AW := aw1 (i := 129) rfl rfl
set_option maxRecDepth 20000 in
theorem cn_X6_36 : CN RX6 36 0 := ⟨_, _, _, tyX0, rfl, uw_X0, tyX0_ok, aw1 (i := 146) rfl rfl, aw1 (i := 147) rfl rfl, aw1 (i := 5) rfl rfl⟩
set_option maxRecDepth 20000 in
theorem oi_X0_3 : Cond.methodLink RX0 3 objectInit ∈ AW := aw1 (i := 151) rfl rfl
set_option maxRecDepth 20000 in
theorem cn_X0_9 : CN RX0 9 2 := ⟨_, _, _, tyX2, rfl, uw_X2, tyX2_ok, aw1 (i := 152) rfl rfl, aw1 (i := 125) rfl rfl, aw1 (i := 4) rfl rfl⟩
set_option maxRecDepth 20000 in
theorem cn_X0_18 : CN RX0 18 5 := ⟨_, _, _, tyX5, rfl, uw_X5, tyX5_ok, aw1 (i := 154) rfl rfl, aw1 (i := 155) rfl rfl, aw1 (i := 6) rfl rfl⟩
set_option maxRecDepth 20000 in
theorem oi_X5_3 : Cond.methodLink RX5 3 objectInit ∈ AW := aw1 (i := 159) rfl rfl
set_option maxRecDepth 20000 in
theorem cn_X6_43 : CN RX6 43 3 := ⟨_, _, _, tyX3, rfl, uw_X3, tyX3_ok, aw1 (i := 196) rfl rfl, aw1 (i := 197) rfl rfl, aw1 (i := 7) rfl rfl⟩
set_option maxRecDepth 20000 in
theorem oi_X3_3 : Cond.methodLink RX3 3 objectInit ∈ AW := aw1 (i := 201) rfl rfl
set_option maxRecDepth 20000 in
theorem kc_J2_227 : Cond.constant RJ2 227 65536 ∈ AW := aw2 (i := 101) rfl rfl
set_option maxRecDepth 20000 in
theorem kc_J11_110 : Cond.constant RJ11 110 55232 ∈ AW := aw2 (i := 140) rfl rfl
set_option maxRecDepth 20000 in
theorem kc_J11_76 : Cond.constant RJ11 76 56320 ∈ AW := aw2 (i := 144) rfl rfl
set_option maxRecDepth 20000 in
theorem ac_X1_56 : Cond.methodLink RX1 56 arraycopyName ∈ AW := aw2 (i := 154) rfl rfl
set_option maxRecDepth 20000 in
theorem ac_X5_22 : Cond.methodLink RX5 22 arraycopyName ∈ AW := aw3 (i := 32) rfl rfl
set_option maxRecDepth 20000 in
theorem kc_X6_223 : Cond.constant RX6 223 1664525 ∈ AW := aw4 (i := 0) rfl rfl
set_option maxRecDepth 20000 in
theorem kc_X6_224 : Cond.constant RX6 224 1013904223 ∈ AW := aw4 (i := 1) rfl rfl
set_option maxRecDepth 20000 in
theorem kc_X6_225 : Cond.constant RX6 225 2147483647 ∈ AW := aw4 (i := 2) rfl rfl
set_option maxRecDepth 20000 in
theorem cn_L_10 : CN RL 10 7 := ⟨_, _, _, tyX7, rfl, uw_X7, tyX7_ok, aw4 (i := 20) rfl rfl, aw4 (i := 21) rfl rfl, aw1 (i := 8) rfl rfl⟩
set_option maxRecDepth 20000 in
theorem oi_X7_7 : Cond.methodLink RX7 7 objectInit ∈ AW := aw4 (i := 25) rfl rfl
set_option maxRecDepth 20000 in
theorem kc_X7_181 : Cond.constant RX7 181 1664525 ∈ AW := aw5 (i := 87) rfl rfl
set_option maxRecDepth 20000 in
theorem kc_X7_182 : Cond.constant RX7 182 1013904223 ∈ AW := aw5 (i := 88) rfl rfl
set_option maxRecDepth 20000 in
theorem kc_X7_183 : Cond.constant RX7 183 2147483647 ∈ AW := aw5 (i := 89) rfl rfl
set_option maxRecDepth 20000 in
theorem oi_inst : Cond.instanceMethod objectInit ∈ AW := aw1 (i := 23) rfl rfl
set_option maxRecDepth 20000 in
theorem oi_code : Cond.code objectInit ⟨#[0xb1]⟩ 1 none ∈ AW := aw1 (i := 24) rfl rfl
set_option maxRecDepth 20000 in
theorem ac_nat : Cond.native arraycopyName ∈ AW := aw2 (i := 156) rfl rfl
set_option maxRecDepth 20000 in
theorem ac_sta : Cond.static arraycopyName ∈ AW := aw2 (i := 155) rfl rfl
set_option maxRecDepth 20000 in
theorem ac_ini : Cond.initialized "java/lang/System" ∈ AW := aw1 (i := 15) rfl rfl
set_option maxRecDepth 20000 in
theorem acl_int : Cond.arrayClass .int ∈ AW := aw1 (i := 90) rfl rfl
set_option maxRecDepth 20000 in
theorem acl_byte : Cond.arrayClass .byte ∈ AW := aw2 (i := 181) rfl rfl
set_option maxRecDepth 20000 in
theorem acl_char : Cond.arrayClass .char ∈ AW := aw4 (i := 99) rfl rfl
set_option maxRecDepth 20000 in
theorem acl_boolean : Cond.arrayClass .boolean ∈ AW := aw4 (i := 100) rfl rfl
