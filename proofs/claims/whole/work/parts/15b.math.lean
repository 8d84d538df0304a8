/-! links to Math -/
theorem lkX0_54 : am_lkM RX0 54 Lib.Math.min.name Lib.Math.min.code 2 := ⟨am_m6 89 rfl rfl, am_m1 49 rfl rfl, am_m1 4 rfl rfl, am_m1 50 rfl rfl⟩
theorem lkX0_93 : am_lkM RX0 93 Lib.Math.max.name Lib.Math.max.code 2 := ⟨am_m7 181 rfl rfl, am_m3 14 rfl rfl, am_m1 4 rfl rfl, am_m3 15 rfl rfl⟩
theorem lkX1_24 : am_lkM RX1 24 Lib.Math.max.name Lib.Math.max.code 2 := ⟨am_m3 151 rfl rfl, am_m3 14 rfl rfl, am_m1 4 rfl rfl, am_m3 15 rfl rfl⟩
theorem lkX1_87 : am_lkM RX1 87 Lib.Math.min.name Lib.Math.min.code 2 := ⟨am_m6 166 rfl rfl, am_m1 49 rfl rfl, am_m1 4 rfl rfl, am_m1 50 rfl rfl⟩
theorem lkX2_18 : am_lkM RX2 18 Lib.Math.abs.name Lib.Math.abs.code 1 := ⟨am_m3 126 rfl rfl, am_m3 127 rfl rfl, am_m1 4 rfl rfl, am_m3 128 rfl rfl⟩
theorem lkX2_30 : am_lkM RX2 30 Lib.Math.max.name Lib.Math.max.code 2 := ⟨am_m3 132 rfl rfl, am_m3 14 rfl rfl, am_m1 4 rfl rfl, am_m3 15 rfl rfl⟩
theorem lkX2_117 : am_lkM RX2 117 Lib.Math.min.name Lib.Math.min.code 2 := ⟨am_m6 15 rfl rfl, am_m1 49 rfl rfl, am_m1 4 rfl rfl, am_m1 50 rfl rfl⟩
theorem lkX3_84 : am_lkM RX3 84 Lib.Math.min.name Lib.Math.min.code 2 := ⟨am_m3 111 rfl rfl, am_m1 49 rfl rfl, am_m1 4 rfl rfl, am_m1 50 rfl rfl⟩
theorem lkX5_151 : am_lkM RX5 151 Lib.Math.min.name Lib.Math.min.code 2 := ⟨am_m4 178 rfl rfl, am_m1 49 rfl rfl, am_m1 4 rfl rfl, am_m1 50 rfl rfl⟩
theorem lkX6_15 : am_lkM RX6 15 Lib.Math.min.name Lib.Math.min.code 2 := ⟨am_m4 37 rfl rfl, am_m1 49 rfl rfl, am_m1 4 rfl rfl, am_m1 50 rfl rfl⟩
theorem lkX7_31 : am_lkM RX7 31 Lib.Math.min.name Lib.Math.min.code 2 := ⟨am_m7 132 rfl rfl, am_m1 49 rfl rfl, am_m1 4 rfl rfl, am_m1 50 rfl rfl⟩
theorem lkX9_84 : am_lkM RX9 84 Lib.Math.max.name Lib.Math.max.code 2 := ⟨am_m3 13 rfl rfl, am_m3 14 rfl rfl, am_m1 4 rfl rfl, am_m3 15 rfl rfl⟩
theorem lkX9_166 : am_lkM RX9 166 Lib.Math.min.name Lib.Math.min.code 2 := ⟨am_m3 76 rfl rfl, am_m1 49 rfl rfl, am_m1 4 rfl rfl, am_m1 50 rfl rfl⟩
theorem lkX10_15 : am_lkM RX10 15 Lib.Math.min.name Lib.Math.min.code 2 := ⟨am_m1 48 rfl rfl, am_m1 49 rfl rfl, am_m1 4 rfl rfl, am_m1 50 rfl rfl⟩
theorem lkX11_269 : am_lkM RX11 269 Lib.Math.min.name Lib.Math.min.code 2 := ⟨am_m5 238 rfl rfl, am_m1 49 rfl rfl, am_m1 4 rfl rfl, am_m1 50 rfl rfl⟩
