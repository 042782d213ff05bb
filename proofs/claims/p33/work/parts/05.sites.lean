theorem fi_RX6_39 : FI RX6 39 6 0 0 := ⟨⟨_, _, _, tyX6, rfl, ⟨by decide, by decide⟩, by decide, rfl, inw_X6, fl_RX6_39, tyX6_ok, nmX6⟩, rfl, by decide, by decide, rfl⟩
theorem fw_RX6_39 : FW RX6 39 6 0 0 .int := ⟨fi_RX6_39, fun C T N h => by cases h; exact ⟨rfl, by decide +kernel⟩⟩
theorem fi_RX2_71 : FI RX2 71 6 0 0 := ⟨⟨_, _, _, tyX6, rfl, ⟨by decide, by decide⟩, by decide, rfl, inw_X6, fl_RX2_71, tyX6_ok, nmX6⟩, rfl, by decide, by decide, rfl⟩
theorem fw_RX2_71 : FW RX2 71 6 0 0 .int := ⟨fi_RX2_71, fun C T N h => by cases h; exact ⟨rfl, by decide +kernel⟩⟩
theorem fi_RX5_43 : FI RX5 43 6 0 0 := ⟨⟨_, _, _, tyX6, rfl, ⟨by decide, by decide⟩, by decide, rfl, inw_X6, fl_RX5_43, tyX6_ok, nmX6⟩, rfl, by decide, by decide, rfl⟩
theorem fw_RX5_43 : FW RX5 43 6 0 0 .int := ⟨fi_RX5_43, fun C T N h => by cases h; exact ⟨rfl, by decide +kernel⟩⟩
theorem fi_RX7_61 : FI RX7 61 6 0 0 := ⟨⟨_, _, _, tyX6, rfl, ⟨by decide, by decide⟩, by decide, rfl, inw_X6, fl_RX7_61, tyX6_ok, nmX6⟩, rfl, by decide, by decide, rfl⟩
theorem fw_RX7_61 : FW RX7 61 6 0 0 .int := ⟨fi_RX7_61, fun C T N h => by cases h; exact ⟨rfl, by decide +kernel⟩⟩
theorem fr_RX6_9 : FR RX6 9 6 1 1 := ⟨⟨_, _, _, tyX6, rfl, ⟨by decide, by decide⟩, by decide, rfl, inw_X6, fl_RX6_9, tyX6_ok, nmX6⟩, rfl⟩
theorem fr_RX2_99 : FR RX2 99 6 1 1 := ⟨⟨_, _, _, tyX6, rfl, ⟨by decide, by decide⟩, by decide, rfl, inw_X6, fl_RX2_99, tyX6_ok, nmX6⟩, rfl⟩
theorem fr_RX6_15 : FR RX6 15 6 2 2 := ⟨⟨_, _, _, tyX6, rfl, ⟨by decide, by decide⟩, by decide, rfl, inw_X6, fl_RX6_15, tyX6_ok, nmX6⟩, rfl⟩
theorem fr_RX2_145 : FR RX2 145 6 2 2 := ⟨⟨_, _, _, tyX6, rfl, ⟨by decide, by decide⟩, by decide, rfl, inw_X6, fl_RX2_145, tyX6_ok, nmX6⟩, rfl⟩
theorem fr_RX6_18 : FR RX6 18 6 3 3 := ⟨⟨_, _, _, tyX6, rfl, ⟨by decide, by decide⟩, by decide, rfl, inw_X6, fl_RX6_18, tyX6_ok, nmX6⟩, rfl⟩
theorem fr_RX2_102 : FR RX2 102 6 3 3 := ⟨⟨_, _, _, tyX6, rfl, ⟨by decide, by decide⟩, by decide, rfl, inw_X6, fl_RX2_102, tyX6_ok, nmX6⟩, rfl⟩
theorem fr_RX6_21 : FR RX6 21 6 4 4 := ⟨⟨_, _, _, tyX6, rfl, ⟨by decide, by decide⟩, by decide, rfl, inw_X6, fl_RX6_21, tyX6_ok, nmX6⟩, rfl⟩
theorem fr_RX2_105 : FR RX2 105 6 4 4 := ⟨⟨_, _, _, tyX6, rfl, ⟨by decide, by decide⟩, by decide, rfl, inw_X6, fl_RX2_105, tyX6_ok, nmX6⟩, rfl⟩
theorem fr_RX6_24 : FR RX6 24 6 5 5 := ⟨⟨_, _, _, tyX6, rfl, ⟨by decide, by decide⟩, by decide, rfl, inw_X6, fl_RX6_24, tyX6_ok, nmX6⟩, rfl⟩
theorem fr_RX2_108 : FR RX2 108 6 5 5 := ⟨⟨_, _, _, tyX6, rfl, ⟨by decide, by decide⟩, by decide, rfl, inw_X6, fl_RX2_108, tyX6_ok, nmX6⟩, rfl⟩
theorem fr_RX6_27 : FR RX6 27 6 6 6 := ⟨⟨_, _, _, tyX6, rfl, ⟨by decide, by decide⟩, by decide, rfl, inw_X6, fl_RX6_27, tyX6_ok, nmX6⟩, rfl⟩
theorem fr_RX7_83 : FR RX7 83 6 6 6 := ⟨⟨_, _, _, tyX6, rfl, ⟨by decide, by decide⟩, by decide, rfl, inw_X6, fl_RX7_83, tyX6_ok, nmX6⟩, rfl⟩
theorem fr_RX2_142 : FR RX2 142 6 6 6 := ⟨⟨_, _, _, tyX6, rfl, ⟨by decide, by decide⟩, by decide, rfl, inw_X6, fl_RX2_142, tyX6_ok, nmX6⟩, rfl⟩
theorem fr_RX6_30 : FR RX6 30 6 7 7 := ⟨⟨_, _, _, tyX6, rfl, ⟨by decide, by decide⟩, by decide, rfl, inw_X6, fl_RX6_30, tyX6_ok, nmX6⟩, rfl⟩
theorem fr_RX2_126 : FR RX2 126 6 7 7 := ⟨⟨_, _, _, tyX6, rfl, ⟨by decide, by decide⟩, by decide, rfl, inw_X6, fl_RX2_126, tyX6_ok, nmX6⟩, rfl⟩
theorem fr_RX6_33 : FR RX6 33 6 8 8 := ⟨⟨_, _, _, tyX6, rfl, ⟨by decide, by decide⟩, by decide, rfl, inw_X6, fl_RX6_33, tyX6_ok, nmX6⟩, rfl⟩
theorem fr_RX7_168 : FR RX7 168 6 8 8 := ⟨⟨_, _, _, tyX6, rfl, ⟨by decide, by decide⟩, by decide, rfl, inw_X6, fl_RX7_168, tyX6_ok, nmX6⟩, rfl⟩
theorem fr_RX2_151 : FR RX2 151 6 8 8 := ⟨⟨_, _, _, tyX6, rfl, ⟨by decide, by decide⟩, by decide, rfl, inw_X6, fl_RX2_151, tyX6_ok, nmX6⟩, rfl⟩
theorem fr_RX6_36 : FR RX6 36 6 9 9 := ⟨⟨_, _, _, tyX6, rfl, ⟨by decide, by decide⟩, by decide, rfl, inw_X6, fl_RX6_36, tyX6_ok, nmX6⟩, rfl⟩
theorem fi_RX3_28 : FI RX3 28 3 0 0 := ⟨⟨_, _, _, tyX3, rfl, ⟨by decide, by decide⟩, by decide, rfl, inw_X3, fl_RX3_28, tyX3_ok, nmX3⟩, rfl, by decide, by decide, rfl⟩
theorem fw_RX3_28 : FW RX3 28 3 0 0 .int := ⟨fi_RX3_28, fun C T N h => by cases h; exact ⟨rfl, by decide +kernel⟩⟩
theorem fi_RX7_146 : FI RX7 146 3 0 0 := ⟨⟨_, _, _, tyX3, rfl, ⟨by decide, by decide⟩, by decide, rfl, inw_X3, fl_RX7_146, tyX3_ok, nmX3⟩, rfl, by decide, by decide, rfl⟩
theorem fw_RX7_146 : FW RX7 146 3 0 0 .int := ⟨fi_RX7_146, fun C T N h => by cases h; exact ⟨rfl, by decide +kernel⟩⟩
theorem fi_RX5_40 : FI RX5 40 3 1 1 := ⟨⟨_, _, _, tyX3, rfl, ⟨by decide, by decide⟩, by decide, rfl, inw_X3, fl_RX5_40, tyX3_ok, nmX3⟩, rfl, by decide, by decide, rfl⟩
theorem fw_RX5_40 : FW RX5 40 3 1 1 .int := ⟨fi_RX5_40, fun C T N h => by cases h; exact ⟨rfl, by decide +kernel⟩⟩
theorem fi_RX3_39 : FI RX3 39 3 1 1 := ⟨⟨_, _, _, tyX3, rfl, ⟨by decide, by decide⟩, by decide, rfl, inw_X3, fl_RX3_39, tyX3_ok, nmX3⟩, rfl, by decide, by decide, rfl⟩
theorem fw_RX3_39 : FW RX3 39 3 1 1 .int := ⟨fi_RX3_39, fun C T N h => by cases h; exact ⟨rfl, by decide +kernel⟩⟩
theorem fi_RX7_147 : FI RX7 147 3 1 1 := ⟨⟨_, _, _, tyX3, rfl, ⟨by decide, by decide⟩, by decide, rfl, inw_X3, fl_RX7_147, tyX3_ok, nmX3⟩, rfl, by decide, by decide, rfl⟩
theorem fw_RX7_147 : FW RX7 147 3 1 1 .int := ⟨fi_RX7_147, fun C T N h => by cases h; exact ⟨rfl, by decide +kernel⟩⟩
theorem fi_RX3_9 : FI RX3 9 3 2 2 := ⟨⟨_, _, _, tyX3, rfl, ⟨by decide, by decide⟩, by decide, rfl, inw_X3, fl_RX3_9, tyX3_ok, nmX3⟩, rfl, by decide, by decide, rfl⟩
theorem fw_RX3_9 : FW RX3 9 3 2 2 .int := ⟨fi_RX3_9, fun C T N h => by cases h; exact ⟨rfl, by decide +kernel⟩⟩
theorem fi_RX2_52 : FI RX2 52 3 2 2 := ⟨⟨_, _, _, tyX3, rfl, ⟨by decide, by decide⟩, by decide, rfl, inw_X3, fl_RX2_52, tyX3_ok, nmX3⟩, rfl, by decide, by decide, rfl⟩
theorem fw_RX2_52 : FW RX2 52 3 2 2 .int := ⟨fi_RX2_52, fun C T N h => by cases h; exact ⟨rfl, by decide +kernel⟩⟩
theorem fi_RX7_153 : FI RX7 153 3 2 2 := ⟨⟨_, _, _, tyX3, rfl, ⟨by decide, by decide⟩, by decide, rfl, inw_X3, fl_RX7_153, tyX3_ok, nmX3⟩, rfl, by decide, by decide, rfl⟩
theorem fw_RX7_153 : FW RX7 153 3 2 2 .int := ⟨fi_RX7_153, fun C T N h => by cases h; exact ⟨rfl, by decide +kernel⟩⟩
theorem fi_RX9_202 : FI RX9 202 3 2 2 := ⟨⟨_, _, _, tyX3, rfl, ⟨by decide, by decide⟩, by decide, rfl, inw_X3, fl_RX9_202, tyX3_ok, nmX3⟩, rfl, by decide, by decide, rfl⟩
theorem fw_RX9_202 : FW RX9 202 3 2 2 .int := ⟨fi_RX9_202, fun C T N h => by cases h; exact ⟨rfl, by decide +kernel⟩⟩
theorem fi_RX3_15 : FI RX3 15 3 3 3 := ⟨⟨_, _, _, tyX3, rfl, ⟨by decide, by decide⟩, by decide, rfl, inw_X3, fl_RX3_15, tyX3_ok, nmX3⟩, rfl, by decide, by decide, rfl⟩
theorem fw_RX3_15 : FW RX3 15 3 3 3 .int := ⟨fi_RX3_15, fun C T N h => by cases h; exact ⟨rfl, by decide +kernel⟩⟩
theorem fi_RX2_58 : FI RX2 58 3 3 3 := ⟨⟨_, _, _, tyX3, rfl, ⟨by decide, by decide⟩, by decide, rfl, inw_X3, fl_RX2_58, tyX3_ok, nmX3⟩, rfl, by decide, by decide, rfl⟩
theorem fw_RX2_58 : FW RX2 58 3 3 3 .int := ⟨fi_RX2_58, fun C T N h => by cases h; exact ⟨rfl, by decide +kernel⟩⟩
theorem fi_RX7_108 : FI RX7 108 3 3 3 := ⟨⟨_, _, _, tyX3, rfl, ⟨by decide, by decide⟩, by decide, rfl, inw_X3, fl_RX7_108, tyX3_ok, nmX3⟩, rfl, by decide, by decide, rfl⟩
theorem fw_RX7_108 : FW RX7 108 3 3 3 .int := ⟨fi_RX7_108, fun C T N h => by cases h; exact ⟨rfl, by decide +kernel⟩⟩
theorem fi_RX9_205 : FI RX9 205 3 3 3 := ⟨⟨_, _, _, tyX3, rfl, ⟨by decide, by decide⟩, by decide, rfl, inw_X3, fl_RX9_205, tyX3_ok, nmX3⟩, rfl, by decide, by decide, rfl⟩
theorem fw_RX9_205 : FW RX9 205 3 3 3 .int := ⟨fi_RX9_205, fun C T N h => by cases h; exact ⟨rfl, by decide +kernel⟩⟩
theorem fr_RX3_18 : FR RX3 18 3 4 1 := ⟨⟨_, _, _, tyX3, rfl, ⟨by decide, by decide⟩, by decide, rfl, inw_X3, fl_RX3_18, tyX3_ok, nmX3⟩, rfl⟩
theorem fr_RX3_22 : FR RX3 22 3 5 2 := ⟨⟨_, _, _, tyX3, rfl, ⟨by decide, by decide⟩, by decide, rfl, inw_X3, fl_RX3_22, tyX3_ok, nmX3⟩, rfl⟩
theorem fr_RX3_25 : FR RX3 25 3 6 3 := ⟨⟨_, _, _, tyX3, rfl, ⟨by decide, by decide⟩, by decide, rfl, inw_X3, fl_RX3_25, tyX3_ok, nmX3⟩, rfl⟩
theorem fr_RX5_12 : FR RX5 12 5 0 1 := ⟨⟨_, _, _, tyX5, rfl, ⟨by decide, by decide⟩, by decide, rfl, inw_X5, fl_RX5_12, tyX5_ok, nmX5⟩, rfl⟩
theorem fr_RX2_18 : FR RX2 18 5 0 1 := ⟨⟨_, _, _, tyX5, rfl, ⟨by decide, by decide⟩, by decide, rfl, inw_X5, fl_RX2_18, tyX5_ok, nmX5⟩, rfl⟩
theorem fr_RX7_23 : FR RX7 23 5 0 1 := ⟨⟨_, _, _, tyX5, rfl, ⟨by decide, by decide⟩, by decide, rfl, inw_X5, fl_RX7_23, tyX5_ok, nmX5⟩, rfl⟩
theorem fr_RX9_61 : FR RX9 61 5 0 1 := ⟨⟨_, _, _, tyX5, rfl, ⟨by decide, by decide⟩, by decide, rfl, inw_X5, fl_RX9_61, tyX5_ok, nmX5⟩, rfl⟩
theorem fr_RX4_102 : FR RX4 102 5 0 1 := ⟨⟨_, _, _, tyX5, rfl, ⟨by decide, by decide⟩, by decide, rfl, inw_X5, fl_RX4_102, tyX5_ok, nmX5⟩, rfl⟩
theorem fr_RX5_21 : FR RX5 21 5 1 11 := ⟨⟨_, _, _, tyX5, rfl, ⟨by decide, by decide⟩, by decide, rfl, inw_X5, fl_RX5_21, tyX5_ok, nmX5⟩, rfl⟩
theorem fr_RX2_48 : FR RX2 48 5 1 11 := ⟨⟨_, _, _, tyX5, rfl, ⟨by decide, by decide⟩, by decide, rfl, inw_X5, fl_RX2_48, tyX5_ok, nmX5⟩, rfl⟩
theorem fr_RX7_104 : FR RX7 104 5 1 11 := ⟨⟨_, _, _, tyX5, rfl, ⟨by decide, by decide⟩, by decide, rfl, inw_X5, fl_RX7_104, tyX5_ok, nmX5⟩, rfl⟩
theorem fr_RX9_100 : FR RX9 100 5 1 11 := ⟨⟨_, _, _, tyX5, rfl, ⟨by decide, by decide⟩, by decide, rfl, inw_X5, fl_RX9_100, tyX5_ok, nmX5⟩, rfl⟩
theorem fr_RX4_119 : FR RX4 119 5 1 11 := ⟨⟨_, _, _, tyX5, rfl, ⟨by decide, by decide⟩, by decide, rfl, inw_X5, fl_RX4_119, tyX5_ok, nmX5⟩, rfl⟩
theorem fr_RX5_25 : FR RX5 25 5 2 15 := ⟨⟨_, _, _, tyX5, rfl, ⟨by decide, by decide⟩, by decide, rfl, inw_X5, fl_RX5_25, tyX5_ok, nmX5⟩, rfl⟩
theorem fr_RX2_80 : FR RX2 80 5 2 15 := ⟨⟨_, _, _, tyX5, rfl, ⟨by decide, by decide⟩, by decide, rfl, inw_X5, fl_RX2_80, tyX5_ok, nmX5⟩, rfl⟩
theorem fr_RX7_159 : FR RX7 159 5 2 15 := ⟨⟨_, _, _, tyX5, rfl, ⟨by decide, by decide⟩, by decide, rfl, inw_X5, fl_RX7_159, tyX5_ok, nmX5⟩, rfl⟩
theorem fr_RX9_198 : FR RX9 198 5 2 15 := ⟨⟨_, _, _, tyX5, rfl, ⟨by decide, by decide⟩, by decide, rfl, inw_X5, fl_RX9_198, tyX5_ok, nmX5⟩, rfl⟩
theorem fi_RX5_29 : FI RX5 29 5 3 3 := ⟨⟨_, _, _, tyX5, rfl, ⟨by decide, by decide⟩, by decide, rfl, inw_X5, fl_RX5_29, tyX5_ok, nmX5⟩, rfl, by decide, by decide, rfl⟩
theorem fw_RX5_29 : FW RX5 29 5 3 3 .int := ⟨fi_RX5_29, fun C T N h => by cases h; exact ⟨rfl, by decide +kernel⟩⟩
theorem fi_RX7_90 : FI RX7 90 5 3 3 := ⟨⟨_, _, _, tyX5, rfl, ⟨by decide, by decide⟩, by decide, rfl, inw_X5, fl_RX7_90, tyX5_ok, nmX5⟩, rfl, by decide, by decide, rfl⟩
theorem fw_RX7_90 : FW RX7 90 5 3 3 .int := ⟨fi_RX7_90, fun C T N h => by cases h; exact ⟨rfl, by decide +kernel⟩⟩
theorem fi_RX9_180 : FI RX9 180 5 3 3 := ⟨⟨_, _, _, tyX5, rfl, ⟨by decide, by decide⟩, by decide, rfl, inw_X5, fl_RX9_180, tyX5_ok, nmX5⟩, rfl, by decide, by decide, rfl⟩
theorem fw_RX9_180 : FW RX9 180 5 3 3 .int := ⟨fi_RX9_180, fun C T N h => by cases h; exact ⟨rfl, by decide +kernel⟩⟩
theorem fi_RX5_33 : FI RX5 33 5 4 4 := ⟨⟨_, _, _, tyX5, rfl, ⟨by decide, by decide⟩, by decide, rfl, inw_X5, fl_RX5_33, tyX5_ok, nmX5⟩, rfl, by decide, by decide, rfl⟩
theorem fw_RX5_33 : FW RX5 33 5 4 4 .int := ⟨fi_RX5_33, fun C T N h => by cases h; exact ⟨rfl, by decide +kernel⟩⟩
theorem fi_RX2_129 : FI RX2 129 5 4 4 := ⟨⟨_, _, _, tyX5, rfl, ⟨by decide, by decide⟩, by decide, rfl, inw_X5, fl_RX2_129, tyX5_ok, nmX5⟩, rfl, by decide, by decide, rfl⟩
theorem fw_RX2_129 : FW RX2 129 5 4 4 .int := ⟨fi_RX2_129, fun C T N h => by cases h; exact ⟨rfl, by decide +kernel⟩⟩
theorem fi_RX7_139 : FI RX7 139 5 4 4 := ⟨⟨_, _, _, tyX5, rfl, ⟨by decide, by decide⟩, by decide, rfl, inw_X5, fl_RX7_139, tyX5_ok, nmX5⟩, rfl, by decide, by decide, rfl⟩
theorem fw_RX7_139 : FW RX7 139 5 4 4 .int := ⟨fi_RX7_139, fun C T N h => by cases h; exact ⟨rfl, by decide +kernel⟩⟩
theorem fi_RX7_116 : FI RX7 116 5 5 5 := ⟨⟨_, _, _, tyX5, rfl, ⟨by decide, by decide⟩, by decide, rfl, inw_X5, fl_RX7_116, tyX5_ok, nmX5⟩, rfl, by decide, by decide, rfl⟩
theorem fw_RX7_116 : FW RX7 116 5 5 5 .int := ⟨fi_RX7_116, fun C T N h => by cases h; exact ⟨rfl, by decide +kernel⟩⟩
theorem fi_RX5_65 : FI RX5 65 5 5 5 := ⟨⟨_, _, _, tyX5, rfl, ⟨by decide, by decide⟩, by decide, rfl, inw_X5, fl_RX5_65, tyX5_ok, nmX5⟩, rfl, by decide, by decide, rfl⟩
theorem fw_RX5_65 : FW RX5 65 5 5 5 .int := ⟨fi_RX5_65, fun C T N h => by cases h; exact ⟨rfl, by decide +kernel⟩⟩
theorem fi_RX7_101 : FI RX7 101 5 6 6 := ⟨⟨_, _, _, tyX5, rfl, ⟨by decide, by decide⟩, by decide, rfl, inw_X5, fl_RX7_101, tyX5_ok, nmX5⟩, rfl, by decide, by decide, rfl⟩
theorem fw_RX7_101 : FW RX7 101 5 6 6 .int := ⟨fi_RX7_101, fun C T N h => by cases h; exact ⟨rfl, by decide +kernel⟩⟩
theorem fi_RX5_68 : FI RX5 68 5 6 6 := ⟨⟨_, _, _, tyX5, rfl, ⟨by decide, by decide⟩, by decide, rfl, inw_X5, fl_RX5_68, tyX5_ok, nmX5⟩, rfl, by decide, by decide, rfl⟩
theorem fw_RX5_68 : FW RX5 68 5 6 6 .int := ⟨fi_RX5_68, fun C T N h => by cases h; exact ⟨rfl, by decide +kernel⟩⟩
theorem fi_RX7_98 : FI RX7 98 5 7 7 := ⟨⟨_, _, _, tyX5, rfl, ⟨by decide, by decide⟩, by decide, rfl, inw_X5, fl_RX7_98, tyX5_ok, nmX5⟩, rfl, by decide, by decide, rfl⟩
theorem fw_RX7_98 : FW RX7 98 5 7 7 .int := ⟨fi_RX7_98, fun C T N h => by cases h; exact ⟨rfl, by decide +kernel⟩⟩
theorem fi_RX5_62 : FI RX5 62 5 7 7 := ⟨⟨_, _, _, tyX5, rfl, ⟨by decide, by decide⟩, by decide, rfl, inw_X5, fl_RX5_62, tyX5_ok, nmX5⟩, rfl, by decide, by decide, rfl⟩
theorem fw_RX5_62 : FW RX5 62 5 7 7 .int := ⟨fi_RX5_62, fun C T N h => by cases h; exact ⟨rfl, by decide +kernel⟩⟩
theorem fr_RX2_12 : FR RX2 12 2 0 1 := ⟨⟨_, _, _, tyX2, rfl, ⟨by decide, by decide⟩, by decide, rfl, inw_X2, fl_RX2_12, tyX2_ok, nmX2⟩, rfl⟩
theorem fr_RX7_18 : FR RX7 18 2 0 1 := ⟨⟨_, _, _, tyX2, rfl, ⟨by decide, by decide⟩, by decide, rfl, inw_X2, fl_RX7_18, tyX2_ok, nmX2⟩, rfl⟩
theorem fr_RX2_22 : FR RX2 22 2 1 2 := ⟨⟨_, _, _, tyX2, rfl, ⟨by decide, by decide⟩, by decide, rfl, inw_X2, fl_RX2_22, tyX2_ok, nmX2⟩, rfl⟩
theorem fr_RX2_23 : FR RX2 23 2 2 17 := ⟨⟨_, _, _, tyX2, rfl, ⟨by decide, by decide⟩, by decide, rfl, inw_X2, fl_RX2_23, tyX2_ok, nmX2⟩, rfl⟩
theorem fr_RX2_27 : FR RX2 27 2 3 18 := ⟨⟨_, _, _, tyX2, rfl, ⟨by decide, by decide⟩, by decide, rfl, inw_X2, fl_RX2_27, tyX2_ok, nmX2⟩, rfl⟩
theorem fr_RX2_30 : FR RX2 30 2 4 19 := ⟨⟨_, _, _, tyX2, rfl, ⟨by decide, by decide⟩, by decide, rfl, inw_X2, fl_RX2_30, tyX2_ok, nmX2⟩, rfl⟩
theorem fr_RX2_33 : FR RX2 33 2 5 20 := ⟨⟨_, _, _, tyX2, rfl, ⟨by decide, by decide⟩, by decide, rfl, inw_X2, fl_RX2_33, tyX2_ok, nmX2⟩, rfl⟩
theorem fr_RX7_66 : FR RX7 66 2 5 20 := ⟨⟨_, _, _, tyX2, rfl, ⟨by decide, by decide⟩, by decide, rfl, inw_X2, fl_RX7_66, tyX2_ok, nmX2⟩, rfl⟩
theorem fr_RX2_36 : FR RX2 36 2 6 21 := ⟨⟨_, _, _, tyX2, rfl, ⟨by decide, by decide⟩, by decide, rfl, inw_X2, fl_RX2_36, tyX2_ok, nmX2⟩, rfl⟩
theorem fr_RX7_77 : FR RX7 77 2 6 21 := ⟨⟨_, _, _, tyX2, rfl, ⟨by decide, by decide⟩, by decide, rfl, inw_X2, fl_RX7_77, tyX2_ok, nmX2⟩, rfl⟩
theorem fr_RX2_39 : FR RX2 39 2 7 22 := ⟨⟨_, _, _, tyX2, rfl, ⟨by decide, by decide⟩, by decide, rfl, inw_X2, fl_RX2_39, tyX2_ok, nmX2⟩, rfl⟩
theorem fr_RX7_80 : FR RX7 80 2 7 22 := ⟨⟨_, _, _, tyX2, rfl, ⟨by decide, by decide⟩, by decide, rfl, inw_X2, fl_RX7_80, tyX2_ok, nmX2⟩, rfl⟩
theorem fr_RX2_42 : FR RX2 42 2 8 23 := ⟨⟨_, _, _, tyX2, rfl, ⟨by decide, by decide⟩, by decide, rfl, inw_X2, fl_RX2_42, tyX2_ok, nmX2⟩, rfl⟩
theorem fi_RX2_68 : FI RX2 68 2 9 9 := ⟨⟨_, _, _, tyX2, rfl, ⟨by decide, by decide⟩, by decide, rfl, inw_X2, fl_RX2_68, tyX2_ok, nmX2⟩, rfl, by decide, by decide, rfl⟩
theorem fw_RX2_68 : FW RX2 68 2 9 9 .int := ⟨fi_RX2_68, fun C T N h => by cases h; exact ⟨rfl, by decide +kernel⟩⟩
theorem fi_RX7_203 : FI RX7 203 2 9 9 := ⟨⟨_, _, _, tyX2, rfl, ⟨by decide, by decide⟩, by decide, rfl, inw_X2, fl_RX7_203, tyX2_ok, nmX2⟩, rfl, by decide, by decide, rfl⟩
theorem fw_RX7_203 : FW RX7 203 2 9 9 .int := ⟨fi_RX7_203, fun C T N h => by cases h; exact ⟨rfl, by decide +kernel⟩⟩
theorem fi_RX2_65 : FI RX2 65 2 10 10 := ⟨⟨_, _, _, tyX2, rfl, ⟨by decide, by decide⟩, by decide, rfl, inw_X2, fl_RX2_65, tyX2_ok, nmX2⟩, rfl, by decide, by decide, rfl⟩
theorem fw_RX2_65 : FW RX2 65 2 10 10 .int := ⟨fi_RX2_65, fun C T N h => by cases h; exact ⟨rfl, by decide +kernel⟩⟩
theorem fi_RX7_156 : FI RX7 156 2 10 10 := ⟨⟨_, _, _, tyX2, rfl, ⟨by decide, by decide⟩, by decide, rfl, inw_X2, fl_RX7_156, tyX2_ok, nmX2⟩, rfl, by decide, by decide, rfl⟩
theorem fw_RX7_156 : FW RX7 156 2 10 10 .int := ⟨fi_RX7_156, fun C T N h => by cases h; exact ⟨rfl, by decide +kernel⟩⟩
theorem fr_RX7_12 : FR RX7 12 7 0 1 := ⟨⟨_, _, _, tyX7, rfl, ⟨by decide, by decide⟩, by decide, rfl, inw_X7, fl_RX7_12, tyX7_ok, nmX7⟩, rfl⟩
theorem fr_RX9_138 : FR RX9 138 7 0 1 := ⟨⟨_, _, _, tyX7, rfl, ⟨by decide, by decide⟩, by decide, rfl, inw_X7, fl_RX9_138, tyX7_ok, nmX7⟩, rfl⟩
theorem fr_RX9_16 : FR RX9 16 7 1 2 := ⟨⟨_, _, _, tyX7, rfl, ⟨by decide, by decide⟩, by decide, rfl, inw_X7, fl_RX9_16, tyX7_ok, nmX7⟩, rfl⟩
theorem fr_RX7_22 : FR RX7 22 7 1 2 := ⟨⟨_, _, _, tyX7, rfl, ⟨by decide, by decide⟩, by decide, rfl, inw_X7, fl_RX7_22, tyX7_ok, nmX7⟩, rfl⟩
theorem fr_RX7_29 : FR RX7 29 7 2 3 := ⟨⟨_, _, _, tyX7, rfl, ⟨by decide, by decide⟩, by decide, rfl, inw_X7, fl_RX7_29, tyX7_ok, nmX7⟩, rfl⟩
theorem fi_RX7_48 : FI RX7 48 7 3 3 := ⟨⟨_, _, _, tyX7, rfl, ⟨by decide, by decide⟩, by decide, rfl, inw_X7, fl_RX7_48, tyX7_ok, nmX7⟩, rfl, by decide, by decide, rfl⟩
theorem fw_RX7_48 : FW RX7 48 7 3 3 .int := ⟨fi_RX7_48, fun C T N h => by cases h; exact ⟨rfl, by decide +kernel⟩⟩
theorem fi_RX7_51 : FI RX7 51 7 4 4 := ⟨⟨_, _, _, tyX7, rfl, ⟨by decide, by decide⟩, by decide, rfl, inw_X7, fl_RX7_51, tyX7_ok, nmX7⟩, rfl, by decide, by decide, rfl⟩
theorem fw_RX7_51 : FW RX7 51 7 4 4 .int := ⟨fi_RX7_51, fun C T N h => by cases h; exact ⟨rfl, by decide +kernel⟩⟩
theorem fi_RX7_92 : FI RX7 92 7 5 5 := ⟨⟨_, _, _, tyX7, rfl, ⟨by decide, by decide⟩, by decide, rfl, inw_X7, fl_RX7_92, tyX7_ok, nmX7⟩, rfl, by decide, by decide, rfl⟩
theorem fw_RX7_92 : FW RX7 92 7 5 5 .int := ⟨fi_RX7_92, fun C T N h => by cases h; exact ⟨rfl, by decide +kernel⟩⟩
theorem fi_RX7_95 : FI RX7 95 7 6 6 := ⟨⟨_, _, _, tyX7, rfl, ⟨by decide, by decide⟩, by decide, rfl, inw_X7, fl_RX7_95, tyX7_ok, nmX7⟩, rfl, by decide, by decide, rfl⟩
theorem fw_RX7_95 : FW RX7 95 7 6 6 .int := ⟨fi_RX7_95, fun C T N h => by cases h; exact ⟨rfl, by decide +kernel⟩⟩
theorem fr_RX7_30 : FR RX7 30 7 7 25 := ⟨⟨_, _, _, tyX7, rfl, ⟨by decide, by decide⟩, by decide, rfl, inw_X7, fl_RX7_30, tyX7_ok, nmX7⟩, rfl⟩
theorem fr_RX7_34 : FR RX7 34 7 8 26 := ⟨⟨_, _, _, tyX7, rfl, ⟨by decide, by decide⟩, by decide, rfl, inw_X7, fl_RX7_34, tyX7_ok, nmX7⟩, rfl⟩
theorem fi_RX7_37 : FI RX7 37 7 9 9 := ⟨⟨_, _, _, tyX7, rfl, ⟨by decide, by decide⟩, by decide, rfl, inw_X7, fl_RX7_37, tyX7_ok, nmX7⟩, rfl, by decide, by decide, rfl⟩
theorem fw_RX7_37 : FW RX7 37 7 9 9 .int := ⟨fi_RX7_37, fun C T N h => by cases h; exact ⟨rfl, by decide +kernel⟩⟩
theorem fi_RX1_17 : FI RX1 17 1 0 0 := ⟨⟨_, _, _, tyX1, rfl, ⟨by decide, by decide⟩, by decide, rfl, inw_X1, fl_RX1_17, tyX1_ok, nmX1⟩, rfl, by decide, by decide, rfl⟩
theorem fw_RX1_17 : FW RX1 17 1 0 0 .int := ⟨fi_RX1_17, fun C T N h => by cases h; exact ⟨rfl, by decide +kernel⟩⟩
theorem fi_RX9_233 : FI RX9 233 1 0 0 := ⟨⟨_, _, _, tyX1, rfl, ⟨by decide, by decide⟩, by decide, rfl, inw_X1, fl_RX9_233, tyX1_ok, nmX1⟩, rfl, by decide, by decide, rfl⟩
theorem fw_RX9_233 : FW RX9 233 1 0 0 .int := ⟨fi_RX9_233, fun C T N h => by cases h; exact ⟨rfl, by decide +kernel⟩⟩
theorem fr_RX1_11 : FR RX1 11 1 1 1 := ⟨⟨_, _, _, tyX1, rfl, ⟨by decide, by decide⟩, by decide, rfl, inw_X1, fl_RX1_11, tyX1_ok, nmX1⟩, rfl⟩
theorem fi_RX4_18 : FI RX4 18 4 0 0 := ⟨⟨_, _, _, tyX4, rfl, ⟨by decide, by decide⟩, by decide, rfl, inw_X4, fl_RX4_18, tyX4_ok, nmX4⟩, rfl, by decide, by decide, rfl⟩
theorem fw_RX4_18 : FW RX4 18 4 0 0 .int := ⟨fi_RX4_18, fun C T N h => by cases h; exact ⟨rfl, by decide +kernel⟩⟩
theorem fi_RX9_221 : FI RX9 221 4 0 0 := ⟨⟨_, _, _, tyX4, rfl, ⟨by decide, by decide⟩, by decide, rfl, inw_X4, fl_RX9_221, tyX4_ok, nmX4⟩, rfl, by decide, by decide, rfl⟩
theorem fw_RX9_221 : FW RX9 221 4 0 0 .int := ⟨fi_RX9_221, fun C T N h => by cases h; exact ⟨rfl, by decide +kernel⟩⟩
theorem fr_RX4_9 : FR RX4 9 4 1 1 := ⟨⟨_, _, _, tyX4, rfl, ⟨by decide, by decide⟩, by decide, rfl, inw_X4, fl_RX4_9, tyX4_ok, nmX4⟩, rfl⟩
theorem fr_RX4_15 : FR RX4 15 4 2 2 := ⟨⟨_, _, _, tyX4, rfl, ⟨by decide, by decide⟩, by decide, rfl, inw_X4, fl_RX4_15, tyX4_ok, nmX4⟩, rfl⟩
theorem fi_RX4_22 : FI RX4 22 4 3 3 := ⟨⟨_, _, _, tyX4, rfl, ⟨by decide, by decide⟩, by decide, rfl, inw_X4, fl_RX4_22, tyX4_ok, nmX4⟩, rfl, by decide, by decide, rfl⟩
theorem fw_RX4_22 : FW RX4 22 4 3 3 .int := ⟨fi_RX4_22, fun C T N h => by cases h; exact ⟨rfl, by decide +kernel⟩⟩
theorem fx_RX4_44 : FL RX4 44 4 4 := ⟨_, _, _, tyX4, rfl, ⟨by decide, by decide⟩, by decide, rfl, inw_X4, fl_RX4_44, tyX4_ok, nmX4⟩
theorem fr_RX9_10 : FR RX9 10 8 0 1 := ⟨⟨_, _, _, tyX9, rfl, ⟨by decide, by decide⟩, by decide, rfl, inw_X9, fl_RX9_10, tyX9_ok, nmX9⟩, rfl⟩
theorem fr_RX9_20 : FR RX9 20 8 1 3 := ⟨⟨_, _, _, tyX9, rfl, ⟨by decide, by decide⟩, by decide, rfl, inw_X9, fl_RX9_20, tyX9_ok, nmX9⟩, rfl⟩
theorem fr_RX9_21 : FR RX9 21 8 2 28 := ⟨⟨_, _, _, tyX9, rfl, ⟨by decide, by decide⟩, by decide, rfl, inw_X9, fl_RX9_21, tyX9_ok, nmX9⟩, rfl⟩
theorem fr_RX9_24 : FR RX9 24 8 3 30 := ⟨⟨_, _, _, tyX9, rfl, ⟨by decide, by decide⟩, by decide, rfl, inw_X9, fl_RX9_24, tyX9_ok, nmX9⟩, rfl⟩
theorem fr_RX9_30 : FR RX9 30 8 4 55 := ⟨⟨_, _, _, tyX9, rfl, ⟨by decide, by decide⟩, by decide, rfl, inw_X9, fl_RX9_30, tyX9_ok, nmX9⟩, rfl⟩
theorem fr_RX9_37 : FR RX9 37 8 5 57 := ⟨⟨_, _, _, tyX9, rfl, ⟨by decide, by decide⟩, by decide, rfl, inw_X9, fl_RX9_37, tyX9_ok, nmX9⟩, rfl⟩
theorem fi_RX9_41 : FI RX9 41 8 6 6 := ⟨⟨_, _, _, tyX9, rfl, ⟨by decide, by decide⟩, by decide, rfl, inw_X9, fl_RX9_41, tyX9_ok, nmX9⟩, rfl, by decide, by decide, rfl⟩
theorem fw_RX9_41 : FW RX9 41 8 6 6 .boolean := ⟨fi_RX9_41, fun C T N h => by cases h; exact ⟨rfl, by decide +kernel⟩⟩
theorem cw_RL_186 : CWV RL 186 yX9_clearTitle cX9_clearTitle 1 (Option.some FieldType.int) 0 := ⟨ml_RL_186, im_X9_clearTitle, se_X9_clearTitle, ⟨in_RX9, co_X9_clearTitle, by decide +kernel⟩⟩
theorem cw_RX9_55 : CWV RX9 55 yX9_keepState cX9_keepState 1 none 0 := ⟨ml_RX9_55, im_X9_keepState, se_X9_keepState, ⟨in_RX9, co_X9_keepState, by decide +kernel⟩⟩
theorem cw_RX9_249 : CWV RX9 249 yX1_save cX1_save 3 none 1 := ⟨ml_RX9_249, im_X1_save, se_X1_save, ⟨in_RX1, co_X1_save, by decide +kernel⟩⟩
theorem cw_RX1_21 : CWV RX1 21 yX1_dropOldest cX1_dropOldest 3 none 0 := ⟨ml_RX1_21, im_X1_dropOldest, se_X1_dropOldest, ⟨in_RX1, co_X1_dropOldest, by decide +kernel⟩⟩
theorem cw_RX1_25 : CWV RX1 25 yX5_copyFrom cX5_copyFrom 2 none 1 := ⟨ml_RX1_25, im_X5_copyFrom, se_X5_copyFrom, ⟨in_RX5, co_X5_copyFrom, by decide +kernel⟩⟩
theorem cw_RX5_75 : CWV RX5 75 yX6_copyFrom cX6_copyFrom 2 none 1 := ⟨ml_RX5_75, im_X6_copyFrom, se_X6_copyFrom, ⟨in_RX6, co_X6_copyFrom, by decide +kernel⟩⟩
theorem cw_RX6_76 : CWN RX6 76 yX9_copyRow cX9_copyRow 2 none 2 "EyeStage" := ⟨by decide +kernel, sm_X9_copyRow, ⟨in_RX9, co_X9_copyRow, by decide +kernel⟩⟩
theorem cw_RX9_278 : CWS RX9 278 yJ9_min_7cf53 cJ9_min_7cf53 2 (Option.some FieldType.int) 2 := ⟨ml_RX9_278, sm_J9_min_7cf53, ⟨in_RJ9, co_J9_min_7cf53, by decide +kernel⟩⟩
theorem cw_RX5_79 : CWV RX5 79 yX3_copyFrom cX3_copyFrom 2 none 1 := ⟨ml_RX5_79, im_X3_copyFrom, se_X3_copyFrom, ⟨in_RX3, co_X3_copyFrom, by decide +kernel⟩⟩
theorem cw_RX3_65 : CWN RX3 65 yX9_copyRow cX9_copyRow 2 none 2 "EyeStage" := ⟨by decide +kernel, sm_X9_copyRow, ⟨in_RX9, co_X9_copyRow, by decide +kernel⟩⟩
theorem cw_RX5_82 : CWN RX5 82 yX9_copyRow cX9_copyRow 2 none 2 "EyeStage" := ⟨by decide +kernel, sm_X9_copyRow, ⟨in_RX9, co_X9_copyRow, by decide +kernel⟩⟩
theorem cw_RX9_122 : CWV RX9 122 yX5_entitle cX5_entitle 5 (Option.some FieldType.int) 3 := ⟨ml_RX9_122, im_X5_entitle, se_X5_entitle, ⟨in_RX5, co_X5_entitle, by decide +kernel⟩⟩
theorem cw_RL_179 : CWV RL 179 yX9_runCommands cX9_runCommands 2 (Option.some FieldType.int) 0 := ⟨ml_RL_179, im_X9_runCommands, se_X9_runCommands, ⟨in_RX9, co_X9_runCommands, by decide +kernel⟩⟩
theorem cw_RX9_226 : CWV RX9 226 yX4_findFault cX4_findFault 2 (Option.some FieldType.int) 0 := ⟨ml_RX9_226, im_X4_findFault, se_X4_findFault, ⟨in_RX4, co_X4_findFault, by decide +kernel⟩⟩
theorem cw_RX4_29 : CWV RX4 29 yX4_skipSpaces cX4_skipSpaces 1 none 0 := ⟨ml_RX4_29, im_X4_skipSpaces, se_X4_skipSpaces, ⟨in_RX4, co_X4_skipSpaces, by decide +kernel⟩⟩
theorem cw_RX4_25 : CWV RX4 25 yX4_byteAt cX4_byteAt 2 (Option.some FieldType.int) 1 := ⟨ml_RX4_25, im_X4_byteAt, se_X4_byteAt, ⟨in_RX4, co_X4_byteAt, by decide +kernel⟩⟩
theorem cw_RX4_32 : CWV RX4 32 yX4_readCommand cX4_readCommand 4 (Option.some FieldType.boolean) 0 := ⟨ml_RX4_32, im_X4_readCommand, se_X4_readCommand, ⟨in_RX4, co_X4_readCommand, by decide +kernel⟩⟩
theorem cw_RX4_40 : CWV RX4 40 yX4_wordBetween cX4_wordBetween 7 (Option.some (FieldType.object "EyeStage$Word")) 2 := ⟨ml_RX4_40, im_X4_wordBetween, se_X4_wordBetween, ⟨in_RX4, co_X4_wordBetween, by decide +kernel⟩⟩
theorem cw_RX4_64 : CWV RX4 64 yX4_isWritten cX4_isWritten 5 (Option.some FieldType.boolean) 3 := ⟨ml_RX4_64, im_X4_isWritten, se_X4_isWritten, ⟨in_RX4, co_X4_isWritten, by decide +kernel⟩⟩
theorem cw_RX4_68 : CWV RX4 68 yJ0_length_8abf5 cJ0_length_8abf5 1 (Option.some FieldType.int) 0 := ⟨ml_RX4_68, im_J0_length_8abf5, se_J0_length_8abf5, ⟨in_RJ0, co_J0_length_8abf5, by decide +kernel⟩⟩
theorem cw_RJ0_335 : CWV RJ0 335 yJ0_coder_7d493 cJ0_coder_7d493 1 (Option.some FieldType.byte) 0 := ⟨ml_RJ0_335, im_J0_coder_7d493, se_J0_coder_7d493, ⟨in_RJ0, co_J0_coder_7d493, by decide +kernel⟩⟩
theorem cw_RX4_73 : CWV RX4 73 yJ0_charAt_5068e cJ0_charAt_5068e 2 (Option.some FieldType.char) 1 := ⟨ml_RX4_73, im_J0_charAt_5068e, se_J0_charAt_5068e, ⟨in_RJ0, co_J0_charAt_5068e, by decide +kernel⟩⟩
theorem cw_RJ0_492 : CWV RJ0 492 yJ0_isLatin1_aae02 cJ0_isLatin1_aae02 1 (Option.some FieldType.boolean) 0 := ⟨ml_RJ0_492, im_J0_isLatin1_aae02, se_J0_isLatin1_aae02, ⟨in_RJ0, co_J0_isLatin1_aae02, by decide +kernel⟩⟩
theorem cw_RJ0_495 : CWS RJ0 495 yJ1_charAt_3b067 cJ1_charAt_3b067 2 (Option.some FieldType.char) 2 := ⟨ml_RJ0_495, sm_J1_charAt_3b067, ⟨in_RJ1, co_J1_charAt_3b067, by decide +kernel⟩⟩
theorem cw_RJ1_9 : CWS RJ1 9 yJ0_checkIndex_df160 cJ0_checkIndex_df160 2 none 2 := ⟨ml_RJ1_9, sm_J0_checkIndex_df160, ⟨in_RJ0, co_J0_checkIndex_df160, by decide +kernel⟩⟩
theorem cw_RJ0_1059 : CWS RJ0 1059 yJ3_checkIndex_8e157 cJ3_checkIndex_8e157 3 (Option.some FieldType.int) 3 := ⟨ml_RJ0_1059, sm_J3_checkIndex_8e157, ⟨in_RJ3, co_J3_checkIndex_8e157, by decide +kernel⟩⟩
theorem cw_RJ0_498 : CWS RJ0 498 yJ2_charAt_3b067 cJ2_charAt_3b067 2 (Option.some FieldType.char) 2 := ⟨ml_RJ0_498, sm_J2_charAt_3b067, ⟨in_RJ2, co_J2_charAt_3b067, by decide +kernel⟩⟩
theorem cw_RJ2_67 : CWS RJ2 67 yJ2_checkIndex_2214a cJ2_checkIndex_2214a 2 none 2 := ⟨ml_RJ2_67, sm_J2_checkIndex_2214a, ⟨in_RJ2, co_J2_checkIndex_2214a, by decide +kernel⟩⟩
theorem cw_RJ2_48 : CWS RJ2 48 yJ2_length_9d52b cJ2_length_9d52b 1 (Option.some FieldType.int) 1 := ⟨ml_RJ2_48, sm_J2_length_9d52b, ⟨in_RJ2, co_J2_length_9d52b, by decide +kernel⟩⟩
theorem cw_RJ2_414 : CWS RJ2 414 yJ0_checkIndex_df160 cJ0_checkIndex_df160 2 none 2 := ⟨ml_RJ2_414, sm_J0_checkIndex_df160, ⟨in_RJ0, co_J0_checkIndex_df160, by decide +kernel⟩⟩
theorem cw_RJ2_71 : CWS RJ2 71 yJ2_getChar_3b067 cJ2_getChar_3b067 2 (Option.some FieldType.char) 2 := ⟨ml_RJ2_71, sm_J2_getChar_3b067, ⟨in_RJ2, co_J2_getChar_3b067, by decide +kernel⟩⟩
theorem cw_RX4_52 : CWV RX4 52 yX4_readNumber cX4_readNumber 4 (Option.some FieldType.boolean) 1 := ⟨ml_RX4_52, im_X4_readNumber, se_X4_readNumber, ⟨in_RX4, co_X4_readNumber, by decide +kernel⟩⟩
theorem cw_RX4_77 : CWS RX4 77 yX4_isDigit cX4_isDigit 1 (Option.some FieldType.boolean) 1 := ⟨ml_RX4_77, sm_X4_isDigit, ⟨in_RX4, co_X4_isDigit, by decide +kernel⟩⟩
theorem cw_RX9_229 : CWV RX9 229 yX4_runOn cX4_runOn 4 (Option.some FieldType.int) 1 := ⟨ml_RX9_229, im_X4_runOn, se_X4_runOn, ⟨in_RX4, co_X4_runOn, by decide +kernel⟩⟩
theorem cw_RX4_36 : CWV RX4 36 yX4_carryOut cX4_carryOut 3 (Option.some FieldType.boolean) 1 := ⟨ml_RX4_36, im_X4_carryOut, se_X4_carryOut, ⟨in_RX4, co_X4_carryOut, by decide +kernel⟩⟩
theorem cw_RX4_80 : CWV RX4 80 yX4_faultOn cX4_faultOn 3 (Option.some FieldType.int) 2 := ⟨ml_RX4_80, im_X4_faultOn, se_X4_faultOn, ⟨in_RX4, co_X4_faultOn, by decide +kernel⟩⟩
theorem cw_RX4_96 : CWV RX4 96 yX5_faultOfFrame cX5_faultOfFrame 3 (Option.some FieldType.int) 2 := ⟨ml_RX4_96, im_X5_faultOfFrame, se_X5_faultOfFrame, ⟨in_RX5, co_X5_faultOfFrame, by decide +kernel⟩⟩
theorem cw_RX5_36 : CWN RX5 36 yX9_within cX9_within 3 (Option.some FieldType.boolean) 3 "EyeStage" := ⟨by decide +kernel, sm_X9_within, ⟨in_RX9, co_X9_within, by decide +kernel⟩⟩
theorem cw_RX4_106 : CWV RX4 106 yX6_faultOfGroup cX6_faultOfGroup 5 (Option.some FieldType.int) 4 := ⟨ml_RX4_106, im_X6_faultOfGroup, se_X6_faultOfGroup, ⟨in_RX6, co_X6_faultOfGroup, by decide +kernel⟩⟩
theorem cw_RX6_47 : CWV RX6 47 yX6_has cX6_has 2 (Option.some FieldType.boolean) 1 := ⟨ml_RX6_47, im_X6_has, se_X6_has, ⟨in_RX6, co_X6_has, by decide +kernel⟩⟩
theorem cw_RX6_43 : CWV RX6 43 yX6_isBox cX6_isBox 2 (Option.some FieldType.boolean) 1 := ⟨ml_RX6_43, im_X6_isBox, se_X6_isBox, ⟨in_RX6, co_X6_isBox, by decide +kernel⟩⟩
theorem cw_RX6_53 : CWS RX6 53 yX6_isPlace cX6_isPlace 3 (Option.some FieldType.boolean) 3 := ⟨ml_RX6_53, sm_X6_isPlace, ⟨in_RX6, co_X6_isPlace, by decide +kernel⟩⟩
theorem cw_RX6_50 : CWS RX6 50 yX6_isCoordinate cX6_isCoordinate 1 (Option.some FieldType.boolean) 1 := ⟨ml_RX6_50, sm_X6_isCoordinate, ⟨in_RX6, co_X6_isCoordinate, by decide +kernel⟩⟩
theorem cw_RX6_57 : CWV RX6 57 yX6_aroundChildOf cX6_aroundChildOf 2 (Option.some FieldType.int) 1 := ⟨ml_RX6_57, im_X6_aroundChildOf, se_X6_aroundChildOf, ⟨in_RX6, co_X6_aroundChildOf, by decide +kernel⟩⟩
theorem cw_RX4_112 : CWV RX4 112 yX6_faultOfBox cX6_faultOfBox 9 (Option.some FieldType.int) 6 := ⟨ml_RX4_112, im_X6_faultOfBox, se_X6_faultOfBox, ⟨in_RX6, co_X6_faultOfBox, by decide +kernel⟩⟩
theorem cw_RX6_61 : CWV RX6 61 yX6_faultOfGroup cX6_faultOfGroup 5 (Option.some FieldType.int) 4 := ⟨ml_RX6_61, im_X6_faultOfGroup, se_X6_faultOfGroup, ⟨in_RX6, co_X6_faultOfGroup, by decide +kernel⟩⟩
theorem cw_RX6_65 : CWN RX6 65 yX9_within cX9_within 3 (Option.some FieldType.boolean) 3 "EyeStage" := ⟨by decide +kernel, sm_X9_within, ⟨in_RX9, co_X9_within, by decide +kernel⟩⟩
theorem cw_RX4_116 : CWV RX4 116 yX6_faultOfPlacing cX6_faultOfPlacing 5 (Option.some FieldType.int) 4 := ⟨ml_RX4_116, im_X6_faultOfPlacing, se_X6_faultOfPlacing, ⟨in_RX6, co_X6_faultOfPlacing, by decide +kernel⟩⟩
theorem cw_RX4_123 : CWV RX4 123 yX3_faultOfScene cX3_faultOfScene 5 (Option.some FieldType.int) 3 := ⟨ml_RX4_123, im_X3_faultOfScene, se_X3_faultOfScene, ⟨in_RX3, co_X3_faultOfScene, by decide +kernel⟩⟩
theorem cw_RX3_31 : CWN RX3 31 yX9_faultOfBudget cX9_faultOfBudget 2 (Option.some FieldType.int) 2 "EyeStage" := ⟨by decide +kernel, sm_X9_faultOfBudget, ⟨in_RX9, co_X9_faultOfBudget, by decide +kernel⟩⟩
theorem cw_RX9_269 : CWS RX9 269 yX9_within cX9_within 3 (Option.some FieldType.boolean) 3 := ⟨ml_RX9_269, sm_X9_within, ⟨in_RX9, co_X9_within, by decide +kernel⟩⟩
theorem cw_RX3_35 : CWN RX3 35 yX9_faultOfRange cX9_faultOfRange 3 (Option.some FieldType.int) 3 "EyeStage" := ⟨by decide +kernel, sm_X9_faultOfRange, ⟨in_RX9, co_X9_faultOfRange, by decide +kernel⟩⟩
theorem cw_RX4_129 : CWV RX4 129 yX5_faultOfSetting cX5_faultOfSetting 3 (Option.some FieldType.int) 2 := ⟨ml_RX4_129, im_X5_faultOfSetting, se_X5_faultOfSetting, ⟨in_RX5, co_X5_faultOfSetting, by decide +kernel⟩⟩
theorem cw_RX5_59 : CWN RX5 59 yX9_faultOfRange cX9_faultOfRange 3 (Option.some FieldType.int) 3 "EyeStage" := ⟨by decide +kernel, sm_X9_faultOfRange, ⟨in_RX9, co_X9_faultOfRange, by decide +kernel⟩⟩
theorem cw_RX4_132 : CWV RX4 132 yX5_faultOfTitle cX5_faultOfTitle 5 (Option.some FieldType.int) 3 := ⟨ml_RX4_132, im_X5_faultOfTitle, se_X5_faultOfTitle, ⟨in_RX5, co_X5_faultOfTitle, by decide +kernel⟩⟩
theorem cw_RX4_135 : CWV RX4 135 yX6_faultOfNumber cX6_faultOfNumber 2 (Option.some FieldType.int) 1 := ⟨ml_RX4_135, im_X6_faultOfNumber, se_X6_faultOfNumber, ⟨in_RX6, co_X6_faultOfNumber, by decide +kernel⟩⟩
theorem cw_RX4_138 : CWV RX4 138 yX5_faultOfTicks cX5_faultOfTicks 2 (Option.some FieldType.int) 1 := ⟨ml_RX4_138, im_X5_faultOfTicks, se_X5_faultOfTicks, ⟨in_RX5, co_X5_faultOfTicks, by decide +kernel⟩⟩
theorem cw_RX4_84 : CWV RX4 84 yX4_applyTo cX4_applyTo 3 none 2 := ⟨ml_RX4_84, im_X4_applyTo, se_X4_applyTo, ⟨in_RX4, co_X4_applyTo, by decide +kernel⟩⟩
theorem cw_RX4_141 : CWV RX4 141 yX5_reframe cX5_reframe 4 (Option.some FieldType.int) 2 := ⟨ml_RX4_141, im_X5_reframe, se_X5_reframe, ⟨in_RX5, co_X5_reframe, by decide +kernel⟩⟩
theorem cw_RX5_46 : CWV RX5 46 yX3_clear cX3_clear 1 none 0 := ⟨ml_RX5_46, im_X3_clear, se_X3_clear, ⟨in_RX3, co_X3_clear, by decide +kernel⟩⟩
theorem cw_RX5_49 : CWV RX5 49 yX5_entitle cX5_entitle 5 (Option.some FieldType.int) 3 := ⟨ml_RX5_49, im_X5_entitle, se_X5_entitle, ⟨in_RX5, co_X5_entitle, by decide +kernel⟩⟩
theorem cw_RX4_144 : CWV RX4 144 yX6_appendGroup cX6_appendGroup 5 (Option.some FieldType.int) 4 := ⟨ml_RX4_144, im_X6_appendGroup, se_X6_appendGroup, ⟨in_RX6, co_X6_appendGroup, by decide +kernel⟩⟩
theorem cw_RX6_68 : CWV RX6 68 yX6_appendBox cX6_appendBox 8 (Option.some FieldType.int) 6 := ⟨ml_RX6_68, im_X6_appendBox, se_X6_appendBox, ⟨in_RX6, co_X6_appendBox, by decide +kernel⟩⟩
theorem cw_RX4_147 : CWV RX4 147 yX6_appendBox cX6_appendBox 8 (Option.some FieldType.int) 6 := ⟨ml_RX4_147, im_X6_appendBox, se_X6_appendBox, ⟨in_RX6, co_X6_appendBox, by decide +kernel⟩⟩
theorem cw_RX4_150 : CWV RX4 150 yX6_placeAt cX6_placeAt 6 (Option.some FieldType.int) 4 := ⟨ml_RX4_150, im_X6_placeAt, se_X6_placeAt, ⟨in_RX6, co_X6_placeAt, by decide +kernel⟩⟩
theorem cw_RX4_153 : CWV RX4 153 yX3_append cX3_append 5 (Option.some FieldType.int) 3 := ⟨ml_RX4_153, im_X3_append, se_X3_append, ⟨in_RX3, co_X3_append, by decide +kernel⟩⟩
theorem cw_RX4_156 : CWV RX4 156 yX5_change cX5_change 4 (Option.some FieldType.int) 2 := ⟨ml_RX4_156, im_X5_change, se_X5_change, ⟨in_RX5, co_X5_change, by decide +kernel⟩⟩
theorem cw_RX4_159 : CWV RX4 159 yX5_entitle cX5_entitle 5 (Option.some FieldType.int) 3 := ⟨ml_RX4_159, im_X5_entitle, se_X5_entitle, ⟨in_RX5, co_X5_entitle, by decide +kernel⟩⟩
theorem cw_RX4_162 : CWV RX4 162 yX6_drop cX6_drop 6 (Option.some FieldType.int) 1 := ⟨ml_RX4_162, im_X6_drop, se_X6_drop, ⟨in_RX6, co_X6_drop, by decide +kernel⟩⟩
theorem cw_RX6_72 : CWV RX6 72 yX6_shiftDown cX6_shiftDown 3 none 2 := ⟨ml_RX6_72, im_X6_shiftDown, se_X6_shiftDown, ⟨in_RX6, co_X6_shiftDown, by decide +kernel⟩⟩
theorem cw_RX4_165 : CWV RX4 165 yX5_pass cX5_pass 3 (Option.some FieldType.int) 1 := ⟨ml_RX4_165, im_X5_pass, se_X5_pass, ⟨in_RX5, co_X5_pass, by decide +kernel⟩⟩
theorem cw_RX5_71 : CWV RX5 71 yX3_passTick cX3_passTick 3 none 1 := ⟨ml_RX5_71, im_X3_passTick, se_X3_passTick, ⟨in_RX3, co_X3_passTick, by decide +kernel⟩⟩
theorem cw_RX3_42 : CWV RX3 42 yX3_present cX3_present 3 (Option.some FieldType.int) 0 := ⟨ml_RX3_42, im_X3_present, se_X3_present, ⟨in_RX3, co_X3_present, by decide +kernel⟩⟩
theorem cw_RX3_46 : CWV RX3 46 yX3_has cX3_has 2 (Option.some FieldType.boolean) 1 := ⟨ml_RX3_46, im_X3_has, se_X3_has, ⟨in_RX3, co_X3_has, by decide +kernel⟩⟩
theorem cw_RX3_50 : CWS RX3 50 yX3_towards cX3_towards 3 (Option.some FieldType.int) 3 := ⟨ml_RX3_50, sm_X3_towards, ⟨in_RX3, co_X3_towards, by decide +kernel⟩⟩
theorem cw_RX3_53 : CWS RX3 53 yJ9_min_7cf53 cJ9_min_7cf53 2 (Option.some FieldType.int) 2 := ⟨ml_RX3_53, sm_J9_min_7cf53, ⟨in_RJ9, co_J9_min_7cf53, by decide +kernel⟩⟩
theorem cw_RX3_58 : CWS RX3 58 yJ9_max_7cf53 cJ9_max_7cf53 2 (Option.some FieldType.int) 2 := ⟨ml_RX3_58, sm_J9_max_7cf53, ⟨in_RJ9, co_J9_max_7cf53, by decide +kernel⟩⟩
theorem cw_RL_182 : CWS RL 182 yL_lot cL_lot 2 (Option.some FieldType.int) 2 := ⟨ml_RL_182, sm_L_lot, ⟨in_RL, co_L_lot, by decide +kernel⟩⟩
theorem cw_RL_121 : CWS RL 121 yL_low cL_low 2 (Option.some FieldType.int) 2 := ⟨ml_RL_121, sm_L_low, ⟨in_RL, co_L_low, by decide +kernel⟩⟩
theorem cw_RL_9 : CWV RL 9 yX9_begin cX9_begin 3 (Option.some FieldType.int) 2 := ⟨ml_RL_9, im_X9_begin, se_X9_begin, ⟨in_RX9, co_X9_begin, by decide +kernel⟩⟩
theorem cw_RX9_45 : CWV RX9 45 yX5_faultOfFrame cX5_faultOfFrame 3 (Option.some FieldType.int) 2 := ⟨ml_RX9_45, im_X5_faultOfFrame, se_X5_faultOfFrame, ⟨in_RX5, co_X5_faultOfFrame, by decide +kernel⟩⟩
theorem cw_RX9_51 : CWS RX9 51 yX9_refuse cX9_refuse 1 none 1 := ⟨ml_RX9_51, sm_X9_refuse, ⟨in_RX9, co_X9_refuse, by decide +kernel⟩⟩
theorem cw_RX9_58 : CWV RX9 58 yX5_reframe cX5_reframe 4 (Option.some FieldType.int) 2 := ⟨ml_RX9_58, im_X5_reframe, se_X5_reframe, ⟨in_RX5, co_X5_reframe, by decide +kernel⟩⟩
theorem cw_RL_18 : CWV RL 18 yX9_addGroup cX9_addGroup 5 (Option.some FieldType.int) 4 := ⟨ml_RL_18, im_X9_addGroup, se_X9_addGroup, ⟨in_RX9, co_X9_addGroup, by decide +kernel⟩⟩
theorem cw_RX9_65 : CWV RX9 65 yX6_faultOfGroup cX6_faultOfGroup 5 (Option.some FieldType.int) 4 := ⟨ml_RX9_65, im_X6_faultOfGroup, se_X6_faultOfGroup, ⟨in_RX6, co_X6_faultOfGroup, by decide +kernel⟩⟩
theorem cw_RX9_71 : CWV RX9 71 yX6_appendGroup cX6_appendGroup 5 (Option.some FieldType.int) 4 := ⟨ml_RX9_71, im_X6_appendGroup, se_X6_appendGroup, ⟨in_RX6, co_X6_appendGroup, by decide +kernel⟩⟩
theorem cw_RL_28 : CWV RL 28 yX9_addBox cX9_addBox 7 (Option.some FieldType.int) 6 := ⟨ml_RL_28, im_X9_addBox, se_X9_addBox, ⟨in_RX9, co_X9_addBox, by decide +kernel⟩⟩
theorem cw_RX9_74 : CWV RX9 74 yX6_faultOfBox cX6_faultOfBox 9 (Option.some FieldType.int) 6 := ⟨ml_RX9_74, im_X6_faultOfBox, se_X6_faultOfBox, ⟨in_RX6, co_X6_faultOfBox, by decide +kernel⟩⟩
theorem cw_RX9_78 : CWV RX9 78 yX6_appendBox cX6_appendBox 8 (Option.some FieldType.int) 6 := ⟨ml_RX9_78, im_X6_appendBox, se_X6_appendBox, ⟨in_RX6, co_X6_appendBox, by decide +kernel⟩⟩
theorem cw_RL_32 : CWV RL 32 yX9_move cX9_move 5 (Option.some FieldType.int) 4 := ⟨ml_RL_32, im_X9_move, se_X9_move, ⟨in_RX9, co_X9_move, by decide +kernel⟩⟩
theorem cw_RX9_81 : CWV RX9 81 yX6_faultOfPlacing cX6_faultOfPlacing 5 (Option.some FieldType.int) 4 := ⟨ml_RX9_81, im_X6_faultOfPlacing, se_X6_faultOfPlacing, ⟨in_RX6, co_X6_faultOfPlacing, by decide +kernel⟩⟩
theorem cw_RX9_84 : CWV RX9 84 yX6_placeAt cX6_placeAt 6 (Option.some FieldType.int) 4 := ⟨ml_RX9_84, im_X6_placeAt, se_X6_placeAt, ⟨in_RX6, co_X6_placeAt, by decide +kernel⟩⟩
theorem cw_RL_35 : CWV RL 35 yX9_setShade cX9_setShade 3 (Option.some FieldType.int) 2 := ⟨ml_RL_35, im_X9_setShade, se_X9_setShade, ⟨in_RX9, co_X9_setShade, by decide +kernel⟩⟩
theorem cw_RX9_87 : CWV RX9 87 yX6_faultOfColour cX6_faultOfColour 3 (Option.some FieldType.int) 2 := ⟨ml_RX9_87, im_X6_faultOfColour, se_X6_faultOfColour, ⟨in_RX6, co_X6_faultOfColour, by decide +kernel⟩⟩
theorem cw_RX9_90 : CWV RX9 90 yX6_colour cX6_colour 4 (Option.some FieldType.int) 2 := ⟨ml_RX9_90, im_X6_colour, se_X6_colour, ⟨in_RX6, co_X6_colour, by decide +kernel⟩⟩
theorem cw_RL_38 : CWV RL 38 yX9_removeNode cX9_removeNode 2 (Option.some FieldType.int) 1 := ⟨ml_RL_38, im_X9_removeNode, se_X9_removeNode, ⟨in_RX9, co_X9_removeNode, by decide +kernel⟩⟩
theorem cw_RX9_93 : CWV RX9 93 yX6_faultOfNumber cX6_faultOfNumber 2 (Option.some FieldType.int) 1 := ⟨ml_RX9_93, im_X6_faultOfNumber, se_X6_faultOfNumber, ⟨in_RX6, co_X6_faultOfNumber, by decide +kernel⟩⟩
theorem cw_RX9_97 : CWV RX9 97 yX6_drop cX6_drop 6 (Option.some FieldType.int) 1 := ⟨ml_RX9_97, im_X6_drop, se_X6_drop, ⟨in_RX6, co_X6_drop, by decide +kernel⟩⟩
theorem cw_RL_42 : CWV RL 42 yX9_addScene cX9_addScene 4 (Option.some FieldType.int) 3 := ⟨ml_RL_42, im_X9_addScene, se_X9_addScene, ⟨in_RX9, co_X9_addScene, by decide +kernel⟩⟩
theorem cw_RX9_104 : CWV RX9 104 yX3_faultOfScene cX3_faultOfScene 5 (Option.some FieldType.int) 3 := ⟨ml_RX9_104, im_X3_faultOfScene, se_X3_faultOfScene, ⟨in_RX3, co_X3_faultOfScene, by decide +kernel⟩⟩
theorem cw_RX9_110 : CWV RX9 110 yX3_append cX3_append 5 (Option.some FieldType.int) 3 := ⟨ml_RX9_110, im_X3_append, se_X3_append, ⟨in_RX3, co_X3_append, by decide +kernel⟩⟩
theorem cw_RL_46 : CWV RL 46 yX9_set cX9_set 3 (Option.some FieldType.int) 2 := ⟨ml_RL_46, im_X9_set, se_X9_set, ⟨in_RX9, co_X9_set, by decide +kernel⟩⟩
theorem cw_RX9_113 : CWV RX9 113 yX5_faultOfSetting cX5_faultOfSetting 3 (Option.some FieldType.int) 2 := ⟨ml_RX9_113, im_X5_faultOfSetting, se_X5_faultOfSetting, ⟨in_RX5, co_X5_faultOfSetting, by decide +kernel⟩⟩
theorem cw_RX9_116 : CWV RX9 116 yX5_change cX5_change 4 (Option.some FieldType.int) 2 := ⟨ml_RX9_116, im_X5_change, se_X5_change, ⟨in_RX5, co_X5_change, by decide +kernel⟩⟩
theorem cw_RL_49 : CWV RL 49 yX9_setTitle cX9_setTitle 4 (Option.some FieldType.int) 3 := ⟨ml_RL_49, im_X9_setTitle, se_X9_setTitle, ⟨in_RX9, co_X9_setTitle, by decide +kernel⟩⟩
theorem cw_RX9_119 : CWV RX9 119 yX5_faultOfTitle cX5_faultOfTitle 5 (Option.some FieldType.int) 3 := ⟨ml_RX9_119, im_X5_faultOfTitle, se_X5_faultOfTitle, ⟨in_RX5, co_X5_faultOfTitle, by decide +kernel⟩⟩
theorem cw_RL_52 : CWV RL 52 yX9_tick cX9_tick 2 (Option.some FieldType.int) 1 := ⟨ml_RL_52, im_X9_tick, se_X9_tick, ⟨in_RX9, co_X9_tick, by decide +kernel⟩⟩
theorem cw_RX9_125 : CWV RX9 125 yX5_faultOfTicks cX5_faultOfTicks 2 (Option.some FieldType.int) 1 := ⟨ml_RX9_125, im_X5_faultOfTicks, se_X5_faultOfTicks, ⟨in_RX5, co_X5_faultOfTicks, by decide +kernel⟩⟩
theorem cw_RX9_128 : CWV RX9 128 yX5_pass cX5_pass 3 (Option.some FieldType.int) 1 := ⟨ml_RX9_128, im_X5_pass, se_X5_pass, ⟨in_RX5, co_X5_pass, by decide +kernel⟩⟩
theorem cw_RL_55 : CWV RL 55 yX9_node cX9_node 3 (Option.some FieldType.int) 2 := ⟨ml_RL_55, im_X9_node, se_X9_node, ⟨in_RX9, co_X9_node, by decide +kernel⟩⟩
theorem cw_RX9_131 : CWS RX9 131 yX9_faultOfRange cX9_faultOfRange 3 (Option.some FieldType.int) 3 := ⟨ml_RX9_131, sm_X9_faultOfRange, ⟨in_RX9, co_X9_faultOfRange, by decide +kernel⟩⟩
theorem cw_RX9_134 : CWV RX9 134 yX9_freshView cX9_freshView 1 (Option.some (FieldType.object "EyeStage$View")) 0 := ⟨ml_RX9_134, im_X9_freshView, se_X9_freshView, ⟨in_RX9, co_X9_freshView, by decide +kernel⟩⟩
theorem cw_RX9_218 : CWV RX9 218 yX7_measure cX7_measure 1 none 0 := ⟨ml_RX9_218, im_X7_measure, se_X7_measure, ⟨in_RX7, co_X7_measure, by decide +kernel⟩⟩
theorem cw_RX7_41 : CWV RX7 41 yX2_measure cX2_measure 2 none 0 := ⟨ml_RX7_41, im_X2_measure, se_X2_measure, ⟨in_RX2, co_X2_measure, by decide +kernel⟩⟩
theorem cw_RX2_45 : CWV RX2 45 yX2_placeNodes cX2_placeNodes 4 none 0 := ⟨ml_RX2_45, im_X2_placeNodes, se_X2_placeNodes, ⟨in_RX2, co_X2_placeNodes, by decide +kernel⟩⟩
theorem cw_RX2_61 : CWV RX2 61 yX2_percentageWithin cX2_percentageWithin 4 (Option.some FieldType.int) 2 := ⟨ml_RX2_61, im_X2_percentageWithin, se_X2_percentageWithin, ⟨in_RX2, co_X2_percentageWithin, by decide +kernel⟩⟩
theorem cw_RX2_122 : CWV RX2 122 yX2_fits cX2_fits 6 (Option.some FieldType.boolean) 4 := ⟨ml_RX2_122, im_X2_fits, se_X2_fits, ⟨in_RX2, co_X2_fits, by decide +kernel⟩⟩
theorem cw_RX2_76 : CWV RX2 76 yX6_isBox cX6_isBox 2 (Option.some FieldType.boolean) 1 := ⟨ml_RX2_76, im_X6_isBox, se_X6_isBox, ⟨in_RX6, co_X6_isBox, by decide +kernel⟩⟩
theorem cw_RX2_83 : CWS RX2 83 yX2_rawShift cX2_rawShift 2 (Option.some FieldType.int) 2 := ⟨ml_RX2_83, sm_X2_rawShift, ⟨in_RX2, co_X2_rawShift, by decide +kernel⟩⟩
theorem cw_RX2_86 : CWS RX2 86 yJ9_floorDiv_7cf53 cJ9_floorDiv_7cf53 3 (Option.some FieldType.int) 2 := ⟨ml_RX2_86, sm_J9_floorDiv_7cf53, ⟨in_RJ9, co_J9_floorDiv_7cf53, by decide +kernel⟩⟩
theorem cw_RX2_118 : CWN RX2 118 yX9_within cX9_within 3 (Option.some FieldType.boolean) 3 "EyeStage" := ⟨by decide +kernel, sm_X9_within, ⟨in_RX9, co_X9_within, by decide +kernel⟩⟩
theorem cw_RX2_91 : CWN RX2 91 yX9_columnOf cX9_columnOf 3 (Option.some FieldType.int) 3 "EyeStage" := ⟨by decide +kernel, sm_X9_columnOf, ⟨in_RX9, co_X9_columnOf, by decide +kernel⟩⟩
theorem cw_RX9_273 : CWS RX9 273 yJ9_floorDiv_7cf53 cJ9_floorDiv_7cf53 3 (Option.some FieldType.int) 2 := ⟨ml_RX9_273, sm_J9_floorDiv_7cf53, ⟨in_RJ9, co_J9_floorDiv_7cf53, by decide +kernel⟩⟩
theorem cw_RX2_95 : CWV RX2 95 yX2_putInOrder cX2_putInOrder 3 none 1 := ⟨ml_RX2_95, im_X2_putInOrder, se_X2_putInOrder, ⟨in_RX2, co_X2_putInOrder, by decide +kernel⟩⟩
theorem cw_RX2_111 : CWV RX2 111 yX2_isNearer cX2_isNearer 3 (Option.some FieldType.boolean) 2 := ⟨ml_RX2_111, im_X2_isNearer, se_X2_isNearer, ⟨in_RX2, co_X2_isNearer, by decide +kernel⟩⟩
theorem cw_RX2_115 : CWV RX2 115 yX6_has cX6_has 2 (Option.some FieldType.boolean) 1 := ⟨ml_RX2_115, im_X6_has, se_X6_has, ⟨in_RX6, co_X6_has, by decide +kernel⟩⟩
theorem cw_RX7_44 : CWV RX7 44 yX7_windowShift cX7_windowShift 5 (Option.some FieldType.int) 1 := ⟨ml_RX7_44, im_X7_windowShift, se_X7_windowShift, ⟨in_RX7, co_X7_windowShift, by decide +kernel⟩⟩
theorem cw_RX7_57 : CWV RX7 57 yX7_greatestCut cX7_greatestCut 5 (Option.some FieldType.int) 2 := ⟨ml_RX7_57, im_X7_greatestCut, se_X7_greatestCut, ⟨in_RX7, co_X7_greatestCut, by decide +kernel⟩⟩
theorem cw_RX7_69 : CWV RX7 69 yX7_isCut cX7_isCut 7 (Option.some FieldType.boolean) 3 := ⟨ml_RX7_69, im_X7_isCut, se_X7_isCut, ⟨in_RX7, co_X7_isCut, by decide +kernel⟩⟩
theorem cw_RX7_73 : CWV RX7 73 yX2_inFrame cX2_inFrame 2 (Option.some FieldType.boolean) 1 := ⟨ml_RX7_73, im_X2_inFrame, se_X2_inFrame, ⟨in_RX2, co_X2_inFrame, by decide +kernel⟩⟩
theorem cw_RX7_86 : CWS RX7 86 yX7_crosses cX7_crosses 3 (Option.some FieldType.boolean) 3 := ⟨ml_RX7_86, sm_X7_crosses, ⟨in_RX7, co_X7_crosses, by decide +kernel⟩⟩
theorem cw_RX7_54 : CWV RX7 54 yX7_findTitle cX7_findTitle 3 none 0 := ⟨ml_RX7_54, im_X7_findTitle, se_X7_findTitle, ⟨in_RX7, co_X7_findTitle, by decide +kernel⟩⟩
theorem cw_RX7_113 : CWV RX7 113 yX7_titleCanStand cX7_titleCanStand 8 (Option.some FieldType.boolean) 3 := ⟨ml_RX7_113, im_X7_titleCanStand, se_X7_titleCanStand, ⟨in_RX7, co_X7_titleCanStand, by decide +kernel⟩⟩
theorem cw_RX7_119 : CWN RX7 119 yX9_columnOf cX9_columnOf 3 (Option.some FieldType.int) 3 "EyeStage" := ⟨by decide +kernel, sm_X9_columnOf, ⟨in_RX9, co_X9_columnOf, by decide +kernel⟩⟩
theorem cw_RX7_123 : CWV RX7 123 yX7_firstOpen cX7_firstOpen 2 (Option.some FieldType.int) 1 := ⟨ml_RX7_123, im_X7_firstOpen, se_X7_firstOpen, ⟨in_RX7, co_X7_firstOpen, by decide +kernel⟩⟩
theorem cw_RX7_126 : CWV RX7 126 yX7_endOfOpen cX7_endOfOpen 2 (Option.some FieldType.int) 1 := ⟨ml_RX7_126, im_X7_endOfOpen, se_X7_endOfOpen, ⟨in_RX7, co_X7_endOfOpen, by decide +kernel⟩⟩
theorem cw_RX7_129 : CWV RX7 129 yX2_inRow cX2_inRow 3 (Option.some FieldType.boolean) 2 := ⟨ml_RX7_129, im_X2_inRow, se_X2_inRow, ⟨in_RX2, co_X2_inRow, by decide +kernel⟩⟩
theorem cw_RX7_133 : CWV RX7 133 yX2_column cX2_column 3 (Option.some FieldType.int) 2 := ⟨ml_RX7_133, im_X2_column, se_X2_column, ⟨in_RX2, co_X2_column, by decide +kernel⟩⟩
theorem cw_RX9_142 : CWV RX9 142 yX2_valueOf cX2_valueOf 3 (Option.some FieldType.int) 2 := ⟨ml_RX9_142, im_X2_valueOf, se_X2_valueOf, ⟨in_RX2, co_X2_valueOf, by decide +kernel⟩⟩
theorem cw_RX2_148 : CWV RX2 148 yX6_children cX6_children 4 (Option.some FieldType.int) 1 := ⟨ml_RX2_148, im_X6_children, se_X6_children, ⟨in_RX6, co_X6_children, by decide +kernel⟩⟩
theorem cw_RL_61 : CWV RL 61 yX9_scene cX9_scene 3 (Option.some FieldType.int) 2 := ⟨ml_RL_61, im_X9_scene, se_X9_scene, ⟨in_RX9, co_X9_scene, by decide +kernel⟩⟩
theorem cw_RX9_150 : CWV RX9 150 yX3_has cX3_has 2 (Option.some FieldType.boolean) 1 := ⟨ml_RX9_150, im_X3_has, se_X3_has, ⟨in_RX3, co_X3_has, by decide +kernel⟩⟩
theorem cw_RX9_154 : CWV RX9 154 yX3_valueOf cX3_valueOf 3 (Option.some FieldType.int) 2 := ⟨ml_RX9_154, im_X3_valueOf, se_X3_valueOf, ⟨in_RX3, co_X3_valueOf, by decide +kernel⟩⟩
theorem cw_RX3_61 : CWV RX3 61 yX3_beginOf cX3_beginOf 4 (Option.some FieldType.int) 1 := ⟨ml_RX3_61, im_X3_beginOf, se_X3_beginOf, ⟨in_RX3, co_X3_beginOf, by decide +kernel⟩⟩
theorem cw_RL_64 : CWV RL 64 yX9_title cX9_title 2 (Option.some FieldType.int) 1 := ⟨ml_RL_64, im_X9_title, se_X9_title, ⟨in_RX9, co_X9_title, by decide +kernel⟩⟩
theorem cw_RX9_155 : CWV RX9 155 yX7_titleValue cX7_titleValue 2 (Option.some FieldType.int) 1 := ⟨ml_RX9_155, im_X7_titleValue, se_X7_titleValue, ⟨in_RX7, co_X7_titleValue, by decide +kernel⟩⟩
theorem cw_RX7_136 : CWV RX7 136 yX7_titleColumn cX7_titleColumn 2 (Option.some FieldType.int) 1 := ⟨ml_RX7_136, im_X7_titleColumn, se_X7_titleColumn, ⟨in_RX7, co_X7_titleColumn, by decide +kernel⟩⟩
theorem cw_RL_67 : CWV RL 67 yX9_whole cX9_whole 2 (Option.some FieldType.int) 1 := ⟨ml_RL_67, im_X9_whole, se_X9_whole, ⟨in_RX9, co_X9_whole, by decide +kernel⟩⟩
theorem cw_RX9_158 : CWV RX9 158 yX7_wholeValue cX7_wholeValue 2 (Option.some FieldType.int) 1 := ⟨ml_RX9_158, im_X7_wholeValue, se_X7_wholeValue, ⟨in_RX7, co_X7_wholeValue, by decide +kernel⟩⟩
theorem cw_RX7_142 : CWV RX7 142 yX6_boxes cX6_boxes 3 (Option.some FieldType.int) 0 := ⟨ml_RX7_142, im_X6_boxes, se_X6_boxes, ⟨in_RX6, co_X6_boxes, by decide +kernel⟩⟩
theorem cw_RX7_150 : CWV RX7 150 yX3_present cX3_present 3 (Option.some FieldType.int) 0 := ⟨ml_RX7_150, im_X3_present, se_X3_present, ⟨in_RX3, co_X3_present, by decide +kernel⟩⟩
theorem cw_RL_80 : CWV RL 80 yX9_ghosts cX9_ghosts 2 (Option.some FieldType.int) 1 := ⟨ml_RL_80, im_X9_ghosts, se_X9_ghosts, ⟨in_RX9, co_X9_ghosts, by decide +kernel⟩⟩
theorem cw_RX9_174 : CWV RX9 174 yX7_countGhosts cX7_countGhosts 6 (Option.some FieldType.int) 1 := ⟨ml_RX9_174, im_X7_countGhosts, se_X7_countGhosts, ⟨in_RX7, co_X7_countGhosts, by decide +kernel⟩⟩
theorem cw_RX7_184 : CWV RX7 184 yX7_holdRow cX7_holdRow 3 (Option.some FieldType.boolean) 1 := ⟨ml_RX7_184, im_X7_holdRow, se_X7_holdRow, ⟨in_RX7, co_X7_holdRow, by decide +kernel⟩⟩
theorem cw_RX7_192 : CWV RX7 192 yX7_isLikeAbove cX7_isLikeAbove 3 (Option.some FieldType.boolean) 1 := ⟨ml_RX7_192, im_X7_isLikeAbove, se_X7_isLikeAbove, ⟨in_RX7, co_X7_isLikeAbove, by decide +kernel⟩⟩
theorem cw_RX7_195 : CWV RX7 195 yX7_paintRow cX7_paintRow 7 none 3 := ⟨ml_RX7_195, im_X7_paintRow, se_X7_paintRow, ⟨in_RX7, co_X7_paintRow, by decide +kernel⟩⟩
theorem cw_RX7_199 : CWV RX7 199 yX7_fill cX7_fill 7 none 4 := ⟨ml_RX7_199, im_X7_fill, se_X7_fill, ⟨in_RX7, co_X7_fill, by decide +kernel⟩⟩
theorem cw_RX7_208 : CWS RX7 208 yJ9_min_7cf53 cJ9_min_7cf53 2 (Option.some FieldType.int) 2 := ⟨ml_RX7_208, sm_J9_min_7cf53, ⟨in_RJ9, co_J9_min_7cf53, by decide +kernel⟩⟩
theorem cw_RX7_211 : CWS RX7 211 yJ9_max_7cf53 cJ9_max_7cf53 2 (Option.some FieldType.int) 2 := ⟨ml_RX7_211, sm_J9_max_7cf53, ⟨in_RJ9, co_J9_max_7cf53, by decide +kernel⟩⟩
theorem cw_RX7_205 : CWV RX7 205 yX2_boxAt cX2_boxAt 2 (Option.some FieldType.int) 1 := ⟨ml_RX7_205, im_X2_boxAt, se_X2_boxAt, ⟨in_RX2, co_X2_boxAt, by decide +kernel⟩⟩
theorem cw_RX7_187 : CWV RX7 187 yX7_countInHeldRow cX7_countInHeldRow 4 (Option.some FieldType.int) 1 := ⟨ml_RX7_187, im_X7_countInHeldRow, se_X7_countInHeldRow, ⟨in_RX7, co_X7_countInHeldRow, by decide +kernel⟩⟩
theorem cw_RX7_174 : CWV RX7 174 yX7_ghostOf cX7_ghostOf 3 (Option.some FieldType.int) 2 := ⟨ml_RX7_174, im_X7_ghostOf, se_X7_ghostOf, ⟨in_RX7, co_X7_ghostOf, by decide +kernel⟩⟩
theorem cw_RX7_178 : CWS RX7 178 yJ9_abs_0f7a4 cJ9_abs_0f7a4 1 (Option.some FieldType.int) 1 := ⟨ml_RX7_178, sm_J9_abs_0f7a4, ⟨in_RJ9, co_J9_abs_0f7a4, by decide +kernel⟩⟩
theorem cw_RL_92 : CWV RL 92 yX9_fullAfter cX9_fullAfter 6 (Option.some FieldType.int) 1 := ⟨ml_RL_92, im_X9_fullAfter, se_X9_fullAfter, ⟨in_RX9, co_X9_fullAfter, by decide +kernel⟩⟩
theorem cw_RX9_194 : CWV RX9 194 yX3_copyFrom cX3_copyFrom 2 none 1 := ⟨ml_RX9_194, im_X3_copyFrom, se_X3_copyFrom, ⟨in_RX3, co_X3_copyFrom, by decide +kernel⟩⟩
theorem cw_RX9_208 : CWV RX9 208 yX2_fits cX2_fits 6 (Option.some FieldType.boolean) 4 := ⟨ml_RX9_208, im_X2_fits, se_X2_fits, ⟨in_RX2, co_X2_fits, by decide +kernel⟩⟩
theorem cw_RX9_212 : CWV RX9 212 yX3_passTick cX3_passTick 3 none 1 := ⟨ml_RX9_212, im_X3_passTick, se_X3_passTick, ⟨in_RX3, co_X3_passTick, by decide +kernel⟩⟩
theorem cw_RL_101 : CWV RL 101 yX9_undo cX9_undo 1 (Option.some FieldType.int) 0 := ⟨ml_RL_101, im_X9_undo, se_X9_undo, ⟨in_RX9, co_X9_undo, by decide +kernel⟩⟩
theorem cw_RX9_236 : CWV RX9 236 yX1_restore cX1_restore 3 none 1 := ⟨ml_RX9_236, im_X1_restore, se_X1_restore, ⟨in_RX1, co_X1_restore, by decide +kernel⟩⟩
theorem cw_RL_173 : CWS RL 173 yL_sound cL_sound 13 (Option.some FieldType.boolean) 1 := ⟨ml_RL_173, sm_L_sound, ⟨in_RL, co_L_sound, by decide +kernel⟩⟩
theorem cw_RL_58 : CWV RL 58 yX9_painted cX9_painted 2 (Option.some FieldType.int) 1 := ⟨ml_RL_58, im_X9_painted, se_X9_painted, ⟨in_RX9, co_X9_painted, by decide +kernel⟩⟩
theorem cw_RX9_147 : CWV RX9 147 yX2_boxAt cX2_boxAt 2 (Option.some FieldType.int) 1 := ⟨ml_RX9_147, im_X2_boxAt, se_X2_boxAt, ⟨in_RX2, co_X2_boxAt, by decide +kernel⟩⟩
theorem cw_RL_89 : CWV RL 89 yX9_percentageFor cX9_percentageFor 3 (Option.some FieldType.int) 2 := ⟨ml_RL_89, im_X9_percentageFor, se_X9_percentageFor, ⟨in_RX9, co_X9_percentageFor, by decide +kernel⟩⟩
theorem cw_RX9_184 : CWS RX9 184 yX9_faultOfBudget cX9_faultOfBudget 2 (Option.some FieldType.int) 2 := ⟨ml_RX9_184, sm_X9_faultOfBudget, ⟨in_RX9, co_X9_faultOfBudget, by decide +kernel⟩⟩
theorem cw_RX9_187 : CWV RX9 187 yX2_percentageWithin cX2_percentageWithin 4 (Option.some FieldType.int) 2 := ⟨ml_RX9_187, im_X2_percentageWithin, se_X2_percentageWithin, ⟨in_RX2, co_X2_percentageWithin, by decide +kernel⟩⟩
theorem cw_RL_176 : CWS RL 176 yL_edges cL_edges 16 (Option.some FieldType.boolean) 1 := ⟨ml_RL_176, sm_L_edges, ⟨in_RL, co_L_edges, by decide +kernel⟩⟩
theorem cw_RL_189 : CWS RL 189 yL_images cL_images 16 (Option.some FieldType.boolean) 2 := ⟨ml_RL_189, sm_L_images, ⟨in_RL, co_L_images, by decide +kernel⟩⟩
theorem cw_RL_70 : CWV RL 70 yX9_shade cX9_shade 4 (Option.some FieldType.int) 3 := ⟨ml_RL_70, im_X9_shade, se_X9_shade, ⟨in_RX9, co_X9_shade, by decide +kernel⟩⟩
theorem cw_RX9_161 : CWV RX9 161 yX5_faultOfCell cX5_faultOfCell 3 (Option.some FieldType.int) 2 := ⟨ml_RX9_161, im_X5_faultOfCell, se_X5_faultOfCell, ⟨in_RX5, co_X5_faultOfCell, by decide +kernel⟩⟩
theorem cw_RX9_164 : CWV RX9 164 yX7_shadeAt cX7_shadeAt 6 (Option.some FieldType.int) 3 := ⟨ml_RX9_164, im_X7_shadeAt, se_X7_shadeAt, ⟨in_RX7, co_X7_shadeAt, by decide +kernel⟩⟩
theorem cw_RX7_162 : CWV RX7 162 yX2_frontBox cX2_frontBox 7 (Option.some FieldType.int) 3 := ⟨ml_RX7_162, im_X2_frontBox, se_X2_frontBox, ⟨in_RX2, co_X2_frontBox, by decide +kernel⟩⟩
theorem cw_RX2_131 : CWV RX2 131 yX2_boxAt cX2_boxAt 2 (Option.some FieldType.int) 1 := ⟨ml_RX2_131, im_X2_boxAt, se_X2_boxAt, ⟨in_RX2, co_X2_boxAt, by decide +kernel⟩⟩
theorem cw_RX2_135 : CWV RX2 135 yX2_inRow cX2_inRow 3 (Option.some FieldType.boolean) 2 := ⟨ml_RX2_135, im_X2_inRow, se_X2_inRow, ⟨in_RX2, co_X2_inRow, by decide +kernel⟩⟩
theorem cw_RX2_138 : CWV RX2 138 yX2_column cX2_column 3 (Option.some FieldType.int) 2 := ⟨ml_RX2_138, im_X2_column, se_X2_column, ⟨in_RX2, co_X2_column, by decide +kernel⟩⟩
theorem cw_RX7_165 : CWV RX7 165 yX6_has cX6_has 2 (Option.some FieldType.boolean) 1 := ⟨ml_RX7_165, im_X6_has, se_X6_has, ⟨in_RX6, co_X6_has, by decide +kernel⟩⟩
theorem cw_RL_77 : CWV RL 77 yX9_ghost cX9_ghost 3 (Option.some FieldType.int) 2 := ⟨ml_RL_77, im_X9_ghost, se_X9_ghost, ⟨in_RX9, co_X9_ghost, by decide +kernel⟩⟩
theorem cw_RX9_171 : CWV RX9 171 yX7_ghostAt cX7_ghostAt 3 (Option.some FieldType.int) 2 := ⟨ml_RX9_171, im_X7_ghostAt, se_X7_ghostAt, ⟨in_RX7, co_X7_ghostAt, by decide +kernel⟩⟩
theorem cw_RX7_171 : CWV RX7 171 yX7_shadeAt cX7_shadeAt 6 (Option.some FieldType.int) 3 := ⟨ml_RX7_171, im_X7_shadeAt, se_X7_shadeAt, ⟨in_RX7, co_X7_shadeAt, by decide +kernel⟩⟩
theorem cw_RL_74 : CWV RL 74 yX9_shown cX9_shown 4 (Option.some FieldType.int) 3 := ⟨ml_RL_74, im_X9_shown, se_X9_shown, ⟨in_RX9, co_X9_shown, by decide +kernel⟩⟩
theorem cw_RX9_168 : CWV RX9 168 yX2_frontBox cX2_frontBox 7 (Option.some FieldType.int) 3 := ⟨ml_RX9_168, im_X2_frontBox, se_X2_frontBox, ⟨in_RX2, co_X2_frontBox, by decide +kernel⟩⟩
theorem cw_RL_83 : CWV RL 83 yX9_meanGhost cX9_meanGhost 2 (Option.some FieldType.double) 1 := ⟨ml_RL_83, im_X9_meanGhost, se_X9_meanGhost, ⟨in_RX9, co_X9_meanGhost, by decide +kernel⟩⟩
theorem cw_RX9_177 : CWV RX9 177 yX7_sumOfGhosts cX7_sumOfGhosts 4 (Option.some FieldType.int) 1 := ⟨ml_RX9_177, im_X7_sumOfGhosts, se_X7_sumOfGhosts, ⟨in_RX7, co_X7_sumOfGhosts, by decide +kernel⟩⟩
theorem cw_RL_166 : CWS RL 166 yL_refuses cL_refuses 4 (Option.some FieldType.boolean) 1 := ⟨ml_RL_166, sm_L_refuses, ⟨in_RL, co_L_refuses, by decide +kernel⟩⟩
theorem cw_RL_95 : CWV RL 95 yX9_ghostsWithout cX9_ghostsWithout 3 (Option.some FieldType.int) 2 := ⟨ml_RL_95, im_X9_ghostsWithout, se_X9_ghostsWithout, ⟨in_RX9, co_X9_ghostsWithout, by decide +kernel⟩⟩
theorem cw_RX9_215 : CWV RX9 215 yX5_copyFrom cX5_copyFrom 2 none 1 := ⟨ml_RX9_215, im_X5_copyFrom, se_X5_copyFrom, ⟨in_RX5, co_X5_copyFrom, by decide +kernel⟩⟩
theorem cw_RL_98 : CWV RL 98 yX9_type cX9_type 2 (Option.some FieldType.int) 1 := ⟨ml_RL_98, im_X9_type, se_X9_type, ⟨in_RX9, co_X9_type, by decide +kernel⟩⟩
theorem cw_RX9_224 : CWV RX9 224 yX4_append cX4_append 2 (Option.some FieldType.int) 1 := ⟨ml_RX9_224, im_X4_append, se_X4_append, ⟨in_RX4, co_X4_append, by decide +kernel⟩⟩
