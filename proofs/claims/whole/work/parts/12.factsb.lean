theorem nw_L_7 : Cond.classLink RL 7 RX11 ∈ lw_g ∧ Cond.instantiable RX11 11 ∈ lw_g ∧ Cond.initialized RX11 ∈ lw_g := ⟨a_in 72 (by decide +kernel) rfl, a_in 73 (by decide +kernel) rfl, a_in 55 (by decide +kernel) rfl⟩
theorem kl_L_7 : Cond.classLink RL 7 "BellWaves" ∈ lw_g := a_in 72 (by decide +kernel) rfl
theorem lk_L_9 : Cond.methodLink RL 9 mX11_init.2.1 ∈ lw_g := a_in 74 (by decide +kernel) rfl
theorem ob_X11_1 : Cond.methodLink RX11 1 Lib.objectInit ∈ lw_g ∧ Cond.instanceMethod Lib.objectInit ∈ lw_g ∧ Cond.code Lib.objectInit ⟨#[0xb1]⟩ 1 none ∈ lw_g := ⟨a_in 77 (by decide +kernel) rfl, a_in 78 (by decide +kernel) rfl, a_in 79 (by decide +kernel) rfl⟩
theorem nw_X11_7 : Cond.classLink RX11 7 RX0 ∈ lw_g ∧ Cond.instantiable RX0 9 ∈ lw_g ∧ Cond.initialized RX0 ∈ lw_g := ⟨a_in 80 (by decide +kernel) rfl, a_in 81 (by decide +kernel) rfl, a_in 56 (by decide +kernel) rfl⟩
theorem kl_X11_7 : Cond.classLink RX11 7 "BellWaves$District" ∈ lw_g := a_in 80 (by decide +kernel) rfl
theorem lk_X11_9 : Cond.methodLink RX11 9 mX0_init.2.1 ∈ lw_g := a_in 82 (by decide +kernel) rfl
theorem ob_X0_3 : Cond.methodLink RX0 3 Lib.objectInit ∈ lw_g ∧ Cond.instanceMethod Lib.objectInit ∈ lw_g ∧ Cond.code Lib.objectInit ⟨#[0xb1]⟩ 1 none ∈ lw_g := ⟨a_in 85 (by decide +kernel) rfl, a_in 78 (by decide +kernel) rfl, a_in 79 (by decide +kernel) rfl⟩
theorem nw_X0_9 : Cond.classLink RX0 9 RX10 ∈ lw_g ∧ Cond.instantiable RX10 9 ∈ lw_g ∧ Cond.initialized RX10 ∈ lw_g := ⟨a_in 86 (by decide +kernel) rfl, a_in 87 (by decide +kernel) rfl, a_in 57 (by decide +kernel) rfl⟩
theorem kl_X0_9 : Cond.classLink RX0 9 "BellWaves$Town" ∈ lw_g := a_in 86 (by decide +kernel) rfl
theorem ln_X0_11 : Cond.methodLinkNest RX0 11 mX10_init.2.1 "BellWaves" ∈ lw_n := a_inN 88 (by decide +kernel) rfl
theorem ob_X10_3 : Cond.methodLink RX10 3 Lib.objectInit ∈ lw_g ∧ Cond.instanceMethod Lib.objectInit ∈ lw_g ∧ Cond.code Lib.objectInit ⟨#[0xb1]⟩ 1 none ∈ lw_g := ⟨a_in 91 (by decide +kernel) rfl, a_in 78 (by decide +kernel) rfl, a_in 79 (by decide +kernel) rfl⟩
theorem kl_X10_25 : Cond.classLink RX10 25 "[[I" ∈ lw_g := a_in 92 (by decide +kernel) rfl
theorem fp_X10_33 : a_fw RX10 33 10 9 0 false .int := ⟨RX10, TX10, cf_10, by decide, a_in 94 (by decide +kernel) rfl, rfl, by decide +kernel, fun h => by cases h⟩
theorem fw_X10_33 : a_fr RX10 33 10 9 0 := a_fw.r fp_X10_33
theorem fp_X11_55 : a_fw RX11 55 10 9 0 false .int := ⟨RX10, TX10, cf_10, by decide, a_in 95 (by decide +kernel) rfl, rfl, by decide +kernel, fun h => by cases h⟩
theorem fw_X11_55 : a_fr RX11 55 10 9 0 := a_fw.r fp_X11_55
theorem fp_X11_79 : a_fw RX11 79 10 9 1 false .int := ⟨RX10, TX10, cf_10, by decide, a_in 96 (by decide +kernel) rfl, rfl, by decide +kernel, fun h => by cases h⟩
theorem fw_X11_79 : a_fr RX11 79 10 9 1 := a_fw.r fp_X11_79
theorem fp_X10_45 : a_fw RX10 45 10 9 1 false .int := ⟨RX10, TX10, cf_10, by decide, a_in 97 (by decide +kernel) rfl, rfl, by decide +kernel, fun h => by cases h⟩
theorem fw_X10_45 : a_fr RX10 45 10 9 1 := a_fw.r fp_X10_45
theorem fp_X10_9 : a_fw RX10 9 10 9 2 true (.array .int) := ⟨RX10, TX10, cf_10, by decide, a_in 98 (by decide +kernel) rfl, rfl, by decide +kernel, fun _ => rfl⟩
theorem fw_X10_9 : a_fr RX10 9 10 9 2 := a_fw.r fp_X10_9
theorem fp_X10_15 : a_fw RX10 15 10 9 3 true (.array .int) := ⟨RX10, TX10, cf_10, by decide, a_in 99 (by decide +kernel) rfl, rfl, by decide +kernel, fun _ => rfl⟩
theorem fw_X10_15 : a_fr RX10 15 10 9 3 := a_fw.r fp_X10_15
theorem fp_X10_18 : a_fw RX10 18 10 9 4 true (.array .int) := ⟨RX10, TX10, cf_10, by decide, a_in 100 (by decide +kernel) rfl, rfl, by decide +kernel, fun _ => rfl⟩
theorem fw_X10_18 : a_fr RX10 18 10 9 4 := a_fw.r fp_X10_18
theorem fp_X10_21 : a_fw RX10 21 10 9 5 true (.array .boolean) := ⟨RX10, TX10, cf_10, by decide, a_in 101 (by decide +kernel) rfl, rfl, by decide +kernel, fun _ => rfl⟩
theorem fw_X10_21 : a_fr RX10 21 10 9 5 := a_fw.r fp_X10_21
theorem fp_X10_27 : a_fw RX10 27 10 9 6 true (.array (.array .int)) := ⟨RX10, TX10, cf_10, by decide, a_in 102 (by decide +kernel) rfl, rfl, by decide +kernel, fun _ => rfl⟩
theorem fw_X10_27 : a_fr RX10 27 10 9 6 := a_fw.r fp_X10_27
theorem fp_X10_30 : a_fw RX10 30 10 9 7 true (.array (.array .int)) := ⟨RX10, TX10, cf_10, by decide, a_in 103 (by decide +kernel) rfl, rfl, by decide +kernel, fun _ => rfl⟩
theorem fw_X10_30 : a_fr RX10 30 10 9 7 := a_fw.r fp_X10_30
theorem fp_X10_41 : a_fw RX10 41 10 9 8 false .boolean := ⟨RX10, TX10, cf_10, by decide, a_in 104 (by decide +kernel) rfl, rfl, by decide +kernel, fun h => by cases h⟩
theorem fw_X10_41 : a_fr RX10 41 10 9 8 := a_fw.r fp_X10_41
theorem ar_i : Cond.arrayClass .int ∈ lw_g := a_in 124 (by decide +kernel) rfl
theorem ar_z : Cond.arrayClass .boolean ∈ lw_g := a_in 125 (by decide +kernel) rfl
theorem nw_X0_18 : Cond.classLink RX0 18 RX7 ∈ lw_g ∧ Cond.instantiable RX7 8 ∈ lw_g ∧ Cond.initialized RX7 ∈ lw_g := ⟨a_in 126 (by decide +kernel) rfl, a_in 130 (by decide +kernel) rfl, a_in 58 (by decide +kernel) rfl⟩
theorem kl_X0_18 : Cond.classLink RX0 18 "BellWaves$School" ∈ lw_g := a_in 126 (by decide +kernel) rfl
theorem nw_X0_28 : Cond.classLink RX0 28 RX9 ∈ lw_g ∧ Cond.instantiable RX9 4 ∈ lw_g ∧ Cond.initialized RX9 ∈ lw_g := ⟨a_in 128 (by decide +kernel) rfl, a_in 184 (by decide +kernel) rfl, a_in 59 (by decide +kernel) rfl⟩
theorem kl_X0_28 : Cond.classLink RX0 28 "BellWaves$Stop" ∈ lw_g := a_in 128 (by decide +kernel) rfl
theorem ln_X0_41 : Cond.methodLinkNest RX0 41 mX7_init.2.1 "BellWaves" ∈ lw_n := a_inN 131 (by decide +kernel) rfl
theorem ob_X7_3 : Cond.methodLink RX7 3 Lib.objectInit ∈ lw_g ∧ Cond.instanceMethod Lib.objectInit ∈ lw_g ∧ Cond.code Lib.objectInit ⟨#[0xb1]⟩ 1 none ∈ lw_g := ⟨a_in 134 (by decide +kernel) rfl, a_in 78 (by decide +kernel) rfl, a_in 79 (by decide +kernel) rfl⟩
theorem fp_X2_41 : a_fw RX2 41 7 8 0 false .int := ⟨RX7, TX7, cf_7, by decide, a_in 135 (by decide +kernel) rfl, rfl, by decide +kernel, fun h => by cases h⟩
theorem fw_X2_41 : a_fr RX2 41 7 8 0 := a_fw.r fp_X2_41
theorem fp_X0_53 : a_fw RX0 53 7 8 0 false .int := ⟨RX7, TX7, cf_7, by decide, a_in 136 (by decide +kernel) rfl, rfl, by decide +kernel, fun h => by cases h⟩
theorem fw_X0_53 : a_fr RX0 53 7 8 0 := a_fw.r fp_X0_53
theorem fp_X11_113 : a_fw RX11 113 7 8 0 false .int := ⟨RX7, TX7, cf_7, by decide, a_in 137 (by decide +kernel) rfl, rfl, by decide +kernel, fun h => by cases h⟩
theorem fw_X11_113 : a_fr RX11 113 7 8 0 := a_fw.r fp_X11_113
theorem fp_X1_156 : a_fw RX1 156 7 8 0 false .int := ⟨RX7, TX7, cf_7, by decide, a_in 138 (by decide +kernel) rfl, rfl, by decide +kernel, fun h => by cases h⟩
theorem fw_X1_156 : a_fr RX1 156 7 8 0 := a_fw.r fp_X1_156
theorem fp_X4_73 : a_fw RX4 73 7 8 1 false .int := ⟨RX7, TX7, cf_7, by decide, a_in 139 (by decide +kernel) rfl, rfl, by decide +kernel, fun h => by cases h⟩
theorem fw_X4_73 : a_fr RX4 73 7 8 1 := a_fw.r fp_X4_73
theorem fp_X5_101 : a_fw RX5 101 7 8 1 false .int := ⟨RX7, TX7, cf_7, by decide, a_in 140 (by decide +kernel) rfl, rfl, by decide +kernel, fun h => by cases h⟩
theorem fw_X5_101 : a_fr RX5 101 7 8 1 := a_fw.r fp_X5_101
theorem fp_X1_85 : a_fw RX1 85 7 8 1 false .int := ⟨RX7, TX7, cf_7, by decide, a_in 141 (by decide +kernel) rfl, rfl, by decide +kernel, fun h => by cases h⟩
theorem fw_X1_85 : a_fr RX1 85 7 8 1 := a_fw.r fp_X1_85
theorem fp_X0_56 : a_fw RX0 56 7 8 1 false .int := ⟨RX7, TX7, cf_7, by decide, a_in 142 (by decide +kernel) rfl, rfl, by decide +kernel, fun h => by cases h⟩
theorem fw_X0_56 : a_fr RX0 56 7 8 1 := a_fw.r fp_X0_56
theorem fp_X11_123 : a_fw RX11 123 7 8 1 false .int := ⟨RX7, TX7, cf_7, by decide, a_in 143 (by decide +kernel) rfl, rfl, by decide +kernel, fun h => by cases h⟩
theorem fw_X11_123 : a_fr RX11 123 7 8 1 := a_fw.r fp_X11_123
theorem fp_X0_59 : a_fw RX0 59 7 8 2 false .int := ⟨RX7, TX7, cf_7, by decide, a_in 144 (by decide +kernel) rfl, rfl, by decide +kernel, fun h => by cases h⟩
theorem fw_X0_59 : a_fr RX0 59 7 8 2 := a_fw.r fp_X0_59
theorem fp_X11_130 : a_fw RX11 130 7 8 2 false .int := ⟨RX7, TX7, cf_7, by decide, a_in 145 (by decide +kernel) rfl, rfl, by decide +kernel, fun h => by cases h⟩
theorem fw_X11_130 : a_fr RX11 130 7 8 2 := a_fw.r fp_X11_130
theorem fp_X1_57 : a_fw RX1 57 7 8 3 false .boolean := ⟨RX7, TX7, cf_7, by decide, a_in 146 (by decide +kernel) rfl, rfl, by decide +kernel, fun h => by cases h⟩
theorem fw_X1_57 : a_fr RX1 57 7 8 3 := a_fw.r fp_X1_57
theorem fp_X5_117 : a_fw RX5 117 7 8 3 false .boolean := ⟨RX7, TX7, cf_7, by decide, a_in 147 (by decide +kernel) rfl, rfl, by decide +kernel, fun h => by cases h⟩
theorem fw_X5_117 : a_fr RX5 117 7 8 3 := a_fw.r fp_X5_117
theorem fp_X11_184 : a_fw RX11 184 7 8 3 false .boolean := ⟨RX7, TX7, cf_7, by decide, a_in 148 (by decide +kernel) rfl, rfl, by decide +kernel, fun h => by cases h⟩
theorem fw_X11_184 : a_fr RX11 184 7 8 3 := a_fw.r fp_X11_184
theorem fp_X1_62 : a_fw RX1 62 7 8 4 false .int := ⟨RX7, TX7, cf_7, by decide, a_in 149 (by decide +kernel) rfl, rfl, by decide +kernel, fun h => by cases h⟩
theorem fw_X1_62 : a_fr RX1 62 7 8 4 := a_fw.r fp_X1_62
theorem fp_X5_121 : a_fw RX5 121 7 8 4 false .int := ⟨RX7, TX7, cf_7, by decide, a_in 150 (by decide +kernel) rfl, rfl, by decide +kernel, fun h => by cases h⟩
theorem fw_X5_121 : a_fr RX5 121 7 8 4 := a_fw.r fp_X5_121
theorem fp_X0_87 : a_fw RX0 87 7 8 4 false .int := ⟨RX7, TX7, cf_7, by decide, a_in 151 (by decide +kernel) rfl, rfl, by decide +kernel, fun h => by cases h⟩
theorem fw_X0_87 : a_fr RX0 87 7 8 4 := a_fw.r fp_X0_87
theorem fp_X11_187 : a_fw RX11 187 7 8 4 false .int := ⟨RX7, TX7, cf_7, by decide, a_in 152 (by decide +kernel) rfl, rfl, by decide +kernel, fun h => by cases h⟩
theorem fw_X11_187 : a_fr RX11 187 7 8 4 := a_fw.r fp_X11_187
theorem fp_X7_9 : a_fw RX7 9 7 8 5 true (.array .int) := ⟨RX7, TX7, cf_7, by decide, a_in 153 (by decide +kernel) rfl, rfl, by decide +kernel, fun _ => rfl⟩
theorem fw_X7_9 : a_fr RX7 9 7 8 5 := a_fw.r fp_X7_9
theorem fw_X1_105 : a_fr RX1 105 7 8 5 := ⟨RX7, TX7, cf_7, by decide, a_in 154 (by decide +kernel) rfl⟩
theorem fw_X5_124 : a_fr RX5 124 7 8 5 := ⟨RX7, TX7, cf_7, by decide, a_in 155 (by decide +kernel) rfl⟩
theorem fw_X0_81 : a_fr RX0 81 7 8 5 := ⟨RX7, TX7, cf_7, by decide, a_in 156 (by decide +kernel) rfl⟩
theorem fw_X11_199 : a_fr RX11 199 7 8 5 := ⟨RX7, TX7, cf_7, by decide, a_in 157 (by decide +kernel) rfl⟩
theorem fp_X7_15 : a_fw RX7 15 7 8 6 true (.array .int) := ⟨RX7, TX7, cf_7, by decide, a_in 158 (by decide +kernel) rfl, rfl, by decide +kernel, fun _ => rfl⟩
theorem fw_X7_15 : a_fr RX7 15 7 8 6 := a_fw.r fp_X7_15
theorem fw_X1_102 : a_fr RX1 102 7 8 6 := ⟨RX7, TX7, cf_7, by decide, a_in 159 (by decide +kernel) rfl⟩
theorem fw_X5_134 : a_fr RX5 134 7 8 6 := ⟨RX7, TX7, cf_7, by decide, a_in 160 (by decide +kernel) rfl⟩
theorem fw_X0_84 : a_fr RX0 84 7 8 6 := ⟨RX7, TX7, cf_7, by decide, a_in 161 (by decide +kernel) rfl⟩
theorem fw_X11_196 : a_fr RX11 196 7 8 6 := ⟨RX7, TX7, cf_7, by decide, a_in 162 (by decide +kernel) rfl⟩
theorem fp_X7_18 : a_fw RX7 18 7 8 7 true (.array .int) := ⟨RX7, TX7, cf_7, by decide, a_in 163 (by decide +kernel) rfl, rfl, by decide +kernel, fun _ => rfl⟩
theorem fw_X7_18 : a_fr RX7 18 7 8 7 := a_fw.r fp_X7_18
theorem fw_X1_111 : a_fr RX1 111 7 8 7 := ⟨RX7, TX7, cf_7, by decide, a_in 164 (by decide +kernel) rfl⟩
theorem fw_X5_137 : a_fr RX5 137 7 8 7 := ⟨RX7, TX7, cf_7, by decide, a_in 165 (by decide +kernel) rfl⟩
theorem fw_X11_190 : a_fr RX11 190 7 8 7 := ⟨RX7, TX7, cf_7, by decide, a_in 166 (by decide +kernel) rfl⟩
theorem ln_X0_42 : Cond.methodLinkNest RX0 42 mX9_init.2.1 "BellWaves" ∈ lw_n := a_inN 185 (by decide +kernel) rfl
theorem ob_X9_1 : Cond.methodLink RX9 1 Lib.objectInit ∈ lw_g ∧ Cond.instanceMethod Lib.objectInit ∈ lw_g ∧ Cond.code Lib.objectInit ⟨#[0xb1]⟩ 1 none ∈ lw_g := ⟨a_in 188 (by decide +kernel) rfl, a_in 78 (by decide +kernel) rfl, a_in 79 (by decide +kernel) rfl⟩
theorem fp_X5_91 : a_fw RX5 91 9 4 0 false .int := ⟨RX9, TX9, cf_9, by decide, a_in 189 (by decide +kernel) rfl, rfl, by decide +kernel, fun h => by cases h⟩
theorem fw_X5_91 : a_fr RX5 91 9 4 0 := a_fw.r fp_X5_91
theorem fp_X0_62 : a_fw RX0 62 9 4 0 false .int := ⟨RX9, TX9, cf_9, by decide, a_in 190 (by decide +kernel) rfl, rfl, by decide +kernel, fun h => by cases h⟩
theorem fw_X0_62 : a_fr RX0 62 9 4 0 := a_fw.r fp_X0_62
theorem fp_X11_202 : a_fw RX11 202 9 4 0 false .int := ⟨RX9, TX9, cf_9, by decide, a_in 191 (by decide +kernel) rfl, rfl, by decide +kernel, fun h => by cases h⟩
theorem fw_X11_202 : a_fr RX11 202 9 4 0 := a_fw.r fp_X11_202
theorem fp_X5_98 : a_fw RX5 98 9 4 1 false .int := ⟨RX9, TX9, cf_9, by decide, a_in 192 (by decide +kernel) rfl, rfl, by decide +kernel, fun h => by cases h⟩
theorem fw_X5_98 : a_fr RX5 98 9 4 1 := a_fw.r fp_X5_98
theorem fp_X0_65 : a_fw RX0 65 9 4 1 false .int := ⟨RX9, TX9, cf_9, by decide, a_in 193 (by decide +kernel) rfl, rfl, by decide +kernel, fun h => by cases h⟩
theorem fw_X0_65 : a_fr RX0 65 9 4 1 := a_fw.r fp_X0_65
theorem fp_X1_108 : a_fw RX1 108 9 4 1 false .int := ⟨RX9, TX9, cf_9, by decide, a_in 194 (by decide +kernel) rfl, rfl, by decide +kernel, fun h => by cases h⟩
theorem fw_X1_108 : a_fr RX1 108 9 4 1 := a_fw.r fp_X1_108
theorem fp_X5_96 : a_fw RX5 96 9 4 2 false .int := ⟨RX9, TX9, cf_9, by decide, a_in 195 (by decide +kernel) rfl, rfl, by decide +kernel, fun h => by cases h⟩
theorem fw_X5_96 : a_fr RX5 96 9 4 2 := a_fw.r fp_X5_96
theorem fp_X0_66 : a_fw RX0 66 9 4 2 false .int := ⟨RX9, TX9, cf_9, by decide, a_in 196 (by decide +kernel) rfl, rfl, by decide +kernel, fun h => by cases h⟩
theorem fw_X0_66 : a_fr RX0 66 9 4 2 := a_fw.r fp_X0_66
theorem fp_X1_122 : a_fw RX1 122 9 4 2 false .int := ⟨RX9, TX9, cf_9, by decide, a_in 197 (by decide +kernel) rfl, rfl, by decide +kernel, fun h => by cases h⟩
theorem fw_X1_122 : a_fr RX1 122 9 4 2 := a_fw.r fp_X1_122
theorem fp_X11_163 : a_fw RX11 163 9 4 2 false .int := ⟨RX9, TX9, cf_9, by decide, a_in 198 (by decide +kernel) rfl, rfl, by decide +kernel, fun h => by cases h⟩
theorem fw_X11_163 : a_fr RX11 163 9 4 2 := a_fw.r fp_X11_163
theorem fp_X0_69 : a_fw RX0 69 9 4 3 false .int := ⟨RX9, TX9, cf_9, by decide, a_in 199 (by decide +kernel) rfl, rfl, by decide +kernel, fun h => by cases h⟩
theorem fw_X0_69 : a_fr RX0 69 9 4 3 := a_fw.r fp_X0_69
theorem fp_X0_12 : a_fw RX0 12 0 9 0 true (.object "BellWaves$Town") := ⟨RX0, TX0, cf_0, by decide, a_in 209 (by decide +kernel) rfl, rfl, by decide +kernel, fun _ => rfl⟩
theorem fw_X0_12 : a_fr RX0 12 0 9 0 := a_fw.r fp_X0_12
theorem fw_X4_15 : a_fr RX4 15 0 9 0 := ⟨RX0, TX0, cf_0, by decide, a_in 210 (by decide +kernel) rfl⟩
theorem fw_X11_51 : a_fr RX11 51 0 9 0 := ⟨RX0, TX0, cf_0, by decide, a_in 211 (by decide +kernel) rfl⟩
theorem fw_X5_74 : a_fr RX5 74 0 9 0 := ⟨RX0, TX0, cf_0, by decide, a_in 212 (by decide +kernel) rfl⟩
theorem fw_X1_71 : a_fr RX1 71 0 9 0 := ⟨RX0, TX0, cf_0, by decide, a_in 213 (by decide +kernel) rfl⟩
theorem fp_X0_20 : a_fw RX0 20 0 9 1 true (.array (.object "BellWaves$School")) := ⟨RX0, TX0, cf_0, by decide, a_in 214 (by decide +kernel) rfl, rfl, by decide +kernel, fun _ => rfl⟩
theorem fw_X0_20 : a_fr RX0 20 0 9 1 := a_fw.r fp_X0_20
theorem fw_X2_38 : a_fr RX2 38 0 9 1 := ⟨RX0, TX0, cf_0, by decide, a_in 215 (by decide +kernel) rfl⟩
theorem fw_X5_66 : a_fr RX5 66 0 9 1 := ⟨RX0, TX0, cf_0, by decide, a_in 216 (by decide +kernel) rfl⟩
theorem fw_X1_53 : a_fr RX1 53 0 9 1 := ⟨RX0, TX0, cf_0, by decide, a_in 217 (by decide +kernel) rfl⟩
theorem fw_X11_109 : a_fr RX11 109 0 9 1 := ⟨RX0, TX0, cf_0, by decide, a_in 218 (by decide +kernel) rfl⟩
theorem fp_X0_24 : a_fw RX0 24 0 9 2 true (.array .int) := ⟨RX0, TX0, cf_0, by decide, a_in 219 (by decide +kernel) rfl, rfl, by decide +kernel, fun _ => rfl⟩
theorem fw_X0_24 : a_fr RX0 24 0 9 2 := a_fw.r fp_X0_24
theorem fw_X11_126 : a_fr RX11 126 0 9 2 := ⟨RX0, TX0, cf_0, by decide, a_in 220 (by decide +kernel) rfl⟩
theorem fp_X0_30 : a_fw RX0 30 0 9 3 true (.array (.object "BellWaves$Stop")) := ⟨RX0, TX0, cf_0, by decide, a_in 221 (by decide +kernel) rfl, rfl, by decide +kernel, fun _ => rfl⟩
theorem fw_X0_30 : a_fr RX0 30 0 9 3 := a_fw.r fp_X0_30
theorem fw_X5_87 : a_fr RX5 87 0 9 3 := ⟨RX0, TX0, cf_0, by decide, a_in 222 (by decide +kernel) rfl⟩
theorem fw_X1_98 : a_fr RX1 98 0 9 3 := ⟨RX0, TX0, cf_0, by decide, a_in 223 (by decide +kernel) rfl⟩
theorem fw_X11_159 : a_fr RX11 159 0 9 3 := ⟨RX0, TX0, cf_0, by decide, a_in 224 (by decide +kernel) rfl⟩
theorem fp_X2_29 : a_fw RX2 29 0 9 4 false .int := ⟨RX0, TX0, cf_0, by decide, a_in 225 (by decide +kernel) rfl, rfl, by decide +kernel, fun h => by cases h⟩
theorem fw_X2_29 : a_fr RX2 29 0 9 4 := a_fw.r fp_X2_29
theorem fp_X0_43 : a_fw RX0 43 0 9 4 false .int := ⟨RX0, TX0, cf_0, by decide, a_in 226 (by decide +kernel) rfl, rfl, by decide +kernel, fun h => by cases h⟩
theorem fw_X0_43 : a_fr RX0 43 0 9 4 := a_fw.r fp_X0_43
theorem fp_X1_48 : a_fw RX1 48 0 9 4 false .int := ⟨RX0, TX0, cf_0, by decide, a_in 227 (by decide +kernel) rfl, rfl, by decide +kernel, fun h => by cases h⟩
theorem fw_X1_48 : a_fr RX1 48 0 9 4 := a_fw.r fp_X1_48
theorem fp_X11_99 : a_fw RX11 99 0 9 4 false .int := ⟨RX0, TX0, cf_0, by decide, a_in 228 (by decide +kernel) rfl, rfl, by decide +kernel, fun h => by cases h⟩
theorem fw_X11_99 : a_fr RX11 99 0 9 4 := a_fw.r fp_X11_99
theorem fp_X0_50 : a_fw RX0 50 0 9 5 false .int := ⟨RX0, TX0, cf_0, by decide, a_in 229 (by decide +kernel) rfl, rfl, by decide +kernel, fun h => by cases h⟩
theorem fw_X0_50 : a_fr RX0 50 0 9 5 := a_fw.r fp_X0_50
theorem fp_X5_84 : a_fw RX5 84 0 9 5 false .int := ⟨RX0, TX0, cf_0, by decide, a_in 230 (by decide +kernel) rfl, rfl, by decide +kernel, fun h => by cases h⟩
theorem fw_X5_84 : a_fr RX5 84 0 9 5 := a_fw.r fp_X5_84
theorem fp_X11_149 : a_fw RX11 149 0 9 5 false .int := ⟨RX0, TX0, cf_0, by decide, a_in 231 (by decide +kernel) rfl, rfl, by decide +kernel, fun h => by cases h⟩
theorem fw_X11_149 : a_fr RX11 149 0 9 5 := a_fw.r fp_X11_149
theorem fp_X0_34 : a_fw RX0 34 0 9 6 false .int := ⟨RX0, TX0, cf_0, by decide, a_in 232 (by decide +kernel) rfl, rfl, by decide +kernel, fun h => by cases h⟩
theorem fw_X0_34 : a_fr RX0 34 0 9 6 := a_fw.r fp_X0_34
theorem fp_X5_51 : a_fw RX5 51 0 9 6 false .int := ⟨RX0, TX0, cf_0, by decide, a_in 233 (by decide +kernel) rfl, rfl, by decide +kernel, fun h => by cases h⟩
theorem fw_X5_51 : a_fr RX5 51 0 9 6 := a_fw.r fp_X5_51
theorem fp_X11_172 : a_fw RX11 172 0 9 6 false .int := ⟨RX0, TX0, cf_0, by decide, a_in 234 (by decide +kernel) rfl, rfl, by decide +kernel, fun h => by cases h⟩
theorem fw_X11_172 : a_fr RX11 172 0 9 6 := a_fw.r fp_X11_172
theorem fp_X0_38 : a_fw RX0 38 0 9 7 false .int := ⟨RX0, TX0, cf_0, by decide, a_in 235 (by decide +kernel) rfl, rfl, by decide +kernel, fun h => by cases h⟩
theorem fw_X0_38 : a_fr RX0 38 0 9 7 := a_fw.r fp_X0_38
theorem fp_X11_175 : a_fw RX11 175 0 9 7 false .int := ⟨RX0, TX0, cf_0, by decide, a_in 236 (by decide +kernel) rfl, rfl, by decide +kernel, fun h => by cases h⟩
theorem fw_X11_175 : a_fr RX11 175 0 9 7 := a_fw.r fp_X11_175
theorem fp_X1_92 : a_fw RX1 92 0 9 8 false .int := ⟨RX0, TX0, cf_0, by decide, a_in 237 (by decide +kernel) rfl, rfl, by decide +kernel, fun h => by cases h⟩
theorem fw_X1_92 : a_fr RX1 92 0 9 8 := a_fw.r fp_X1_92
theorem fp_X11_178 : a_fw RX11 178 0 9 8 false .int := ⟨RX0, TX0, cf_0, by decide, a_in 238 (by decide +kernel) rfl, rfl, by decide +kernel, fun h => by cases h⟩
theorem fw_X11_178 : a_fr RX11 178 0 9 8 := a_fw.r fp_X11_178
theorem nw_X11_16 : Cond.classLink RX11 16 RX1 ∈ lw_g ∧ Cond.instantiable RX1 9 ∈ lw_g ∧ Cond.initialized RX1 ∈ lw_g := ⟨a_in 258 (by decide +kernel) rfl, a_in 259 (by decide +kernel) rfl, a_in 60 (by decide +kernel) rfl⟩
theorem kl_X11_16 : Cond.classLink RX11 16 "BellWaves$Fleet" ∈ lw_g := a_in 258 (by decide +kernel) rfl
theorem ln_X11_18 : Cond.methodLinkNest RX11 18 mX1_init.2.1 "BellWaves" ∈ lw_n := a_inN 260 (by decide +kernel) rfl
theorem ob_X1_3 : Cond.methodLink RX1 3 Lib.objectInit ∈ lw_g ∧ Cond.instanceMethod Lib.objectInit ∈ lw_g ∧ Cond.code Lib.objectInit ⟨#[0xb1]⟩ 1 none ∈ lw_g := ⟨a_in 263 (by decide +kernel) rfl, a_in 78 (by decide +kernel) rfl, a_in 79 (by decide +kernel) rfl⟩
theorem kl_X1_21 : Cond.classLink RX1 21 "[[I" ∈ lw_g := a_in 264 (by decide +kernel) rfl
theorem nw_X1_26 : Cond.classLink RX1 26 RX3 ∈ lw_g ∧ Cond.instantiable RX3 6 ∈ lw_g ∧ Cond.initialized RX3 ∈ lw_g := ⟨a_in 265 (by decide +kernel) rfl, a_in 266 (by decide +kernel) rfl, a_in 61 (by decide +kernel) rfl⟩
theorem kl_X1_26 : Cond.classLink RX1 26 "BellWaves$Matcher" ∈ lw_g := a_in 265 (by decide +kernel) rfl
theorem ln_X1_28 : Cond.methodLinkNest RX1 28 mX3_init.2.1 "BellWaves" ∈ lw_n := a_inN 267 (by decide +kernel) rfl
theorem ob_X3_3 : Cond.methodLink RX3 3 Lib.objectInit ∈ lw_g ∧ Cond.instanceMethod Lib.objectInit ∈ lw_g ∧ Cond.code Lib.objectInit ⟨#[0xb1]⟩ 1 none ∈ lw_g := ⟨a_in 270 (by decide +kernel) rfl, a_in 78 (by decide +kernel) rfl, a_in 79 (by decide +kernel) rfl⟩
theorem fp_X3_33 : a_fw RX3 33 3 6 0 false .int := ⟨RX3, TX3, cf_3, by decide, a_in 271 (by decide +kernel) rfl, rfl, by decide +kernel, fun h => by cases h⟩
theorem fw_X3_33 : a_fr RX3 33 3 6 0 := a_fw.r fp_X3_33
theorem fp_X1_138 : a_fw RX1 138 3 6 0 false .int := ⟨RX3, TX3, cf_3, by decide, a_in 272 (by decide +kernel) rfl, rfl, by decide +kernel, fun h => by cases h⟩
theorem fw_X1_138 : a_fr RX1 138 3 6 0 := a_fw.r fp_X1_138
theorem fp_X3_9 : a_fw RX3 9 3 6 1 true (.array .int) := ⟨RX3, TX3, cf_3, by decide, a_in 273 (by decide +kernel) rfl, rfl, by decide +kernel, fun _ => rfl⟩
theorem fw_X3_9 : a_fr RX3 9 3 6 1 := a_fw.r fp_X3_9
theorem fw_X1_132 : a_fr RX1 132 3 6 1 := ⟨RX3, TX3, cf_3, by decide, a_in 274 (by decide +kernel) rfl⟩
theorem fp_X3_15 : a_fw RX3 15 3 6 2 true (.array .int) := ⟨RX3, TX3, cf_3, by decide, a_in 275 (by decide +kernel) rfl, rfl, by decide +kernel, fun _ => rfl⟩
theorem fw_X3_15 : a_fr RX3 15 3 6 2 := a_fw.r fp_X3_15
theorem fp_X3_18 : a_fw RX3 18 3 6 3 true (.array .int) := ⟨RX3, TX3, cf_3, by decide, a_in 276 (by decide +kernel) rfl, rfl, by decide +kernel, fun _ => rfl⟩
theorem fw_X3_18 : a_fr RX3 18 3 6 3 := a_fw.r fp_X3_18
theorem fp_X3_21 : a_fw RX3 21 3 6 4 true (.array .int) := ⟨RX3, TX3, cf_3, by decide, a_in 277 (by decide +kernel) rfl, rfl, by decide +kernel, fun _ => rfl⟩
theorem fw_X3_21 : a_fr RX3 21 3 6 4 := a_fw.r fp_X3_21
theorem fp_X3_24 : a_fw RX3 24 3 6 5 true (.array .int) := ⟨RX3, TX3, cf_3, by decide, a_in 278 (by decide +kernel) rfl, rfl, by decide +kernel, fun _ => rfl⟩
theorem fw_X3_24 : a_fr RX3 24 3 6 5 := a_fw.r fp_X3_24
theorem fp_X1_33 : a_fw RX1 33 1 9 0 false .boolean := ⟨RX1, TX1, cf_1, by decide, a_in 292 (by decide +kernel) rfl, rfl, by decide +kernel, fun h => by cases h⟩
theorem fw_X1_33 : a_fr RX1 33 1 9 0 := a_fw.r fp_X1_33
theorem fp_X11_208 : a_fw RX11 208 1 9 0 false .boolean := ⟨RX1, TX1, cf_1, by decide, a_in 293 (by decide +kernel) rfl, rfl, by decide +kernel, fun h => by cases h⟩
theorem fw_X11_208 : a_fr RX11 208 1 9 0 := a_fw.r fp_X11_208
theorem fp_X1_37 : a_fw RX1 37 1 9 1 false .int := ⟨RX1, TX1, cf_1, by decide, a_in 294 (by decide +kernel) rfl, rfl, by decide +kernel, fun h => by cases h⟩
theorem fw_X1_37 : a_fr RX1 37 1 9 1 := a_fw.r fp_X1_37
theorem fp_X4_27 : a_fw RX4 27 1 9 1 false .int := ⟨RX1, TX1, cf_1, by decide, a_in 295 (by decide +kernel) rfl, rfl, by decide +kernel, fun h => by cases h⟩
theorem fw_X4_27 : a_fr RX4 27 1 9 1 := a_fw.r fp_X4_27
theorem fp_X11_211 : a_fw RX11 211 1 9 1 false .int := ⟨RX1, TX1, cf_1, by decide, a_in 296 (by decide +kernel) rfl, rfl, by decide +kernel, fun h => by cases h⟩
theorem fw_X11_211 : a_fr RX11 211 1 9 1 := a_fw.r fp_X11_211
theorem fp_X2_71 : a_fw RX2 71 1 9 2 false .int := ⟨RX1, TX1, cf_1, by decide, a_in 297 (by decide +kernel) rfl, rfl, by decide +kernel, fun h => by cases h⟩
theorem fw_X2_71 : a_fr RX2 71 1 9 2 := a_fw.r fp_X2_71
theorem fp_X1_45 : a_fw RX1 45 1 9 2 false .int := ⟨RX1, TX1, cf_1, by decide, a_in 298 (by decide +kernel) rfl, rfl, by decide +kernel, fun h => by cases h⟩
theorem fw_X1_45 : a_fr RX1 45 1 9 2 := a_fw.r fp_X1_45
theorem fp_X1_9 : a_fw RX1 9 1 9 3 true (.array .int) := ⟨RX1, TX1, cf_1, by decide, a_in 299 (by decide +kernel) rfl, rfl, by decide +kernel, fun _ => rfl⟩
theorem fw_X1_9 : a_fr RX1 9 1 9 3 := a_fw.r fp_X1_9
theorem fw_X4_42 : a_fr RX4 42 1 9 3 := ⟨RX1, TX1, cf_1, by decide, a_in 300 (by decide +kernel) rfl⟩
theorem fp_X1_15 : a_fw RX1 15 1 9 4 true (.array .int) := ⟨RX1, TX1, cf_1, by decide, a_in 301 (by decide +kernel) rfl, rfl, by decide +kernel, fun _ => rfl⟩
theorem fw_X1_15 : a_fr RX1 15 1 9 4 := a_fw.r fp_X1_15
theorem fw_X4_66 : a_fr RX4 66 1 9 4 := ⟨RX1, TX1, cf_1, by decide, a_in 302 (by decide +kernel) rfl⟩
theorem fp_X1_18 : a_fw RX1 18 1 9 5 true (.array .int) := ⟨RX1, TX1, cf_1, by decide, a_in 303 (by decide +kernel) rfl, rfl, by decide +kernel, fun _ => rfl⟩
theorem fw_X1_18 : a_fr RX1 18 1 9 5 := a_fw.r fp_X1_18
theorem fp_X1_23 : a_fw RX1 23 1 9 6 true (.array (.array .int)) := ⟨RX1, TX1, cf_1, by decide, a_in 304 (by decide +kernel) rfl, rfl, by decide +kernel, fun _ => rfl⟩
theorem fw_X1_23 : a_fr RX1 23 1 9 6 := a_fw.r fp_X1_23
theorem fp_X1_29 : a_fw RX1 29 1 9 7 true (.object "BellWaves$Matcher") := ⟨RX1, TX1, cf_1, by decide, a_in 305 (by decide +kernel) rfl, rfl, by decide +kernel, fun _ => rfl⟩
theorem fw_X1_29 : a_fr RX1 29 1 9 7 := a_fw.r fp_X1_29
theorem fp_X1_135 : a_fw RX1 135 1 9 8 false .int := ⟨RX1, TX1, cf_1, by decide, a_in 306 (by decide +kernel) rfl, rfl, by decide +kernel, fun h => by cases h⟩
theorem fw_X1_135 : a_fr RX1 135 1 9 8 := a_fw.r fp_X1_135
theorem nw_X11_23 : Cond.classLink RX11 23 RX6 ∈ lw_g ∧ Cond.instantiable RX6 6 ∈ lw_g ∧ Cond.initialized RX6 ∈ lw_g := ⟨a_in 326 (by decide +kernel) rfl, a_in 327 (by decide +kernel) rfl, a_in 62 (by decide +kernel) rfl⟩
theorem kl_X11_23 : Cond.classLink RX11 23 "BellWaves$Rules" ∈ lw_g := a_in 326 (by decide +kernel) rfl
theorem ln_X11_25 : Cond.methodLinkNest RX11 25 mX6_init.2.1 "BellWaves" ∈ lw_n := a_inN 328 (by decide +kernel) rfl
theorem ob_X6_3 : Cond.methodLink RX6 3 Lib.objectInit ∈ lw_g ∧ Cond.instanceMethod Lib.objectInit ∈ lw_g ∧ Cond.code Lib.objectInit ⟨#[0xb1]⟩ 1 none ∈ lw_g := ⟨a_in 331 (by decide +kernel) rfl, a_in 78 (by decide +kernel) rfl, a_in 79 (by decide +kernel) rfl⟩
theorem fp_X6_24 : a_fw RX6 24 6 6 0 false .int := ⟨RX6, TX6, cf_6, by decide, a_in 332 (by decide +kernel) rfl, rfl, by decide +kernel, fun h => by cases h⟩
theorem fw_X6_24 : a_fr RX6 24 6 6 0 := a_fw.r fp_X6_24
theorem fp_X11_239 : a_fw RX11 239 6 6 0 false .int := ⟨RX6, TX6, cf_6, by decide, a_in 333 (by decide +kernel) rfl, rfl, by decide +kernel, fun h => by cases h⟩
theorem fw_X11_239 : a_fr RX11 239 6 6 0 := a_fw.r fp_X11_239
theorem fp_X6_40 : a_fw RX6 40 6 6 1 false .int := ⟨RX6, TX6, cf_6, by decide, a_in 334 (by decide +kernel) rfl, rfl, by decide +kernel, fun h => by cases h⟩
theorem fw_X6_40 : a_fr RX6 40 6 6 1 := a_fw.r fp_X6_40
theorem fp_X11_252 : a_fw RX11 252 6 6 1 false .int := ⟨RX6, TX6, cf_6, by decide, a_in 335 (by decide +kernel) rfl, rfl, by decide +kernel, fun h => by cases h⟩
theorem fw_X11_252 : a_fr RX11 252 6 6 1 := a_fw.r fp_X11_252
theorem fp_X6_9 : a_fw RX6 9 6 6 2 true (.array .int) := ⟨RX6, TX6, cf_6, by decide, a_in 336 (by decide +kernel) rfl, rfl, by decide +kernel, fun _ => rfl⟩
theorem fw_X6_9 : a_fr RX6 9 6 6 2 := a_fw.r fp_X6_9
theorem fp_X6_15 : a_fw RX6 15 6 6 3 true (.array .int) := ⟨RX6, TX6, cf_6, by decide, a_in 337 (by decide +kernel) rfl, rfl, by decide +kernel, fun _ => rfl⟩
theorem fw_X6_15 : a_fr RX6 15 6 6 3 := a_fw.r fp_X6_15
theorem fp_X6_18 : a_fw RX6 18 6 6 4 true (.array .int) := ⟨RX6, TX6, cf_6, by decide, a_in 338 (by decide +kernel) rfl, rfl, by decide +kernel, fun _ => rfl⟩
theorem fw_X6_18 : a_fr RX6 18 6 6 4 := a_fw.r fp_X6_18
theorem fp_X6_21 : a_fw RX6 21 6 6 5 true (.array .int) := ⟨RX6, TX6, cf_6, by decide, a_in 339 (by decide +kernel) rfl, rfl, by decide +kernel, fun _ => rfl⟩
theorem fw_X6_21 : a_fr RX6 21 6 6 5 := a_fw.r fp_X6_21
theorem nw_X11_30 : Cond.classLink RX11 30 RX2 ∈ lw_g ∧ Cond.instantiable RX2 7 ∈ lw_g ∧ Cond.initialized RX2 ∈ lw_g := ⟨a_in 353 (by decide +kernel) rfl, a_in 354 (by decide +kernel) rfl, a_in 63 (by decide +kernel) rfl⟩
theorem kl_X11_30 : Cond.classLink RX11 30 "BellWaves$Market" ∈ lw_g := a_in 353 (by decide +kernel) rfl
theorem ln_X11_32 : Cond.methodLinkNest RX11 32 mX2_init.2.1 "BellWaves" ∈ lw_n := a_inN 355 (by decide +kernel) rfl
theorem ob_X2_3 : Cond.methodLink RX2 3 Lib.objectInit ∈ lw_g ∧ Cond.instanceMethod Lib.objectInit ∈ lw_g ∧ Cond.code Lib.objectInit ⟨#[0xb1]⟩ 1 none ∈ lw_g := ⟨a_in 358 (by decide +kernel) rfl, a_in 78 (by decide +kernel) rfl, a_in 79 (by decide +kernel) rfl⟩
theorem kl_X2_21 : Cond.classLink RX2 21 "[[I" ∈ lw_g := a_in 359 (by decide +kernel) rfl
theorem fp_X2_87 : a_fw RX2 87 2 7 0 false .int := ⟨RX2, TX2, cf_2, by decide, a_in 360 (by decide +kernel) rfl, rfl, by decide +kernel, fun h => by cases h⟩
theorem fw_X2_87 : a_fr RX2 87 2 7 0 := a_fw.r fp_X2_87
theorem fp_X11_263 : a_fw RX11 263 2 7 0 false .int := ⟨RX2, TX2, cf_2, by decide, a_in 361 (by decide +kernel) rfl, rfl, by decide +kernel, fun h => by cases h⟩
theorem fw_X11_263 : a_fr RX11 263 2 7 0 := a_fw.r fp_X11_263
theorem fp_X2_35 : a_fw RX2 35 2 7 1 false .int := ⟨RX2, TX2, cf_2, by decide, a_in 362 (by decide +kernel) rfl, rfl, by decide +kernel, fun h => by cases h⟩
theorem fw_X2_35 : a_fr RX2 35 2 7 1 := a_fw.r fp_X2_35
theorem fp_X2_9 : a_fw RX2 9 2 7 2 true (.array .int) := ⟨RX2, TX2, cf_2, by decide, a_in 363 (by decide +kernel) rfl, rfl, by decide +kernel, fun _ => rfl⟩
theorem fw_X2_9 : a_fr RX2 9 2 7 2 := a_fw.r fp_X2_9
theorem fp_X2_15 : a_fw RX2 15 2 7 3 true (.array .int) := ⟨RX2, TX2, cf_2, by decide, a_in 364 (by decide +kernel) rfl, rfl, by decide +kernel, fun _ => rfl⟩
theorem fw_X2_15 : a_fr RX2 15 2 7 3 := a_fw.r fp_X2_15
theorem fp_X2_18 : a_fw RX2 18 2 7 4 true (.array .int) := ⟨RX2, TX2, cf_2, by decide, a_in 365 (by decide +kernel) rfl, rfl, by decide +kernel, fun _ => rfl⟩
theorem fw_X2_18 : a_fr RX2 18 2 7 4 := a_fw.r fp_X2_18
theorem fp_X2_23 : a_fw RX2 23 2 7 5 true (.array (.array .int)) := ⟨RX2, TX2, cf_2, by decide, a_in 366 (by decide +kernel) rfl, rfl, by decide +kernel, fun _ => rfl⟩
theorem fw_X2_23 : a_fr RX2 23 2 7 5 := a_fw.r fp_X2_23
theorem fp_X2_26 : a_fw RX2 26 2 7 6 true (.array .int) := ⟨RX2, TX2, cf_2, by decide, a_in 367 (by decide +kernel) rfl, rfl, by decide +kernel, fun _ => rfl⟩
theorem fw_X2_26 : a_fr RX2 26 2 7 6 := a_fw.r fp_X2_26
theorem nw_X11_37 : Cond.classLink RX11 37 RX4 ∈ lw_g ∧ Cond.instantiable RX4 2 ∈ lw_g ∧ Cond.initialized RX4 ∈ lw_g := ⟨a_in 383 (by decide +kernel) rfl, a_in 384 (by decide +kernel) rfl, a_in 64 (by decide +kernel) rfl⟩
theorem kl_X11_37 : Cond.classLink RX11 37 "BellWaves$Morning" ∈ lw_g := a_in 383 (by decide +kernel) rfl
theorem ln_X11_39 : Cond.methodLinkNest RX11 39 mX4_init.2.1 "BellWaves" ∈ lw_n := a_inN 385 (by decide +kernel) rfl
theorem ob_X4_3 : Cond.methodLink RX4 3 Lib.objectInit ∈ lw_g ∧ Cond.instanceMethod Lib.objectInit ∈ lw_g ∧ Cond.code Lib.objectInit ⟨#[0xb1]⟩ 1 none ∈ lw_g := ⟨a_in 388 (by decide +kernel) rfl, a_in 78 (by decide +kernel) rfl, a_in 79 (by decide +kernel) rfl⟩
theorem fp_X4_33 : a_fw RX4 33 4 2 0 false .int := ⟨RX4, TX4, cf_4, by decide, a_in 389 (by decide +kernel) rfl, rfl, by decide +kernel, fun h => by cases h⟩
theorem fw_X4_33 : a_fr RX4 33 4 2 0 := a_fw.r fp_X4_33
theorem fp_X11_284 : a_fw RX11 284 4 2 0 false .int := ⟨RX4, TX4, cf_4, by decide, a_in 390 (by decide +kernel) rfl, rfl, by decide +kernel, fun h => by cases h⟩
theorem fw_X11_284 : a_fr RX11 284 4 2 0 := a_fw.r fp_X11_284
theorem fp_X4_9 : a_fw RX4 9 4 2 1 true (.array .int) := ⟨RX4, TX4, cf_4, by decide, a_in 391 (by decide +kernel) rfl, rfl, by decide +kernel, fun _ => rfl⟩
theorem fw_X4_9 : a_fr RX4 9 4 2 1 := a_fw.r fp_X4_9
theorem fw_X11_285 : a_fr RX11 285 4 2 1 := ⟨RX4, TX4, cf_4, by decide, a_in 392 (by decide +kernel) rfl⟩
theorem nw_X11_44 : Cond.classLink RX11 44 RX8 ∈ lw_g ∧ Cond.instantiable RX8 3 ∈ lw_g ∧ Cond.initialized RX8 ∈ lw_g := ⟨a_in 398 (by decide +kernel) rfl, a_in 400 (by decide +kernel) rfl, a_in 65 (by decide +kernel) rfl⟩
theorem kl_X11_44 : Cond.classLink RX11 44 "BellWaves$Sheet" ∈ lw_g := a_in 398 (by decide +kernel) rfl
theorem ln_X11_50 : Cond.methodLinkNest RX11 50 mX8_init.2.1 "BellWaves" ∈ lw_n := a_inN 401 (by decide +kernel) rfl
theorem ob_X8_3 : Cond.methodLink RX8 3 Lib.objectInit ∈ lw_g ∧ Cond.instanceMethod Lib.objectInit ∈ lw_g ∧ Cond.code Lib.objectInit ⟨#[0xb1]⟩ 1 none ∈ lw_g := ⟨a_in 404 (by decide +kernel) rfl, a_in 78 (by decide +kernel) rfl, a_in 79 (by decide +kernel) rfl⟩
theorem fp_X8_15 : a_fw RX8 15 8 3 0 false .int := ⟨RX8, TX8, cf_8, by decide, a_in 405 (by decide +kernel) rfl, rfl, by decide +kernel, fun h => by cases h⟩
theorem fw_X8_15 : a_fr RX8 15 8 3 0 := a_fw.r fp_X8_15
theorem fp_X11_312 : a_fw RX11 312 8 3 0 false .int := ⟨RX8, TX8, cf_8, by decide, a_in 406 (by decide +kernel) rfl, rfl, by decide +kernel, fun h => by cases h⟩
theorem fw_X11_312 : a_fr RX11 312 8 3 0 := a_fw.r fp_X11_312
theorem fp_X8_19 : a_fw RX8 19 8 3 1 false .int := ⟨RX8, TX8, cf_8, by decide, a_in 407 (by decide +kernel) rfl, rfl, by decide +kernel, fun h => by cases h⟩
theorem fw_X8_19 : a_fr RX8 19 8 3 1 := a_fw.r fp_X8_19
theorem fp_X11_308 : a_fw RX11 308 8 3 1 false .int := ⟨RX8, TX8, cf_8, by decide, a_in 408 (by decide +kernel) rfl, rfl, by decide +kernel, fun h => by cases h⟩
theorem fw_X11_308 : a_fr RX11 308 8 3 1 := a_fw.r fp_X11_308
theorem fp_X8_9 : a_fw RX8 9 8 3 2 true (.array .int) := ⟨RX8, TX8, cf_8, by decide, a_in 409 (by decide +kernel) rfl, rfl, by decide +kernel, fun _ => rfl⟩
theorem fw_X8_9 : a_fr RX8 9 8 3 2 := a_fw.r fp_X8_9
theorem fw_X11_318 : a_fr RX11 318 8 3 2 := ⟨RX8, TX8, cf_8, by decide, a_in 410 (by decide +kernel) rfl⟩
theorem fp_X11_10 : a_fw RX11 10 11 11 0 true (.object "BellWaves$District") := ⟨RX11, TX11, cf_11, by decide, a_in 418 (by decide +kernel) rfl, rfl, by decide +kernel, fun _ => rfl⟩
theorem fw_X11_10 : a_fr RX11 10 11 11 0 := a_fw.r fp_X11_10
theorem fp_X11_19 : a_fw RX11 19 11 11 1 true (.object "BellWaves$Fleet") := ⟨RX11, TX11, cf_11, by decide, a_in 419 (by decide +kernel) rfl, rfl, by decide +kernel, fun _ => rfl⟩
theorem fw_X11_19 : a_fr RX11 19 11 11 1 := a_fw.r fp_X11_19
theorem fp_X11_26 : a_fw RX11 26 11 11 2 true (.object "BellWaves$Rules") := ⟨RX11, TX11, cf_11, by decide, a_in 420 (by decide +kernel) rfl, rfl, by decide +kernel, fun _ => rfl⟩
theorem fw_X11_26 : a_fr RX11 26 11 11 2 := a_fw.r fp_X11_26
theorem fp_X11_33 : a_fw RX11 33 11 11 3 true (.object "BellWaves$Market") := ⟨RX11, TX11, cf_11, by decide, a_in 421 (by decide +kernel) rfl, rfl, by decide +kernel, fun _ => rfl⟩
theorem fw_X11_33 : a_fr RX11 33 11 11 3 := a_fw.r fp_X11_33
theorem fp_X11_40 : a_fw RX11 40 11 11 4 true (.object "BellWaves$Morning") := ⟨RX11, TX11, cf_11, by decide, a_in 422 (by decide +kernel) rfl, rfl, by decide +kernel, fun _ => rfl⟩
theorem fw_X11_40 : a_fr RX11 40 11 11 4 := a_fw.r fp_X11_40
theorem fp_X11_46 : a_fw RX11 46 11 11 5 true (.array (.object "BellWaves$Sheet")) := ⟨RX11, TX11, cf_11, by decide, a_in 423 (by decide +kernel) rfl, rfl, by decide +kernel, fun _ => rfl⟩
theorem fw_X11_46 : a_fr RX11 46 11 11 5 := a_fw.r fp_X11_46
theorem fp_X11_330 : a_fw RX11 330 11 11 6 false (.object "BellWaves$Planner") := ⟨RX11, TX11, cf_11, by decide, a_in 424 (by decide +kernel) rfl, rfl, by decide +kernel, fun h => by cases h⟩
theorem fw_X11_330 : a_fr RX11 330 11 11 6 := a_fw.r fp_X11_330
theorem fp_X11_327 : a_fw RX11 327 11 11 7 false .boolean := ⟨RX11, TX11, cf_11, by decide, a_in 425 (by decide +kernel) rfl, rfl, by decide +kernel, fun h => by cases h⟩
theorem fw_X11_327 : a_fr RX11 327 11 11 7 := a_fw.r fp_X11_327
theorem fp_X11_142 : a_fw RX11 142 11 11 8 false .boolean := ⟨RX11, TX11, cf_11, by decide, a_in 426 (by decide +kernel) rfl, rfl, by decide +kernel, fun h => by cases h⟩
theorem fw_X11_142 : a_fr RX11 142 11 11 8 := a_fw.r fp_X11_142
theorem fp_X11_146 : a_fw RX11 146 11 11 9 false .boolean := ⟨RX11, TX11, cf_11, by decide, a_in 427 (by decide +kernel) rfl, rfl, by decide +kernel, fun h => by cases h⟩
theorem fw_X11_146 : a_fr RX11 146 11 11 9 := a_fw.r fp_X11_146
theorem fp_X11_324 : a_fw RX11 324 11 11 10 false .int := ⟨RX11, TX11, cf_11, by decide, a_in 428 (by decide +kernel) rfl, rfl, by decide +kernel, fun h => by cases h⟩
theorem fw_X11_324 : a_fr RX11 324 11 11 10 := a_fw.r fp_X11_324
theorem lk_L_13 : Cond.methodLink RL 13 mX11_corner.2.1 ∈ lw_g := a_in 452 (by decide +kernel) rfl
theorem ct_X11_61 : Cond.constant RX11 61 (-1000002) ∈ lw_g := a_in 456 (by decide +kernel) rfl
theorem lk_X11_62 : Cond.methodLink RX11 62 mX11_found.2.1 ∈ lw_g := a_in 457 (by decide +kernel) rfl
theorem lk_X11_66 : Cond.methodLink RX11 66 mX10_addCorner.2.1 ∈ lw_g := a_in 461 (by decide +kernel) rfl
theorem lk_L_18 : Cond.methodLink RL 18 mX11_street.2.1 ∈ lw_g := a_in 465 (by decide +kernel) rfl
theorem lk_X11_70 : Cond.methodLink RX11 70 mX10_hasCorner.2.1 ∈ lw_g := a_in 469 (by decide +kernel) rfl
theorem ln_X10_37 : Cond.methodLinkNest RX10 37 mX11_within.2.1 "BellWaves" ∈ lw_n := a_inN 473 (by decide +kernel) rfl
theorem lk_X11_74 : Cond.methodLink RX11 74 mX11_within.2.1 ∈ lw_g := a_in 476 (by decide +kernel) rfl
theorem ct_X11_78 : Cond.constant RX11 78 (-1000001) ∈ lw_g := a_in 477 (by decide +kernel) rfl
theorem lk_X11_82 : Cond.methodLink RX11 82 mX11_plansFall.2.1 ∈ lw_g := a_in 478 (by decide +kernel) rfl
theorem lk_X11_85 : Cond.methodLink RX11 85 mX10_addStreet.2.1 ∈ lw_g := a_in 482 (by decide +kernel) rfl
theorem lk_L_23 : Cond.methodLink RL 23 mX11_shut.2.1 ∈ lw_g := a_in 486 (by decide +kernel) rfl
theorem lk_X11_89 : Cond.methodLink RX11 89 mX10_close.2.1 ∈ lw_g := a_in 490 (by decide +kernel) rfl
theorem lk_L_28 : Cond.methodLink RL 28 mX11_far.2.1 ∈ lw_g := a_in 494 (by decide +kernel) rfl
theorem lk_X11_93 : Cond.methodLink RX11 93 mX10_table.2.1 ∈ lw_g := a_in 498 (by decide +kernel) rfl
theorem lk_X10_48 : Cond.methodLink RX10 48 mX10_measure.2.1 ∈ lw_g := a_in 502 (by decide +kernel) rfl
theorem ct_X10_52 : Cond.constant RX10 52 (1000000) ∈ lw_g := a_in 506 (by decide +kernel) rfl
theorem lk_X10_53 : Cond.methodLink RX10 53 mJ7_fill_53178.2.1 ∈ lw_g := a_in 507 (by decide +kernel) rfl
theorem mm_X10_59 : Cond.methodLink RX10 59 Lib.Math.min.name ∈ lw_g ∧ Cond.static Lib.Math.min.name ∈ lw_g ∧ Cond.initialized "java/lang/Math" ∈ lw_g ∧ Cond.code Lib.Math.min.name Lib.Math.min.code 2 (some .int) ∈ lw_g := ⟨a_in 510 (by decide +kernel) rfl, a_in 511 (by decide +kernel) rfl, a_in 68 (by decide +kernel) rfl, a_in 512 (by decide +kernel) rfl⟩
theorem ct_X11_97 : Cond.constant RX11 97 (1000000) ∈ lw_g := a_in 513 (by decide +kernel) rfl
theorem ct_X11_98 : Cond.constant RX11 98 (-1000004) ∈ lw_g := a_in 514 (by decide +kernel) rfl
theorem lk_L_33 : Cond.methodLink RL 33 mX11_school.2.1 ∈ lw_g := a_in 515 (by decide +kernel) rfl
theorem lk_X11_102 : Cond.methodLink RX11 102 mX0_addSchool.2.1 ∈ lw_g := a_in 519 (by decide +kernel) rfl
theorem lk_L_37 : Cond.methodLink RL 37 mX11_as.2.1 ∈ lw_g := a_in 523 (by decide +kernel) rfl
theorem lk_X11_106 : Cond.methodLink RX11 106 mX0_hasSchool.2.1 ∈ lw_g := a_in 527 (by decide +kernel) rfl
theorem ln_X0_46 : Cond.methodLinkNest RX0 46 mX11_within.2.1 "BellWaves" ∈ lw_n := a_inN 531 (by decide +kernel) rfl
theorem lk_X11_118 : Cond.methodLink RX11 118 mX11_isUnder.2.1 ∈ lw_g := a_in 532 (by decide +kernel) rfl
theorem us_X11_353 : Cond.fieldLink RX11 353 "BellWaves" "UNDER" "[I" ∈ lw_g := a_in 535 (by decide +kernel) rfl
theorem ct_X11_122 : Cond.constant RX11 122 (-1000003) ∈ lw_g := a_in 537 (by decide +kernel) rfl
theorem lk_L_41 : Cond.methodLink RL 41 mX11_of.2.1 ∈ lw_g := a_in 538 (by decide +kernel) rfl
theorem lk_X11_133 : Cond.methodLink RX11 133 mX0_stopsOf.2.1 ∈ lw_g := a_in 542 (by decide +kernel) rfl
theorem lk_X11_136 : Cond.methodLink RX11 136 mX0_pupilsOf.2.1 ∈ lw_g := a_in 546 (by decide +kernel) rfl
theorem lk_X11_139 : Cond.methodLink RX11 139 mX0_longest.2.1 ∈ lw_g := a_in 550 (by decide +kernel) rfl
theorem lk_L_45 : Cond.methodLink RL 45 mX11_bell.2.1 ∈ lw_g := a_in 554 (by decide +kernel) rfl
theorem lk_L_49 : Cond.methodLink RL 49 mX11_wish.2.1 ∈ lw_g := a_in 558 (by decide +kernel) rfl
theorem lk_L_53 : Cond.methodLink RL 53 mX11_stop.2.1 ∈ lw_g := a_in 562 (by decide +kernel) rfl
theorem lk_X11_152 : Cond.methodLink RX11 152 mX0_addStop.2.1 ∈ lw_g := a_in 566 (by decide +kernel) rfl
theorem lk_L_58 : Cond.methodLink RL 58 mX11_pupils.2.1 ∈ lw_g := a_in 570 (by decide +kernel) rfl
theorem lk_X11_156 : Cond.methodLink RX11 156 mX0_hasStop.2.1 ∈ lw_g := a_in 574 (by decide +kernel) rfl
theorem lk_L_62 : Cond.methodLink RL 62 mX11_gone.2.1 ∈ lw_g := a_in 578 (by decide +kernel) rfl
theorem lk_X11_168 : Cond.methodLink RX11 168 mX0_removeStop.2.1 ∈ lw_g := a_in 582 (by decide +kernel) rfl
theorem lk_L_67 : Cond.methodLink RL 67 mX11_terms.2.1 ∈ lw_g := a_in 586 (by decide +kernel) rfl
theorem lk_L_71 : Cond.methodLink RL 71 mX11_routes.2.1 ∈ lw_g := a_in 590 (by decide +kernel) rfl
theorem lk_X11_181 : Cond.methodLink RX11 181 mX11_drawPlans.2.1 ∈ lw_g := a_in 594 (by decide +kernel) rfl
theorem nw_X11_334 : Cond.classLink RX11 334 RX5 ∈ lw_g ∧ Cond.instantiable RX5 9 ∈ lw_g ∧ Cond.initialized RX5 ∈ lw_g := ⟨a_in 598 (by decide +kernel) rfl, a_in 599 (by decide +kernel) rfl, a_in 69 (by decide +kernel) rfl⟩
theorem kl_X11_334 : Cond.classLink RX11 334 "BellWaves$Planner" ∈ lw_g := a_in 598 (by decide +kernel) rfl
