theorem inX0 : ∀ w ∈ u_ws RX0 TX0 2, w ∈ gw_tbl := gms [238, 240] (by decide +kernel) (by decide +kernel)
theorem inX1 : ∀ w ∈ u_ws RX1 TX1 3, w ∈ gw_tbl := gms [252, 254, 256] (by decide +kernel) (by decide +kernel)
theorem inX2 : ∀ w ∈ u_ws RX2 TX2 3, w ∈ gw_tbl := gms [93, 95, 97] (by decide +kernel) (by decide +kernel)
theorem inX3 : ∀ w ∈ u_ws RX3 TX3 6, w ∈ gw_tbl := gms [184, 186, 188, 190, 192, 194] (by decide +kernel) (by decide +kernel)
theorem inX4 : ∀ w ∈ u_ws RX4 TX4 1, w ∈ gw_tbl := gms [129] (by decide +kernel) (by decide +kernel)
theorem inX5 : ∀ w ∈ u_ws RX5 TX5 2, w ∈ gw_tbl := gms [200, 202] (by decide +kernel) (by decide +kernel)
theorem inX6 : ∀ w ∈ u_ws RX6 TX6 3, w ∈ gw_tbl := gms [268, 270, 272] (by decide +kernel) (by decide +kernel)
theorem inX8 : ∀ w ∈ u_ws RX8 TX8 3, w ∈ gw_tbl := gms [148, 150, 152] (by decide +kernel) (by decide +kernel)
theorem inX9 : ∀ w ∈ u_ws RX9 TX9 8, w ∈ gw_tbl := gms [213, 215, 217, 219, 221, 223, 225, 227] (by decide +kernel) (by decide +kernel)
theorem inX10 : ∀ w ∈ u_ws RX10 TX10 4, w ∈ gw_tbl := gms [112, 114, 116, 118] (by decide +kernel) (by decide +kernel)
theorem inX11 : ∀ w ∈ u_ws RX11 TX11 12, w ∈ gw_tbl := gms [287, 289, 291, 293, 295, 297, 299, 301, 303, 305, 307, 309] (by decide +kernel) (by decide +kernel)
theorem inX12 : ∀ w ∈ u_ws RX12 TX12 52, w ∈ gw_tbl := gms [939, 941, 943, 945, 947, 949, 951, 953, 955, 957, 959, 961, 963, 965, 967, 969, 971, 973, 975, 977, 979, 981, 983, 985, 987, 989, 991, 993, 995, 997, 999, 1001, 1003, 1005, 1007, 1009, 1011, 1013, 1015, 1017, 1019, 1021, 1023, 1025, 1027, 1029, 1031, 1033, 1035, 1037, 1039, 1041] (by decide +kernel) (by decide +kernel)
theorem fX2_9 : jF RX2 9 2 0 := ⟨RX2, TX2, 3, rfl, by decide, inX2, gm 90 (by decide +kernel) (by decide +kernel), rfl, by decide⟩
theorem pX2_9 : jFf RX2 9 2 0 (.array .int) := ⟨RX2, TX2, 3, tyX2, rfl, by decide, inX2, gm 90 (by decide +kernel) (by decide +kernel), rfl, by decide, tyX2_ok, nmX2, rfl, by decide +kernel, rfl⟩
theorem fX2_15 : jF RX2 15 2 1 := ⟨RX2, TX2, 3, rfl, by decide, inX2, gm 91 (by decide +kernel) (by decide +kernel), rfl, by decide⟩
theorem pX2_15 : jFf RX2 15 2 1 (.array .long) := ⟨RX2, TX2, 3, tyX2, rfl, by decide, inX2, gm 91 (by decide +kernel) (by decide +kernel), rfl, by decide, tyX2_ok, nmX2, rfl, by decide +kernel, rfl⟩
theorem fX2_19 : jF RX2 19 2 2 := ⟨RX2, TX2, 3, rfl, by decide, inX2, gm 92 (by decide +kernel) (by decide +kernel), rfl, by decide⟩
theorem pX2_19 : jFp RX2 19 2 2 .int := ⟨RX2, TX2, 3, tyX2, rfl, by decide, inX2, gm 92 (by decide +kernel) (by decide +kernel), rfl, by decide, tyX2_ok, nmX2, rfl, by decide +kernel⟩
theorem fX10_9 : jF RX10 9 9 0 := ⟨RX10, TX10, 4, rfl, by decide, inX10, gm 108 (by decide +kernel) (by decide +kernel), rfl, by decide⟩
theorem pX10_9 : jFf RX10 9 9 0 (.array .char) := ⟨RX10, TX10, 4, tyX10, rfl, by decide, inX10, gm 108 (by decide +kernel) (by decide +kernel), rfl, by decide, tyX10_ok, nmX10, rfl, by decide +kernel, rfl⟩
theorem fX10_15 : jF RX10 15 9 1 := ⟨RX10, TX10, 4, rfl, by decide, inX10, gm 109 (by decide +kernel) (by decide +kernel), rfl, by decide⟩
theorem pX10_15 : jFp RX10 15 9 1 .int := ⟨RX10, TX10, 4, tyX10, rfl, by decide, inX10, gm 109 (by decide +kernel) (by decide +kernel), rfl, by decide, tyX10_ok, nmX10, rfl, by decide +kernel⟩
theorem fX10_34 : jF RX10 34 9 2 := ⟨RX10, TX10, 4, rfl, by decide, inX10, gm 110 (by decide +kernel) (by decide +kernel), rfl, by decide⟩
theorem pX10_34 : jFp RX10 34 9 2 .int := ⟨RX10, TX10, 4, tyX10, rfl, by decide, inX10, gm 110 (by decide +kernel) (by decide +kernel), rfl, by decide, tyX10_ok, nmX10, rfl, by decide +kernel⟩
theorem fX10_28 : jF RX10 28 9 3 := ⟨RX10, TX10, 4, rfl, by decide, inX10, gm 111 (by decide +kernel) (by decide +kernel), rfl, by decide⟩
theorem pX10_28 : jFp RX10 28 9 3 .int := ⟨RX10, TX10, 4, tyX10, rfl, by decide, inX10, gm 111 (by decide +kernel) (by decide +kernel), rfl, by decide, tyX10_ok, nmX10, rfl, by decide +kernel⟩
theorem fX4_9 : jF RX4 9 4 0 := ⟨RX4, TX4, 1, rfl, by decide, inX4, gm 128 (by decide +kernel) (by decide +kernel), rfl, by decide⟩
theorem pX4_9 : jFf RX4 9 4 0 (.array .int) := ⟨RX4, TX4, 1, tyX4, rfl, by decide, inX4, gm 128 (by decide +kernel) (by decide +kernel), rfl, by decide, tyX4_ok, nmX4, rfl, by decide +kernel, rfl⟩
theorem fX8_9 : jF RX8 9 7 0 := ⟨RX8, TX8, 3, rfl, by decide, inX8, gm 145 (by decide +kernel) (by decide +kernel), rfl, by decide⟩
theorem pX8_9 : jFf RX8 9 7 0 (.array .long) := ⟨RX8, TX8, 3, tyX8, rfl, by decide, inX8, gm 145 (by decide +kernel) (by decide +kernel), rfl, by decide, tyX8_ok, nmX8, rfl, by decide +kernel, rfl⟩
theorem fX8_15 : jF RX8 15 7 1 := ⟨RX8, TX8, 3, rfl, by decide, inX8, gm 146 (by decide +kernel) (by decide +kernel), rfl, by decide⟩
theorem pX8_15 : jFp RX8 15 7 1 .int := ⟨RX8, TX8, 3, tyX8, rfl, by decide, inX8, gm 146 (by decide +kernel) (by decide +kernel), rfl, by decide, tyX8_ok, nmX8, rfl, by decide +kernel⟩
theorem fX8_19 : jF RX8 19 7 2 := ⟨RX8, TX8, 3, rfl, by decide, inX8, gm 147 (by decide +kernel) (by decide +kernel), rfl, by decide⟩
theorem pX8_19 : jFp RX8 19 7 2 .boolean := ⟨RX8, TX8, 3, tyX8, rfl, by decide, inX8, gm 147 (by decide +kernel) (by decide +kernel), rfl, by decide, tyX8_ok, nmX8, rfl, by decide +kernel⟩
theorem fX3_9 : jF RX3 9 3 0 := ⟨RX3, TX3, 6, rfl, by decide, inX3, gm 168 (by decide +kernel) (by decide +kernel), rfl, by decide⟩
theorem pX3_9 : jFp RX3 9 3 0 .int := ⟨RX3, TX3, 6, tyX3, rfl, by decide, inX3, gm 168 (by decide +kernel) (by decide +kernel), rfl, by decide, tyX3_ok, nmX3, rfl, by decide +kernel⟩
theorem fX4_78 : jF RX4 78 3 0 := ⟨RX3, TX3, 6, rfl, by decide, inX3, gm 169 (by decide +kernel) (by decide +kernel), rfl, by decide⟩
theorem pX4_78 : jFp RX4 78 3 0 .int := ⟨RX3, TX3, 6, tyX3, rfl, by decide, inX3, gm 169 (by decide +kernel) (by decide +kernel), rfl, by decide, tyX3_ok, nmX3, rfl, by decide +kernel⟩
theorem fX9_79 : jF RX9 79 3 0 := ⟨RX3, TX3, 6, rfl, by decide, inX3, gm 170 (by decide +kernel) (by decide +kernel), rfl, by decide⟩
theorem pX9_79 : jFp RX9 79 3 0 .int := ⟨RX3, TX3, 6, tyX3, rfl, by decide, inX3, gm 170 (by decide +kernel) (by decide +kernel), rfl, by decide, tyX3_ok, nmX3, rfl, by decide +kernel⟩
theorem fX3_15 : jF RX3 15 3 1 := ⟨RX3, TX3, 6, rfl, by decide, inX3, gm 171 (by decide +kernel) (by decide +kernel), rfl, by decide⟩
theorem pX3_15 : jFp RX3 15 3 1 .int := ⟨RX3, TX3, 6, tyX3, rfl, by decide, inX3, gm 171 (by decide +kernel) (by decide +kernel), rfl, by decide, tyX3_ok, nmX3, rfl, by decide +kernel⟩
theorem fX4_130 : jF RX4 130 3 1 := ⟨RX3, TX3, 6, rfl, by decide, inX3, gm 172 (by decide +kernel) (by decide +kernel), rfl, by decide⟩
theorem pX4_130 : jFp RX4 130 3 1 .int := ⟨RX3, TX3, 6, tyX3, rfl, by decide, inX3, gm 172 (by decide +kernel) (by decide +kernel), rfl, by decide, tyX3_ok, nmX3, rfl, by decide +kernel⟩
theorem fX9_88 : jF RX9 88 3 1 := ⟨RX3, TX3, 6, rfl, by decide, inX3, gm 173 (by decide +kernel) (by decide +kernel), rfl, by decide⟩
theorem pX9_88 : jFp RX9 88 3 1 .int := ⟨RX3, TX3, 6, tyX3, rfl, by decide, inX3, gm 173 (by decide +kernel) (by decide +kernel), rfl, by decide, tyX3_ok, nmX3, rfl, by decide +kernel⟩
theorem fX3_18 : jF RX3 18 3 2 := ⟨RX3, TX3, 6, rfl, by decide, inX3, gm 174 (by decide +kernel) (by decide +kernel), rfl, by decide⟩
theorem pX3_18 : jFp RX3 18 3 2 .int := ⟨RX3, TX3, 6, tyX3, rfl, by decide, inX3, gm 174 (by decide +kernel) (by decide +kernel), rfl, by decide, tyX3_ok, nmX3, rfl, by decide +kernel⟩
theorem fX4_133 : jF RX4 133 3 2 := ⟨RX3, TX3, 6, rfl, by decide, inX3, gm 175 (by decide +kernel) (by decide +kernel), rfl, by decide⟩
theorem pX4_133 : jFp RX4 133 3 2 .int := ⟨RX3, TX3, 6, tyX3, rfl, by decide, inX3, gm 175 (by decide +kernel) (by decide +kernel), rfl, by decide, tyX3_ok, nmX3, rfl, by decide +kernel⟩
theorem fX9_91 : jF RX9 91 3 2 := ⟨RX3, TX3, 6, rfl, by decide, inX3, gm 176 (by decide +kernel) (by decide +kernel), rfl, by decide⟩
theorem pX9_91 : jFp RX9 91 3 2 .int := ⟨RX3, TX3, 6, tyX3, rfl, by decide, inX3, gm 176 (by decide +kernel) (by decide +kernel), rfl, by decide, tyX3_ok, nmX3, rfl, by decide +kernel⟩
theorem fX3_21 : jF RX3 21 3 3 := ⟨RX3, TX3, 6, rfl, by decide, inX3, gm 177 (by decide +kernel) (by decide +kernel), rfl, by decide⟩
theorem pX3_21 : jFp RX3 21 3 3 .int := ⟨RX3, TX3, 6, tyX3, rfl, by decide, inX3, gm 177 (by decide +kernel) (by decide +kernel), rfl, by decide, tyX3_ok, nmX3, rfl, by decide +kernel⟩
theorem fX4_138 : jF RX4 138 3 3 := ⟨RX3, TX3, 6, rfl, by decide, inX3, gm 178 (by decide +kernel) (by decide +kernel), rfl, by decide⟩
theorem pX4_138 : jFp RX4 138 3 3 .int := ⟨RX3, TX3, 6, tyX3, rfl, by decide, inX3, gm 178 (by decide +kernel) (by decide +kernel), rfl, by decide, tyX3_ok, nmX3, rfl, by decide +kernel⟩
theorem fX3_24 : jF RX3 24 3 4 := ⟨RX3, TX3, 6, rfl, by decide, inX3, gm 179 (by decide +kernel) (by decide +kernel), rfl, by decide⟩
theorem pX3_24 : jFp RX3 24 3 4 .char := ⟨RX3, TX3, 6, tyX3, rfl, by decide, inX3, gm 179 (by decide +kernel) (by decide +kernel), rfl, by decide, tyX3_ok, nmX3, rfl, by decide +kernel⟩
theorem fX4_145 : jF RX4 145 3 4 := ⟨RX3, TX3, 6, rfl, by decide, inX3, gm 180 (by decide +kernel) (by decide +kernel), rfl, by decide⟩
theorem pX4_145 : jFp RX4 145 3 4 .char := ⟨RX3, TX3, 6, tyX3, rfl, by decide, inX3, gm 180 (by decide +kernel) (by decide +kernel), rfl, by decide, tyX3_ok, nmX3, rfl, by decide +kernel⟩
theorem fX3_28 : jF RX3 28 3 5 := ⟨RX3, TX3, 6, rfl, by decide, inX3, gm 181 (by decide +kernel) (by decide +kernel), rfl, by decide⟩
theorem pX3_28 : jFp RX3 28 3 5 .int := ⟨RX3, TX3, 6, tyX3, rfl, by decide, inX3, gm 181 (by decide +kernel) (by decide +kernel), rfl, by decide, tyX3_ok, nmX3, rfl, by decide +kernel⟩
theorem fX4_149 : jF RX4 149 3 5 := ⟨RX3, TX3, 6, rfl, by decide, inX3, gm 182 (by decide +kernel) (by decide +kernel), rfl, by decide⟩
theorem pX4_149 : jFp RX4 149 3 5 .int := ⟨RX3, TX3, 6, tyX3, rfl, by decide, inX3, gm 182 (by decide +kernel) (by decide +kernel), rfl, by decide, tyX3_ok, nmX3, rfl, by decide +kernel⟩
theorem fX9_85 : jF RX9 85 3 5 := ⟨RX3, TX3, 6, rfl, by decide, inX3, gm 183 (by decide +kernel) (by decide +kernel), rfl, by decide⟩
theorem pX9_85 : jFp RX9 85 3 5 .int := ⟨RX3, TX3, 6, tyX3, rfl, by decide, inX3, gm 183 (by decide +kernel) (by decide +kernel), rfl, by decide, tyX3_ok, nmX3, rfl, by decide +kernel⟩
theorem fX5_11 : jF RX5 11 5 0 := ⟨RX5, TX5, 2, rfl, by decide, inX5, gm 198 (by decide +kernel) (by decide +kernel), rfl, by decide⟩
theorem pX5_11 : jFf RX5 11 5 0 (.array (.object "TableStreams$Making")) := ⟨RX5, TX5, 2, tyX5, rfl, by decide, inX5, gm 198 (by decide +kernel) (by decide +kernel), rfl, by decide, tyX5_ok, nmX5, rfl, by decide +kernel, rfl⟩
theorem fX5_18 : jF RX5 18 5 1 := ⟨RX5, TX5, 2, rfl, by decide, inX5, gm 199 (by decide +kernel) (by decide +kernel), rfl, by decide⟩
theorem pX5_18 : jFp RX5 18 5 1 .int := ⟨RX5, TX5, 2, tyX5, rfl, by decide, inX5, gm 199 (by decide +kernel) (by decide +kernel), rfl, by decide, tyX5_ok, nmX5, rfl, by decide +kernel⟩
theorem fX9_11 : jF RX9 11 8 0 := ⟨RX9, TX9, 8, rfl, by decide, inX9, gm 205 (by decide +kernel) (by decide +kernel), rfl, by decide⟩
theorem pX9_11 : jFf RX9 11 8 0 (.array (.object "TableStreams$Rows")) := ⟨RX9, TX9, 8, tyX9, rfl, by decide, inX9, gm 205 (by decide +kernel) (by decide +kernel), rfl, by decide, tyX9_ok, nmX9, rfl, by decide +kernel, rfl⟩
theorem fX9_17 : jF RX9 17 8 1 := ⟨RX9, TX9, 8, rfl, by decide, inX9, gm 206 (by decide +kernel) (by decide +kernel), rfl, by decide⟩
theorem pX9_17 : jFf RX9 17 8 1 (.array (.object "TableStreams$Rows")) := ⟨RX9, TX9, 8, tyX9, rfl, by decide, inX9, gm 206 (by decide +kernel) (by decide +kernel), rfl, by decide, tyX9_ok, nmX9, rfl, by decide +kernel, rfl⟩
theorem fX9_20 : jF RX9 20 8 2 := ⟨RX9, TX9, 8, rfl, by decide, inX9, gm 207 (by decide +kernel) (by decide +kernel), rfl, by decide⟩
theorem pX9_20 : jFf RX9 20 8 2 (.array (.object "TableStreams$Rows")) := ⟨RX9, TX9, 8, tyX9, rfl, by decide, inX9, gm 207 (by decide +kernel) (by decide +kernel), rfl, by decide, tyX9_ok, nmX9, rfl, by decide +kernel, rfl⟩
theorem fX9_24 : jF RX9 24 8 3 := ⟨RX9, TX9, 8, rfl, by decide, inX9, gm 208 (by decide +kernel) (by decide +kernel), rfl, by decide⟩
theorem pX9_24 : jFf RX9 24 8 3 (.array .boolean) := ⟨RX9, TX9, 8, tyX9, rfl, by decide, inX9, gm 208 (by decide +kernel) (by decide +kernel), rfl, by decide, tyX9_ok, nmX9, rfl, by decide +kernel, rfl⟩
theorem fX9_28 : jF RX9 28 8 4 := ⟨RX9, TX9, 8, rfl, by decide, inX9, gm 209 (by decide +kernel) (by decide +kernel), rfl, by decide⟩
theorem pX9_28 : jFf RX9 28 8 4 (.object "TableStreams$Rows") := ⟨RX9, TX9, 8, tyX9, rfl, by decide, inX9, gm 209 (by decide +kernel) (by decide +kernel), rfl, by decide, tyX9_ok, nmX9, rfl, by decide +kernel, rfl⟩
theorem fX9_32 : jF RX9 32 8 5 := ⟨RX9, TX9, 8, rfl, by decide, inX9, gm 210 (by decide +kernel) (by decide +kernel), rfl, by decide⟩
theorem pX9_32 : jFf RX9 32 8 5 (.array .long) := ⟨RX9, TX9, 8, tyX9, rfl, by decide, inX9, gm 210 (by decide +kernel) (by decide +kernel), rfl, by decide, tyX9_ok, nmX9, rfl, by decide +kernel, rfl⟩
theorem fX9_39 : jF RX9 39 8 6 := ⟨RX9, TX9, 8, rfl, by decide, inX9, gm 211 (by decide +kernel) (by decide +kernel), rfl, by decide⟩
theorem pX9_39 : jFp RX9 39 8 6 (.object "TableStreams$Plan") := ⟨RX9, TX9, 8, tyX9, rfl, by decide, inX9, gm 211 (by decide +kernel) (by decide +kernel), rfl, by decide, tyX9_ok, nmX9, rfl, by decide +kernel⟩
theorem fX9_43 : jF RX9 43 8 7 := ⟨RX9, TX9, 8, rfl, by decide, inX9, gm 212 (by decide +kernel) (by decide +kernel), rfl, by decide⟩
theorem pX9_43 : jFp RX9 43 8 7 (.object "TableStreams$Plan") := ⟨RX9, TX9, 8, tyX9, rfl, by decide, inX9, gm 212 (by decide +kernel) (by decide +kernel), rfl, by decide, tyX9_ok, nmX9, rfl, by decide +kernel⟩
theorem fX0_9 : jF RX0 9 0 0 := ⟨RX0, TX0, 2, rfl, by decide, inX0, gm 236 (by decide +kernel) (by decide +kernel), rfl, by decide⟩
theorem pX0_9 : jFf RX0 9 0 0 (.array .long) := ⟨RX0, TX0, 2, tyX0, rfl, by decide, inX0, gm 236 (by decide +kernel) (by decide +kernel), rfl, by decide, tyX0_ok, nmX0, rfl, by decide +kernel, rfl⟩
theorem fX0_15 : jF RX0 15 0 1 := ⟨RX0, TX0, 2, rfl, by decide, inX0, gm 237 (by decide +kernel) (by decide +kernel), rfl, by decide⟩
theorem pX0_15 : jFp RX0 15 0 1 .int := ⟨RX0, TX0, 2, tyX0, rfl, by decide, inX0, gm 237 (by decide +kernel) (by decide +kernel), rfl, by decide, tyX0_ok, nmX0, rfl, by decide +kernel⟩
theorem fX1_9 : jF RX1 9 1 0 := ⟨RX1, TX1, 3, rfl, by decide, inX1, gm 249 (by decide +kernel) (by decide +kernel), rfl, by decide⟩
theorem pX1_9 : jFf RX1 9 1 0 (.array .boolean) := ⟨RX1, TX1, 3, tyX1, rfl, by decide, inX1, gm 249 (by decide +kernel) (by decide +kernel), rfl, by decide, tyX1_ok, nmX1, rfl, by decide +kernel, rfl⟩
theorem fX1_19 : jF RX1 19 1 1 := ⟨RX1, TX1, 3, rfl, by decide, inX1, gm 250 (by decide +kernel) (by decide +kernel), rfl, by decide⟩
theorem pX1_19 : jFf RX1 19 1 1 (.array .int) := ⟨RX1, TX1, 3, tyX1, rfl, by decide, inX1, gm 250 (by decide +kernel) (by decide +kernel), rfl, by decide, tyX1_ok, nmX1, rfl, by decide +kernel, rfl⟩
theorem fX1_15 : jF RX1 15 1 2 := ⟨RX1, TX1, 3, rfl, by decide, inX1, gm 251 (by decide +kernel) (by decide +kernel), rfl, by decide⟩
theorem pX1_15 : jFp RX1 15 1 2 .int := ⟨RX1, TX1, 3, tyX1, rfl, by decide, inX1, gm 251 (by decide +kernel) (by decide +kernel), rfl, by decide, tyX1_ok, nmX1, rfl, by decide +kernel⟩
theorem fX6_15 : jF RX6 15 6 0 := ⟨RX6, TX6, 3, rfl, by decide, inX6, gm 265 (by decide +kernel) (by decide +kernel), rfl, by decide⟩
theorem pX6_15 : jFp RX6 15 6 0 .int := ⟨RX6, TX6, 3, tyX6, rfl, by decide, inX6, gm 265 (by decide +kernel) (by decide +kernel), rfl, by decide, tyX6_ok, nmX6, rfl, by decide +kernel⟩
theorem fX6_18 : jF RX6 18 6 1 := ⟨RX6, TX6, 3, rfl, by decide, inX6, gm 266 (by decide +kernel) (by decide +kernel), rfl, by decide⟩
theorem pX6_18 : jFp RX6 18 6 1 .int := ⟨RX6, TX6, 3, tyX6, rfl, by decide, inX6, gm 266 (by decide +kernel) (by decide +kernel), rfl, by decide, tyX6_ok, nmX6, rfl, by decide +kernel⟩
theorem fX6_9 : jF RX6 9 6 2 := ⟨RX6, TX6, 3, rfl, by decide, inX6, gm 267 (by decide +kernel) (by decide +kernel), rfl, by decide⟩
theorem pX6_9 : jFp RX6 9 6 2 .int := ⟨RX6, TX6, 3, tyX6, rfl, by decide, inX6, gm 267 (by decide +kernel) (by decide +kernel), rfl, by decide, tyX6_ok, nmX6, rfl, by decide +kernel⟩
theorem fX11_10 : jF RX11 10 10 0 := ⟨RX11, TX11, 12, rfl, by decide, inX11, gm 275 (by decide +kernel) (by decide +kernel), rfl, by decide⟩
theorem pX11_10 : jFf RX11 10 10 0 (.object "TableStreams$Log") := ⟨RX11, TX11, 12, tyX11, rfl, by decide, inX11, gm 275 (by decide +kernel) (by decide +kernel), rfl, by decide, tyX11_ok, nmX11, rfl, by decide +kernel, rfl⟩
theorem fX11_19 : jF RX11 19 10 1 := ⟨RX11, TX11, 12, rfl, by decide, inX11, gm 276 (by decide +kernel) (by decide +kernel), rfl, by decide⟩
theorem pX11_19 : jFf RX11 19 10 1 (.object "TableStreams$Tape") := ⟨RX11, TX11, 12, tyX11, rfl, by decide, inX11, gm 276 (by decide +kernel) (by decide +kernel), rfl, by decide, tyX11_ok, nmX11, rfl, by decide +kernel, rfl⟩
theorem fX11_26 : jF RX11 26 10 2 := ⟨RX11, TX11, 12, rfl, by decide, inX11, gm 277 (by decide +kernel) (by decide +kernel), rfl, by decide⟩
theorem pX11_26 : jFf RX11 26 10 2 (.object "TableStreams$Parser") := ⟨RX11, TX11, 12, tyX11, rfl, by decide, inX11, gm 277 (by decide +kernel) (by decide +kernel), rfl, by decide, tyX11_ok, nmX11, rfl, by decide +kernel, rfl⟩
theorem fX11_33 : jF RX11 33 10 3 := ⟨RX11, TX11, 12, rfl, by decide, inX11, gm 278 (by decide +kernel) (by decide +kernel), rfl, by decide⟩
theorem pX11_33 : jFf RX11 33 10 3 (.object "TableStreams$Tables") := ⟨RX11, TX11, 12, tyX11, rfl, by decide, inX11, gm 278 (by decide +kernel) (by decide +kernel), rfl, by decide, tyX11_ok, nmX11, rfl, by decide +kernel, rfl⟩
theorem fX11_40 : jF RX11 40 10 4 := ⟨RX11, TX11, 12, rfl, by decide, inX11, gm 279 (by decide +kernel) (by decide +kernel), rfl, by decide⟩
theorem pX11_40 : jFf RX11 40 10 4 (.object "TableStreams$Changes") := ⟨RX11, TX11, 12, tyX11, rfl, by decide, inX11, gm 279 (by decide +kernel) (by decide +kernel), rfl, by decide, tyX11_ok, nmX11, rfl, by decide +kernel, rfl⟩
theorem fX11_44 : jF RX11 44 10 5 := ⟨RX11, TX11, 12, rfl, by decide, inX11, gm 280 (by decide +kernel) (by decide +kernel), rfl, by decide⟩
theorem pX11_44 : jFf RX11 44 10 5 (.object "TableStreams$Changes") := ⟨RX11, TX11, 12, tyX11, rfl, by decide, inX11, gm 280 (by decide +kernel) (by decide +kernel), rfl, by decide, tyX11_ok, nmX11, rfl, by decide +kernel, rfl⟩
theorem fX11_50 : jF RX11 50 10 6 := ⟨RX11, TX11, 12, rfl, by decide, inX11, gm 281 (by decide +kernel) (by decide +kernel), rfl, by decide⟩
theorem pX11_50 : jFf RX11 50 10 6 (.object "TableStreams$Hosts") := ⟨RX11, TX11, 12, tyX11, rfl, by decide, inX11, gm 281 (by decide +kernel) (by decide +kernel), rfl, by decide, tyX11_ok, nmX11, rfl, by decide +kernel, rfl⟩
theorem fX11_57 : jF RX11 57 10 7 := ⟨RX11, TX11, 12, rfl, by decide, inX11, gm 282 (by decide +kernel) (by decide +kernel), rfl, by decide⟩
theorem pX11_57 : jFf RX11 57 10 7 (.object "TableStreams$Progress") := ⟨RX11, TX11, 12, tyX11, rfl, by decide, inX11, gm 282 (by decide +kernel) (by decide +kernel), rfl, by decide, tyX11_ok, nmX11, rfl, by decide +kernel, rfl⟩
theorem fX11_61 : jF RX11 61 10 8 := ⟨RX11, TX11, 12, rfl, by decide, inX11, gm 283 (by decide +kernel) (by decide +kernel), rfl, by decide⟩
theorem pX11_61 : jFf RX11 61 10 8 (.object "TableStreams$Progress") := ⟨RX11, TX11, 12, tyX11, rfl, by decide, inX11, gm 283 (by decide +kernel) (by decide +kernel), rfl, by decide, tyX11_ok, nmX11, rfl, by decide +kernel, rfl⟩
theorem fX11_64 : jF RX11 64 10 9 := ⟨RX11, TX11, 12, rfl, by decide, inX11, gm 284 (by decide +kernel) (by decide +kernel), rfl, by decide⟩
theorem pX11_64 : jFp RX11 64 10 9 .int := ⟨RX11, TX11, 12, tyX11, rfl, by decide, inX11, gm 284 (by decide +kernel) (by decide +kernel), rfl, by decide, tyX11_ok, nmX11, rfl, by decide +kernel⟩
theorem fX11_68 : jF RX11 68 10 10 := ⟨RX11, TX11, 12, rfl, by decide, inX11, gm 285 (by decide +kernel) (by decide +kernel), rfl, by decide⟩
theorem pX11_68 : jFp RX11 68 10 10 .int := ⟨RX11, TX11, 12, tyX11, rfl, by decide, inX11, gm 285 (by decide +kernel) (by decide +kernel), rfl, by decide, tyX11_ok, nmX11, rfl, by decide +kernel⟩
theorem fX11_71 : jF RX11 71 10 11 := ⟨RX11, TX11, 12, rfl, by decide, inX11, gm 286 (by decide +kernel) (by decide +kernel), rfl, by decide⟩
theorem pX11_71 : jFp RX11 71 10 11 .int := ⟨RX11, TX11, 12, tyX11, rfl, by decide, inX11, gm 286 (by decide +kernel) (by decide +kernel), rfl, by decide, tyX11_ok, nmX11, rfl, by decide +kernel⟩
theorem kX7_11 : Cond.constant RX7 11 (1000000000) ∈ gw_tbl := gm 326 (by decide +kernel) (by decide +kernel)
theorem kX7_12 : Cond.constantLong RX7 12 (16383) ∈ gw_tbl := gm 616 (by decide +kernel) (by decide +kernel)
theorem kX7_14 : Cond.constantLong RX7 14 (2147483647) ∈ gw_tbl := gm 679 (by decide +kernel) (by decide +kernel)
theorem kX8_27 : Cond.constantLong RX8 27 (-1000000000) ∈ gw_tbl := gm 691 (by decide +kernel) (by decide +kernel)
theorem kX8_29 : Cond.constantLong RX8 29 (1000000000) ∈ gw_tbl := gm 692 (by decide +kernel) (by decide +kernel)
theorem kX7_26 : Cond.constant RX7 26 (-2000000000) ∈ gw_tbl := gm 728 (by decide +kernel) (by decide +kernel)
theorem kX11_169 : Cond.constant RX11 169 (-2000000000) ∈ gw_tbl := gm 810 (by decide +kernel) (by decide +kernel)
theorem kX0_23 : Cond.constant RX0 23 (-2000000000) ∈ gw_tbl := gm 822 (by decide +kernel) (by decide +kernel)
theorem fX12_120 : jF RX12 120 11 0 := ⟨RX12, TX12, 52, rfl, by decide, inX12, gm 887 (by decide +kernel) (by decide +kernel), rfl, by decide⟩
theorem pX12_120 : jFp RX12 120 11 0 .int := ⟨RX12, TX12, 52, tyX12, rfl, by decide, inX12, gm 887 (by decide +kernel) (by decide +kernel), rfl, by decide, tyX12_ok, nmX12, rfl, by decide +kernel⟩
theorem fX12_123 : jF RX12 123 11 1 := ⟨RX12, TX12, 52, rfl, by decide, inX12, gm 888 (by decide +kernel) (by decide +kernel), rfl, by decide⟩
theorem pX12_123 : jFp RX12 123 11 1 .int := ⟨RX12, TX12, 52, tyX12, rfl, by decide, inX12, gm 888 (by decide +kernel) (by decide +kernel), rfl, by decide, tyX12_ok, nmX12, rfl, by decide +kernel⟩
theorem fX12_144 : jF RX12 144 11 2 := ⟨RX12, TX12, 52, rfl, by decide, inX12, gm 889 (by decide +kernel) (by decide +kernel), rfl, by decide⟩
theorem pX12_144 : jFp RX12 144 11 2 .int := ⟨RX12, TX12, 52, tyX12, rfl, by decide, inX12, gm 889 (by decide +kernel) (by decide +kernel), rfl, by decide, tyX12_ok, nmX12, rfl, by decide +kernel⟩
theorem fX12_7 : jF RX12 7 11 3 := ⟨RX12, TX12, 52, rfl, by decide, inX12, gm 890 (by decide +kernel) (by decide +kernel), rfl, by decide⟩
theorem pX12_7 : jFf RX12 7 11 3 (.array .int) := ⟨RX12, TX12, 52, tyX12, rfl, by decide, inX12, gm 890 (by decide +kernel) (by decide +kernel), rfl, by decide, tyX12_ok, nmX12, rfl, by decide +kernel, rfl⟩
theorem fX12_13 : jF RX12 13 11 4 := ⟨RX12, TX12, 52, rfl, by decide, inX12, gm 891 (by decide +kernel) (by decide +kernel), rfl, by decide⟩
theorem pX12_13 : jFf RX12 13 11 4 (.array .int) := ⟨RX12, TX12, 52, tyX12, rfl, by decide, inX12, gm 891 (by decide +kernel) (by decide +kernel), rfl, by decide, tyX12_ok, nmX12, rfl, by decide +kernel, rfl⟩
theorem fX12_16 : jF RX12 16 11 5 := ⟨RX12, TX12, 52, rfl, by decide, inX12, gm 892 (by decide +kernel) (by decide +kernel), rfl, by decide⟩
theorem pX12_16 : jFf RX12 16 11 5 (.array .int) := ⟨RX12, TX12, 52, tyX12, rfl, by decide, inX12, gm 892 (by decide +kernel) (by decide +kernel), rfl, by decide, tyX12_ok, nmX12, rfl, by decide +kernel, rfl⟩
theorem fX12_19 : jF RX12 19 11 6 := ⟨RX12, TX12, 52, rfl, by decide, inX12, gm 893 (by decide +kernel) (by decide +kernel), rfl, by decide⟩
theorem pX12_19 : jFf RX12 19 11 6 (.array .int) := ⟨RX12, TX12, 52, tyX12, rfl, by decide, inX12, gm 893 (by decide +kernel) (by decide +kernel), rfl, by decide, tyX12_ok, nmX12, rfl, by decide +kernel, rfl⟩
theorem fX12_22 : jF RX12 22 11 7 := ⟨RX12, TX12, 52, rfl, by decide, inX12, gm 894 (by decide +kernel) (by decide +kernel), rfl, by decide⟩
theorem pX12_22 : jFf RX12 22 11 7 (.array .boolean) := ⟨RX12, TX12, 52, tyX12, rfl, by decide, inX12, gm 894 (by decide +kernel) (by decide +kernel), rfl, by decide, tyX12_ok, nmX12, rfl, by decide +kernel, rfl⟩
theorem fX12_26 : jF RX12 26 11 8 := ⟨RX12, TX12, 52, rfl, by decide, inX12, gm 895 (by decide +kernel) (by decide +kernel), rfl, by decide⟩
theorem pX12_26 : jFp RX12 26 11 8 .int := ⟨RX12, TX12, 52, tyX12, rfl, by decide, inX12, gm 895 (by decide +kernel) (by decide +kernel), rfl, by decide, tyX12_ok, nmX12, rfl, by decide +kernel⟩
theorem fX12_187 : jF RX12 187 11 9 := ⟨RX12, TX12, 52, rfl, by decide, inX12, gm 896 (by decide +kernel) (by decide +kernel), rfl, by decide⟩
theorem pX12_187 : jFp RX12 187 11 9 .int := ⟨RX12, TX12, 52, tyX12, rfl, by decide, inX12, gm 896 (by decide +kernel) (by decide +kernel), rfl, by decide, tyX12_ok, nmX12, rfl, by decide +kernel⟩
theorem fX12_209 : jF RX12 209 11 10 := ⟨RX12, TX12, 52, rfl, by decide, inX12, gm 897 (by decide +kernel) (by decide +kernel), rfl, by decide⟩
theorem pX12_209 : jFp RX12 209 11 10 .int := ⟨RX12, TX12, 52, tyX12, rfl, by decide, inX12, gm 897 (by decide +kernel) (by decide +kernel), rfl, by decide, tyX12_ok, nmX12, rfl, by decide +kernel⟩
theorem fX12_173 : jF RX12 173 11 11 := ⟨RX12, TX12, 52, rfl, by decide, inX12, gm 898 (by decide +kernel) (by decide +kernel), rfl, by decide⟩
theorem pX12_173 : jFp RX12 173 11 11 .int := ⟨RX12, TX12, 52, tyX12, rfl, by decide, inX12, gm 898 (by decide +kernel) (by decide +kernel), rfl, by decide, tyX12_ok, nmX12, rfl, by decide +kernel⟩
theorem fX12_30 : jF RX12 30 11 12 := ⟨RX12, TX12, 52, rfl, by decide, inX12, gm 899 (by decide +kernel) (by decide +kernel), rfl, by decide⟩
theorem pX12_30 : jFf RX12 30 11 12 (.array .int) := ⟨RX12, TX12, 52, tyX12, rfl, by decide, inX12, gm 899 (by decide +kernel) (by decide +kernel), rfl, by decide, tyX12_ok, nmX12, rfl, by decide +kernel, rfl⟩
theorem fX12_33 : jF RX12 33 11 13 := ⟨RX12, TX12, 52, rfl, by decide, inX12, gm 900 (by decide +kernel) (by decide +kernel), rfl, by decide⟩
theorem pX12_33 : jFf RX12 33 11 13 (.array .int) := ⟨RX12, TX12, 52, tyX12, rfl, by decide, inX12, gm 900 (by decide +kernel) (by decide +kernel), rfl, by decide, tyX12_ok, nmX12, rfl, by decide +kernel, rfl⟩
theorem fX12_36 : jF RX12 36 11 14 := ⟨RX12, TX12, 52, rfl, by decide, inX12, gm 901 (by decide +kernel) (by decide +kernel), rfl, by decide⟩
theorem pX12_36 : jFf RX12 36 11 14 (.array .int) := ⟨RX12, TX12, 52, tyX12, rfl, by decide, inX12, gm 901 (by decide +kernel) (by decide +kernel), rfl, by decide, tyX12_ok, nmX12, rfl, by decide +kernel, rfl⟩
theorem fX12_39 : jF RX12 39 11 15 := ⟨RX12, TX12, 52, rfl, by decide, inX12, gm 902 (by decide +kernel) (by decide +kernel), rfl, by decide⟩
theorem pX12_39 : jFf RX12 39 11 15 (.array .int) := ⟨RX12, TX12, 52, tyX12, rfl, by decide, inX12, gm 902 (by decide +kernel) (by decide +kernel), rfl, by decide, tyX12_ok, nmX12, rfl, by decide +kernel, rfl⟩
theorem fX12_42 : jF RX12 42 11 16 := ⟨RX12, TX12, 52, rfl, by decide, inX12, gm 903 (by decide +kernel) (by decide +kernel), rfl, by decide⟩
theorem pX12_42 : jFf RX12 42 11 16 (.array .int) := ⟨RX12, TX12, 52, tyX12, rfl, by decide, inX12, gm 903 (by decide +kernel) (by decide +kernel), rfl, by decide, tyX12_ok, nmX12, rfl, by decide +kernel, rfl⟩
theorem fX12_45 : jF RX12 45 11 17 := ⟨RX12, TX12, 52, rfl, by decide, inX12, gm 904 (by decide +kernel) (by decide +kernel), rfl, by decide⟩
theorem pX12_45 : jFf RX12 45 11 17 (.array .int) := ⟨RX12, TX12, 52, tyX12, rfl, by decide, inX12, gm 904 (by decide +kernel) (by decide +kernel), rfl, by decide, tyX12_ok, nmX12, rfl, by decide +kernel, rfl⟩
theorem fX12_48 : jF RX12 48 11 18 := ⟨RX12, TX12, 52, rfl, by decide, inX12, gm 905 (by decide +kernel) (by decide +kernel), rfl, by decide⟩
theorem pX12_48 : jFf RX12 48 11 18 (.array .int) := ⟨RX12, TX12, 52, tyX12, rfl, by decide, inX12, gm 905 (by decide +kernel) (by decide +kernel), rfl, by decide, tyX12_ok, nmX12, rfl, by decide +kernel, rfl⟩
theorem fX12_51 : jF RX12 51 11 19 := ⟨RX12, TX12, 52, rfl, by decide, inX12, gm 906 (by decide +kernel) (by decide +kernel), rfl, by decide⟩
theorem pX12_51 : jFf RX12 51 11 19 (.array .int) := ⟨RX12, TX12, 52, tyX12, rfl, by decide, inX12, gm 906 (by decide +kernel) (by decide +kernel), rfl, by decide, tyX12_ok, nmX12, rfl, by decide +kernel, rfl⟩
theorem fX12_54 : jF RX12 54 11 20 := ⟨RX12, TX12, 52, rfl, by decide, inX12, gm 907 (by decide +kernel) (by decide +kernel), rfl, by decide⟩
theorem pX12_54 : jFf RX12 54 11 20 (.array .int) := ⟨RX12, TX12, 52, tyX12, rfl, by decide, inX12, gm 907 (by decide +kernel) (by decide +kernel), rfl, by decide, tyX12_ok, nmX12, rfl, by decide +kernel, rfl⟩
theorem fX12_57 : jF RX12 57 11 21 := ⟨RX12, TX12, 52, rfl, by decide, inX12, gm 908 (by decide +kernel) (by decide +kernel), rfl, by decide⟩
theorem pX12_57 : jFf RX12 57 11 21 (.array .int) := ⟨RX12, TX12, 52, tyX12, rfl, by decide, inX12, gm 908 (by decide +kernel) (by decide +kernel), rfl, by decide, tyX12_ok, nmX12, rfl, by decide +kernel, rfl⟩
theorem fX12_60 : jF RX12 60 11 22 := ⟨RX12, TX12, 52, rfl, by decide, inX12, gm 909 (by decide +kernel) (by decide +kernel), rfl, by decide⟩
theorem pX12_60 : jFf RX12 60 11 22 (.array .int) := ⟨RX12, TX12, 52, tyX12, rfl, by decide, inX12, gm 909 (by decide +kernel) (by decide +kernel), rfl, by decide, tyX12_ok, nmX12, rfl, by decide +kernel, rfl⟩
theorem fX12_63 : jF RX12 63 11 23 := ⟨RX12, TX12, 52, rfl, by decide, inX12, gm 910 (by decide +kernel) (by decide +kernel), rfl, by decide⟩
theorem pX12_63 : jFf RX12 63 11 23 (.array .int) := ⟨RX12, TX12, 52, tyX12, rfl, by decide, inX12, gm 910 (by decide +kernel) (by decide +kernel), rfl, by decide, tyX12_ok, nmX12, rfl, by decide +kernel, rfl⟩
theorem fX12_66 : jF RX12 66 11 24 := ⟨RX12, TX12, 52, rfl, by decide, inX12, gm 911 (by decide +kernel) (by decide +kernel), rfl, by decide⟩
theorem pX12_66 : jFf RX12 66 11 24 (.array .int) := ⟨RX12, TX12, 52, tyX12, rfl, by decide, inX12, gm 911 (by decide +kernel) (by decide +kernel), rfl, by decide, tyX12_ok, nmX12, rfl, by decide +kernel, rfl⟩
theorem fX12_147 : jF RX12 147 11 25 := ⟨RX12, TX12, 52, rfl, by decide, inX12, gm 912 (by decide +kernel) (by decide +kernel), rfl, by decide⟩
theorem pX12_147 : jFp RX12 147 11 25 .boolean := ⟨RX12, TX12, 52, tyX12, rfl, by decide, inX12, gm 912 (by decide +kernel) (by decide +kernel), rfl, by decide, tyX12_ok, nmX12, rfl, by decide +kernel⟩
theorem fX12_184 : jF RX12 184 11 26 := ⟨RX12, TX12, 52, rfl, by decide, inX12, gm 913 (by decide +kernel) (by decide +kernel), rfl, by decide⟩
theorem pX12_184 : jFp RX12 184 11 26 .int := ⟨RX12, TX12, 52, tyX12, rfl, by decide, inX12, gm 913 (by decide +kernel) (by decide +kernel), rfl, by decide, tyX12_ok, nmX12, rfl, by decide +kernel⟩
theorem fX12_69 : jF RX12 69 11 27 := ⟨RX12, TX12, 52, rfl, by decide, inX12, gm 914 (by decide +kernel) (by decide +kernel), rfl, by decide⟩
theorem pX12_69 : jFf RX12 69 11 27 (.array .int) := ⟨RX12, TX12, 52, tyX12, rfl, by decide, inX12, gm 914 (by decide +kernel) (by decide +kernel), rfl, by decide, tyX12_ok, nmX12, rfl, by decide +kernel, rfl⟩
theorem fX12_72 : jF RX12 72 11 28 := ⟨RX12, TX12, 52, rfl, by decide, inX12, gm 915 (by decide +kernel) (by decide +kernel), rfl, by decide⟩
theorem pX12_72 : jFf RX12 72 11 28 (.array .int) := ⟨RX12, TX12, 52, tyX12, rfl, by decide, inX12, gm 915 (by decide +kernel) (by decide +kernel), rfl, by decide, tyX12_ok, nmX12, rfl, by decide +kernel, rfl⟩
theorem fX12_75 : jF RX12 75 11 29 := ⟨RX12, TX12, 52, rfl, by decide, inX12, gm 916 (by decide +kernel) (by decide +kernel), rfl, by decide⟩
theorem pX12_75 : jFf RX12 75 11 29 (.array .int) := ⟨RX12, TX12, 52, tyX12, rfl, by decide, inX12, gm 916 (by decide +kernel) (by decide +kernel), rfl, by decide, tyX12_ok, nmX12, rfl, by decide +kernel, rfl⟩
theorem fX12_78 : jF RX12 78 11 30 := ⟨RX12, TX12, 52, rfl, by decide, inX12, gm 917 (by decide +kernel) (by decide +kernel), rfl, by decide⟩
theorem pX12_78 : jFf RX12 78 11 30 (.array .int) := ⟨RX12, TX12, 52, tyX12, rfl, by decide, inX12, gm 917 (by decide +kernel) (by decide +kernel), rfl, by decide, tyX12_ok, nmX12, rfl, by decide +kernel, rfl⟩
theorem fX12_212 : jF RX12 212 11 31 := ⟨RX12, TX12, 52, rfl, by decide, inX12, gm 918 (by decide +kernel) (by decide +kernel), rfl, by decide⟩
theorem pX12_212 : jFp RX12 212 11 31 .int := ⟨RX12, TX12, 52, tyX12, rfl, by decide, inX12, gm 918 (by decide +kernel) (by decide +kernel), rfl, by decide, tyX12_ok, nmX12, rfl, by decide +kernel⟩
theorem fX12_81 : jF RX12 81 11 32 := ⟨RX12, TX12, 52, rfl, by decide, inX12, gm 919 (by decide +kernel) (by decide +kernel), rfl, by decide⟩
theorem pX12_81 : jFf RX12 81 11 32 (.array .int) := ⟨RX12, TX12, 52, tyX12, rfl, by decide, inX12, gm 919 (by decide +kernel) (by decide +kernel), rfl, by decide, tyX12_ok, nmX12, rfl, by decide +kernel, rfl⟩
theorem fX12_84 : jF RX12 84 11 33 := ⟨RX12, TX12, 52, rfl, by decide, inX12, gm 920 (by decide +kernel) (by decide +kernel), rfl, by decide⟩
theorem pX12_84 : jFf RX12 84 11 33 (.array .int) := ⟨RX12, TX12, 52, tyX12, rfl, by decide, inX12, gm 920 (by decide +kernel) (by decide +kernel), rfl, by decide, tyX12_ok, nmX12, rfl, by decide +kernel, rfl⟩
theorem fX12_87 : jF RX12 87 11 34 := ⟨RX12, TX12, 52, rfl, by decide, inX12, gm 921 (by decide +kernel) (by decide +kernel), rfl, by decide⟩
theorem pX12_87 : jFf RX12 87 11 34 (.array .int) := ⟨RX12, TX12, 52, tyX12, rfl, by decide, inX12, gm 921 (by decide +kernel) (by decide +kernel), rfl, by decide, tyX12_ok, nmX12, rfl, by decide +kernel, rfl⟩
theorem fX12_90 : jF RX12 90 11 35 := ⟨RX12, TX12, 52, rfl, by decide, inX12, gm 922 (by decide +kernel) (by decide +kernel), rfl, by decide⟩
theorem pX12_90 : jFf RX12 90 11 35 (.array .int) := ⟨RX12, TX12, 52, tyX12, rfl, by decide, inX12, gm 922 (by decide +kernel) (by decide +kernel), rfl, by decide, tyX12_ok, nmX12, rfl, by decide +kernel, rfl⟩
theorem fX12_280 : jF RX12 280 11 36 := ⟨RX12, TX12, 52, rfl, by decide, inX12, gm 923 (by decide +kernel) (by decide +kernel), rfl, by decide⟩
theorem pX12_280 : jFp RX12 280 11 36 .int := ⟨RX12, TX12, 52, tyX12, rfl, by decide, inX12, gm 923 (by decide +kernel) (by decide +kernel), rfl, by decide, tyX12_ok, nmX12, rfl, by decide +kernel⟩
theorem fX12_93 : jF RX12 93 11 37 := ⟨RX12, TX12, 52, rfl, by decide, inX12, gm 924 (by decide +kernel) (by decide +kernel), rfl, by decide⟩
theorem pX12_93 : jFf RX12 93 11 37 (.array .int) := ⟨RX12, TX12, 52, tyX12, rfl, by decide, inX12, gm 924 (by decide +kernel) (by decide +kernel), rfl, by decide, tyX12_ok, nmX12, rfl, by decide +kernel, rfl⟩
theorem fX12_96 : jF RX12 96 11 38 := ⟨RX12, TX12, 52, rfl, by decide, inX12, gm 925 (by decide +kernel) (by decide +kernel), rfl, by decide⟩
theorem pX12_96 : jFf RX12 96 11 38 (.array .int) := ⟨RX12, TX12, 52, tyX12, rfl, by decide, inX12, gm 925 (by decide +kernel) (by decide +kernel), rfl, by decide, tyX12_ok, nmX12, rfl, by decide +kernel, rfl⟩
theorem fX12_99 : jF RX12 99 11 39 := ⟨RX12, TX12, 52, rfl, by decide, inX12, gm 926 (by decide +kernel) (by decide +kernel), rfl, by decide⟩
theorem pX12_99 : jFf RX12 99 11 39 (.array .int) := ⟨RX12, TX12, 52, tyX12, rfl, by decide, inX12, gm 926 (by decide +kernel) (by decide +kernel), rfl, by decide, tyX12_ok, nmX12, rfl, by decide +kernel, rfl⟩
theorem fX12_102 : jF RX12 102 11 40 := ⟨RX12, TX12, 52, rfl, by decide, inX12, gm 927 (by decide +kernel) (by decide +kernel), rfl, by decide⟩
theorem pX12_102 : jFf RX12 102 11 40 (.array .int) := ⟨RX12, TX12, 52, tyX12, rfl, by decide, inX12, gm 927 (by decide +kernel) (by decide +kernel), rfl, by decide, tyX12_ok, nmX12, rfl, by decide +kernel, rfl⟩
theorem fX12_105 : jF RX12 105 11 41 := ⟨RX12, TX12, 52, rfl, by decide, inX12, gm 928 (by decide +kernel) (by decide +kernel), rfl, by decide⟩
theorem pX12_105 : jFf RX12 105 11 41 (.array .int) := ⟨RX12, TX12, 52, tyX12, rfl, by decide, inX12, gm 928 (by decide +kernel) (by decide +kernel), rfl, by decide, tyX12_ok, nmX12, rfl, by decide +kernel, rfl⟩
theorem fX12_108 : jF RX12 108 11 42 := ⟨RX12, TX12, 52, rfl, by decide, inX12, gm 929 (by decide +kernel) (by decide +kernel), rfl, by decide⟩
theorem pX12_108 : jFf RX12 108 11 42 (.array .int) := ⟨RX12, TX12, 52, tyX12, rfl, by decide, inX12, gm 929 (by decide +kernel) (by decide +kernel), rfl, by decide, tyX12_ok, nmX12, rfl, by decide +kernel, rfl⟩
theorem fX12_111 : jF RX12 111 11 43 := ⟨RX12, TX12, 52, rfl, by decide, inX12, gm 930 (by decide +kernel) (by decide +kernel), rfl, by decide⟩
theorem pX12_111 : jFf RX12 111 11 43 (.array .int) := ⟨RX12, TX12, 52, tyX12, rfl, by decide, inX12, gm 930 (by decide +kernel) (by decide +kernel), rfl, by decide, tyX12_ok, nmX12, rfl, by decide +kernel, rfl⟩
theorem fX12_223 : jF RX12 223 11 44 := ⟨RX12, TX12, 52, rfl, by decide, inX12, gm 931 (by decide +kernel) (by decide +kernel), rfl, by decide⟩
theorem pX12_223 : jFp RX12 223 11 44 .int := ⟨RX12, TX12, 52, tyX12, rfl, by decide, inX12, gm 931 (by decide +kernel) (by decide +kernel), rfl, by decide, tyX12_ok, nmX12, rfl, by decide +kernel⟩
theorem fX12_232 : jF RX12 232 11 45 := ⟨RX12, TX12, 52, rfl, by decide, inX12, gm 932 (by decide +kernel) (by decide +kernel), rfl, by decide⟩
theorem pX12_232 : jFp RX12 232 11 45 .int := ⟨RX12, TX12, 52, tyX12, rfl, by decide, inX12, gm 932 (by decide +kernel) (by decide +kernel), rfl, by decide, tyX12_ok, nmX12, rfl, by decide +kernel⟩
theorem fX12_229 : jF RX12 229 11 46 := ⟨RX12, TX12, 52, rfl, by decide, inX12, gm 933 (by decide +kernel) (by decide +kernel), rfl, by decide⟩
theorem pX12_229 : jFp RX12 229 11 46 .int := ⟨RX12, TX12, 52, tyX12, rfl, by decide, inX12, gm 933 (by decide +kernel) (by decide +kernel), rfl, by decide, tyX12_ok, nmX12, rfl, by decide +kernel⟩
theorem fX12_245 : jF RX12 245 11 47 := ⟨RX12, TX12, 52, rfl, by decide, inX12, gm 934 (by decide +kernel) (by decide +kernel), rfl, by decide⟩
theorem pX12_245 : jFp RX12 245 11 47 .int := ⟨RX12, TX12, 52, tyX12, rfl, by decide, inX12, gm 934 (by decide +kernel) (by decide +kernel), rfl, by decide, tyX12_ok, nmX12, rfl, by decide +kernel⟩
theorem fX12_235 : jF RX12 235 11 48 := ⟨RX12, TX12, 52, rfl, by decide, inX12, gm 935 (by decide +kernel) (by decide +kernel), rfl, by decide⟩
theorem pX12_235 : jFp RX12 235 11 48 .long := ⟨RX12, TX12, 52, tyX12, rfl, by decide, inX12, gm 935 (by decide +kernel) (by decide +kernel), rfl, by decide, tyX12_ok, nmX12, rfl, by decide +kernel⟩
theorem fX12_114 : jF RX12 114 11 49 := ⟨RX12, TX12, 52, rfl, by decide, inX12, gm 936 (by decide +kernel) (by decide +kernel), rfl, by decide⟩
theorem pX12_114 : jFp RX12 114 11 49 .int := ⟨RX12, TX12, 52, tyX12, rfl, by decide, inX12, gm 936 (by decide +kernel) (by decide +kernel), rfl, by decide, tyX12_ok, nmX12, rfl, by decide +kernel⟩
theorem fX12_256 : jF RX12 256 11 50 := ⟨RX12, TX12, 52, rfl, by decide, inX12, gm 937 (by decide +kernel) (by decide +kernel), rfl, by decide⟩
theorem pX12_256 : jFp RX12 256 11 50 .boolean := ⟨RX12, TX12, 52, tyX12, rfl, by decide, inX12, gm 937 (by decide +kernel) (by decide +kernel), rfl, by decide, tyX12_ok, nmX12, rfl, by decide +kernel⟩
theorem fX12_117 : jF RX12 117 11 51 := ⟨RX12, TX12, 52, rfl, by decide, inX12, gm 938 (by decide +kernel) (by decide +kernel), rfl, by decide⟩
theorem pX12_117 : jFp RX12 117 11 51 .int := ⟨RX12, TX12, 52, tyX12, rfl, by decide, inX12, gm 938 (by decide +kernel) (by decide +kernel), rfl, by decide, tyX12_ok, nmX12, rfl, by decide +kernel⟩
theorem kX12_126 : Cond.constantLong RX12 126 (2) ∈ gw_tbl := gm 1048 (by decide +kernel) (by decide +kernel)
theorem kX12_132 : Cond.constantLong RX12 132 (31) ∈ gw_tbl := gm 1052 (by decide +kernel) (by decide +kernel)
theorem kX12_134 : Cond.constantLong RX12 134 (-1000) ∈ gw_tbl := gm 1053 (by decide +kernel) (by decide +kernel)
theorem kX12_136 : Cond.constantLong RX12 136 (1000) ∈ gw_tbl := gm 1054 (by decide +kernel) (by decide +kernel)
theorem kX12_138 : Cond.constantLong RX12 138 (10000) ∈ gw_tbl := gm 1055 (by decide +kernel) (by decide +kernel)
theorem kX12_203 : Cond.constantLong RX12 203 (150) ∈ gw_tbl := gm 1064 (by decide +kernel) (by decide +kernel)
theorem kX12_151 : Cond.constantLong RX12 151 (-1000000000) ∈ gw_tbl := gm 1085 (by decide +kernel) (by decide +kernel)
theorem kX12_153 : Cond.constantLong RX12 153 (1000000000) ∈ gw_tbl := gm 1086 (by decide +kernel) (by decide +kernel)
theorem kX12_218 : Cond.constantLong RX12 218 (-1) ∈ gw_tbl := gm 1131 (by decide +kernel) (by decide +kernel)
theorem kX12_248 : Cond.constantLong RX12 248 (32) ∈ gw_tbl := gm 1162 (by decide +kernel) (by decide +kernel)
theorem kX12_250 : Cond.constantLong RX12 250 (96) ∈ gw_tbl := gm 1163 (by decide +kernel) (by decide +kernel)
theorem kX12_252 : Cond.constantLong RX12 252 (10) ∈ gw_tbl := gm 1164 (by decide +kernel) (by decide +kernel)
theorem kX12_254 : Cond.constantLong RX12 254 (48) ∈ gw_tbl := gm 1165 (by decide +kernel) (by decide +kernel)
theorem kX12_299 : Cond.constant RX12 299 (-2000000000) ∈ gw_tbl := gm 1218 (by decide +kernel) (by decide +kernel)
theorem kX12_300 : Cond.constantLong RX12 300 (7) ∈ gw_tbl := gm 1227 (by decide +kernel) (by decide +kernel)
set_option maxRecDepth 40000 in
theorem cdX11_init : Cond.code yX11_init cX11_init 1 none ∈ gw_tbl := gm 80 (rfl) rfl
set_option maxRecDepth 40000 in
theorem cdX2_init : Cond.code yX2_init cX2_init 1 none ∈ gw_tbl := gm 88 (rfl) rfl
set_option maxRecDepth 40000 in
theorem cdX10_init : Cond.code yX10_init cX10_init 1 none ∈ gw_tbl := gm 106 (rfl) rfl
set_option maxRecDepth 40000 in
theorem cdX4_init : Cond.code yX4_init cX4_init 1 none ∈ gw_tbl := gm 126 (rfl) rfl
set_option maxRecDepth 40000 in
theorem cdX9_init : Cond.code yX9_init cX9_init 2 none ∈ gw_tbl := gm 136 (rfl) rfl
set_option maxRecDepth 40000 in
theorem cdX8_init : Cond.code yX8_init cX8_init 1 none ∈ gw_tbl := gm 143 (rfl) rfl
set_option maxRecDepth 40000 in
theorem cdX5_init : Cond.code yX5_init cX5_init 2 none ∈ gw_tbl := gm 159 (rfl) rfl
set_option maxRecDepth 40000 in
theorem cdX3_init : Cond.code yX3_init cX3_init 1 none ∈ gw_tbl := gm 166 (rfl) rfl
set_option maxRecDepth 40000 in
theorem cdX0_init : Cond.code yX0_init cX0_init 1 none ∈ gw_tbl := gm 234 (rfl) rfl
set_option maxRecDepth 40000 in
theorem cdX1_init : Cond.code yX1_init cX1_init 1 none ∈ gw_tbl := gm 247 (rfl) rfl
set_option maxRecDepth 40000 in
theorem cdX6_init : Cond.code yX6_init cX6_init 1 none ∈ gw_tbl := gm 263 (rfl) rfl
set_option maxRecDepth 40000 in
theorem cdX11_tell : Cond.code yX11_tell cX11_tell 5 (some .int) ∈ gw_tbl := gm 315 (rfl) rfl
set_option maxRecDepth 40000 in
theorem cdX11_isWithin : Cond.code yX11_isWithin cX11_isWithin 3 (some .boolean) ∈ gw_tbl := gm 318 (rfl) rfl
set_option maxRecDepth 40000 in
theorem cdX11_refuse : Cond.code yX11_refuse cX11_refuse 2 (some .int) ∈ gw_tbl := gm 322 (rfl) rfl
set_option maxRecDepth 40000 in
theorem cdX7_pack : Cond.code yX7_pack cX7_pack 5 (some .long) ∈ gw_tbl := gm 325 (rfl) rfl
set_option maxRecDepth 40000 in
theorem cdX2_add : Cond.code yX2_add cX2_add 4 (some .boolean) ∈ gw_tbl := gm 330 (rfl) rfl
set_option maxRecDepth 40000 in
theorem cdX2_size : Cond.code yX2_size cX2_size 1 (some .int) ∈ gw_tbl := gm 334 (rfl) rfl
set_option maxRecDepth 40000 in
theorem cdX11_grant : Cond.code yX11_grant cX11_grant 2 (some .int) ∈ gw_tbl := gm 338 (rfl) rfl
set_option maxRecDepth 40000 in
theorem cdX11_feed : Cond.code yX11_feed cX11_feed 6 (some .int) ∈ gw_tbl := gm 342 (rfl) rfl
set_option maxRecDepth 40000 in
theorem cdX10_hasRoomFor : Cond.code yX10_hasRoomFor cX10_hasRoomFor 2 (some .boolean) ∈ gw_tbl := gm 346 (rfl) rfl
set_option maxRecDepth 40000 in
theorem cdX10_addNumber : Cond.code yX10_addNumber cX10_addNumber 3 none ∈ gw_tbl := gm 350 (rfl) rfl
set_option maxRecDepth 40000 in
theorem cdX10_length : Cond.code yX10_length cX10_length 1 (some .int) ∈ gw_tbl := gm 354 (rfl) rfl
set_option maxRecDepth 40000 in
theorem cdX11_end : Cond.code yX11_end cX11_end 2 (some .int) ∈ gw_tbl := gm 358 (rfl) rfl
set_option maxRecDepth 40000 in
theorem cdX10_cut : Cond.code yX10_cut cX10_cut 2 none ∈ gw_tbl := gm 362 (rfl) rfl
set_option maxRecDepth 40000 in
theorem cdX11_tables : Cond.code yX11_tables cX11_tables 1 (some .int) ∈ gw_tbl := gm 372 (rfl) rfl
set_option maxRecDepth 40000 in
theorem cdX9_draft : Cond.code yX9_draft cX9_draft 1 (some (.object "TableStreams$Plan")) ∈ gw_tbl := gm 376 (rfl) rfl
set_option maxRecDepth 40000 in
theorem cdX4_parse : Cond.code yX4_parse cX4_parse 6 (some .int) ∈ gw_tbl := gm 380 (rfl) rfl
set_option maxRecDepth 40000 in
theorem cdX5_clear : Cond.code yX5_clear cX5_clear 1 none ∈ gw_tbl := gm 384 (rfl) rfl
set_option maxRecDepth 40000 in
theorem cdJ7_fill_53178 : Cond.code yJ7_fill_53178 cJ7_fill_53178 4 none ∈ gw_tbl := gm 387 (rfl) rfl
set_option maxRecDepth 40000 in
theorem cdX10_toFirstToken : Cond.code yX10_toFirstToken cX10_toFirstToken 1 none ∈ gw_tbl := gm 391 (rfl) rfl
set_option maxRecDepth 40000 in
theorem cdX10_toNextToken : Cond.code yX10_toNextToken cX10_toNextToken 1 none ∈ gw_tbl := gm 395 (rfl) rfl
set_option maxRecDepth 40000 in
theorem cdX10_isLetter : Cond.code yX10_isLetter cX10_isLetter 2 (some .boolean) ∈ gw_tbl := gm 399 (rfl) rfl
set_option maxRecDepth 40000 in
theorem cdX10_isDigit : Cond.code yX10_isDigit cX10_isDigit 2 (some .boolean) ∈ gw_tbl := gm 403 (rfl) rfl
set_option maxRecDepth 40000 in
theorem cdX5_at : Cond.code yX5_at cX5_at 2 (some (.object "TableStreams$Making")) ∈ gw_tbl := gm 407 (rfl) rfl
set_option maxRecDepth 40000 in
theorem cdX3_clear : Cond.code yX3_clear cX3_clear 1 none ∈ gw_tbl := gm 412 (rfl) rfl
set_option maxRecDepth 40000 in
theorem cdX4_takeNewName : Cond.code yX4_takeNewName cX4_takeNewName 3 (some .int) ∈ gw_tbl := gm 416 (rfl) rfl
set_option maxRecDepth 40000 in
theorem cdX10_letter : Cond.code yX10_letter cX10_letter 1 (some .int) ∈ gw_tbl := gm 420 (rfl) rfl
set_option maxRecDepth 40000 in
theorem cdX4_takeSign : Cond.code yX4_takeSign cX4_takeSign 3 (some .boolean) ∈ gw_tbl := gm 425 (rfl) rfl
set_option maxRecDepth 40000 in
theorem cdX10_isToken : Cond.code yX10_isToken cX10_isToken 2 (some .boolean) ∈ gw_tbl := gm 429 (rfl) rfl
set_option maxRecDepth 40000 in
theorem cdX4_takeKind : Cond.code yX4_takeKind cX4_takeKind 4 (some .boolean) ∈ gw_tbl := gm 433 (rfl) rfl
set_option maxRecDepth 40000 in
theorem cdX4_wordOf : Cond.code yX4_wordOf cX4_wordOf 1 (some (.object "java/lang/String")) ∈ gw_tbl := gm 436 (rfl) rfl
set_option maxRecDepth 40000 in
theorem cdX10_isToken_ : Cond.code yX10_isToken_ cX10_isToken_ 3 (some .boolean) ∈ gw_tbl := gm 453 (rfl) rfl
set_option maxRecDepth 40000 in
theorem cdJ0_length_8abf5 : Cond.code yJ0_length_8abf5 cJ0_length_8abf5 1 (some .int) ∈ gw_tbl := gm 457 (rfl) rfl
set_option maxRecDepth 40000 in
theorem cdJ0_coder_7d493 : Cond.code yJ0_coder_7d493 cJ0_coder_7d493 1 (some .byte) ∈ gw_tbl := gm 461 (rfl) rfl
set_option maxRecDepth 40000 in
theorem cdJ0_charAt_5068e : Cond.code yJ0_charAt_5068e cJ0_charAt_5068e 2 (some .char) ∈ gw_tbl := gm 467 (rfl) rfl
set_option maxRecDepth 40000 in
theorem cdJ0_isLatin1_aae02 : Cond.code yJ0_isLatin1_aae02 cJ0_isLatin1_aae02 1 (some .boolean) ∈ gw_tbl := gm 471 (rfl) rfl
set_option maxRecDepth 40000 in
theorem cdJ1_charAt_3b067 : Cond.code yJ1_charAt_3b067 cJ1_charAt_3b067 2 (some .char) ∈ gw_tbl := gm 474 (rfl) rfl
set_option maxRecDepth 40000 in
theorem cdJ0_checkIndex_df160 : Cond.code yJ0_checkIndex_df160 cJ0_checkIndex_df160 2 none ∈ gw_tbl := gm 477 (rfl) rfl
set_option maxRecDepth 40000 in
theorem cdJ3_checkIndex_8e157 : Cond.code yJ3_checkIndex_8e157 cJ3_checkIndex_8e157 3 (some .int) ∈ gw_tbl := gm 482 (rfl) rfl
set_option maxRecDepth 40000 in
theorem cdJ2_charAt_3b067 : Cond.code yJ2_charAt_3b067 cJ2_charAt_3b067 2 (some .char) ∈ gw_tbl := gm 485 (rfl) rfl
set_option maxRecDepth 40000 in
theorem cdJ2_checkIndex_2214a : Cond.code yJ2_checkIndex_2214a cJ2_checkIndex_2214a 2 none ∈ gw_tbl := gm 488 (rfl) rfl
set_option maxRecDepth 40000 in
theorem cdJ2_length_9d52b : Cond.code yJ2_length_9d52b cJ2_length_9d52b 1 (some .int) ∈ gw_tbl := gm 491 (rfl) rfl
set_option maxRecDepth 40000 in
theorem cdJ2_getChar_3b067 : Cond.code yJ2_getChar_3b067 cJ2_getChar_3b067 2 (some .char) ∈ gw_tbl := gm 495 (rfl) rfl
set_option maxRecDepth 40000 in
theorem cdX4_takeParts : Cond.code yX4_takeParts cX4_takeParts 3 (some .boolean) ∈ gw_tbl := gm 505 (rfl) rfl
set_option maxRecDepth 40000 in
theorem cdX4_takeDigits : Cond.code yX4_takeDigits cX4_takeDigits 6 (some .boolean) ∈ gw_tbl := gm 509 (rfl) rfl
set_option maxRecDepth 40000 in
theorem cdX10_digits : Cond.code yX10_digits cX10_digits 3 (some .int) ∈ gw_tbl := gm 513 (rfl) rfl
set_option maxRecDepth 40000 in
theorem cdX4_takeLeft : Cond.code yX4_takeLeft cX4_takeLeft 3 (some .boolean) ∈ gw_tbl := gm 518 (rfl) rfl
set_option maxRecDepth 40000 in
theorem cdX4_takeName : Cond.code yX4_takeName cX4_takeName 4 (some .int) ∈ gw_tbl := gm 522 (rfl) rfl
set_option maxRecDepth 40000 in
theorem cdX4_takeColumn : Cond.code yX4_takeColumn cX4_takeColumn 3 (some .boolean) ∈ gw_tbl := gm 526 (rfl) rfl
set_option maxRecDepth 40000 in
theorem cdX4_takeRelation : Cond.code yX4_takeRelation cX4_takeRelation 3 (some .boolean) ∈ gw_tbl := gm 533 (rfl) rfl
set_option maxRecDepth 40000 in
theorem cdX4_takeNumber : Cond.code yX4_takeNumber cX4_takeNumber 4 (some .boolean) ∈ gw_tbl := gm 537 (rfl) rfl
set_option maxRecDepth 40000 in
theorem cdX4_takeRight : Cond.code yX4_takeRight cX4_takeRight 3 (some .boolean) ∈ gw_tbl := gm 541 (rfl) rfl
set_option maxRecDepth 40000 in
theorem cdX10_place : Cond.code yX10_place cX10_place 1 (some .int) ∈ gw_tbl := gm 545 (rfl) rfl
set_option maxRecDepth 40000 in
theorem cdX5_add : Cond.code yX5_add cX5_add 1 none ∈ gw_tbl := gm 549 (rfl) rfl
set_option maxRecDepth 40000 in
theorem cdX10_isAtEnd : Cond.code yX10_isAtEnd cX10_isAtEnd 1 (some .boolean) ∈ gw_tbl := gm 553 (rfl) rfl
set_option maxRecDepth 40000 in
theorem cdX9_takeDraft : Cond.code yX9_takeDraft cX9_takeDraft 2 none ∈ gw_tbl := gm 557 (rfl) rfl
set_option maxRecDepth 40000 in
theorem cdX11_beginAnew : Cond.code yX11_beginAnew cX11_beginAnew 1 none ∈ gw_tbl := gm 561 (rfl) rfl
set_option maxRecDepth 40000 in
theorem cdX6_clear : Cond.code yX6_clear cX6_clear 1 none ∈ gw_tbl := gm 565 (rfl) rfl
set_option maxRecDepth 40000 in
theorem cdX0_clear : Cond.code yX0_clear cX0_clear 1 none ∈ gw_tbl := gm 569 (rfl) rfl
set_option maxRecDepth 40000 in
theorem cdX9_clear : Cond.code yX9_clear cX9_clear 2 none ∈ gw_tbl := gm 573 (rfl) rfl
set_option maxRecDepth 40000 in
theorem cdX8_clear : Cond.code yX8_clear cX8_clear 1 none ∈ gw_tbl := gm 577 (rfl) rfl
set_option maxRecDepth 40000 in
theorem cdX9_size : Cond.code yX9_size cX9_size 1 (some .int) ∈ gw_tbl := gm 581 (rfl) rfl
set_option maxRecDepth 40000 in
theorem cdX5_size : Cond.code yX5_size cX5_size 1 (some .int) ∈ gw_tbl := gm 585 (rfl) rfl
set_option maxRecDepth 40000 in
theorem cdX11_fault : Cond.code yX11_fault cX11_fault 1 (some .int) ∈ gw_tbl := gm 590 (rfl) rfl
set_option maxRecDepth 40000 in
theorem cdX11_late : Cond.code yX11_late cX11_late 3 (some .int) ∈ gw_tbl := gm 594 (rfl) rfl
set_option maxRecDepth 40000 in
theorem cdX11_read : Cond.code yX11_read cX11_read 4 (some .int) ∈ gw_tbl := gm 598 (rfl) rfl
set_option maxRecDepth 40000 in
theorem cdX6_rowsRead : Cond.code yX6_rowsRead cX6_rowsRead 1 (some .int) ∈ gw_tbl := gm 602 (rfl) rfl
set_option maxRecDepth 40000 in
theorem cdX11_readNext : Cond.code yX11_readNext cX11_readNext 6 (some .boolean) ∈ gw_tbl := gm 607 (rfl) rfl
set_option maxRecDepth 40000 in
theorem cdX2_rowAt : Cond.code yX2_rowAt cX2_rowAt 2 (some .long) ∈ gw_tbl := gm 611 (rfl) rfl
set_option maxRecDepth 40000 in
theorem cdX7_timeOf : Cond.code yX7_timeOf cX7_timeOf 2 (some .int) ∈ gw_tbl := gm 615 (rfl) rfl
set_option maxRecDepth 40000 in
theorem cdX6_greatestTime : Cond.code yX6_greatestTime cX6_greatestTime 1 (some .int) ∈ gw_tbl := gm 620 (rfl) rfl
set_option maxRecDepth 40000 in
theorem cdX2_sourceAt : Cond.code yX2_sourceAt cX2_sourceAt 2 (some .int) ∈ gw_tbl := gm 624 (rfl) rfl
set_option maxRecDepth 40000 in
theorem cdX9_offer : Cond.code yX9_offer cX9_offer 7 (some .boolean) ∈ gw_tbl := gm 628 (rfl) rfl
set_option maxRecDepth 40000 in
theorem cdX9_touches : Cond.code yX9_touches cX9_touches 2 (some .boolean) ∈ gw_tbl := gm 633 (rfl) rfl
set_option maxRecDepth 40000 in
theorem cdX9_has : Cond.code yX9_has cX9_has 2 (some .boolean) ∈ gw_tbl := gm 637 (rfl) rfl
set_option maxRecDepth 40000 in
theorem cdX8_copy : Cond.code yX8_copy cX8_copy 2 none ∈ gw_tbl := gm 642 (rfl) rfl
set_option maxRecDepth 40000 in
theorem cdX8_add : Cond.code yX8_add cX8_add 3 none ∈ gw_tbl := gm 649 (rfl) rfl
set_option maxRecDepth 40000 in
theorem cdX9_offeredOf : Cond.code yX9_offeredOf cX9_offeredOf 2 (some (.object "TableStreams$Rows")) ∈ gw_tbl := gm 653 (rfl) rfl
set_option maxRecDepth 40000 in
theorem cdX9_rowsOf : Cond.code yX9_rowsOf cX9_rowsOf 2 (some (.object "TableStreams$Rows")) ∈ gw_tbl := gm 657 (rfl) rfl
set_option maxRecDepth 40000 in
theorem cdX3_fill : Cond.code yX3_fill cX3_fill 5 none ∈ gw_tbl := gm 661 (rfl) rfl
set_option maxRecDepth 40000 in
theorem cdX3_fillByGroup : Cond.code yX3_fillByGroup cX3_fillByGroup 12 none ∈ gw_tbl := gm 666 (rfl) rfl
set_option maxRecDepth 40000 in
theorem cdX8_size : Cond.code yX8_size cX8_size 1 (some .int) ∈ gw_tbl := gm 670 (rfl) rfl
set_option maxRecDepth 40000 in
theorem cdX8_at : Cond.code yX8_at cX8_at 2 (some .long) ∈ gw_tbl := gm 674 (rfl) rfl
set_option maxRecDepth 40000 in
theorem cdX7_valueOf : Cond.code yX7_valueOf cX7_valueOf 2 (some .int) ∈ gw_tbl := gm 678 (rfl) rfl
set_option maxRecDepth 40000 in
theorem cdX7_groupOf : Cond.code yX7_groupOf cX7_groupOf 2 (some .long) ∈ gw_tbl := gm 682 (rfl) rfl
set_option maxRecDepth 40000 in
theorem cdX7_keyOf : Cond.code yX7_keyOf cX7_keyOf 2 (some .int) ∈ gw_tbl := gm 685 (rfl) rfl
set_option maxRecDepth 40000 in
theorem cdX8_add_ : Cond.code yX8_add_ cX8_add_ 5 none ∈ gw_tbl := gm 690 (rfl) rfl
set_option maxRecDepth 40000 in
theorem cdX3_fillByKey : Cond.code yX3_fillByKey cX3_fillByKey 6 none ∈ gw_tbl := gm 698 (rfl) rfl
set_option maxRecDepth 40000 in
theorem cdX3_fillByPairs : Cond.code yX3_fillByPairs cX3_fillByPairs 14 none ∈ gw_tbl := gm 703 (rfl) rfl
set_option maxRecDepth 40000 in
theorem cdX8_isFull : Cond.code yX8_isFull cX8_isFull 1 (some .boolean) ∈ gw_tbl := gm 707 (rfl) rfl
set_option maxRecDepth 40000 in
theorem cdX8_keys : Cond.code yX8_keys cX8_keys 3 (some .int) ∈ gw_tbl := gm 712 (rfl) rfl
set_option maxRecDepth 40000 in
theorem cdX3_fillWithout : Cond.code yX3_fillWithout cX3_fillWithout 7 none ∈ gw_tbl := gm 717 (rfl) rfl
set_option maxRecDepth 40000 in
theorem cdX3_addOne : Cond.code yX3_addOne cX3_addOne 8 none ∈ gw_tbl := gm 721 (rfl) rfl
set_option maxRecDepth 40000 in
theorem cdX7_partOf : Cond.code yX7_partOf cX7_partOf 3 (some .int) ∈ gw_tbl := gm 724 (rfl) rfl
set_option maxRecDepth 40000 in
theorem cdX3_holdsOf : Cond.code yX3_holdsOf cX3_holdsOf 2 (some .boolean) ∈ gw_tbl := gm 732 (rfl) rfl
set_option maxRecDepth 40000 in
theorem cdX8_sort : Cond.code yX8_sort cX8_sort 4 none ∈ gw_tbl := gm 737 (rfl) rfl
set_option maxRecDepth 40000 in
theorem cdX8_merge : Cond.code yX8_merge cX8_merge 9 none ∈ gw_tbl := gm 742 (rfl) rfl
set_option maxRecDepth 40000 in
theorem cdX9_answer : Cond.code yX9_answer cX9_answer 1 (some (.object "TableStreams$Rows")) ∈ gw_tbl := gm 746 (rfl) rfl
set_option maxRecDepth 40000 in
theorem cdX9_answerOffered : Cond.code yX9_answerOffered cX9_answerOffered 1 (some (.object "TableStreams$Rows")) ∈ gw_tbl := gm 750 (rfl) rfl
set_option maxRecDepth 40000 in
theorem cdX0_addDifference : Cond.code yX0_addDifference cX0_addDifference 4 (some .boolean) ∈ gw_tbl := gm 754 (rfl) rfl
set_option maxRecDepth 40000 in
theorem cdX0_addMissing : Cond.code yX0_addMissing cX0_addMissing 8 (some .boolean) ∈ gw_tbl := gm 758 (rfl) rfl
set_option maxRecDepth 40000 in
theorem cdX9_acceptOffer : Cond.code yX9_acceptOffer cX9_acceptOffer 3 none ∈ gw_tbl := gm 764 (rfl) rfl
set_option maxRecDepth 40000 in
theorem cdX6_step : Cond.code yX6_step cX6_step 3 none ∈ gw_tbl := gm 768 (rfl) rfl
set_option maxRecDepth 40000 in
theorem cdX11_mark : Cond.code yX11_mark cX11_mark 1 (some .int) ∈ gw_tbl := gm 773 (rfl) rfl
set_option maxRecDepth 40000 in
theorem cdX0_addAll : Cond.code yX0_addAll cX0_addAll 2 (some .boolean) ∈ gw_tbl := gm 777 (rfl) rfl
set_option maxRecDepth 40000 in
theorem cdX6_copy : Cond.code yX6_copy cX6_copy 2 none ∈ gw_tbl := gm 782 (rfl) rfl
set_option maxRecDepth 40000 in
theorem cdX9_keep : Cond.code yX9_keep cX9_keep 2 none ∈ gw_tbl := gm 786 (rfl) rfl
set_option maxRecDepth 40000 in
theorem cdX0_size : Cond.code yX0_size cX0_size 1 (some .int) ∈ gw_tbl := gm 790 (rfl) rfl
set_option maxRecDepth 40000 in
theorem cdX11_fall : Cond.code yX11_fall cX11_fall 1 (some .int) ∈ gw_tbl := gm 794 (rfl) rfl
set_option maxRecDepth 40000 in
theorem cdX9_restore : Cond.code yX9_restore cX9_restore 2 none ∈ gw_tbl := gm 798 (rfl) rfl
set_option maxRecDepth 40000 in
theorem cdX11_rows : Cond.code yX11_rows cX11_rows 2 (some .int) ∈ gw_tbl := gm 802 (rfl) rfl
set_option maxRecDepth 40000 in
theorem cdX11_row : Cond.code yX11_row cX11_row 4 (some .int) ∈ gw_tbl := gm 809 (rfl) rfl
set_option maxRecDepth 40000 in
theorem cdX11_out : Cond.code yX11_out cX11_out 3 (some .int) ∈ gw_tbl := gm 816 (rfl) rfl
set_option maxRecDepth 40000 in
theorem cdX0_partOf : Cond.code yX0_partOf cX0_partOf 3 (some .int) ∈ gw_tbl := gm 820 (rfl) rfl
set_option maxRecDepth 40000 in
theorem cdX11_host : Cond.code yX11_host cX11_host 3 (some .int) ∈ gw_tbl := gm 827 (rfl) rfl
set_option maxRecDepth 40000 in
theorem cdX1_has : Cond.code yX1_has cX1_has 2 (some .boolean) ∈ gw_tbl := gm 831 (rfl) rfl
set_option maxRecDepth 40000 in
theorem cdX1_size : Cond.code yX1_size cX1_size 1 (some .int) ∈ gw_tbl := gm 836 (rfl) rfl
set_option maxRecDepth 40000 in
theorem cdX1_change : Cond.code yX1_change cX1_change 6 (some .int) ∈ gw_tbl := gm 840 (rfl) rfl
set_option maxRecDepth 40000 in
theorem cdX1_choose : Cond.code yX1_choose cX1_choose 6 (some .int) ∈ gw_tbl := gm 844 (rfl) rfl
set_option maxRecDepth 40000 in
theorem cdX9_countOfKeys : Cond.code yX9_countOfKeys cX9_countOfKeys 4 (some .int) ∈ gw_tbl := gm 848 (rfl) rfl
set_option maxRecDepth 40000 in
theorem cdX8_countOfKeys : Cond.code yX8_countOfKeys cX8_countOfKeys 4 (some .int) ∈ gw_tbl := gm 852 (rfl) rfl
set_option maxRecDepth 40000 in
theorem cdX11_owner : Cond.code yX11_owner cX11_owner 2 (some .int) ∈ gw_tbl := gm 856 (rfl) rfl
set_option maxRecDepth 40000 in
theorem cdX1_ownerOf : Cond.code yX1_ownerOf cX1_ownerOf 2 (some .int) ∈ gw_tbl := gm 860 (rfl) rfl
set_option maxRecDepth 40000 in
theorem cdX11_owns : Cond.code yX11_owns cX11_owns 2 (some .int) ∈ gw_tbl := gm 864 (rfl) rfl
set_option maxRecDepth 40000 in
theorem cdX1_keysOf : Cond.code yX1_keysOf cX1_keysOf 4 (some .int) ∈ gw_tbl := gm 868 (rfl) rfl
set_option maxRecDepth 40000 in
theorem cdX11_count : Cond.code yX11_count cX11_count 2 (some .int) ∈ gw_tbl := gm 872 (rfl) rfl
set_option maxRecDepth 40000 in
theorem cdX6_rowsLate : Cond.code yX6_rowsLate cX6_rowsLate 1 (some .int) ∈ gw_tbl := gm 876 (rfl) rfl
set_option maxRecDepth 40000 in
theorem cdX11_status : Cond.code yX11_status cX11_status 1 (some .int) ∈ gw_tbl := gm 880 (rfl) rfl
set_option maxRecDepth 40000 in
theorem cdX12_init : Cond.code yX12_init cX12_init 1 none ∈ gw_tbl := gm 885 (rfl) rfl
set_option maxRecDepth 40000 in
theorem cdX12_tell : Cond.code yX12_tell cX12_tell 5 (some .int) ∈ gw_tbl := gm 1047 (rfl) rfl
set_option maxRecDepth 40000 in
theorem cdX12_in : Cond.code yX12_in cX12_in 6 (some .boolean) ∈ gw_tbl := gm 1051 (rfl) rfl
set_option maxRecDepth 40000 in
theorem cdX12_told : Cond.code yX12_told cX12_told 2 (some .int) ∈ gw_tbl := gm 1059 (rfl) rfl
set_option maxRecDepth 40000 in
theorem cdX12_read : Cond.code yX12_read cX12_read 4 (some .int) ∈ gw_tbl := gm 1063 (rfl) rfl
set_option maxRecDepth 40000 in
theorem cdX12_readOne : Cond.code yX12_readOne cX12_readOne 3 (some .boolean) ∈ gw_tbl := gm 1068 (rfl) rfl
set_option maxRecDepth 40000 in
theorem cdX12_latest : Cond.code yX12_latest cX12_latest 4 (some .int) ∈ gw_tbl := gm 1072 (rfl) rfl
set_option maxRecDepth 40000 in
theorem cdX12_makeAll : Cond.code yX12_makeAll cX12_makeAll 3 (some .boolean) ∈ gw_tbl := gm 1076 (rfl) rfl
set_option maxRecDepth 40000 in
theorem cdX12_make : Cond.code yX12_make cX12_make 4 none ∈ gw_tbl := gm 1080 (rfl) rfl
set_option maxRecDepth 40000 in
theorem cdX12_add : Cond.code yX12_add cX12_add 7 none ∈ gw_tbl := gm 1084 (rfl) rfl
set_option maxRecDepth 40000 in
theorem cdX12_isBefore : Cond.code yX12_isBefore cX12_isBefore 5 (some .boolean) ∈ gw_tbl := gm 1090 (rfl) rfl
set_option maxRecDepth 40000 in
theorem cdX12_makeEach : Cond.code yX12_makeEach cX12_makeEach 5 none ∈ gw_tbl := gm 1094 (rfl) rfl
set_option maxRecDepth 40000 in
theorem cdX12_makeHeaps : Cond.code yX12_makeHeaps cX12_makeHeaps 10 none ∈ gw_tbl := gm 1098 (rfl) rfl
set_option maxRecDepth 40000 in
theorem cdX12_makeOfTwo : Cond.code yX12_makeOfTwo cX12_makeOfTwo 7 none ∈ gw_tbl := gm 1102 (rfl) rfl
set_option maxRecDepth 40000 in
theorem cdX12_change : Cond.code yX12_change cX12_change 6 (some .boolean) ∈ gw_tbl := gm 1106 (rfl) rfl
set_option maxRecDepth 40000 in
theorem cdX12_order : Cond.code yX12_order cX12_order 3 (some .int) ∈ gw_tbl := gm 1110 (rfl) rfl
set_option maxRecDepth 40000 in
theorem cdX12_keep : Cond.code yX12_keep cX12_keep 3 none ∈ gw_tbl := gm 1114 (rfl) rfl
set_option maxRecDepth 40000 in
theorem cdX12_mark : Cond.code yX12_mark cX12_mark 2 (some .int) ∈ gw_tbl := gm 1118 (rfl) rfl
set_option maxRecDepth 40000 in
theorem cdX12_fall : Cond.code yX12_fall cX12_fall 1 (some .int) ∈ gw_tbl := gm 1122 (rfl) rfl
set_option maxRecDepth 40000 in
theorem cdX12_goTo : Cond.code yX12_goTo cX12_goTo 2 none ∈ gw_tbl := gm 1126 (rfl) rfl
set_option maxRecDepth 40000 in
theorem cdX12_late : Cond.code yX12_late cX12_late 3 (some .int) ∈ gw_tbl := gm 1130 (rfl) rfl
set_option maxRecDepth 40000 in
theorem cdX12_begin : Cond.code yX12_begin cX12_begin 1 none ∈ gw_tbl := gm 1135 (rfl) rfl
set_option maxRecDepth 40000 in
theorem cdX12_feed : Cond.code yX12_feed cX12_feed 6 (some .int) ∈ gw_tbl := gm 1139 (rfl) rfl
set_option maxRecDepth 40000 in
theorem cdX12_four : Cond.code yX12_four cX12_four 3 none ∈ gw_tbl := gm 1143 (rfl) rfl
set_option maxRecDepth 40000 in
theorem cdX12_end : Cond.code yX12_end cX12_end 2 (some .int) ∈ gw_tbl := gm 1147 (rfl) rfl
set_option maxRecDepth 40000 in
theorem cdX12_tables : Cond.code yX12_tables cX12_tables 2 (some .int) ∈ gw_tbl := gm 1151 (rfl) rfl
set_option maxRecDepth 40000 in
theorem cdX12_next : Cond.code yX12_next cX12_next 1 none ∈ gw_tbl := gm 1155 (rfl) rfl
set_option maxRecDepth 40000 in
theorem cdX12_isSmall : Cond.code yX12_isSmall cX12_isSmall 1 (some .boolean) ∈ gw_tbl := gm 1158 (rfl) rfl
set_option maxRecDepth 40000 in
theorem cdX12_isDigit : Cond.code yX12_isDigit cX12_isDigit 1 (some .boolean) ∈ gw_tbl := gm 1161 (rfl) rfl
set_option maxRecDepth 40000 in
theorem cdX12_readTable : Cond.code yX12_readTable cX12_readTable 7 none ∈ gw_tbl := gm 1169 (rfl) rfl
set_option maxRecDepth 40000 in
theorem cdX12_isName : Cond.code yX12_isName cX12_isName 1 (some .boolean) ∈ gw_tbl := gm 1173 (rfl) rfl
set_option maxRecDepth 40000 in
theorem cdX12_must : Cond.code yX12_must cX12_must 2 none ∈ gw_tbl := gm 1177 (rfl) rfl
set_option maxRecDepth 40000 in
theorem cdX12_isSign : Cond.code yX12_isSign cX12_isSign 2 (some .boolean) ∈ gw_tbl := gm 1181 (rfl) rfl
set_option maxRecDepth 40000 in
theorem cdX12_kindAt : Cond.code yX12_kindAt cX12_kindAt 1 (some .int) ∈ gw_tbl := gm 1185 (rfl) rfl
set_option maxRecDepth 40000 in
theorem cdX12_isWord : Cond.code yX12_isWord cX12_isWord 9 (some .boolean) ∈ gw_tbl := gm 1189 (rfl) rfl
set_option maxRecDepth 40000 in
theorem cdX12_number : Cond.code yX12_number cX12_number 6 (some .int) ∈ gw_tbl := gm 1193 (rfl) rfl
set_option maxRecDepth 40000 in
theorem cdX12_name : Cond.code yX12_name cX12_name 2 (some .int) ∈ gw_tbl := gm 1197 (rfl) rfl
set_option maxRecDepth 40000 in
theorem cdX12_signed : Cond.code yX12_signed cX12_signed 3 (some .int) ∈ gw_tbl := gm 1201 (rfl) rfl
set_option maxRecDepth 40000 in
theorem cdX12_fault : Cond.code yX12_fault cX12_fault 1 (some .int) ∈ gw_tbl := gm 1205 (rfl) rfl
set_option maxRecDepth 40000 in
theorem cdX12_rows : Cond.code yX12_rows cX12_rows 2 (some .int) ∈ gw_tbl := gm 1209 (rfl) rfl
set_option maxRecDepth 40000 in
theorem cdX12_isTable : Cond.code yX12_isTable cX12_isTable 2 (some .boolean) ∈ gw_tbl := gm 1213 (rfl) rfl
set_option maxRecDepth 40000 in
theorem cdX12_row : Cond.code yX12_row cX12_row 5 (some .int) ∈ gw_tbl := gm 1217 (rfl) rfl
set_option maxRecDepth 40000 in
theorem cdX12_out : Cond.code yX12_out cX12_out 3 (some .int) ∈ gw_tbl := gm 1222 (rfl) rfl
set_option maxRecDepth 40000 in
theorem cdX12_host : Cond.code yX12_host cX12_host 7 (some .int) ∈ gw_tbl := gm 1226 (rfl) rfl
set_option maxRecDepth 40000 in
theorem cdX12_ownerBy : Cond.code yX12_ownerBy cX12_ownerBy 6 (some .int) ∈ gw_tbl := gm 1230 (rfl) rfl
set_option maxRecDepth 40000 in
theorem cdX12_owner : Cond.code yX12_owner cX12_owner 2 (some .int) ∈ gw_tbl := gm 1234 (rfl) rfl
set_option maxRecDepth 40000 in
theorem cdX12_owns : Cond.code yX12_owns cX12_owns 5 (some .int) ∈ gw_tbl := gm 1238 (rfl) rfl
set_option maxRecDepth 40000 in
theorem cdX12_count : Cond.code yX12_count cX12_count 4 (some .int) ∈ gw_tbl := gm 1242 (rfl) rfl
set_option maxRecDepth 40000 in
theorem cdX12_status : Cond.code yX12_status cX12_status 1 (some .int) ∈ gw_tbl := gm 1246 (rfl) rfl
theorem vL_9 : jIi RL 9 yX11_init cX11_init 1 0 := ⟨gms [78, 79, 56] (by decide +kernel) (by decide +kernel), cdX11_init, by decide +kernel, rfl⟩
theorem vX11_9 : jIi RX11 9 yX2_init cX2_init 1 0 := ⟨gms [86, 87, 57] (by decide +kernel) (by decide +kernel), cdX2_init, by decide +kernel, rfl⟩
theorem vX11_18 : jIi RX11 18 yX10_init cX10_init 1 0 := ⟨gms [104, 105, 58] (by decide +kernel) (by decide +kernel), cdX10_init, by decide +kernel, rfl⟩
theorem vX11_25 : jIi RX11 25 yX4_init cX4_init 1 0 := ⟨gms [124, 125, 59] (by decide +kernel) (by decide +kernel), cdX4_init, by decide +kernel, rfl⟩
theorem vX11_32 : jIi RX11 32 yX9_init cX9_init 2 0 := ⟨gms [134, 135, 60] (by decide +kernel) (by decide +kernel), cdX9_init, by decide +kernel, rfl⟩
theorem vX9_23 : jIi RX9 23 yX8_init cX8_init 1 0 := ⟨gms [141, 142, 61] (by decide +kernel) (by decide +kernel), cdX8_init, by decide +kernel, rfl⟩
theorem vX9_38 : jIi RX9 38 yX5_init cX5_init 2 0 := ⟨gms [157, 158, 62] (by decide +kernel) (by decide +kernel), cdX5_init, by decide +kernel, rfl⟩
theorem vX5_17 : jIn RX5 17 yX3_init cX3_init 1 0 := ⟨by decide +kernel, gm 165 (by decide +kernel) (by decide +kernel), gm 63 (by decide +kernel) (by decide +kernel), cdX3_init, by decide +kernel, rfl⟩
theorem vX11_39 : jIi RX11 39 yX0_init cX0_init 1 0 := ⟨gms [232, 233, 64] (by decide +kernel) (by decide +kernel), cdX0_init, by decide +kernel, rfl⟩
theorem vX11_49 : jIi RX11 49 yX1_init cX1_init 1 0 := ⟨gms [245, 246, 65] (by decide +kernel) (by decide +kernel), cdX1_init, by decide +kernel, rfl⟩
theorem vX11_56 : jIi RX11 56 yX6_init cX6_init 1 0 := ⟨gms [261, 262, 66] (by decide +kernel) (by decide +kernel), cdX6_init, by decide +kernel, rfl⟩
theorem vL_13 : jV RL 13 10 yX11_tell cX11_tell 5 (some .int) 4 := ⟨⟨TX11, 12, rfl⟩, by decide, gms [312, 313, 314, 56] (by decide +kernel) (by decide +kernel), cdX11_tell, by decide +kernel⟩
theorem vX11_74 : jSs RX11 74 yX11_isWithin cX11_isWithin 3 (some .boolean) 3 := ⟨gms [316, 317, 56] (by decide +kernel) (by decide +kernel), cdX11_isWithin, by decide +kernel⟩
theorem vX11_78 : jV RX11 78 10 yX11_refuse cX11_refuse 2 (some .int) 1 := ⟨⟨TX11, 12, rfl⟩, by decide, gms [319, 321, 0, 56] (by decide +kernel) (by decide +kernel), cdX11_refuse, by decide +kernel⟩
theorem vX11_82 : jSs RX11 82 yX7_pack cX7_pack 5 (some .long) 3 := ⟨gms [323, 324, 68] (by decide +kernel) (by decide +kernel), cdX7_pack, by decide +kernel⟩
theorem vX11_88 : jV RX11 88 2 yX2_add cX2_add 4 (some .boolean) 2 := ⟨⟨TX2, 3, rfl⟩, by decide, gms [327, 328, 329, 57] (by decide +kernel) (by decide +kernel), cdX2_add, by decide +kernel⟩
theorem vX11_92 : jV RX11 92 2 yX2_size cX2_size 1 (some .int) 0 := ⟨⟨TX2, 3, rfl⟩, by decide, gms [331, 332, 333, 57] (by decide +kernel) (by decide +kernel), cdX2_size, by decide +kernel⟩
theorem vX11_96 : jV RX11 96 10 yX11_grant cX11_grant 2 (some .int) 1 := ⟨⟨TX11, 12, rfl⟩, by decide, gms [335, 337, 1, 56] (by decide +kernel) (by decide +kernel), cdX11_grant, by decide +kernel⟩
theorem vL_18 : jV RL 18 10 yX11_feed cX11_feed 6 (some .int) 5 := ⟨⟨TX11, 12, rfl⟩, by decide, gms [339, 340, 341, 56] (by decide +kernel) (by decide +kernel), cdX11_feed, by decide +kernel⟩
theorem vX11_99 : jV RX11 99 9 yX10_hasRoomFor cX10_hasRoomFor 2 (some .boolean) 1 := ⟨⟨TX10, 4, rfl⟩, by decide, gms [343, 344, 345, 58] (by decide +kernel) (by decide +kernel), cdX10_hasRoomFor, by decide +kernel⟩
theorem vX11_103 : jV RX11 103 9 yX10_addNumber cX10_addNumber 3 none 1 := ⟨⟨TX10, 4, rfl⟩, by decide, gms [347, 348, 349, 58] (by decide +kernel) (by decide +kernel), cdX10_addNumber, by decide +kernel⟩
theorem vX11_107 : jV RX11 107 9 yX10_length cX10_length 1 (some .int) 0 := ⟨⟨TX10, 4, rfl⟩, by decide, gms [351, 352, 353, 58] (by decide +kernel) (by decide +kernel), cdX10_length, by decide +kernel⟩
theorem vL_23 : jV RL 23 10 yX11_end cX11_end 2 (some .int) 1 := ⟨⟨TX11, 12, rfl⟩, by decide, gms [355, 356, 357, 56] (by decide +kernel) (by decide +kernel), cdX11_end, by decide +kernel⟩
theorem vX11_110 : jV RX11 110 9 yX10_cut cX10_cut 2 none 1 := ⟨⟨TX10, 4, rfl⟩, by decide, gms [359, 360, 361, 58] (by decide +kernel) (by decide +kernel), cdX10_cut, by decide +kernel⟩
theorem vL_28 : jV RL 28 10 yX11_tables cX11_tables 1 (some .int) 0 := ⟨⟨TX11, 12, rfl⟩, by decide, gms [369, 370, 371, 56] (by decide +kernel) (by decide +kernel), cdX11_tables, by decide +kernel⟩
theorem vX11_113 : jV RX11 113 8 yX9_draft cX9_draft 1 (some (.object "TableStreams$Plan")) 0 := ⟨⟨TX9, 8, rfl⟩, by decide, gms [373, 374, 375, 60] (by decide +kernel) (by decide +kernel), cdX9_draft, by decide +kernel⟩
theorem vX11_117 : jV RX11 117 4 yX4_parse cX4_parse 6 (some .int) 2 := ⟨⟨TX4, 1, rfl⟩, by decide, gms [377, 378, 379, 59] (by decide +kernel) (by decide +kernel), cdX4_parse, by decide +kernel⟩
theorem vX4_15 : jV RX4 15 5 yX5_clear cX5_clear 1 none 0 := ⟨⟨TX5, 2, rfl⟩, by decide, gms [381, 382, 383, 62] (by decide +kernel) (by decide +kernel), cdX5_clear, by decide +kernel⟩
theorem vX4_20 : jSs RX4 20 yJ7_fill_53178 cJ7_fill_53178 4 none 2 := ⟨gms [385, 386, 70] (by decide +kernel) (by decide +kernel), cdJ7_fill_53178, by decide +kernel⟩
theorem vX4_26 : jV RX4 26 9 yX10_toFirstToken cX10_toFirstToken 1 none 0 := ⟨⟨TX10, 4, rfl⟩, by decide, gms [388, 389, 390, 58] (by decide +kernel) (by decide +kernel), cdX10_toFirstToken, by decide +kernel⟩
theorem vX10_31 : jV RX10 31 9 yX10_toNextToken cX10_toNextToken 1 none 0 := ⟨⟨TX10, 4, rfl⟩, by decide, gms [392, 393, 394, 58] (by decide +kernel) (by decide +kernel), cdX10_toNextToken, by decide +kernel⟩
theorem vX10_37 : jV RX10 37 9 yX10_isLetter cX10_isLetter 2 (some .boolean) 1 := ⟨⟨TX10, 4, rfl⟩, by decide, gms [396, 398, 2, 58] (by decide +kernel) (by decide +kernel), cdX10_isLetter, by decide +kernel⟩
theorem vX10_41 : jV RX10 41 9 yX10_isDigit cX10_isDigit 2 (some .boolean) 1 := ⟨⟨TX10, 4, rfl⟩, by decide, gms [400, 402, 3, 58] (by decide +kernel) (by decide +kernel), cdX10_isDigit, by decide +kernel⟩
theorem vX4_31 : jV RX4 31 5 yX5_at cX5_at 2 (some (.object "TableStreams$Making")) 1 := ⟨⟨TX5, 2, rfl⟩, by decide, gms [404, 405, 406, 62] (by decide +kernel) (by decide +kernel), cdX5_at, by decide +kernel⟩
theorem vX5_22 : jSn RX5 22 yX11_isWithin cX11_isWithin 3 (some .boolean) 3 := ⟨by decide +kernel, gm 317 (by decide +kernel) (by decide +kernel), gm 56 (by decide +kernel) (by decide +kernel), cdX11_isWithin, by decide +kernel⟩
theorem vX4_35 : jV RX4 35 3 yX3_clear cX3_clear 1 none 0 := ⟨⟨TX3, 6, rfl⟩, by decide, gms [409, 410, 411, 63] (by decide +kernel) (by decide +kernel), cdX3_clear, by decide +kernel⟩
theorem vX4_38 : jV RX4 38 4 yX4_takeNewName cX4_takeNewName 3 (some .int) 1 := ⟨⟨TX4, 1, rfl⟩, by decide, gms [413, 415, 4, 59] (by decide +kernel) (by decide +kernel), cdX4_takeNewName, by decide +kernel⟩
theorem vX4_64 : jV RX4 64 9 yX10_letter cX10_letter 1 (some .int) 0 := ⟨⟨TX10, 4, rfl⟩, by decide, gms [417, 418, 419, 58] (by decide +kernel) (by decide +kernel), cdX10_letter, by decide +kernel⟩
theorem vX4_67 : jV RX4 67 9 yX10_toNextToken cX10_toNextToken 1 none 0 := ⟨⟨TX10, 4, rfl⟩, by decide, gms [421, 393, 394, 58] (by decide +kernel) (by decide +kernel), cdX10_toNextToken, by decide +kernel⟩
theorem vX4_42 : jV RX4 42 4 yX4_takeSign cX4_takeSign 3 (some .boolean) 2 := ⟨⟨TX4, 1, rfl⟩, by decide, gms [422, 424, 5, 59] (by decide +kernel) (by decide +kernel), cdX4_takeSign, by decide +kernel⟩
theorem vX4_159 : jV RX4 159 9 yX10_isToken cX10_isToken 2 (some .boolean) 1 := ⟨⟨TX10, 4, rfl⟩, by decide, gms [426, 427, 428, 58] (by decide +kernel) (by decide +kernel), cdX10_isToken, by decide +kernel⟩
theorem vX4_46 : jV RX4 46 4 yX4_takeKind cX4_takeKind 4 (some .boolean) 2 := ⟨⟨TX4, 1, rfl⟩, by decide, gms [430, 432, 6, 59] (by decide +kernel) (by decide +kernel), cdX4_takeKind, by decide +kernel⟩
theorem vX4_70 : jSs RX4 70 yX4_wordOf cX4_wordOf 1 (some (.object "java/lang/String")) 1 := ⟨gms [434, 435, 59] (by decide +kernel) (by decide +kernel), cdX4_wordOf, by decide +kernel⟩
theorem vX4_74 : jV RX4 74 9 yX10_isToken_ cX10_isToken_ 3 (some .boolean) 1 := ⟨⟨TX10, 4, rfl⟩, by decide, gms [450, 451, 452, 58] (by decide +kernel) (by decide +kernel), cdX10_isToken_, by decide +kernel⟩
theorem vJ0_495 : jSs RJ0 495 yJ1_charAt_3b067 cJ1_charAt_3b067 2 (some .char) 2 := ⟨gms [472, 473, 72] (by decide +kernel) (by decide +kernel), cdJ1_charAt_3b067, by decide +kernel⟩
theorem vJ1_9 : jSs RJ1 9 yJ0_checkIndex_df160 cJ0_checkIndex_df160 2 none 2 := ⟨gms [475, 476, 71] (by decide +kernel) (by decide +kernel), cdJ0_checkIndex_df160, by decide +kernel⟩
theorem vJ0_1059 : jSs RJ0 1059 yJ3_checkIndex_8e157 cJ3_checkIndex_8e157 3 (some .int) 3 := ⟨gms [480, 481, 73] (by decide +kernel) (by decide +kernel), cdJ3_checkIndex_8e157, by decide +kernel⟩
theorem vJ0_498 : jSs RJ0 498 yJ2_charAt_3b067 cJ2_charAt_3b067 2 (some .char) 2 := ⟨gms [483, 484, 74] (by decide +kernel) (by decide +kernel), cdJ2_charAt_3b067, by decide +kernel⟩
theorem vJ2_67 : jSs RJ2 67 yJ2_checkIndex_2214a cJ2_checkIndex_2214a 2 none 2 := ⟨gms [486, 487, 74] (by decide +kernel) (by decide +kernel), cdJ2_checkIndex_2214a, by decide +kernel⟩
theorem vJ2_48 : jSs RJ2 48 yJ2_length_9d52b cJ2_length_9d52b 1 (some .int) 1 := ⟨gms [489, 490, 74] (by decide +kernel) (by decide +kernel), cdJ2_length_9d52b, by decide +kernel⟩
theorem vJ2_414 : jSs RJ2 414 yJ0_checkIndex_df160 cJ0_checkIndex_df160 2 none 2 := ⟨gms [492, 476, 71] (by decide +kernel) (by decide +kernel), cdJ0_checkIndex_df160, by decide +kernel⟩
theorem vJ2_71 : jSs RJ2 71 yJ2_getChar_3b067 cJ2_getChar_3b067 2 (some .char) 2 := ⟨gms [493, 494, 74] (by decide +kernel) (by decide +kernel), cdJ2_getChar_3b067, by decide +kernel⟩
theorem vX4_50 : jV RX4 50 4 yX4_takeParts cX4_takeParts 3 (some .boolean) 2 := ⟨⟨TX4, 1, rfl⟩, by decide, gms [502, 504, 7, 59] (by decide +kernel) (by decide +kernel), cdX4_takeParts, by decide +kernel⟩
theorem vX4_108 : jV RX4 108 4 yX4_takeDigits cX4_takeDigits 6 (some .boolean) 4 := ⟨⟨TX4, 1, rfl⟩, by decide, gms [506, 508, 8, 59] (by decide +kernel) (by decide +kernel), cdX4_takeDigits, by decide +kernel⟩
theorem vX4_152 : jV RX4 152 9 yX10_digits cX10_digits 3 (some .int) 0 := ⟨⟨TX10, 4, rfl⟩, by decide, gms [510, 511, 512, 58] (by decide +kernel) (by decide +kernel), cdX10_digits, by decide +kernel⟩
theorem vX4_155 : jSn RX4 155 yX11_isWithin cX11_isWithin 3 (some .boolean) 3 := ⟨by decide +kernel, gm 317 (by decide +kernel) (by decide +kernel), gm 56 (by decide +kernel) (by decide +kernel), cdX11_isWithin, by decide +kernel⟩
theorem vX4_112 : jV RX4 112 4 yX4_takeLeft cX4_takeLeft 3 (some .boolean) 2 := ⟨⟨TX4, 1, rfl⟩, by decide, gms [515, 517, 9, 59] (by decide +kernel) (by decide +kernel), cdX4_takeLeft, by decide +kernel⟩
theorem vX4_127 : jV RX4 127 4 yX4_takeName cX4_takeName 4 (some .int) 1 := ⟨⟨TX4, 1, rfl⟩, by decide, gms [519, 521, 10, 59] (by decide +kernel) (by decide +kernel), cdX4_takeName, by decide +kernel⟩
theorem vX4_115 : jV RX4 115 4 yX4_takeColumn cX4_takeColumn 3 (some .boolean) 2 := ⟨⟨TX4, 1, rfl⟩, by decide, gms [523, 525, 11, 59] (by decide +kernel) (by decide +kernel), cdX4_takeColumn, by decide +kernel⟩
theorem vX4_118 : jV RX4 118 4 yX4_takeRelation cX4_takeRelation 3 (some .boolean) 2 := ⟨⟨TX4, 1, rfl⟩, by decide, gms [530, 532, 12, 59] (by decide +kernel) (by decide +kernel), cdX4_takeRelation, by decide +kernel⟩
theorem vX4_121 : jV RX4 121 4 yX4_takeNumber cX4_takeNumber 4 (some .boolean) 2 := ⟨⟨TX4, 1, rfl⟩, by decide, gms [534, 536, 13, 59] (by decide +kernel) (by decide +kernel), cdX4_takeNumber, by decide +kernel⟩
theorem vX4_124 : jV RX4 124 4 yX4_takeRight cX4_takeRight 3 (some .boolean) 2 := ⟨⟨TX4, 1, rfl⟩, by decide, gms [538, 540, 14, 59] (by decide +kernel) (by decide +kernel), cdX4_takeRight, by decide +kernel⟩
theorem vX4_53 : jV RX4 53 9 yX10_place cX10_place 1 (some .int) 0 := ⟨⟨TX10, 4, rfl⟩, by decide, gms [542, 543, 544, 58] (by decide +kernel) (by decide +kernel), cdX10_place, by decide +kernel⟩
theorem vX4_57 : jV RX4 57 5 yX5_add cX5_add 1 none 0 := ⟨⟨TX5, 2, rfl⟩, by decide, gms [546, 547, 548, 62] (by decide +kernel) (by decide +kernel), cdX5_add, by decide +kernel⟩
theorem vX4_60 : jV RX4 60 9 yX10_isAtEnd cX10_isAtEnd 1 (some .boolean) 0 := ⟨⟨TX10, 4, rfl⟩, by decide, gms [550, 551, 552, 58] (by decide +kernel) (by decide +kernel), cdX10_isAtEnd, by decide +kernel⟩
theorem vX11_121 : jV RX11 121 8 yX9_takeDraft cX9_takeDraft 2 none 0 := ⟨⟨TX9, 8, rfl⟩, by decide, gms [554, 555, 556, 60] (by decide +kernel) (by decide +kernel), cdX9_takeDraft, by decide +kernel⟩
theorem vX11_124 : jV RX11 124 10 yX11_beginAnew cX11_beginAnew 1 none 0 := ⟨⟨TX11, 12, rfl⟩, by decide, gms [558, 560, 15, 56] (by decide +kernel) (by decide +kernel), cdX11_beginAnew, by decide +kernel⟩
theorem vX11_201 : jV RX11 201 6 yX6_clear cX6_clear 1 none 0 := ⟨⟨TX6, 3, rfl⟩, by decide, gms [562, 563, 564, 66] (by decide +kernel) (by decide +kernel), cdX6_clear, by decide +kernel⟩
theorem vX11_145 : jV RX11 145 0 yX0_clear cX0_clear 1 none 0 := ⟨⟨TX0, 2, rfl⟩, by decide, gms [566, 567, 568, 64] (by decide +kernel) (by decide +kernel), cdX0_clear, by decide +kernel⟩
theorem vX11_202 : jV RX11 202 8 yX9_clear cX9_clear 2 none 0 := ⟨⟨TX9, 8, rfl⟩, by decide, gms [570, 571, 572, 60] (by decide +kernel) (by decide +kernel), cdX9_clear, by decide +kernel⟩
theorem vX9_68 : jV RX9 68 7 yX8_clear cX8_clear 1 none 0 := ⟨⟨TX8, 3, rfl⟩, by decide, gms [574, 575, 576, 61] (by decide +kernel) (by decide +kernel), cdX8_clear, by decide +kernel⟩
theorem vX11_127 : jV RX11 127 8 yX9_size cX9_size 1 (some .int) 0 := ⟨⟨TX9, 8, rfl⟩, by decide, gms [578, 579, 580, 60] (by decide +kernel) (by decide +kernel), cdX9_size, by decide +kernel⟩
theorem vX9_46 : jV RX9 46 5 yX5_size cX5_size 1 (some .int) 0 := ⟨⟨TX5, 2, rfl⟩, by decide, gms [582, 583, 584, 62] (by decide +kernel) (by decide +kernel), cdX5_size, by decide +kernel⟩
theorem vL_33 : jV RL 33 10 yX11_fault cX11_fault 1 (some .int) 0 := ⟨⟨TX11, 12, rfl⟩, by decide, gms [587, 588, 589, 56] (by decide +kernel) (by decide +kernel), cdX11_fault, by decide +kernel⟩
theorem vL_37 : jV RL 37 10 yX11_late cX11_late 3 (some .int) 1 := ⟨⟨TX11, 12, rfl⟩, by decide, gms [591, 592, 593, 56] (by decide +kernel) (by decide +kernel), cdX11_late, by decide +kernel⟩
theorem vL_41 : jV RL 41 10 yX11_read cX11_read 4 (some .int) 1 := ⟨⟨TX11, 12, rfl⟩, by decide, gms [595, 596, 597, 56] (by decide +kernel) (by decide +kernel), cdX11_read, by decide +kernel⟩
theorem vX11_128 : jV RX11 128 6 yX6_rowsRead cX6_rowsRead 1 (some .int) 0 := ⟨⟨TX6, 3, rfl⟩, by decide, gms [599, 600, 601, 66] (by decide +kernel) (by decide +kernel), cdX6_rowsRead, by decide +kernel⟩
theorem vX11_137 : jV RX11 137 10 yX11_readNext cX11_readNext 6 (some .boolean) 0 := ⟨⟨TX11, 12, rfl⟩, by decide, gms [604, 606, 16, 56] (by decide +kernel) (by decide +kernel), cdX11_readNext, by decide +kernel⟩
theorem vX11_203 : jV RX11 203 2 yX2_rowAt cX2_rowAt 2 (some .long) 1 := ⟨⟨TX2, 3, rfl⟩, by decide, gms [608, 609, 610, 57] (by decide +kernel) (by decide +kernel), cdX2_rowAt, by decide +kernel⟩
theorem vX2_23 : jSn RX2 23 yX11_isWithin cX11_isWithin 3 (some .boolean) 3 := ⟨by decide +kernel, gm 317 (by decide +kernel) (by decide +kernel), gm 56 (by decide +kernel) (by decide +kernel), cdX11_isWithin, by decide +kernel⟩
theorem vX11_206 : jSs RX11 206 yX7_timeOf cX7_timeOf 2 (some .int) 1 := ⟨gms [613, 614, 68] (by decide +kernel) (by decide +kernel), cdX7_timeOf, by decide +kernel⟩
theorem vX11_198 : jV RX11 198 6 yX6_greatestTime cX6_greatestTime 1 (some .int) 0 := ⟨⟨TX6, 3, rfl⟩, by decide, gms [617, 618, 619, 66] (by decide +kernel) (by decide +kernel), cdX6_greatestTime, by decide +kernel⟩
theorem vX11_210 : jV RX11 210 2 yX2_sourceAt cX2_sourceAt 2 (some .int) 1 := ⟨⟨TX2, 3, rfl⟩, by decide, gms [621, 622, 623, 57] (by decide +kernel) (by decide +kernel), cdX2_sourceAt, by decide +kernel⟩
theorem vX11_213 : jV RX11 213 8 yX9_offer cX9_offer 7 (some .boolean) 2 := ⟨⟨TX9, 8, rfl⟩, by decide, gms [625, 626, 627, 60] (by decide +kernel) (by decide +kernel), cdX9_offer, by decide +kernel⟩
theorem vX9_75 : jV RX9 75 5 yX5_at cX5_at 2 (some (.object "TableStreams$Making")) 1 := ⟨⟨TX5, 2, rfl⟩, by decide, gms [629, 405, 406, 62] (by decide +kernel) (by decide +kernel), cdX5_at, by decide +kernel⟩
theorem vX9_65 : jV RX9 65 8 yX9_touches cX9_touches 2 (some .boolean) 1 := ⟨⟨TX9, 8, rfl⟩, by decide, gms [630, 632, 17, 60] (by decide +kernel) (by decide +kernel), cdX9_touches, by decide +kernel⟩
theorem vX9_54 : jV RX9 54 8 yX9_has cX9_has 2 (some .boolean) 1 := ⟨⟨TX9, 8, rfl⟩, by decide, gms [634, 635, 636, 60] (by decide +kernel) (by decide +kernel), cdX9_has, by decide +kernel⟩
theorem vX9_50 : jSn RX9 50 yX11_isWithin cX11_isWithin 3 (some .boolean) 3 := ⟨by decide +kernel, gm 317 (by decide +kernel) (by decide +kernel), gm 56 (by decide +kernel) (by decide +kernel), cdX11_isWithin, by decide +kernel⟩
theorem vX9_71 : jV RX9 71 7 yX8_copy cX8_copy 2 none 1 := ⟨⟨TX8, 3, rfl⟩, by decide, gms [639, 640, 641, 61] (by decide +kernel) (by decide +kernel), cdX8_copy, by decide +kernel⟩
theorem vX9_94 : jV RX9 94 7 yX8_add cX8_add 3 none 1 := ⟨⟨TX8, 3, rfl⟩, by decide, gms [646, 647, 648, 61] (by decide +kernel) (by decide +kernel), cdX8_add, by decide +kernel⟩
theorem vX9_62 : jV RX9 62 8 yX9_offeredOf cX9_offeredOf 2 (some (.object "TableStreams$Rows")) 1 := ⟨⟨TX9, 8, rfl⟩, by decide, gms [650, 652, 18, 60] (by decide +kernel) (by decide +kernel), cdX9_offeredOf, by decide +kernel⟩
theorem vX9_58 : jV RX9 58 8 yX9_rowsOf cX9_rowsOf 2 (some (.object "TableStreams$Rows")) 1 := ⟨⟨TX9, 8, rfl⟩, by decide, gms [654, 655, 656, 60] (by decide +kernel) (by decide +kernel), cdX9_rowsOf, by decide +kernel⟩
theorem vX9_98 : jV RX9 98 3 yX3_fill cX3_fill 5 none 3 := ⟨⟨TX3, 6, rfl⟩, by decide, gms [658, 659, 660, 63] (by decide +kernel) (by decide +kernel), cdX3_fill, by decide +kernel⟩
theorem vX3_31 : jV RX3 31 7 yX8_clear cX8_clear 1 none 0 := ⟨⟨TX8, 3, rfl⟩, by decide, gms [662, 575, 576, 61] (by decide +kernel) (by decide +kernel), cdX8_clear, by decide +kernel⟩
theorem vX3_36 : jV RX3 36 3 yX3_fillByGroup cX3_fillByGroup 12 none 2 := ⟨⟨TX3, 6, rfl⟩, by decide, gms [663, 665, 19, 63] (by decide +kernel) (by decide +kernel), cdX3_fillByGroup, by decide +kernel⟩
theorem vX3_55 : jV RX3 55 7 yX8_size cX8_size 1 (some .int) 0 := ⟨⟨TX8, 3, rfl⟩, by decide, gms [667, 668, 669, 61] (by decide +kernel) (by decide +kernel), cdX8_size, by decide +kernel⟩
theorem vX3_58 : jV RX3 58 7 yX8_at cX8_at 2 (some .long) 1 := ⟨⟨TX8, 3, rfl⟩, by decide, gms [671, 672, 673, 61] (by decide +kernel) (by decide +kernel), cdX8_at, by decide +kernel⟩
theorem vX8_23 : jSn RX8 23 yX11_isWithin cX11_isWithin 3 (some .boolean) 3 := ⟨by decide +kernel, gm 317 (by decide +kernel) (by decide +kernel), gm 56 (by decide +kernel) (by decide +kernel), cdX11_isWithin, by decide +kernel⟩
theorem vX3_75 : jSs RX3 75 yX7_valueOf cX7_valueOf 2 (some .int) 1 := ⟨gms [676, 677, 68] (by decide +kernel) (by decide +kernel), cdX7_valueOf, by decide +kernel⟩
theorem vX3_93 : jSs RX3 93 yX7_groupOf cX7_groupOf 2 (some .long) 1 := ⟨gms [680, 681, 68] (by decide +kernel) (by decide +kernel), cdX7_groupOf, by decide +kernel⟩
theorem vX3_66 : jSs RX3 66 yX7_keyOf cX7_keyOf 2 (some .int) 1 := ⟨gms [683, 684, 68] (by decide +kernel) (by decide +kernel), cdX7_keyOf, by decide +kernel⟩
theorem vX3_72 : jSs RX3 72 yX7_timeOf cX7_timeOf 2 (some .int) 1 := ⟨gms [686, 614, 68] (by decide +kernel) (by decide +kernel), cdX7_timeOf, by decide +kernel⟩
theorem vX3_90 : jV RX3 90 7 yX8_add_ cX8_add_ 5 none 3 := ⟨⟨TX8, 3, rfl⟩, by decide, gms [687, 688, 689, 61] (by decide +kernel) (by decide +kernel), cdX8_add_, by decide +kernel⟩
theorem vX8_31 : jSs RX8 31 yX7_pack cX7_pack 5 (some .long) 3 := ⟨gms [693, 324, 68] (by decide +kernel) (by decide +kernel), cdX7_pack, by decide +kernel⟩
theorem vX8_37 : jV RX8 37 7 yX8_add cX8_add 3 none 1 := ⟨⟨TX8, 3, rfl⟩, by decide, gms [694, 647, 648, 61] (by decide +kernel) (by decide +kernel), cdX8_add, by decide +kernel⟩
theorem vX3_40 : jV RX3 40 3 yX3_fillByKey cX3_fillByKey 6 none 2 := ⟨⟨TX3, 6, rfl⟩, by decide, gms [695, 697, 20, 63] (by decide +kernel) (by decide +kernel), cdX3_fillByKey, by decide +kernel⟩
theorem vX3_86 : jV RX3 86 7 yX8_add cX8_add 3 none 1 := ⟨⟨TX8, 3, rfl⟩, by decide, gms [699, 647, 648, 61] (by decide +kernel) (by decide +kernel), cdX8_add, by decide +kernel⟩
theorem vX3_43 : jV RX3 43 3 yX3_fillByPairs cX3_fillByPairs 14 none 3 := ⟨⟨TX3, 6, rfl⟩, by decide, gms [700, 702, 21, 63] (by decide +kernel) (by decide +kernel), cdX3_fillByPairs, by decide +kernel⟩
theorem vX3_97 : jV RX3 97 7 yX8_isFull cX8_isFull 1 (some .boolean) 0 := ⟨⟨TX8, 3, rfl⟩, by decide, gms [704, 705, 706, 61] (by decide +kernel) (by decide +kernel), cdX8_isFull, by decide +kernel⟩
theorem vX3_47 : jV RX3 47 7 yX8_keys cX8_keys 3 (some .int) 0 := ⟨⟨TX8, 3, rfl⟩, by decide, gms [709, 710, 711, 61] (by decide +kernel) (by decide +kernel), cdX8_keys, by decide +kernel⟩
theorem vX8_57 : jSs RX8 57 yX7_keyOf cX7_keyOf 2 (some .int) 1 := ⟨gms [713, 684, 68] (by decide +kernel) (by decide +kernel), cdX7_keyOf, by decide +kernel⟩
theorem vX3_51 : jV RX3 51 3 yX3_fillWithout cX3_fillWithout 7 none 3 := ⟨⟨TX3, 6, rfl⟩, by decide, gms [714, 716, 22, 63] (by decide +kernel) (by decide +kernel), cdX3_fillWithout, by decide +kernel⟩
theorem vX3_62 : jV RX3 62 3 yX3_addOne cX3_addOne 8 none 2 := ⟨⟨TX3, 6, rfl⟩, by decide, gms [718, 720, 23, 63] (by decide +kernel) (by decide +kernel), cdX3_addOne, by decide +kernel⟩
theorem vX3_78 : jSs RX3 78 yX7_partOf cX7_partOf 3 (some .int) 2 := ⟨gms [722, 723, 68] (by decide +kernel) (by decide +kernel), cdX7_partOf, by decide +kernel⟩
theorem vX7_16 : jSs RX7 16 yX7_keyOf cX7_keyOf 2 (some .int) 1 := ⟨gms [725, 684, 68] (by decide +kernel) (by decide +kernel), cdX7_keyOf, by decide +kernel⟩
theorem vX7_20 : jSs RX7 20 yX7_valueOf cX7_valueOf 2 (some .int) 1 := ⟨gms [726, 677, 68] (by decide +kernel) (by decide +kernel), cdX7_valueOf, by decide +kernel⟩
theorem vX7_23 : jSs RX7 23 yX7_timeOf cX7_timeOf 2 (some .int) 1 := ⟨gms [727, 614, 68] (by decide +kernel) (by decide +kernel), cdX7_timeOf, by decide +kernel⟩
theorem vX3_82 : jV RX3 82 3 yX3_holdsOf cX3_holdsOf 2 (some .boolean) 1 := ⟨⟨TX3, 6, rfl⟩, by decide, gms [729, 731, 24, 63] (by decide +kernel) (by decide +kernel), cdX3_holdsOf, by decide +kernel⟩
theorem vX9_102 : jV RX9 102 7 yX8_isFull cX8_isFull 1 (some .boolean) 0 := ⟨⟨TX8, 3, rfl⟩, by decide, gms [733, 705, 706, 61] (by decide +kernel) (by decide +kernel), cdX8_isFull, by decide +kernel⟩
theorem vX9_106 : jV RX9 106 7 yX8_sort cX8_sort 4 none 1 := ⟨⟨TX8, 3, rfl⟩, by decide, gms [734, 735, 736, 61] (by decide +kernel) (by decide +kernel), cdX8_sort, by decide +kernel⟩
theorem vX8_53 : jV RX8 53 7 yX8_merge cX8_merge 9 none 4 := ⟨⟨TX8, 3, rfl⟩, by decide, gms [739, 741, 25, 61] (by decide +kernel) (by decide +kernel), cdX8_merge, by decide +kernel⟩
theorem vX11_216 : jV RX11 216 8 yX9_answer cX9_answer 1 (some (.object "TableStreams$Rows")) 0 := ⟨⟨TX9, 8, rfl⟩, by decide, gms [743, 744, 745, 60] (by decide +kernel) (by decide +kernel), cdX9_answer, by decide +kernel⟩
theorem vX11_220 : jV RX11 220 8 yX9_answerOffered cX9_answerOffered 1 (some (.object "TableStreams$Rows")) 0 := ⟨⟨TX9, 8, rfl⟩, by decide, gms [747, 748, 749, 60] (by decide +kernel) (by decide +kernel), cdX9_answerOffered, by decide +kernel⟩
theorem vX11_223 : jV RX11 223 0 yX0_addDifference cX0_addDifference 4 (some .boolean) 2 := ⟨⟨TX0, 2, rfl⟩, by decide, gms [751, 752, 753, 64] (by decide +kernel) (by decide +kernel), cdX0_addDifference, by decide +kernel⟩
theorem vX0_36 : jV RX0 36 0 yX0_addMissing cX0_addMissing 8 (some .boolean) 3 := ⟨⟨TX0, 2, rfl⟩, by decide, gms [755, 757, 26, 64] (by decide +kernel) (by decide +kernel), cdX0_addMissing, by decide +kernel⟩
theorem vX0_40 : jV RX0 40 7 yX8_size cX8_size 1 (some .int) 0 := ⟨⟨TX8, 3, rfl⟩, by decide, gms [759, 668, 669, 61] (by decide +kernel) (by decide +kernel), cdX8_size, by decide +kernel⟩
theorem vX0_45 : jV RX0 45 7 yX8_at cX8_at 2 (some .long) 1 := ⟨⟨TX8, 3, rfl⟩, by decide, gms [760, 672, 673, 61] (by decide +kernel) (by decide +kernel), cdX8_at, by decide +kernel⟩
theorem vX11_227 : jV RX11 227 8 yX9_acceptOffer cX9_acceptOffer 3 none 0 := ⟨⟨TX9, 8, rfl⟩, by decide, gms [761, 762, 763, 60] (by decide +kernel) (by decide +kernel), cdX9_acceptOffer, by decide +kernel⟩
theorem vX11_230 : jV RX11 230 6 yX6_step cX6_step 3 none 2 := ⟨⟨TX6, 3, rfl⟩, by decide, gms [765, 766, 767, 66] (by decide +kernel) (by decide +kernel), cdX6_step, by decide +kernel⟩
theorem vL_45 : jV RL 45 10 yX11_mark cX11_mark 1 (some .int) 0 := ⟨⟨TX11, 12, rfl⟩, by decide, gms [770, 771, 772, 56] (by decide +kernel) (by decide +kernel), cdX11_mark, by decide +kernel⟩
theorem vX11_141 : jV RX11 141 0 yX0_addAll cX0_addAll 2 (some .boolean) 1 := ⟨⟨TX0, 2, rfl⟩, by decide, gms [774, 775, 776, 64] (by decide +kernel) (by decide +kernel), cdX0_addAll, by decide +kernel⟩
theorem vX11_148 : jV RX11 148 6 yX6_copy cX6_copy 2 none 1 := ⟨⟨TX6, 3, rfl⟩, by decide, gms [779, 780, 781, 66] (by decide +kernel) (by decide +kernel), cdX6_copy, by decide +kernel⟩
theorem vX11_152 : jV RX11 152 8 yX9_keep cX9_keep 2 none 0 := ⟨⟨TX9, 8, rfl⟩, by decide, gms [783, 784, 785, 60] (by decide +kernel) (by decide +kernel), cdX9_keep, by decide +kernel⟩
theorem vX11_155 : jV RX11 155 0 yX0_size cX0_size 1 (some .int) 0 := ⟨⟨TX0, 2, rfl⟩, by decide, gms [787, 788, 789, 64] (by decide +kernel) (by decide +kernel), cdX0_size, by decide +kernel⟩
theorem vL_49 : jV RL 49 10 yX11_fall cX11_fall 1 (some .int) 0 := ⟨⟨TX11, 12, rfl⟩, by decide, gms [791, 792, 793, 56] (by decide +kernel) (by decide +kernel), cdX11_fall, by decide +kernel⟩
theorem vX11_156 : jV RX11 156 8 yX9_restore cX9_restore 2 none 0 := ⟨⟨TX9, 8, rfl⟩, by decide, gms [795, 796, 797, 60] (by decide +kernel) (by decide +kernel), cdX9_restore, by decide +kernel⟩
theorem vL_53 : jV RL 53 10 yX11_rows cX11_rows 2 (some .int) 1 := ⟨⟨TX11, 12, rfl⟩, by decide, gms [799, 800, 801, 56] (by decide +kernel) (by decide +kernel), cdX11_rows, by decide +kernel⟩
theorem vX11_159 : jV RX11 159 8 yX9_has cX9_has 2 (some .boolean) 1 := ⟨⟨TX9, 8, rfl⟩, by decide, gms [803, 635, 636, 60] (by decide +kernel) (by decide +kernel), cdX9_has, by decide +kernel⟩
theorem vX11_162 : jV RX11 162 8 yX9_rowsOf cX9_rowsOf 2 (some (.object "TableStreams$Rows")) 1 := ⟨⟨TX9, 8, rfl⟩, by decide, gms [804, 655, 656, 60] (by decide +kernel) (by decide +kernel), cdX9_rowsOf, by decide +kernel⟩
theorem vX11_166 : jV RX11 166 7 yX8_size cX8_size 1 (some .int) 0 := ⟨⟨TX8, 3, rfl⟩, by decide, gms [805, 668, 669, 61] (by decide +kernel) (by decide +kernel), cdX8_size, by decide +kernel⟩
theorem vL_57 : jV RL 57 10 yX11_row cX11_row 4 (some .int) 3 := ⟨⟨TX11, 12, rfl⟩, by decide, gms [806, 807, 808, 56] (by decide +kernel) (by decide +kernel), cdX11_row, by decide +kernel⟩
theorem vX11_170 : jV RX11 170 7 yX8_at cX8_at 2 (some .long) 1 := ⟨⟨TX8, 3, rfl⟩, by decide, gms [811, 672, 673, 61] (by decide +kernel) (by decide +kernel), cdX8_at, by decide +kernel⟩
theorem vX11_174 : jSs RX11 174 yX7_partOf cX7_partOf 3 (some .int) 2 := ⟨gms [812, 723, 68] (by decide +kernel) (by decide +kernel), cdX7_partOf, by decide +kernel⟩
theorem vL_62 : jV RL 62 10 yX11_out cX11_out 3 (some .int) 2 := ⟨⟨TX11, 12, rfl⟩, by decide, gms [813, 814, 815, 56] (by decide +kernel) (by decide +kernel), cdX11_out, by decide +kernel⟩
theorem vX11_178 : jV RX11 178 0 yX0_partOf cX0_partOf 3 (some .int) 2 := ⟨⟨TX0, 2, rfl⟩, by decide, gms [817, 818, 819, 64] (by decide +kernel) (by decide +kernel), cdX0_partOf, by decide +kernel⟩
theorem vX0_19 : jSn RX0 19 yX11_isWithin cX11_isWithin 3 (some .boolean) 3 := ⟨by decide +kernel, gm 317 (by decide +kernel) (by decide +kernel), gm 56 (by decide +kernel) (by decide +kernel), cdX11_isWithin, by decide +kernel⟩
theorem vX0_24 : jSs RX0 24 yX7_partOf cX7_partOf 3 (some .int) 2 := ⟨gms [823, 723, 68] (by decide +kernel) (by decide +kernel), cdX7_partOf, by decide +kernel⟩
theorem vL_67 : jV RL 67 10 yX11_host cX11_host 3 (some .int) 2 := ⟨⟨TX11, 12, rfl⟩, by decide, gms [824, 825, 826, 56] (by decide +kernel) (by decide +kernel), cdX11_host, by decide +kernel⟩
theorem vX11_180 : jV RX11 180 1 yX1_has cX1_has 2 (some .boolean) 1 := ⟨⟨TX1, 3, rfl⟩, by decide, gms [828, 829, 830, 65] (by decide +kernel) (by decide +kernel), cdX1_has, by decide +kernel⟩
theorem vX1_23 : jSn RX1 23 yX11_isWithin cX11_isWithin 3 (some .boolean) 3 := ⟨by decide +kernel, gm 317 (by decide +kernel) (by decide +kernel), gm 56 (by decide +kernel) (by decide +kernel), cdX11_isWithin, by decide +kernel⟩
theorem vX11_181 : jV RX11 181 1 yX1_size cX1_size 1 (some .int) 0 := ⟨⟨TX1, 3, rfl⟩, by decide, gms [833, 834, 835, 65] (by decide +kernel) (by decide +kernel), cdX1_size, by decide +kernel⟩
theorem vX11_182 : jV RX11 182 1 yX1_change cX1_change 6 (some .int) 2 := ⟨⟨TX1, 3, rfl⟩, by decide, gms [837, 838, 839, 65] (by decide +kernel) (by decide +kernel), cdX1_change, by decide +kernel⟩
theorem vX1_27 : jV RX1 27 1 yX1_choose cX1_choose 6 (some .int) 1 := ⟨⟨TX1, 3, rfl⟩, by decide, gms [841, 843, 27, 65] (by decide +kernel) (by decide +kernel), cdX1_choose, by decide +kernel⟩
theorem vX11_186 : jV RX11 186 8 yX9_countOfKeys cX9_countOfKeys 4 (some .int) 1 := ⟨⟨TX9, 8, rfl⟩, by decide, gms [845, 846, 847, 60] (by decide +kernel) (by decide +kernel), cdX9_countOfKeys, by decide +kernel⟩
theorem vX9_110 : jV RX9 110 7 yX8_countOfKeys cX8_countOfKeys 4 (some .int) 1 := ⟨⟨TX8, 3, rfl⟩, by decide, gms [849, 850, 851, 61] (by decide +kernel) (by decide +kernel), cdX8_countOfKeys, by decide +kernel⟩
theorem vL_72 : jV RL 72 10 yX11_owner cX11_owner 2 (some .int) 1 := ⟨⟨TX11, 12, rfl⟩, by decide, gms [853, 854, 855, 56] (by decide +kernel) (by decide +kernel), cdX11_owner, by decide +kernel⟩
theorem vX11_189 : jV RX11 189 1 yX1_ownerOf cX1_ownerOf 2 (some .int) 1 := ⟨⟨TX1, 3, rfl⟩, by decide, gms [857, 858, 859, 65] (by decide +kernel) (by decide +kernel), cdX1_ownerOf, by decide +kernel⟩
theorem vL_76 : jV RL 76 10 yX11_owns cX11_owns 2 (some .int) 1 := ⟨⟨TX11, 12, rfl⟩, by decide, gms [861, 862, 863, 56] (by decide +kernel) (by decide +kernel), cdX11_owns, by decide +kernel⟩
theorem vX11_192 : jV RX11 192 1 yX1_keysOf cX1_keysOf 4 (some .int) 1 := ⟨⟨TX1, 3, rfl⟩, by decide, gms [865, 866, 867, 65] (by decide +kernel) (by decide +kernel), cdX1_keysOf, by decide +kernel⟩
theorem vL_80 : jV RL 80 10 yX11_count cX11_count 2 (some .int) 1 := ⟨⟨TX11, 12, rfl⟩, by decide, gms [869, 870, 871, 56] (by decide +kernel) (by decide +kernel), cdX11_count, by decide +kernel⟩
theorem vX11_195 : jV RX11 195 6 yX6_rowsLate cX6_rowsLate 1 (some .int) 0 := ⟨⟨TX6, 3, rfl⟩, by decide, gms [873, 874, 875, 66] (by decide +kernel) (by decide +kernel), cdX6_rowsLate, by decide +kernel⟩
theorem vL_84 : jV RL 84 10 yX11_status cX11_status 1 (some .int) 0 := ⟨⟨TX11, 12, rfl⟩, by decide, gms [877, 878, 879, 56] (by decide +kernel) (by decide +kernel), cdX11_status, by decide +kernel⟩
theorem vL_12 : jIi RL 12 yX12_init cX12_init 1 0 := ⟨gms [883, 884, 67] (by decide +kernel) (by decide +kernel), cdX12_init, by decide +kernel, rfl⟩
theorem vL_17 : jV RL 17 11 yX12_tell cX12_tell 5 (some .int) 4 := ⟨⟨TX12, 52, rfl⟩, by decide, gms [1044, 1045, 1046, 67] (by decide +kernel) (by decide +kernel), cdX12_tell, by decide +kernel⟩
theorem vX12_128 : jSs RX12 128 yX12_in cX12_in 6 (some .boolean) 3 := ⟨gms [1049, 1050, 67] (by decide +kernel) (by decide +kernel), cdX12_in, by decide +kernel⟩
theorem vX12_140 : jV RX12 140 11 yX12_told cX12_told 2 (some .int) 1 := ⟨⟨TX12, 52, rfl⟩, by decide, gms [1056, 1058, 28, 67] (by decide +kernel) (by decide +kernel), cdX12_told, by decide +kernel⟩
theorem vL_44 : jV RL 44 11 yX12_read cX12_read 4 (some .int) 1 := ⟨⟨TX12, 52, rfl⟩, by decide, gms [1060, 1061, 1062, 67] (by decide +kernel) (by decide +kernel), cdX12_read, by decide +kernel⟩
theorem vX12_205 : jV RX12 205 11 yX12_readOne cX12_readOne 3 (some .boolean) 0 := ⟨⟨TX12, 52, rfl⟩, by decide, gms [1065, 1067, 29, 67] (by decide +kernel) (by decide +kernel), cdX12_readOne, by decide +kernel⟩
theorem vX12_190 : jV RX12 190 11 yX12_latest cX12_latest 4 (some .int) 1 := ⟨⟨TX12, 52, rfl⟩, by decide, gms [1069, 1071, 30, 67] (by decide +kernel) (by decide +kernel), cdX12_latest, by decide +kernel⟩
theorem vX12_193 : jV RX12 193 11 yX12_makeAll cX12_makeAll 3 (some .boolean) 1 := ⟨⟨TX12, 52, rfl⟩, by decide, gms [1073, 1075, 31, 67] (by decide +kernel) (by decide +kernel), cdX12_makeAll, by decide +kernel⟩
theorem vX12_176 : jV RX12 176 11 yX12_make cX12_make 4 none 2 := ⟨⟨TX12, 52, rfl⟩, by decide, gms [1077, 1079, 32, 67] (by decide +kernel) (by decide +kernel), cdX12_make, by decide +kernel⟩
theorem vX12_159 : jV RX12 159 11 yX12_add cX12_add 7 none 4 := ⟨⟨TX12, 52, rfl⟩, by decide, gms [1081, 1083, 33, 67] (by decide +kernel) (by decide +kernel), cdX12_add, by decide +kernel⟩
theorem vX12_155 : jV RX12 155 11 yX12_isBefore cX12_isBefore 5 (some .boolean) 4 := ⟨⟨TX12, 52, rfl⟩, by decide, gms [1087, 1089, 34, 67] (by decide +kernel) (by decide +kernel), cdX12_isBefore, by decide +kernel⟩
theorem vX12_163 : jV RX12 163 11 yX12_makeEach cX12_makeEach 5 none 1 := ⟨⟨TX12, 52, rfl⟩, by decide, gms [1091, 1093, 35, 67] (by decide +kernel) (by decide +kernel), cdX12_makeEach, by decide +kernel⟩
theorem vX12_167 : jV RX12 167 11 yX12_makeHeaps cX12_makeHeaps 10 none 1 := ⟨⟨TX12, 52, rfl⟩, by decide, gms [1095, 1097, 36, 67] (by decide +kernel) (by decide +kernel), cdX12_makeHeaps, by decide +kernel⟩
theorem vX12_170 : jV RX12 170 11 yX12_makeOfTwo cX12_makeOfTwo 7 none 1 := ⟨⟨TX12, 52, rfl⟩, by decide, gms [1099, 1101, 37, 67] (by decide +kernel) (by decide +kernel), cdX12_makeOfTwo, by decide +kernel⟩
theorem vX12_197 : jV RX12 197 11 yX12_change cX12_change 6 (some .boolean) 1 := ⟨⟨TX12, 52, rfl⟩, by decide, gms [1103, 1105, 38, 67] (by decide +kernel) (by decide +kernel), cdX12_change, by decide +kernel⟩
theorem vX12_180 : jV RX12 180 11 yX12_order cX12_order 3 (some .int) 2 := ⟨⟨TX12, 52, rfl⟩, by decide, gms [1107, 1109, 39, 67] (by decide +kernel) (by decide +kernel), cdX12_order, by decide +kernel⟩
theorem vX12_200 : jV RX12 200 11 yX12_keep cX12_keep 3 none 0 := ⟨⟨TX12, 52, rfl⟩, by decide, gms [1111, 1113, 40, 67] (by decide +kernel) (by decide +kernel), cdX12_keep, by decide +kernel⟩
theorem vL_48 : jV RL 48 11 yX12_mark cX12_mark 2 (some .int) 0 := ⟨⟨TX12, 52, rfl⟩, by decide, gms [1115, 1116, 1117, 67] (by decide +kernel) (by decide +kernel), cdX12_mark, by decide +kernel⟩
theorem vL_52 : jV RL 52 11 yX12_fall cX12_fall 1 (some .int) 0 := ⟨⟨TX12, 52, rfl⟩, by decide, gms [1119, 1120, 1121, 67] (by decide +kernel) (by decide +kernel), cdX12_fall, by decide +kernel⟩
theorem vX12_215 : jV RX12 215 11 yX12_goTo cX12_goTo 2 none 1 := ⟨⟨TX12, 52, rfl⟩, by decide, gms [1123, 1125, 41, 67] (by decide +kernel) (by decide +kernel), cdX12_goTo, by decide +kernel⟩
theorem vL_40 : jV RL 40 11 yX12_late cX12_late 3 (some .int) 1 := ⟨⟨TX12, 52, rfl⟩, by decide, gms [1127, 1128, 1129, 67] (by decide +kernel) (by decide +kernel), cdX12_late, by decide +kernel⟩
theorem vX12_220 : jV RX12 220 11 yX12_begin cX12_begin 1 none 0 := ⟨⟨TX12, 52, rfl⟩, by decide, gms [1132, 1134, 42, 67] (by decide +kernel) (by decide +kernel), cdX12_begin, by decide +kernel⟩
theorem vL_22 : jV RL 22 11 yX12_feed cX12_feed 6 (some .int) 5 := ⟨⟨TX12, 52, rfl⟩, by decide, gms [1136, 1137, 1138, 67] (by decide +kernel) (by decide +kernel), cdX12_feed, by decide +kernel⟩
theorem vX12_226 : jV RX12 226 11 yX12_four cX12_four 3 none 1 := ⟨⟨TX12, 52, rfl⟩, by decide, gms [1140, 1142, 43, 67] (by decide +kernel) (by decide +kernel), cdX12_four, by decide +kernel⟩
theorem vL_27 : jV RL 27 11 yX12_end cX12_end 2 (some .int) 1 := ⟨⟨TX12, 52, rfl⟩, by decide, gms [1144, 1145, 1146, 67] (by decide +kernel) (by decide +kernel), cdX12_end, by decide +kernel⟩
theorem vL_32 : jV RL 32 11 yX12_tables cX12_tables 2 (some .int) 0 := ⟨⟨TX12, 52, rfl⟩, by decide, gms [1148, 1149, 1150, 67] (by decide +kernel) (by decide +kernel), cdX12_tables, by decide +kernel⟩
theorem vX12_259 : jV RX12 259 11 yX12_next cX12_next 1 none 0 := ⟨⟨TX12, 52, rfl⟩, by decide, gms [1152, 1154, 44, 67] (by decide +kernel) (by decide +kernel), cdX12_next, by decide +kernel⟩
theorem vX12_239 : jSs RX12 239 yX12_isSmall cX12_isSmall 1 (some .boolean) 1 := ⟨gms [1156, 1157, 67] (by decide +kernel) (by decide +kernel), cdX12_isSmall, by decide +kernel⟩
theorem vX12_242 : jSs RX12 242 yX12_isDigit cX12_isDigit 1 (some .boolean) 1 := ⟨gms [1159, 1160, 67] (by decide +kernel) (by decide +kernel), cdX12_isDigit, by decide +kernel⟩
theorem vX12_293 : jV RX12 293 11 yX12_readTable cX12_readTable 7 none 0 := ⟨⟨TX12, 52, rfl⟩, by decide, gms [1166, 1168, 45, 67] (by decide +kernel) (by decide +kernel), cdX12_readTable, by decide +kernel⟩
theorem vX12_273 : jV RX12 273 11 yX12_isName cX12_isName 1 (some .boolean) 0 := ⟨⟨TX12, 52, rfl⟩, by decide, gms [1170, 1172, 46, 67] (by decide +kernel) (by decide +kernel), cdX12_isName, by decide +kernel⟩
theorem vX12_262 : jV RX12 262 11 yX12_must cX12_must 2 none 1 := ⟨⟨TX12, 52, rfl⟩, by decide, gms [1174, 1176, 47, 67] (by decide +kernel) (by decide +kernel), cdX12_must, by decide +kernel⟩
theorem vX12_266 : jV RX12 266 11 yX12_isSign cX12_isSign 2 (some .boolean) 1 := ⟨⟨TX12, 52, rfl⟩, by decide, gms [1178, 1180, 48, 67] (by decide +kernel) (by decide +kernel), cdX12_isSign, by decide +kernel⟩
theorem vX12_283 : jV RX12 283 11 yX12_kindAt cX12_kindAt 1 (some .int) 0 := ⟨⟨TX12, 52, rfl⟩, by decide, gms [1182, 1184, 49, 67] (by decide +kernel) (by decide +kernel), cdX12_kindAt, by decide +kernel⟩
theorem vX12_276 : jV RX12 276 11 yX12_isWord cX12_isWord 9 (some .boolean) 6 := ⟨⟨TX12, 52, rfl⟩, by decide, gms [1186, 1188, 50, 67] (by decide +kernel) (by decide +kernel), cdX12_isWord, by decide +kernel⟩
theorem vX12_269 : jV RX12 269 11 yX12_number cX12_number 6 (some .int) 2 := ⟨⟨TX12, 52, rfl⟩, by decide, gms [1190, 1192, 51, 67] (by decide +kernel) (by decide +kernel), cdX12_number, by decide +kernel⟩
theorem vX12_287 : jV RX12 287 11 yX12_name cX12_name 2 (some .int) 0 := ⟨⟨TX12, 52, rfl⟩, by decide, gms [1194, 1196, 52, 67] (by decide +kernel) (by decide +kernel), cdX12_name, by decide +kernel⟩
theorem vX12_290 : jV RX12 290 11 yX12_signed cX12_signed 3 (some .int) 0 := ⟨⟨TX12, 52, rfl⟩, by decide, gms [1198, 1200, 53, 67] (by decide +kernel) (by decide +kernel), cdX12_signed, by decide +kernel⟩
theorem vL_36 : jV RL 36 11 yX12_fault cX12_fault 1 (some .int) 0 := ⟨⟨TX12, 52, rfl⟩, by decide, gms [1202, 1203, 1204, 67] (by decide +kernel) (by decide +kernel), cdX12_fault, by decide +kernel⟩
theorem vL_56 : jV RL 56 11 yX12_rows cX12_rows 2 (some .int) 1 := ⟨⟨TX12, 52, rfl⟩, by decide, gms [1206, 1207, 1208, 67] (by decide +kernel) (by decide +kernel), cdX12_rows, by decide +kernel⟩
theorem vX12_296 : jV RX12 296 11 yX12_isTable cX12_isTable 2 (some .boolean) 1 := ⟨⟨TX12, 52, rfl⟩, by decide, gms [1210, 1212, 54, 67] (by decide +kernel) (by decide +kernel), cdX12_isTable, by decide +kernel⟩
theorem vL_61 : jV RL 61 11 yX12_row cX12_row 5 (some .int) 3 := ⟨⟨TX12, 52, rfl⟩, by decide, gms [1214, 1215, 1216, 67] (by decide +kernel) (by decide +kernel), cdX12_row, by decide +kernel⟩
theorem vL_66 : jV RL 66 11 yX12_out cX12_out 3 (some .int) 2 := ⟨⟨TX12, 52, rfl⟩, by decide, gms [1219, 1220, 1221, 67] (by decide +kernel) (by decide +kernel), cdX12_out, by decide +kernel⟩
theorem vL_71 : jV RL 71 11 yX12_host cX12_host 7 (some .int) 2 := ⟨⟨TX12, 52, rfl⟩, by decide, gms [1223, 1224, 1225, 67] (by decide +kernel) (by decide +kernel), cdX12_host, by decide +kernel⟩
theorem vX12_302 : jSs RX12 302 yX12_ownerBy cX12_ownerBy 6 (some .int) 2 := ⟨gms [1228, 1229, 67] (by decide +kernel) (by decide +kernel), cdX12_ownerBy, by decide +kernel⟩
theorem vL_75 : jV RL 75 11 yX12_owner cX12_owner 2 (some .int) 1 := ⟨⟨TX12, 52, rfl⟩, by decide, gms [1231, 1232, 1233, 67] (by decide +kernel) (by decide +kernel), cdX12_owner, by decide +kernel⟩
theorem vL_79 : jV RL 79 11 yX12_owns cX12_owns 5 (some .int) 1 := ⟨⟨TX12, 52, rfl⟩, by decide, gms [1235, 1236, 1237, 67] (by decide +kernel) (by decide +kernel), cdX12_owns, by decide +kernel⟩
theorem vL_83 : jV RL 83 11 yX12_count cX12_count 4 (some .int) 1 := ⟨⟨TX12, 52, rfl⟩, by decide, gms [1239, 1240, 1241, 67] (by decide +kernel) (by decide +kernel), cdX12_count, by decide +kernel⟩
theorem vL_87 : jV RL 87 11 yX12_status cX12_status 1 (some .int) 0 := ⟨⟨TX12, 52, rfl⟩, by decide, gms [1243, 1244, 1245, 67] (by decide +kernel) (by decide +kernel), cdX12_status, by decide +kernel⟩
