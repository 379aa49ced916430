theorem inT1 {w : Cond} (j : Nat) (h : tables_1_1[j]? = some w) (ho : okW w = true) : w ∈ TS := List.mem_filter.mpr ⟨List.mem_append_right _ (List.mem_append_left _ (List.mem_of_getElem? h)), ho⟩
theorem inT2 {w : Cond} (j : Nat) (h : tables_1_2[j]? = some w) (ho : okW w = true) : w ∈ TS := List.mem_filter.mpr ⟨List.mem_append_right _ (List.mem_append_right _ (List.mem_append_left _ (List.mem_of_getElem? h))), ho⟩
theorem inT3 {w : Cond} (j : Nat) (h : tables_1_3[j]? = some w) (ho : okW w = true) : w ∈ TS := List.mem_filter.mpr ⟨List.mem_append_right _ (List.mem_append_right _ (List.mem_append_right _ (List.mem_append_left _ (List.mem_of_getElem? h)))), ho⟩
theorem inT4 {w : Cond} (j : Nat) (h : tables_1_4[j]? = some w) (ho : okW w = true) : w ∈ TS := List.mem_filter.mpr ⟨List.mem_append_right _ (List.mem_append_right _ (List.mem_append_right _ (List.mem_append_right _ (List.mem_append_left _ (List.mem_of_getElem? h))))), ho⟩
theorem inT5 {w : Cond} (j : Nat) (h : tables_1_5[j]? = some w) (ho : okW w = true) : w ∈ TS := List.mem_filter.mpr ⟨List.mem_append_right _ (List.mem_append_right _ (List.mem_append_right _ (List.mem_append_right _ (List.mem_append_right _ (List.mem_append_left _ (List.mem_of_getElem? h)))))), ho⟩
theorem inT6 {w : Cond} (j : Nat) (h : tables_1_6[j]? = some w) (ho : okW w = true) : w ∈ TS := List.mem_filter.mpr ⟨List.mem_append_right _ (List.mem_append_right _ (List.mem_append_right _ (List.mem_append_right _ (List.mem_append_right _ (List.mem_append_right _ (List.mem_append_left _ (List.mem_of_getElem? h))))))), ho⟩
theorem inT7 {w : Cond} (j : Nat) (h : tables_1_7[j]? = some w) (ho : okW w = true) : w ∈ TS := List.mem_filter.mpr ⟨List.mem_append_right _ (List.mem_append_right _ (List.mem_append_right _ (List.mem_append_right _ (List.mem_append_right _ (List.mem_append_right _ (List.mem_append_right _ (List.mem_append_left _ (List.mem_of_getElem? h)))))))), ho⟩
theorem inT8 {w : Cond} (j : Nat) (h : tables_1_8[j]? = some w) (ho : okW w = true) : w ∈ TS := List.mem_filter.mpr ⟨List.mem_append_right _ (List.mem_append_right _ (List.mem_append_right _ (List.mem_append_right _ (List.mem_append_right _ (List.mem_append_right _ (List.mem_append_right _ (List.mem_append_right _ (List.mem_append_left _ (List.mem_of_getElem? h))))))))), ho⟩
theorem inT9 {w : Cond} (j : Nat) (h : tables_1_9[j]? = some w) (ho : okW w = true) : w ∈ TS := List.mem_filter.mpr ⟨List.mem_append_right _ (List.mem_append_right _ (List.mem_append_right _ (List.mem_append_right _ (List.mem_append_right _ (List.mem_append_right _ (List.mem_append_right _ (List.mem_append_right _ (List.mem_append_right _ (List.mem_of_getElem? h))))))))), ho⟩
theorem inP1 {y : MethodName} {n : Nat} (j : Nat) (h : lw_privs_1[j]? = some (y, n)) : Cond.selects y.cls y y ∈ TS := List.mem_filter.mpr ⟨List.mem_append_left _ (List.mem_map.mpr ⟨(y, n), List.mem_append_left _ (List.mem_of_getElem? h), rfl⟩), rfl⟩
theorem inP2 {y : MethodName} {n : Nat} (j : Nat) (h : lw_privs_2[j]? = some (y, n)) : Cond.selects y.cls y y ∈ TS := List.mem_filter.mpr ⟨List.mem_append_left _ (List.mem_map.mpr ⟨(y, n), List.mem_append_right _ (List.mem_append_left _ (List.mem_of_getElem? h)), rfl⟩), rfl⟩
theorem inP3 {y : MethodName} {n : Nat} (j : Nat) (h : lw_privs_3[j]? = some (y, n)) : Cond.selects y.cls y y ∈ TS := List.mem_filter.mpr ⟨List.mem_append_left _ (List.mem_map.mpr ⟨(y, n), List.mem_append_right _ (List.mem_append_right _ (List.mem_append_left _ (List.mem_of_getElem? h))), rfl⟩), rfl⟩
theorem inP4 {y : MethodName} {n : Nat} (j : Nat) (h : lw_privs_4[j]? = some (y, n)) : Cond.selects y.cls y y ∈ TS := List.mem_filter.mpr ⟨List.mem_append_left _ (List.mem_map.mpr ⟨(y, n), List.mem_append_right _ (List.mem_append_right _ (List.mem_append_right _ (List.mem_append_left _ (List.mem_of_getElem? h)))), rfl⟩), rfl⟩
theorem inP5 {y : MethodName} {n : Nat} (j : Nat) (h : lw_privs_5[j]? = some (y, n)) : Cond.selects y.cls y y ∈ TS := List.mem_filter.mpr ⟨List.mem_append_left _ (List.mem_map.mpr ⟨(y, n), List.mem_append_right _ (List.mem_append_right _ (List.mem_append_right _ (List.mem_append_right _ (List.mem_append_left _ (List.mem_of_getElem? h))))), rfl⟩), rfl⟩
theorem inP6 {y : MethodName} {n : Nat} (j : Nat) (h : lw_privs_6[j]? = some (y, n)) : Cond.selects y.cls y y ∈ TS := List.mem_filter.mpr ⟨List.mem_append_left _ (List.mem_map.mpr ⟨(y, n), List.mem_append_right _ (List.mem_append_right _ (List.mem_append_right _ (List.mem_append_right _ (List.mem_append_right _ (List.mem_append_left _ (List.mem_of_getElem? h)))))), rfl⟩), rfl⟩
theorem inP7 {y : MethodName} {n : Nat} (j : Nat) (h : lw_privs_7[j]? = some (y, n)) : Cond.selects y.cls y y ∈ TS := List.mem_filter.mpr ⟨List.mem_append_left _ (List.mem_map.mpr ⟨(y, n), List.mem_append_right _ (List.mem_append_right _ (List.mem_append_right _ (List.mem_append_right _ (List.mem_append_right _ (List.mem_append_right _ (List.mem_append_left _ (List.mem_of_getElem? h))))))), rfl⟩), rfl⟩
theorem inP8 {y : MethodName} {n : Nat} (j : Nat) (h : lw_privs_8[j]? = some (y, n)) : Cond.selects y.cls y y ∈ TS := List.mem_filter.mpr ⟨List.mem_append_left _ (List.mem_map.mpr ⟨(y, n), List.mem_append_right _ (List.mem_append_right _ (List.mem_append_right _ (List.mem_append_right _ (List.mem_append_right _ (List.mem_append_right _ (List.mem_append_right _ (List.mem_of_getElem? h))))))), rfl⟩), rfl⟩
theorem wj_max_s : Cond.static Lib.Math.max.name ∈ TS := inT4 143 (by decide +kernel) (by decide +kernel)
theorem wj_max_c : Cond.code Lib.Math.max.name Lib.Math.max.code 2 (some .int) ∈ TS := inT4 144 (by decide +kernel) (by decide +kernel)
theorem wj_min_s : Cond.static Lib.Math.min.name ∈ TS := inT3 144 (by decide +kernel) (by decide +kernel)
theorem wj_min_c : Cond.code Lib.Math.min.name Lib.Math.min.code 2 (some .int) ∈ TS := inT3 145 (by decide +kernel) (by decide +kernel)
theorem wj_Math_i : Cond.initialized "java/lang/Math" ∈ TS := inT1 18 (by decide +kernel) (by decide +kernel)
theorem wj_ac_n : Cond.native arraycopyName ∈ TS := inT4 179 (by decide +kernel) (by decide +kernel)
theorem wj_ac_s : Cond.static arraycopyName ∈ TS := inT4 178 (by decide +kernel) (by decide +kernel)
theorem wj_ac_i : Cond.initialized "java/lang/System" ∈ TS := inT1 24 (by decide +kernel) (by decide +kernel)
theorem wk_9_68 : Cond.constant RX9 68 (Int32.ofInt (1000000)) ∈ TS := inT3 158 (by decide +kernel) (by decide +kernel)
theorem wk_11_338 : Cond.constant RX11 338 (Int32.ofInt (99999)) ∈ TS := inT5 103 (by decide +kernel) (by decide +kernel)
theorem wk_11_341 : Cond.constant RX11 341 (Int32.ofInt (-2147483648)) ∈ TS := inT5 116 (by decide +kernel) (by decide +kernel)
theorem wk_12_213 : Cond.constant RX12 213 (Int32.ofInt (99999)) ∈ TS := inT7 168 (by decide +kernel) (by decide +kernel)
theorem wk_12_511 : Cond.constant RX12 511 (Int32.ofInt (-2147483648)) ∈ TS := inT8 222 (by decide +kernel) (by decide +kernel)
theorem wk_0_181 : Cond.constantLong RX0 181 (Int64.ofInt (-9223372036854775808)) ∈ TS := inT4 230 (by decide +kernel) (by decide +kernel)
theorem wk_0_216 : Cond.constantLong RX0 216 (Int64.ofInt (-1)) ∈ TS := inT4 238 (by decide +kernel) (by decide +kernel)
theorem wk_3_48 : Cond.constantLong RX3 48 (Int64.ofInt (1000000000000)) ∈ TS := inT4 110 (by decide +kernel) (by decide +kernel)
theorem wk_3_50 : Cond.constantLong RX3 50 (Int64.ofInt (-1000000000000)) ∈ TS := inT4 112 (by decide +kernel) (by decide +kernel)
theorem wk_3_52 : Cond.constantLong RX3 52 (Int64.ofInt (-9223372036854775808)) ∈ TS := inT4 111 (by decide +kernel) (by decide +kernel)
theorem wk_10_47 : Cond.constantLong RX10 47 (Int64.ofInt (1103515245)) ∈ TS := inT4 205 (by decide +kernel) (by decide +kernel)
theorem wk_10_49 : Cond.constantLong RX10 49 (Int64.ofInt (12345)) ∈ TS := inT4 206 (by decide +kernel) (by decide +kernel)
theorem wk_10_51 : Cond.constantLong RX10 51 (Int64.ofInt (2147483647)) ∈ TS := inT4 207 (by decide +kernel) (by decide +kernel)
theorem wk_10_53 : Cond.constantLong RX10 53 (Int64.ofInt (65536)) ∈ TS := inT4 208 (by decide +kernel) (by decide +kernel)
theorem wk_10_55 : Cond.constantLong RX10 55 (Int64.ofInt (101)) ∈ TS := inT4 209 (by decide +kernel) (by decide +kernel)
theorem wk_10_57 : Cond.constantLong RX10 57 (Int64.ofInt (50)) ∈ TS := inT4 210 (by decide +kernel) (by decide +kernel)
theorem wk_11_211 : Cond.constantLong RX11 211 (Int64.ofInt (-9223372036854775808)) ∈ TS := inT4 129 (by decide +kernel) (by decide +kernel)
theorem wk_12_366 : Cond.constantLong RX12 366 (Int64.ofInt (1000000000000)) ∈ TS := inT8 102 (by decide +kernel) (by decide +kernel)
theorem wk_12_368 : Cond.constantLong RX12 368 (Int64.ofInt (-1000000000000)) ∈ TS := inT8 103 (by decide +kernel) (by decide +kernel)
theorem wk_12_491 : Cond.constantLong RX12 491 (Int64.ofInt (-9223372036854775808)) ∈ TS := inT8 81 (by decide +kernel) (by decide +kernel)
theorem wk_12_549 : Cond.constantLong RX12 549 (Int64.ofInt (1103515245)) ∈ TS := inT9 97 (by decide +kernel) (by decide +kernel)
theorem wk_12_551 : Cond.constantLong RX12 551 (Int64.ofInt (12345)) ∈ TS := inT9 98 (by decide +kernel) (by decide +kernel)
theorem wk_12_553 : Cond.constantLong RX12 553 (Int64.ofInt (2147483647)) ∈ TS := inT9 99 (by decide +kernel) (by decide +kernel)
theorem wk_12_555 : Cond.constantLong RX12 555 (Int64.ofInt (65536)) ∈ TS := inT9 100 (by decide +kernel) (by decide +kernel)
theorem wf_0_107 : Cond.fieldLink RX0 107 (TX6 2).1 (TX6 2).2.1 (TX6 2).2.2.1 ∈ TS := inT1 234 (by decide +kernel) (by decide +kernel)
theorem wf_0_110 : Cond.fieldLink RX0 110 (TX6 0).1 (TX6 0).2.1 (TX6 0).2.2.1 ∈ TS := inT1 227 (by decide +kernel) (by decide +kernel)
theorem wf_0_12 : Cond.fieldLink RX0 12 (TX0 0).1 (TX0 0).2.1 (TX0 0).2.2.1 ∈ TS := inT2 190 (by decide +kernel) (by decide +kernel)
theorem wf_0_126 : Cond.fieldLink RX0 126 (TX0 6).1 (TX0 6).2.1 (TX0 6).2.2.1 ∈ TS := inT2 204 (by decide +kernel) (by decide +kernel)
theorem wf_0_133 : Cond.fieldLink RX0 133 (TX2 11).1 (TX2 11).2.1 (TX2 11).2.2.1 ∈ TS := inT2 88 (by decide +kernel) (by decide +kernel)
theorem wf_0_140 : Cond.fieldLink RX0 140 (TX10 0).1 (TX10 0).2.1 (TX10 0).2.2.1 ∈ TS := inT2 141 (by decide +kernel) (by decide +kernel)
theorem wf_0_146 : Cond.fieldLink RX0 146 (TX10 1).1 (TX10 1).2.1 (TX10 1).2.2.1 ∈ TS := inT2 144 (by decide +kernel) (by decide +kernel)
theorem wf_0_152 : Cond.fieldLink RX0 152 (TX8 4).1 (TX8 4).2.1 (TX8 4).2.2.1 ∈ TS := inT1 206 (by decide +kernel) (by decide +kernel)
theorem wf_0_155 : Cond.fieldLink RX0 155 (TX10 2).1 (TX10 2).2.1 (TX10 2).2.2.1 ∈ TS := inT2 147 (by decide +kernel) (by decide +kernel)
theorem wf_0_161 : Cond.fieldLink RX0 161 (TX10 4).1 (TX10 4).2.1 (TX10 4).2.2.1 ∈ TS := inT2 152 (by decide +kernel) (by decide +kernel)
theorem wf_0_171 : Cond.fieldLink RX0 171 (TX8 3).1 (TX8 3).2.1 (TX8 3).2.2.1 ∈ TS := inT1 202 (by decide +kernel) (by decide +kernel)
theorem wf_0_18 : Cond.fieldLink RX0 18 (TX0 7).1 (TX0 7).2.1 (TX0 7).2.2.1 ∈ TS := inT2 206 (by decide +kernel) (by decide +kernel)
theorem wf_0_183 : Cond.fieldLink RX0 183 (TX2 2).1 (TX2 2).2.1 (TX2 2).2.2.1 ∈ TS := inT2 66 (by decide +kernel) (by decide +kernel)
theorem wf_0_187 : Cond.fieldLink RX0 187 (TX3 5).1 (TX3 5).2.1 (TX3 5).2.2.1 ∈ TS := inT2 34 (by decide +kernel) (by decide +kernel)
theorem wf_0_200 : Cond.fieldLink RX0 200 (TX6 3).1 (TX6 3).2.1 (TX6 3).2.2.1 ∈ TS := inT1 239 (by decide +kernel) (by decide +kernel)
theorem wf_0_203 : Cond.fieldLink RX0 203 (TX10 5).1 (TX10 5).2.1 (TX10 5).2.2.1 ∈ TS := inT2 155 (by decide +kernel) (by decide +kernel)
theorem wf_0_206 : Cond.fieldLink RX0 206 (TX6 5).1 (TX6 5).2.1 (TX6 5).2.2.1 ∈ TS := inT2 7 (by decide +kernel) (by decide +kernel)
theorem wf_0_22 : Cond.fieldLink RX0 22 (TX0 8).1 (TX0 8).2.1 (TX0 8).2.2.1 ∈ TS := inT2 209 (by decide +kernel) (by decide +kernel)
theorem wf_0_26 : Cond.fieldLink RX0 26 (TX0 9).1 (TX0 9).2.1 (TX0 9).2.2.1 ∈ TS := inT2 211 (by decide +kernel) (by decide +kernel)
theorem wf_0_29 : Cond.fieldLink RX0 29 (TX0 10).1 (TX0 10).2.1 (TX0 10).2.2.1 ∈ TS := inT2 213 (by decide +kernel) (by decide +kernel)
theorem wf_0_32 : Cond.fieldLink RX0 32 (TX0 11).1 (TX0 11).2.1 (TX0 11).2.2.1 ∈ TS := inT2 215 (by decide +kernel) (by decide +kernel)
theorem wf_0_35 : Cond.fieldLink RX0 35 (TX0 12).1 (TX0 12).2.1 (TX0 12).2.2.1 ∈ TS := inT2 217 (by decide +kernel) (by decide +kernel)
theorem wf_0_38 : Cond.fieldLink RX0 38 (TX0 1).1 (TX0 1).2.1 (TX0 1).2.2.1 ∈ TS := inT2 192 (by decide +kernel) (by decide +kernel)
theorem wf_0_42 : Cond.fieldLink RX0 42 (TX2 9).1 (TX2 9).2.1 (TX2 9).2.2.1 ∈ TS := inT2 81 (by decide +kernel) (by decide +kernel)
theorem wf_0_48 : Cond.fieldLink RX0 48 (TX0 3).1 (TX0 3).2.1 (TX0 3).2.2.1 ∈ TS := inT2 195 (by decide +kernel) (by decide +kernel)
theorem wf_0_49 : Cond.fieldLink RX0 49 (TX0 2).1 (TX0 2).2.1 (TX0 2).2.2.1 ∈ TS := inT2 193 (by decide +kernel) (by decide +kernel)
theorem wf_0_52 : Cond.fieldLink RX0 52 (TX2 10).1 (TX2 10).2.1 (TX2 10).2.2.1 ∈ TS := inT2 84 (by decide +kernel) (by decide +kernel)
theorem wf_0_55 : Cond.fieldLink RX0 55 (TX0 4).1 (TX0 4).2.1 (TX0 4).2.2.1 ∈ TS := inT2 198 (by decide +kernel) (by decide +kernel)
theorem wf_0_56 : Cond.fieldLink RX0 56 (TX0 5).1 (TX0 5).2.1 (TX0 5).2.2.1 ∈ TS := inT2 201 (by decide +kernel) (by decide +kernel)
theorem wf_0_60 : Cond.fieldLink RX0 60 (TX2 0).1 (TX2 0).2.1 (TX2 0).2.2.1 ∈ TS := inT2 58 (by decide +kernel) (by decide +kernel)
theorem wf_0_64 : Cond.fieldLink RX0 64 (TX8 2).1 (TX8 2).2.1 (TX8 2).2.2.1 ∈ TS := inT1 199 (by decide +kernel) (by decide +kernel)
theorem wf_0_67 : Cond.fieldLink RX0 67 (TX0 14).1 (TX0 14).2.1 (TX0 14).2.2.1 ∈ TS := inT2 221 (by decide +kernel) (by decide +kernel)
theorem wf_0_73 : Cond.fieldLink RX0 73 (TX0 13).1 (TX0 13).2.1 (TX0 13).2.2.1 ∈ TS := inT2 219 (by decide +kernel) (by decide +kernel)
theorem wf_0_76 : Cond.fieldLink RX0 76 (TX0 15).1 (TX0 15).2.1 (TX0 15).2.2.1 ∈ TS := inT2 223 (by decide +kernel) (by decide +kernel)
theorem wf_0_79 : Cond.fieldLink RX0 79 (TX0 16).1 (TX0 16).2.1 (TX0 16).2.2.1 ∈ TS := inT2 225 (by decide +kernel) (by decide +kernel)
theorem wf_0_82 : Cond.fieldLink RX0 82 (TX0 17).1 (TX0 17).2.1 (TX0 17).2.2.1 ∈ TS := inT2 227 (by decide +kernel) (by decide +kernel)
theorem wf_0_91 : Cond.fieldLink RX0 91 (TX8 0).1 (TX8 0).2.1 (TX8 0).2.2.1 ∈ TS := inT1 192 (by decide +kernel) (by decide +kernel)
theorem wf_0_94 : Cond.fieldLink RX0 94 (TX2 1).1 (TX2 1).2.1 (TX2 1).2.2.1 ∈ TS := inT2 62 (by decide +kernel) (by decide +kernel)
theorem wf_0_98 : Cond.fieldLink RX0 98 (TX6 4).1 (TX6 4).2.1 (TX6 4).2.2.1 ∈ TS := inT2 2 (by decide +kernel) (by decide +kernel)
theorem wf_1_15 : Cond.fieldLink RX1 15 (TX1 2).1 (TX1 2).2.1 (TX1 2).2.2.1 ∈ TS := inT1 134 (by decide +kernel) (by decide +kernel)
theorem wf_1_19 : Cond.fieldLink RX1 19 (TX1 0).1 (TX1 0).2.1 (TX1 0).2.2.1 ∈ TS := inT1 132 (by decide +kernel) (by decide +kernel)
theorem wf_1_23 : Cond.fieldLink RX1 23 (TX1 3).1 (TX1 3).2.1 (TX1 3).2.2.1 ∈ TS := inT1 135 (by decide +kernel) (by decide +kernel)
theorem wf_1_27 : Cond.fieldLink RX1 27 (TX1 4).1 (TX1 4).2.1 (TX1 4).2.2.1 ∈ TS := inT1 136 (by decide +kernel) (by decide +kernel)
theorem wf_1_30 : Cond.fieldLink RX1 30 (TX1 5).1 (TX1 5).2.1 (TX1 5).2.2.1 ∈ TS := inT1 137 (by decide +kernel) (by decide +kernel)
theorem wf_1_34 : Cond.fieldLink RX1 34 (TX1 6).1 (TX1 6).2.1 (TX1 6).2.2.1 ∈ TS := inT1 138 (by decide +kernel) (by decide +kernel)
theorem wf_1_37 : Cond.fieldLink RX1 37 (TX9 4).1 (TX9 4).2.1 (TX9 4).2.2.1 ∈ TS := inT1 101 (by decide +kernel) (by decide +kernel)
theorem wf_1_64 : Cond.fieldLink RX1 64 (TX3 7).1 (TX3 7).2.1 (TX3 7).2.2.1 ∈ TS := inT2 37 (by decide +kernel) (by decide +kernel)
theorem wf_1_69 : Cond.fieldLink RX1 69 (TX9 5).1 (TX9 5).2.1 (TX9 5).2.2.1 ∈ TS := inT1 104 (by decide +kernel) (by decide +kernel)
theorem wf_1_9 : Cond.fieldLink RX1 9 (TX1 1).1 (TX1 1).2.1 (TX1 1).2.2.1 ∈ TS := inT1 133 (by decide +kernel) (by decide +kernel)
theorem wf_2_12 : Cond.fieldLink RX2 12 (TX2 0).1 (TX2 0).2.1 (TX2 0).2.2.1 ∈ TS := inT2 57 (by decide +kernel) (by decide +kernel)
theorem wf_2_21 : Cond.fieldLink RX2 21 (TX2 1).1 (TX2 1).2.1 (TX2 1).2.2.1 ∈ TS := inT2 61 (by decide +kernel) (by decide +kernel)
theorem wf_2_28 : Cond.fieldLink RX2 28 (TX2 2).1 (TX2 2).2.1 (TX2 2).2.2.1 ∈ TS := inT2 65 (by decide +kernel) (by decide +kernel)
theorem wf_2_32 : Cond.fieldLink RX2 32 (TX2 4).1 (TX2 4).2.1 (TX2 4).2.2.1 ∈ TS := inT2 71 (by decide +kernel) (by decide +kernel)
theorem wf_2_36 : Cond.fieldLink RX2 36 (TX2 5).1 (TX2 5).2.1 (TX2 5).2.2.1 ∈ TS := inT2 73 (by decide +kernel) (by decide +kernel)
theorem wf_2_39 : Cond.fieldLink RX2 39 (TX2 6).1 (TX2 6).2.1 (TX2 6).2.2.1 ∈ TS := inT2 75 (by decide +kernel) (by decide +kernel)
theorem wf_2_42 : Cond.fieldLink RX2 42 (TX2 8).1 (TX2 8).2.1 (TX2 8).2.2.1 ∈ TS := inT2 79 (by decide +kernel) (by decide +kernel)
theorem wf_2_45 : Cond.fieldLink RX2 45 (TX2 9).1 (TX2 9).2.1 (TX2 9).2.2.1 ∈ TS := inT2 82 (by decide +kernel) (by decide +kernel)
theorem wf_2_49 : Cond.fieldLink RX2 49 (TX2 11).1 (TX2 11).2.1 (TX2 11).2.2.1 ∈ TS := inT2 87 (by decide +kernel) (by decide +kernel)
theorem wf_2_52 : Cond.fieldLink RX2 52 (TX8 0).1 (TX8 0).2.1 (TX8 0).2.2.1 ∈ TS := inT1 191 (by decide +kernel) (by decide +kernel)
theorem wf_2_55 : Cond.fieldLink RX2 55 (TX6 0).1 (TX6 0).2.1 (TX6 0).2.2.1 ∈ TS := inT1 226 (by decide +kernel) (by decide +kernel)
theorem wf_2_59 : Cond.fieldLink RX2 59 (TX2 3).1 (TX2 3).2.1 (TX2 3).2.2.1 ∈ TS := inT2 69 (by decide +kernel) (by decide +kernel)
theorem wf_2_62 : Cond.fieldLink RX2 62 (TX2 7).1 (TX2 7).2.1 (TX2 7).2.2.1 ∈ TS := inT2 77 (by decide +kernel) (by decide +kernel)
theorem wf_2_65 : Cond.fieldLink RX2 65 (TX2 10).1 (TX2 10).2.1 (TX2 10).2.2.1 ∈ TS := inT2 85 (by decide +kernel) (by decide +kernel)
theorem wf_2_68 : Cond.fieldLink RX2 68 (TX2 12).1 (TX2 12).2.1 (TX2 12).2.2.1 ∈ TS := inT2 90 (by decide +kernel) (by decide +kernel)
theorem wf_2_72 : Cond.fieldLink RX2 72 (TX2 13).1 (TX2 13).2.1 (TX2 13).2.2.1 ∈ TS := inT2 92 (by decide +kernel) (by decide +kernel)
theorem wf_2_75 : Cond.fieldLink RX2 75 (TX2 14).1 (TX2 14).2.1 (TX2 14).2.2.1 ∈ TS := inT2 94 (by decide +kernel) (by decide +kernel)
theorem wf_3_15 : Cond.fieldLink RX3 15 (TX3 1).1 (TX3 1).2.1 (TX3 1).2.2.1 ∈ TS := inT2 29 (by decide +kernel) (by decide +kernel)
theorem wf_3_18 : Cond.fieldLink RX3 18 (TX3 2).1 (TX3 2).2.1 (TX3 2).2.2.1 ∈ TS := inT2 30 (by decide +kernel) (by decide +kernel)
theorem wf_3_21 : Cond.fieldLink RX3 21 (TX3 3).1 (TX3 3).2.1 (TX3 3).2.2.1 ∈ TS := inT2 31 (by decide +kernel) (by decide +kernel)
theorem wf_3_24 : Cond.fieldLink RX3 24 (TX3 4).1 (TX3 4).2.1 (TX3 4).2.2.1 ∈ TS := inT2 32 (by decide +kernel) (by decide +kernel)
theorem wf_3_28 : Cond.fieldLink RX3 28 (TX3 5).1 (TX3 5).2.1 (TX3 5).2.2.1 ∈ TS := inT2 33 (by decide +kernel) (by decide +kernel)
theorem wf_3_31 : Cond.fieldLink RX3 31 (TX3 6).1 (TX3 6).2.1 (TX3 6).2.2.1 ∈ TS := inT2 35 (by decide +kernel) (by decide +kernel)
theorem wf_3_35 : Cond.fieldLink RX3 35 (TX3 7).1 (TX3 7).2.1 (TX3 7).2.2.1 ∈ TS := inT2 36 (by decide +kernel) (by decide +kernel)
theorem wf_3_9 : Cond.fieldLink RX3 9 (TX3 0).1 (TX3 0).2.1 (TX3 0).2.2.1 ∈ TS := inT2 28 (by decide +kernel) (by decide +kernel)
theorem wf_4_15 : Cond.fieldLink RX4 15 (TX4 2).1 (TX4 2).2.1 (TX4 2).2.2.1 ∈ TS := inT3 35 (by decide +kernel) (by decide +kernel)
theorem wf_4_19 : Cond.fieldLink RX4 19 (TX4 3).1 (TX4 3).2.1 (TX4 3).2.2.1 ∈ TS := inT3 36 (by decide +kernel) (by decide +kernel)
theorem wf_4_22 : Cond.fieldLink RX4 22 (TX4 4).1 (TX4 4).2.1 (TX4 4).2.2.1 ∈ TS := inT3 37 (by decide +kernel) (by decide +kernel)
theorem wf_4_26 : Cond.fieldLink RX4 26 (TX4 5).1 (TX4 5).2.1 (TX4 5).2.2.1 ∈ TS := inT3 38 (by decide +kernel) (by decide +kernel)
theorem wf_4_29 : Cond.fieldLink RX4 29 (TX4 6).1 (TX4 6).2.1 (TX4 6).2.2.1 ∈ TS := inT3 39 (by decide +kernel) (by decide +kernel)
theorem wf_4_32 : Cond.fieldLink RX4 32 (TX4 0).1 (TX4 0).2.1 (TX4 0).2.2.1 ∈ TS := inT3 31 (by decide +kernel) (by decide +kernel)
theorem wf_4_9 : Cond.fieldLink RX4 9 (TX4 1).1 (TX4 1).2.1 (TX4 1).2.2.1 ∈ TS := inT3 33 (by decide +kernel) (by decide +kernel)
theorem wf_5_15 : Cond.fieldLink RX5 15 (TX5 2).1 (TX5 2).2.1 (TX5 2).2.2.1 ∈ TS := inT3 64 (by decide +kernel) (by decide +kernel)
theorem wf_5_18 : Cond.fieldLink RX5 18 (TX5 3).1 (TX5 3).2.1 (TX5 3).2.2.1 ∈ TS := inT3 65 (by decide +kernel) (by decide +kernel)
theorem wf_5_21 : Cond.fieldLink RX5 21 (TX5 0).1 (TX5 0).2.1 (TX5 0).2.2.1 ∈ TS := inT3 61 (by decide +kernel) (by decide +kernel)
theorem wf_5_31 : Cond.fieldLink RX5 31 (TX0 3).1 (TX0 3).2.1 (TX0 3).2.2.1 ∈ TS := inT2 196 (by decide +kernel) (by decide +kernel)
theorem wf_5_36 : Cond.fieldLink RX5 36 (TX0 4).1 (TX0 4).2.1 (TX0 4).2.2.1 ∈ TS := inT2 199 (by decide +kernel) (by decide +kernel)
theorem wf_5_39 : Cond.fieldLink RX5 39 (TX0 5).1 (TX0 5).2.1 (TX0 5).2.2.1 ∈ TS := inT2 202 (by decide +kernel) (by decide +kernel)
theorem wf_5_43 : Cond.fieldLink RX5 43 (TX0 7).1 (TX0 7).2.1 (TX0 7).2.2.1 ∈ TS := inT2 207 (by decide +kernel) (by decide +kernel)
theorem wf_5_9 : Cond.fieldLink RX5 9 (TX5 1).1 (TX5 1).2.1 (TX5 1).2.2.1 ∈ TS := inT3 63 (by decide +kernel) (by decide +kernel)
theorem wf_7_106 : Cond.fieldLink RX7 106 (TX2 0).1 (TX2 0).2.1 (TX2 0).2.2.1 ∈ TS := inT2 60 (by decide +kernel) (by decide +kernel)
theorem wf_7_110 : Cond.fieldLink RX7 110 (TX8 1).1 (TX8 1).2.1 (TX8 1).2.2.1 ∈ TS := inT1 197 (by decide +kernel) (by decide +kernel)
theorem wf_7_116 : Cond.fieldLink RX7 116 (TX8 0).1 (TX8 0).2.1 (TX8 0).2.2.1 ∈ TS := inT1 194 (by decide +kernel) (by decide +kernel)
theorem wf_7_119 : Cond.fieldLink RX7 119 (TX7 4).1 (TX7 4).2.1 (TX7 4).2.2.1 ∈ TS := inT1 159 (by decide +kernel) (by decide +kernel)
theorem wf_7_126 : Cond.fieldLink RX7 126 (TX8 2).1 (TX8 2).2.1 (TX8 2).2.2.1 ∈ TS := inT1 200 (by decide +kernel) (by decide +kernel)
theorem wf_7_133 : Cond.fieldLink RX7 133 (TX8 3).1 (TX8 3).2.1 (TX8 3).2.2.1 ∈ TS := inT1 203 (by decide +kernel) (by decide +kernel)
theorem wf_7_136 : Cond.fieldLink RX7 136 (TX8 4).1 (TX8 4).2.1 (TX8 4).2.2.1 ∈ TS := inT1 207 (by decide +kernel) (by decide +kernel)
theorem wf_7_139 : Cond.fieldLink RX7 139 (TX2 1).1 (TX2 1).2.1 (TX2 1).2.2.1 ∈ TS := inT2 64 (by decide +kernel) (by decide +kernel)
theorem wf_7_14 : Cond.fieldLink RX7 14 (TX7 0).1 (TX7 0).2.1 (TX7 0).2.2.1 ∈ TS := inT1 155 (by decide +kernel) (by decide +kernel)
theorem wf_7_143 : Cond.fieldLink RX7 143 (TX6 0).1 (TX6 0).2.1 (TX6 0).2.2.1 ∈ TS := inT1 229 (by decide +kernel) (by decide +kernel)
theorem wf_7_146 : Cond.fieldLink RX7 146 (TX6 1).1 (TX6 1).2.1 (TX6 1).2.2.1 ∈ TS := inT1 232 (by decide +kernel) (by decide +kernel)
theorem wf_7_150 : Cond.fieldLink RX7 150 (TX6 2).1 (TX6 2).2.1 (TX6 2).2.2.1 ∈ TS := inT1 235 (by decide +kernel) (by decide +kernel)
theorem wf_7_153 : Cond.fieldLink RX7 153 (TX6 3).1 (TX6 3).2.1 (TX6 3).2.2.1 ∈ TS := inT1 238 (by decide +kernel) (by decide +kernel)
theorem wf_7_156 : Cond.fieldLink RX7 156 (TX6 4).1 (TX6 4).2.1 (TX6 4).2.2.1 ∈ TS := inT2 3 (by decide +kernel) (by decide +kernel)
theorem wf_7_159 : Cond.fieldLink RX7 159 (TX6 5).1 (TX6 5).2.1 (TX6 5).2.2.1 ∈ TS := inT2 6 (by decide +kernel) (by decide +kernel)
theorem wf_7_162 : Cond.fieldLink RX7 162 (TX2 3).1 (TX2 3).2.1 (TX2 3).2.2.1 ∈ TS := inT2 70 (by decide +kernel) (by decide +kernel)
theorem wf_7_165 : Cond.fieldLink RX7 165 (TX2 4).1 (TX2 4).2.1 (TX2 4).2.2.1 ∈ TS := inT2 72 (by decide +kernel) (by decide +kernel)
theorem wf_7_168 : Cond.fieldLink RX7 168 (TX2 5).1 (TX2 5).2.1 (TX2 5).2.2.1 ∈ TS := inT2 74 (by decide +kernel) (by decide +kernel)
theorem wf_7_171 : Cond.fieldLink RX7 171 (TX2 6).1 (TX2 6).2.1 (TX2 6).2.2.1 ∈ TS := inT2 76 (by decide +kernel) (by decide +kernel)
theorem wf_7_174 : Cond.fieldLink RX7 174 (TX2 7).1 (TX2 7).2.1 (TX2 7).2.2.1 ∈ TS := inT2 78 (by decide +kernel) (by decide +kernel)
theorem wf_7_177 : Cond.fieldLink RX7 177 (TX2 8).1 (TX2 8).2.1 (TX2 8).2.2.1 ∈ TS := inT2 80 (by decide +kernel) (by decide +kernel)
theorem wf_7_180 : Cond.fieldLink RX7 180 (TX2 12).1 (TX2 12).2.1 (TX2 12).2.2.1 ∈ TS := inT2 91 (by decide +kernel) (by decide +kernel)
theorem wf_7_184 : Cond.fieldLink RX7 184 (TX2 9).1 (TX2 9).2.1 (TX2 9).2.2.1 ∈ TS := inT2 83 (by decide +kernel) (by decide +kernel)
theorem wf_7_187 : Cond.fieldLink RX7 187 (TX2 10).1 (TX2 10).2.1 (TX2 10).2.2.1 ∈ TS := inT2 86 (by decide +kernel) (by decide +kernel)
theorem wf_7_190 : Cond.fieldLink RX7 190 (TX2 13).1 (TX2 13).2.1 (TX2 13).2.2.1 ∈ TS := inT2 93 (by decide +kernel) (by decide +kernel)
theorem wf_7_193 : Cond.fieldLink RX7 193 (TX2 11).1 (TX2 11).2.1 (TX2 11).2.2.1 ∈ TS := inT2 89 (by decide +kernel) (by decide +kernel)
theorem wf_7_199 : Cond.fieldLink RX7 199 (TX2 2).1 (TX2 2).2.1 (TX2 2).2.2.1 ∈ TS := inT2 67 (by decide +kernel) (by decide +kernel)
theorem wf_7_25 : Cond.fieldLink RX7 25 (TX7 1).1 (TX7 1).2.1 (TX7 1).2.2.1 ∈ TS := inT1 156 (by decide +kernel) (by decide +kernel)
theorem wf_7_29 : Cond.fieldLink RX7 29 (TX7 2).1 (TX7 2).2.1 (TX7 2).2.2.1 ∈ TS := inT1 157 (by decide +kernel) (by decide +kernel)
theorem wf_7_38 : Cond.fieldLink RX7 38 (TX7 5).1 (TX7 5).2.1 (TX7 5).2.2.1 ∈ TS := inT1 160 (by decide +kernel) (by decide +kernel)
theorem wf_7_42 : Cond.fieldLink RX7 42 (TX7 6).1 (TX7 6).2.1 (TX7 6).2.2.1 ∈ TS := inT1 162 (by decide +kernel) (by decide +kernel)
theorem wf_7_49 : Cond.fieldLink RX7 49 (TX9 4).1 (TX9 4).2.1 (TX9 4).2.2.1 ∈ TS := inT1 102 (by decide +kernel) (by decide +kernel)
theorem wf_7_52 : Cond.fieldLink RX7 52 (TX9 6).1 (TX9 6).2.1 (TX9 6).2.2.1 ∈ TS := inT1 107 (by decide +kernel) (by decide +kernel)
theorem wf_7_82 : Cond.fieldLink RX7 82 (TX2 14).1 (TX2 14).2.1 (TX2 14).2.2.1 ∈ TS := inT2 96 (by decide +kernel) (by decide +kernel)
theorem wf_7_88 : Cond.fieldLink RX7 88 (TX9 5).1 (TX9 5).2.1 (TX9 5).2.2.1 ∈ TS := inT1 105 (by decide +kernel) (by decide +kernel)
theorem wf_7_95 : Cond.fieldLink RX7 95 (TX7 3).1 (TX7 3).2.1 (TX7 3).2.2.1 ∈ TS := inT1 158 (by decide +kernel) (by decide +kernel)
theorem wf_9_11 : Cond.fieldLink RX9 11 (TX9 0).1 (TX9 0).2.1 (TX9 0).2.2.1 ∈ TS := inT1 97 (by decide +kernel) (by decide +kernel)
theorem wf_9_15 : Cond.fieldLink RX9 15 (TX9 1).1 (TX9 1).2.1 (TX9 1).2.2.1 ∈ TS := inT1 98 (by decide +kernel) (by decide +kernel)
theorem wf_9_40 : Cond.fieldLink RX9 40 (TX9 2).1 (TX9 2).2.1 (TX9 2).2.2.1 ∈ TS := inT1 99 (by decide +kernel) (by decide +kernel)
theorem wf_9_43 : Cond.fieldLink RX9 43 (TX9 3).1 (TX9 3).2.1 (TX9 3).2.2.1 ∈ TS := inT1 100 (by decide +kernel) (by decide +kernel)
theorem wf_9_49 : Cond.fieldLink RX9 49 (TX9 6).1 (TX9 6).2.1 (TX9 6).2.2.1 ∈ TS := inT1 108 (by decide +kernel) (by decide +kernel)
theorem wf_9_52 : Cond.fieldLink RX9 52 (TX9 4).1 (TX9 4).2.1 (TX9 4).2.2.1 ∈ TS := inT1 103 (by decide +kernel) (by decide +kernel)
theorem wf_9_65 : Cond.fieldLink RX9 65 (TX9 5).1 (TX9 5).2.1 (TX9 5).2.2.1 ∈ TS := inT1 106 (by decide +kernel) (by decide +kernel)
theorem wf_10_15 : Cond.fieldLink RX10 15 (TX10 6).1 (TX10 6).2.1 (TX10 6).2.2.1 ∈ TS := inT2 157 (by decide +kernel) (by decide +kernel)
theorem wf_10_18 : Cond.fieldLink RX10 18 (TX10 7).1 (TX10 7).2.1 (TX10 7).2.2.1 ∈ TS := inT2 159 (by decide +kernel) (by decide +kernel)
theorem wf_10_21 : Cond.fieldLink RX10 21 (TX10 0).1 (TX10 0).2.1 (TX10 0).2.2.1 ∈ TS := inT2 140 (by decide +kernel) (by decide +kernel)
theorem wf_10_25 : Cond.fieldLink RX10 25 (TX10 1).1 (TX10 1).2.1 (TX10 1).2.2.1 ∈ TS := inT2 143 (by decide +kernel) (by decide +kernel)
theorem wf_10_28 : Cond.fieldLink RX10 28 (TX10 2).1 (TX10 2).2.1 (TX10 2).2.2.1 ∈ TS := inT2 146 (by decide +kernel) (by decide +kernel)
theorem wf_10_31 : Cond.fieldLink RX10 31 (TX10 3).1 (TX10 3).2.1 (TX10 3).2.2.1 ∈ TS := inT2 149 (by decide +kernel) (by decide +kernel)
theorem wf_10_34 : Cond.fieldLink RX10 34 (TX10 4).1 (TX10 4).2.1 (TX10 4).2.2.1 ∈ TS := inT2 151 (by decide +kernel) (by decide +kernel)
theorem wf_10_37 : Cond.fieldLink RX10 37 (TX10 9).1 (TX10 9).2.1 (TX10 9).2.2.1 ∈ TS := inT2 163 (by decide +kernel) (by decide +kernel)
theorem wf_10_40 : Cond.fieldLink RX10 40 (TX10 8).1 (TX10 8).2.1 (TX10 8).2.2.1 ∈ TS := inT2 161 (by decide +kernel) (by decide +kernel)
theorem wf_10_43 : Cond.fieldLink RX10 43 (TX10 10).1 (TX10 10).2.1 (TX10 10).2.2.1 ∈ TS := inT2 165 (by decide +kernel) (by decide +kernel)
theorem wf_10_9 : Cond.fieldLink RX10 9 (TX10 5).1 (TX10 5).2.1 (TX10 5).2.2.1 ∈ TS := inT2 154 (by decide +kernel) (by decide +kernel)
theorem wf_11_102 : Cond.fieldLink RX11 102 (TX11 7).1 (TX11 7).2.1 (TX11 7).2.2.1 ∈ TS := inT3 82 (by decide +kernel) (by decide +kernel)
theorem wf_11_109 : Cond.fieldLink RX11 109 (TX5 0).1 (TX5 0).2.1 (TX5 0).2.2.1 ∈ TS := inT3 62 (by decide +kernel) (by decide +kernel)
theorem wf_11_11 : Cond.fieldLink RX11 11 (TX11 0).1 (TX11 0).2.1 (TX11 0).2.2.1 ∈ TS := inT3 75 (by decide +kernel) (by decide +kernel)
theorem wf_11_112 : Cond.fieldLink RX11 112 (TX2 0).1 (TX2 0).2.1 (TX2 0).2.2.1 ∈ TS := inT2 59 (by decide +kernel) (by decide +kernel)
theorem wf_11_116 : Cond.fieldLink RX11 116 (TX8 1).1 (TX8 1).2.1 (TX8 1).2.2.1 ∈ TS := inT1 196 (by decide +kernel) (by decide +kernel)
theorem wf_11_122 : Cond.fieldLink RX11 122 (TX8 0).1 (TX8 0).2.1 (TX8 0).2.2.1 ∈ TS := inT1 193 (by decide +kernel) (by decide +kernel)
theorem wf_11_127 : Cond.fieldLink RX11 127 (TX2 1).1 (TX2 1).2.1 (TX2 1).2.2.1 ∈ TS := inT2 63 (by decide +kernel) (by decide +kernel)
theorem wf_11_131 : Cond.fieldLink RX11 131 (TX6 1).1 (TX6 1).2.1 (TX6 1).2.2.1 ∈ TS := inT1 231 (by decide +kernel) (by decide +kernel)
theorem wf_11_134 : Cond.fieldLink RX11 134 (TX6 0).1 (TX6 0).2.1 (TX6 0).2.2.1 ∈ TS := inT1 228 (by decide +kernel) (by decide +kernel)
theorem wf_11_153 : Cond.fieldLink RX11 153 (TX6 3).1 (TX6 3).2.1 (TX6 3).2.2.1 ∈ TS := inT2 0 (by decide +kernel) (by decide +kernel)
theorem wf_11_166 : Cond.fieldLink RX11 166 (TX0 9).1 (TX0 9).2.1 (TX0 9).2.2.1 ∈ TS := inT2 212 (by decide +kernel) (by decide +kernel)
theorem wf_11_169 : Cond.fieldLink RX11 169 (TX0 7).1 (TX0 7).2.1 (TX0 7).2.2.1 ∈ TS := inT2 208 (by decide +kernel) (by decide +kernel)
theorem wf_11_181 : Cond.fieldLink RX11 181 (TX0 8).1 (TX0 8).2.1 (TX0 8).2.2.1 ∈ TS := inT2 210 (by decide +kernel) (by decide +kernel)
theorem wf_11_184 : Cond.fieldLink RX11 184 (TX8 3).1 (TX8 3).2.1 (TX8 3).2.2.1 ∈ TS := inT1 204 (by decide +kernel) (by decide +kernel)
theorem wf_11_187 : Cond.fieldLink RX11 187 (TX8 4).1 (TX8 4).2.1 (TX8 4).2.2.1 ∈ TS := inT1 208 (by decide +kernel) (by decide +kernel)
theorem wf_11_190 : Cond.fieldLink RX11 190 (TX0 2).1 (TX0 2).2.1 (TX0 2).2.2.1 ∈ TS := inT2 194 (by decide +kernel) (by decide +kernel)
theorem wf_11_20 : Cond.fieldLink RX11 20 (TX11 2).1 (TX11 2).2.1 (TX11 2).2.2.1 ∈ TS := inT3 77 (by decide +kernel) (by decide +kernel)
theorem wf_11_200 : Cond.fieldLink RX11 200 (TX0 6).1 (TX0 6).2.1 (TX0 6).2.2.1 ∈ TS := inT2 205 (by decide +kernel) (by decide +kernel)
theorem wf_11_217 : Cond.fieldLink RX11 217 (TX2 2).1 (TX2 2).2.1 (TX2 2).2.2.1 ∈ TS := inT2 68 (by decide +kernel) (by decide +kernel)
theorem wf_11_221 : Cond.fieldLink RX11 221 (TX3 7).1 (TX3 7).2.1 (TX3 7).2.2.1 ∈ TS := inT2 38 (by decide +kernel) (by decide +kernel)
theorem wf_11_226 : Cond.fieldLink RX11 226 (TX0 3).1 (TX0 3).2.1 (TX0 3).2.2.1 ∈ TS := inT2 197 (by decide +kernel) (by decide +kernel)
theorem wf_11_229 : Cond.fieldLink RX11 229 (TX0 4).1 (TX0 4).2.1 (TX0 4).2.2.1 ∈ TS := inT2 200 (by decide +kernel) (by decide +kernel)
theorem wf_11_232 : Cond.fieldLink RX11 232 (TX0 5).1 (TX0 5).2.1 (TX0 5).2.2.1 ∈ TS := inT2 203 (by decide +kernel) (by decide +kernel)
theorem wf_11_238 : Cond.fieldLink RX11 238 (TX0 13).1 (TX0 13).2.1 (TX0 13).2.2.1 ∈ TS := inT2 220 (by decide +kernel) (by decide +kernel)
theorem wf_11_244 : Cond.fieldLink RX11 244 (TX0 14).1 (TX0 14).2.1 (TX0 14).2.2.1 ∈ TS := inT2 222 (by decide +kernel) (by decide +kernel)
theorem wf_11_247 : Cond.fieldLink RX11 247 (TX0 15).1 (TX0 15).2.1 (TX0 15).2.2.1 ∈ TS := inT2 224 (by decide +kernel) (by decide +kernel)
theorem wf_11_253 : Cond.fieldLink RX11 253 (TX4 0).1 (TX4 0).2.1 (TX4 0).2.2.1 ∈ TS := inT3 32 (by decide +kernel) (by decide +kernel)
theorem wf_11_27 : Cond.fieldLink RX11 27 (TX11 3).1 (TX11 3).2.1 (TX11 3).2.2.1 ∈ TS := inT3 78 (by decide +kernel) (by decide +kernel)
theorem wf_11_277 : Cond.fieldLink RX11 277 (TX0 0).1 (TX0 0).2.1 (TX0 0).2.2.1 ∈ TS := inT2 191 (by decide +kernel) (by decide +kernel)
theorem wf_11_287 : Cond.fieldLink RX11 287 (TX0 16).1 (TX0 16).2.1 (TX0 16).2.2.1 ∈ TS := inT2 226 (by decide +kernel) (by decide +kernel)
theorem wf_11_290 : Cond.fieldLink RX11 290 (TX0 12).1 (TX0 12).2.1 (TX0 12).2.2.1 ∈ TS := inT2 218 (by decide +kernel) (by decide +kernel)
theorem wf_11_293 : Cond.fieldLink RX11 293 (TX0 11).1 (TX0 11).2.1 (TX0 11).2.2.1 ∈ TS := inT2 216 (by decide +kernel) (by decide +kernel)
theorem wf_11_296 : Cond.fieldLink RX11 296 (TX0 10).1 (TX0 10).2.1 (TX0 10).2.2.1 ∈ TS := inT2 214 (by decide +kernel) (by decide +kernel)
theorem wf_11_299 : Cond.fieldLink RX11 299 (TX10 9).1 (TX10 9).2.1 (TX10 9).2.2.1 ∈ TS := inT2 164 (by decide +kernel) (by decide +kernel)
theorem wf_11_302 : Cond.fieldLink RX11 302 (TX10 10).1 (TX10 10).2.1 (TX10 10).2.2.1 ∈ TS := inT2 166 (by decide +kernel) (by decide +kernel)
theorem wf_11_306 : Cond.fieldLink RX11 306 (TX10 0).1 (TX10 0).2.1 (TX10 0).2.2.1 ∈ TS := inT2 142 (by decide +kernel) (by decide +kernel)
theorem wf_11_309 : Cond.fieldLink RX11 309 (TX10 2).1 (TX10 2).2.1 (TX10 2).2.2.1 ∈ TS := inT2 148 (by decide +kernel) (by decide +kernel)
theorem wf_11_31 : Cond.fieldLink RX11 31 (TX11 4).1 (TX11 4).2.1 (TX11 4).2.2.1 ∈ TS := inT3 79 (by decide +kernel) (by decide +kernel)
theorem wf_11_312 : Cond.fieldLink RX11 312 (TX10 5).1 (TX10 5).2.1 (TX10 5).2.2.1 ∈ TS := inT2 156 (by decide +kernel) (by decide +kernel)
theorem wf_11_315 : Cond.fieldLink RX11 315 (TX10 3).1 (TX10 3).2.1 (TX10 3).2.2.1 ∈ TS := inT2 150 (by decide +kernel) (by decide +kernel)
theorem wf_11_318 : Cond.fieldLink RX11 318 (TX10 4).1 (TX10 4).2.1 (TX10 4).2.2.1 ∈ TS := inT2 153 (by decide +kernel) (by decide +kernel)
theorem wf_11_324 : Cond.fieldLink RX11 324 (TX10 1).1 (TX10 1).2.1 (TX10 1).2.2.1 ∈ TS := inT2 145 (by decide +kernel) (by decide +kernel)
theorem wf_11_350 : Cond.fieldLink RX11 350 (TX10 6).1 (TX10 6).2.1 (TX10 6).2.2.1 ∈ TS := inT2 158 (by decide +kernel) (by decide +kernel)
theorem wf_11_39 : Cond.fieldLink RX11 39 (TX11 5).1 (TX11 5).2.1 (TX11 5).2.2.1 ∈ TS := inT3 80 (by decide +kernel) (by decide +kernel)
theorem wf_11_393 : Cond.fieldLink RX11 393 (TX4 1).1 (TX4 1).2.1 (TX4 1).2.2.1 ∈ TS := inT3 34 (by decide +kernel) (by decide +kernel)
theorem wf_11_402 : Cond.fieldLink RX11 402 (TX10 7).1 (TX10 7).2.1 (TX10 7).2.2.1 ∈ TS := inT2 160 (by decide +kernel) (by decide +kernel)
theorem wf_11_405 : Cond.fieldLink RX11 405 (TX10 8).1 (TX10 8).2.1 (TX10 8).2.2.1 ∈ TS := inT2 162 (by decide +kernel) (by decide +kernel)
theorem wf_11_43 : Cond.fieldLink RX11 43 (TX11 6).1 (TX11 6).2.1 (TX11 6).2.2.1 ∈ TS := inT3 81 (by decide +kernel) (by decide +kernel)
theorem wf_11_46 : Cond.fieldLink RX11 46 (TX11 8).1 (TX11 8).2.1 (TX11 8).2.2.1 ∈ TS := inT3 83 (by decide +kernel) (by decide +kernel)
theorem wf_11_52 : Cond.fieldLink RX11 52 (TX11 9).1 (TX11 9).2.1 (TX11 9).2.2.1 ∈ TS := inT3 84 (by decide +kernel) (by decide +kernel)
theorem wf_11_59 : Cond.fieldLink RX11 59 (TX11 10).1 (TX11 10).2.1 (TX11 10).2.2.1 ∈ TS := inT3 85 (by decide +kernel) (by decide +kernel)
theorem wf_11_63 : Cond.fieldLink RX11 63 (TX11 12).1 (TX11 12).2.1 (TX11 12).2.2.1 ∈ TS := inT3 87 (by decide +kernel) (by decide +kernel)
theorem wf_11_67 : Cond.fieldLink RX11 67 (TX11 1).1 (TX11 1).2.1 (TX11 1).2.2.1 ∈ TS := inT3 76 (by decide +kernel) (by decide +kernel)
theorem wf_11_85 : Cond.fieldLink RX11 85 (TX7 5).1 (TX7 5).2.1 (TX7 5).2.2.1 ∈ TS := inT1 161 (by decide +kernel) (by decide +kernel)
theorem wf_11_88 : Cond.fieldLink RX11 88 (TX11 11).1 (TX11 11).2.1 (TX11 11).2.2.1 ∈ TS := inT3 86 (by decide +kernel) (by decide +kernel)
theorem wf_11_91 : Cond.fieldLink RX11 91 (TX7 6).1 (TX7 6).2.1 (TX7 6).2.2.1 ∈ TS := inT1 163 (by decide +kernel) (by decide +kernel)
theorem wf_11_97 : Cond.fieldLink RX11 97 (TX2 14).1 (TX2 14).2.1 (TX2 14).2.2.1 ∈ TS := inT2 95 (by decide +kernel) (by decide +kernel)
theorem wf_12_100 : Cond.fieldLink RX12 100 (TX12 55).1 (TX12 55).2.1 (TX12 55).2.2.1 ∈ TS := inT6 151 (by decide +kernel) (by decide +kernel)
theorem wf_12_103 : Cond.fieldLink RX12 103 (TX12 56).1 (TX12 56).2.1 (TX12 56).2.2.1 ∈ TS := inT6 152 (by decide +kernel) (by decide +kernel)
theorem wf_12_106 : Cond.fieldLink RX12 106 (TX12 57).1 (TX12 57).2.1 (TX12 57).2.2.1 ∈ TS := inT6 153 (by decide +kernel) (by decide +kernel)
theorem wf_12_109 : Cond.fieldLink RX12 109 (TX12 58).1 (TX12 58).2.1 (TX12 58).2.2.1 ∈ TS := inT6 154 (by decide +kernel) (by decide +kernel)
theorem wf_12_112 : Cond.fieldLink RX12 112 (TX12 59).1 (TX12 59).2.1 (TX12 59).2.2.1 ∈ TS := inT6 155 (by decide +kernel) (by decide +kernel)
theorem wf_12_115 : Cond.fieldLink RX12 115 (TX12 60).1 (TX12 60).2.1 (TX12 60).2.2.1 ∈ TS := inT6 156 (by decide +kernel) (by decide +kernel)
theorem wf_12_118 : Cond.fieldLink RX12 118 (TX12 61).1 (TX12 61).2.1 (TX12 61).2.2.1 ∈ TS := inT6 157 (by decide +kernel) (by decide +kernel)
theorem wf_12_121 : Cond.fieldLink RX12 121 (TX12 62).1 (TX12 62).2.1 (TX12 62).2.2.1 ∈ TS := inT6 158 (by decide +kernel) (by decide +kernel)
theorem wf_12_124 : Cond.fieldLink RX12 124 (TX12 63).1 (TX12 63).2.1 (TX12 63).2.2.1 ∈ TS := inT6 159 (by decide +kernel) (by decide +kernel)
theorem wf_12_127 : Cond.fieldLink RX12 127 (TX12 64).1 (TX12 64).2.1 (TX12 64).2.2.1 ∈ TS := inT6 160 (by decide +kernel) (by decide +kernel)
theorem wf_12_13 : Cond.fieldLink RX12 13 (TX12 3).1 (TX12 3).2.1 (TX12 3).2.2.1 ∈ TS := inT6 99 (by decide +kernel) (by decide +kernel)
theorem wf_12_130 : Cond.fieldLink RX12 130 (TX12 65).1 (TX12 65).2.1 (TX12 65).2.2.1 ∈ TS := inT6 161 (by decide +kernel) (by decide +kernel)
theorem wf_12_133 : Cond.fieldLink RX12 133 (TX12 66).1 (TX12 66).2.1 (TX12 66).2.2.1 ∈ TS := inT6 162 (by decide +kernel) (by decide +kernel)
theorem wf_12_136 : Cond.fieldLink RX12 136 (TX12 67).1 (TX12 67).2.1 (TX12 67).2.2.1 ∈ TS := inT6 163 (by decide +kernel) (by decide +kernel)
theorem wf_12_139 : Cond.fieldLink RX12 139 (TX12 68).1 (TX12 68).2.1 (TX12 68).2.2.1 ∈ TS := inT6 164 (by decide +kernel) (by decide +kernel)
theorem wf_12_142 : Cond.fieldLink RX12 142 (TX12 81).1 (TX12 81).2.1 (TX12 81).2.2.1 ∈ TS := inT6 177 (by decide +kernel) (by decide +kernel)
theorem wf_12_145 : Cond.fieldLink RX12 145 (TX12 82).1 (TX12 82).2.1 (TX12 82).2.2.1 ∈ TS := inT6 178 (by decide +kernel) (by decide +kernel)
theorem wf_12_148 : Cond.fieldLink RX12 148 (TX12 83).1 (TX12 83).2.1 (TX12 83).2.2.1 ∈ TS := inT6 179 (by decide +kernel) (by decide +kernel)
theorem wf_12_151 : Cond.fieldLink RX12 151 (TX12 86).1 (TX12 86).2.1 (TX12 86).2.2.1 ∈ TS := inT6 182 (by decide +kernel) (by decide +kernel)
theorem wf_12_154 : Cond.fieldLink RX12 154 (TX12 88).1 (TX12 88).2.1 (TX12 88).2.2.1 ∈ TS := inT6 184 (by decide +kernel) (by decide +kernel)
theorem wf_12_157 : Cond.fieldLink RX12 157 (TX12 89).1 (TX12 89).2.1 (TX12 89).2.2.1 ∈ TS := inT6 185 (by decide +kernel) (by decide +kernel)
theorem wf_12_16 : Cond.fieldLink RX12 16 (TX12 5).1 (TX12 5).2.1 (TX12 5).2.2.1 ∈ TS := inT6 101 (by decide +kernel) (by decide +kernel)
theorem wf_12_160 : Cond.fieldLink RX12 160 (TX12 90).1 (TX12 90).2.1 (TX12 90).2.2.1 ∈ TS := inT6 186 (by decide +kernel) (by decide +kernel)
theorem wf_12_163 : Cond.fieldLink RX12 163 (TX12 91).1 (TX12 91).2.1 (TX12 91).2.2.1 ∈ TS := inT6 187 (by decide +kernel) (by decide +kernel)
theorem wf_12_166 : Cond.fieldLink RX12 166 (TX12 92).1 (TX12 92).2.1 (TX12 92).2.2.1 ∈ TS := inT6 188 (by decide +kernel) (by decide +kernel)
theorem wf_12_175 : Cond.fieldLink RX12 175 (TX12 2).1 (TX12 2).2.1 (TX12 2).2.2.1 ∈ TS := inT6 98 (by decide +kernel) (by decide +kernel)
theorem wf_12_178 : Cond.fieldLink RX12 178 (TX12 1).1 (TX12 1).2.1 (TX12 1).2.2.1 ∈ TS := inT6 97 (by decide +kernel) (by decide +kernel)
theorem wf_12_181 : Cond.fieldLink RX12 181 (TX12 4).1 (TX12 4).2.1 (TX12 4).2.2.1 ∈ TS := inT6 100 (by decide +kernel) (by decide +kernel)
theorem wf_12_184 : Cond.fieldLink RX12 184 (TX12 10).1 (TX12 10).2.1 (TX12 10).2.2.1 ∈ TS := inT6 106 (by decide +kernel) (by decide +kernel)
theorem wf_12_187 : Cond.fieldLink RX12 187 (TX12 6).1 (TX12 6).2.1 (TX12 6).2.2.1 ∈ TS := inT6 102 (by decide +kernel) (by decide +kernel)
theorem wf_12_190 : Cond.fieldLink RX12 190 (TX12 7).1 (TX12 7).2.1 (TX12 7).2.2.1 ∈ TS := inT6 103 (by decide +kernel) (by decide +kernel)
theorem wf_12_193 : Cond.fieldLink RX12 193 (TX12 8).1 (TX12 8).2.1 (TX12 8).2.2.1 ∈ TS := inT6 104 (by decide +kernel) (by decide +kernel)
theorem wf_12_20 : Cond.fieldLink RX12 20 (TX12 22).1 (TX12 22).2.1 (TX12 22).2.2.1 ∈ TS := inT6 118 (by decide +kernel) (by decide +kernel)
theorem wf_12_204 : Cond.fieldLink RX12 204 (TX12 9).1 (TX12 9).2.1 (TX12 9).2.2.1 ∈ TS := inT6 105 (by decide +kernel) (by decide +kernel)
theorem wf_12_224 : Cond.fieldLink RX12 224 (TX12 11).1 (TX12 11).2.1 (TX12 11).2.2.1 ∈ TS := inT6 107 (by decide +kernel) (by decide +kernel)
theorem wf_12_237 : Cond.fieldLink RX12 237 (TX12 17).1 (TX12 17).2.1 (TX12 17).2.2.1 ∈ TS := inT6 113 (by decide +kernel) (by decide +kernel)
theorem wf_12_24 : Cond.fieldLink RX12 24 (TX12 23).1 (TX12 23).2.1 (TX12 23).2.2.1 ∈ TS := inT6 119 (by decide +kernel) (by decide +kernel)
theorem wf_12_240 : Cond.fieldLink RX12 240 (TX12 18).1 (TX12 18).2.1 (TX12 18).2.2.1 ∈ TS := inT6 114 (by decide +kernel) (by decide +kernel)
theorem wf_12_243 : Cond.fieldLink RX12 243 (TX12 19).1 (TX12 19).2.1 (TX12 19).2.2.1 ∈ TS := inT6 115 (by decide +kernel) (by decide +kernel)
theorem wf_12_246 : Cond.fieldLink RX12 246 (TX12 20).1 (TX12 20).2.1 (TX12 20).2.2.1 ∈ TS := inT6 116 (by decide +kernel) (by decide +kernel)
theorem wf_12_249 : Cond.fieldLink RX12 249 (TX12 21).1 (TX12 21).2.1 (TX12 21).2.2.1 ∈ TS := inT6 117 (by decide +kernel) (by decide +kernel)
theorem wf_12_252 : Cond.fieldLink RX12 252 (TX12 48).1 (TX12 48).2.1 (TX12 48).2.2.1 ∈ TS := inT6 144 (by decide +kernel) (by decide +kernel)
theorem wf_12_255 : Cond.fieldLink RX12 255 (TX12 12).1 (TX12 12).2.1 (TX12 12).2.2.1 ∈ TS := inT6 108 (by decide +kernel) (by decide +kernel)
theorem wf_12_258 : Cond.fieldLink RX12 258 (TX12 13).1 (TX12 13).2.1 (TX12 13).2.2.1 ∈ TS := inT6 109 (by decide +kernel) (by decide +kernel)
theorem wf_12_261 : Cond.fieldLink RX12 261 (TX12 14).1 (TX12 14).2.1 (TX12 14).2.2.1 ∈ TS := inT6 110 (by decide +kernel) (by decide +kernel)
theorem wf_12_264 : Cond.fieldLink RX12 264 (TX12 15).1 (TX12 15).2.1 (TX12 15).2.2.1 ∈ TS := inT6 111 (by decide +kernel) (by decide +kernel)
theorem wf_12_267 : Cond.fieldLink RX12 267 (TX12 16).1 (TX12 16).2.1 (TX12 16).2.2.1 ∈ TS := inT6 112 (by decide +kernel) (by decide +kernel)
theorem wf_12_27 : Cond.fieldLink RX12 27 (TX12 24).1 (TX12 24).2.1 (TX12 24).2.2.1 ∈ TS := inT6 120 (by decide +kernel) (by decide +kernel)
theorem wf_12_30 : Cond.fieldLink RX12 30 (TX12 25).1 (TX12 25).2.1 (TX12 25).2.2.1 ∈ TS := inT6 121 (by decide +kernel) (by decide +kernel)
theorem wf_12_313 : Cond.fieldLink RX12 313 (TX12 46).1 (TX12 46).2.1 (TX12 46).2.2.1 ∈ TS := inT6 142 (by decide +kernel) (by decide +kernel)
theorem wf_12_316 : Cond.fieldLink RX12 316 (TX12 45).1 (TX12 45).2.1 (TX12 45).2.2.1 ∈ TS := inT6 141 (by decide +kernel) (by decide +kernel)
theorem wf_12_33 : Cond.fieldLink RX12 33 (TX12 26).1 (TX12 26).2.1 (TX12 26).2.2.1 ∈ TS := inT6 122 (by decide +kernel) (by decide +kernel)
theorem wf_12_331 : Cond.fieldLink RX12 331 (TX12 47).1 (TX12 47).2.1 (TX12 47).2.2.1 ∈ TS := inT6 143 (by decide +kernel) (by decide +kernel)
theorem wf_12_338 : Cond.fieldLink RX12 338 (TX12 50).1 (TX12 50).2.1 (TX12 50).2.2.1 ∈ TS := inT6 146 (by decide +kernel) (by decide +kernel)
theorem wf_12_351 : Cond.fieldLink RX12 351 (TX12 49).1 (TX12 49).2.1 (TX12 49).2.2.1 ∈ TS := inT6 145 (by decide +kernel) (by decide +kernel)
theorem wf_12_36 : Cond.fieldLink RX12 36 (TX12 27).1 (TX12 27).2.1 (TX12 27).2.2.1 ∈ TS := inT6 123 (by decide +kernel) (by decide +kernel)
theorem wf_12_363 : Cond.fieldLink RX12 363 (TX12 53).1 (TX12 53).2.1 (TX12 53).2.2.1 ∈ TS := inT6 149 (by decide +kernel) (by decide +kernel)
theorem wf_12_388 : Cond.fieldLink RX12 388 (TX12 80).1 (TX12 80).2.1 (TX12 80).2.2.1 ∈ TS := inT6 176 (by decide +kernel) (by decide +kernel)
theorem wf_12_39 : Cond.fieldLink RX12 39 (TX12 28).1 (TX12 28).2.1 (TX12 28).2.2.1 ∈ TS := inT6 124 (by decide +kernel) (by decide +kernel)
theorem wf_12_391 : Cond.fieldLink RX12 391 (TX12 85).1 (TX12 85).2.1 (TX12 85).2.2.1 ∈ TS := inT6 181 (by decide +kernel) (by decide +kernel)
theorem wf_12_394 : Cond.fieldLink RX12 394 (TX12 87).1 (TX12 87).2.1 (TX12 87).2.2.1 ∈ TS := inT6 183 (by decide +kernel) (by decide +kernel)
theorem wf_12_397 : Cond.fieldLink RX12 397 (TX12 69).1 (TX12 69).2.1 (TX12 69).2.2.1 ∈ TS := inT6 165 (by decide +kernel) (by decide +kernel)
theorem wf_12_400 : Cond.fieldLink RX12 400 (TX12 70).1 (TX12 70).2.1 (TX12 70).2.2.1 ∈ TS := inT6 166 (by decide +kernel) (by decide +kernel)
theorem wf_12_403 : Cond.fieldLink RX12 403 (TX12 71).1 (TX12 71).2.1 (TX12 71).2.2.1 ∈ TS := inT6 167 (by decide +kernel) (by decide +kernel)
theorem wf_12_406 : Cond.fieldLink RX12 406 (TX12 72).1 (TX12 72).2.1 (TX12 72).2.2.1 ∈ TS := inT6 168 (by decide +kernel) (by decide +kernel)
theorem wf_12_409 : Cond.fieldLink RX12 409 (TX12 73).1 (TX12 73).2.1 (TX12 73).2.2.1 ∈ TS := inT6 169 (by decide +kernel) (by decide +kernel)
theorem wf_12_412 : Cond.fieldLink RX12 412 (TX12 74).1 (TX12 74).2.1 (TX12 74).2.2.1 ∈ TS := inT6 170 (by decide +kernel) (by decide +kernel)
theorem wf_12_415 : Cond.fieldLink RX12 415 (TX12 75).1 (TX12 75).2.1 (TX12 75).2.2.1 ∈ TS := inT6 171 (by decide +kernel) (by decide +kernel)
theorem wf_12_418 : Cond.fieldLink RX12 418 (TX12 76).1 (TX12 76).2.1 (TX12 76).2.2.1 ∈ TS := inT6 172 (by decide +kernel) (by decide +kernel)
theorem wf_12_42 : Cond.fieldLink RX12 42 (TX12 29).1 (TX12 29).2.1 (TX12 29).2.2.1 ∈ TS := inT6 125 (by decide +kernel) (by decide +kernel)
theorem wf_12_421 : Cond.fieldLink RX12 421 (TX12 77).1 (TX12 77).2.1 (TX12 77).2.2.1 ∈ TS := inT6 173 (by decide +kernel) (by decide +kernel)
theorem wf_12_424 : Cond.fieldLink RX12 424 (TX12 78).1 (TX12 78).2.1 (TX12 78).2.2.1 ∈ TS := inT6 174 (by decide +kernel) (by decide +kernel)
theorem wf_12_427 : Cond.fieldLink RX12 427 (TX12 79).1 (TX12 79).2.1 (TX12 79).2.2.1 ∈ TS := inT6 175 (by decide +kernel) (by decide +kernel)
theorem wf_12_45 : Cond.fieldLink RX12 45 (TX12 30).1 (TX12 30).2.1 (TX12 30).2.2.1 ∈ TS := inT6 126 (by decide +kernel) (by decide +kernel)
theorem wf_12_48 : Cond.fieldLink RX12 48 (TX12 31).1 (TX12 31).2.1 (TX12 31).2.2.1 ∈ TS := inT6 127 (by decide +kernel) (by decide +kernel)
theorem wf_12_51 : Cond.fieldLink RX12 51 (TX12 32).1 (TX12 32).2.1 (TX12 32).2.2.1 ∈ TS := inT6 128 (by decide +kernel) (by decide +kernel)
theorem wf_12_54 : Cond.fieldLink RX12 54 (TX12 33).1 (TX12 33).2.1 (TX12 33).2.2.1 ∈ TS := inT6 129 (by decide +kernel) (by decide +kernel)
theorem wf_12_545 : Cond.fieldLink RX12 545 (TX12 84).1 (TX12 84).2.1 (TX12 84).2.2.1 ∈ TS := inT6 180 (by decide +kernel) (by decide +kernel)
theorem wf_12_57 : Cond.fieldLink RX12 57 (TX12 34).1 (TX12 34).2.1 (TX12 34).2.2.1 ∈ TS := inT6 130 (by decide +kernel) (by decide +kernel)
theorem wf_12_60 : Cond.fieldLink RX12 60 (TX12 35).1 (TX12 35).2.1 (TX12 35).2.2.1 ∈ TS := inT6 131 (by decide +kernel) (by decide +kernel)
theorem wf_12_63 : Cond.fieldLink RX12 63 (TX12 36).1 (TX12 36).2.1 (TX12 36).2.2.1 ∈ TS := inT6 132 (by decide +kernel) (by decide +kernel)
theorem wf_12_66 : Cond.fieldLink RX12 66 (TX12 37).1 (TX12 37).2.1 (TX12 37).2.2.1 ∈ TS := inT6 133 (by decide +kernel) (by decide +kernel)
theorem wf_12_69 : Cond.fieldLink RX12 69 (TX12 38).1 (TX12 38).2.1 (TX12 38).2.2.1 ∈ TS := inT6 134 (by decide +kernel) (by decide +kernel)
theorem wf_12_7 : Cond.fieldLink RX12 7 (TX12 0).1 (TX12 0).2.1 (TX12 0).2.2.1 ∈ TS := inT6 96 (by decide +kernel) (by decide +kernel)
theorem wf_12_72 : Cond.fieldLink RX12 72 (TX12 39).1 (TX12 39).2.1 (TX12 39).2.2.1 ∈ TS := inT6 135 (by decide +kernel) (by decide +kernel)
theorem wf_12_75 : Cond.fieldLink RX12 75 (TX12 40).1 (TX12 40).2.1 (TX12 40).2.2.1 ∈ TS := inT6 136 (by decide +kernel) (by decide +kernel)
theorem wf_12_78 : Cond.fieldLink RX12 78 (TX12 41).1 (TX12 41).2.1 (TX12 41).2.2.1 ∈ TS := inT6 137 (by decide +kernel) (by decide +kernel)
theorem wf_12_81 : Cond.fieldLink RX12 81 (TX12 42).1 (TX12 42).2.1 (TX12 42).2.2.1 ∈ TS := inT6 138 (by decide +kernel) (by decide +kernel)
theorem wf_12_84 : Cond.fieldLink RX12 84 (TX12 43).1 (TX12 43).2.1 (TX12 43).2.2.1 ∈ TS := inT6 139 (by decide +kernel) (by decide +kernel)
theorem wf_12_87 : Cond.fieldLink RX12 87 (TX12 44).1 (TX12 44).2.1 (TX12 44).2.2.1 ∈ TS := inT6 140 (by decide +kernel) (by decide +kernel)
theorem wf_12_90 : Cond.fieldLink RX12 90 (TX12 51).1 (TX12 51).2.1 (TX12 51).2.2.1 ∈ TS := inT6 147 (by decide +kernel) (by decide +kernel)
theorem wf_12_94 : Cond.fieldLink RX12 94 (TX12 52).1 (TX12 52).2.1 (TX12 52).2.2.1 ∈ TS := inT6 148 (by decide +kernel) (by decide +kernel)
theorem wf_12_97 : Cond.fieldLink RX12 97 (TX12 54).1 (TX12 54).2.1 (TX12 54).2.2.1 ∈ TS := inT6 150 (by decide +kernel) (by decide +kernel)
def m_X0_begin : MD := (yX0_begin, cX0_begin, 3, none, { frames := 1, cells := 0, slots := 0, locals := 21 })
theorem mm_X0_begin : MdV m_X0_begin 1 := ⟨⟨inT4 51 rfl rfl, inT1 13 (by decide +kernel) (by decide +kernel), ⟨by decide, by decide⟩, by decide +kernel⟩, inT4 49 (by decide +kernel) (by decide +kernel), inT4 50 (by decide +kernel) (by decide +kernel)⟩
def m_X0_changeRooms : MD := (yX0_changeRooms, cX0_changeRooms, 4, none, { frames := 4, cells := 0, slots := 0, locals := 98 })
theorem mm_X0_changeRooms : MdV m_X0_changeRooms 1 := ⟨⟨inT4 218 rfl rfl, inT1 13 (by decide +kernel) (by decide +kernel), ⟨by decide, by decide⟩, by decide +kernel⟩, inT4 217 (by decide +kernel) (by decide +kernel), inP2 (y := yX0_changeRooms) (n := 18) 12 (by decide +kernel)⟩
def m_X0_copy : MD := (yX0_copy, cX0_copy, 3, none, { frames := 1, cells := 0, slots := 0, locals := 26 })
theorem mm_X0_copy : MdV m_X0_copy 1 := ⟨⟨inT5 25 rfl rfl, inT1 13 (by decide +kernel) (by decide +kernel), ⟨by decide, by decide⟩, by decide +kernel⟩, inT5 23 (by decide +kernel) (by decide +kernel), inT5 24 (by decide +kernel) (by decide +kernel)⟩
def m_X0_crossOfAll : MD := (yX0_crossOfAll, cX0_crossOfAll, 3, some .int, { frames := 0, cells := 0, slots := 0, locals := 0 })
theorem mm_X0_crossOfAll : MdV m_X0_crossOfAll 0 := ⟨⟨inT4 161 rfl rfl, inT1 13 (by decide +kernel) (by decide +kernel), ⟨by decide, by decide⟩, by decide +kernel⟩, inT4 159 (by decide +kernel) (by decide +kernel), inT4 160 (by decide +kernel) (by decide +kernel)⟩
def m_X0_crossPeople : MD := (yX0_crossPeople, cX0_crossPeople, 5, none, { frames := 3, cells := 0, slots := 0, locals := 76 })
theorem mm_X0_crossPeople : MdV m_X0_crossPeople 0 := ⟨⟨inT5 6 rfl rfl, inT1 13 (by decide +kernel) (by decide +kernel), ⟨by decide, by decide⟩, by decide +kernel⟩, inT5 5 (by decide +kernel) (by decide +kernel), inP3 (y := yX0_crossPeople) (n := 18) 0 (by decide +kernel)⟩
def m_X0_feltBy : MD := (yX0_feltBy, cX0_feltBy, 3, some .int, { frames := 1, cells := 0, slots := 0, locals := 22 })
theorem mm_X0_feltBy : MdV m_X0_feltBy 1 := ⟨⟨inT4 120 rfl rfl, inT1 13 (by decide +kernel) (by decide +kernel), ⟨by decide, by decide⟩, by decide +kernel⟩, inT4 118 (by decide +kernel) (by decide +kernel), inT4 119 (by decide +kernel) (by decide +kernel)⟩
def m_X0_forget : MD := (yX0_forget, cX0_forget, 2, none, { frames := 0, cells := 0, slots := 0, locals := 0 })
theorem mm_X0_forget : MdV m_X0_forget 0 := ⟨⟨inT4 55 rfl rfl, inT1 13 (by decide +kernel) (by decide +kernel), ⟨by decide, by decide⟩, by decide +kernel⟩, inT4 53 (by decide +kernel) (by decide +kernel), inT4 54 (by decide +kernel) (by decide +kernel)⟩
def m_X0_isOn : MD := (yX0_isOn, cX0_isOn, 1, some .boolean, { frames := 0, cells := 0, slots := 0, locals := 0 })
theorem mm_X0_isOn : MdV m_X0_isOn 0 := ⟨⟨inT4 153 rfl rfl, inT1 13 (by decide +kernel) (by decide +kernel), ⟨by decide, by decide⟩, by decide +kernel⟩, inT4 151 (by decide +kernel) (by decide +kernel), inT4 152 (by decide +kernel) (by decide +kernel)⟩
def m_X0_lossOf : MD := (yX0_lossOf, cX0_lossOf, 5, some .int, { frames := 3, cells := 0, slots := 0, locals := 74 })
theorem mm_X0_lossOf : MdV m_X0_lossOf 1 := ⟨⟨inT4 224 rfl rfl, inT1 13 (by decide +kernel) (by decide +kernel), ⟨by decide, by decide⟩, by decide +kernel⟩, inT4 223 (by decide +kernel) (by decide +kernel), inP2 (y := yX0_lossOf) (n := 18) 13 (by decide +kernel)⟩
def m_X0_nameRoom : MD := (yX0_nameRoom, cX0_nameRoom, 4, none, { frames := 0, cells := 0, slots := 0, locals := 0 })
theorem mm_X0_nameRoom : MdV m_X0_nameRoom 2 := ⟨⟨inT4 101 rfl rfl, inT1 13 (by decide +kernel) (by decide +kernel), ⟨by decide, by decide⟩, by decide +kernel⟩, inT4 100 (by decide +kernel) (by decide +kernel), inP2 (y := yX0_nameRoom) (n := 18) 9 (by decide +kernel)⟩
def m_X0_personLaw : MD := (yX0_personLaw, cX0_personLaw, 5, some .long, { frames := 2, cells := 0, slots := 0, locals := 52 })
theorem mm_X0_personLaw : MdV m_X0_personLaw 3 := ⟨⟨inT4 128 rfl rfl, inT1 13 (by decide +kernel) (by decide +kernel), ⟨by decide, by decide⟩, by decide +kernel⟩, inT4 126 (by decide +kernel) (by decide +kernel), inT4 127 (by decide +kernel) (by decide +kernel)⟩
def m_X0_roomLaw : MD := (yX0_roomLaw, cX0_roomLaw, 3, some .long, { frames := 2, cells := 0, slots := 0, locals := 52 })
theorem mm_X0_roomLaw : MdV m_X0_roomLaw 2 := ⟨⟨inT4 97 rfl rfl, inT1 13 (by decide +kernel) (by decide +kernel), ⟨by decide, by decide⟩, by decide +kernel⟩, inT4 95 (by decide +kernel) (by decide +kernel), inT4 96 (by decide +kernel) (by decide +kernel)⟩
def m_X0_run : MD := (yX0_run, cX0_run, 4, none, { frames := 5, cells := 0, slots := 0, locals := 121 })
theorem mm_X0_run : MdV m_X0_run 1 := ⟨⟨inT4 199 rfl rfl, inT1 13 (by decide +kernel) (by decide +kernel), ⟨by decide, by decide⟩, by decide +kernel⟩, inT4 197 (by decide +kernel) (by decide +kernel), inT4 198 (by decide +kernel) (by decide +kernel)⟩
def m_X0_spreadNow : MD := (yX0_spreadNow, cX0_spreadNow, 4, some .int, { frames := 1, cells := 0, slots := 0, locals := 21 })
theorem mm_X0_spreadNow : MdV m_X0_spreadNow 0 := ⟨⟨inT4 141 rfl rfl, inT1 13 (by decide +kernel) (by decide +kernel), ⟨by decide, by decide⟩, by decide +kernel⟩, inT4 139 (by decide +kernel) (by decide +kernel), inT4 140 (by decide +kernel) (by decide +kernel)⟩
def m_X0_turnKnob : MD := (yX0_turnKnob, cX0_turnKnob, 6, none, { frames := 3, cells := 0, slots := 0, locals := 76 })
theorem mm_X0_turnKnob : MdV m_X0_turnKnob 0 := ⟨⟨inT4 235 rfl rfl, inT1 13 (by decide +kernel) (by decide +kernel), ⟨by decide, by decide⟩, by decide +kernel⟩, inT4 234 (by decide +kernel) (by decide +kernel), inP2 (y := yX0_turnKnob) (n := 18) 14 (by decide +kernel)⟩
def m_X0_turnTo : MD := (yX0_turnTo, cX0_turnTo, 4, none, { frames := 0, cells := 0, slots := 0, locals := 0 })
theorem mm_X0_turnTo : MdV m_X0_turnTo 2 := ⟨⟨inT5 2 rfl rfl, inT1 13 (by decide +kernel) (by decide +kernel), ⟨by decide, by decide⟩, by decide +kernel⟩, inT5 1 (by decide +kernel) (by decide +kernel), inP2 (y := yX0_turnTo) (n := 18) 15 (by decide +kernel)⟩
def m_X10_clear : MD := (yX10_clear, cX10_clear, 1, none, { frames := 0, cells := 0, slots := 0, locals := 0 })
theorem mm_X10_clear : MdV m_X10_clear 0 := ⟨⟨inT5 42 rfl rfl, inT1 14 (by decide +kernel) (by decide +kernel), ⟨by decide, by decide⟩, by decide +kernel⟩, inT5 40 (by decide +kernel) (by decide +kernel), inT5 41 (by decide +kernel) (by decide +kernel)⟩
def m_X10_lateOf : MD := (yX10_lateOf, cX10_lateOf, 3, some .int, { frames := 0, cells := 0, slots := 0, locals := 0 })
theorem mm_X10_lateOf : MdV m_X10_lateOf 2 := ⟨⟨inT4 124 rfl rfl, inT1 14 (by decide +kernel) (by decide +kernel), ⟨by decide, by decide⟩, by decide +kernel⟩, inT4 122 (by decide +kernel) (by decide +kernel), inT4 123 (by decide +kernel) (by decide +kernel)⟩
def m_X10_leakOf : MD := (yX10_leakOf, cX10_leakOf, 3, some .int, { frames := 0, cells := 0, slots := 0, locals := 0 })
theorem mm_X10_leakOf : MdV m_X10_leakOf 2 := ⟨⟨inT4 228 rfl rfl, inT1 14 (by decide +kernel) (by decide +kernel), ⟨by decide, by decide⟩, by decide +kernel⟩, inT4 226 (by decide +kernel) (by decide +kernel), inT4 227 (by decide +kernel) (by decide +kernel)⟩
def m_X10_outOf : MD := (yX10_outOf, cX10_outOf, 2, some .int, { frames := 1, cells := 0, slots := 0, locals := 23 })
theorem mm_X10_outOf : MdV m_X10_outOf 1 := ⟨⟨inT4 204 rfl rfl, inT1 14 (by decide +kernel) (by decide +kernel), ⟨by decide, by decide⟩, by decide +kernel⟩, inT4 202 (by decide +kernel) (by decide +kernel), inT4 203 (by decide +kernel) (by decide +kernel)⟩
def m_X11_ahead : MD := (yX11_ahead, cX11_ahead, 4, some .int, { frames := 6, cells := 0, slots := 0, locals := 144 })
theorem mm_X11_ahead : MdV m_X11_ahead 3 := ⟨⟨inT5 33 rfl rfl, inT1 1 (by decide +kernel) (by decide +kernel), ⟨by decide, by decide⟩, by decide +kernel⟩, inT5 31 (by decide +kernel) (by decide +kernel), inT5 32 (by decide +kernel) (by decide +kernel)⟩
def m_X11_apart : MD := (yX11_apart, cX11_apart, 7, some .int, { frames := 6, cells := 0, slots := 0, locals := 144 })
theorem mm_X11_apart : MdV m_X11_apart 2 := ⟨⟨inT5 58 rfl rfl, inT1 1 (by decide +kernel) (by decide +kernel), ⟨by decide, by decide⟩, by decide +kernel⟩, inT5 56 (by decide +kernel) (by decide +kernel), inT5 57 (by decide +kernel) (by decide +kernel)⟩
def m_X11_areTwo : MD := (yX11_areTwo, cX11_areTwo, 3, some .boolean, { frames := 1, cells := 0, slots := 0, locals := 21 })
theorem mm_X11_areTwo : MdV m_X11_areTwo 2 := ⟨⟨inT5 137 rfl rfl, inT1 1 (by decide +kernel) (by decide +kernel), ⟨by decide, by decide⟩, by decide +kernel⟩, inT5 136 (by decide +kernel) (by decide +kernel), inP3 (y := yX11_areTwo) (n := 13) 7 (by decide +kernel)⟩
def m_X11_back : MD := (yX11_back, cX11_back, 1, some .int, { frames := 2, cells := 0, slots := 0, locals := 48 })
theorem mm_X11_back : MdV m_X11_back 0 := ⟨⟨inT5 29 rfl rfl, inT1 1 (by decide +kernel) (by decide +kernel), ⟨by decide, by decide⟩, by decide +kernel⟩, inT5 27 (by decide +kernel) (by decide +kernel), inT5 28 (by decide +kernel) (by decide +kernel)⟩
def m_X11_best : MD := (yX11_best, cX11_best, 7, some .int, { frames := 6, cells := 0, slots := 0, locals := 144 })
theorem mm_X11_best : MdV m_X11_best 2 := ⟨⟨inT5 98 rfl rfl, inT1 1 (by decide +kernel) (by decide +kernel), ⟨by decide, by decide⟩, by decide +kernel⟩, inT5 96 (by decide +kernel) (by decide +kernel), inT5 97 (by decide +kernel) (by decide +kernel)⟩
def m_X11_canBeWarm : MD := (yX11_canBeWarm, cX11_canBeWarm, 3, some .boolean, { frames := 1, cells := 0, slots := 0, locals := 22 })
theorem mm_X11_canBeWarm : MdV m_X11_canBeWarm 2 := ⟨⟨inT5 78 rfl rfl, inT1 1 (by decide +kernel) (by decide +kernel), ⟨by decide, by decide⟩, by decide +kernel⟩, inT5 77 (by decide +kernel) (by decide +kernel), inP3 (y := yX11_canBeWarm) (n := 13) 2 (by decide +kernel)⟩
def m_X11_candle : MD := (yX11_candle, cX11_candle, 2, some .boolean, { frames := 2, cells := 0, slots := 0, locals := 49 })
theorem mm_X11_candle : MdV m_X11_candle 1 := ⟨⟨inT4 187 rfl rfl, inT1 1 (by decide +kernel) (by decide +kernel), ⟨by decide, by decide⟩, by decide +kernel⟩, inT4 185 (by decide +kernel) (by decide +kernel), inT4 186 (by decide +kernel) (by decide +kernel)⟩
def m_X11_chance : MD := (yX11_chance, cX11_chance, 7, some .int, { frames := 6, cells := 0, slots := 0, locals := 144 })
theorem mm_X11_chance : MdV m_X11_chance 4 := ⟨⟨inT5 66 rfl rfl, inT1 1 (by decide +kernel) (by decide +kernel), ⟨by decide, by decide⟩, by decide +kernel⟩, inT5 64 (by decide +kernel) (by decide +kernel), inT5 65 (by decide +kernel) (by decide +kernel)⟩
def m_X11_cheap : MD := (yX11_cheap, cX11_cheap, 7, some .int, { frames := 6, cells := 0, slots := 0, locals := 144 })
theorem mm_X11_cheap : MdV m_X11_cheap 2 := ⟨⟨inT5 102 rfl rfl, inT1 1 (by decide +kernel) (by decide +kernel), ⟨by decide, by decide⟩, by decide +kernel⟩, inT5 100 (by decide +kernel) (by decide +kernel), inT5 101 (by decide +kernel) (by decide +kernel)⟩
def m_X11_count : MD := (yX11_count, cX11_count, 2, some .int, { frames := 2, cells := 0, slots := 0, locals := 43 })
theorem mm_X11_count : MdV m_X11_count 1 := ⟨⟨inT4 149 rfl rfl, inT1 1 (by decide +kernel) (by decide +kernel), ⟨by decide, by decide⟩, by decide +kernel⟩, inT4 147 (by decide +kernel) (by decide +kernel), inT4 148 (by decide +kernel) (by decide +kernel)⟩
def m_X11_countMore : MD := (yX11_countMore, cX11_countMore, 2, some .int, { frames := 1, cells := 0, slots := 0, locals := 22 })
theorem mm_X11_countMore : MdV m_X11_countMore 1 := ⟨⟨inT4 157 rfl rfl, inT1 1 (by decide +kernel) (by decide +kernel), ⟨by decide, by decide⟩, by decide +kernel⟩, inT4 156 (by decide +kernel) (by decide +kernel), inP2 (y := yX11_countMore) (n := 13) 11 (by decide +kernel)⟩
def m_X11_crossByWishOf : MD := (yX11_crossByWishOf, cX11_crossByWishOf, 3, some .int, { frames := 6, cells := 0, slots := 0, locals := 144 })
theorem mm_X11_crossByWishOf : MdV m_X11_crossByWishOf 2 := ⟨⟨inT5 141 rfl rfl, inT1 1 (by decide +kernel) (by decide +kernel), ⟨by decide, by decide⟩, by decide +kernel⟩, inT5 140 (by decide +kernel) (by decide +kernel), inP3 (y := yX11_crossByWishOf) (n := 13) 8 (by decide +kernel)⟩
def m_X11_crossest : MD := (yX11_crossest, cX11_crossest, 3, some .int, { frames := 0, cells := 0, slots := 0, locals := 0 })
theorem mm_X11_crossest : MdV m_X11_crossest 0 := ⟨⟨inT4 133 rfl rfl, inT1 1 (by decide +kernel) (by decide +kernel), ⟨by decide, by decide⟩, by decide +kernel⟩, inT4 131 (by decide +kernel) (by decide +kernel), inT4 132 (by decide +kernel) (by decide +kernel)⟩
def m_X11_degree : MD := (yX11_degree, cX11_degree, 2, some .int, { frames := 7, cells := 0, slots := 0, locals := 166 })
theorem mm_X11_degree : MdV m_X11_degree 1 := ⟨⟨inT5 124 rfl rfl, inT1 1 (by decide +kernel) (by decide +kernel), ⟨by decide, by decide⟩, by decide +kernel⟩, inT5 122 (by decide +kernel) (by decide +kernel), inT5 123 (by decide +kernel) (by decide +kernel)⟩
def m_X11_distance : MD := (yX11_distance, cX11_distance, 2, some .int, { frames := 0, cells := 0, slots := 0, locals := 0 })
theorem mm_X11_distance : MdS m_X11_distance 2 := ⟨⟨inT5 9 rfl rfl, inT1 1 (by decide +kernel) (by decide +kernel), ⟨by decide, by decide⟩, by decide +kernel⟩, inT5 8 (by decide +kernel) (by decide +kernel)⟩
def m_X11_fault : MD := (yX11_fault, cX11_fault, 2, some .int, { frames := 0, cells := 0, slots := 0, locals := 0 })
theorem mm_X11_fault : MdV m_X11_fault 1 := ⟨⟨inT4 63 rfl rfl, inT1 1 (by decide +kernel) (by decide +kernel), ⟨by decide, by decide⟩, by decide +kernel⟩, inT4 61 (by decide +kernel) (by decide +kernel), inT4 62 (by decide +kernel) (by decide +kernel)⟩
def m_X11_feed : MD := (yX11_feed, cX11_feed, 6, some .int, { frames := 1, cells := 0, slots := 0, locals := 22 })
theorem mm_X11_feed : MdV m_X11_feed 5 := ⟨⟨inT3 118 rfl rfl, inT1 1 (by decide +kernel) (by decide +kernel), ⟨by decide, by decide⟩, by decide +kernel⟩, inT3 116 (by decide +kernel) (by decide +kernel), inT3 117 (by decide +kernel) (by decide +kernel)⟩
def m_X11_feels : MD := (yX11_feels, cX11_feels, 5, some .int, { frames := 6, cells := 0, slots := 0, locals := 144 })
theorem mm_X11_feels : MdV m_X11_feels 2 := ⟨⟨inT5 62 rfl rfl, inT1 1 (by decide +kernel) (by decide +kernel), ⟨by decide, by decide⟩, by decide +kernel⟩, inT5 60 (by decide +kernel) (by decide +kernel), inT5 61 (by decide +kernel) (by decide +kernel)⟩
def m_X11_givesIn : MD := (yX11_givesIn, cX11_givesIn, 5, some .int, { frames := 7, cells := 0, slots := 0, locals := 166 })
theorem mm_X11_givesIn : MdV m_X11_givesIn 2 := ⟨⟨inT5 133 rfl rfl, inT1 1 (by decide +kernel) (by decide +kernel), ⟨by decide, by decide⟩, by decide +kernel⟩, inT5 131 (by decide +kernel) (by decide +kernel), inT5 132 (by decide +kernel) (by decide +kernel)⟩
def m_X11_go : MD := (yX11_go, cX11_go, 2, some .int, { frames := 6, cells := 0, slots := 0, locals := 144 })
theorem mm_X11_go : MdV m_X11_go 1 := ⟨⟨inT4 195 rfl rfl, inT1 1 (by decide +kernel) (by decide +kernel), ⟨by decide, by decide⟩, by decide +kernel⟩, inT4 193 (by decide +kernel) (by decide +kernel), inT4 194 (by decide +kernel) (by decide +kernel)⟩
def m_X11_hang : MD := (yX11_hang, cX11_hang, 2, some .boolean, { frames := 2, cells := 0, slots := 0, locals := 49 })
theorem mm_X11_hang : MdV m_X11_hang 1 := ⟨⟨inT4 183 rfl rfl, inT1 1 (by decide +kernel) (by decide +kernel), ⟨by decide, by decide⟩, by decide +kernel⟩, inT4 181 (by decide +kernel) (by decide +kernel), inT4 182 (by decide +kernel) (by decide +kernel)⟩
def m_X11_hears : MD := (yX11_hears, cX11_hears, 6, some .int, { frames := 6, cells := 0, slots := 0, locals := 144 })
theorem mm_X11_hears : MdV m_X11_hears 1 := ⟨⟨inT5 107 rfl rfl, inT1 1 (by decide +kernel) (by decide +kernel), ⟨by decide, by decide⟩, by decide +kernel⟩, inT5 105 (by decide +kernel) (by decide +kernel), inT5 106 (by decide +kernel) (by decide +kernel)⟩
def m_X11_hoursTillWarm : MD := (yX11_hoursTillWarm, cX11_hoursTillWarm, 5, some .int, { frames := 6, cells := 0, slots := 0, locals := 144 })
theorem mm_X11_hoursTillWarm : MdV m_X11_hoursTillWarm 3 := ⟨⟨inT5 82 rfl rfl, inT1 1 (by decide +kernel) (by decide +kernel), ⟨by decide, by decide⟩, by decide +kernel⟩, inT5 81 (by decide +kernel) (by decide +kernel), inP3 (y := yX11_hoursTillWarm) (n := 13) 3 (by decide +kernel)⟩
def m_X11_isBestSaying : MD := (yX11_isBestSaying, cX11_isBestSaying, 6, some .boolean, { frames := 2, cells := 0, slots := 0, locals := 47 })
theorem mm_X11_isBestSaying : MdS m_X11_isBestSaying 4 := ⟨⟨inT5 158 rfl rfl, inT1 1 (by decide +kernel) (by decide +kernel), ⟨by decide, by decide⟩, by decide +kernel⟩, inT5 157 (by decide +kernel) (by decide +kernel)⟩
def m_X11_isPerson : MD := (yX11_isPerson, cX11_isPerson, 2, some .boolean, { frames := 0, cells := 0, slots := 0, locals := 0 })
theorem mm_X11_isPerson : MdV m_X11_isPerson 1 := ⟨⟨inT4 116 rfl rfl, inT1 1 (by decide +kernel) (by decide +kernel), ⟨by decide, by decide⟩, by decide +kernel⟩, inT4 115 (by decide +kernel) (by decide +kernel), inP2 (y := yX11_isPerson) (n := 13) 10 (by decide +kernel)⟩
def m_X11_isRest : MD := (yX11_isRest, cX11_isRest, 7, some .boolean, { frames := 3, cells := 0, slots := 0, locals := 72 })
theorem mm_X11_isRest : MdV m_X11_isRest 4 := ⟨⟨inT5 155 rfl rfl, inT1 1 (by decide +kernel) (by decide +kernel), ⟨by decide, by decide⟩, by decide +kernel⟩, inT5 154 (by decide +kernel) (by decide +kernel), inP3 (y := yX11_isRest) (n := 13) 10 (by decide +kernel)⟩
def m_X11_isRoom : MD := (yX11_isRoom, cX11_isRoom, 2, some .boolean, { frames := 0, cells := 0, slots := 0, locals := 0 })
theorem mm_X11_isRoom : MdV m_X11_isRoom 1 := ⟨⟨inT4 76 rfl rfl, inT1 1 (by decide +kernel) (by decide +kernel), ⟨by decide, by decide⟩, by decide +kernel⟩, inT4 75 (by decide +kernel) (by decide +kernel), inP2 (y := yX11_isRoom) (n := 13) 8 (by decide +kernel)⟩
def m_X11_isSet : MD := (yX11_isSet, cX11_isSet, 1, some .boolean, { frames := 1, cells := 0, slots := 0, locals := 22 })
theorem mm_X11_isSet : MdS m_X11_isSet 1 := ⟨⟨inT4 172 rfl rfl, inT1 1 (by decide +kernel) (by decide +kernel), ⟨by decide, by decide⟩, by decide +kernel⟩, inT4 171 (by decide +kernel) (by decide +kernel)⟩
def m_X11_isWithin : MD := (yX11_isWithin, cX11_isWithin, 3, some .boolean, { frames := 0, cells := 0, slots := 0, locals := 0 })
theorem mm_X11_isWithin : MdS m_X11_isWithin 3 := ⟨⟨inT3 201 rfl rfl, inT1 1 (by decide +kernel) (by decide +kernel), ⟨by decide, by decide⟩, by decide +kernel⟩, inT3 200 (by decide +kernel) (by decide +kernel)⟩
def m_X11_isWornBy : MD := (yX11_isWornBy, cX11_isWornBy, 5, some .boolean, { frames := 6, cells := 0, slots := 0, locals := 144 })
theorem mm_X11_isWornBy : MdV m_X11_isWornBy 2 := ⟨⟨inT5 202 rfl rfl, inT1 1 (by decide +kernel) (by decide +kernel), ⟨by decide, by decide⟩, by decide +kernel⟩, inT5 201 (by decide +kernel) (by decide +kernel), inP3 (y := yX11_isWornBy) (n := 13) 11 (by decide +kernel)⟩
def m_X11_jumper : MD := (yX11_jumper, cX11_jumper, 3, some .boolean, { frames := 2, cells := 0, slots := 0, locals := 49 })
theorem mm_X11_jumper : MdV m_X11_jumper 2 := ⟨⟨inT4 191 rfl rfl, inT1 1 (by decide +kernel) (by decide +kernel), ⟨by decide, by decide⟩, by decide +kernel⟩, inT4 189 (by decide +kernel) (by decide +kernel), inT4 190 (by decide +kernel) (by decide +kernel)⟩
def m_X11_keep : MD := (yX11_keep, cX11_keep, 1, some .int, { frames := 2, cells := 0, slots := 0, locals := 48 })
theorem mm_X11_keep : MdV m_X11_keep 0 := ⟨⟨inT5 21 rfl rfl, inT1 1 (by decide +kernel) (by decide +kernel), ⟨by decide, by decide⟩, by decide +kernel⟩, inT5 19 (by decide +kernel) (by decide +kernel), inT5 20 (by decide +kernel) (by decide +kernel)⟩
def m_X11_known : MD := (yX11_known, cX11_known, 2, some .boolean, { frames := 1, cells := 0, slots := 0, locals := 22 })
theorem mm_X11_known : MdV m_X11_known 1 := ⟨⟨inT5 189 rfl rfl, inT1 1 (by decide +kernel) (by decide +kernel), ⟨by decide, by decide⟩, by decide +kernel⟩, inT5 187 (by decide +kernel) (by decide +kernel), inT5 188 (by decide +kernel) (by decide +kernel)⟩
def m_X11_lately : MD := (yX11_lately, cX11_lately, 4, some .int, { frames := 7, cells := 0, slots := 0, locals := 168 })
theorem mm_X11_lately : MdV m_X11_lately 1 := ⟨⟨inT5 193 rfl rfl, inT1 1 (by decide +kernel) (by decide +kernel), ⟨by decide, by decide⟩, by decide +kernel⟩, inT5 191 (by decide +kernel) (by decide +kernel), inT5 192 (by decide +kernel) (by decide +kernel)⟩
def m_X11_law : MD := (yX11_law, cX11_law, 3, some .long, { frames := 3, cells := 0, slots := 0, locals := 76 })
theorem mm_X11_law : MdV m_X11_law 2 := ⟨⟨inT4 93 rfl rfl, inT1 1 (by decide +kernel) (by decide +kernel), ⟨by decide, by decide⟩, by decide +kernel⟩, inT4 91 (by decide +kernel) (by decide +kernel), inT4 92 (by decide +kernel) (by decide +kernel)⟩
def m_X11_learn : MD := (yX11_learn, cX11_learn, 3, some .int, { frames := 1, cells := 0, slots := 0, locals := 22 })
theorem mm_X11_learn : MdV m_X11_learn 1 := ⟨⟨inT5 50 rfl rfl, inT1 1 (by decide +kernel) (by decide +kernel), ⟨by decide, by decide⟩, by decide +kernel⟩, inT5 48 (by decide +kernel) (by decide +kernel), inT5 49 (by decide +kernel) (by decide +kernel)⟩
def m_X11_limited : MD := (yX11_limited, cX11_limited, 4, some .int, { frames := 0, cells := 0, slots := 0, locals := 0 })
theorem mm_X11_limited : MdS m_X11_limited 3 := ⟨⟨inT4 213 rfl rfl, inT1 1 (by decide +kernel) (by decide +kernel), ⟨by decide, by decide⟩, by decide +kernel⟩, inT4 212 (by decide +kernel) (by decide +kernel)⟩
def m_X11_lossBySaying : MD := (yX11_lossBySaying, cX11_lossBySaying, 5, some .int, { frames := 1, cells := 0, slots := 0, locals := 23 })
theorem mm_X11_lossBySaying : MdS m_X11_lossBySaying 4 := ⟨⟨inT5 161 rfl rfl, inT1 1 (by decide +kernel) (by decide +kernel), ⟨by decide, by decide⟩, by decide +kernel⟩, inT5 160 (by decide +kernel) (by decide +kernel)⟩
def m_X11_named : MD := (yX11_named, cX11_named, 3, some .int, { frames := 1, cells := 0, slots := 0, locals := 23 })
theorem mm_X11_named : MdV m_X11_named 2 := ⟨⟨inT4 67 rfl rfl, inT1 1 (by decide +kernel) (by decide +kernel), ⟨by decide, by decide⟩, by decide +kernel⟩, inT4 65 (by decide +kernel) (by decide +kernel), inT4 66 (by decide +kernel) (by decide +kernel)⟩
def m_X11_night : MD := (yX11_night, cX11_night, 5, some .int, { frames := 7, cells := 0, slots := 0, locals := 166 })
theorem mm_X11_night : MdV m_X11_night 1 := ⟨⟨inT5 115 rfl rfl, inT1 1 (by decide +kernel) (by decide +kernel), ⟨by decide, by decide⟩, by decide +kernel⟩, inT5 113 (by decide +kernel) (by decide +kernel), inT5 114 (by decide +kernel) (by decide +kernel)⟩
def m_X11_onAgain : MD := (yX11_onAgain, cX11_onAgain, 5, some .int, { frames := 6, cells := 0, slots := 0, locals := 144 })
theorem mm_X11_onAgain : MdV m_X11_onAgain 3 := ⟨⟨inT5 111 rfl rfl, inT1 1 (by decide +kernel) (by decide +kernel), ⟨by decide, by decide⟩, by decide +kernel⟩, inT5 109 (by decide +kernel) (by decide +kernel), inT5 110 (by decide +kernel) (by decide +kernel)⟩
def m_X11_out : MD := (yX11_out, cX11_out, 2, some .int, { frames := 1, cells := 0, slots := 0, locals := 22 })
theorem mm_X11_out : MdV m_X11_out 1 := ⟨⟨inT4 84 rfl rfl, inT1 1 (by decide +kernel) (by decide +kernel), ⟨by decide, by decide⟩, by decide +kernel⟩, inT4 82 (by decide +kernel) (by decide +kernel), inT4 83 (by decide +kernel) (by decide +kernel)⟩
def m_X11_paidBy : MD := (yX11_paidBy, cX11_paidBy, 3, some .int, { frames := 6, cells := 0, slots := 0, locals := 144 })
theorem mm_X11_paidBy : MdV m_X11_paidBy 2 := ⟨⟨inT5 120 rfl rfl, inT1 1 (by decide +kernel) (by decide +kernel), ⟨by decide, by decide⟩, by decide +kernel⟩, inT5 119 (by decide +kernel) (by decide +kernel), inP3 (y := yX11_paidBy) (n := 13) 6 (by decide +kernel)⟩
def m_X11_placeOf : MD := (yX11_placeOf, cX11_placeOf, 4, some .int, { frames := 0, cells := 0, slots := 0, locals := 0 })
theorem mm_X11_placeOf : MdS m_X11_placeOf 3 := ⟨⟨inT3 190 rfl rfl, inT1 1 (by decide +kernel) (by decide +kernel), ⟨by decide, by decide⟩, by decide +kernel⟩, inT3 189 (by decide +kernel) (by decide +kernel)⟩
def m_X11_quicker : MD := (yX11_quicker, cX11_quicker, 7, some .int, { frames := 7, cells := 0, slots := 0, locals := 168 })
theorem mm_X11_quicker : MdV m_X11_quicker 4 := ⟨⟨inT5 94 rfl rfl, inT1 1 (by decide +kernel) (by decide +kernel), ⟨by decide, by decide⟩, by decide +kernel⟩, inT5 92 (by decide +kernel) (by decide +kernel), inT5 93 (by decide +kernel) (by decide +kernel)⟩
def m_X11_rest : MD := (yX11_rest, cX11_rest, 4, some .int, { frames := 5, cells := 0, slots := 0, locals := 123 })
theorem mm_X11_rest : MdV m_X11_rest 3 := ⟨⟨inT5 169 rfl rfl, inT1 1 (by decide +kernel) (by decide +kernel), ⟨by decide, by decide⟩, by decide +kernel⟩, inT5 167 (by decide +kernel) (by decide +kernel), inT5 168 (by decide +kernel) (by decide +kernel)⟩
def m_X11_restAt : MD := (yX11_restAt, cX11_restAt, 6, some .int, { frames := 4, cells := 0, slots := 0, locals := 98 })
theorem mm_X11_restAt : MdV m_X11_restAt 3 := ⟨⟨inT5 151 rfl rfl, inT1 1 (by decide +kernel) (by decide +kernel), ⟨by decide, by decide⟩, by decide +kernel⟩, inT5 150 (by decide +kernel) (by decide +kernel), inP3 (y := yX11_restAt) (n := 13) 9 (by decide +kernel)⟩
def m_X11_rests : MD := (yX11_rests, cX11_rests, 4, some .int, { frames := 5, cells := 0, slots := 0, locals := 123 })
theorem mm_X11_rests : MdV m_X11_rests 2 := ⟨⟨inT5 147 rfl rfl, inT1 1 (by decide +kernel) (by decide +kernel), ⟨by decide, by decide⟩, by decide +kernel⟩, inT5 145 (by decide +kernel) (by decide +kernel), inT5 146 (by decide +kernel) (by decide +kernel)⟩
def m_X11_room : MD := (yX11_room, cX11_room, 3, some .int, { frames := 1, cells := 0, slots := 0, locals := 24 })
theorem mm_X11_room : MdV m_X11_room 2 := ⟨⟨inT4 72 rfl rfl, inT1 1 (by decide +kernel) (by decide +kernel), ⟨by decide, by decide⟩, by decide +kernel⟩, inT4 70 (by decide +kernel) (by decide +kernel), inT4 71 (by decide +kernel) (by decide +kernel)⟩
def m_X11_said : MD := (yX11_said, cX11_said, 2, some .int, { frames := 0, cells := 0, slots := 0, locals := 0 })
theorem mm_X11_said : MdS m_X11_said 2 := ⟨⟨inT5 164 rfl rfl, inT1 1 (by decide +kernel) (by decide +kernel), ⟨by decide, by decide⟩, by decide +kernel⟩, inT5 163 (by decide +kernel) (by decide +kernel)⟩
def m_X11_set : MD := (yX11_set, cX11_set, 2, some .boolean, { frames := 2, cells := 0, slots := 0, locals := 49 })
theorem mm_X11_set : MdV m_X11_set 1 := ⟨⟨inT4 169 rfl rfl, inT1 1 (by decide +kernel) (by decide +kernel), ⟨by decide, by decide⟩, by decide +kernel⟩, inT4 167 (by decide +kernel) (by decide +kernel), inT4 168 (by decide +kernel) (by decide +kernel)⟩
def m_X11_soon : MD := (yX11_soon, cX11_soon, 4, some .int, { frames := 7, cells := 0, slots := 0, locals := 168 })
theorem mm_X11_soon : MdV m_X11_soon 3 := ⟨⟨inT5 74 rfl rfl, inT1 1 (by decide +kernel) (by decide +kernel), ⟨by decide, by decide⟩, by decide +kernel⟩, inT5 72 (by decide +kernel) (by decide +kernel), inT5 73 (by decide +kernel) (by decide +kernel)⟩
def m_X11_spread : MD := (yX11_spread, cX11_spread, 1, some .int, { frames := 2, cells := 0, slots := 0, locals := 44 })
theorem mm_X11_spread : MdV m_X11_spread 0 := ⟨⟨inT4 137 rfl rfl, inT1 1 (by decide +kernel) (by decide +kernel), ⟨by decide, by decide⟩, by decide +kernel⟩, inT4 135 (by decide +kernel) (by decide +kernel), inT4 136 (by decide +kernel) (by decide +kernel)⟩
def m_X11_strike : MD := (yX11_strike, cX11_strike, 2, some .int, { frames := 1, cells := 0, slots := 0, locals := 21 })
theorem mm_X11_strike : MdV m_X11_strike 1 := ⟨⟨inT5 181 rfl rfl, inT1 1 (by decide +kernel) (by decide +kernel), ⟨by decide, by decide⟩, by decide +kernel⟩, inT5 179 (by decide +kernel) (by decide +kernel), inT5 180 (by decide +kernel) (by decide +kernel)⟩
def m_X11_strip : MD := (yX11_strip, cX11_strip, 4, some .int, { frames := 7, cells := 0, slots := 0, locals := 166 })
theorem mm_X11_strip : MdV m_X11_strip 2 := ⟨⟨inT5 129 rfl rfl, inT1 1 (by decide +kernel) (by decide +kernel), ⟨by decide, by decide⟩, by decide +kernel⟩, inT5 127 (by decide +kernel) (by decide +kernel), inT5 128 (by decide +kernel) (by decide +kernel)⟩
def m_X11_swings : MD := (yX11_swings, cX11_swings, 2, some .int, { frames := 6, cells := 0, slots := 0, locals := 144 })
theorem mm_X11_swings : MdV m_X11_swings 1 := ⟨⟨inT5 46 rfl rfl, inT1 1 (by decide +kernel) (by decide +kernel), ⟨by decide, by decide⟩, by decide +kernel⟩, inT5 44 (by decide +kernel) (by decide +kernel), inT5 45 (by decide +kernel) (by decide +kernel)⟩
def m_X11_takeSpare : MD := (yX11_takeSpare, cX11_takeSpare, 2, none, { frames := 2, cells := 0, slots := 0, locals := 43 })
theorem mm_X11_takeSpare : MdV m_X11_takeSpare 0 := ⟨⟨inT4 47 rfl rfl, inT1 1 (by decide +kernel) (by decide +kernel), ⟨by decide, by decide⟩, by decide +kernel⟩, inT4 46 (by decide +kernel) (by decide +kernel), inP2 (y := yX11_takeSpare) (n := 13) 7 (by decide +kernel)⟩
def m_X11_tapeNumber : MD := (yX11_tapeNumber, cX11_tapeNumber, 3, none, { frames := 0, cells := 0, slots := 0, locals := 0 })
theorem mm_X11_tapeNumber : MdV m_X11_tapeNumber 1 := ⟨⟨inT3 122 rfl rfl, inT1 1 (by decide +kernel) (by decide +kernel), ⟨by decide, by decide⟩, by decide +kernel⟩, inT3 121 (by decide +kernel) (by decide +kernel), inP1 (y := yX11_tapeNumber) (n := 13) 0 (by decide +kernel)⟩
def m_X11_text : MD := (yX11_text, cX11_text, 4, some .int, { frames := 7, cells := 0, slots := 0, locals := 154 })
theorem mm_X11_text : MdV m_X11_text 1 := ⟨⟨inT3 126 rfl rfl, inT1 1 (by decide +kernel) (by decide +kernel), ⟨by decide, by decide⟩, by decide +kernel⟩, inT3 124 (by decide +kernel) (by decide +kernel), inT3 125 (by decide +kernel) (by decide +kernel)⟩
def m_X11_tried : MD := (yX11_tried, cX11_tried, 5, some .int, { frames := 6, cells := 0, slots := 0, locals := 144 })
theorem mm_X11_tried : MdV m_X11_tried 3 := ⟨⟨inT5 70 rfl rfl, inT1 1 (by decide +kernel) (by decide +kernel), ⟨by decide, by decide⟩, by decide +kernel⟩, inT5 68 (by decide +kernel) (by decide +kernel), inT5 69 (by decide +kernel) (by decide +kernel)⟩
def m_X11_tryAsItGoes : MD := (yX11_tryAsItGoes, cX11_tryAsItGoes, 1, none, { frames := 2, cells := 0, slots := 0, locals := 48 })
theorem mm_X11_tryAsItGoes : MdV m_X11_tryAsItGoes 0 := ⟨⟨inT5 37 rfl rfl, inT1 1 (by decide +kernel) (by decide +kernel), ⟨by decide, by decide⟩, by decide +kernel⟩, inT5 36 (by decide +kernel) (by decide +kernel), inP3 (y := yX11_tryAsItGoes) (n := 13) 1 (by decide +kernel)⟩
def m_X11_tryRoomsAlone : MD := (yX11_tryRoomsAlone, cX11_tryRoomsAlone, 2, none, { frames := 4, cells := 0, slots := 0, locals := 89 })
theorem mm_X11_tryRoomsAlone : MdV m_X11_tryRoomsAlone 1 := ⟨⟨inT5 86 rfl rfl, inT1 1 (by decide +kernel) (by decide +kernel), ⟨by decide, by decide⟩, by decide +kernel⟩, inT5 85 (by decide +kernel) (by decide +kernel), inP3 (y := yX11_tryRoomsAlone) (n := 13) 4 (by decide +kernel)⟩
def m_X11_tryTurnedBy : MD := (yX11_tryTurnedBy, cX11_tryTurnedBy, 2, none, { frames := 3, cells := 0, slots := 0, locals := 68 })
theorem mm_X11_tryTurnedBy : MdV m_X11_tryTurnedBy 1 := ⟨⟨inT5 90 rfl rfl, inT1 1 (by decide +kernel) (by decide +kernel), ⟨by decide, by decide⟩, by decide +kernel⟩, inT5 89 (by decide +kernel) (by decide +kernel), inP3 (y := yX11_tryTurnedBy) (n := 13) 5 (by decide +kernel)⟩
def m_X11_turnsOf : MD := (yX11_turnsOf, cX11_turnsOf, 3, some .int, { frames := 6, cells := 0, slots := 0, locals := 144 })
theorem mm_X11_turnsOf : MdV m_X11_turnsOf 2 := ⟨⟨inT5 54 rfl rfl, inT1 1 (by decide +kernel) (by decide +kernel), ⟨by decide, by decide⟩, by decide +kernel⟩, inT5 52 (by decide +kernel) (by decide +kernel), inT5 53 (by decide +kernel) (by decide +kernel)⟩
def m_X11_undo : MD := (yX11_undo, cX11_undo, 1, some .int, { frames := 1, cells := 0, slots := 0, locals := 22 })
theorem mm_X11_undo : MdV m_X11_undo 0 := ⟨⟨inT5 13 rfl rfl, inT1 1 (by decide +kernel) (by decide +kernel), ⟨by decide, by decide⟩, by decide +kernel⟩, inT5 11 (by decide +kernel) (by decide +kernel), inT5 12 (by decide +kernel) (by decide +kernel)⟩
def m_X11_wear : MD := (yX11_wear, cX11_wear, 4, some .int, { frames := 2, cells := 0, slots := 0, locals := 42 })
theorem mm_X11_wear : MdV m_X11_wear 3 := ⟨⟨inT5 173 rfl rfl, inT1 1 (by decide +kernel) (by decide +kernel), ⟨by decide, by decide⟩, by decide +kernel⟩, inT5 171 (by decide +kernel) (by decide +kernel), inT5 172 (by decide +kernel) (by decide +kernel)⟩
def m_X12_ahead : MD := (yX12_ahead, cX12_ahead, 4, some .int, { frames := 7, cells := 0, slots := 0, locals := 169 })
theorem mm_X12_ahead : MdV m_X12_ahead 3 := ⟨⟨inT8 173 rfl rfl, inT1 17 (by decide +kernel) (by decide +kernel), ⟨by decide, by decide⟩, by decide +kernel⟩, inT8 171 (by decide +kernel) (by decide +kernel), inT8 172 (by decide +kernel) (by decide +kernel)⟩
def m_X12_apart : MD := (yX12_apart, cX12_apart, 6, some .int, { frames := 6, cells := 0, slots := 0, locals := 147 })
theorem mm_X12_apart : MdV m_X12_apart 2 := ⟨⟨inT9 18 rfl rfl, inT1 17 (by decide +kernel) (by decide +kernel), ⟨by decide, by decide⟩, by decide +kernel⟩, inT9 16 (by decide +kernel) (by decide +kernel), inT9 17 (by decide +kernel) (by decide +kernel)⟩
def m_X12_areTwo : MD := (yX12_areTwo, cX12_areTwo, 3, some .boolean, { frames := 1, cells := 0, slots := 0, locals := 21 })
theorem mm_X12_areTwo : MdV m_X12_areTwo 2 := ⟨⟨inT9 26 rfl rfl, inT1 17 (by decide +kernel) (by decide +kernel), ⟨by decide, by decide⟩, by decide +kernel⟩, inT9 25 (by decide +kernel) (by decide +kernel), inP7 (y := yX12_areTwo) (n := 93) 10 (by decide +kernel)⟩
def m_X12_atFirst : MD := (yX12_atFirst, cX12_atFirst, 4, none, { frames := 0, cells := 0, slots := 0, locals := 0 })
theorem mm_X12_atFirst : MdV m_X12_atFirst 1 := ⟨⟨inT6 91 rfl rfl, inT1 17 (by decide +kernel) (by decide +kernel), ⟨by decide, by decide⟩, by decide +kernel⟩, inT6 90 (by decide +kernel) (by decide +kernel), inP4 (y := yX12_atFirst) (n := 93) 1 (by decide +kernel)⟩
def m_X12_back : MD := (yX12_back, cX12_back, 2, some .int, { frames := 1, cells := 0, slots := 0, locals := 23 })
theorem mm_X12_back : MdV m_X12_back 0 := ⟨⟨inT9 120 rfl rfl, inT1 17 (by decide +kernel) (by decide +kernel), ⟨by decide, by decide⟩, by decide +kernel⟩, inT9 118 (by decide +kernel) (by decide +kernel), inT9 119 (by decide +kernel) (by decide +kernel)⟩
def m_X12_begin : MD := (yX12_begin, cX12_begin, 2, none, { frames := 1, cells := 0, slots := 0, locals := 23 })
theorem mm_X12_begin : MdV m_X12_begin 0 := ⟨⟨inT6 87 rfl rfl, inT1 17 (by decide +kernel) (by decide +kernel), ⟨by decide, by decide⟩, by decide +kernel⟩, inT6 86 (by decide +kernel) (by decide +kernel), inP4 (y := yX12_begin) (n := 93) 0 (by decide +kernel)⟩
def m_X12_best : MD := (yX12_best, cX12_best, 6, some .int, { frames := 7, cells := 0, slots := 0, locals := 169 })
theorem mm_X12_best : MdV m_X12_best 2 := ⟨⟨inT8 205 rfl rfl, inT1 17 (by decide +kernel) (by decide +kernel), ⟨by decide, by decide⟩, by decide +kernel⟩, inT8 203 (by decide +kernel) (by decide +kernel), inT8 204 (by decide +kernel) (by decide +kernel)⟩
def m_X12_bind : MD := (yX12_bind, cX12_bind, 5, none, { frames := 1, cells := 0, slots := 0, locals := 23 })
theorem mm_X12_bind : MdV m_X12_bind 1 := ⟨⟨inT8 22 rfl rfl, inT1 17 (by decide +kernel) (by decide +kernel), ⟨by decide, by decide⟩, by decide +kernel⟩, inT8 21 (by decide +kernel) (by decide +kernel), inP5 (y := yX12_bind) (n := 93) 13 (by decide +kernel)⟩
def m_X12_boundLaw : MD := (yX12_boundLaw, cX12_boundLaw, 7, some .int, { frames := 3, cells := 0, slots := 0, locals := 72 })
theorem mm_X12_boundLaw : MdV m_X12_boundLaw 4 := ⟨⟨inT8 157 rfl rfl, inT1 17 (by decide +kernel) (by decide +kernel), ⟨by decide, by decide⟩, by decide +kernel⟩, inT8 156 (by decide +kernel) (by decide +kernel), inP7 (y := yX12_boundLaw) (n := 93) 0 (by decide +kernel)⟩
def m_X12_bounded : MD := (yX12_bounded, cX12_bounded, 3, some .long, { frames := 0, cells := 0, slots := 0, locals := 0 })
theorem mm_X12_bounded : MdV m_X12_bounded 1 := ⟨⟨inT8 101 rfl rfl, inT1 17 (by decide +kernel) (by decide +kernel), ⟨by decide, by decide⟩, by decide +kernel⟩, inT8 100 (by decide +kernel) (by decide +kernel), inP6 (y := yX12_bounded) (n := 93) 9 (by decide +kernel)⟩
def m_X12_candle : MD := (yX12_candle, cX12_candle, 2, some .boolean, { frames := 2, cells := 0, slots := 0, locals := 44 })
theorem mm_X12_candle : MdV m_X12_candle 1 := ⟨⟨inT8 133 rfl rfl, inT1 17 (by decide +kernel) (by decide +kernel), ⟨by decide, by decide⟩, by decide +kernel⟩, inT8 131 (by decide +kernel) (by decide +kernel), inT8 132 (by decide +kernel) (by decide +kernel)⟩
def m_X12_chance : MD := (yX12_chance, cX12_chance, 8, some .int, { frames := 6, cells := 0, slots := 0, locals := 147 })
theorem mm_X12_chance : MdV m_X12_chance 4 := ⟨⟨inT9 92 rfl rfl, inT1 17 (by decide +kernel) (by decide +kernel), ⟨by decide, by decide⟩, by decide +kernel⟩, inT9 90 (by decide +kernel) (by decide +kernel), inT9 91 (by decide +kernel) (by decide +kernel)⟩
def m_X12_cheap : MD := (yX12_cheap, cX12_cheap, 6, some .int, { frames := 7, cells := 0, slots := 0, locals := 169 })
theorem mm_X12_cheap : MdV m_X12_cheap 2 := ⟨⟨inT8 209 rfl rfl, inT1 17 (by decide +kernel) (by decide +kernel), ⟨by decide, by decide⟩, by decide +kernel⟩, inT8 207 (by decide +kernel) (by decide +kernel), inT8 208 (by decide +kernel) (by decide +kernel)⟩
def m_X12_compares : MD := (yX12_compares, cX12_compares, 5, some .boolean, { frames := 0, cells := 0, slots := 0, locals := 0 })
theorem mm_X12_compares : MdS m_X12_compares 3 := ⟨⟨inT8 110 rfl rfl, inT1 17 (by decide +kernel) (by decide +kernel), ⟨by decide, by decide⟩, by decide +kernel⟩, inT8 109 (by decide +kernel) (by decide +kernel)⟩
def m_X12_copies : MD := (yX12_copies, cX12_copies, 3, none, { frames := 0, cells := 0, slots := 0, locals := 0 })
theorem mm_X12_copies : MdS m_X12_copies 2 := ⟨⟨inT6 83 rfl rfl, inT1 17 (by decide +kernel) (by decide +kernel), ⟨by decide, by decide⟩, by decide +kernel⟩, inT6 82 (by decide +kernel) (by decide +kernel)⟩
def m_X12_count : MD := (yX12_count, cX12_count, 4, some .int, { frames := 1, cells := 0, slots := 0, locals := 21 })
theorem mm_X12_count : MdV m_X12_count 1 := ⟨⟨inT9 124 rfl rfl, inT1 17 (by decide +kernel) (by decide +kernel), ⟨by decide, by decide⟩, by decide +kernel⟩, inT9 122 (by decide +kernel) (by decide +kernel), inT9 123 (by decide +kernel) (by decide +kernel)⟩
def m_X12_crossMore : MD := (yX12_crossMore, cX12_crossMore, 3, some .int, { frames := 0, cells := 0, slots := 0, locals := 0 })
theorem mm_X12_crossMore : MdV m_X12_crossMore 0 := ⟨⟨inT8 185 rfl rfl, inT1 17 (by decide +kernel) (by decide +kernel), ⟨by decide, by decide⟩, by decide +kernel⟩, inT8 184 (by decide +kernel) (by decide +kernel), inP7 (y := yX12_crossMore) (n := 93) 6 (by decide +kernel)⟩
def m_X12_crossOf : MD := (yX12_crossOf, cX12_crossOf, 5, some .int, { frames := 4, cells := 0, slots := 0, locals := 98 })
theorem mm_X12_crossOf : MdV m_X12_crossOf 2 := ⟨⟨inT8 169 rfl rfl, inT1 17 (by decide +kernel) (by decide +kernel), ⟨by decide, by decide⟩, by decide +kernel⟩, inT8 168 (by decide +kernel) (by decide +kernel), inP7 (y := yX12_crossOf) (n := 93) 3 (by decide +kernel)⟩
def m_X12_crossWith : MD := (yX12_crossWith, cX12_crossWith, 3, some .int, { frames := 7, cells := 0, slots := 0, locals := 169 })
theorem mm_X12_crossWith : MdV m_X12_crossWith 2 := ⟨⟨inT9 52 rfl rfl, inT1 17 (by decide +kernel) (by decide +kernel), ⟨by decide, by decide⟩, by decide +kernel⟩, inT9 51 (by decide +kernel) (by decide +kernel), inP7 (y := yX12_crossWith) (n := 93) 13 (by decide +kernel)⟩
def m_X12_crossest : MD := (yX12_crossest, cX12_crossest, 3, some .int, { frames := 0, cells := 0, slots := 0, locals := 0 })
theorem mm_X12_crossest : MdV m_X12_crossest 0 := ⟨⟨inT9 56 rfl rfl, inT1 17 (by decide +kernel) (by decide +kernel), ⟨by decide, by decide⟩, by decide +kernel⟩, inT9 54 (by decide +kernel) (by decide +kernel), inT9 55 (by decide +kernel) (by decide +kernel)⟩
def m_X12_degree : MD := (yX12_degree, cX12_degree, 3, some .int, { frames := 7, cells := 0, slots := 0, locals := 169 })
theorem mm_X12_degree : MdV m_X12_degree 1 := ⟨⟨inT8 230 rfl rfl, inT1 17 (by decide +kernel) (by decide +kernel), ⟨by decide, by decide⟩, by decide +kernel⟩, inT8 228 (by decide +kernel) (by decide +kernel), inT8 229 (by decide +kernel) (by decide +kernel)⟩
def m_X12_dropHeld : MD := (yX12_dropHeld, cX12_dropHeld, 1, some .int, { frames := 0, cells := 0, slots := 0, locals := 0 })
theorem mm_X12_dropHeld : MdV m_X12_dropHeld 0 := ⟨⟨inT8 29 rfl rfl, inT1 17 (by decide +kernel) (by decide +kernel), ⟨by decide, by decide⟩, by decide +kernel⟩, inT8 28 (by decide +kernel) (by decide +kernel), inP5 (y := yX12_dropHeld) (n := 93) 14 (by decide +kernel)⟩
def m_X12_fails : MD := (yX12_fails, cX12_fails, 2, some .int, { frames := 0, cells := 0, slots := 0, locals := 0 })
theorem mm_X12_fails : MdV m_X12_fails 1 := ⟨⟨inT8 49 rfl rfl, inT1 17 (by decide +kernel) (by decide +kernel), ⟨by decide, by decide⟩, by decide +kernel⟩, inT8 48 (by decide +kernel) (by decide +kernel), inP6 (y := yX12_fails) (n := 93) 0 (by decide +kernel)⟩
def m_X12_fault : MD := (yX12_fault, cX12_fault, 2, some .int, { frames := 0, cells := 0, slots := 0, locals := 0 })
theorem mm_X12_fault : MdV m_X12_fault 1 := ⟨⟨inT8 33 rfl rfl, inT1 17 (by decide +kernel) (by decide +kernel), ⟨by decide, by decide⟩, by decide +kernel⟩, inT8 31 (by decide +kernel) (by decide +kernel), inT8 32 (by decide +kernel) (by decide +kernel)⟩
def m_X12_feed : MD := (yX12_feed, cX12_feed, 8, some .int, { frames := 0, cells := 0, slots := 0, locals := 0 })
theorem mm_X12_feed : MdV m_X12_feed 5 := ⟨⟨inT7 143 rfl rfl, inT1 17 (by decide +kernel) (by decide +kernel), ⟨by decide, by decide⟩, by decide +kernel⟩, inT7 141 (by decide +kernel) (by decide +kernel), inT7 142 (by decide +kernel) (by decide +kernel)⟩
def m_X12_feels : MD := (yX12_feels, cX12_feels, 4, some .int, { frames := 6, cells := 0, slots := 0, locals := 147 })
theorem mm_X12_feels : MdV m_X12_feels 2 := ⟨⟨inT9 14 rfl rfl, inT1 17 (by decide +kernel) (by decide +kernel), ⟨by decide, by decide⟩, by decide +kernel⟩, inT9 12 (by decide +kernel) (by decide +kernel), inT9 13 (by decide +kernel) (by decide +kernel)⟩
def m_X12_feltBy : MD := (yX12_feltBy, cX12_feltBy, 4, some .int, { frames := 0, cells := 0, slots := 0, locals := 0 })
theorem mm_X12_feltBy : MdV m_X12_feltBy 2 := ⟨⟨inT8 53 rfl rfl, inT1 17 (by decide +kernel) (by decide +kernel), ⟨by decide, by decide⟩, by decide +kernel⟩, inT8 52 (by decide +kernel) (by decide +kernel), inP6 (y := yX12_feltBy) (n := 93) 1 (by decide +kernel)⟩
def m_X12_find : MD := (yX12_find, cX12_find, 5, some .int, { frames := 0, cells := 0, slots := 0, locals := 0 })
theorem mm_X12_find : MdS m_X12_find 4 := ⟨⟨inT7 191 rfl rfl, inT1 17 (by decide +kernel) (by decide +kernel), ⟨by decide, by decide⟩, by decide +kernel⟩, inT7 190 (by decide +kernel) (by decide +kernel)⟩
def m_X12_fits : MD := (yX12_fits, cX12_fits, 4, some .boolean, { frames := 6, cells := 0, slots := 0, locals := 147 })
theorem mm_X12_fits : MdV m_X12_fits 2 := ⟨⟨inT9 84 rfl rfl, inT1 17 (by decide +kernel) (by decide +kernel), ⟨by decide, by decide⟩, by decide +kernel⟩, inT9 83 (by decide +kernel) (by decide +kernel), inP8 (y := yX12_fits) (n := 93) 0 (by decide +kernel)⟩
def m_X12_givesIn : MD := (yX12_givesIn, cX12_givesIn, 5, some .int, { frames := 8, cells := 0, slots := 0, locals := 191 })
theorem mm_X12_givesIn : MdV m_X12_givesIn 2 := ⟨⟨inT9 48 rfl rfl, inT1 17 (by decide +kernel) (by decide +kernel), ⟨by decide, by decide⟩, by decide +kernel⟩, inT9 46 (by decide +kernel) (by decide +kernel), inT9 47 (by decide +kernel) (by decide +kernel)⟩
def m_X12_go : MD := (yX12_go, cX12_go, 3, some .int, { frames := 6, cells := 0, slots := 0, locals := 147 })
theorem mm_X12_go : MdV m_X12_go 1 := ⟨⟨inT8 141 rfl rfl, inT1 17 (by decide +kernel) (by decide +kernel), ⟨by decide, by decide⟩, by decide +kernel⟩, inT8 139 (by decide +kernel) (by decide +kernel), inT8 140 (by decide +kernel) (by decide +kernel)⟩
def m_X12_goMany : MD := (yX12_goMany, cX12_goMany, 3, none, { frames := 6, cells := 0, slots := 0, locals := 147 })
theorem mm_X12_goMany : MdV m_X12_goMany 1 := ⟨⟨inT8 181 rfl rfl, inT1 17 (by decide +kernel) (by decide +kernel), ⟨by decide, by decide⟩, by decide +kernel⟩, inT8 180 (by decide +kernel) (by decide +kernel), inP7 (y := yX12_goMany) (n := 93) 5 (by decide +kernel)⟩
def m_X12_goOn : MD := (yX12_goOn, cX12_goOn, 6, none, { frames := 5, cells := 0, slots := 0, locals := 122 })
theorem mm_X12_goOn : MdV m_X12_goOn 1 := ⟨⟨inT8 145 rfl rfl, inT1 17 (by decide +kernel) (by decide +kernel), ⟨by decide, by decide⟩, by decide +kernel⟩, inT8 144 (by decide +kernel) (by decide +kernel), inP6 (y := yX12_goOn) (n := 93) 13 (by decide +kernel)⟩
def m_X12_grown : MD := (yX12_grown, cX12_grown, 4, none, { frames := 0, cells := 0, slots := 0, locals := 0 })
theorem mm_X12_grown : MdV m_X12_grown 3 := ⟨⟨inT8 14 rfl rfl, inT1 17 (by decide +kernel) (by decide +kernel), ⟨by decide, by decide⟩, by decide +kernel⟩, inT8 13 (by decide +kernel) (by decide +kernel), inP5 (y := yX12_grown) (n := 93) 11 (by decide +kernel)⟩
def m_X12_hang : MD := (yX12_hang, cX12_hang, 2, some .boolean, { frames := 2, cells := 0, slots := 0, locals := 44 })
theorem mm_X12_hang : MdV m_X12_hang 1 := ⟨⟨inT8 129 rfl rfl, inT1 17 (by decide +kernel) (by decide +kernel), ⟨by decide, by decide⟩, by decide +kernel⟩, inT8 127 (by decide +kernel) (by decide +kernel), inT8 128 (by decide +kernel) (by decide +kernel)⟩
def m_X12_hears : MD := (yX12_hears, cX12_hears, 5, some .int, { frames := 7, cells := 0, slots := 0, locals := 169 })
theorem mm_X12_hears : MdV m_X12_hears 1 := ⟨⟨inT8 213 rfl rfl, inT1 17 (by decide +kernel) (by decide +kernel), ⟨by decide, by decide⟩, by decide +kernel⟩, inT8 211 (by decide +kernel) (by decide +kernel), inT8 212 (by decide +kernel) (by decide +kernel)⟩
def m_X12_isCounted : MD := (yX12_isCounted, cX12_isCounted, 1, some .boolean, { frames := 1, cells := 0, slots := 0, locals := 21 })
theorem mm_X12_isCounted : MdV m_X12_isCounted 0 := ⟨⟨inT8 6 rfl rfl, inT1 17 (by decide +kernel) (by decide +kernel), ⟨by decide, by decide⟩, by decide +kernel⟩, inT8 5 (by decide +kernel) (by decide +kernel), inP5 (y := yX12_isCounted) (n := 93) 9 (by decide +kernel)⟩
def m_X12_isDigit : MD := (yX12_isDigit, cX12_isDigit, 2, some .boolean, { frames := 0, cells := 0, slots := 0, locals := 0 })
theorem mm_X12_isDigit : MdV m_X12_isDigit 1 := ⟨⟨inT7 167 rfl rfl, inT1 17 (by decide +kernel) (by decide +kernel), ⟨by decide, by decide⟩, by decide +kernel⟩, inT7 166 (by decide +kernel) (by decide +kernel), inP4 (y := yX12_isDigit) (n := 93) 7 (by decide +kernel)⟩
def m_X12_isIn : MD := (yX12_isIn, cX12_isIn, 3, some .boolean, { frames := 0, cells := 0, slots := 0, locals := 0 })
theorem mm_X12_isIn : MdS m_X12_isIn 3 := ⟨⟨inT7 198 rfl rfl, inT1 17 (by decide +kernel) (by decide +kernel), ⟨by decide, by decide⟩, by decide +kernel⟩, inT7 197 (by decide +kernel) (by decide +kernel)⟩
def m_X12_isKey : MD := (yX12_isKey, cX12_isKey, 2, some .boolean, { frames := 0, cells := 0, slots := 0, locals := 0 })
theorem mm_X12_isKey : MdV m_X12_isKey 1 := ⟨⟨inT8 2 rfl rfl, inT1 17 (by decide +kernel) (by decide +kernel), ⟨by decide, by decide⟩, by decide +kernel⟩, inT8 1 (by decide +kernel) (by decide +kernel), inP5 (y := yX12_isKey) (n := 93) 8 (by decide +kernel)⟩
def m_X12_isOn : MD := (yX12_isOn, cX12_isOn, 2, some .boolean, { frames := 0, cells := 0, slots := 0, locals := 0 })
theorem mm_X12_isOn : MdV m_X12_isOn 1 := ⟨⟨inT8 149 rfl rfl, inT1 17 (by decide +kernel) (by decide +kernel), ⟨by decide, by decide⟩, by decide +kernel⟩, inT8 148 (by decide +kernel) (by decide +kernel), inP6 (y := yX12_isOn) (n := 93) 14 (by decide +kernel)⟩
def m_X12_isPerson : MD := (yX12_isPerson, cX12_isPerson, 2, some .boolean, { frames := 0, cells := 0, slots := 0, locals := 0 })
theorem mm_X12_isPerson : MdV m_X12_isPerson 1 := ⟨⟨inT8 45 rfl rfl, inT1 17 (by decide +kernel) (by decide +kernel), ⟨by decide, by decide⟩, by decide +kernel⟩, inT8 44 (by decide +kernel) (by decide +kernel), inP5 (y := yX12_isPerson) (n := 93) 15 (by decide +kernel)⟩
def m_X12_isRoom : MD := (yX12_isRoom, cX12_isRoom, 2, some .boolean, { frames := 0, cells := 0, slots := 0, locals := 0 })
theorem mm_X12_isRoom : MdV m_X12_isRoom 1 := ⟨⟨inT8 61 rfl rfl, inT1 17 (by decide +kernel) (by decide +kernel), ⟨by decide, by decide⟩, by decide +kernel⟩, inT8 60 (by decide +kernel) (by decide +kernel), inP6 (y := yX12_isRoom) (n := 93) 2 (by decide +kernel)⟩
def m_X12_isSet : MD := (yX12_isSet, cX12_isSet, 1, some .boolean, { frames := 1, cells := 0, slots := 0, locals := 22 })
theorem mm_X12_isSet : MdS m_X12_isSet 1 := ⟨⟨inT8 117 rfl rfl, inT1 17 (by decide +kernel) (by decide +kernel), ⟨by decide, by decide⟩, by decide +kernel⟩, inT8 116 (by decide +kernel) (by decide +kernel)⟩
def m_X12_isSign : MD := (yX12_isSign, cX12_isSign, 2, some .boolean, { frames := 0, cells := 0, slots := 0, locals := 0 })
theorem mm_X12_isSign : MdV m_X12_isSign 1 := ⟨⟨inT7 230 rfl rfl, inT1 17 (by decide +kernel) (by decide +kernel), ⟨by decide, by decide⟩, by decide +kernel⟩, inT7 229 (by decide +kernel) (by decide +kernel), inP5 (y := yX12_isSign) (n := 93) 5 (by decide +kernel)⟩
def m_X12_isSmall : MD := (yX12_isSmall, cX12_isSmall, 2, some .boolean, { frames := 0, cells := 0, slots := 0, locals := 0 })
theorem mm_X12_isSmall : MdV m_X12_isSmall 1 := ⟨⟨inT7 155 rfl rfl, inT1 17 (by decide +kernel) (by decide +kernel), ⟨by decide, by decide⟩, by decide +kernel⟩, inT7 154 (by decide +kernel) (by decide +kernel), inP4 (y := yX12_isSmall) (n := 93) 4 (by decide +kernel)⟩
def m_X12_isSo : MD := (yX12_isSo, cX12_isSo, 3, some .boolean, { frames := 1, cells := 0, slots := 0, locals := 20 })
theorem mm_X12_isSo : MdV m_X12_isSo 1 := ⟨⟨inT9 88 rfl rfl, inT1 17 (by decide +kernel) (by decide +kernel), ⟨by decide, by decide⟩, by decide +kernel⟩, inT9 87 (by decide +kernel) (by decide +kernel), inP8 (y := yX12_isSo) (n := 93) 1 (by decide +kernel)⟩
def m_X12_jumper : MD := (yX12_jumper, cX12_jumper, 3, some .boolean, { frames := 2, cells := 0, slots := 0, locals := 44 })
theorem mm_X12_jumper : MdV m_X12_jumper 2 := ⟨⟨inT8 137 rfl rfl, inT1 17 (by decide +kernel) (by decide +kernel), ⟨by decide, by decide⟩, by decide +kernel⟩, inT8 135 (by decide +kernel) (by decide +kernel), inT8 136 (by decide +kernel) (by decide +kernel)⟩
def m_X12_keep : MD := (yX12_keep, cX12_keep, 2, some .int, { frames := 1, cells := 0, slots := 0, locals := 23 })
theorem mm_X12_keep : MdV m_X12_keep 0 := ⟨⟨inT9 116 rfl rfl, inT1 17 (by decide +kernel) (by decide +kernel), ⟨by decide, by decide⟩, by decide +kernel⟩, inT9 114 (by decide +kernel) (by decide +kernel), inT9 115 (by decide +kernel) (by decide +kernel)⟩
def m_X12_keepText : MD := (yX12_keepText, cX12_keepText, 2, none, { frames := 2, cells := 0, slots := 0, locals := 44 })
theorem mm_X12_keepText : MdV m_X12_keepText 0 := ⟨⟨inT6 80 rfl rfl, inT1 17 (by decide +kernel) (by decide +kernel), ⟨by decide, by decide⟩, by decide +kernel⟩, inT6 79 (by decide +kernel) (by decide +kernel), inP3 (y := yX12_keepText) (n := 93) 15 (by decide +kernel)⟩
def m_X12_knobLine : MD := (yX12_knobLine, cX12_knobLine, 1, some .boolean, { frames := 3, cells := 0, slots := 0, locals := 69 })
theorem mm_X12_knobLine : MdV m_X12_knobLine 0 := ⟨⟨inT7 218 rfl rfl, inT1 17 (by decide +kernel) (by decide +kernel), ⟨by decide, by decide⟩, by decide +kernel⟩, inT7 217 (by decide +kernel) (by decide +kernel), inP5 (y := yX12_knobLine) (n := 93) 2 (by decide +kernel)⟩
def m_X12_known : MD := (yX12_known, cX12_known, 2, some .boolean, { frames := 1, cells := 0, slots := 0, locals := 22 })
theorem mm_X12_known : MdV m_X12_known 1 := ⟨⟨inT9 72 rfl rfl, inT1 17 (by decide +kernel) (by decide +kernel), ⟨by decide, by decide⟩, by decide +kernel⟩, inT9 70 (by decide +kernel) (by decide +kernel), inT9 71 (by decide +kernel) (by decide +kernel)⟩
def m_X12_knownBy : MD := (yX12_knownBy, cX12_knownBy, 1, some .int, { frames := 0, cells := 0, slots := 0, locals := 0 })
theorem mm_X12_knownBy : MdV m_X12_knownBy 0 := ⟨⟨inT9 80 rfl rfl, inT1 17 (by decide +kernel) (by decide +kernel), ⟨by decide, by decide⟩, by decide +kernel⟩, inT9 79 (by decide +kernel) (by decide +kernel), inP7 (y := yX12_knownBy) (n := 93) 15 (by decide +kernel)⟩
def m_X12_lately : MD := (yX12_lately, cX12_lately, 4, some .int, { frames := 7, cells := 0, slots := 0, locals := 170 })
theorem mm_X12_lately : MdV m_X12_lately 1 := ⟨⟨inT9 76 rfl rfl, inT1 17 (by decide +kernel) (by decide +kernel), ⟨by decide, by decide⟩, by decide +kernel⟩, inT9 74 (by decide +kernel) (by decide +kernel), inT9 75 (by decide +kernel) (by decide +kernel)⟩
def m_X12_law : MD := (yX12_law, cX12_law, 5, some .long, { frames := 3, cells := 0, slots := 0, locals := 72 })
theorem mm_X12_law : MdV m_X12_law 2 := ⟨⟨inT8 80 rfl rfl, inT1 17 (by decide +kernel) (by decide +kernel), ⟨by decide, by decide⟩, by decide +kernel⟩, inT8 78 (by decide +kernel) (by decide +kernel), inT8 79 (by decide +kernel) (by decide +kernel)⟩
def m_X12_lawOf : MD := (yX12_lawOf, cX12_lawOf, 3, some .long, { frames := 2, cells := 0, slots := 0, locals := 50 })
theorem mm_X12_lawOf : MdV m_X12_lawOf 1 := ⟨⟨inT8 93 rfl rfl, inT1 17 (by decide +kernel) (by decide +kernel), ⟨by decide, by decide⟩, by decide +kernel⟩, inT8 92 (by decide +kernel) (by decide +kernel), inP6 (y := yX12_lawOf) (n := 93) 7 (by decide +kernel)⟩
def m_X12_layNames : MD := (yX12_layNames, cX12_layNames, 5, none, { frames := 2, cells := 0, slots := 0, locals := 44 })
theorem mm_X12_layNames : MdV m_X12_layNames 4 := ⟨⟨inT8 85 rfl rfl, inT1 17 (by decide +kernel) (by decide +kernel), ⟨by decide, by decide⟩, by decide +kernel⟩, inT8 84 (by decide +kernel) (by decide +kernel), inP6 (y := yX12_layNames) (n := 93) 5 (by decide +kernel)⟩
def m_X12_layStill : MD := (yX12_layStill, cX12_layStill, 2, none, { frames := 2, cells := 0, slots := 0, locals := 41 })
theorem mm_X12_layStill : MdV m_X12_layStill 1 := ⟨⟨inT8 197 rfl rfl, inT1 17 (by decide +kernel) (by decide +kernel), ⟨by decide, by decide⟩, by decide +kernel⟩, inT8 196 (by decide +kernel) (by decide +kernel), inP7 (y := yX12_layStill) (n := 93) 8 (by decide +kernel)⟩
def m_X12_layTried : MD := (yX12_layTried, cX12_layTried, 2, none, { frames := 1, cells := 0, slots := 0, locals := 20 })
theorem mm_X12_layTried : MdV m_X12_layTried 0 := ⟨⟨inT8 177 rfl rfl, inT1 17 (by decide +kernel) (by decide +kernel), ⟨by decide, by decide⟩, by decide +kernel⟩, inT8 176 (by decide +kernel) (by decide +kernel), inP7 (y := yX12_layTried) (n := 93) 4 (by decide +kernel)⟩
def m_X12_leafRead : MD := (yX12_leafRead, cX12_leafRead, 2, some .boolean, { frames := 2, cells := 0, slots := 0, locals := 47 })
theorem mm_X12_leafRead : MdV m_X12_leafRead 0 := ⟨⟨inT7 234 rfl rfl, inT1 17 (by decide +kernel) (by decide +kernel), ⟨by decide, by decide⟩, by decide +kernel⟩, inT7 233 (by decide +kernel) (by decide +kernel), inP5 (y := yX12_leafRead) (n := 93) 6 (by decide +kernel)⟩
def m_X12_leakOf : MD := (yX12_leakOf, cX12_leakOf, 2, some .int, { frames := 0, cells := 0, slots := 0, locals := 0 })
theorem mm_X12_leakOf : MdV m_X12_leakOf 1 := ⟨⟨inT8 89 rfl rfl, inT1 17 (by decide +kernel) (by decide +kernel), ⟨by decide, by decide⟩, by decide +kernel⟩, inT8 88 (by decide +kernel) (by decide +kernel), inP6 (y := yX12_leakOf) (n := 93) 6 (by decide +kernel)⟩
def m_X12_learn : MD := (yX12_learn, cX12_learn, 2, some .int, { frames := 1, cells := 0, slots := 0, locals := 22 })
theorem mm_X12_learn : MdV m_X12_learn 1 := ⟨⟨inT8 238 rfl rfl, inT1 17 (by decide +kernel) (by decide +kernel), ⟨by decide, by decide⟩, by decide +kernel⟩, inT8 236 (by decide +kernel) (by decide +kernel), inT8 237 (by decide +kernel) (by decide +kernel)⟩
def m_X12_lineRead : MD := (yX12_lineRead, cX12_lineRead, 3, some .boolean, { frames := 4, cells := 0, slots := 0, locals := 91 })
theorem mm_X12_lineRead : MdV m_X12_lineRead 0 := ⟨⟨inT7 176 rfl rfl, inT1 17 (by decide +kernel) (by decide +kernel), ⟨by decide, by decide⟩, by decide +kernel⟩, inT7 175 (by decide +kernel) (by decide +kernel), inP4 (y := yX12_lineRead) (n := 93) 9 (by decide +kernel)⟩
def m_X12_loses : MD := (yX12_loses, cX12_loses, 4, some .int, { frames := 4, cells := 0, slots := 0, locals := 98 })
theorem mm_X12_loses : MdV m_X12_loses 2 := ⟨⟨inT8 153 rfl rfl, inT1 17 (by decide +kernel) (by decide +kernel), ⟨by decide, by decide⟩, by decide +kernel⟩, inT8 152 (by decide +kernel) (by decide +kernel), inP6 (y := yX12_loses) (n := 93) 15 (by decide +kernel)⟩
def m_X12_loss : MD := (yX12_loss, cX12_loss, 4, some .int, { frames := 0, cells := 0, slots := 0, locals := 0 })
theorem mm_X12_loss : MdS m_X12_loss 3 := ⟨⟨inT9 40 rfl rfl, inT1 17 (by decide +kernel) (by decide +kernel), ⟨by decide, by decide⟩, by decide +kernel⟩, inT9 39 (by decide +kernel) (by decide +kernel)⟩
def m_X12_lossBy : MD := (yX12_lossBy, cX12_lossBy, 5, some .int, { frames := 1, cells := 0, slots := 0, locals := 23 })
theorem mm_X12_lossBy : MdV m_X12_lossBy 4 := ⟨⟨inT9 34 rfl rfl, inT1 17 (by decide +kernel) (by decide +kernel), ⟨by decide, by decide⟩, by decide +kernel⟩, inT9 33 (by decide +kernel) (by decide +kernel), inP7 (y := yX12_lossBy) (n := 93) 12 (by decide +kernel)⟩
def m_X12_nameMet : MD := (yX12_nameMet, cX12_nameMet, 1, some .int, { frames := 0, cells := 0, slots := 0, locals := 0 })
theorem mm_X12_nameMet : MdV m_X12_nameMet 0 := ⟨⟨inT8 10 rfl rfl, inT1 17 (by decide +kernel) (by decide +kernel), ⟨by decide, by decide⟩, by decide +kernel⟩, inT8 9 (by decide +kernel) (by decide +kernel), inP5 (y := yX12_nameMet) (n := 93) 10 (by decide +kernel)⟩
def m_X12_named : MD := (yX12_named, cX12_named, 3, some .int, { frames := 1, cells := 0, slots := 0, locals := 24 })
theorem mm_X12_named : MdV m_X12_named 2 := ⟨⟨inT8 37 rfl rfl, inT1 17 (by decide +kernel) (by decide +kernel), ⟨by decide, by decide⟩, by decide +kernel⟩, inT8 35 (by decide +kernel) (by decide +kernel), inT8 36 (by decide +kernel) (by decide +kernel)⟩
def m_X12_newName : MD := (yX12_newName, cX12_newName, 4, some .boolean, { frames := 2, cells := 0, slots := 0, locals := 47 })
theorem mm_X12_newName : MdV m_X12_newName 3 := ⟨⟨inT7 188 rfl rfl, inT1 17 (by decide +kernel) (by decide +kernel), ⟨by decide, by decide⟩, by decide +kernel⟩, inT7 187 (by decide +kernel) (by decide +kernel), inP4 (y := yX12_newName) (n := 93) 12 (by decide +kernel)⟩
def m_X12_night : MD := (yX12_night, cX12_night, 5, some .int, { frames := 7, cells := 0, slots := 0, locals := 169 })
theorem mm_X12_night : MdV m_X12_night 1 := ⟨⟨inT8 221 rfl rfl, inT1 17 (by decide +kernel) (by decide +kernel), ⟨by decide, by decide⟩, by decide +kernel⟩, inT8 219 (by decide +kernel) (by decide +kernel), inT8 220 (by decide +kernel) (by decide +kernel)⟩
def m_X12_noted : MD := (yX12_noted, cX12_noted, 4, some .int, { frames := 0, cells := 0, slots := 0, locals := 0 })
theorem mm_X12_noted : MdV m_X12_noted 3 := ⟨⟨inT9 64 rfl rfl, inT1 17 (by decide +kernel) (by decide +kernel), ⟨by decide, by decide⟩, by decide +kernel⟩, inT9 63 (by decide +kernel) (by decide +kernel), inP7 (y := yX12_noted) (n := 93) 14 (by decide +kernel)⟩
def m_X12_number : MD := (yX12_number, cX12_number, 3, some .boolean, { frames := 2, cells := 0, slots := 0, locals := 47 })
theorem mm_X12_number : MdV m_X12_number 2 := ⟨⟨inT7 195 rfl rfl, inT1 17 (by decide +kernel) (by decide +kernel), ⟨by decide, by decide⟩, by decide +kernel⟩, inT7 194 (by decide +kernel) (by decide +kernel), inP4 (y := yX12_number) (n := 93) 13 (by decide +kernel)⟩
def m_X12_number1 : MD := (yX12_number1, cX12_number1, 2, some .int, { frames := 0, cells := 0, slots := 0, locals := 0 })
theorem mm_X12_number1 : MdV m_X12_number1 1 := ⟨⟨inT9 96 rfl rfl, inT1 17 (by decide +kernel) (by decide +kernel), ⟨by decide, by decide⟩, by decide +kernel⟩, inT9 95 (by decide +kernel) (by decide +kernel), inP8 (y := yX12_number1) (n := 93) 2 (by decide +kernel)⟩
def m_X12_onAgain : MD := (yX12_onAgain, cX12_onAgain, 5, some .int, { frames := 7, cells := 0, slots := 0, locals := 169 })
theorem mm_X12_onAgain : MdV m_X12_onAgain 3 := ⟨⟨inT8 217 rfl rfl, inT1 17 (by decide +kernel) (by decide +kernel), ⟨by decide, by decide⟩, by decide +kernel⟩, inT8 215 (by decide +kernel) (by decide +kernel), inT8 216 (by decide +kernel) (by decide +kernel)⟩
def m_X12_out : MD := (yX12_out, cX12_out, 2, some .int, { frames := 2, cells := 0, slots := 0, locals := 44 })
theorem mm_X12_out : MdV m_X12_out 1 := ⟨⟨inT8 69 rfl rfl, inT1 17 (by decide +kernel) (by decide +kernel), ⟨by decide, by decide⟩, by decide +kernel⟩, inT8 67 (by decide +kernel) (by decide +kernel), inT8 68 (by decide +kernel) (by decide +kernel)⟩
def m_X12_outLine : MD := (yX12_outLine, cX12_outLine, 1, some .boolean, { frames := 3, cells := 0, slots := 0, locals := 69 })
theorem mm_X12_outLine : MdV m_X12_outLine 0 := ⟨⟨inT7 214 rfl rfl, inT1 17 (by decide +kernel) (by decide +kernel), ⟨by decide, by decide⟩, by decide +kernel⟩, inT7 213 (by decide +kernel) (by decide +kernel), inP5 (y := yX12_outLine) (n := 93) 1 (by decide +kernel)⟩
def m_X12_outOf : MD := (yX12_outOf, cX12_outOf, 3, some .int, { frames := 1, cells := 0, slots := 0, locals := 22 })
theorem mm_X12_outOf : MdV m_X12_outOf 1 := ⟨⟨inT8 73 rfl rfl, inT1 17 (by decide +kernel) (by decide +kernel), ⟨by decide, by decide⟩, by decide +kernel⟩, inT8 72 (by decide +kernel) (by decide +kernel), inP6 (y := yX12_outOf) (n := 93) 4 (by decide +kernel)⟩
def m_X12_packed : MD := (yX12_packed, cX12_packed, 5, some .int, { frames := 0, cells := 0, slots := 0, locals := 0 })
theorem mm_X12_packed : MdV m_X12_packed 2 := ⟨⟨inT7 163 rfl rfl, inT1 17 (by decide +kernel) (by decide +kernel), ⟨by decide, by decide⟩, by decide +kernel⟩, inT7 162 (by decide +kernel) (by decide +kernel), inP4 (y := yX12_packed) (n := 93) 6 (by decide +kernel)⟩
def m_X12_person : MD := (yX12_person, cX12_person, 3, some .int, { frames := 1, cells := 0, slots := 0, locals := 23 })
theorem mm_X12_person : MdV m_X12_person 2 := ⟨⟨inT8 41 rfl rfl, inT1 17 (by decide +kernel) (by decide +kernel), ⟨by decide, by decide⟩, by decide +kernel⟩, inT8 39 (by decide +kernel) (by decide +kernel), inT8 40 (by decide +kernel) (by decide +kernel)⟩
def m_X12_personLine : MD := (yX12_personLine, cX12_personLine, 2, some .boolean, { frames := 3, cells := 0, slots := 0, locals := 70 })
theorem mm_X12_personLine : MdV m_X12_personLine 0 := ⟨⟨inT7 202 rfl rfl, inT1 17 (by decide +kernel) (by decide +kernel), ⟨by decide, by decide⟩, by decide +kernel⟩, inT7 201 (by decide +kernel) (by decide +kernel), inP4 (y := yX12_personLine) (n := 93) 14 (by decide +kernel)⟩
def m_X12_plain : MD := (yX12_plain, cX12_plain, 2, none, { frames := 0, cells := 0, slots := 0, locals := 0 })
theorem mm_X12_plain : MdV m_X12_plain 0 := ⟨⟨inT6 76 rfl rfl, inT1 17 (by decide +kernel) (by decide +kernel), ⟨by decide, by decide⟩, by decide +kernel⟩, inT6 75 (by decide +kernel) (by decide +kernel), inP3 (y := yX12_plain) (n := 93) 14 (by decide +kernel)⟩
def m_X12_plainTried : MD := (yX12_plainTried, cX12_plainTried, 1, none, { frames := 0, cells := 0, slots := 0, locals := 0 })
theorem mm_X12_plainTried : MdV m_X12_plainTried 0 := ⟨⟨inT6 95 rfl rfl, inT1 17 (by decide +kernel) (by decide +kernel), ⟨by decide, by decide⟩, by decide +kernel⟩, inT6 94 (by decide +kernel) (by decide +kernel), inP4 (y := yX12_plainTried) (n := 93) 2 (by decide +kernel)⟩
def m_X12_priceLine : MD := (yX12_priceLine, cX12_priceLine, 1, some .boolean, { frames := 3, cells := 0, slots := 0, locals := 69 })
theorem mm_X12_priceLine : MdV m_X12_priceLine 0 := ⟨⟨inT7 222 rfl rfl, inT1 17 (by decide +kernel) (by decide +kernel), ⟨by decide, by decide⟩, by decide +kernel⟩, inT7 221 (by decide +kernel) (by decide +kernel), inP5 (y := yX12_priceLine) (n := 93) 3 (by decide +kernel)⟩
def m_X12_put : MD := (yX12_put, cX12_put, 4, none, { frames := 0, cells := 0, slots := 0, locals := 0 })
theorem mm_X12_put : MdV m_X12_put 2 := ⟨⟨inT8 125 rfl rfl, inT1 17 (by decide +kernel) (by decide +kernel), ⟨by decide, by decide⟩, by decide +kernel⟩, inT8 124 (by decide +kernel) (by decide +kernel), inP6 (y := yX12_put) (n := 93) 12 (by decide +kernel)⟩
def m_X12_quicker : MD := (yX12_quicker, cX12_quicker, 7, some .int, { frames := 7, cells := 0, slots := 0, locals := 171 })
theorem mm_X12_quicker : MdV m_X12_quicker 4 := ⟨⟨inT8 201 rfl rfl, inT1 17 (by decide +kernel) (by decide +kernel), ⟨by decide, by decide⟩, by decide +kernel⟩, inT8 199 (by decide +kernel) (by decide +kernel), inT8 200 (by decide +kernel) (by decide +kernel)⟩
def m_X12_rank : MD := (yX12_rank, cX12_rank, 1, some .int, { frames := 0, cells := 0, slots := 0, locals := 0 })
theorem mm_X12_rank : MdS m_X12_rank 1 := ⟨⟨inT8 25 rfl rfl, inT1 17 (by decide +kernel) (by decide +kernel), ⟨by decide, by decide⟩, by decide +kernel⟩, inT8 24 (by decide +kernel) (by decide +kernel)⟩
def m_X12_remember : MD := (yX12_remember, cX12_remember, 2, none, { frames := 1, cells := 0, slots := 0, locals := 23 })
theorem mm_X12_remember : MdV m_X12_remember 0 := ⟨⟨inT8 121 rfl rfl, inT1 17 (by decide +kernel) (by decide +kernel), ⟨by decide, by decide⟩, by decide +kernel⟩, inT8 120 (by decide +kernel) (by decide +kernel), inP6 (y := yX12_remember) (n := 93) 11 (by decide +kernel)⟩
def m_X12_rest : MD := (yX12_rest, cX12_rest, 4, some .int, { frames := 3, cells := 0, slots := 0, locals := 76 })
theorem mm_X12_rest : MdV m_X12_rest 3 := ⟨⟨inT9 44 rfl rfl, inT1 17 (by decide +kernel) (by decide +kernel), ⟨by decide, by decide⟩, by decide +kernel⟩, inT9 42 (by decide +kernel) (by decide +kernel), inT9 43 (by decide +kernel) (by decide +kernel)⟩
def m_X12_restAt : MD := (yX12_restAt, cX12_restAt, 10, some .int, { frames := 2, cells := 0, slots := 0, locals := 47 })
theorem mm_X12_restAt : MdV m_X12_restAt 3 := ⟨⟨inT9 30 rfl rfl, inT1 17 (by decide +kernel) (by decide +kernel), ⟨by decide, by decide⟩, by decide +kernel⟩, inT9 29 (by decide +kernel) (by decide +kernel), inP7 (y := yX12_restAt) (n := 93) 11 (by decide +kernel)⟩
def m_X12_rests : MD := (yX12_rests, cX12_rests, 3, some .int, { frames := 3, cells := 0, slots := 0, locals := 76 })
theorem mm_X12_rests : MdV m_X12_rests 2 := ⟨⟨inT9 22 rfl rfl, inT1 17 (by decide +kernel) (by decide +kernel), ⟨by decide, by decide⟩, by decide +kernel⟩, inT9 20 (by decide +kernel) (by decide +kernel), inT9 21 (by decide +kernel) (by decide +kernel)⟩
def m_X12_room : MD := (yX12_room, cX12_room, 3, some .int, { frames := 1, cells := 0, slots := 0, locals := 24 })
theorem mm_X12_room : MdV m_X12_room 2 := ⟨⟨inT8 57 rfl rfl, inT1 17 (by decide +kernel) (by decide +kernel), ⟨by decide, by decide⟩, by decide +kernel⟩, inT8 55 (by decide +kernel) (by decide +kernel), inT8 56 (by decide +kernel) (by decide +kernel)⟩
def m_X12_roomLine : MD := (yX12_roomLine, cX12_roomLine, 2, some .boolean, { frames := 3, cells := 0, slots := 0, locals := 70 })
theorem mm_X12_roomLine : MdV m_X12_roomLine 0 := ⟨⟨inT7 184 rfl rfl, inT1 17 (by decide +kernel) (by decide +kernel), ⟨by decide, by decide⟩, by decide +kernel⟩, inT7 183 (by decide +kernel) (by decide +kernel), inP4 (y := yX12_roomLine) (n := 93) 11 (by decide +kernel)⟩
def m_X12_roomThere : MD := (yX12_roomThere, cX12_roomThere, 2, some .boolean, { frames := 2, cells := 0, slots := 0, locals := 47 })
theorem mm_X12_roomThere : MdV m_X12_roomThere 0 := ⟨⟨inT7 206 rfl rfl, inT1 17 (by decide +kernel) (by decide +kernel), ⟨by decide, by decide⟩, by decide +kernel⟩, inT7 205 (by decide +kernel) (by decide +kernel), inP4 (y := yX12_roomThere) (n := 93) 15 (by decide +kernel)⟩
def m_X12_said : MD := (yX12_said, cX12_said, 2, some .int, { frames := 0, cells := 0, slots := 0, locals := 0 })
theorem mm_X12_said : MdS m_X12_said 2 := ⟨⟨inT9 37 rfl rfl, inT1 17 (by decide +kernel) (by decide +kernel), ⟨by decide, by decide⟩, by decide +kernel⟩, inT9 36 (by decide +kernel) (by decide +kernel)⟩
def m_X12_set : MD := (yX12_set, cX12_set, 2, some .boolean, { frames := 2, cells := 0, slots := 0, locals := 44 })
theorem mm_X12_set : MdV m_X12_set 1 := ⟨⟨inT8 114 rfl rfl, inT1 17 (by decide +kernel) (by decide +kernel), ⟨by decide, by decide⟩, by decide +kernel⟩, inT8 112 (by decide +kernel) (by decide +kernel), inT8 113 (by decide +kernel) (by decide +kernel)⟩
def m_X12_signToken : MD := (yX12_signToken, cX12_signToken, 4, none, { frames := 0, cells := 0, slots := 0, locals := 0 })
theorem mm_X12_signToken : MdV m_X12_signToken 0 := ⟨⟨inT7 172 rfl rfl, inT1 17 (by decide +kernel) (by decide +kernel), ⟨by decide, by decide⟩, by decide +kernel⟩, inT7 171 (by decide +kernel) (by decide +kernel), inP4 (y := yX12_signToken) (n := 93) 8 (by decide +kernel)⟩
def m_X12_signs : MD := (yX12_signs, cX12_signs, 2, some .boolean, { frames := 2, cells := 0, slots := 0, locals := 47 })
theorem mm_X12_signs : MdV m_X12_signs 0 := ⟨⟨inT8 18 rfl rfl, inT1 17 (by decide +kernel) (by decide +kernel), ⟨by decide, by decide⟩, by decide +kernel⟩, inT8 17 (by decide +kernel) (by decide +kernel), inP5 (y := yX12_signs) (n := 93) 12 (by decide +kernel)⟩
def m_X12_soon : MD := (yX12_soon, cX12_soon, 4, some .int, { frames := 7, cells := 0, slots := 0, locals := 171 })
theorem mm_X12_soon : MdV m_X12_soon 3 := ⟨⟨inT8 189 rfl rfl, inT1 17 (by decide +kernel) (by decide +kernel), ⟨by decide, by decide⟩, by decide +kernel⟩, inT8 187 (by decide +kernel) (by decide +kernel), inT8 188 (by decide +kernel) (by decide +kernel)⟩
def m_X12_soonBy : MD := (yX12_soonBy, cX12_soonBy, 5, some .int, { frames := 6, cells := 0, slots := 0, locals := 147 })
theorem mm_X12_soonBy : MdV m_X12_soonBy 3 := ⟨⟨inT8 193 rfl rfl, inT1 17 (by decide +kernel) (by decide +kernel), ⟨by decide, by decide⟩, by decide +kernel⟩, inT8 192 (by decide +kernel) (by decide +kernel), inP7 (y := yX12_soonBy) (n := 93) 7 (by decide +kernel)⟩
def m_X12_spread : MD := (yX12_spread, cX12_spread, 1, some .int, { frames := 1, cells := 0, slots := 0, locals := 24 })
theorem mm_X12_spread : MdV m_X12_spread 0 := ⟨⟨inT9 6 rfl rfl, inT1 17 (by decide +kernel) (by decide +kernel), ⟨by decide, by decide⟩, by decide +kernel⟩, inT9 4 (by decide +kernel) (by decide +kernel), inT9 5 (by decide +kernel) (by decide +kernel)⟩
def m_X12_spreadIn : MD := (yX12_spreadIn, cX12_spreadIn, 5, some .int, { frames := 0, cells := 0, slots := 0, locals := 0 })
theorem mm_X12_spreadIn : MdV m_X12_spreadIn 1 := ⟨⟨inT9 10 rfl rfl, inT1 17 (by decide +kernel) (by decide +kernel), ⟨by decide, by decide⟩, by decide +kernel⟩, inT9 9 (by decide +kernel) (by decide +kernel), inP7 (y := yX12_spreadIn) (n := 93) 9 (by decide +kernel)⟩
def m_X12_strike : MD := (yX12_strike, cX12_strike, 2, some .int, { frames := 1, cells := 0, slots := 0, locals := 23 })
theorem mm_X12_strike : MdV m_X12_strike 1 := ⟨⟨inT9 68 rfl rfl, inT1 17 (by decide +kernel) (by decide +kernel), ⟨by decide, by decide⟩, by decide +kernel⟩, inT9 66 (by decide +kernel) (by decide +kernel), inT9 67 (by decide +kernel) (by decide +kernel)⟩
def m_X12_strip : MD := (yX12_strip, cX12_strip, 4, some .int, { frames := 7, cells := 0, slots := 0, locals := 169 })
theorem mm_X12_strip : MdV m_X12_strip 2 := ⟨⟨inT8 234 rfl rfl, inT1 17 (by decide +kernel) (by decide +kernel), ⟨by decide, by decide⟩, by decide +kernel⟩, inT8 232 (by decide +kernel) (by decide +kernel), inT8 233 (by decide +kernel) (by decide +kernel)⟩
def m_X12_sumRead : MD := (yX12_sumRead, cX12_sumRead, 1, some .boolean, { frames := 3, cells := 0, slots := 0, locals := 68 })
theorem mm_X12_sumRead : MdV m_X12_sumRead 0 := ⟨⟨inT7 226 rfl rfl, inT1 17 (by decide +kernel) (by decide +kernel), ⟨by decide, by decide⟩, by decide +kernel⟩, inT7 225 (by decide +kernel) (by decide +kernel), inP5 (y := yX12_sumRead) (n := 93) 4 (by decide +kernel)⟩
def m_X12_sunIn : MD := (yX12_sunIn, cX12_sunIn, 5, some .int, { frames := 0, cells := 0, slots := 0, locals := 0 })
theorem mm_X12_sunIn : MdV m_X12_sunIn 2 := ⟨⟨inT8 65 rfl rfl, inT1 17 (by decide +kernel) (by decide +kernel), ⟨by decide, by decide⟩, by decide +kernel⟩, inT8 64 (by decide +kernel) (by decide +kernel), inP6 (y := yX12_sunIn) (n := 93) 3 (by decide +kernel)⟩
def m_X12_sunLine : MD := (yX12_sunLine, cX12_sunLine, 2, some .boolean, { frames := 3, cells := 0, slots := 0, locals := 69 })
theorem mm_X12_sunLine : MdV m_X12_sunLine 0 := ⟨⟨inT7 210 rfl rfl, inT1 17 (by decide +kernel) (by decide +kernel), ⟨by decide, by decide⟩, by decide +kernel⟩, inT7 209 (by decide +kernel) (by decide +kernel), inP5 (y := yX12_sunLine) (n := 93) 0 (by decide +kernel)⟩
def m_X12_swings : MD := (yX12_swings, cX12_swings, 2, some .int, { frames := 7, cells := 0, slots := 0, locals := 169 })
theorem mm_X12_swings : MdV m_X12_swings 1 := ⟨⟨inT8 226 rfl rfl, inT1 17 (by decide +kernel) (by decide +kernel), ⟨by decide, by decide⟩, by decide +kernel⟩, inT8 224 (by decide +kernel) (by decide +kernel), inT8 225 (by decide +kernel) (by decide +kernel)⟩
def m_X12_take : MD := (yX12_take, cX12_take, 4, none, { frames := 0, cells := 0, slots := 0, locals := 0 })
theorem mm_X12_take : MdV m_X12_take 2 := ⟨⟨inT9 112 rfl rfl, inT1 17 (by decide +kernel) (by decide +kernel), ⟨by decide, by decide⟩, by decide +kernel⟩, inT9 111 (by decide +kernel) (by decide +kernel), inP8 (y := yX12_take) (n := 93) 3 (by decide +kernel)⟩
def m_X12_text : MD := (yX12_text, cX12_text, 3, some .int, { frames := 5, cells := 0, slots := 0, locals := 113 })
theorem mm_X12_text : MdV m_X12_text 1 := ⟨⟨inT7 147 rfl rfl, inT1 17 (by decide +kernel) (by decide +kernel), ⟨by decide, by decide⟩, by decide +kernel⟩, inT7 145 (by decide +kernel) (by decide +kernel), inT7 146 (by decide +kernel) (by decide +kernel)⟩
def m_X12_thrown : MD := (yX12_thrown, cX12_thrown, 1, some .int, { frames := 0, cells := 0, slots := 0, locals := 0 })
theorem mm_X12_thrown : MdV m_X12_thrown 0 := ⟨⟨inT7 139 rfl rfl, inT1 17 (by decide +kernel) (by decide +kernel), ⟨by decide, by decide⟩, by decide +kernel⟩, inT7 137 (by decide +kernel) (by decide +kernel), inT7 138 (by decide +kernel) (by decide +kernel)⟩
def m_X12_times : MD := (yX12_times, cX12_times, 6, some .long, { frames := 0, cells := 0, slots := 0, locals := 0 })
theorem mm_X12_times : MdV m_X12_times 2 := ⟨⟨inT8 107 rfl rfl, inT1 17 (by decide +kernel) (by decide +kernel), ⟨by decide, by decide⟩, by decide +kernel⟩, inT8 106 (by decide +kernel) (by decide +kernel), inP6 (y := yX12_times) (n := 93) 10 (by decide +kernel)⟩
def m_X12_token : MD := (yX12_token, cX12_token, 1, none, { frames := 1, cells := 0, slots := 0, locals := 27 })
theorem mm_X12_token : MdV m_X12_token 0 := ⟨⟨inT7 151 rfl rfl, inT1 17 (by decide +kernel) (by decide +kernel), ⟨by decide, by decide⟩, by decide +kernel⟩, inT7 150 (by decide +kernel) (by decide +kernel), inP4 (y := yX12_token) (n := 93) 3 (by decide +kernel)⟩
def m_X12_tried : MD := (yX12_tried, cX12_tried, 4, some .int, { frames := 7, cells := 0, slots := 0, locals := 169 })
theorem mm_X12_tried : MdV m_X12_tried 3 := ⟨⟨inT9 104 rfl rfl, inT1 17 (by decide +kernel) (by decide +kernel), ⟨by decide, by decide⟩, by decide +kernel⟩, inT9 102 (by decide +kernel) (by decide +kernel), inT9 103 (by decide +kernel) (by decide +kernel)⟩
def m_X12_turnOf : MD := (yX12_turnOf, cX12_turnOf, 5, some .int, { frames := 4, cells := 0, slots := 0, locals := 98 })
theorem mm_X12_turnOf : MdV m_X12_turnOf 2 := ⟨⟨inT8 161 rfl rfl, inT1 17 (by decide +kernel) (by decide +kernel), ⟨by decide, by decide⟩, by decide +kernel⟩, inT8 160 (by decide +kernel) (by decide +kernel), inP7 (y := yX12_turnOf) (n := 93) 1 (by decide +kernel)⟩
def m_X12_turned : MD := (yX12_turned, cX12_turned, 5, none, { frames := 0, cells := 0, slots := 0, locals := 0 })
theorem mm_X12_turned : MdV m_X12_turned 3 := ⟨⟨inT8 165 rfl rfl, inT1 17 (by decide +kernel) (by decide +kernel), ⟨by decide, by decide⟩, by decide +kernel⟩, inT8 164 (by decide +kernel) (by decide +kernel), inP7 (y := yX12_turned) (n := 93) 2 (by decide +kernel)⟩
def m_X12_turnsOf : MD := (yX12_turnsOf, cX12_turnsOf, 3, some .int, { frames := 7, cells := 0, slots := 0, locals := 169 })
theorem mm_X12_turnsOf : MdV m_X12_turnsOf 2 := ⟨⟨inT9 2 rfl rfl, inT1 17 (by decide +kernel) (by decide +kernel), ⟨by decide, by decide⟩, by decide +kernel⟩, inT9 0 (by decide +kernel) (by decide +kernel), inT9 1 (by decide +kernel) (by decide +kernel)⟩
def m_X12_undo : MD := (yX12_undo, cX12_undo, 1, some .int, { frames := 1, cells := 0, slots := 0, locals := 23 })
theorem mm_X12_undo : MdV m_X12_undo 0 := ⟨⟨inT9 108 rfl rfl, inT1 17 (by decide +kernel) (by decide +kernel), ⟨by decide, by decide⟩, by decide +kernel⟩, inT9 106 (by decide +kernel) (by decide +kernel), inT9 107 (by decide +kernel) (by decide +kernel)⟩
def m_X12_valueOf : MD := (yX12_valueOf, cX12_valueOf, 6, some .long, { frames := 1, cells := 0, slots := 0, locals := 25 })
theorem mm_X12_valueOf : MdV m_X12_valueOf 1 := ⟨⟨inT8 97 rfl rfl, inT1 17 (by decide +kernel) (by decide +kernel), ⟨by decide, by decide⟩, by decide +kernel⟩, inT8 96 (by decide +kernel) (by decide +kernel), inP6 (y := yX12_valueOf) (n := 93) 8 (by decide +kernel)⟩
def m_X12_waitsFor : MD := (yX12_waitsFor, cX12_waitsFor, 2, none, { frames := 0, cells := 0, slots := 0, locals := 0 })
theorem mm_X12_waitsFor : MdV m_X12_waitsFor 1 := ⟨⟨inT7 238 rfl rfl, inT1 17 (by decide +kernel) (by decide +kernel), ⟨by decide, by decide⟩, by decide +kernel⟩, inT7 237 (by decide +kernel) (by decide +kernel), inP5 (y := yX12_waitsFor) (n := 93) 7 (by decide +kernel)⟩
def m_X12_wear : MD := (yX12_wear, cX12_wear, 4, some .int, { frames := 2, cells := 0, slots := 0, locals := 42 })
theorem mm_X12_wear : MdV m_X12_wear 3 := ⟨⟨inT9 60 rfl rfl, inT1 17 (by decide +kernel) (by decide +kernel), ⟨by decide, by decide⟩, by decide +kernel⟩, inT9 58 (by decide +kernel) (by decide +kernel), inT9 59 (by decide +kernel) (by decide +kernel)⟩
def m_X12_within : MD := (yX12_within, cX12_within, 3, some .int, { frames := 0, cells := 0, slots := 0, locals := 0 })
theorem mm_X12_within : MdS m_X12_within 3 := ⟨⟨inT8 76 rfl rfl, inT1 17 (by decide +kernel) (by decide +kernel), ⟨by decide, by decide⟩, by decide +kernel⟩, inT8 75 (by decide +kernel) (by decide +kernel)⟩
def m_X12_wordAt : MD := (yX12_wordAt, cX12_wordAt, 8, some .int, { frames := 0, cells := 0, slots := 0, locals := 0 })
theorem mm_X12_wordAt : MdV m_X12_wordAt 2 := ⟨⟨inT7 159 rfl rfl, inT1 17 (by decide +kernel) (by decide +kernel), ⟨by decide, by decide⟩, by decide +kernel⟩, inT7 158 (by decide +kernel) (by decide +kernel), inP4 (y := yX12_wordAt) (n := 93) 5 (by decide +kernel)⟩
def m_X12_wrong : MD := (yX12_wrong, cX12_wrong, 2, some .boolean, { frames := 0, cells := 0, slots := 0, locals := 0 })
theorem mm_X12_wrong : MdV m_X12_wrong 1 := ⟨⟨inT7 180 rfl rfl, inT1 17 (by decide +kernel) (by decide +kernel), ⟨by decide, by decide⟩, by decide +kernel⟩, inT7 179 (by decide +kernel) (by decide +kernel), inP4 (y := yX12_wrong) (n := 93) 10 (by decide +kernel)⟩
def m_X1_await : MD := (yX1_await, cX1_await, 2, none, { frames := 0, cells := 0, slots := 0, locals := 0 })
theorem mm_X1_await : MdV m_X1_await 1 := ⟨⟨inT4 27 rfl rfl, inT1 8 (by decide +kernel) (by decide +kernel), ⟨by decide, by decide⟩, by decide +kernel⟩, inT4 26 (by decide +kernel) (by decide +kernel), inP2 (y := yX1_await) (n := 7) 4 (by decide +kernel)⟩
def m_X1_openBracket : MD := (yX1_openBracket, cX1_openBracket, 1, some .int, { frames := 1, cells := 0, slots := 0, locals := 21 })
theorem mm_X1_openBracket : MdV m_X1_openBracket 0 := ⟨⟨inT4 23 rfl rfl, inT1 8 (by decide +kernel) (by decide +kernel), ⟨by decide, by decide⟩, by decide +kernel⟩, inT4 22 (by decide +kernel) (by decide +kernel), inP2 (y := yX1_openBracket) (n := 7) 3 (by decide +kernel)⟩
def m_X1_rankOf : MD := (yX1_rankOf, cX1_rankOf, 1, some .int, { frames := 0, cells := 0, slots := 0, locals := 0 })
theorem mm_X1_rankOf : MdS m_X1_rankOf 1 := ⟨⟨inT4 11 rfl rfl, inT1 8 (by decide +kernel) (by decide +kernel), ⟨by decide, by decide⟩, by decide +kernel⟩, inT4 10 (by decide +kernel) (by decide +kernel)⟩
def m_X1_readInto : MD := (yX1_readInto, cX1_readInto, 4, some .int, { frames := 3, cells := 0, slots := 0, locals := 67 })
theorem mm_X1_readInto : MdV m_X1_readInto 1 := ⟨⟨inT4 4 rfl rfl, inT1 8 (by decide +kernel) (by decide +kernel), ⟨by decide, by decide⟩, by decide +kernel⟩, inT4 2 (by decide +kernel) (by decide +kernel), inT4 3 (by decide +kernel) (by decide +kernel)⟩
def m_X1_readJoint : MD := (yX1_readJoint, cX1_readJoint, 4, some .int, { frames := 2, cells := 0, slots := 0, locals := 44 })
theorem mm_X1_readJoint : MdV m_X1_readJoint 1 := ⟨⟨inT4 34 rfl rfl, inT1 8 (by decide +kernel) (by decide +kernel), ⟨by decide, by decide⟩, by decide +kernel⟩, inT4 33 (by decide +kernel) (by decide +kernel), inP2 (y := yX1_readJoint) (n := 7) 5 (by decide +kernel)⟩
def m_X1_readPart : MD := (yX1_readPart, cX1_readPart, 5, some .int, { frames := 2, cells := 0, slots := 0, locals := 41 })
theorem mm_X1_readPart : MdV m_X1_readPart 1 := ⟨⟨inT4 19 rfl rfl, inT1 8 (by decide +kernel) (by decide +kernel), ⟨by decide, by decide⟩, by decide +kernel⟩, inT4 18 (by decide +kernel) (by decide +kernel), inP2 (y := yX1_readPart) (n := 7) 2 (by decide +kernel)⟩
def m_X1_release : MD := (yX1_release, cX1_release, 3, none, { frames := 1, cells := 0, slots := 0, locals := 22 })
theorem mm_X1_release : MdV m_X1_release 2 := ⟨⟨inT4 8 rfl rfl, inT1 8 (by decide +kernel) (by decide +kernel), ⟨by decide, by decide⟩, by decide +kernel⟩, inT4 7 (by decide +kernel) (by decide +kernel), inP2 (y := yX1_release) (n := 7) 1 (by decide +kernel)⟩
def m_X2_clear : MD := (yX2_clear, cX2_clear, 1, none, { frames := 1, cells := 0, slots := 0, locals := 21 })
theorem mm_X2_clear : MdV m_X2_clear 0 := ⟨⟨inT3 134 rfl rfl, inT1 9 (by decide +kernel) (by decide +kernel), ⟨by decide, by decide⟩, by decide +kernel⟩, inT3 132 (by decide +kernel) (by decide +kernel), inT3 133 (by decide +kernel) (by decide +kernel)⟩
def m_X2_outAt : MD := (yX2_outAt, cX2_outAt, 2, some .int, { frames := 0, cells := 0, slots := 0, locals := 0 })
theorem mm_X2_outAt : MdV m_X2_outAt 1 := ⟨⟨inT4 89 rfl rfl, inT1 9 (by decide +kernel) (by decide +kernel), ⟨by decide, by decide⟩, by decide +kernel⟩, inT4 87 (by decide +kernel) (by decide +kernel), inT4 88 (by decide +kernel) (by decide +kernel)⟩
def m_X2_sunOn : MD := (yX2_sunOn, cX2_sunOn, 5, some .int, { frames := 0, cells := 0, slots := 0, locals := 0 })
theorem mm_X2_sunOn : MdV m_X2_sunOn 2 := ⟨⟨inT4 80 rfl rfl, inT1 9 (by decide +kernel) (by decide +kernel), ⟨by decide, by decide⟩, by decide +kernel⟩, inT4 78 (by decide +kernel) (by decide +kernel), inT4 79 (by decide +kernel) (by decide +kernel)⟩
def m_X3_begin : MD := (yX3_begin, cX3_begin, 2, none, { frames := 0, cells := 0, slots := 0, locals := 0 })
theorem mm_X3_begin : MdV m_X3_begin 1 := ⟨⟨inT4 0 rfl rfl, inT1 12 (by decide +kernel) (by decide +kernel), ⟨by decide, by decide⟩, by decide +kernel⟩, inT3 238 (by decide +kernel) (by decide +kernel), inT3 239 (by decide +kernel) (by decide +kernel)⟩
def m_X3_clear : MD := (yX3_clear, cX3_clear, 2, none, { frames := 0, cells := 0, slots := 0, locals := 0 })
theorem mm_X3_clear : MdV m_X3_clear 0 := ⟨⟨inT3 138 rfl rfl, inT1 12 (by decide +kernel) (by decide +kernel), ⟨by decide, by decide⟩, by decide +kernel⟩, inT3 136 (by decide +kernel) (by decide +kernel), inT3 137 (by decide +kernel) (by decide +kernel)⟩
def m_X3_end : MD := (yX3_end, cX3_end, 2, none, { frames := 0, cells := 0, slots := 0, locals := 0 })
theorem mm_X3_end : MdV m_X3_end 1 := ⟨⟨inT4 39 rfl rfl, inT1 12 (by decide +kernel) (by decide +kernel), ⟨by decide, by decide⟩, by decide +kernel⟩, inT4 37 (by decide +kernel) (by decide +kernel), inT4 38 (by decide +kernel) (by decide +kernel)⟩
def m_X3_isTold : MD := (yX3_isTold, cX3_isTold, 2, some .boolean, { frames := 0, cells := 0, slots := 0, locals := 0 })
theorem mm_X3_isTold : MdV m_X3_isTold 1 := ⟨⟨inT3 236 rfl rfl, inT1 12 (by decide +kernel) (by decide +kernel), ⟨by decide, by decide⟩, by decide +kernel⟩, inT3 234 (by decide +kernel) (by decide +kernel), inT3 235 (by decide +kernel) (by decide +kernel)⟩
def m_X3_joined : MD := (yX3_joined, cX3_joined, 7, some .long, { frames := 0, cells := 0, slots := 0, locals := 0 })
theorem mm_X3_joined : MdS m_X3_joined 3 := ⟨⟨inT4 109 rfl rfl, inT1 12 (by decide +kernel) (by decide +kernel), ⟨by decide, by decide⟩, by decide +kernel⟩, inT4 108 (by decide +kernel) (by decide +kernel)⟩
def m_X3_value : MD := (yX3_value, cX3_value, 7, some .long, { frames := 1, cells := 0, slots := 0, locals := 26 })
theorem mm_X3_value : MdV m_X3_value 1 := ⟨⟨inT4 105 rfl rfl, inT1 12 (by decide +kernel) (by decide +kernel), ⟨by decide, by decide⟩, by decide +kernel⟩, inT4 103 (by decide +kernel) (by decide +kernel), inT4 104 (by decide +kernel) (by decide +kernel)⟩
def m_X3_write : MD := (yX3_write, cX3_write, 3, none, { frames := 0, cells := 0, slots := 0, locals := 0 })
theorem mm_X3_write : MdV m_X3_write 2 := ⟨⟨inT4 15 rfl rfl, inT1 12 (by decide +kernel) (by decide +kernel), ⟨by decide, by decide⟩, by decide +kernel⟩, inT4 13 (by decide +kernel) (by decide +kernel), inT4 14 (by decide +kernel) (by decide +kernel)⟩
def m_X4_addStrike : MD := (yX4_addStrike, cX4_addStrike, 2, some .int, { frames := 0, cells := 0, slots := 0, locals := 0 })
theorem mm_X4_addStrike : MdV m_X4_addStrike 1 := ⟨⟨inT5 185 rfl rfl, inT1 15 (by decide +kernel) (by decide +kernel), ⟨by decide, by decide⟩, by decide +kernel⟩, inT5 183 (by decide +kernel) (by decide +kernel), inT5 184 (by decide +kernel) (by decide +kernel)⟩
def m_X4_addWear : MD := (yX4_addWear, cX4_addWear, 4, some .int, { frames := 0, cells := 0, slots := 0, locals := 0 })
theorem mm_X4_addWear : MdV m_X4_addWear 3 := ⟨⟨inT5 177 rfl rfl, inT1 15 (by decide +kernel) (by decide +kernel), ⟨by decide, by decide⟩, by decide +kernel⟩, inT5 175 (by decide +kernel) (by decide +kernel), inT5 176 (by decide +kernel) (by decide +kernel)⟩
def m_X4_agrees : MD := (yX4_agrees, cX4_agrees, 5, some .boolean, { frames := 1, cells := 0, slots := 0, locals := 21 })
theorem mm_X4_agrees : MdV m_X4_agrees 2 := ⟨⟨inT5 215 rfl rfl, inT1 15 (by decide +kernel) (by decide +kernel), ⟨by decide, by decide⟩, by decide +kernel⟩, inT5 213 (by decide +kernel) (by decide +kernel), inT5 214 (by decide +kernel) (by decide +kernel)⟩
def m_X4_clear : MD := (yX4_clear, cX4_clear, 1, none, { frames := 0, cells := 0, slots := 0, locals := 0 })
theorem mm_X4_clear : MdV m_X4_clear 0 := ⟨⟨inT4 59 rfl rfl, inT1 15 (by decide +kernel) (by decide +kernel), ⟨by decide, by decide⟩, by decide +kernel⟩, inT4 57 (by decide +kernel) (by decide +kernel), inT4 58 (by decide +kernel) (by decide +kernel)⟩
def m_X4_isKnownWear : MD := (yX4_isKnownWear, cX4_isKnownWear, 2, some .boolean, { frames := 0, cells := 0, slots := 0, locals := 0 })
theorem mm_X4_isKnownWear : MdV m_X4_isKnownWear 1 := ⟨⟨inT5 210 rfl rfl, inT1 15 (by decide +kernel) (by decide +kernel), ⟨by decide, by decide⟩, by decide +kernel⟩, inT5 209 (by decide +kernel) (by decide +kernel), inP3 (y := yX4_isKnownWear) (n := 7) 12 (by decide +kernel)⟩
def m_X4_knownBy : MD := (yX4_knownBy, cX4_knownBy, 1, some .int, { frames := 0, cells := 0, slots := 0, locals := 0 })
theorem mm_X4_knownBy : MdV m_X4_knownBy 0 := ⟨⟨inT4 165 rfl rfl, inT1 15 (by decide +kernel) (by decide +kernel), ⟨by decide, by decide⟩, by decide +kernel⟩, inT4 163 (by decide +kernel) (by decide +kernel), inT4 164 (by decide +kernel) (by decide +kernel)⟩
def m_X4_longestKnown : MD := (yX4_longestKnown, cX4_longestKnown, 4, some .int, { frames := 1, cells := 0, slots := 0, locals := 21 })
theorem mm_X4_longestKnown : MdV m_X4_longestKnown 0 := ⟨⟨inT5 206 rfl rfl, inT1 15 (by decide +kernel) (by decide +kernel), ⟨by decide, by decide⟩, by decide +kernel⟩, inT5 204 (by decide +kernel) (by decide +kernel), inT5 205 (by decide +kernel) (by decide +kernel)⟩
def m_X4_ponder : MD := (yX4_ponder, cX4_ponder, 3, none, { frames := 1, cells := 0, slots := 0, locals := 20 })
theorem mm_X4_ponder : MdV m_X4_ponder 0 := ⟨⟨inT5 197 rfl rfl, inT1 15 (by decide +kernel) (by decide +kernel), ⟨by decide, by decide⟩, by decide +kernel⟩, inT5 195 (by decide +kernel) (by decide +kernel), inT5 196 (by decide +kernel) (by decide +kernel)⟩
def m_X5_note : MD := (yX5_note, cX5_note, 4, none, { frames := 1, cells := 0, slots := 0, locals := 26 })
theorem mm_X5_note : MdV m_X5_note 3 := ⟨⟨inT4 176 rfl rfl, inT1 16 (by decide +kernel) (by decide +kernel), ⟨by decide, by decide⟩, by decide +kernel⟩, inT4 174 (by decide +kernel) (by decide +kernel), inT4 175 (by decide +kernel) (by decide +kernel)⟩
def m_X5_takeBack : MD := (yX5_takeBack, cX5_takeBack, 3, none, { frames := 0, cells := 0, slots := 0, locals := 0 })
theorem mm_X5_takeBack : MdV m_X5_takeBack 1 := ⟨⟨inT5 17 rfl rfl, inT1 16 (by decide +kernel) (by decide +kernel), ⟨by decide, by decide⟩, by decide +kernel⟩, inT5 15 (by decide +kernel) (by decide +kernel), inT5 16 (by decide +kernel) (by decide +kernel)⟩
def m_X7_begin : MD := (yX7_begin, cX7_begin, 3, none, { frames := 4, cells := 0, slots := 0, locals := 85 })
theorem mm_X7_begin : MdV m_X7_begin 2 := ⟨⟨inT3 130 rfl rfl, inT1 2 (by decide +kernel) (by decide +kernel), ⟨by decide, by decide⟩, by decide +kernel⟩, inT3 128 (by decide +kernel) (by decide +kernel), inT3 129 (by decide +kernel) (by decide +kernel)⟩
def m_X7_fails : MD := (yX7_fails, cX7_fails, 2, some .boolean, { frames := 0, cells := 0, slots := 0, locals := 0 })
theorem mm_X7_fails : MdV m_X7_fails 1 := ⟨⟨inT3 182 rfl rfl, inT1 2 (by decide +kernel) (by decide +kernel), ⟨by decide, by decide⟩, by decide +kernel⟩, inT3 181 (by decide +kernel) (by decide +kernel), inP1 (y := yX7_fails) (n := 7) 6 (by decide +kernel)⟩
def m_X7_isMore : MD := (yX7_isMore, cX7_isMore, 1, some .boolean, { frames := 0, cells := 0, slots := 0, locals := 0 })
theorem mm_X7_isMore : MdV m_X7_isMore 0 := ⟨⟨inT3 170 rfl rfl, inT1 2 (by decide +kernel) (by decide +kernel), ⟨by decide, by decide⟩, by decide +kernel⟩, inT3 168 (by decide +kernel) (by decide +kernel), inT3 169 (by decide +kernel) (by decide +kernel)⟩
def m_X7_readEnd : MD := (yX7_readEnd, cX7_readEnd, 1, some .boolean, { frames := 3, cells := 0, slots := 0, locals := 64 })
theorem mm_X7_readEnd : MdV m_X7_readEnd 0 := ⟨⟨inT4 43 rfl rfl, inT1 2 (by decide +kernel) (by decide +kernel), ⟨by decide, by decide⟩, by decide +kernel⟩, inT4 42 (by decide +kernel) (by decide +kernel), inP2 (y := yX7_readEnd) (n := 7) 6 (by decide +kernel)⟩
def m_X7_readInto : MD := (yX7_readInto, cX7_readInto, 5, some .boolean, { frames := 4, cells := 0, slots := 0, locals := 86 })
theorem mm_X7_readInto : MdV m_X7_readInto 3 := ⟨⟨inT3 194 rfl rfl, inT1 2 (by decide +kernel) (by decide +kernel), ⟨by decide, by decide⟩, by decide +kernel⟩, inT3 193 (by decide +kernel) (by decide +kernel), inP1 (y := yX7_readInto) (n := 7) 8 (by decide +kernel)⟩
def m_X7_readKnob : MD := (yX7_readKnob, cX7_readKnob, 1, some .boolean, { frames := 4, cells := 0, slots := 0, locals := 86 })
theorem mm_X7_readKnob : MdV m_X7_readKnob 0 := ⟨⟨inT3 221 rfl rfl, inT1 2 (by decide +kernel) (by decide +kernel), ⟨by decide, by decide⟩, by decide +kernel⟩, inT3 220 (by decide +kernel) (by decide +kernel), inP1 (y := yX7_readKnob) (n := 7) 14 (by decide +kernel)⟩
def m_X7_readLaw : MD := (yX7_readLaw, cX7_readLaw, 4, some .boolean, { frames := 4, cells := 0, slots := 0, locals := 90 })
theorem mm_X7_readLaw : MdV m_X7_readLaw 0 := ⟨⟨inT3 229 rfl rfl, inT1 2 (by decide +kernel) (by decide +kernel), ⟨by decide, by decide⟩, by decide +kernel⟩, inT3 228 (by decide +kernel) (by decide +kernel), inP2 (y := yX7_readLaw) (n := 7) 0 (by decide +kernel)⟩
def m_X7_readLine : MD := (yX7_readLine, cX7_readLine, 2, some .boolean, { frames := 6, cells := 0, slots := 0, locals := 133 })
theorem mm_X7_readLine : MdV m_X7_readLine 0 := ⟨⟨inT3 174 rfl rfl, inT1 2 (by decide +kernel) (by decide +kernel), ⟨by decide, by decide⟩, by decide +kernel⟩, inT3 172 (by decide +kernel) (by decide +kernel), inT3 173 (by decide +kernel) (by decide +kernel)⟩
def m_X7_readName : MD := (yX7_readName, cX7_readName, 3, some .boolean, { frames := 3, cells := 0, slots := 0, locals := 64 })
theorem mm_X7_readName : MdV m_X7_readName 2 := ⟨⟨inT3 187 rfl rfl, inT1 2 (by decide +kernel) (by decide +kernel), ⟨by decide, by decide⟩, by decide +kernel⟩, inT3 186 (by decide +kernel) (by decide +kernel), inP1 (y := yX7_readName) (n := 7) 7 (by decide +kernel)⟩
def m_X7_readNumber : MD := (yX7_readNumber, cX7_readNumber, 3, some .boolean, { frames := 3, cells := 0, slots := 0, locals := 64 })
theorem mm_X7_readNumber : MdV m_X7_readNumber 2 := ⟨⟨inT3 198 rfl rfl, inT1 2 (by decide +kernel) (by decide +kernel), ⟨by decide, by decide⟩, by decide +kernel⟩, inT3 197 (by decide +kernel) (by decide +kernel), inP1 (y := yX7_readNumber) (n := 7) 9 (by decide +kernel)⟩
def m_X7_readOut : MD := (yX7_readOut, cX7_readOut, 3, some .boolean, { frames := 5, cells := 0, slots := 0, locals := 110 })
theorem mm_X7_readOut : MdV m_X7_readOut 0 := ⟨⟨inT3 217 rfl rfl, inT1 2 (by decide +kernel) (by decide +kernel), ⟨by decide, by decide⟩, by decide +kernel⟩, inT3 216 (by decide +kernel) (by decide +kernel), inP1 (y := yX7_readOut) (n := 7) 13 (by decide +kernel)⟩
def m_X7_readPerson : MD := (yX7_readPerson, cX7_readPerson, 4, some .boolean, { frames := 5, cells := 0, slots := 0, locals := 110 })
theorem mm_X7_readPerson : MdV m_X7_readPerson 0 := ⟨⟨inT3 205 rfl rfl, inT1 2 (by decide +kernel) (by decide +kernel), ⟨by decide, by decide⟩, by decide +kernel⟩, inT3 204 (by decide +kernel) (by decide +kernel), inP1 (y := yX7_readPerson) (n := 7) 10 (by decide +kernel)⟩
def m_X7_readPrice : MD := (yX7_readPrice, cX7_readPrice, 1, some .boolean, { frames := 4, cells := 0, slots := 0, locals := 86 })
theorem mm_X7_readPrice : MdV m_X7_readPrice 0 := ⟨⟨inT3 225 rfl rfl, inT1 2 (by decide +kernel) (by decide +kernel), ⟨by decide, by decide⟩, by decide +kernel⟩, inT3 224 (by decide +kernel) (by decide +kernel), inP1 (y := yX7_readPrice) (n := 7) 15 (by decide +kernel)⟩
def m_X7_readRoom : MD := (yX7_readRoom, cX7_readRoom, 4, some .boolean, { frames := 5, cells := 0, slots := 0, locals := 110 })
theorem mm_X7_readRoom : MdV m_X7_readRoom 0 := ⟨⟨inT3 178 rfl rfl, inT1 2 (by decide +kernel) (by decide +kernel), ⟨by decide, by decide⟩, by decide +kernel⟩, inT3 177 (by decide +kernel) (by decide +kernel), inP1 (y := yX7_readRoom) (n := 7) 5 (by decide +kernel)⟩
def m_X7_readSun : MD := (yX7_readSun, cX7_readSun, 3, some .boolean, { frames := 5, cells := 0, slots := 0, locals := 110 })
theorem mm_X7_readSun : MdV m_X7_readSun 0 := ⟨⟨inT3 213 rfl rfl, inT1 2 (by decide +kernel) (by decide +kernel), ⟨by decide, by decide⟩, by decide +kernel⟩, inT3 212 (by decide +kernel) (by decide +kernel), inP1 (y := yX7_readSun) (n := 7) 12 (by decide +kernel)⟩
def m_X7_readToldRoom : MD := (yX7_readToldRoom, cX7_readToldRoom, 1, some .boolean, { frames := 3, cells := 0, slots := 0, locals := 64 })
theorem mm_X7_readToldRoom : MdV m_X7_readToldRoom 0 := ⟨⟨inT3 209 rfl rfl, inT1 2 (by decide +kernel) (by decide +kernel), ⟨by decide, by decide⟩, by decide +kernel⟩, inT3 208 (by decide +kernel) (by decide +kernel), inP1 (y := yX7_readToldRoom) (n := 7) 11 (by decide +kernel)⟩
def m_X9_advance : MD := (yX9_advance, cX9_advance, 2, none, { frames := 2, cells := 0, slots := 0, locals := 43 })
theorem mm_X9_advance : MdV m_X9_advance 0 := ⟨⟨inT3 149 rfl rfl, inT1 3 (by decide +kernel) (by decide +kernel), ⟨by decide, by decide⟩, by decide +kernel⟩, inT3 147 (by decide +kernel) (by decide +kernel), inT3 148 (by decide +kernel) (by decide +kernel)⟩
def m_X9_begin : MD := (yX9_begin, cX9_begin, 2, none, { frames := 3, cells := 0, slots := 0, locals := 64 })
theorem mm_X9_begin : MdV m_X9_begin 1 := ⟨⟨inT3 142 rfl rfl, inT1 3 (by decide +kernel) (by decide +kernel), ⟨by decide, by decide⟩, by decide +kernel⟩, inT3 140 (by decide +kernel) (by decide +kernel), inT3 141 (by decide +kernel) (by decide +kernel)⟩
def m_X9_byteAt : MD := (yX9_byteAt, cX9_byteAt, 2, some .int, { frames := 0, cells := 0, slots := 0, locals := 0 })
theorem mm_X9_byteAt : MdV m_X9_byteAt 1 := ⟨⟨inT3 166 rfl rfl, inT1 3 (by decide +kernel) (by decide +kernel), ⟨by decide, by decide⟩, by decide +kernel⟩, inT3 165 (by decide +kernel) (by decide +kernel), inP1 (y := yX9_byteAt) (n := 7) 4 (by decide +kernel)⟩
def m_X9_isLaw : MD := (yX9_isLaw, cX9_isLaw, 1, some .boolean, { frames := 0, cells := 0, slots := 0, locals := 0 })
theorem mm_X9_isLaw : MdS m_X9_isLaw 1 := ⟨⟨inT3 232 rfl rfl, inT1 3 (by decide +kernel) (by decide +kernel), ⟨by decide, by decide⟩, by decide +kernel⟩, inT3 231 (by decide +kernel) (by decide +kernel)⟩
def m_X9_isName : MD := (yX9_isName, cX9_isName, 1, some .boolean, { frames := 0, cells := 0, slots := 0, locals := 0 })
theorem mm_X9_isName : MdS m_X9_isName 1 := ⟨⟨inT4 30 rfl rfl, inT1 3 (by decide +kernel) (by decide +kernel), ⟨by decide, by decide⟩, by decide +kernel⟩, inT4 29 (by decide +kernel) (by decide +kernel)⟩
def m_X9_readNumber : MD := (yX9_readNumber, cX9_readNumber, 1, none, { frames := 1, cells := 0, slots := 0, locals := 21 })
theorem mm_X9_readNumber : MdV m_X9_readNumber 0 := ⟨⟨inT3 157 rfl rfl, inT1 3 (by decide +kernel) (by decide +kernel), ⟨by decide, by decide⟩, by decide +kernel⟩, inT3 156 (by decide +kernel) (by decide +kernel), inP1 (y := yX9_readNumber) (n := 7) 2 (by decide +kernel)⟩
def m_X9_readSign : MD := (yX9_readSign, cX9_readSign, 3, none, { frames := 1, cells := 0, slots := 0, locals := 21 })
theorem mm_X9_readSign : MdV m_X9_readSign 1 := ⟨⟨inT3 162 rfl rfl, inT1 3 (by decide +kernel) (by decide +kernel), ⟨by decide, by decide⟩, by decide +kernel⟩, inT3 161 (by decide +kernel) (by decide +kernel), inP1 (y := yX9_readSign) (n := 7) 3 (by decide +kernel)⟩
def m_X9_readWord : MD := (yX9_readWord, cX9_readWord, 3, none, { frames := 0, cells := 0, slots := 0, locals := 0 })
theorem mm_X9_readWord : MdV m_X9_readWord 0 := ⟨⟨inT3 153 rfl rfl, inT1 3 (by decide +kernel) (by decide +kernel), ⟨by decide, by decide⟩, by decide +kernel⟩, inT3 152 (by decide +kernel) (by decide +kernel), inP1 (y := yX9_readWord) (n := 7) 1 (by decide +kernel)⟩
theorem wm_0_103 : Cond.methodLink RX0 103 yX10_lateOf ∈ TS := inT4 121 (by decide +kernel) (by decide +kernel)
theorem wm_0_111 : Cond.methodLink RX0 111 Lib.Math.max.name ∈ TS := inT4 142 (by decide +kernel) (by decide +kernel)
theorem wm_0_116 : Cond.methodLink RX0 116 Lib.Math.min.name ∈ TS := inT4 145 (by decide +kernel) (by decide +kernel)
theorem wm_0_119 : Cond.methodLink RX0 119 yX2_outAt ∈ TS := inT4 200 (by decide +kernel) (by decide +kernel)
theorem wm_0_123 : Cond.methodLink RX0 123 yX10_outOf ∈ TS := inT4 201 (by decide +kernel) (by decide +kernel)
theorem wm_0_129 : Cond.methodLink RX0 129 yX0_isOn ∈ TS := inT4 214 (by decide +kernel) (by decide +kernel)
theorem wm_0_136 : Cond.methodLink RX0 136 yX0_changeRooms ∈ TS := inT4 215 (by decide +kernel) (by decide +kernel)
theorem wm_0_143 : Cond.methodLink RX0 143 yX0_turnKnob ∈ TS := inT4 232 (by decide +kernel) (by decide +kernel)
theorem wm_0_149 : Cond.methodLink RX0 149 yX0_crossPeople ∈ TS := inT5 3 (by decide +kernel) (by decide +kernel)
theorem wm_0_158 : Cond.methodLink RX0 158 yX2_sunOn ∈ TS := inT4 220 (by decide +kernel) (by decide +kernel)
theorem wm_0_164 : Cond.methodLink RX0 164 yX0_lossOf ∈ TS := inT4 221 (by decide +kernel) (by decide +kernel)
theorem wm_0_174 : Cond.methodLink RX0 174 yX10_leakOf ∈ TS := inT4 225 (by decide +kernel) (by decide +kernel)
theorem wm_0_177 : Cond.methodLink RX0 177 yX0_roomLaw ∈ TS := inT4 229 (by decide +kernel) (by decide +kernel)
theorem wm_0_192 : Cond.methodLink RX0 192 yX0_nameRoom ∈ TS := inT4 98 (by decide +kernel) (by decide +kernel)
theorem wm_0_196 : Cond.methodLink RX0 196 yX3_value ∈ TS := inT4 102 (by decide +kernel) (by decide +kernel)
theorem wm_0_209 : Cond.methodLink RX0 209 yX0_feltBy ∈ TS := inT4 236 (by decide +kernel) (by decide +kernel)
theorem wm_0_212 : Cond.methodLink RX0 212 yX0_personLaw ∈ TS := inT4 237 (by decide +kernel) (by decide +kernel)
theorem wm_0_218 : Cond.methodLink RX0 218 yX0_turnTo ∈ TS := inT4 239 (by decide +kernel) (by decide +kernel)
theorem wm_0_70 : Cond.methodLink RX0 70 yX0_forget ∈ TS := inT4 52 (by decide +kernel) (by decide +kernel)
theorem wm_0_85 : Cond.methodLink RX0 85 arraycopyName ∈ TS := inT4 219 (by decide +kernel) (by decide +kernel)
theorem wm_1_42 : Cond.methodLink RX1 42 yX1_release ∈ TS := inT4 5 (by decide +kernel) (by decide +kernel)
theorem wm_1_46 : Cond.methodLink RX1 46 yX1_readPart ∈ TS := inT4 16 (by decide +kernel) (by decide +kernel)
theorem wm_1_50 : Cond.methodLink RX1 50 yX1_readJoint ∈ TS := inT4 31 (by decide +kernel) (by decide +kernel)
theorem wm_1_53 : Cond.methodLink RX1 53 yX9_advance ∈ TS := inT4 35 (by decide +kernel) (by decide +kernel)
theorem wm_1_56 : Cond.methodLink RX1 56 yX1_openBracket ∈ TS := inT4 20 (by decide +kernel) (by decide +kernel)
theorem wm_1_60 : Cond.methodLink RX1 60 yX9_isName ∈ TS := inT4 28 (by decide +kernel) (by decide +kernel)
theorem wm_1_72 : Cond.methodLink RX1 72 yX1_await ∈ TS := inT4 24 (by decide +kernel) (by decide +kernel)
theorem wm_1_76 : Cond.methodLink RX1 76 yX3_write ∈ TS := inT4 12 (by decide +kernel) (by decide +kernel)
theorem wm_1_80 : Cond.methodLink RX1 80 yX1_rankOf ∈ TS := inT4 9 (by decide +kernel) (by decide +kernel)
theorem wm_2_56 : Cond.methodLink RX2 56 yX3_clear ∈ TS := inT3 135 (by decide +kernel) (by decide +kernel)
theorem wm_3_40 : Cond.methodLink RX3 40 yX9_isName ∈ TS := inT4 106 (by decide +kernel) (by decide +kernel)
theorem wm_3_44 : Cond.methodLink RX3 44 yX3_joined ∈ TS := inT4 107 (by decide +kernel) (by decide +kernel)
theorem wm_4_35 : Cond.methodLink RX4 35 yX4_knownBy ∈ TS := inT5 198 (by decide +kernel) (by decide +kernel)
theorem wm_4_39 : Cond.methodLink RX4 39 yX4_isKnownWear ∈ TS := inT5 207 (by decide +kernel) (by decide +kernel)
theorem wm_4_43 : Cond.methodLink RX4 43 Lib.Math.max.name ∈ TS := inT5 211 (by decide +kernel) (by decide +kernel)
theorem wm_5_25 : Cond.methodLink RX5 25 arraycopyName ∈ TS := inT4 177 (by decide +kernel) (by decide +kernel)
theorem wm_7_122 : Cond.methodLink RX7 122 yX7_readName ∈ TS := inT3 184 (by decide +kernel) (by decide +kernel)
theorem wm_7_129 : Cond.methodLink RX7 129 yX7_readInto ∈ TS := inT3 191 (by decide +kernel) (by decide +kernel)
theorem wm_7_147 : Cond.methodLink RX7 147 yX7_readToldRoom ∈ TS := inT3 206 (by decide +kernel) (by decide +kernel)
theorem wm_7_196 : Cond.methodLink RX7 196 yX9_isLaw ∈ TS := inT3 230 (by decide +kernel) (by decide +kernel)
theorem wm_7_203 : Cond.methodLink RX7 203 yX3_isTold ∈ TS := inT3 233 (by decide +kernel) (by decide +kernel)
theorem wm_7_208 : Cond.methodLink RX7 208 yX3_begin ∈ TS := inT3 237 (by decide +kernel) (by decide +kernel)
theorem wm_7_209 : Cond.methodLink RX7 209 yX1_readInto ∈ TS := inT4 1 (by decide +kernel) (by decide +kernel)
theorem wm_7_212 : Cond.methodLink RX7 212 yX3_end ∈ TS := inT4 36 (by decide +kernel) (by decide +kernel)
theorem wm_7_33 : Cond.methodLink RX7 33 yX2_clear ∈ TS := inT3 131 (by decide +kernel) (by decide +kernel)
theorem wm_7_45 : Cond.methodLink RX7 45 yX9_begin ∈ TS := inT3 139 (by decide +kernel) (by decide +kernel)
theorem wm_7_53 : Cond.methodLink RX7 53 yX7_readRoom ∈ TS := inT3 175 (by decide +kernel) (by decide +kernel)
theorem wm_7_57 : Cond.methodLink RX7 57 yX7_readPerson ∈ TS := inT3 202 (by decide +kernel) (by decide +kernel)
theorem wm_7_60 : Cond.methodLink RX7 60 yX7_readSun ∈ TS := inT3 210 (by decide +kernel) (by decide +kernel)
theorem wm_7_63 : Cond.methodLink RX7 63 yX7_readOut ∈ TS := inT3 214 (by decide +kernel) (by decide +kernel)
theorem wm_7_66 : Cond.methodLink RX7 66 yX7_readKnob ∈ TS := inT3 218 (by decide +kernel) (by decide +kernel)
theorem wm_7_69 : Cond.methodLink RX7 69 yX7_readPrice ∈ TS := inT3 222 (by decide +kernel) (by decide +kernel)
theorem wm_7_72 : Cond.methodLink RX7 72 yX7_readLaw ∈ TS := inT3 226 (by decide +kernel) (by decide +kernel)
theorem wm_7_75 : Cond.methodLink RX7 75 yX7_fails ∈ TS := inT3 179 (by decide +kernel) (by decide +kernel)
theorem wm_7_79 : Cond.methodLink RX7 79 yX7_readEnd ∈ TS := inT4 40 (by decide +kernel) (by decide +kernel)
theorem wm_7_85 : Cond.methodLink RX7 85 yX9_advance ∈ TS := inT3 183 (by decide +kernel) (by decide +kernel)
theorem wm_7_98 : Cond.methodLink RX7 98 yX7_readNumber ∈ TS := inT3 195 (by decide +kernel) (by decide +kernel)
theorem wm_9_35 : Cond.methodLink RX9 35 Lib.Math.min.name ∈ TS := inT3 143 (by decide +kernel) (by decide +kernel)
theorem wm_9_46 : Cond.methodLink RX9 46 yX9_advance ∈ TS := inT3 146 (by decide +kernel) (by decide +kernel)
theorem wm_9_55 : Cond.methodLink RX9 55 yX9_readWord ∈ TS := inT3 150 (by decide +kernel) (by decide +kernel)
theorem wm_9_58 : Cond.methodLink RX9 58 yX9_readNumber ∈ TS := inT3 154 (by decide +kernel) (by decide +kernel)
theorem wm_9_61 : Cond.methodLink RX9 61 yX9_readSign ∈ TS := inT3 159 (by decide +kernel) (by decide +kernel)
theorem wm_9_69 : Cond.methodLink RX9 69 yX9_byteAt ∈ TS := inT3 163 (by decide +kernel) (by decide +kernel)
theorem wm_11_100 : Cond.methodLink RX11 100 yX0_begin ∈ TS := inT4 48 (by decide +kernel) (by decide +kernel)
theorem wm_11_106 : Cond.methodLink RX11 106 yX4_clear ∈ TS := inT4 56 (by decide +kernel) (by decide +kernel)
theorem wm_11_123 : Cond.methodLink RX11 123 yX11_placeOf ∈ TS := inT4 68 (by decide +kernel) (by decide +kernel)
theorem wm_11_135 : Cond.methodLink RX11 135 yX11_isPerson ∈ TS := inT4 113 (by decide +kernel) (by decide +kernel)
theorem wm_11_139 : Cond.methodLink RX11 139 yX11_isWithin ∈ TS := inT4 85 (by decide +kernel) (by decide +kernel)
theorem wm_11_162 : Cond.methodLink RX11 162 yX0_feltBy ∈ TS := inT4 117 (by decide +kernel) (by decide +kernel)
theorem wm_11_178 : Cond.methodLink RX11 178 yX11_isRoom ∈ TS := inT4 73 (by decide +kernel) (by decide +kernel)
theorem wm_11_193 : Cond.methodLink RX11 193 yX2_sunOn ∈ TS := inT4 77 (by decide +kernel) (by decide +kernel)
theorem wm_11_197 : Cond.methodLink RX11 197 yX2_outAt ∈ TS := inT4 86 (by decide +kernel) (by decide +kernel)
theorem wm_11_203 : Cond.methodLink RX11 203 yX0_roomLaw ∈ TS := inT4 94 (by decide +kernel) (by decide +kernel)
theorem wm_11_207 : Cond.methodLink RX11 207 yX0_personLaw ∈ TS := inT4 125 (by decide +kernel) (by decide +kernel)
theorem wm_11_213 : Cond.methodLink RX11 213 yX0_spreadNow ∈ TS := inT4 138 (by decide +kernel) (by decide +kernel)
theorem wm_11_235 : Cond.methodLink RX11 235 yX0_isOn ∈ TS := inT4 150 (by decide +kernel) (by decide +kernel)
theorem wm_11_241 : Cond.methodLink RX11 241 yX11_countMore ∈ TS := inT4 154 (by decide +kernel) (by decide +kernel)
theorem wm_11_250 : Cond.methodLink RX11 250 yX0_crossOfAll ∈ TS := inT4 158 (by decide +kernel) (by decide +kernel)
theorem wm_11_254 : Cond.methodLink RX11 254 yX4_knownBy ∈ TS := inT4 162 (by decide +kernel) (by decide +kernel)
theorem wm_11_257 : Cond.methodLink RX11 257 yX11_isSet ∈ TS := inT4 170 (by decide +kernel) (by decide +kernel)
theorem wm_11_260 : Cond.methodLink RX11 260 yX5_note ∈ TS := inT4 173 (by decide +kernel) (by decide +kernel)
theorem wm_11_264 : Cond.methodLink RX11 264 yX0_run ∈ TS := inT4 196 (by decide +kernel) (by decide +kernel)
theorem wm_11_267 : Cond.methodLink RX11 267 yX5_takeBack ∈ TS := inT5 14 (by decide +kernel) (by decide +kernel)
theorem wm_11_271 : Cond.methodLink RX11 271 yX0_copy ∈ TS := inT5 22 (by decide +kernel) (by decide +kernel)
theorem wm_11_274 : Cond.methodLink RX11 274 yX0_forget ∈ TS := inT5 38 (by decide +kernel) (by decide +kernel)
theorem wm_11_281 : Cond.methodLink RX11 281 yX10_clear ∈ TS := inT5 39 (by decide +kernel) (by decide +kernel)
theorem wm_11_284 : Cond.methodLink RX11 284 yX11_tryAsItGoes ∈ TS := inT5 34 (by decide +kernel) (by decide +kernel)
theorem wm_11_321 : Cond.methodLink RX11 321 yX11_tryTurnedBy ∈ TS := inT5 87 (by decide +kernel) (by decide +kernel)
theorem wm_11_327 : Cond.methodLink RX11 327 yX11_tryRoomsAlone ∈ TS := inT5 83 (by decide +kernel) (by decide +kernel)
theorem wm_11_330 : Cond.methodLink RX11 330 yX11_canBeWarm ∈ TS := inT5 75 (by decide +kernel) (by decide +kernel)
theorem wm_11_334 : Cond.methodLink RX11 334 yX11_hoursTillWarm ∈ TS := inT5 79 (by decide +kernel) (by decide +kernel)
theorem wm_11_342 : Cond.methodLink RX11 342 yX11_paidBy ∈ TS := inT5 117 (by decide +kernel) (by decide +kernel)
theorem wm_11_345 : Cond.methodLink RX11 345 Lib.Math.max.name ∈ TS := inT5 125 (by decide +kernel) (by decide +kernel)
theorem wm_11_353 : Cond.methodLink RX11 353 yX11_limited ∈ TS := inT5 142 (by decide +kernel) (by decide +kernel)
theorem wm_11_357 : Cond.methodLink RX11 357 yX11_areTwo ∈ TS := inT5 134 (by decide +kernel) (by decide +kernel)
theorem wm_11_360 : Cond.methodLink RX11 360 yX11_crossByWishOf ∈ TS := inT5 138 (by decide +kernel) (by decide +kernel)
theorem wm_11_363 : Cond.methodLink RX11 363 Lib.Math.min.name ∈ TS := inT5 143 (by decide +kernel) (by decide +kernel)
theorem wm_11_366 : Cond.methodLink RX11 366 yX11_said ∈ TS := inT5 162 (by decide +kernel) (by decide +kernel)
theorem wm_11_369 : Cond.methodLink RX11 369 yX11_distance ∈ TS := inT5 165 (by decide +kernel) (by decide +kernel)
theorem wm_11_372 : Cond.methodLink RX11 372 yX11_lossBySaying ∈ TS := inT5 159 (by decide +kernel) (by decide +kernel)
theorem wm_11_376 : Cond.methodLink RX11 376 yX11_isBestSaying ∈ TS := inT5 156 (by decide +kernel) (by decide +kernel)
theorem wm_11_380 : Cond.methodLink RX11 380 yX11_isRest ∈ TS := inT5 152 (by decide +kernel) (by decide +kernel)
theorem wm_11_383 : Cond.methodLink RX11 383 yX11_restAt ∈ TS := inT5 148 (by decide +kernel) (by decide +kernel)
theorem wm_11_386 : Cond.methodLink RX11 386 yX4_addWear ∈ TS := inT5 174 (by decide +kernel) (by decide +kernel)
theorem wm_11_390 : Cond.methodLink RX11 390 yX4_addStrike ∈ TS := inT5 182 (by decide +kernel) (by decide +kernel)
theorem wm_11_396 : Cond.methodLink RX11 396 yX4_ponder ∈ TS := inT5 194 (by decide +kernel) (by decide +kernel)
theorem wm_11_399 : Cond.methodLink RX11 399 yX11_isWornBy ∈ TS := inT5 199 (by decide +kernel) (by decide +kernel)
theorem wm_11_408 : Cond.methodLink RX11 408 yX4_longestKnown ∈ TS := inT5 203 (by decide +kernel) (by decide +kernel)
theorem wm_11_411 : Cond.methodLink RX11 411 yX4_agrees ∈ TS := inT5 212 (by decide +kernel) (by decide +kernel)
theorem wm_11_70 : Cond.methodLink RX11 70 yX11_tapeNumber ∈ TS := inT3 119 (by decide +kernel) (by decide +kernel)
theorem wm_11_74 : Cond.methodLink RX11 74 yX7_begin ∈ TS := inT3 127 (by decide +kernel) (by decide +kernel)
theorem wm_11_78 : Cond.methodLink RX11 78 yX7_isMore ∈ TS := inT3 167 (by decide +kernel) (by decide +kernel)
theorem wm_11_82 : Cond.methodLink RX11 82 yX7_readLine ∈ TS := inT3 171 (by decide +kernel) (by decide +kernel)
theorem wm_11_94 : Cond.methodLink RX11 94 yX11_takeSpare ∈ TS := inT4 44 (by decide +kernel) (by decide +kernel)
theorem wm_12_169 : Cond.methodLink RX12 169 yX12_plain ∈ TS := inT6 73 (by decide +kernel) (by decide +kernel)
theorem wm_12_172 : Cond.methodLink RX12 172 yX12_keepText ∈ TS := inT6 77 (by decide +kernel) (by decide +kernel)
theorem wm_12_196 : Cond.methodLink RX12 196 yX12_isSmall ∈ TS := inT7 152 (by decide +kernel) (by decide +kernel)
theorem wm_12_200 : Cond.methodLink RX12 200 yX12_wordAt ∈ TS := inT7 156 (by decide +kernel) (by decide +kernel)
theorem wm_12_207 : Cond.methodLink RX12 207 yX12_packed ∈ TS := inT7 160 (by decide +kernel) (by decide +kernel)
theorem wm_12_210 : Cond.methodLink RX12 210 yX12_isDigit ∈ TS := inT7 164 (by decide +kernel) (by decide +kernel)
theorem wm_12_214 : Cond.methodLink RX12 214 yX12_signToken ∈ TS := inT7 169 (by decide +kernel) (by decide +kernel)
theorem wm_12_217 : Cond.methodLink RX12 217 yX12_wrong ∈ TS := inT7 177 (by decide +kernel) (by decide +kernel)
theorem wm_12_220 : Cond.methodLink RX12 220 yX12_isIn ∈ TS := inT7 196 (by decide +kernel) (by decide +kernel)
theorem wm_12_227 : Cond.methodLink RX12 227 yX12_token ∈ TS := inT7 148 (by decide +kernel) (by decide +kernel)
theorem wm_12_230 : Cond.methodLink RX12 230 yX12_isSign ∈ TS := inT7 227 (by decide +kernel) (by decide +kernel)
theorem wm_12_233 : Cond.methodLink RX12 233 yX12_number ∈ TS := inT7 192 (by decide +kernel) (by decide +kernel)
theorem wm_12_270 : Cond.methodLink RX12 270 yX12_copies ∈ TS := inT6 81 (by decide +kernel) (by decide +kernel)
theorem wm_12_274 : Cond.methodLink RX12 274 yX12_begin ∈ TS := inT6 84 (by decide +kernel) (by decide +kernel)
theorem wm_12_277 : Cond.methodLink RX12 277 yX12_find ∈ TS := inT7 189 (by decide +kernel) (by decide +kernel)
theorem wm_12_281 : Cond.methodLink RX12 281 yX12_newName ∈ TS := inT7 185 (by decide +kernel) (by decide +kernel)
theorem wm_12_285 : Cond.methodLink RX12 285 yX12_roomThere ∈ TS := inT7 203 (by decide +kernel) (by decide +kernel)
theorem wm_12_289 : Cond.methodLink RX12 289 yX12_roomLine ∈ TS := inT7 181 (by decide +kernel) (by decide +kernel)
theorem wm_12_292 : Cond.methodLink RX12 292 yX12_personLine ∈ TS := inT7 199 (by decide +kernel) (by decide +kernel)
theorem wm_12_295 : Cond.methodLink RX12 295 yX12_sunLine ∈ TS := inT7 207 (by decide +kernel) (by decide +kernel)
theorem wm_12_298 : Cond.methodLink RX12 298 yX12_outLine ∈ TS := inT7 211 (by decide +kernel) (by decide +kernel)
theorem wm_12_301 : Cond.methodLink RX12 301 yX12_knobLine ∈ TS := inT7 215 (by decide +kernel) (by decide +kernel)
theorem wm_12_304 : Cond.methodLink RX12 304 yX12_priceLine ∈ TS := inT7 219 (by decide +kernel) (by decide +kernel)
theorem wm_12_307 : Cond.methodLink RX12 307 yX12_sumRead ∈ TS := inT7 223 (by decide +kernel) (by decide +kernel)
theorem wm_12_310 : Cond.methodLink RX12 310 yX12_lineRead ∈ TS := inT7 173 (by decide +kernel) (by decide +kernel)
theorem wm_12_319 : Cond.methodLink RX12 319 yX12_rank ∈ TS := inT8 23 (by decide +kernel) (by decide +kernel)
theorem wm_12_323 : Cond.methodLink RX12 323 yX12_dropHeld ∈ TS := inT8 26 (by decide +kernel) (by decide +kernel)
theorem wm_12_327 : Cond.methodLink RX12 327 yX12_grown ∈ TS := inT8 11 (by decide +kernel) (by decide +kernel)
theorem wm_12_334 : Cond.methodLink RX12 334 yX12_waitsFor ∈ TS := inT7 235 (by decide +kernel) (by decide +kernel)
theorem wm_12_342 : Cond.methodLink RX12 342 yX12_isKey ∈ TS := inT7 239 (by decide +kernel) (by decide +kernel)
theorem wm_12_345 : Cond.methodLink RX12 345 yX12_isCounted ∈ TS := inT8 3 (by decide +kernel) (by decide +kernel)
theorem wm_12_348 : Cond.methodLink RX12 348 yX12_nameMet ∈ TS := inT8 7 (by decide +kernel) (by decide +kernel)
theorem wm_12_354 : Cond.methodLink RX12 354 yX12_bind ∈ TS := inT8 19 (by decide +kernel) (by decide +kernel)
theorem wm_12_357 : Cond.methodLink RX12 357 yX12_leafRead ∈ TS := inT7 231 (by decide +kernel) (by decide +kernel)
theorem wm_12_360 : Cond.methodLink RX12 360 yX12_signs ∈ TS := inT8 15 (by decide +kernel) (by decide +kernel)
theorem wm_12_370 : Cond.methodLink RX12 370 yX12_bounded ∈ TS := inT8 98 (by decide +kernel) (by decide +kernel)
theorem wm_12_374 : Cond.methodLink RX12 374 yX12_times ∈ TS := inT8 104 (by decide +kernel) (by decide +kernel)
theorem wm_12_378 : Cond.methodLink RX12 378 yX12_compares ∈ TS := inT8 108 (by decide +kernel) (by decide +kernel)
theorem wm_12_382 : Cond.methodLink RX12 382 yX12_atFirst ∈ TS := inT6 88 (by decide +kernel) (by decide +kernel)
theorem wm_12_385 : Cond.methodLink RX12 385 yX12_plainTried ∈ TS := inT6 92 (by decide +kernel) (by decide +kernel)
theorem wm_12_430 : Cond.methodLink RX12 430 yX12_layTried ∈ TS := inT8 174 (by decide +kernel) (by decide +kernel)
theorem wm_12_433 : Cond.methodLink RX12 433 yX12_within ∈ TS := inT8 74 (by decide +kernel) (by decide +kernel)
theorem wm_12_437 : Cond.methodLink RX12 437 yX12_outOf ∈ TS := inT8 70 (by decide +kernel) (by decide +kernel)
theorem wm_12_440 : Cond.methodLink RX12 440 yX12_leakOf ∈ TS := inT8 86 (by decide +kernel) (by decide +kernel)
theorem wm_12_443 : Cond.methodLink RX12 443 yX12_valueOf ∈ TS := inT8 94 (by decide +kernel) (by decide +kernel)
theorem wm_12_447 : Cond.methodLink RX12 447 yX12_lawOf ∈ TS := inT8 90 (by decide +kernel) (by decide +kernel)
theorem wm_12_450 : Cond.methodLink RX12 450 yX12_layNames ∈ TS := inT8 82 (by decide +kernel) (by decide +kernel)
theorem wm_12_454 : Cond.methodLink RX12 454 yX12_boundLaw ∈ TS := inT8 154 (by decide +kernel) (by decide +kernel)
theorem wm_12_458 : Cond.methodLink RX12 458 yX12_feltBy ∈ TS := inT8 50 (by decide +kernel) (by decide +kernel)
theorem wm_12_461 : Cond.methodLink RX12 461 yX12_isOn ∈ TS := inT8 146 (by decide +kernel) (by decide +kernel)
theorem wm_12_464 : Cond.methodLink RX12 464 yX12_loses ∈ TS := inT8 150 (by decide +kernel) (by decide +kernel)
theorem wm_12_467 : Cond.methodLink RX12 467 yX12_sunIn ∈ TS := inT8 62 (by decide +kernel) (by decide +kernel)
theorem wm_12_470 : Cond.methodLink RX12 470 yX12_turnOf ∈ TS := inT8 158 (by decide +kernel) (by decide +kernel)
theorem wm_12_473 : Cond.methodLink RX12 473 yX12_turned ∈ TS := inT8 162 (by decide +kernel) (by decide +kernel)
theorem wm_12_476 : Cond.methodLink RX12 476 yX12_crossOf ∈ TS := inT8 166 (by decide +kernel) (by decide +kernel)
theorem wm_12_479 : Cond.methodLink RX12 479 yX12_goOn ∈ TS := inT8 142 (by decide +kernel) (by decide +kernel)
theorem wm_12_482 : Cond.methodLink RX12 482 yX12_isPerson ∈ TS := inT8 42 (by decide +kernel) (by decide +kernel)
theorem wm_12_485 : Cond.methodLink RX12 485 yX12_fails ∈ TS := inT8 46 (by decide +kernel) (by decide +kernel)
theorem wm_12_488 : Cond.methodLink RX12 488 yX12_isRoom ∈ TS := inT8 58 (by decide +kernel) (by decide +kernel)
theorem wm_12_493 : Cond.methodLink RX12 493 yX12_isSet ∈ TS := inT8 115 (by decide +kernel) (by decide +kernel)
theorem wm_12_496 : Cond.methodLink RX12 496 yX12_remember ∈ TS := inT8 118 (by decide +kernel) (by decide +kernel)
theorem wm_12_499 : Cond.methodLink RX12 499 yX12_goMany ∈ TS := inT8 178 (by decide +kernel) (by decide +kernel)
theorem wm_12_502 : Cond.methodLink RX12 502 yX12_crossMore ∈ TS := inT8 182 (by decide +kernel) (by decide +kernel)
theorem wm_12_505 : Cond.methodLink RX12 505 yX12_layStill ∈ TS := inT8 194 (by decide +kernel) (by decide +kernel)
theorem wm_12_508 : Cond.methodLink RX12 508 yX12_soonBy ∈ TS := inT8 190 (by decide +kernel) (by decide +kernel)
theorem wm_12_512 : Cond.methodLink RX12 512 yX12_spreadIn ∈ TS := inT9 7 (by decide +kernel) (by decide +kernel)
theorem wm_12_515 : Cond.methodLink RX12 515 yX12_said ∈ TS := inT9 35 (by decide +kernel) (by decide +kernel)
theorem wm_12_518 : Cond.methodLink RX12 518 yX12_loss ∈ TS := inT9 38 (by decide +kernel) (by decide +kernel)
theorem wm_12_521 : Cond.methodLink RX12 521 yX12_lossBy ∈ TS := inT9 31 (by decide +kernel) (by decide +kernel)
theorem wm_12_524 : Cond.methodLink RX12 524 yX12_areTwo ∈ TS := inT9 23 (by decide +kernel) (by decide +kernel)
theorem wm_12_527 : Cond.methodLink RX12 527 yX12_restAt ∈ TS := inT9 27 (by decide +kernel) (by decide +kernel)
theorem wm_12_530 : Cond.methodLink RX12 530 yX12_crossWith ∈ TS := inT9 49 (by decide +kernel) (by decide +kernel)
theorem wm_12_533 : Cond.methodLink RX12 533 yX12_noted ∈ TS := inT9 61 (by decide +kernel) (by decide +kernel)
theorem wm_12_536 : Cond.methodLink RX12 536 yX12_knownBy ∈ TS := inT9 77 (by decide +kernel) (by decide +kernel)
theorem wm_12_539 : Cond.methodLink RX12 539 yX12_isSo ∈ TS := inT9 85 (by decide +kernel) (by decide +kernel)
theorem wm_12_542 : Cond.methodLink RX12 542 yX12_fits ∈ TS := inT9 81 (by decide +kernel) (by decide +kernel)
theorem wm_12_557 : Cond.methodLink RX12 557 yX12_number1 ∈ TS := inT9 93 (by decide +kernel) (by decide +kernel)
theorem wm_12_560 : Cond.methodLink RX12 560 yX12_put ∈ TS := inT8 122 (by decide +kernel) (by decide +kernel)
theorem wm_12_563 : Cond.methodLink RX12 563 yX12_take ∈ TS := inT9 109 (by decide +kernel) (by decide +kernel)
theorem wn_0_167 : Cond.methodLinkNest RX0 167 yX11_limited "KnobHall" ∈ TS := inT4 231 (by decide +kernel) (by decide +kernel)
theorem wn_0_221 : Cond.methodLinkNest RX0 221 yX11_distance "KnobHall" ∈ TS := inT5 7 (by decide +kernel) (by decide +kernel)
theorem wn_7_102 : Cond.methodLinkNest RX7 102 yX11_placeOf "KnobHall" ∈ TS := inT3 188 (by decide +kernel) (by decide +kernel)
theorem wn_7_91 : Cond.methodLinkNest RX7 91 yX11_isWithin "KnobHall" ∈ TS := inT3 199 (by decide +kernel) (by decide +kernel)
theorem wn_10_59 : Cond.methodLinkNest RX10 59 yX11_limited "KnobHall" ∈ TS := inT4 211 (by decide +kernel) (by decide +kernel)
