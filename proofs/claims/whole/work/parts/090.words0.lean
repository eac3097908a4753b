theorem q_mem (i : Nat) {w : Cond} (h : lw_tbl[i]? = some w) (hg : q_g w = true) : w ∈ qtb := List.mem_filter.mpr ⟨List.mem_of_getElem? h, hg⟩
theorem q_memall (is : List Nat) (ws : List Cond) (h : is.map (fun i => lw_tbl[i]?) = ws.map some) (hg : ws.all q_g = true) : ∀ w ∈ ws, w ∈ qtb := by
  intro w hw
  have h1 : some w ∈ is.map (fun i => lw_tbl[i]?) := by rw [h]; exact List.mem_map.mpr ⟨w, hw, rfl⟩
  obtain ⟨i, -, hi⟩ := List.mem_map.mp h1
  exact q_mem i hi (List.all_eq_true.mp hg w hw)
set_option maxRecDepth 100000 in
theorem kX0 : okC 0 RX0 TX0 6 tyX0 := ⟨rfl, q_memall [146, 148, 150, 152, 154, 156] _ (by decide +kernel) (by decide +kernel), tyX0_ok, nmX0⟩
set_option maxRecDepth 100000 in
theorem kX1 : okC 1 RX1 TX1 0 tyX1 := ⟨rfl, q_memall [] _ (by decide +kernel) (by decide +kernel), tyX1_ok, nmX1⟩
set_option maxRecDepth 100000 in
theorem kX2 : okC 2 RX2 TX2 11 tyX2 := ⟨rfl, q_memall [201, 203, 205, 207, 209, 211, 213, 215, 217, 219, 221] _ (by decide +kernel) (by decide +kernel), tyX2_ok, nmX2⟩
set_option maxRecDepth 100000 in
theorem kX3 : okC 3 RX3 TX3 12 tyX3 := ⟨rfl, q_memall [286, 288, 290, 292, 294, 296, 298, 300, 302, 304, 306, 308] _ (by decide +kernel) (by decide +kernel), tyX3_ok, nmX3⟩
set_option maxRecDepth 100000 in
theorem kX4 : okC 4 RX4 TX4 11 tyX4 := ⟨rfl, q_memall [244, 246, 248, 250, 252, 254, 256, 258, 260, 262, 264] _ (by decide +kernel) (by decide +kernel), tyX4_ok, nmX4⟩
set_option maxRecDepth 100000 in
theorem kX5 : okC 5 RX5 TX5 0 tyX5 := ⟨rfl, q_memall [] _ (by decide +kernel) (by decide +kernel), tyX5_ok, nmX5⟩
set_option maxRecDepth 100000 in
theorem kX6 : okC 6 RX6 TX6 0 tyX6 := ⟨rfl, q_memall [] _ (by decide +kernel) (by decide +kernel), tyX6_ok, nmX6⟩
set_option maxRecDepth 100000 in
theorem kX7 : okC 7 RX7 TX7 0 tyX7 := ⟨rfl, q_memall [] _ (by decide +kernel) (by decide +kernel), tyX7_ok, nmX7⟩
set_option maxRecDepth 100000 in
theorem kX8 : okC 8 RX8 TX8 3 tyX8 := ⟨rfl, q_memall [170, 172, 174] _ (by decide +kernel) (by decide +kernel), tyX8_ok, nmX8⟩
set_option maxRecDepth 100000 in
theorem kX9 : okC 9 RX9 TX9 0 tyX9 := ⟨rfl, q_memall [] _ (by decide +kernel) (by decide +kernel), tyX9_ok, nmX9⟩
set_option maxRecDepth 100000 in
theorem kX10 : okC 10 RX10 TX10 0 tyX10 := ⟨rfl, q_memall [] _ (by decide +kernel) (by decide +kernel), tyX10_ok, nmX10⟩
set_option maxRecDepth 100000 in
theorem kX11 : okC 11 RX11 TX11 10 tyX11 := ⟨rfl, q_memall [321, 323, 325, 327, 329, 331, 333, 335, 337, 339] _ (by decide +kernel) (by decide +kernel), tyX11_ok, nmX11⟩
set_option maxRecDepth 100000 in
theorem kX12 : okC 12 RX12 TX12 23 tyX12 := ⟨rfl, q_memall [1004, 1006, 1008, 1010, 1012, 1014, 1016, 1018, 1020, 1022, 1024, 1026, 1028, 1030, 1032, 1034, 1036, 1038, 1040, 1042, 1044, 1046, 1048] _ (by decide +kernel) (by decide +kernel), tyX12_ok, nmX12⟩
set_option maxRecDepth 100000 in
theorem fX0_11 : okF RX0 11 0 0 (.array .int) true := ⟨RX0, TX0, 6, tyX0, kX0, by decide, (q_mem 139 (by decide +kernel) rfl), rfl, rfl, rfl⟩
set_option maxRecDepth 100000 in
theorem fX0_15 : okF RX0 15 0 1 (.int) false := ⟨RX0, TX0, 6, tyX0, kX0, by decide, (q_mem 140 (by decide +kernel) rfl), rfl, rfl, rfl⟩
set_option maxRecDepth 100000 in
theorem fX11_229 : okF RX11 229 0 1 (.int) false := ⟨RX0, TX0, 6, tyX0, kX0, by decide, (q_mem 141 (by decide +kernel) rfl), rfl, rfl, rfl⟩
set_option maxRecDepth 100000 in
theorem fX0_19 : okF RX0 19 0 2 (.array .int) true := ⟨RX0, TX0, 6, tyX0, kX0, by decide, (q_mem 142 (by decide +kernel) rfl), rfl, rfl, rfl⟩
set_option maxRecDepth 100000 in
theorem fX0_22 : okF RX0 22 0 3 (.array .int) true := ⟨RX0, TX0, 6, tyX0, kX0, by decide, (q_mem 143 (by decide +kernel) rfl), rfl, rfl, rfl⟩
set_option maxRecDepth 100000 in
theorem fX0_25 : okF RX0 25 0 4 (.array .int) true := ⟨RX0, TX0, 6, tyX0, kX0, by decide, (q_mem 144 (by decide +kernel) rfl), rfl, rfl, rfl⟩
set_option maxRecDepth 100000 in
theorem fX0_28 : okF RX0 28 0 5 (.array .int) true := ⟨RX0, TX0, 6, tyX0, kX0, by decide, (q_mem 145 (by decide +kernel) rfl), rfl, rfl, rfl⟩
set_option maxRecDepth 100000 in
theorem fX8_11 : okF RX8 11 8 0 (.array .int) true := ⟨RX8, TX8, 3, tyX8, kX8, by decide, (q_mem 166 (by decide +kernel) rfl), rfl, rfl, rfl⟩
set_option maxRecDepth 100000 in
theorem fX8_15 : okF RX8 15 8 1 (.array .int) true := ⟨RX8, TX8, 3, tyX8, kX8, by decide, (q_mem 167 (by decide +kernel) rfl), rfl, rfl, rfl⟩
set_option maxRecDepth 100000 in
theorem fX11_232 : okF RX11 232 8 1 (.array .int) true := ⟨RX8, TX8, 3, tyX8, kX8, by decide, (q_mem 168 (by decide +kernel) rfl), rfl, rfl, rfl⟩
set_option maxRecDepth 100000 in
theorem fX8_18 : okF RX8 18 8 2 (.array .int) true := ⟨RX8, TX8, 3, tyX8, kX8, by decide, (q_mem 169 (by decide +kernel) rfl), rfl, rfl, rfl⟩
set_option maxRecDepth 100000 in
theorem fX2_27 : okF RX2 27 2 0 (.array (.object "NettleShirts$PlotKind")) true := ⟨RX2, TX2, 11, tyX2, kX2, by decide, (q_mem 177 (by decide +kernel) rfl), rfl, rfl, rfl⟩
set_option maxRecDepth 100000 in
theorem fX4_58 : okF RX4 58 2 0 (.array (.object "NettleShirts$PlotKind")) true := ⟨RX2, TX2, 11, tyX2, kX2, by decide, (q_mem 178 (by decide +kernel) rfl), rfl, rfl, rfl⟩
set_option maxRecDepth 100000 in
theorem fX2_33 : okF RX2 33 2 1 (.array .int) true := ⟨RX2, TX2, 11, tyX2, kX2, by decide, (q_mem 179 (by decide +kernel) rfl), rfl, rfl, rfl⟩
set_option maxRecDepth 100000 in
theorem fX4_62 : okF RX4 62 2 1 (.array .int) true := ⟨RX2, TX2, 11, tyX2, kX2, by decide, (q_mem 180 (by decide +kernel) rfl), rfl, rfl, rfl⟩
set_option maxRecDepth 100000 in
theorem fX2_37 : okF RX2 37 2 2 (.array .int) true := ⟨RX2, TX2, 11, tyX2, kX2, by decide, (q_mem 181 (by decide +kernel) rfl), rfl, rfl, rfl⟩
set_option maxRecDepth 100000 in
theorem fX2_40 : okF RX2 40 2 3 (.array .int) true := ⟨RX2, TX2, 11, tyX2, kX2, by decide, (q_mem 182 (by decide +kernel) rfl), rfl, rfl, rfl⟩
set_option maxRecDepth 100000 in
theorem fX2_43 : okF RX2 43 2 4 (.int) false := ⟨RX2, TX2, 11, tyX2, kX2, by decide, (q_mem 183 (by decide +kernel) rfl), rfl, rfl, rfl⟩
set_option maxRecDepth 100000 in
theorem fX4_55 : okF RX4 55 2 4 (.int) false := ⟨RX2, TX2, 11, tyX2, kX2, by decide, (q_mem 184 (by decide +kernel) rfl), rfl, rfl, rfl⟩
set_option maxRecDepth 100000 in
theorem fX11_220 : okF RX11 220 2 4 (.int) false := ⟨RX2, TX2, 11, tyX2, kX2, by decide, (q_mem 185 (by decide +kernel) rfl), rfl, rfl, rfl⟩
set_option maxRecDepth 100000 in
theorem fX2_47 : okF RX2 47 2 5 (.int) false := ⟨RX2, TX2, 11, tyX2, kX2, by decide, (q_mem 186 (by decide +kernel) rfl), rfl, rfl, rfl⟩
set_option maxRecDepth 100000 in
theorem fX4_114 : okF RX4 114 2 5 (.int) false := ⟨RX2, TX2, 11, tyX2, kX2, by decide, (q_mem 187 (by decide +kernel) rfl), rfl, rfl, rfl⟩
set_option maxRecDepth 100000 in
theorem fX11_223 : okF RX11 223 2 5 (.int) false := ⟨RX2, TX2, 11, tyX2, kX2, by decide, (q_mem 188 (by decide +kernel) rfl), rfl, rfl, rfl⟩
set_option maxRecDepth 100000 in
theorem fX2_50 : okF RX2 50 2 6 (.array .int) true := ⟨RX2, TX2, 11, tyX2, kX2, by decide, (q_mem 189 (by decide +kernel) rfl), rfl, rfl, rfl⟩
set_option maxRecDepth 100000 in
theorem fX4_65 : okF RX4 65 2 6 (.array .int) true := ⟨RX2, TX2, 11, tyX2, kX2, by decide, (q_mem 190 (by decide +kernel) rfl), rfl, rfl, rfl⟩
set_option maxRecDepth 100000 in
theorem fX11_76 : okF RX11 76 2 6 (.array .int) true := ⟨RX2, TX2, 11, tyX2, kX2, by decide, (q_mem 191 (by decide +kernel) rfl), rfl, rfl, rfl⟩
set_option maxRecDepth 100000 in
theorem fX2_53 : okF RX2 53 2 7 (.array .int) true := ⟨RX2, TX2, 11, tyX2, kX2, by decide, (q_mem 192 (by decide +kernel) rfl), rfl, rfl, rfl⟩
set_option maxRecDepth 100000 in
theorem fX2_56 : okF RX2 56 2 8 (.int) false := ⟨RX2, TX2, 11, tyX2, kX2, by decide, (q_mem 193 (by decide +kernel) rfl), rfl, rfl, rfl⟩
set_option maxRecDepth 100000 in
theorem fX11_226 : okF RX11 226 2 8 (.int) false := ⟨RX2, TX2, 11, tyX2, kX2, by decide, (q_mem 194 (by decide +kernel) rfl), rfl, rfl, rfl⟩
set_option maxRecDepth 100000 in
theorem fX2_62 : okF RX2 62 2 9 (.object "NettleShirts$Day") true := ⟨RX2, TX2, 11, tyX2, kX2, by decide, (q_mem 195 (by decide +kernel) rfl), rfl, rfl, rfl⟩
set_option maxRecDepth 100000 in
theorem fX3_81 : okF RX3 81 2 9 (.object "NettleShirts$Day") true := ⟨RX2, TX2, 11, tyX2, kX2, by decide, (q_mem 196 (by decide +kernel) rfl), rfl, rfl, rfl⟩
set_option maxRecDepth 100000 in
theorem fX11_133 : okF RX11 133 2 9 (.object "NettleShirts$Day") true := ⟨RX2, TX2, 11, tyX2, kX2, by decide, (q_mem 197 (by decide +kernel) rfl), rfl, rfl, rfl⟩
set_option maxRecDepth 100000 in
theorem fX2_69 : okF RX2 69 2 10 (.object "NettleShirts$Trial") true := ⟨RX2, TX2, 11, tyX2, kX2, by decide, (q_mem 198 (by decide +kernel) rfl), rfl, rfl, rfl⟩
set_option maxRecDepth 100000 in
theorem fX3_72 : okF RX3 72 2 10 (.object "NettleShirts$Trial") true := ⟨RX2, TX2, 11, tyX2, kX2, by decide, (q_mem 199 (by decide +kernel) rfl), rfl, rfl, rfl⟩
set_option maxRecDepth 100000 in
theorem fX11_169 : okF RX11 169 2 10 (.object "NettleShirts$Trial") true := ⟨RX2, TX2, 11, tyX2, kX2, by decide, (q_mem 200 (by decide +kernel) rfl), rfl, rfl, rfl⟩
set_option maxRecDepth 100000 in
theorem fX4_13 : okF RX4 13 4 0 (.array (.array .int)) true := ⟨RX4, TX4, 11, tyX4, kX4, by decide, (q_mem 233 (by decide +kernel) rfl), rfl, rfl, rfl⟩
set_option maxRecDepth 100000 in
theorem fX4_18 : okF RX4 18 4 1 (.array .int) true := ⟨RX4, TX4, 11, tyX4, kX4, by decide, (q_mem 234 (by decide +kernel) rfl), rfl, rfl, rfl⟩
set_option maxRecDepth 100000 in
theorem fX4_22 : okF RX4 22 4 2 (.array .int) true := ⟨RX4, TX4, 11, tyX4, kX4, by decide, (q_mem 235 (by decide +kernel) rfl), rfl, rfl, rfl⟩
set_option maxRecDepth 100000 in
theorem fX4_25 : okF RX4 25 4 3 (.array .int) true := ⟨RX4, TX4, 11, tyX4, kX4, by decide, (q_mem 236 (by decide +kernel) rfl), rfl, rfl, rfl⟩
set_option maxRecDepth 100000 in
theorem fX4_28 : okF RX4 28 4 4 (.int) false := ⟨RX4, TX4, 11, tyX4, kX4, by decide, (q_mem 237 (by decide +kernel) rfl), rfl, rfl, rfl⟩
set_option maxRecDepth 100000 in
theorem fX4_32 : okF RX4 32 4 5 (.int) false := ⟨RX4, TX4, 11, tyX4, kX4, by decide, (q_mem 238 (by decide +kernel) rfl), rfl, rfl, rfl⟩
set_option maxRecDepth 100000 in
theorem fX4_35 : okF RX4 35 4 6 (.int) false := ⟨RX4, TX4, 11, tyX4, kX4, by decide, (q_mem 239 (by decide +kernel) rfl), rfl, rfl, rfl⟩
set_option maxRecDepth 100000 in
theorem fX4_38 : okF RX4 38 4 7 (.int) false := ⟨RX4, TX4, 11, tyX4, kX4, by decide, (q_mem 240 (by decide +kernel) rfl), rfl, rfl, rfl⟩
set_option maxRecDepth 100000 in
theorem fX4_41 : okF RX4 41 4 8 (.boolean) false := ⟨RX4, TX4, 11, tyX4, kX4, by decide, (q_mem 241 (by decide +kernel) rfl), rfl, rfl, rfl⟩
set_option maxRecDepth 100000 in
theorem fX4_45 : okF RX4 45 4 9 (.int) false := ⟨RX4, TX4, 11, tyX4, kX4, by decide, (q_mem 242 (by decide +kernel) rfl), rfl, rfl, rfl⟩
set_option maxRecDepth 100000 in
theorem fX4_48 : okF RX4 48 4 10 (.int) false := ⟨RX4, TX4, 11, tyX4, kX4, by decide, (q_mem 243 (by decide +kernel) rfl), rfl, rfl, rfl⟩
set_option maxRecDepth 100000 in
theorem fX3_11 : okF RX3 11 3 0 (.array .int) true := ⟨RX3, TX3, 12, tyX3, kX3, by decide, (q_mem 273 (by decide +kernel) rfl), rfl, rfl, rfl⟩
set_option maxRecDepth 100000 in
theorem fX3_15 : okF RX3 15 3 1 (.int) false := ⟨RX3, TX3, 12, tyX3, kX3, by decide, (q_mem 274 (by decide +kernel) rfl), rfl, rfl, rfl⟩
set_option maxRecDepth 100000 in
theorem fX11_235 : okF RX11 235 3 1 (.int) false := ⟨RX3, TX3, 12, tyX3, kX3, by decide, (q_mem 275 (by decide +kernel) rfl), rfl, rfl, rfl⟩
set_option maxRecDepth 100000 in
theorem fX3_19 : okF RX3 19 3 2 (.int) false := ⟨RX3, TX3, 12, tyX3, kX3, by decide, (q_mem 276 (by decide +kernel) rfl), rfl, rfl, rfl⟩
set_option maxRecDepth 100000 in
theorem fX3_22 : okF RX3 22 3 3 (.int) false := ⟨RX3, TX3, 12, tyX3, kX3, by decide, (q_mem 277 (by decide +kernel) rfl), rfl, rfl, rfl⟩
set_option maxRecDepth 100000 in
theorem fX3_25 : okF RX3 25 3 4 (.int) false := ⟨RX3, TX3, 12, tyX3, kX3, by decide, (q_mem 278 (by decide +kernel) rfl), rfl, rfl, rfl⟩
set_option maxRecDepth 100000 in
theorem fX3_28 : okF RX3 28 3 5 (.int) false := ⟨RX3, TX3, 12, tyX3, kX3, by decide, (q_mem 279 (by decide +kernel) rfl), rfl, rfl, rfl⟩
set_option maxRecDepth 100000 in
theorem fX3_31 : okF RX3 31 3 6 (.int) false := ⟨RX3, TX3, 12, tyX3, kX3, by decide, (q_mem 280 (by decide +kernel) rfl), rfl, rfl, rfl⟩
set_option maxRecDepth 100000 in
theorem fX3_34 : okF RX3 34 3 7 (.int) false := ⟨RX3, TX3, 12, tyX3, kX3, by decide, (q_mem 281 (by decide +kernel) rfl), rfl, rfl, rfl⟩
set_option maxRecDepth 100000 in
theorem fX3_37 : okF RX3 37 3 8 (.int) false := ⟨RX3, TX3, 12, tyX3, kX3, by decide, (q_mem 282 (by decide +kernel) rfl), rfl, rfl, rfl⟩
set_option maxRecDepth 100000 in
theorem fX3_40 : okF RX3 40 3 9 (.int) false := ⟨RX3, TX3, 12, tyX3, kX3, by decide, (q_mem 283 (by decide +kernel) rfl), rfl, rfl, rfl⟩
set_option maxRecDepth 100000 in
theorem fX3_43 : okF RX3 43 3 10 (.int) false := ⟨RX3, TX3, 12, tyX3, kX3, by decide, (q_mem 284 (by decide +kernel) rfl), rfl, rfl, rfl⟩
set_option maxRecDepth 100000 in
theorem fX3_46 : okF RX3 46 3 11 (.int) false := ⟨RX3, TX3, 12, tyX3, kX3, by decide, (q_mem 285 (by decide +kernel) rfl), rfl, rfl, rfl⟩
set_option maxRecDepth 100000 in
theorem fX11_10 : okF RX11 10 11 0 (.object "NettleShirts$Life") true := ⟨RX11, TX11, 10, tyX11, kX11, by decide, (q_mem 311 (by decide +kernel) rfl), rfl, rfl, rfl⟩
set_option maxRecDepth 100000 in
theorem fX11_16 : okF RX11 16 11 1 (.object "NettleShirts$Life") true := ⟨RX11, TX11, 10, tyX11, kX11, by decide, (q_mem 312 (by decide +kernel) rfl), rfl, rfl, rfl⟩
set_option maxRecDepth 100000 in
theorem fX11_19 : okF RX11 19 11 2 (.array (.object "NettleShirts$Life")) true := ⟨RX11, TX11, 10, tyX11, kX11, by decide, (q_mem 313 (by decide +kernel) rfl), rfl, rfl, rfl⟩
set_option maxRecDepth 100000 in
theorem fX11_26 : okF RX11 26 11 3 (.object "NettleShirts$Planner") true := ⟨RX11, TX11, 10, tyX11, kX11, by decide, (q_mem 314 (by decide +kernel) rfl), rfl, rfl, rfl⟩
set_option maxRecDepth 100000 in
theorem fX11_33 : okF RX11 33 11 4 (.object "NettleShirts$LifeText") true := ⟨RX11, TX11, 10, tyX11, kX11, by decide, (q_mem 315 (by decide +kernel) rfl), rfl, rfl, rfl⟩
set_option maxRecDepth 100000 in
theorem fX11_37 : okF RX11 37 11 5 (.long) false := ⟨RX11, TX11, 10, tyX11, kX11, by decide, (q_mem 316 (by decide +kernel) rfl), rfl, rfl, rfl⟩
set_option maxRecDepth 100000 in
theorem fX11_41 : okF RX11 41 11 6 (.long) false := ⟨RX11, TX11, 10, tyX11, kX11, by decide, (q_mem 317 (by decide +kernel) rfl), rfl, rfl, rfl⟩
set_option maxRecDepth 100000 in
theorem fX11_44 : okF RX11 44 11 7 (.int) false := ⟨RX11, TX11, 10, tyX11, kX11, by decide, (q_mem 318 (by decide +kernel) rfl), rfl, rfl, rfl⟩
set_option maxRecDepth 100000 in
theorem fX11_48 : okF RX11 48 11 8 (.int) false := ⟨RX11, TX11, 10, tyX11, kX11, by decide, (q_mem 319 (by decide +kernel) rfl), rfl, rfl, rfl⟩
set_option maxRecDepth 100000 in
theorem fX11_51 : okF RX11 51 11 9 (.int) false := ⟨RX11, TX11, 10, tyX11, kX11, by decide, (q_mem 320 (by decide +kernel) rfl), rfl, rfl, rfl⟩
set_option maxRecDepth 100000 in
theorem fX12_7 : okF RX12 7 12 0 (.array .int) true := ⟨RX12, TX12, 23, tyX12, kX12, by decide, (q_mem 981 (by decide +kernel) rfl), rfl, rfl, rfl⟩
set_option maxRecDepth 100000 in
theorem fX12_13 : okF RX12 13 12 1 (.array .int) true := ⟨RX12, TX12, 23, tyX12, kX12, by decide, (q_mem 982 (by decide +kernel) rfl), rfl, rfl, rfl⟩
set_option maxRecDepth 100000 in
theorem fX12_16 : okF RX12 16 12 2 (.array .boolean) true := ⟨RX12, TX12, 23, tyX12, kX12, by decide, (q_mem 983 (by decide +kernel) rfl), rfl, rfl, rfl⟩
set_option maxRecDepth 100000 in
theorem fX12_20 : okF RX12 20 12 3 (.array .int) true := ⟨RX12, TX12, 23, tyX12, kX12, by decide, (q_mem 984 (by decide +kernel) rfl), rfl, rfl, rfl⟩
set_option maxRecDepth 100000 in
theorem fX12_23 : okF RX12 23 12 4 (.array .int) true := ⟨RX12, TX12, 23, tyX12, kX12, by decide, (q_mem 985 (by decide +kernel) rfl), rfl, rfl, rfl⟩
set_option maxRecDepth 100000 in
theorem fX12_51 : okF RX12 51 12 5 (.boolean) false := ⟨RX12, TX12, 23, tyX12, kX12, by decide, (q_mem 986 (by decide +kernel) rfl), rfl, rfl, rfl⟩
set_option maxRecDepth 100000 in
theorem fX12_137 : okF RX12 137 12 6 (.long) false := ⟨RX12, TX12, 23, tyX12, kX12, by decide, (q_mem 987 (by decide +kernel) rfl), rfl, rfl, rfl⟩
set_option maxRecDepth 100000 in
theorem fX12_47 : okF RX12 47 12 7 (.long) false := ⟨RX12, TX12, 23, tyX12, kX12, by decide, (q_mem 988 (by decide +kernel) rfl), rfl, rfl, rfl⟩
set_option maxRecDepth 100000 in
theorem fX12_26 : okF RX12 26 12 8 (.array .int) true := ⟨RX12, TX12, 23, tyX12, kX12, by decide, (q_mem 989 (by decide +kernel) rfl), rfl, rfl, rfl⟩
set_option maxRecDepth 100000 in
theorem fX12_29 : okF RX12 29 12 9 (.array .int) true := ⟨RX12, TX12, 23, tyX12, kX12, by decide, (q_mem 990 (by decide +kernel) rfl), rfl, rfl, rfl⟩
set_option maxRecDepth 100000 in
theorem fX12_32 : okF RX12 32 12 10 (.array .int) true := ⟨RX12, TX12, 23, tyX12, kX12, by decide, (q_mem 991 (by decide +kernel) rfl), rfl, rfl, rfl⟩
set_option maxRecDepth 100000 in
theorem fX12_35 : okF RX12 35 12 11 (.array .int) true := ⟨RX12, TX12, 23, tyX12, kX12, by decide, (q_mem 992 (by decide +kernel) rfl), rfl, rfl, rfl⟩
set_option maxRecDepth 100000 in
theorem fX12_38 : okF RX12 38 12 12 (.array .int) true := ⟨RX12, TX12, 23, tyX12, kX12, by decide, (q_mem 993 (by decide +kernel) rfl), rfl, rfl, rfl⟩
set_option maxRecDepth 100000 in
theorem fX12_41 : okF RX12 41 12 13 (.array .int) true := ⟨RX12, TX12, 23, tyX12, kX12, by decide, (q_mem 994 (by decide +kernel) rfl), rfl, rfl, rfl⟩
set_option maxRecDepth 100000 in
theorem fX12_172 : okF RX12 172 12 14 (.int) false := ⟨RX12, TX12, 23, tyX12, kX12, by decide, (q_mem 995 (by decide +kernel) rfl), rfl, rfl, rfl⟩
set_option maxRecDepth 100000 in
theorem fX12_178 : okF RX12 178 12 15 (.int) false := ⟨RX12, TX12, 23, tyX12, kX12, by decide, (q_mem 996 (by decide +kernel) rfl), rfl, rfl, rfl⟩
set_option maxRecDepth 100000 in
theorem fX12_185 : okF RX12 185 12 16 (.int) false := ⟨RX12, TX12, 23, tyX12, kX12, by decide, (q_mem 997 (by decide +kernel) rfl), rfl, rfl, rfl⟩
set_option maxRecDepth 100000 in
theorem fX12_188 : okF RX12 188 12 17 (.int) false := ⟨RX12, TX12, 23, tyX12, kX12, by decide, (q_mem 998 (by decide +kernel) rfl), rfl, rfl, rfl⟩
set_option maxRecDepth 100000 in
theorem fX12_207 : okF RX12 207 12 18 (.int) false := ⟨RX12, TX12, 23, tyX12, kX12, by decide, (q_mem 999 (by decide +kernel) rfl), rfl, rfl, rfl⟩
set_option maxRecDepth 100000 in
theorem fX12_195 : okF RX12 195 12 19 (.long) false := ⟨RX12, TX12, 23, tyX12, kX12, by decide, (q_mem 1000 (by decide +kernel) rfl), rfl, rfl, rfl⟩
set_option maxRecDepth 100000 in
theorem fX12_198 : okF RX12 198 12 20 (.boolean) false := ⟨RX12, TX12, 23, tyX12, kX12, by decide, (q_mem 1001 (by decide +kernel) rfl), rfl, rfl, rfl⟩
set_option maxRecDepth 100000 in
theorem fX12_44 : okF RX12 44 12 21 (.array .int) true := ⟨RX12, TX12, 23, tyX12, kX12, by decide, (q_mem 1002 (by decide +kernel) rfl), rfl, rfl, rfl⟩
set_option maxRecDepth 100000 in
theorem fX12_222 : okF RX12 222 12 22 (.int) false := ⟨RX12, TX12, 23, tyX12, kX12, by decide, (q_mem 1003 (by decide +kernel) rfl), rfl, rfl, rfl⟩
set_option maxRecDepth 100000 in
theorem bX11_init : okB mX11_init 0 := ⟨(q_mem 80 (by decide +kernel) rfl), (q_mem 55 (by decide +kernel) rfl), by decide +kernel, by decide +kernel, by decide +kernel, by decide⟩
set_option maxRecDepth 100000 in
theorem bX11_plot : okB mX11_plot 2 := ⟨(q_mem 345 (by decide +kernel) rfl), (q_mem 55 (by decide +kernel) rfl), by decide +kernel, by decide +kernel, by decide +kernel, by decide⟩
set_option maxRecDepth 100000 in
theorem bX2_addPlot : okB mX2_addPlot 2 := ⟨(q_mem 349 (by decide +kernel) rfl), (q_mem 56 (by decide +kernel) rfl), by decide +kernel, by decide +kernel, by decide +kernel, by decide⟩
set_option maxRecDepth 100000 in
theorem bX11_counted : okB mX11_counted 1 := ⟨(q_mem 353 (by decide +kernel) rfl), (q_mem 55 (by decide +kernel) rfl), by decide +kernel, by decide +kernel, by decide +kernel, by decide⟩
set_option maxRecDepth 100000 in
theorem bX11_shirt : okB mX11_shirt 1 := ⟨(q_mem 357 (by decide +kernel) rfl), (q_mem 55 (by decide +kernel) rfl), by decide +kernel, by decide +kernel, by decide +kernel, by decide⟩
set_option maxRecDepth 100000 in
theorem bX2_addShirt : okB mX2_addShirt 1 := ⟨(q_mem 361 (by decide +kernel) rfl), (q_mem 56 (by decide +kernel) rfl), by decide +kernel, by decide +kernel, by decide +kernel, by decide⟩
set_option maxRecDepth 100000 in
theorem bX11_night : okB mX11_night 1 := ⟨(q_mem 365 (by decide +kernel) rfl), (q_mem 55 (by decide +kernel) rfl), by decide +kernel, by decide +kernel, by decide +kernel, by decide⟩
set_option maxRecDepth 100000 in
theorem bX2_passNight : okB mX2_passNight 1 := ⟨(q_mem 369 (by decide +kernel) rfl), (q_mem 56 (by decide +kernel) rfl), by decide +kernel, by decide +kernel, by decide +kernel, by decide⟩
set_option maxRecDepth 100000 in
theorem bX2_hasNight : okB mX2_hasNight 1 := ⟨(q_mem 373 (by decide +kernel) rfl), (q_mem 56 (by decide +kernel) rfl), by decide +kernel, by decide +kernel, by decide +kernel, by decide⟩
set_option maxRecDepth 100000 in
theorem bX2_hasPlot : okB mX2_hasPlot 1 := ⟨(q_mem 377 (by decide +kernel) rfl), (q_mem 56 (by decide +kernel) rfl), by decide +kernel, by decide +kernel, by decide +kernel, by decide⟩
set_option maxRecDepth 100000 in
theorem bX2_isSewing : okB mX2_isSewing 1 := ⟨(q_mem 381 (by decide +kernel) rfl), (q_mem 56 (by decide +kernel) rfl), by decide +kernel, by decide +kernel, by decide +kernel, by decide⟩
set_option maxRecDepth 100000 in
theorem bX2_pass : okB mX2_pass 2 := ⟨(q_mem 388 (by decide +kernel) rfl), (q_mem 56 (by decide +kernel) rfl), by decide +kernel, by decide +kernel, by decide +kernel, by decide⟩
set_option maxRecDepth 100000 in
theorem bX2_pick : okB mX2_pick 2 := ⟨(q_mem 392 (by decide +kernel) rfl), (q_mem 56 (by decide +kernel) rfl), by decide +kernel, by decide +kernel, by decide +kernel, by decide⟩
set_option maxRecDepth 100000 in
theorem bX5_picks : okB mX5_picks 1 := ⟨(q_mem 416 (by decide +kernel) rfl), (q_mem 57 (by decide +kernel) rfl), by decide +kernel, by decide +kernel, by decide +kernel, by decide⟩
set_option maxRecDepth 100000 in
theorem bX6_picks : okB mX6_picks 1 := ⟨(q_mem 402 (by decide +kernel) rfl), (q_mem 59 (by decide +kernel) rfl), by decide +kernel, by decide +kernel, by decide +kernel, by decide⟩
set_option maxRecDepth 100000 in
theorem bX9_picks : okB mX9_picks 1 := ⟨(q_mem 408 (by decide +kernel) rfl), (q_mem 61 (by decide +kernel) rfl), by decide +kernel, by decide +kernel, by decide +kernel, by decide⟩
set_option maxRecDepth 100000 in
theorem bX10_picks : okB mX10_picks 1 := ⟨(q_mem 414 (by decide +kernel) rfl), (q_mem 62 (by decide +kernel) rfl), by decide +kernel, by decide +kernel, by decide +kernel, by decide⟩
set_option maxRecDepth 100000 in
theorem bX5_hurts : okB mX5_hurts 0 := ⟨(q_mem 434 (by decide +kernel) rfl), (q_mem 57 (by decide +kernel) rfl), by decide +kernel, by decide +kernel, by decide +kernel, by decide⟩
set_option maxRecDepth 100000 in
theorem bX1_hurts : okB mX1_hurts 0 := ⟨(q_mem 423 (by decide +kernel) rfl), (q_mem 60 (by decide +kernel) rfl), by decide +kernel, by decide +kernel, by decide +kernel, by decide⟩
set_option maxRecDepth 100000 in
theorem bX7_hurts : okB mX7_hurts 0 := ⟨(q_mem 430 (by decide +kernel) rfl), (q_mem 58 (by decide +kernel) rfl), by decide +kernel, by decide +kernel, by decide +kernel, by decide⟩
set_option maxRecDepth 100000 in
theorem bX2_sew : okB mX2_sew 2 := ⟨(q_mem 438 (by decide +kernel) rfl), (q_mem 56 (by decide +kernel) rfl), by decide +kernel, by decide +kernel, by decide +kernel, by decide⟩
set_option maxRecDepth 100000 in
theorem bX2_partsBy : okB mX2_partsBy 1 := ⟨(q_mem 441 (by decide +kernel) rfl), (q_mem 56 (by decide +kernel) rfl), by decide +kernel, by decide +kernel, by decide +kernel, by decide⟩
set_option maxRecDepth 100000 in
theorem bX2_rest : okB mX2_rest 1 := ⟨(q_mem 445 (by decide +kernel) rfl), (q_mem 56 (by decide +kernel) rfl), by decide +kernel, by decide +kernel, by decide +kernel, by decide⟩
set_option maxRecDepth 100000 in
theorem bX5_grows : okB mX5_grows 1 := ⟨(q_mem 468 (by decide +kernel) rfl), (q_mem 57 (by decide +kernel) rfl), by decide +kernel, by decide +kernel, by decide +kernel, by decide⟩
set_option maxRecDepth 100000 in
theorem bX1_grows : okB mX1_grows 1 := ⟨(q_mem 455 (by decide +kernel) rfl), (q_mem 60 (by decide +kernel) rfl), by decide +kernel, by decide +kernel, by decide +kernel, by decide⟩
set_option maxRecDepth 100000 in
theorem bX7_grows : okB mX7_grows 1 := ⟨(q_mem 462 (by decide +kernel) rfl), (q_mem 58 (by decide +kernel) rfl), by decide +kernel, by decide +kernel, by decide +kernel, by decide⟩
set_option maxRecDepth 100000 in
theorem bX10_grows : okB mX10_grows 1 := ⟨(q_mem 466 (by decide +kernel) rfl), (q_mem 62 (by decide +kernel) rfl), by decide +kernel, by decide +kernel, by decide +kernel, by decide⟩
set_option maxRecDepth 100000 in
theorem bX11_undo : okB mX11_undo 0 := ⟨(q_mem 472 (by decide +kernel) rfl), (q_mem 55 (by decide +kernel) rfl), by decide +kernel, by decide +kernel, by decide +kernel, by decide⟩
set_option maxRecDepth 100000 in
theorem bX2_takeBack : okB mX2_takeBack 0 := ⟨(q_mem 476 (by decide +kernel) rfl), (q_mem 56 (by decide +kernel) rfl), by decide +kernel, by decide +kernel, by decide +kernel, by decide⟩
set_option maxRecDepth 100000 in
theorem bX11_nettles : okB mX11_nettles 1 := ⟨(q_mem 480 (by decide +kernel) rfl), (q_mem 55 (by decide +kernel) rfl), by decide +kernel, by decide +kernel, by decide +kernel, by decide⟩
set_option maxRecDepth 100000 in
theorem bX11_sewn : okB mX11_sewn 1 := ⟨(q_mem 485 (by decide +kernel) rfl), (q_mem 55 (by decide +kernel) rfl), by decide +kernel, by decide +kernel, by decide +kernel, by decide⟩
set_option maxRecDepth 100000 in
theorem bX2_hasShirt : okB mX2_hasShirt 1 := ⟨(q_mem 489 (by decide +kernel) rfl), (q_mem 56 (by decide +kernel) rfl), by decide +kernel, by decide +kernel, by decide +kernel, by decide⟩
set_option maxRecDepth 100000 in
theorem bX11_has : okB mX11_has 1 := ⟨(q_mem 493 (by decide +kernel) rfl), (q_mem 55 (by decide +kernel) rfl), by decide +kernel, by decide +kernel, by decide +kernel, by decide⟩
set_option maxRecDepth 100000 in
theorem bX11_plan : okB mX11_plan 2 := ⟨(q_mem 497 (by decide +kernel) rfl), (q_mem 55 (by decide +kernel) rfl), by decide +kernel, by decide +kernel, by decide +kernel, by decide⟩
set_option maxRecDepth 100000 in
theorem bX11_within : okB mX11_within 3 := ⟨(q_mem 500 (by decide +kernel) rfl), (q_mem 55 (by decide +kernel) rfl), by decide +kernel, by decide +kernel, by decide +kernel, by decide⟩
set_option maxRecDepth 100000 in
theorem bX11_badAsked : okB mX11_badAsked 0 := ⟨(q_mem 504 (by decide +kernel) rfl), (q_mem 55 (by decide +kernel) rfl), by decide +kernel, by decide +kernel, by decide +kernel, by decide⟩
set_option maxRecDepth 100000 in
theorem bX4_search : okB mX4_search 4 := ⟨(q_mem 508 (by decide +kernel) rfl), (q_mem 65 (by decide +kernel) rfl), by decide +kernel, by decide +kernel, by decide +kernel, by decide⟩
set_option maxRecDepth 100000 in
theorem bX4_begin : okB mX4_begin 2 := ⟨(q_mem 512 (by decide +kernel) rfl), (q_mem 65 (by decide +kernel) rfl), by decide +kernel, by decide +kernel, by decide +kernel, by decide⟩
set_option maxRecDepth 100000 in
theorem bX4_tryFrom : okB mX4_tryFrom 3 := ⟨(q_mem 520 (by decide +kernel) rfl), (q_mem 65 (by decide +kernel) rfl), by decide +kernel, by decide +kernel, by decide +kernel, by decide⟩
set_option maxRecDepth 100000 in
theorem bX4_isWorth : okB mX4_isWorth 3 := ⟨(q_mem 524 (by decide +kernel) rfl), (q_mem 65 (by decide +kernel) rfl), by decide +kernel, by decide +kernel, by decide +kernel, by decide⟩
set_option maxRecDepth 100000 in
theorem bJ7_fill_53178 : okB mJ7_fill_53178 2 := ⟨(q_mem 527 (by decide +kernel) rfl), (q_mem 70 (by decide +kernel) rfl), by decide +kernel, by decide +kernel, by decide +kernel, by decide⟩
set_option maxRecDepth 100000 in
theorem bX2_lacks : okB mX2_lacks 2 := ⟨(q_mem 531 (by decide +kernel) rfl), (q_mem 56 (by decide +kernel) rfl), by decide +kernel, by decide +kernel, by decide +kernel, by decide⟩
set_option maxRecDepth 100000 in
theorem bX4_mostSewable : okB mX4_mostSewable 2 := ⟨(q_mem 538 (by decide +kernel) rfl), (q_mem 65 (by decide +kernel) rfl), by decide +kernel, by decide +kernel, by decide +kernel, by decide⟩
set_option maxRecDepth 100000 in
theorem bX4_chosen : okB mX4_chosen 1 := ⟨(q_mem 546 (by decide +kernel) rfl), (q_mem 65 (by decide +kernel) rfl), by decide +kernel, by decide +kernel, by decide +kernel, by decide⟩
set_option maxRecDepth 100000 in
theorem bX11_inTime : okB mX11_inTime 3 := ⟨(q_mem 550 (by decide +kernel) rfl), (q_mem 55 (by decide +kernel) rfl), by decide +kernel, by decide +kernel, by decide +kernel, by decide⟩
set_option maxRecDepth 100000 in
theorem bX2_areShirts : okB mX2_areShirts 1 := ⟨(q_mem 554 (by decide +kernel) rfl), (q_mem 56 (by decide +kernel) rfl), by decide +kernel, by decide +kernel, by decide +kernel, by decide⟩
set_option maxRecDepth 100000 in
theorem bX11_fewest : okB mX11_fewest 1 := ⟨(q_mem 558 (by decide +kernel) rfl), (q_mem 55 (by decide +kernel) rfl), by decide +kernel, by decide +kernel, by decide +kernel, by decide⟩
set_option maxRecDepth 100000 in
theorem bX11_left : okB mX11_left 2 := ⟨(q_mem 562 (by decide +kernel) rfl), (q_mem 55 (by decide +kernel) rfl), by decide +kernel, by decide +kernel, by decide +kernel, by decide⟩
set_option maxRecDepth 100000 in
theorem bX4_behindChosen : okB mX4_behindChosen 1 := ⟨(q_mem 566 (by decide +kernel) rfl), (q_mem 65 (by decide +kernel) rfl), by decide +kernel, by decide +kernel, by decide +kernel, by decide⟩
set_option maxRecDepth 100000 in
theorem bX2_lacking : okB mX2_lacking 1 := ⟨(q_mem 570 (by decide +kernel) rfl), (q_mem 56 (by decide +kernel) rfl), by decide +kernel, by decide +kernel, by decide +kernel, by decide⟩
set_option maxRecDepth 100000 in
theorem bX2_mostLacking : okB mX2_mostLacking 1 := ⟨(q_mem 575 (by decide +kernel) rfl), (q_mem 56 (by decide +kernel) rfl), by decide +kernel, by decide +kernel, by decide +kernel, by decide⟩
set_option maxRecDepth 100000 in
theorem bX11_stings : okB mX11_stings 3 := ⟨(q_mem 579 (by decide +kernel) rfl), (q_mem 55 (by decide +kernel) rfl), by decide +kernel, by decide +kernel, by decide +kernel, by decide⟩
set_option maxRecDepth 100000 in
theorem bX11_waysOfFewer : okB mX11_waysOfFewer 3 := ⟨(q_mem 582 (by decide +kernel) rfl), (q_mem 55 (by decide +kernel) rfl), by decide +kernel, by decide +kernel, by decide +kernel, by decide⟩
set_option maxRecDepth 100000 in
theorem bX11_power : okB mX11_power 2 := ⟨(q_mem 585 (by decide +kernel) rfl), (q_mem 55 (by decide +kernel) rfl), by decide +kernel, by decide +kernel, by decide +kernel, by decide⟩
set_option maxRecDepth 100000 in
theorem bX11_commonDivisor : okB mX11_commonDivisor 2 := ⟨(q_mem 588 (by decide +kernel) rfl), (q_mem 55 (by decide +kernel) rfl), by decide +kernel, by decide +kernel, by decide +kernel, by decide⟩
set_option maxRecDepth 100000 in
theorem bX11_surest : okB mX11_surest 4 := ⟨(q_mem 592 (by decide +kernel) rfl), (q_mem 55 (by decide +kernel) rfl), by decide +kernel, by decide +kernel, by decide +kernel, by decide⟩
set_option maxRecDepth 100000 in
theorem bX11_told : okB mX11_told 2 := ⟨(q_mem 596 (by decide +kernel) rfl), (q_mem 55 (by decide +kernel) rfl), by decide +kernel, by decide +kernel, by decide +kernel, by decide⟩
set_option maxRecDepth 100000 in
theorem bX2_tellBare : okB mX2_tellBare 2 := ⟨(q_mem 600 (by decide +kernel) rfl), (q_mem 56 (by decide +kernel) rfl), by decide +kernel, by decide +kernel, by decide +kernel, by decide⟩
set_option maxRecDepth 100000 in
theorem bX11_bare : okB mX11_bare 2 := ⟨(q_mem 604 (by decide +kernel) rfl), (q_mem 55 (by decide +kernel) rfl), by decide +kernel, by decide +kernel, by decide +kernel, by decide⟩
set_option maxRecDepth 100000 in
theorem bX4_bareRows : okB mX4_bareRows 2 := ⟨(q_mem 608 (by decide +kernel) rfl), (q_mem 65 (by decide +kernel) rfl), by decide +kernel, by decide +kernel, by decide +kernel, by decide⟩
set_option maxRecDepth 100000 in
theorem bX4_pickFrom : okB mX4_pickFrom 3 := ⟨(q_mem 612 (by decide +kernel) rfl), (q_mem 65 (by decide +kernel) rfl), by decide +kernel, by decide +kernel, by decide +kernel, by decide⟩
set_option maxRecDepth 100000 in
theorem bX2_isAsToldBare : okB mX2_isAsToldBare 1 := ⟨(q_mem 616 (by decide +kernel) rfl), (q_mem 56 (by decide +kernel) rfl), by decide +kernel, by decide +kernel, by decide +kernel, by decide⟩
set_option maxRecDepth 100000 in
theorem bX4_firstBare : okB mX4_firstBare 0 := ⟨(q_mem 621 (by decide +kernel) rfl), (q_mem 65 (by decide +kernel) rfl), by decide +kernel, by decide +kernel, by decide +kernel, by decide⟩
set_option maxRecDepth 100000 in
theorem bX11_sign : okB mX11_sign 1 := ⟨(q_mem 625 (by decide +kernel) rfl), (q_mem 55 (by decide +kernel) rfl), by decide +kernel, by decide +kernel, by decide +kernel, by decide⟩
set_option maxRecDepth 100000 in
theorem bX0_addSign : okB mX0_addSign 1 := ⟨(q_mem 629 (by decide +kernel) rfl), (q_mem 63 (by decide +kernel) rfl), by decide +kernel, by decide +kernel, by decide +kernel, by decide⟩
set_option maxRecDepth 100000 in
theorem bX0_isLetter : okB mX0_isLetter 1 := ⟨(q_mem 632 (by decide +kernel) rfl), (q_mem 63 (by decide +kernel) rfl), by decide +kernel, by decide +kernel, by decide +kernel, by decide⟩
set_option maxRecDepth 100000 in
theorem bX11_hush : okB mX11_hush 0 := ⟨(q_mem 636 (by decide +kernel) rfl), (q_mem 55 (by decide +kernel) rfl), by decide +kernel, by decide +kernel, by decide +kernel, by decide⟩
set_option maxRecDepth 100000 in
theorem bX0_forgetSigns : okB mX0_forgetSigns 0 := ⟨(q_mem 640 (by decide +kernel) rfl), (q_mem 63 (by decide +kernel) rfl), by decide +kernel, by decide +kernel, by decide +kernel, by decide⟩
set_option maxRecDepth 100000 in
theorem bX11_law : okB mX11_law 2 := ⟨(q_mem 644 (by decide +kernel) rfl), (q_mem 55 (by decide +kernel) rfl), by decide +kernel, by decide +kernel, by decide +kernel, by decide⟩
set_option maxRecDepth 100000 in
theorem bX0_addLawSign : okB mX0_addLawSign 2 := ⟨(q_mem 648 (by decide +kernel) rfl), (q_mem 63 (by decide +kernel) rfl), by decide +kernel, by decide +kernel, by decide +kernel, by decide⟩
set_option maxRecDepth 100000 in
theorem bX0_isLaw : okB mX0_isLaw 1 := ⟨(q_mem 651 (by decide +kernel) rfl), (q_mem 63 (by decide +kernel) rfl), by decide +kernel, by decide +kernel, by decide +kernel, by decide⟩
set_option maxRecDepth 100000 in
theorem bX11_noLaw : okB mX11_noLaw 1 := ⟨(q_mem 655 (by decide +kernel) rfl), (q_mem 55 (by decide +kernel) rfl), by decide +kernel, by decide +kernel, by decide +kernel, by decide⟩
set_option maxRecDepth 100000 in
theorem bX0_forgetLaw : okB mX0_forgetLaw 1 := ⟨(q_mem 659 (by decide +kernel) rfl), (q_mem 63 (by decide +kernel) rfl), by decide +kernel, by decide +kernel, by decide +kernel, by decide⟩
set_option maxRecDepth 100000 in
theorem bX11_word : okB mX11_word 1 := ⟨(q_mem 663 (by decide +kernel) rfl), (q_mem 55 (by decide +kernel) rfl), by decide +kernel, by decide +kernel, by decide +kernel, by decide⟩
set_option maxRecDepth 100000 in
theorem bX0_firstWord : okB mX0_firstWord 1 := ⟨(q_mem 668 (by decide +kernel) rfl), (q_mem 63 (by decide +kernel) rfl), by decide +kernel, by decide +kernel, by decide +kernel, by decide⟩
set_option maxRecDepth 100000 in
theorem bX0_step : okB mX0_step 3 := ⟨(q_mem 672 (by decide +kernel) rfl), (q_mem 63 (by decide +kernel) rfl), by decide +kernel, by decide +kernel, by decide +kernel, by decide⟩
set_option maxRecDepth 100000 in
theorem bX0_isBroken : okB mX0_isBroken 2 := ⟨(q_mem 677 (by decide +kernel) rfl), (q_mem 63 (by decide +kernel) rfl), by decide +kernel, by decide +kernel, by decide +kernel, by decide⟩
set_option maxRecDepth 100000 in
theorem bX11_silent : okB mX11_silent 0 := ⟨(q_mem 681 (by decide +kernel) rfl), (q_mem 55 (by decide +kernel) rfl), by decide +kernel, by decide +kernel, by decide +kernel, by decide⟩
set_option maxRecDepth 100000 in
theorem bX0_unbroken : okB mX0_unbroken 0 := ⟨(q_mem 685 (by decide +kernel) rfl), (q_mem 63 (by decide +kernel) rfl), by decide +kernel, by decide +kernel, by decide +kernel, by decide⟩
set_option maxRecDepth 100000 in
theorem bX11_met : okB mX11_met 2 := ⟨(q_mem 690 (by decide +kernel) rfl), (q_mem 55 (by decide +kernel) rfl), by decide +kernel, by decide +kernel, by decide +kernel, by decide⟩
set_option maxRecDepth 100000 in
theorem bX0_fewestMore : okB mX0_fewestMore 1 := ⟨(q_mem 695 (by decide +kernel) rfl), (q_mem 63 (by decide +kernel) rfl), by decide +kernel, by decide +kernel, by decide +kernel, by decide⟩
set_option maxRecDepth 100000 in
theorem bX0_reachEnd : okB mX0_reachEnd 0 := ⟨(q_mem 700 (by decide +kernel) rfl), (q_mem 63 (by decide +kernel) rfl), by decide +kernel, by decide +kernel, by decide +kernel, by decide⟩
set_option maxRecDepth 100000 in
theorem bX0_writeMore : okB mX0_writeMore 2 := ⟨(q_mem 704 (by decide +kernel) rfl), (q_mem 63 (by decide +kernel) rfl), by decide +kernel, by decide +kernel, by decide +kernel, by decide⟩
set_option maxRecDepth 100000 in
theorem bX0_keeps : okB mX0_keeps 2 := ⟨(q_mem 708 (by decide +kernel) rfl), (q_mem 63 (by decide +kernel) rfl), by decide +kernel, by decide +kernel, by decide +kernel, by decide⟩
set_option maxRecDepth 100000 in
theorem bX0_moreSign : okB mX0_moreSign 1 := ⟨(q_mem 712 (by decide +kernel) rfl), (q_mem 63 (by decide +kernel) rfl), by decide +kernel, by decide +kernel, by decide +kernel, by decide⟩
set_option maxRecDepth 100000 in
theorem bX11_show : okB mX11_show 2 := ⟨(q_mem 716 (by decide +kernel) rfl), (q_mem 55 (by decide +kernel) rfl), by decide +kernel, by decide +kernel, by decide +kernel, by decide⟩
set_option maxRecDepth 100000 in
theorem bX8_add : okB mX8_add 2 := ⟨(q_mem 720 (by decide +kernel) rfl), (q_mem 64 (by decide +kernel) rfl), by decide +kernel, by decide +kernel, by decide +kernel, by decide⟩
set_option maxRecDepth 100000 in
theorem bX11_noTrial : okB mX11_noTrial 0 := ⟨(q_mem 724 (by decide +kernel) rfl), (q_mem 55 (by decide +kernel) rfl), by decide +kernel, by decide +kernel, by decide +kernel, by decide⟩
set_option maxRecDepth 100000 in
theorem bX8_forget : okB mX8_forget 0 := ⟨(q_mem 728 (by decide +kernel) rfl), (q_mem 64 (by decide +kernel) rfl), by decide +kernel, by decide +kernel, by decide +kernel, by decide⟩
set_option maxRecDepth 100000 in
theorem bX11_lasts : okB mX11_lasts 2 := ⟨(q_mem 732 (by decide +kernel) rfl), (q_mem 55 (by decide +kernel) rfl), by decide +kernel, by decide +kernel, by decide +kernel, by decide⟩
set_option maxRecDepth 100000 in
theorem bX8_mostShown : okB mX8_mostShown 1 := ⟨(q_mem 736 (by decide +kernel) rfl), (q_mem 64 (by decide +kernel) rfl), by decide +kernel, by decide +kernel, by decide +kernel, by decide⟩
set_option maxRecDepth 100000 in
theorem bJ6_bitCount_0f7a4 : okB mJ6_bitCount_0f7a4 1 := ⟨(q_mem 739 (by decide +kernel) rfl), (q_mem 71 (by decide +kernel) rfl), by decide +kernel, by decide +kernel, by decide +kernel, by decide⟩
set_option maxRecDepth 100000 in
theorem bX8_endBehind : okB mX8_endBehind 3 := ⟨(q_mem 746 (by decide +kernel) rfl), (q_mem 64 (by decide +kernel) rfl), by decide +kernel, by decide +kernel, by decide +kernel, by decide⟩
set_option maxRecDepth 100000 in
theorem bX8_weight : okB mX8_weight 2 := ⟨(q_mem 750 (by decide +kernel) rfl), (q_mem 64 (by decide +kernel) rfl), by decide +kernel, by decide +kernel, by decide +kernel, by decide⟩
set_option maxRecDepth 100000 in
theorem bX8_firstCharge : okB mX8_firstCharge 0 := ⟨(q_mem 755 (by decide +kernel) rfl), (q_mem 64 (by decide +kernel) rfl), by decide +kernel, by decide +kernel, by decide +kernel, by decide⟩
set_option maxRecDepth 100000 in
theorem bX11_type : okB mX11_type 2 := ⟨(q_mem 759 (by decide +kernel) rfl), (q_mem 55 (by decide +kernel) rfl), by decide +kernel, by decide +kernel, by decide +kernel, by decide⟩
set_option maxRecDepth 100000 in
theorem bX3_addBytes : okB mX3_addBytes 2 := ⟨(q_mem 763 (by decide +kernel) rfl), (q_mem 66 (by decide +kernel) rfl), by decide +kernel, by decide +kernel, by decide +kernel, by decide⟩
set_option maxRecDepth 100000 in
theorem bX11_clear : okB mX11_clear 0 := ⟨(q_mem 768 (by decide +kernel) rfl), (q_mem 55 (by decide +kernel) rfl), by decide +kernel, by decide +kernel, by decide +kernel, by decide⟩
set_option maxRecDepth 100000 in
theorem bX3_forget : okB mX3_forget 0 := ⟨(q_mem 772 (by decide +kernel) rfl), (q_mem 66 (by decide +kernel) rfl), by decide +kernel, by decide +kernel, by decide +kernel, by decide⟩
set_option maxRecDepth 100000 in
theorem bX11_read : okB mX11_read 0 := ⟨(q_mem 776 (by decide +kernel) rfl), (q_mem 55 (by decide +kernel) rfl), by decide +kernel, by decide +kernel, by decide +kernel, by decide⟩
set_option maxRecDepth 100000 in
theorem bX3_fault : okB mX3_fault 0 := ⟨(q_mem 780 (by decide +kernel) rfl), (q_mem 66 (by decide +kernel) rfl), by decide +kernel, by decide +kernel, by decide +kernel, by decide⟩
set_option maxRecDepth 100000 in
theorem bX3_takeToken : okB mX3_takeToken 0 := ⟨(q_mem 784 (by decide +kernel) rfl), (q_mem 66 (by decide +kernel) rfl), by decide +kernel, by decide +kernel, by decide +kernel, by decide⟩
set_option maxRecDepth 100000 in
theorem bX3_signOf : okB mX3_signOf 1 := ⟨(q_mem 787 (by decide +kernel) rfl), (q_mem 66 (by decide +kernel) rfl), by decide +kernel, by decide +kernel, by decide +kernel, by decide⟩
set_option maxRecDepth 100000 in
theorem bX3_takeWord : okB mX3_takeWord 0 := ⟨(q_mem 791 (by decide +kernel) rfl), (q_mem 66 (by decide +kernel) rfl), by decide +kernel, by decide +kernel, by decide +kernel, by decide⟩
set_option maxRecDepth 100000 in
theorem bX3_isFigure : okB mX3_isFigure 1 := ⟨(q_mem 794 (by decide +kernel) rfl), (q_mem 66 (by decide +kernel) rfl), by decide +kernel, by decide +kernel, by decide +kernel, by decide⟩
set_option maxRecDepth 100000 in
theorem bX3_takeNumber : okB mX3_takeNumber 0 := ⟨(q_mem 798 (by decide +kernel) rfl), (q_mem 66 (by decide +kernel) rfl), by decide +kernel, by decide +kernel, by decide +kernel, by decide⟩
set_option maxRecDepth 100000 in
theorem bX3_takeItem : okB mX3_takeItem 0 := ⟨(q_mem 802 (by decide +kernel) rfl), (q_mem 66 (by decide +kernel) rfl), by decide +kernel, by decide +kernel, by decide +kernel, by decide⟩
set_option maxRecDepth 100000 in
theorem bX3_itemNamed : okB mX3_itemNamed 0 := ⟨(q_mem 806 (by decide +kernel) rfl), (q_mem 66 (by decide +kernel) rfl), by decide +kernel, by decide +kernel, by decide +kernel, by decide⟩
set_option maxRecDepth 100000 in
theorem bX3_name : okB mX3_name 1 := ⟨(q_mem 809 (by decide +kernel) rfl), (q_mem 66 (by decide +kernel) rfl), by decide +kernel, by decide +kernel, by decide +kernel, by decide⟩
set_option maxRecDepth 100000 in
theorem bX3_isTaken : okB mX3_isTaken 1 := ⟨(q_mem 819 (by decide +kernel) rfl), (q_mem 66 (by decide +kernel) rfl), by decide +kernel, by decide +kernel, by decide +kernel, by decide⟩
set_option maxRecDepth 100000 in
theorem bX3_form : okB mX3_form 1 := ⟨(q_mem 870 (by decide +kernel) rfl), (q_mem 66 (by decide +kernel) rfl), by decide +kernel, by decide +kernel, by decide +kernel, by decide⟩
set_option maxRecDepth 100000 in
theorem bX3_stands : okB mX3_stands 1 := ⟨(q_mem 878 (by decide +kernel) rfl), (q_mem 66 (by decide +kernel) rfl), by decide +kernel, by decide +kernel, by decide +kernel, by decide⟩
set_option maxRecDepth 100000 in
theorem bX3_standsWord : okB mX3_standsWord 2 := ⟨(q_mem 882 (by decide +kernel) rfl), (q_mem 66 (by decide +kernel) rfl), by decide +kernel, by decide +kernel, by decide +kernel, by decide⟩
set_option maxRecDepth 100000 in
theorem bX2_empty : okB mX2_empty 0 := ⟨(q_mem 886 (by decide +kernel) rfl), (q_mem 56 (by decide +kernel) rfl), by decide +kernel, by decide +kernel, by decide +kernel, by decide⟩
set_option maxRecDepth 100000 in
theorem bX0_empty : okB mX0_empty 0 := ⟨(q_mem 891 (by decide +kernel) rfl), (q_mem 63 (by decide +kernel) rfl), by decide +kernel, by decide +kernel, by decide +kernel, by decide⟩
set_option maxRecDepth 100000 in
theorem bX3_tell : okB mX3_tell 1 := ⟨(q_mem 897 (by decide +kernel) rfl), (q_mem 66 (by decide +kernel) rfl), by decide +kernel, by decide +kernel, by decide +kernel, by decide⟩
set_option maxRecDepth 100000 in
theorem bX3_tellItem : okB mX3_tellItem 1 := ⟨(q_mem 901 (by decide +kernel) rfl), (q_mem 66 (by decide +kernel) rfl), by decide +kernel, by decide +kernel, by decide +kernel, by decide⟩
set_option maxRecDepth 100000 in
theorem bX3_tellSigns : okB mX3_tellSigns 1 := ⟨(q_mem 908 (by decide +kernel) rfl), (q_mem 66 (by decide +kernel) rfl), by decide +kernel, by decide +kernel, by decide +kernel, by decide⟩
set_option maxRecDepth 100000 in
theorem bX2_become : okB mX2_become 1 := ⟨(q_mem 914 (by decide +kernel) rfl), (q_mem 56 (by decide +kernel) rfl), by decide +kernel, by decide +kernel, by decide +kernel, by decide⟩
set_option maxRecDepth 100000 in
theorem bX0_become : okB mX0_become 1 := ⟨(q_mem 918 (by decide +kernel) rfl), (q_mem 63 (by decide +kernel) rfl), by decide +kernel, by decide +kernel, by decide +kernel, by decide⟩
set_option maxRecDepth 100000 in
theorem bX8_become : okB mX8_become 1 := ⟨(q_mem 923 (by decide +kernel) rfl), (q_mem 64 (by decide +kernel) rfl), by decide +kernel, by decide +kernel, by decide +kernel, by decide⟩
set_option maxRecDepth 100000 in
theorem bX3_items : okB mX3_items 0 := ⟨(q_mem 928 (by decide +kernel) rfl), (q_mem 66 (by decide +kernel) rfl), by decide +kernel, by decide +kernel, by decide +kernel, by decide⟩
set_option maxRecDepth 100000 in
theorem bX11_part : okB mX11_part 1 := ⟨(q_mem 933 (by decide +kernel) rfl), (q_mem 55 (by decide +kernel) rfl), by decide +kernel, by decide +kernel, by decide +kernel, by decide⟩
set_option maxRecDepth 100000 in
theorem bX11_image : okB mX11_image 1 := ⟨(q_mem 937 (by decide +kernel) rfl), (q_mem 55 (by decide +kernel) rfl), by decide +kernel, by decide +kernel, by decide +kernel, by decide⟩
set_option maxRecDepth 100000 in
theorem bX11_from : okB mX11_from 1 := ⟨(q_mem 941 (by decide +kernel) rfl), (q_mem 55 (by decide +kernel) rfl), by decide +kernel, by decide +kernel, by decide +kernel, by decide⟩
set_option maxRecDepth 100000 in
theorem bX11_status : okB mX11_status 1 := ⟨(q_mem 945 (by decide +kernel) rfl), (q_mem 55 (by decide +kernel) rfl), by decide +kernel, by decide +kernel, by decide +kernel, by decide⟩
set_option maxRecDepth 100000 in
theorem bX11_count : okB mX11_count 1 := ⟨(q_mem 949 (by decide +kernel) rfl), (q_mem 55 (by decide +kernel) rfl), by decide +kernel, by decide +kernel, by decide +kernel, by decide⟩
set_option maxRecDepth 100000 in
theorem bX11_amount : okB mX11_amount 1 := ⟨(q_mem 953 (by decide +kernel) rfl), (q_mem 55 (by decide +kernel) rfl), by decide +kernel, by decide +kernel, by decide +kernel, by decide⟩
set_option maxRecDepth 100000 in
theorem bX11_digest : okB mX11_digest 0 := ⟨(q_mem 957 (by decide +kernel) rfl), (q_mem 55 (by decide +kernel) rfl), by decide +kernel, by decide +kernel, by decide +kernel, by decide⟩
set_option maxRecDepth 100000 in
theorem bX2_mixed : okB mX2_mixed 1 := ⟨(q_mem 963 (by decide +kernel) rfl), (q_mem 56 (by decide +kernel) rfl), by decide +kernel, by decide +kernel, by decide +kernel, by decide⟩
set_option maxRecDepth 100000 in
theorem bX0_mixed : okB mX0_mixed 1 := ⟨(q_mem 968 (by decide +kernel) rfl), (q_mem 63 (by decide +kernel) rfl), by decide +kernel, by decide +kernel, by decide +kernel, by decide⟩
set_option maxRecDepth 100000 in
theorem bX8_mixed : okB mX8_mixed 1 := ⟨(q_mem 973 (by decide +kernel) rfl), (q_mem 64 (by decide +kernel) rfl), by decide +kernel, by decide +kernel, by decide +kernel, by decide⟩
set_option maxRecDepth 100000 in
theorem bX12_init : okB mX12_init 0 := ⟨(q_mem 979 (by decide +kernel) rfl), (q_mem 67 (by decide +kernel) rfl), by decide +kernel, by decide +kernel, by decide +kernel, by decide⟩
set_option maxRecDepth 100000 in
theorem bX12_plot : okB mX12_plot 2 := ⟨(q_mem 1055 (by decide +kernel) rfl), (q_mem 67 (by decide +kernel) rfl), by decide +kernel, by decide +kernel, by decide +kernel, by decide⟩
set_option maxRecDepth 100000 in
theorem bX12_in : okB mX12_in 3 := ⟨(q_mem 1059 (by decide +kernel) rfl), (q_mem 67 (by decide +kernel) rfl), by decide +kernel, by decide +kernel, by decide +kernel, by decide⟩
set_option maxRecDepth 100000 in
theorem bX12_bad : okB mX12_bad 0 := ⟨(q_mem 1064 (by decide +kernel) rfl), (q_mem 67 (by decide +kernel) rfl), by decide +kernel, by decide +kernel, by decide +kernel, by decide⟩
set_option maxRecDepth 100000 in
theorem bX12_refuses : okB mX12_refuses 2 := ⟨(q_mem 1068 (by decide +kernel) rfl), (q_mem 67 (by decide +kernel) rfl), by decide +kernel, by decide +kernel, by decide +kernel, by decide⟩
set_option maxRecDepth 100000 in
theorem bX12_full : okB mX12_full 0 := ⟨(q_mem 1072 (by decide +kernel) rfl), (q_mem 67 (by decide +kernel) rfl), by decide +kernel, by decide +kernel, by decide +kernel, by decide⟩
set_option maxRecDepth 100000 in
theorem bX12_shirt : okB mX12_shirt 1 := ⟨(q_mem 1076 (by decide +kernel) rfl), (q_mem 67 (by decide +kernel) rfl), by decide +kernel, by decide +kernel, by decide +kernel, by decide⟩
set_option maxRecDepth 100000 in
theorem bX12_night : okB mX12_night 1 := ⟨(q_mem 1081 (by decide +kernel) rfl), (q_mem 67 (by decide +kernel) rfl), by decide +kernel, by decide +kernel, by decide +kernel, by decide⟩
set_option maxRecDepth 100000 in
theorem bX12_isNight : okB mX12_isNight 1 := ⟨(q_mem 1085 (by decide +kernel) rfl), (q_mem 67 (by decide +kernel) rfl), by decide +kernel, by decide +kernel, by decide +kernel, by decide⟩
set_option maxRecDepth 100000 in
theorem bX12_isPlot : okB mX12_isPlot 1 := ⟨(q_mem 1089 (by decide +kernel) rfl), (q_mem 67 (by decide +kernel) rfl), by decide +kernel, by decide +kernel, by decide +kernel, by decide⟩
set_option maxRecDepth 100000 in
theorem bX12_isShirt : okB mX12_isShirt 1 := ⟨(q_mem 1093 (by decide +kernel) rfl), (q_mem 67 (by decide +kernel) rfl), by decide +kernel, by decide +kernel, by decide +kernel, by decide⟩
set_option maxRecDepth 100000 in
theorem bX12_asNow : okB mX12_asNow 0 := ⟨(q_mem 1097 (by decide +kernel) rfl), (q_mem 67 (by decide +kernel) rfl), by decide +kernel, by decide +kernel, by decide +kernel, by decide⟩
set_option maxRecDepth 100000 in
theorem bX12_goes : okB mX12_goes 1 := ⟨(q_mem 1101 (by decide +kernel) rfl), (q_mem 67 (by decide +kernel) rfl), by decide +kernel, by decide +kernel, by decide +kernel, by decide⟩
set_option maxRecDepth 100000 in
theorem bX12_picks : okB mX12_picks 2 := ⟨(q_mem 1104 (by decide +kernel) rfl), (q_mem 67 (by decide +kernel) rfl), by decide +kernel, by decide +kernel, by decide +kernel, by decide⟩
set_option maxRecDepth 100000 in
theorem bX12_lesser : okB mX12_lesser 2 := ⟨(q_mem 1107 (by decide +kernel) rfl), (q_mem 67 (by decide +kernel) rfl), by decide +kernel, by decide +kernel, by decide +kernel, by decide⟩
set_option maxRecDepth 100000 in
theorem bX12_hurts : okB mX12_hurts 1 := ⟨(q_mem 1110 (by decide +kernel) rfl), (q_mem 67 (by decide +kernel) rfl), by decide +kernel, by decide +kernel, by decide +kernel, by decide⟩
set_option maxRecDepth 100000 in
theorem bX12_grows : okB mX12_grows 2 := ⟨(q_mem 1113 (by decide +kernel) rfl), (q_mem 67 (by decide +kernel) rfl), by decide +kernel, by decide +kernel, by decide +kernel, by decide⟩
set_option maxRecDepth 100000 in
theorem bX12_undo : okB mX12_undo 0 := ⟨(q_mem 1117 (by decide +kernel) rfl), (q_mem 67 (by decide +kernel) rfl), by decide +kernel, by decide +kernel, by decide +kernel, by decide⟩
set_option maxRecDepth 100000 in
theorem bX12_no : okB mX12_no 0 := ⟨(q_mem 1121 (by decide +kernel) rfl), (q_mem 67 (by decide +kernel) rfl), by decide +kernel, by decide +kernel, by decide +kernel, by decide⟩
set_option maxRecDepth 100000 in
theorem bX12_nettles : okB mX12_nettles 1 := ⟨(q_mem 1125 (by decide +kernel) rfl), (q_mem 67 (by decide +kernel) rfl), by decide +kernel, by decide +kernel, by decide +kernel, by decide⟩
set_option maxRecDepth 100000 in
theorem bX12_sewn : okB mX12_sewn 1 := ⟨(q_mem 1129 (by decide +kernel) rfl), (q_mem 67 (by decide +kernel) rfl), by decide +kernel, by decide +kernel, by decide +kernel, by decide⟩
set_option maxRecDepth 100000 in
theorem bX12_has : okB mX12_has 1 := ⟨(q_mem 1133 (by decide +kernel) rfl), (q_mem 67 (by decide +kernel) rfl), by decide +kernel, by decide +kernel, by decide +kernel, by decide⟩
set_option maxRecDepth 100000 in
theorem bX12_plan : okB mX12_plan 2 := ⟨(q_mem 1137 (by decide +kernel) rfl), (q_mem 67 (by decide +kernel) rfl), by decide +kernel, by decide +kernel, by decide +kernel, by decide⟩
set_option maxRecDepth 100000 in
theorem bX12_plans : okB mX12_plans 2 := ⟨(q_mem 1141 (by decide +kernel) rfl), (q_mem 67 (by decide +kernel) rfl), by decide +kernel, by decide +kernel, by decide +kernel, by decide⟩
set_option maxRecDepth 100000 in
theorem bX12_areSewn : okB mX12_areSewn 1 := ⟨(q_mem 1147 (by decide +kernel) rfl), (q_mem 67 (by decide +kernel) rfl), by decide +kernel, by decide +kernel, by decide +kernel, by decide⟩
set_option maxRecDepth 100000 in
theorem bX12_inTime : okB mX12_inTime 3 := ⟨(q_mem 1151 (by decide +kernel) rfl), (q_mem 67 (by decide +kernel) rfl), by decide +kernel, by decide +kernel, by decide +kernel, by decide⟩
set_option maxRecDepth 100000 in
theorem bX12_areShirts : okB mX12_areShirts 1 := ⟨(q_mem 1155 (by decide +kernel) rfl), (q_mem 67 (by decide +kernel) rfl), by decide +kernel, by decide +kernel, by decide +kernel, by decide⟩
set_option maxRecDepth 100000 in
theorem bX12_fewest : okB mX12_fewest 1 := ⟨(q_mem 1159 (by decide +kernel) rfl), (q_mem 67 (by decide +kernel) rfl), by decide +kernel, by decide +kernel, by decide +kernel, by decide⟩
set_option maxRecDepth 100000 in
theorem bX12_left : okB mX12_left 2 := ⟨(q_mem 1163 (by decide +kernel) rfl), (q_mem 67 (by decide +kernel) rfl), by decide +kernel, by decide +kernel, by decide +kernel, by decide⟩
set_option maxRecDepth 100000 in
theorem bX12_stings : okB mX12_stings 3 := ⟨(q_mem 1167 (by decide +kernel) rfl), (q_mem 67 (by decide +kernel) rfl), by decide +kernel, by decide +kernel, by decide +kernel, by decide⟩
set_option maxRecDepth 100000 in
theorem bX12_stung : okB mX12_stung 3 := ⟨(q_mem 1172 (by decide +kernel) rfl), (q_mem 67 (by decide +kernel) rfl), by decide +kernel, by decide +kernel, by decide +kernel, by decide⟩
set_option maxRecDepth 100000 in
theorem bX12_power : okB mX12_power 2 := ⟨(q_mem 1175 (by decide +kernel) rfl), (q_mem 67 (by decide +kernel) rfl), by decide +kernel, by decide +kernel, by decide +kernel, by decide⟩
set_option maxRecDepth 100000 in
theorem bX12_divisor : okB mX12_divisor 2 := ⟨(q_mem 1178 (by decide +kernel) rfl), (q_mem 67 (by decide +kernel) rfl), by decide +kernel, by decide +kernel, by decide +kernel, by decide⟩
set_option maxRecDepth 100000 in
theorem bX12_surest : okB mX12_surest 4 := ⟨(q_mem 1182 (by decide +kernel) rfl), (q_mem 67 (by decide +kernel) rfl), by decide +kernel, by decide +kernel, by decide +kernel, by decide⟩
set_option maxRecDepth 100000 in
theorem bX12_told : okB mX12_told 2 := ⟨(q_mem 1187 (by decide +kernel) rfl), (q_mem 67 (by decide +kernel) rfl), by decide +kernel, by decide +kernel, by decide +kernel, by decide⟩
set_option maxRecDepth 100000 in
theorem bX12_bare : okB mX12_bare 2 := ⟨(q_mem 1191 (by decide +kernel) rfl), (q_mem 67 (by decide +kernel) rfl), by decide +kernel, by decide +kernel, by decide +kernel, by decide⟩
set_option maxRecDepth 100000 in
theorem bX12_sign : okB mX12_sign 1 := ⟨(q_mem 1196 (by decide +kernel) rfl), (q_mem 67 (by decide +kernel) rfl), by decide +kernel, by decide +kernel, by decide +kernel, by decide⟩
set_option maxRecDepth 100000 in
theorem bX12_hush : okB mX12_hush 0 := ⟨(q_mem 1201 (by decide +kernel) rfl), (q_mem 67 (by decide +kernel) rfl), by decide +kernel, by decide +kernel, by decide +kernel, by decide⟩
set_option maxRecDepth 100000 in
theorem bX12_law : okB mX12_law 2 := ⟨(q_mem 1205 (by decide +kernel) rfl), (q_mem 67 (by decide +kernel) rfl), by decide +kernel, by decide +kernel, by decide +kernel, by decide⟩
set_option maxRecDepth 100000 in
theorem bX12_noLaw : okB mX12_noLaw 1 := ⟨(q_mem 1210 (by decide +kernel) rfl), (q_mem 67 (by decide +kernel) rfl), by decide +kernel, by decide +kernel, by decide +kernel, by decide⟩
set_option maxRecDepth 100000 in
theorem bX12_word : okB mX12_word 1 := ⟨(q_mem 1214 (by decide +kernel) rfl), (q_mem 67 (by decide +kernel) rfl), by decide +kernel, by decide +kernel, by decide +kernel, by decide⟩
set_option maxRecDepth 100000 in
theorem bX12_broken : okB mX12_broken 2 := ⟨(q_mem 1218 (by decide +kernel) rfl), (q_mem 67 (by decide +kernel) rfl), by decide +kernel, by decide +kernel, by decide +kernel, by decide⟩
set_option maxRecDepth 100000 in
theorem bX12_signAt : okB mX12_signAt 1 := ⟨(q_mem 1222 (by decide +kernel) rfl), (q_mem 67 (by decide +kernel) rfl), by decide +kernel, by decide +kernel, by decide +kernel, by decide⟩
set_option maxRecDepth 100000 in
theorem bX12_silent : okB mX12_silent 0 := ⟨(q_mem 1226 (by decide +kernel) rfl), (q_mem 67 (by decide +kernel) rfl), by decide +kernel, by decide +kernel, by decide +kernel, by decide⟩
set_option maxRecDepth 100000 in
theorem bX12_silentIn : okB mX12_silentIn 1 := ⟨(q_mem 1230 (by decide +kernel) rfl), (q_mem 67 (by decide +kernel) rfl), by decide +kernel, by decide +kernel, by decide +kernel, by decide⟩
set_option maxRecDepth 100000 in
theorem bX12_met : okB mX12_met 2 := ⟨(q_mem 1234 (by decide +kernel) rfl), (q_mem 67 (by decide +kernel) rfl), by decide +kernel, by decide +kernel, by decide +kernel, by decide⟩
set_option maxRecDepth 100000 in
theorem bX12_show : okB mX12_show 2 := ⟨(q_mem 1238 (by decide +kernel) rfl), (q_mem 67 (by decide +kernel) rfl), by decide +kernel, by decide +kernel, by decide +kernel, by decide⟩
set_option maxRecDepth 100000 in
theorem bX12_noTrial : okB mX12_noTrial 0 := ⟨(q_mem 1243 (by decide +kernel) rfl), (q_mem 67 (by decide +kernel) rfl), by decide +kernel, by decide +kernel, by decide +kernel, by decide⟩
set_option maxRecDepth 100000 in
theorem bX12_lasts : okB mX12_lasts 2 := ⟨(q_mem 1247 (by decide +kernel) rfl), (q_mem 67 (by decide +kernel) rfl), by decide +kernel, by decide +kernel, by decide +kernel, by decide⟩
set_option maxRecDepth 100000 in
theorem bX12_reckons : okB mX12_reckons 1 := ⟨(q_mem 1251 (by decide +kernel) rfl), (q_mem 67 (by decide +kernel) rfl), by decide +kernel, by decide +kernel, by decide +kernel, by decide⟩
set_option maxRecDepth 100000 in
theorem bX12_behind : okB mX12_behind 4 := ⟨(q_mem 1255 (by decide +kernel) rfl), (q_mem 67 (by decide +kernel) rfl), by decide +kernel, by decide +kernel, by decide +kernel, by decide⟩
set_option maxRecDepth 100000 in
theorem bX12_weightOf : okB mX12_weightOf 2 := ⟨(q_mem 1259 (by decide +kernel) rfl), (q_mem 67 (by decide +kernel) rfl), by decide +kernel, by decide +kernel, by decide +kernel, by decide⟩
set_option maxRecDepth 100000 in
theorem bX12_type : okB mX12_type 2 := ⟨(q_mem 1263 (by decide +kernel) rfl), (q_mem 67 (by decide +kernel) rfl), by decide +kernel, by decide +kernel, by decide +kernel, by decide⟩
set_option maxRecDepth 100000 in
theorem bX12_clear : okB mX12_clear 0 := ⟨(q_mem 1269 (by decide +kernel) rfl), (q_mem 67 (by decide +kernel) rfl), by decide +kernel, by decide +kernel, by decide +kernel, by decide⟩
set_option maxRecDepth 100000 in
theorem bX12_read : okB mX12_read 0 := ⟨(q_mem 1273 (by decide +kernel) rfl), (q_mem 67 (by decide +kernel) rfl), by decide +kernel, by decide +kernel, by decide +kernel, by decide⟩
set_option maxRecDepth 100000 in
theorem bX12_reads : okB mX12_reads 0 := ⟨(q_mem 1277 (by decide +kernel) rfl), (q_mem 67 (by decide +kernel) rfl), by decide +kernel, by decide +kernel, by decide +kernel, by decide⟩
set_option maxRecDepth 100000 in
theorem bX12_scans : okB mX12_scans 0 := ⟨(q_mem 1281 (by decide +kernel) rfl), (q_mem 67 (by decide +kernel) rfl), by decide +kernel, by decide +kernel, by decide +kernel, by decide⟩
set_option maxRecDepth 100000 in
theorem bX12_isAt : okB mX12_isAt 2 := ⟨(q_mem 1285 (by decide +kernel) rfl), (q_mem 67 (by decide +kernel) rfl), by decide +kernel, by decide +kernel, by decide +kernel, by decide⟩
set_option maxRecDepth 100000 in
theorem bX12_isSign : okB mX12_isSign 0 := ⟨(q_mem 1289 (by decide +kernel) rfl), (q_mem 67 (by decide +kernel) rfl), by decide +kernel, by decide +kernel, by decide +kernel, by decide⟩
set_option maxRecDepth 100000 in
theorem bX12_verbOf : okB mX12_verbOf 1 := ⟨(q_mem 1295 (by decide +kernel) rfl), (q_mem 67 (by decide +kernel) rfl), by decide +kernel, by decide +kernel, by decide +kernel, by decide⟩
set_option maxRecDepth 100000 in
theorem bX12_takesWord : okB mX12_takesWord 1 := ⟨(q_mem 1305 (by decide +kernel) rfl), (q_mem 67 (by decide +kernel) rfl), by decide +kernel, by decide +kernel, by decide +kernel, by decide⟩
set_option maxRecDepth 100000 in
theorem bX12_tellsItem : okB mX12_tellsItem 1 := ⟨(q_mem 1309 (by decide +kernel) rfl), (q_mem 67 (by decide +kernel) rfl), by decide +kernel, by decide +kernel, by decide +kernel, by decide⟩
set_option maxRecDepth 100000 in
theorem bX12_part : okB mX12_part 1 := ⟨(q_mem 1318 (by decide +kernel) rfl), (q_mem 67 (by decide +kernel) rfl), by decide +kernel, by decide +kernel, by decide +kernel, by decide⟩
set_option maxRecDepth 100000 in
theorem bX12_image : okB mX12_image 1 := ⟨(q_mem 1322 (by decide +kernel) rfl), (q_mem 67 (by decide +kernel) rfl), by decide +kernel, by decide +kernel, by decide +kernel, by decide⟩
set_option maxRecDepth 100000 in
theorem bX12_from : okB mX12_from 1 := ⟨(q_mem 1326 (by decide +kernel) rfl), (q_mem 67 (by decide +kernel) rfl), by decide +kernel, by decide +kernel, by decide +kernel, by decide⟩
set_option maxRecDepth 100000 in
theorem bX12_status : okB mX12_status 1 := ⟨(q_mem 1330 (by decide +kernel) rfl), (q_mem 67 (by decide +kernel) rfl), by decide +kernel, by decide +kernel, by decide +kernel, by decide⟩
set_option maxRecDepth 100000 in
theorem bX12_count : okB mX12_count 1 := ⟨(q_mem 1335 (by decide +kernel) rfl), (q_mem 67 (by decide +kernel) rfl), by decide +kernel, by decide +kernel, by decide +kernel, by decide⟩
set_option maxRecDepth 100000 in
theorem bX12_countOf : okB mX12_countOf 1 := ⟨(q_mem 1340 (by decide +kernel) rfl), (q_mem 67 (by decide +kernel) rfl), by decide +kernel, by decide +kernel, by decide +kernel, by decide⟩
set_option maxRecDepth 100000 in
theorem bX12_digest : okB mX12_digest 0 := ⟨(q_mem 1344 (by decide +kernel) rfl), (q_mem 67 (by decide +kernel) rfl), by decide +kernel, by decide +kernel, by decide +kernel, by decide⟩
set_option maxRecDepth 100000 in
theorem bX12_mixed : okB mX12_mixed 3 := ⟨(q_mem 1350 (by decide +kernel) rfl), (q_mem 67 (by decide +kernel) rfl), by decide +kernel, by decide +kernel, by decide +kernel, by decide⟩
set_option maxRecDepth 100000 in
theorem bX2_init : okB mX2_init 0 := ⟨(q_mem 88 (by decide +kernel) rfl), (q_mem 56 (by decide +kernel) rfl), by decide +kernel, by decide +kernel, by decide +kernel, by decide⟩
set_option maxRecDepth 100000 in
theorem bX5_init : okB mX5_init 0 := ⟨(q_mem 95 (by decide +kernel) rfl), (q_mem 57 (by decide +kernel) rfl), by decide +kernel, by decide +kernel, by decide +kernel, by decide⟩
set_option maxRecDepth 100000 in
theorem bX7_init : okB mX7_init 0 := ⟨(q_mem 102 (by decide +kernel) rfl), (q_mem 58 (by decide +kernel) rfl), by decide +kernel, by decide +kernel, by decide +kernel, by decide⟩
set_option maxRecDepth 100000 in
theorem bX6_init : okB mX6_init 0 := ⟨(q_mem 109 (by decide +kernel) rfl), (q_mem 59 (by decide +kernel) rfl), by decide +kernel, by decide +kernel, by decide +kernel, by decide⟩
set_option maxRecDepth 100000 in
theorem bX1_init : okB mX1_init 0 := ⟨(q_mem 116 (by decide +kernel) rfl), (q_mem 60 (by decide +kernel) rfl), by decide +kernel, by decide +kernel, by decide +kernel, by decide⟩
set_option maxRecDepth 100000 in
theorem bX9_init : okB mX9_init 0 := ⟨(q_mem 123 (by decide +kernel) rfl), (q_mem 61 (by decide +kernel) rfl), by decide +kernel, by decide +kernel, by decide +kernel, by decide⟩
set_option maxRecDepth 100000 in
theorem bX10_init : okB mX10_init 0 := ⟨(q_mem 130 (by decide +kernel) rfl), (q_mem 62 (by decide +kernel) rfl), by decide +kernel, by decide +kernel, by decide +kernel, by decide⟩
set_option maxRecDepth 100000 in
theorem bX0_init : okB mX0_init 0 := ⟨(q_mem 137 (by decide +kernel) rfl), (q_mem 63 (by decide +kernel) rfl), by decide +kernel, by decide +kernel, by decide +kernel, by decide⟩
set_option maxRecDepth 100000 in
theorem bX8_init : okB mX8_init 0 := ⟨(q_mem 164 (by decide +kernel) rfl), (q_mem 64 (by decide +kernel) rfl), by decide +kernel, by decide +kernel, by decide +kernel, by decide⟩
set_option maxRecDepth 100000 in
theorem bX4_init : okB mX4_init 0 := ⟨(q_mem 229 (by decide +kernel) rfl), (q_mem 65 (by decide +kernel) rfl), by decide +kernel, by decide +kernel, by decide +kernel, by decide⟩
set_option maxRecDepth 100000 in
theorem bX3_init : okB mX3_init 0 := ⟨(q_mem 271 (by decide +kernel) rfl), (q_mem 66 (by decide +kernel) rfl), by decide +kernel, by decide +kernel, by decide +kernel, by decide⟩
set_option maxRecDepth 100000 in
theorem bX11_isSet : okB mX11_isSet 2 := ⟨(q_mem 534 (by decide +kernel) rfl), (q_mem 55 (by decide +kernel) rfl), by decide +kernel, by decide +kernel, by decide +kernel, by decide⟩
set_option maxRecDepth 100000 in
theorem bJ0_length_8abf5 : okB mJ0_length_8abf5 0 := ⟨(q_mem 823 (by decide +kernel) rfl), (q_mem 72 (by decide +kernel) rfl), by decide +kernel, by decide +kernel, by decide +kernel, by decide⟩
set_option maxRecDepth 100000 in
theorem bJ0_charAt_5068e : okB mJ0_charAt_5068e 1 := ⟨(q_mem 833 (by decide +kernel) rfl), (q_mem 72 (by decide +kernel) rfl), by decide +kernel, by decide +kernel, by decide +kernel, by decide⟩
set_option maxRecDepth 100000 in
theorem bJ0_coder_7d493 : okB mJ0_coder_7d493 0 := ⟨(q_mem 827 (by decide +kernel) rfl), (q_mem 72 (by decide +kernel) rfl), by decide +kernel, by decide +kernel, by decide +kernel, by decide⟩
set_option maxRecDepth 100000 in
theorem bJ0_isLatin1_aae02 : okB mJ0_isLatin1_aae02 0 := ⟨(q_mem 837 (by decide +kernel) rfl), (q_mem 72 (by decide +kernel) rfl), by decide +kernel, by decide +kernel, by decide +kernel, by decide⟩
set_option maxRecDepth 100000 in
theorem bJ0_checkIndex_df160 : okB mJ0_checkIndex_df160 2 := ⟨(q_mem 843 (by decide +kernel) rfl), (q_mem 72 (by decide +kernel) rfl), by decide +kernel, by decide +kernel, by decide +kernel, by decide⟩
set_option maxRecDepth 100000 in
theorem bJ1_charAt_3b067 : okB mJ1_charAt_3b067 2 := ⟨(q_mem 840 (by decide +kernel) rfl), (q_mem 73 (by decide +kernel) rfl), by decide +kernel, by decide +kernel, by decide +kernel, by decide⟩
set_option maxRecDepth 100000 in
theorem bJ3_checkIndex_8e157 : okB mJ3_checkIndex_8e157 3 := ⟨(q_mem 848 (by decide +kernel) rfl), (q_mem 74 (by decide +kernel) rfl), by decide +kernel, by decide +kernel, by decide +kernel, by decide⟩
set_option maxRecDepth 100000 in
theorem iL_9 : okI RL 9 mX11_init 0 := ⟨bX11_init, rfl, rfl, (q_mem 79 (by decide +kernel) rfl), (q_mem 78 (by decide +kernel) rfl)⟩
set_option maxRecDepth 100000 in
theorem jX11_1 : Cond.methodLink RX11 1 objectInit ∈ qtb := (q_mem 81 (by decide +kernel) rfl)
set_option maxRecDepth 100000 in
theorem jX2_3 : Cond.methodLink RX2 3 objectInit ∈ qtb := (q_mem 89 (by decide +kernel) rfl)
set_option maxRecDepth 100000 in
theorem jX5_1 : Cond.methodLink RX5 1 objectInit ∈ qtb := (q_mem 96 (by decide +kernel) rfl)
set_option maxRecDepth 100000 in
theorem jX0_3 : Cond.methodLink RX0 3 objectInit ∈ qtb := (q_mem 138 (by decide +kernel) rfl)
set_option maxRecDepth 100000 in
theorem jX8_3 : Cond.methodLink RX8 3 objectInit ∈ qtb := (q_mem 165 (by decide +kernel) rfl)
set_option maxRecDepth 100000 in
theorem jX4_3 : Cond.methodLink RX4 3 objectInit ∈ qtb := (q_mem 230 (by decide +kernel) rfl)
set_option maxRecDepth 100000 in
theorem jX3_3 : Cond.methodLink RX3 3 objectInit ∈ qtb := (q_mem 272 (by decide +kernel) rfl)
set_option maxRecDepth 100000 in
theorem vL_13 : okV RL 13 11 mX11_plot 2 := ⟨bX11_plot, (q_mem 343 (by decide +kernel) rfl), ⟨(RX11, TX11, 10), rfl, (q_mem 344 (by decide +kernel) rfl)⟩, (q_mem 342 (by decide +kernel) rfl)⟩
set_option maxRecDepth 100000 in
theorem vX11_54 : okV RX11 54 2 mX2_addPlot 2 := ⟨bX2_addPlot, (q_mem 347 (by decide +kernel) rfl), ⟨(RX2, TX2, 11), rfl, (q_mem 348 (by decide +kernel) rfl)⟩, (q_mem 346 (by decide +kernel) rfl)⟩
set_option maxRecDepth 100000 in
theorem vX11_58 : okV RX11 58 11 mX11_counted 1 := ⟨bX11_counted, (q_mem 352 (by decide +kernel) rfl), ⟨(RX11, TX11, 10), rfl, (q_mem 0 (by decide +kernel) rfl)⟩, (q_mem 350 (by decide +kernel) rfl)⟩
set_option maxRecDepth 100000 in
theorem vL_18 : okV RL 18 11 mX11_shirt 1 := ⟨bX11_shirt, (q_mem 355 (by decide +kernel) rfl), ⟨(RX11, TX11, 10), rfl, (q_mem 356 (by decide +kernel) rfl)⟩, (q_mem 354 (by decide +kernel) rfl)⟩
set_option maxRecDepth 100000 in
theorem vX11_62 : okV RX11 62 2 mX2_addShirt 1 := ⟨bX2_addShirt, (q_mem 359 (by decide +kernel) rfl), ⟨(RX2, TX2, 11), rfl, (q_mem 360 (by decide +kernel) rfl)⟩, (q_mem 358 (by decide +kernel) rfl)⟩
set_option maxRecDepth 100000 in
theorem vL_23 : okV RL 23 11 mX11_night 1 := ⟨bX11_night, (q_mem 363 (by decide +kernel) rfl), ⟨(RX11, TX11, 10), rfl, (q_mem 364 (by decide +kernel) rfl)⟩, (q_mem 362 (by decide +kernel) rfl)⟩
set_option maxRecDepth 100000 in
theorem vX11_65 : okV RX11 65 2 mX2_passNight 1 := ⟨bX2_passNight, (q_mem 367 (by decide +kernel) rfl), ⟨(RX2, TX2, 11), rfl, (q_mem 368 (by decide +kernel) rfl)⟩, (q_mem 366 (by decide +kernel) rfl)⟩
set_option maxRecDepth 100000 in
theorem vX2_106 : okV RX2 106 2 mX2_hasNight 1 := ⟨bX2_hasNight, (q_mem 371 (by decide +kernel) rfl), ⟨(RX2, TX2, 11), rfl, (q_mem 372 (by decide +kernel) rfl)⟩, (q_mem 370 (by decide +kernel) rfl)⟩
set_option maxRecDepth 100000 in
theorem vX2_99 : okV RX2 99 2 mX2_hasPlot 1 := ⟨bX2_hasPlot, (q_mem 375 (by decide +kernel) rfl), ⟨(RX2, TX2, 11), rfl, (q_mem 376 (by decide +kernel) rfl)⟩, (q_mem 374 (by decide +kernel) rfl)⟩
set_option maxRecDepth 100000 in
theorem vX2_103 : okV RX2 103 2 mX2_isSewing 1 := ⟨bX2_isSewing, (q_mem 379 (by decide +kernel) rfl), ⟨(RX2, TX2, 11), rfl, (q_mem 380 (by decide +kernel) rfl)⟩, (q_mem 378 (by decide +kernel) rfl)⟩
