/-! PRINTED BY wip/whole/print.py: checks of the methods' tables. -/
set_option maxRecDepth 100000 in
theorem qo_0 : ai_okM qr_TB qr_Y0 qr_P qm_0 := ⟨by decide +kernel, by decide +kernel, by decide +kernel, by decide +kernel, plainFor_of_name (by decide +kernel), rfl⟩
set_option maxRecDepth 100000 in
theorem qk_0 : ai_okC qr_TB qm_0 := ⟨List.mem_of_getElem? (i := 149) (by decide +kernel), List.mem_of_getElem? (i := 123) (by decide +kernel), by decide, by decide +kernel, by decide +kernel⟩
set_option maxRecDepth 100000 in
theorem qo_1 : ai_okM qr_TB qr_Y0 qr_P qm_1 := ⟨by decide +kernel, by decide +kernel, by decide +kernel, by decide +kernel, plainFor_of_name (by decide +kernel), rfl⟩
set_option maxRecDepth 100000 in
theorem qk_1 : ai_okC qr_TB qm_1 := ⟨List.mem_of_getElem? (i := 157) (by decide +kernel), List.mem_of_getElem? (i := 124) (by decide +kernel), by decide, by decide +kernel, by decide +kernel⟩
set_option maxRecDepth 100000 in
theorem qo_2 : ai_okM qr_TB qr_Y0 qr_P qm_2 := ⟨by decide +kernel, by decide +kernel, by decide +kernel, by decide +kernel, plainFor_of_name (by decide +kernel), rfl⟩
set_option maxRecDepth 100000 in
theorem qk_2 : ai_okC qr_TB qm_2 := ⟨List.mem_of_getElem? (i := 163) (by decide +kernel), List.mem_of_getElem? (i := 125) (by decide +kernel), by decide, by decide +kernel, by decide +kernel⟩
set_option maxRecDepth 100000 in
theorem qo_3 : ai_okM qr_TB qr_Y0 qr_P qm_3 := ⟨by decide +kernel, by decide +kernel, by decide +kernel, by decide +kernel, plainFor_of_name (by decide +kernel), rfl⟩
set_option maxRecDepth 100000 in
theorem qk_3 : ai_okC qr_TB qm_3 := ⟨List.mem_of_getElem? (i := 177) (by decide +kernel), List.mem_of_getElem? (i := 126) (by decide +kernel), by decide, by decide +kernel, by decide +kernel⟩
set_option maxRecDepth 100000 in
theorem qo_4 : ai_okM qr_TB qr_Y0 qr_P qm_4 := ⟨by decide +kernel, by decide +kernel, by decide +kernel, by decide +kernel, plainFor_of_name (by decide +kernel), rfl⟩
set_option maxRecDepth 100000 in
theorem qk_4 : ai_okC qr_TB qm_4 := ⟨List.mem_of_getElem? (i := 235) (by decide +kernel), List.mem_of_getElem? (i := 129) (by decide +kernel), by decide, by decide +kernel, by decide +kernel⟩
set_option maxRecDepth 100000 in
theorem qo_5 : ai_okM qr_TB qr_Y0 qr_P qm_5 := ⟨by decide +kernel, by decide +kernel, by decide +kernel, by decide +kernel, plainFor_of_name (by decide +kernel), rfl⟩
set_option maxRecDepth 100000 in
theorem qk_5 : ai_okC qr_TB qm_5 := ⟨List.mem_of_getElem? (i := 260) (by decide +kernel), List.mem_of_getElem? (i := 123) (by decide +kernel), by decide, by decide +kernel, by decide +kernel⟩
set_option maxRecDepth 100000 in
theorem qo_6 : ai_okM qr_TB qr_Y0 qr_P qm_6 := ⟨by decide +kernel, by decide +kernel, by decide +kernel, by decide +kernel, plainFor_of_name (by decide +kernel), rfl⟩
set_option maxRecDepth 100000 in
theorem qk_6 : ai_okC qr_TB qm_6 := ⟨List.mem_of_getElem? (i := 265) (by decide +kernel), List.mem_of_getElem? (i := 124) (by decide +kernel), by decide, by decide +kernel, by decide +kernel⟩
set_option maxRecDepth 100000 in
theorem qo_7 : ai_okM qr_TB qr_Y0 qr_P qm_7 := ⟨by decide +kernel, by decide +kernel, by decide +kernel, by decide +kernel, plainFor_of_name (by decide +kernel), rfl⟩
set_option maxRecDepth 100000 in
theorem qk_7 : ai_okC qr_TB qm_7 := ⟨List.mem_of_getElem? (i := 269) (by decide +kernel), List.mem_of_getElem? (i := 126) (by decide +kernel), by decide, by decide +kernel, by decide +kernel⟩
set_option maxRecDepth 100000 in
theorem qo_8 : ai_okM qr_TB qr_Y0 qr_P qm_8 := ⟨by decide +kernel, by decide +kernel, by decide +kernel, by decide +kernel, plainFor_of_name (by decide +kernel), rfl⟩
set_option maxRecDepth 100000 in
theorem qk_8 : ai_okC qr_TB qm_8 := ⟨List.mem_of_getElem? (i := 273) (by decide +kernel), List.mem_of_getElem? (i := 126) (by decide +kernel), by decide, by decide +kernel, by decide +kernel⟩
set_option maxRecDepth 100000 in
theorem qo_9 : ai_okM qr_TB qr_Y0 qr_P qm_9 := ⟨by decide +kernel, by decide +kernel, by decide +kernel, by decide +kernel, plainFor_of_name (by decide +kernel), rfl⟩
set_option maxRecDepth 100000 in
theorem qk_9 : ai_okC qr_TB qm_9 := ⟨List.mem_of_getElem? (i := 277) (by decide +kernel), List.mem_of_getElem? (i := 125) (by decide +kernel), by decide, by decide +kernel, by decide +kernel⟩
set_option maxRecDepth 100000 in
theorem qo_10 : ai_okM qr_TB qr_Y0 qr_P qm_10 := ⟨by decide +kernel, by decide +kernel, by decide +kernel, by decide +kernel, plainFor_of_name (by decide +kernel), rfl⟩
set_option maxRecDepth 100000 in
theorem qk_10 : ai_okC qr_TB qm_10 := ⟨List.mem_of_getElem? (i := 281) (by decide +kernel), List.mem_of_getElem? (i := 125) (by decide +kernel), by decide, by decide +kernel, by decide +kernel⟩
set_option maxRecDepth 100000 in
theorem qo_11 : ai_okM qr_TB qr_Y0 qr_P qm_11 := ⟨by decide +kernel, by decide +kernel, by decide +kernel, by decide +kernel, plainFor_of_name (by decide +kernel), rfl⟩
set_option maxRecDepth 100000 in
theorem qk_11 : ai_okC qr_TB qm_11 := ⟨List.mem_of_getElem? (i := 285) (by decide +kernel), List.mem_of_getElem? (i := 126) (by decide +kernel), by decide, by decide +kernel, by decide +kernel⟩
set_option maxRecDepth 100000 in
theorem qo_12 : ai_okM qr_TB qr_Y0 qr_P qm_12 := ⟨by decide +kernel, by decide +kernel, by decide +kernel, by decide +kernel, plainFor_of_name (by decide +kernel), rfl⟩
set_option maxRecDepth 100000 in
theorem qk_12 : ai_okC qr_TB qm_12 := ⟨List.mem_of_getElem? (i := 289) (by decide +kernel), List.mem_of_getElem? (i := 126) (by decide +kernel), by decide, by decide +kernel, by decide +kernel⟩
set_option maxRecDepth 100000 in
theorem qo_13 : ai_okM qr_TB qr_Y0 qr_P qm_13 := ⟨by decide +kernel, by decide +kernel, by decide +kernel, by decide +kernel, plainFor_of_name (by decide +kernel), rfl⟩
set_option maxRecDepth 100000 in
theorem qk_13 : ai_okC qr_TB qm_13 := ⟨List.mem_of_getElem? (i := 293) (by decide +kernel), List.mem_of_getElem? (i := 126) (by decide +kernel), by decide, by decide +kernel, by decide +kernel⟩
set_option maxRecDepth 100000 in
theorem qo_14 : ai_okM qr_TB qr_Y0 qr_P qm_14 := ⟨by decide +kernel, by decide +kernel, by decide +kernel, by decide +kernel, plainFor_of_name (by decide +kernel), rfl⟩
set_option maxRecDepth 100000 in
theorem qk_14 : ai_okC qr_TB qm_14 := ⟨List.mem_of_getElem? (i := 298) (by decide +kernel), List.mem_of_getElem? (i := 126) (by decide +kernel), by decide, by decide +kernel, by decide +kernel⟩
set_option maxRecDepth 100000 in
theorem qo_15 : ai_okM qr_TB qr_Y0 qr_P qm_15 := ⟨by decide +kernel, by decide +kernel, by decide +kernel, by decide +kernel, plainFor_of_name (by decide +kernel), rfl⟩
set_option maxRecDepth 100000 in
theorem qk_15 : ai_okC qr_TB qm_15 := ⟨List.mem_of_getElem? (i := 302) (by decide +kernel), List.mem_of_getElem? (i := 126) (by decide +kernel), by decide, by decide +kernel, by decide +kernel⟩
set_option maxRecDepth 100000 in
theorem qo_16 : ai_okM qr_TB qr_Y0 qr_P qm_16 := ⟨by decide +kernel, by decide +kernel, by decide +kernel, by decide +kernel, plainFor_of_name (by decide +kernel), rfl⟩
set_option maxRecDepth 100000 in
theorem qk_16 : ai_okC qr_TB qm_16 := ⟨List.mem_of_getElem? (i := 305) (by decide +kernel), List.mem_of_getElem? (i := 126) (by decide +kernel), by decide, by decide +kernel, by decide +kernel⟩
set_option maxRecDepth 100000 in
theorem qo_17 : ai_okM qr_TB qr_Y0 qr_P qm_17 := ⟨by decide +kernel, by decide +kernel, by decide +kernel, by decide +kernel, plainFor_of_name (by decide +kernel), rfl⟩
set_option maxRecDepth 100000 in
theorem qk_17 : ai_okC qr_TB qm_17 := ⟨List.mem_of_getElem? (i := 309) (by decide +kernel), List.mem_of_getElem? (i := 126) (by decide +kernel), by decide, by decide +kernel, by decide +kernel⟩
set_option maxRecDepth 100000 in
theorem qo_18 : ai_okM qr_TB qr_Y0 qr_P qm_18 := ⟨by decide +kernel, by decide +kernel, by decide +kernel, by decide +kernel, plainFor_of_name (by decide +kernel), rfl⟩
set_option maxRecDepth 100000 in
theorem qk_18 : ai_okC qr_TB qm_18 := ⟨List.mem_of_getElem? (i := 313) (by decide +kernel), List.mem_of_getElem? (i := 139) (by decide +kernel), by decide, by decide +kernel, by decide +kernel⟩
set_option maxRecDepth 100000 in
theorem qo_19 : ai_okM qr_TB qr_Y0 qr_P qm_19 := ⟨by decide +kernel, by decide +kernel, by decide +kernel, by decide +kernel, plainFor_of_name (by decide +kernel), rfl⟩
set_option maxRecDepth 100000 in
theorem qk_19 : ai_okC qr_TB qm_19 := ⟨List.mem_of_getElem? (i := 317) (by decide +kernel), List.mem_of_getElem? (i := 139) (by decide +kernel), by decide, by decide +kernel, by decide +kernel⟩
set_option maxRecDepth 100000 in
theorem qo_20 : ai_okM qr_TB qr_Y0 qr_P qm_20 := ⟨by decide +kernel, by decide +kernel, by decide +kernel, by decide +kernel, plainFor_of_name (by decide +kernel), rfl⟩
set_option maxRecDepth 100000 in
theorem qk_20 : ai_okC qr_TB qm_20 := ⟨List.mem_of_getElem? (i := 322) (by decide +kernel), List.mem_of_getElem? (i := 139) (by decide +kernel), by decide, by decide +kernel, by decide +kernel⟩
set_option maxRecDepth 100000 in
theorem qo_21 : ai_okM qr_TB qr_Y0 qr_P qm_21 := ⟨by decide +kernel, by decide +kernel, by decide +kernel, by decide +kernel, plainFor_of_name (by decide +kernel), rfl⟩
set_option maxRecDepth 100000 in
theorem qk_21 : ai_okC qr_TB qm_21 := ⟨List.mem_of_getElem? (i := 326) (by decide +kernel), List.mem_of_getElem? (i := 139) (by decide +kernel), by decide, by decide +kernel, by decide +kernel⟩
set_option maxRecDepth 100000 in
theorem qo_22 : ai_okM qr_TB qr_Y0 qr_P qm_22 := ⟨by decide +kernel, by decide +kernel, by decide +kernel, by decide +kernel, plainFor_of_name (by decide +kernel), rfl⟩
set_option maxRecDepth 100000 in
theorem qk_22 : ai_okC qr_TB qm_22 := ⟨List.mem_of_getElem? (i := 329) (by decide +kernel), List.mem_of_getElem? (i := 140) (by decide +kernel), by decide, by decide +kernel, by decide +kernel⟩
set_option maxRecDepth 100000 in
theorem qo_23 : ai_okM qr_TB qr_Y0 qr_P qm_23 := ⟨by decide +kernel, by decide +kernel, by decide +kernel, by decide +kernel, plainFor_of_name (by decide +kernel), rfl⟩
set_option maxRecDepth 100000 in
theorem qk_23 : ai_okC qr_TB qm_23 := ⟨List.mem_of_getElem? (i := 332) (by decide +kernel), List.mem_of_getElem? (i := 139) (by decide +kernel), by decide, by decide +kernel, by decide +kernel⟩
set_option maxRecDepth 100000 in
theorem qo_24 : ai_okM qr_TB qr_Y0 qr_P qm_24 := ⟨by decide +kernel, by decide +kernel, by decide +kernel, by decide +kernel, plainFor_of_name (by decide +kernel), rfl⟩
set_option maxRecDepth 100000 in
theorem qk_24 : ai_okC qr_TB qm_24 := ⟨List.mem_of_getElem? (i := 336) (by decide +kernel), List.mem_of_getElem? (i := 141) (by decide +kernel), by decide, by decide +kernel, by decide +kernel⟩
