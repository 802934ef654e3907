/-! PRINTED BY wip/whole/print.py: checks of the methods' tables. -/
set_option maxRecDepth 100000 in
theorem qo_25 : ai_okM qr_TB qr_Y0 qr_P qm_25 := ⟨by decide +kernel, by decide +kernel, by decide +kernel, by decide +kernel, plainFor_of_name (by decide +kernel), rfl⟩
set_option maxRecDepth 100000 in
theorem qk_25 : ai_okC qr_TB qm_25 := ⟨List.mem_of_getElem? (i := 357) (by decide +kernel), List.mem_of_getElem? (i := 126) (by decide +kernel), by decide, by decide +kernel, by decide +kernel⟩
set_option maxRecDepth 100000 in
theorem qo_26 : ai_okM qr_TB qr_Y0 qr_P qm_26 := ⟨by decide +kernel, by decide +kernel, by decide +kernel, by decide +kernel, plainFor_of_name (by decide +kernel), rfl⟩
set_option maxRecDepth 100000 in
theorem qk_26 : ai_okC qr_TB qm_26 := ⟨List.mem_of_getElem? (i := 362) (by decide +kernel), List.mem_of_getElem? (i := 126) (by decide +kernel), by decide, by decide +kernel, by decide +kernel⟩
set_option maxRecDepth 100000 in
theorem qo_27 : ai_okM qr_TB qr_Y0 qr_P qm_27 := ⟨by decide +kernel, by decide +kernel, by decide +kernel, by decide +kernel, plainFor_of_name (by decide +kernel), rfl⟩
set_option maxRecDepth 100000 in
theorem qk_27 : ai_okC qr_TB qm_27 := ⟨List.mem_of_getElem? (i := 365) (by decide +kernel), List.mem_of_getElem? (i := 126) (by decide +kernel), by decide, by decide +kernel, by decide +kernel⟩
set_option maxRecDepth 100000 in
theorem qo_28 : ai_okM qr_TB qr_Y0 qr_P qm_28 := ⟨by decide +kernel, by decide +kernel, by decide +kernel, by decide +kernel, plainFor_of_name (by decide +kernel), rfl⟩
set_option maxRecDepth 100000 in
theorem qk_28 : ai_okC qr_TB qm_28 := ⟨List.mem_of_getElem? (i := 372) (by decide +kernel), List.mem_of_getElem? (i := 126) (by decide +kernel), by decide, by decide +kernel, by decide +kernel⟩
set_option maxRecDepth 100000 in
theorem qo_29 : ai_okM qr_TB qr_Y0 qr_P qm_29 := ⟨by decide +kernel, by decide +kernel, by decide +kernel, by decide +kernel, plainFor_of_name (by decide +kernel), rfl⟩
set_option maxRecDepth 100000 in
theorem qk_29 : ai_okC qr_TB qm_29 := ⟨List.mem_of_getElem? (i := 389) (by decide +kernel), List.mem_of_getElem? (i := 126) (by decide +kernel), by decide, by decide +kernel, by decide +kernel⟩
set_option maxRecDepth 100000 in
theorem qo_30 : ai_okM qr_TB qr_Y0 qr_P qm_30 := ⟨by decide +kernel, by decide +kernel, by decide +kernel, by decide +kernel, plainFor_of_name (by decide +kernel), rfl⟩
set_option maxRecDepth 100000 in
theorem qk_30 : ai_okC qr_TB qm_30 := ⟨List.mem_of_getElem? (i := 394) (by decide +kernel), List.mem_of_getElem? (i := 126) (by decide +kernel), by decide, by decide +kernel, by decide +kernel⟩
set_option maxRecDepth 100000 in
theorem qo_31 : ai_okM qr_TB qr_Y0 qr_P qm_31 := ⟨by decide +kernel, by decide +kernel, by decide +kernel, by decide +kernel, plainFor_of_name (by decide +kernel), rfl⟩
set_option maxRecDepth 100000 in
theorem qk_31 : ai_okC qr_TB qm_31 := ⟨List.mem_of_getElem? (i := 397) (by decide +kernel), List.mem_of_getElem? (i := 135) (by decide +kernel), by decide, by decide +kernel, by decide +kernel⟩
set_option maxRecDepth 100000 in
theorem qo_32 : ai_okM qr_TB qr_Y0 qr_P qm_32 := ⟨by decide +kernel, by decide +kernel, by decide +kernel, by decide +kernel, by decide +kernel, rfl⟩
set_option maxRecDepth 100000 in
theorem qk_32 : ai_okC qr_TB qm_32 := ⟨List.mem_of_getElem? (i := 407) (by decide +kernel), List.mem_of_getElem? (i := 136) (by decide +kernel), by decide, by decide +kernel, by decide +kernel⟩
set_option maxRecDepth 100000 in
theorem qo_33 : ai_okM qr_TB qr_Y0 qr_P qm_33 := ⟨by decide +kernel, by decide +kernel, by decide +kernel, by decide +kernel, plainFor_of_name (by decide +kernel), rfl⟩
set_option maxRecDepth 100000 in
theorem qk_33 : ai_okC qr_TB qm_33 := ⟨List.mem_of_getElem? (i := 414) (by decide +kernel), List.mem_of_getElem? (i := 126) (by decide +kernel), by decide, by decide +kernel, by decide +kernel⟩
set_option maxRecDepth 100000 in
theorem qo_34 : ai_okM qr_TB qr_Y0 qr_P qm_34 := ⟨by decide +kernel, by decide +kernel, by decide +kernel, by decide +kernel, plainFor_of_name (by decide +kernel), rfl⟩
set_option maxRecDepth 100000 in
theorem qk_34 : ai_okC qr_TB qm_34 := ⟨List.mem_of_getElem? (i := 418) (by decide +kernel), List.mem_of_getElem? (i := 125) (by decide +kernel), by decide, by decide +kernel, by decide +kernel⟩
set_option maxRecDepth 100000 in
theorem qo_35 : ai_okM qr_TB qr_Y0 qr_P qm_35 := ⟨by decide +kernel, by decide +kernel, by decide +kernel, by decide +kernel, plainFor_of_name (by decide +kernel), rfl⟩
set_option maxRecDepth 100000 in
theorem qk_35 : ai_okC qr_TB qm_35 := ⟨List.mem_of_getElem? (i := 422) (by decide +kernel), List.mem_of_getElem? (i := 124) (by decide +kernel), by decide, by decide +kernel, by decide +kernel⟩
set_option maxRecDepth 100000 in
theorem qo_36 : ai_okM qr_TB qr_Y0 qr_P qm_36 := ⟨by decide +kernel, by decide +kernel, by decide +kernel, by decide +kernel, plainFor_of_name (by decide +kernel), rfl⟩
set_option maxRecDepth 100000 in
theorem qk_36 : ai_okC qr_TB qm_36 := ⟨List.mem_of_getElem? (i := 429) (by decide +kernel), List.mem_of_getElem? (i := 127) (by decide +kernel), by decide, by decide +kernel, by decide +kernel⟩
set_option maxRecDepth 100000 in
theorem qo_37 : ai_okM qr_TB qr_Y0 qr_P qm_37 := ⟨by decide +kernel, by decide +kernel, by decide +kernel, by decide +kernel, plainFor_of_name (by decide +kernel), rfl⟩
set_option maxRecDepth 100000 in
theorem qk_37 : ai_okC qr_TB qm_37 := ⟨List.mem_of_getElem? (i := 434) (by decide +kernel), List.mem_of_getElem? (i := 124) (by decide +kernel), by decide, by decide +kernel, by decide +kernel⟩
set_option maxRecDepth 100000 in
theorem qo_38 : ai_okM qr_TB qr_Y0 qr_P qm_38 := ⟨by decide +kernel, by decide +kernel, by decide +kernel, by decide +kernel, plainFor_of_name (by decide +kernel), rfl⟩
set_option maxRecDepth 100000 in
theorem qk_38 : ai_okC qr_TB qm_38 := ⟨List.mem_of_getElem? (i := 502) (by decide +kernel), List.mem_of_getElem? (i := 125) (by decide +kernel), by decide, by decide +kernel, by decide +kernel⟩
set_option maxRecDepth 100000 in
theorem qo_39 : ai_okM qr_TB qr_Y0 qr_P qm_39 := ⟨by decide +kernel, by decide +kernel, by decide +kernel, by decide +kernel, plainFor_of_name (by decide +kernel), rfl⟩
set_option maxRecDepth 100000 in
theorem qk_39 : ai_okC qr_TB qm_39 := ⟨List.mem_of_getElem? (i := 508) (by decide +kernel), List.mem_of_getElem? (i := 125) (by decide +kernel), by decide, by decide +kernel, by decide +kernel⟩
set_option maxRecDepth 100000 in
theorem qo_40 : ai_okM qr_TB qr_Y0 qr_P qm_40 := ⟨by decide +kernel, by decide +kernel, by decide +kernel, by decide +kernel, plainFor_of_name (by decide +kernel), rfl⟩
set_option maxRecDepth 100000 in
theorem qk_40 : ai_okC qr_TB qm_40 := ⟨List.mem_of_getElem? (i := 512) (by decide +kernel), List.mem_of_getElem? (i := 135) (by decide +kernel), by decide, by decide +kernel, by decide +kernel⟩
set_option maxRecDepth 100000 in
theorem qo_41 : ai_okM qr_TB qr_Y0 qr_P qm_41 := ⟨by decide +kernel, by decide +kernel, by decide +kernel, by decide +kernel, plainFor_of_name (by decide +kernel), rfl⟩
set_option maxRecDepth 100000 in
theorem qk_41 : ai_okC qr_TB qm_41 := ⟨List.mem_of_getElem? (i := 521) (by decide +kernel), List.mem_of_getElem? (i := 124) (by decide +kernel), by decide, by decide +kernel, by decide +kernel⟩
set_option maxRecDepth 100000 in
theorem qo_42 : ai_okM qr_TB qr_Y0 qr_P qm_42 := ⟨by decide +kernel, by decide +kernel, by decide +kernel, by decide +kernel, plainFor_of_name (by decide +kernel), rfl⟩
set_option maxRecDepth 100000 in
theorem qk_42 : ai_okC qr_TB qm_42 := ⟨List.mem_of_getElem? (i := 527) (by decide +kernel), List.mem_of_getElem? (i := 124) (by decide +kernel), by decide, by decide +kernel, by decide +kernel⟩
set_option maxRecDepth 100000 in
theorem qo_43 : ai_okM qr_TB qr_Y0 qr_P qm_43 := ⟨by decide +kernel, by decide +kernel, by decide +kernel, by decide +kernel, by decide +kernel, rfl⟩
set_option maxRecDepth 100000 in
theorem qk_43 : ai_okC qr_TB qm_43 := ⟨List.mem_of_getElem? (i := 530) (by decide +kernel), List.mem_of_getElem? (i := 136) (by decide +kernel), by decide, by decide +kernel, by decide +kernel⟩
set_option maxRecDepth 100000 in
theorem qo_44 : ai_okM qr_TB qr_Y0 qr_P qm_44 := ⟨by decide +kernel, by decide +kernel, by decide +kernel, by decide +kernel, plainFor_of_name (by decide +kernel), rfl⟩
set_option maxRecDepth 100000 in
theorem qk_44 : ai_okC qr_TB qm_44 := ⟨List.mem_of_getElem? (i := 537) (by decide +kernel), List.mem_of_getElem? (i := 124) (by decide +kernel), by decide, by decide +kernel, by decide +kernel⟩
set_option maxRecDepth 100000 in
theorem qo_45 : ai_okM qr_TB qr_Y0 qr_P qm_45 := ⟨by decide +kernel, by decide +kernel, by decide +kernel, by decide +kernel, plainFor_of_name (by decide +kernel), rfl⟩
set_option maxRecDepth 100000 in
theorem qk_45 : ai_okC qr_TB qm_45 := ⟨List.mem_of_getElem? (i := 541) (by decide +kernel), List.mem_of_getElem? (i := 124) (by decide +kernel), by decide, by decide +kernel, by decide +kernel⟩
set_option maxRecDepth 100000 in
theorem qo_46 : ai_okM qr_TB qr_Y0 qr_P qm_46 := ⟨by decide +kernel, by decide +kernel, by decide +kernel, by decide +kernel, plainFor_of_name (by decide +kernel), rfl⟩
set_option maxRecDepth 100000 in
theorem qk_46 : ai_okC qr_TB qm_46 := ⟨List.mem_of_getElem? (i := 546) (by decide +kernel), List.mem_of_getElem? (i := 126) (by decide +kernel), by decide, by decide +kernel, by decide +kernel⟩
set_option maxRecDepth 100000 in
theorem qo_47 : ai_okM qr_TB qr_Y0 qr_P qm_47 := ⟨by decide +kernel, by decide +kernel, by decide +kernel, by decide +kernel, plainFor_of_name (by decide +kernel), rfl⟩
set_option maxRecDepth 100000 in
theorem qk_47 : ai_okC qr_TB qm_47 := ⟨List.mem_of_getElem? (i := 550) (by decide +kernel), List.mem_of_getElem? (i := 126) (by decide +kernel), by decide, by decide +kernel, by decide +kernel⟩
set_option maxRecDepth 100000 in
theorem qo_48 : ai_okM qr_TB qr_Y0 qr_P qm_48 := ⟨by decide +kernel, by decide +kernel, by decide +kernel, by decide +kernel, plainFor_of_name (by decide +kernel), rfl⟩
set_option maxRecDepth 100000 in
theorem qk_48 : ai_okC qr_TB qm_48 := ⟨List.mem_of_getElem? (i := 554) (by decide +kernel), List.mem_of_getElem? (i := 125) (by decide +kernel), by decide, by decide +kernel, by decide +kernel⟩
set_option maxRecDepth 100000 in
theorem qo_49 : ai_okM qr_TB qr_Y0 qr_P qm_49 := ⟨by decide +kernel, by decide +kernel, by decide +kernel, by decide +kernel, plainFor_of_name (by decide +kernel), rfl⟩
set_option maxRecDepth 100000 in
theorem qk_49 : ai_okC qr_TB qm_49 := ⟨List.mem_of_getElem? (i := 560) (by decide +kernel), List.mem_of_getElem? (i := 124) (by decide +kernel), by decide, by decide +kernel, by decide +kernel⟩
