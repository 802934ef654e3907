/-! PRINTED BY wip/whole/print.py: checks of the methods' tables. -/
set_option maxRecDepth 100000 in
theorem qo_75 : ai_okM qr_TB qr_Y0 qr_P qm_75 := ⟨by decide +kernel, by decide +kernel, by decide +kernel, by decide +kernel, plainFor_of_name (by decide +kernel), rfl⟩
set_option maxRecDepth 100000 in
theorem qk_75 : ai_okC qr_TB qm_75 := ⟨List.mem_of_getElem? (i := 705) (by decide +kernel), List.mem_of_getElem? (i := 124) (by decide +kernel), by decide, by decide +kernel, by decide +kernel⟩
set_option maxRecDepth 100000 in
theorem qo_76 : ai_okM qr_TB qr_Y0 qr_P qm_76 := ⟨by decide +kernel, by decide +kernel, by decide +kernel, by decide +kernel, plainFor_of_name (by decide +kernel), rfl⟩
set_option maxRecDepth 100000 in
theorem qk_76 : ai_okC qr_TB qm_76 := ⟨List.mem_of_getElem? (i := 709) (by decide +kernel), List.mem_of_getElem? (i := 125) (by decide +kernel), by decide, by decide +kernel, by decide +kernel⟩
set_option maxRecDepth 100000 in
theorem qo_77 : ai_okM qr_TB qr_Y0 qr_P qm_77 := ⟨by decide +kernel, by decide +kernel, by decide +kernel, by decide +kernel, plainFor_of_name (by decide +kernel), rfl⟩
set_option maxRecDepth 100000 in
theorem qk_77 : ai_okC qr_TB qm_77 := ⟨List.mem_of_getElem? (i := 714) (by decide +kernel), List.mem_of_getElem? (i := 125) (by decide +kernel), by decide, by decide +kernel, by decide +kernel⟩
set_option maxRecDepth 100000 in
theorem qo_78 : ai_okM qr_TB qr_Y0 qr_P qm_78 := ⟨by decide +kernel, by decide +kernel, by decide +kernel, by decide +kernel, plainFor_of_name (by decide +kernel), rfl⟩
set_option maxRecDepth 100000 in
theorem qk_78 : ai_okC qr_TB qm_78 := ⟨List.mem_of_getElem? (i := 723) (by decide +kernel), List.mem_of_getElem? (i := 124) (by decide +kernel), by decide, by decide +kernel, by decide +kernel⟩
set_option maxRecDepth 100000 in
theorem qo_79 : ai_okM qr_TB qr_Y0 qr_P qm_79 := ⟨by decide +kernel, by decide +kernel, by decide +kernel, by decide +kernel, plainFor_of_name (by decide +kernel), rfl⟩
set_option maxRecDepth 100000 in
theorem qk_79 : ai_okC qr_TB qm_79 := ⟨List.mem_of_getElem? (i := 729) (by decide +kernel), List.mem_of_getElem? (i := 124) (by decide +kernel), by decide, by decide +kernel, by decide +kernel⟩
set_option maxRecDepth 100000 in
theorem qo_80 : ai_okM qr_TB qr_Y0 qr_P qm_80 := ⟨by decide +kernel, by decide +kernel, by decide +kernel, by decide +kernel, plainFor_of_name (by decide +kernel), rfl⟩
set_option maxRecDepth 100000 in
theorem qk_80 : ai_okC qr_TB qm_80 := ⟨List.mem_of_getElem? (i := 738) (by decide +kernel), List.mem_of_getElem? (i := 124) (by decide +kernel), by decide, by decide +kernel, by decide +kernel⟩
set_option maxRecDepth 100000 in
theorem qo_81 : ai_okM qr_TB qr_Y0 qr_P qm_81 := ⟨by decide +kernel, by decide +kernel, by decide +kernel, by decide +kernel, plainFor_of_name (by decide +kernel), rfl⟩
set_option maxRecDepth 100000 in
theorem qk_81 : ai_okC qr_TB qm_81 := ⟨List.mem_of_getElem? (i := 742) (by decide +kernel), List.mem_of_getElem? (i := 124) (by decide +kernel), by decide, by decide +kernel, by decide +kernel⟩
set_option maxRecDepth 100000 in
theorem qo_82 : ai_okM qr_TB qr_Y0 qr_P qm_82 := ⟨by decide +kernel, by decide +kernel, by decide +kernel, by decide +kernel, plainFor_of_name (by decide +kernel), rfl⟩
set_option maxRecDepth 100000 in
theorem qk_82 : ai_okC qr_TB qm_82 := ⟨List.mem_of_getElem? (i := 747) (by decide +kernel), List.mem_of_getElem? (i := 124) (by decide +kernel), by decide, by decide +kernel, by decide +kernel⟩
set_option maxRecDepth 100000 in
theorem qo_83 : ai_okM qr_TB qr_Y0 qr_P qm_83 := ⟨by decide +kernel, by decide +kernel, by decide +kernel, by decide +kernel, plainFor_of_name (by decide +kernel), rfl⟩
set_option maxRecDepth 100000 in
theorem qk_83 : ai_okC qr_TB qm_83 := ⟨List.mem_of_getElem? (i := 752) (by decide +kernel), List.mem_of_getElem? (i := 124) (by decide +kernel), by decide, by decide +kernel, by decide +kernel⟩
set_option maxRecDepth 100000 in
theorem qo_84 : ai_okM qr_TB qr_Y0 qr_P qm_84 := ⟨by decide +kernel, by decide +kernel, by decide +kernel, by decide +kernel, plainFor_of_name (by decide +kernel), rfl⟩
set_option maxRecDepth 100000 in
theorem qk_84 : ai_okC qr_TB qm_84 := ⟨List.mem_of_getElem? (i := 759) (by decide +kernel), List.mem_of_getElem? (i := 124) (by decide +kernel), by decide, by decide +kernel, by decide +kernel⟩
set_option maxRecDepth 100000 in
theorem qo_85 : ai_okM qr_TB qr_Y0 qr_P qm_85 := ⟨by decide +kernel, by decide +kernel, by decide +kernel, by decide +kernel, plainFor_of_name (by decide +kernel), rfl⟩
set_option maxRecDepth 100000 in
theorem qk_85 : ai_okC qr_TB qm_85 := ⟨List.mem_of_getElem? (i := 765) (by decide +kernel), List.mem_of_getElem? (i := 124) (by decide +kernel), by decide, by decide +kernel, by decide +kernel⟩
set_option maxRecDepth 100000 in
theorem qo_86 : ai_okM qr_TB qr_Y0 qr_P qm_86 := ⟨by decide +kernel, by decide +kernel, by decide +kernel, by decide +kernel, plainFor_of_name (by decide +kernel), rfl⟩
set_option maxRecDepth 100000 in
theorem qk_86 : ai_okC qr_TB qm_86 := ⟨List.mem_of_getElem? (i := 769) (by decide +kernel), List.mem_of_getElem? (i := 124) (by decide +kernel), by decide, by decide +kernel, by decide +kernel⟩
set_option maxRecDepth 100000 in
theorem qo_87 : ai_okM qr_TB qr_Y0 qr_P qm_87 := ⟨by decide +kernel, by decide +kernel, by decide +kernel, by decide +kernel, plainFor_of_name (by decide +kernel), rfl⟩
set_option maxRecDepth 100000 in
theorem qk_87 : ai_okC qr_TB qm_87 := ⟨List.mem_of_getElem? (i := 778) (by decide +kernel), List.mem_of_getElem? (i := 124) (by decide +kernel), by decide, by decide +kernel, by decide +kernel⟩
set_option maxRecDepth 100000 in
theorem qo_88 : ai_okM qr_TB qr_Y0 qr_P qm_88 := ⟨by decide +kernel, by decide +kernel, by decide +kernel, by decide +kernel, plainFor_of_name (by decide +kernel), rfl⟩
set_option maxRecDepth 100000 in
theorem qk_88 : ai_okC qr_TB qm_88 := ⟨List.mem_of_getElem? (i := 784) (by decide +kernel), List.mem_of_getElem? (i := 124) (by decide +kernel), by decide, by decide +kernel, by decide +kernel⟩
set_option maxRecDepth 100000 in
theorem qo_89 : ai_okM qr_TB qr_Y0 qr_P qm_89 := ⟨by decide +kernel, by decide +kernel, by decide +kernel, by decide +kernel, plainFor_of_name (by decide +kernel), rfl⟩
set_option maxRecDepth 100000 in
theorem qk_89 : ai_okC qr_TB qm_89 := ⟨List.mem_of_getElem? (i := 791) (by decide +kernel), List.mem_of_getElem? (i := 124) (by decide +kernel), by decide, by decide +kernel, by decide +kernel⟩
set_option maxRecDepth 100000 in
theorem qo_90 : ai_okM qr_TB qr_Y0 qr_P qm_90 := ⟨by decide +kernel, by decide +kernel, by decide +kernel, by decide +kernel, plainFor_of_name (by decide +kernel), rfl⟩
set_option maxRecDepth 100000 in
theorem qk_90 : ai_okC qr_TB qm_90 := ⟨List.mem_of_getElem? (i := 800) (by decide +kernel), List.mem_of_getElem? (i := 124) (by decide +kernel), by decide, by decide +kernel, by decide +kernel⟩
set_option maxRecDepth 100000 in
theorem qo_91 : ai_okM qr_TB qr_Y0 qr_P qm_91 := ⟨by decide +kernel, by decide +kernel, by decide +kernel, by decide +kernel, plainFor_of_name (by decide +kernel), rfl⟩
set_option maxRecDepth 100000 in
theorem qk_91 : ai_okC qr_TB qm_91 := ⟨List.mem_of_getElem? (i := 805) (by decide +kernel), List.mem_of_getElem? (i := 125) (by decide +kernel), by decide, by decide +kernel, by decide +kernel⟩
set_option maxRecDepth 100000 in
theorem qo_92 : ai_okM qr_TB qr_Y0 qr_P qm_92 := ⟨by decide +kernel, by decide +kernel, by decide +kernel, by decide +kernel, plainFor_of_name (by decide +kernel), rfl⟩
set_option maxRecDepth 100000 in
theorem qk_92 : ai_okC qr_TB qm_92 := ⟨List.mem_of_getElem? (i := 810) (by decide +kernel), List.mem_of_getElem? (i := 124) (by decide +kernel), by decide, by decide +kernel, by decide +kernel⟩
set_option maxRecDepth 100000 in
theorem qo_93 : ai_okM qr_TB qr_Y0 qr_P qm_93 := ⟨by decide +kernel, by decide +kernel, by decide +kernel, by decide +kernel, plainFor_of_name (by decide +kernel), rfl⟩
set_option maxRecDepth 100000 in
theorem qk_93 : ai_okC qr_TB qm_93 := ⟨List.mem_of_getElem? (i := 814) (by decide +kernel), List.mem_of_getElem? (i := 123) (by decide +kernel), by decide, by decide +kernel, by decide +kernel⟩
set_option maxRecDepth 100000 in
theorem qo_94 : ai_okM qr_TB qr_Y0 qr_P qm_94 := ⟨by decide +kernel, by decide +kernel, by decide +kernel, by decide +kernel, plainFor_of_name (by decide +kernel), rfl⟩
set_option maxRecDepth 100000 in
theorem qk_94 : ai_okC qr_TB qm_94 := ⟨List.mem_of_getElem? (i := 818) (by decide +kernel), List.mem_of_getElem? (i := 123) (by decide +kernel), by decide, by decide +kernel, by decide +kernel⟩
set_option maxRecDepth 100000 in
theorem qo_95 : ai_okM qr_TB qr_Y0 qr_P qm_95 := ⟨by decide +kernel, by decide +kernel, by decide +kernel, by decide +kernel, plainFor_of_name (by decide +kernel), rfl⟩
set_option maxRecDepth 100000 in
theorem qk_95 : ai_okC qr_TB qm_95 := ⟨List.mem_of_getElem? (i := 823) (by decide +kernel), List.mem_of_getElem? (i := 123) (by decide +kernel), by decide, by decide +kernel, by decide +kernel⟩
set_option maxRecDepth 100000 in
theorem qo_96 : ai_okM qr_TB qr_Y0 qr_P qm_96 := ⟨by decide +kernel, by decide +kernel, by decide +kernel, by decide +kernel, plainFor_of_name (by decide +kernel), rfl⟩
set_option maxRecDepth 100000 in
theorem qk_96 : ai_okC qr_TB qm_96 := ⟨List.mem_of_getElem? (i := 827) (by decide +kernel), List.mem_of_getElem? (i := 125) (by decide +kernel), by decide, by decide +kernel, by decide +kernel⟩
set_option maxRecDepth 100000 in
theorem qo_97 : ai_okM qr_TB qr_Y0 qr_P qm_97 := ⟨by decide +kernel, by decide +kernel, by decide +kernel, by decide +kernel, plainFor_of_name (by decide +kernel), rfl⟩
set_option maxRecDepth 100000 in
theorem qk_97 : ai_okC qr_TB qm_97 := ⟨List.mem_of_getElem? (i := 831) (by decide +kernel), List.mem_of_getElem? (i := 123) (by decide +kernel), by decide, by decide +kernel, by decide +kernel⟩
set_option maxRecDepth 100000 in
theorem qo_98 : ai_okM qr_TB qr_Y0 qr_P qm_98 := ⟨by decide +kernel, by decide +kernel, by decide +kernel, by decide +kernel, plainFor_of_name (by decide +kernel), rfl⟩
set_option maxRecDepth 100000 in
theorem qk_98 : ai_okC qr_TB qm_98 := ⟨List.mem_of_getElem? (i := 835) (by decide +kernel), List.mem_of_getElem? (i := 129) (by decide +kernel), by decide, by decide +kernel, by decide +kernel⟩
set_option maxRecDepth 100000 in
theorem qo_99 : ai_okM qr_TB qr_Y0 qr_P qm_99 := ⟨by decide +kernel, by decide +kernel, by decide +kernel, by decide +kernel, plainFor_of_name (by decide +kernel), rfl⟩
set_option maxRecDepth 100000 in
theorem qk_99 : ai_okC qr_TB qm_99 := ⟨List.mem_of_getElem? (i := 840) (by decide +kernel), List.mem_of_getElem? (i := 129) (by decide +kernel), by decide, by decide +kernel, by decide +kernel⟩
