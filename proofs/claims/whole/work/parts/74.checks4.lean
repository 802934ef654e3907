/-! PRINTED BY wip/whole/print.py: checks of the methods' tables. -/
set_option maxRecDepth 100000 in
theorem qo_100 : ai_okM qr_TB qr_Y0 qr_P qm_100 := ⟨by decide +kernel, by decide +kernel, by decide +kernel, by decide +kernel, plainFor_of_name (by decide +kernel), rfl⟩
set_option maxRecDepth 100000 in
theorem qk_100 : ai_okC qr_TB qm_100 := ⟨List.mem_of_getElem? (i := 845) (by decide +kernel), List.mem_of_getElem? (i := 129) (by decide +kernel), by decide, by decide +kernel, by decide +kernel⟩
set_option maxRecDepth 100000 in
theorem qo_101 : ai_okM qr_TB qr_Y0 qr_P qm_101 := ⟨by decide +kernel, by decide +kernel, by decide +kernel, by decide +kernel, plainFor_of_name (by decide +kernel), rfl⟩
set_option maxRecDepth 100000 in
theorem qk_101 : ai_okC qr_TB qm_101 := ⟨List.mem_of_getElem? (i := 848) (by decide +kernel), List.mem_of_getElem? (i := 129) (by decide +kernel), by decide, by decide +kernel, by decide +kernel⟩
set_option maxRecDepth 100000 in
theorem qo_102 : ai_okM qr_TB qr_Y0 qr_P qm_102 := ⟨by decide +kernel, by decide +kernel, by decide +kernel, by decide +kernel, plainFor_of_name (by decide +kernel), rfl⟩
set_option maxRecDepth 100000 in
theorem qk_102 : ai_okC qr_TB qm_102 := ⟨List.mem_of_getElem? (i := 851) (by decide +kernel), List.mem_of_getElem? (i := 129) (by decide +kernel), by decide, by decide +kernel, by decide +kernel⟩
set_option maxRecDepth 100000 in
theorem qo_103 : ai_okM qr_TB qr_Y0 qr_P qm_103 := ⟨by decide +kernel, by decide +kernel, by decide +kernel, by decide +kernel, plainFor_of_name (by decide +kernel), rfl⟩
set_option maxRecDepth 100000 in
theorem qk_103 : ai_okC qr_TB qm_103 := ⟨List.mem_of_getElem? (i := 855) (by decide +kernel), List.mem_of_getElem? (i := 123) (by decide +kernel), by decide, by decide +kernel, by decide +kernel⟩
set_option maxRecDepth 100000 in
theorem qo_104 : ai_okM qr_TB qr_Y0 qr_P qm_104 := ⟨by decide +kernel, by decide +kernel, by decide +kernel, by decide +kernel, plainFor_of_name (by decide +kernel), rfl⟩
set_option maxRecDepth 100000 in
theorem qk_104 : ai_okC qr_TB qm_104 := ⟨List.mem_of_getElem? (i := 859) (by decide +kernel), List.mem_of_getElem? (i := 124) (by decide +kernel), by decide, by decide +kernel, by decide +kernel⟩
set_option maxRecDepth 100000 in
theorem qo_105 : ai_okM qr_TB qr_Y0 qr_P qm_105 := ⟨by decide +kernel, by decide +kernel, by decide +kernel, by decide +kernel, plainFor_of_name (by decide +kernel), rfl⟩
set_option maxRecDepth 100000 in
theorem qk_105 : ai_okC qr_TB qm_105 := ⟨List.mem_of_getElem? (i := 863) (by decide +kernel), List.mem_of_getElem? (i := 123) (by decide +kernel), by decide, by decide +kernel, by decide +kernel⟩
set_option maxRecDepth 100000 in
theorem qo_106 : ai_okM qr_TB qr_Y0 qr_P qm_106 := ⟨by decide +kernel, by decide +kernel, by decide +kernel, by decide +kernel, plainFor_of_name (by decide +kernel), rfl⟩
set_option maxRecDepth 100000 in
theorem qk_106 : ai_okC qr_TB qm_106 := ⟨List.mem_of_getElem? (i := 868) (by decide +kernel), List.mem_of_getElem? (i := 125) (by decide +kernel), by decide, by decide +kernel, by decide +kernel⟩
set_option maxRecDepth 100000 in
theorem qo_107 : ai_okM qr_TB qr_Y0 qr_P qm_107 := ⟨by decide +kernel, by decide +kernel, by decide +kernel, by decide +kernel, plainFor_of_name (by decide +kernel), rfl⟩
set_option maxRecDepth 100000 in
theorem qk_107 : ai_okC qr_TB qm_107 := ⟨List.mem_of_getElem? (i := 871) (by decide +kernel), List.mem_of_getElem? (i := 122) (by decide +kernel), by decide, by decide +kernel, by decide +kernel⟩
set_option maxRecDepth 100000 in
theorem qo_108 : ai_okM qr_TB qr_Y0 qr_P qm_108 := ⟨by decide +kernel, by decide +kernel, by decide +kernel, by decide +kernel, plainFor_of_name (by decide +kernel), rfl⟩
set_option maxRecDepth 100000 in
theorem qk_108 : ai_okC qr_TB qm_108 := ⟨List.mem_of_getElem? (i := 876) (by decide +kernel), List.mem_of_getElem? (i := 123) (by decide +kernel), by decide, by decide +kernel, by decide +kernel⟩
set_option maxRecDepth 100000 in
theorem qo_109 : ai_okM qr_TB qr_Y0 qr_P qm_109 := ⟨by decide +kernel, by decide +kernel, by decide +kernel, by decide +kernel, plainFor_of_name (by decide +kernel), rfl⟩
set_option maxRecDepth 100000 in
theorem qk_109 : ai_okC qr_TB qm_109 := ⟨List.mem_of_getElem? (i := 896) (by decide +kernel), List.mem_of_getElem? (i := 125) (by decide +kernel), by decide, by decide +kernel, by decide +kernel⟩
set_option maxRecDepth 100000 in
theorem qo_110 : ai_okM qr_TB qr_Y0 qr_P qm_110 := ⟨by decide +kernel, by decide +kernel, by decide +kernel, by decide +kernel, plainFor_of_name (by decide +kernel), rfl⟩
set_option maxRecDepth 100000 in
theorem qk_110 : ai_okC qr_TB qm_110 := ⟨List.mem_of_getElem? (i := 899) (by decide +kernel), List.mem_of_getElem? (i := 122) (by decide +kernel), by decide, by decide +kernel, by decide +kernel⟩
set_option maxRecDepth 100000 in
theorem qo_111 : ai_okM qr_TB qr_Y0 qr_P qm_111 := ⟨by decide +kernel, by decide +kernel, by decide +kernel, by decide +kernel, plainFor_of_name (by decide +kernel), rfl⟩
set_option maxRecDepth 100000 in
theorem qk_111 : ai_okC qr_TB qm_111 := ⟨List.mem_of_getElem? (i := 904) (by decide +kernel), List.mem_of_getElem? (i := 123) (by decide +kernel), by decide, by decide +kernel, by decide +kernel⟩
set_option maxRecDepth 100000 in
theorem qo_112 : ai_okM qr_TB qr_Y0 qr_P qm_112 := ⟨by decide +kernel, by decide +kernel, by decide +kernel, by decide +kernel, plainFor_of_name (by decide +kernel), rfl⟩
set_option maxRecDepth 100000 in
theorem qk_112 : ai_okC qr_TB qm_112 := ⟨List.mem_of_getElem? (i := 908) (by decide +kernel), List.mem_of_getElem? (i := 122) (by decide +kernel), by decide, by decide +kernel, by decide +kernel⟩
set_option maxRecDepth 100000 in
theorem qo_113 : ai_okM qr_TB qr_Y0 qr_P qm_113 := ⟨by decide +kernel, by decide +kernel, by decide +kernel, by decide +kernel, plainFor_of_name (by decide +kernel), rfl⟩
set_option maxRecDepth 100000 in
theorem qk_113 : ai_okC qr_TB qm_113 := ⟨List.mem_of_getElem? (i := 913) (by decide +kernel), List.mem_of_getElem? (i := 123) (by decide +kernel), by decide, by decide +kernel, by decide +kernel⟩
set_option maxRecDepth 100000 in
theorem qo_114 : ai_okM qr_TB qr_Y0 qr_P qm_114 := ⟨by decide +kernel, by decide +kernel, by decide +kernel, by decide +kernel, plainFor_of_name (by decide +kernel), rfl⟩
set_option maxRecDepth 100000 in
theorem qk_114 : ai_okC qr_TB qm_114 := ⟨List.mem_filter.mpr ⟨List.mem_append_right _ (show Cond.code ⟨"QueryReaderModel", "<init>", "()V"⟩ prog_9_method_1_code 1 none ∈ tables_1_1 ++ (tables_1_2 ++ (tables_1_3 ++ (tables_1_4 ++ (tables_1_5 ++ (tables_1_6 ++ tables_1_7))))) from List.mem_append_right _ (List.mem_append_right _ (List.mem_append_right _ (List.mem_append_left _ (List.mem_of_getElem? (i := 208) rfl))))), rfl⟩, List.mem_of_getElem? (i := 130) (by decide +kernel), by decide, by decide +kernel, by decide +kernel⟩
set_option maxRecDepth 100000 in
theorem qo_115 : ai_okM qr_TB qr_Y0 qr_P qm_115 := ⟨by decide +kernel, by decide +kernel, by decide +kernel, by decide +kernel, plainFor_of_name (by decide +kernel), rfl⟩
set_option maxRecDepth 100000 in
theorem qk_115 : ai_okC qr_TB qm_115 := ⟨List.mem_of_getElem? (i := 1020) (by decide +kernel), List.mem_of_getElem? (i := 130) (by decide +kernel), by decide, by decide +kernel, by decide +kernel⟩
set_option maxRecDepth 100000 in
theorem qo_116 : ai_okM qr_TB qr_Y0 qr_P qm_116 := ⟨by decide +kernel, by decide +kernel, by decide +kernel, by decide +kernel, plainFor_of_name (by decide +kernel), rfl⟩
set_option maxRecDepth 100000 in
theorem qk_116 : ai_okC qr_TB qm_116 := ⟨List.mem_of_getElem? (i := 1024) (by decide +kernel), List.mem_of_getElem? (i := 130) (by decide +kernel), by decide, by decide +kernel, by decide +kernel⟩
set_option maxRecDepth 100000 in
theorem qo_117 : ai_okM qr_TB qr_Y0 qr_P qm_117 := ⟨by decide +kernel, by decide +kernel, by decide +kernel, by decide +kernel, plainFor_of_name (by decide +kernel), rfl⟩
set_option maxRecDepth 100000 in
theorem qk_117 : ai_okC qr_TB qm_117 := ⟨List.mem_of_getElem? (i := 1028) (by decide +kernel), List.mem_of_getElem? (i := 130) (by decide +kernel), by decide, by decide +kernel, by decide +kernel⟩
set_option maxRecDepth 100000 in
theorem qo_118 : ai_okM qr_TB qr_Y0 qr_P qm_118 := ⟨by decide +kernel, by decide +kernel, by decide +kernel, by decide +kernel, plainFor_of_name (by decide +kernel), rfl⟩
set_option maxRecDepth 100000 in
theorem qk_118 : ai_okC qr_TB qm_118 := ⟨List.mem_of_getElem? (i := 1032) (by decide +kernel), List.mem_of_getElem? (i := 130) (by decide +kernel), by decide, by decide +kernel, by decide +kernel⟩
set_option maxRecDepth 100000 in
theorem qo_119 : ai_okM qr_TB qr_Y0 qr_P qm_119 := ⟨by decide +kernel, by decide +kernel, by decide +kernel, by decide +kernel, plainFor_of_name (by decide +kernel), rfl⟩
set_option maxRecDepth 100000 in
theorem qk_119 : ai_okC qr_TB qm_119 := ⟨List.mem_of_getElem? (i := 1037) (by decide +kernel), List.mem_of_getElem? (i := 130) (by decide +kernel), by decide, by decide +kernel, by decide +kernel⟩
set_option maxRecDepth 100000 in
theorem qo_120 : ai_okM qr_TB qr_Y0 qr_P qm_120 := ⟨by decide +kernel, by decide +kernel, by decide +kernel, by decide +kernel, plainFor_of_name (by decide +kernel), rfl⟩
set_option maxRecDepth 100000 in
theorem qk_120 : ai_okC qr_TB qm_120 := ⟨List.mem_of_getElem? (i := 1041) (by decide +kernel), List.mem_of_getElem? (i := 130) (by decide +kernel), by decide, by decide +kernel, by decide +kernel⟩
set_option maxRecDepth 100000 in
theorem qo_121 : ai_okM qr_TB qr_Y0 qr_P qm_121 := ⟨by decide +kernel, by decide +kernel, by decide +kernel, by decide +kernel, plainFor_of_name (by decide +kernel), rfl⟩
set_option maxRecDepth 100000 in
theorem qk_121 : ai_okC qr_TB qm_121 := ⟨List.mem_of_getElem? (i := 1045) (by decide +kernel), List.mem_of_getElem? (i := 130) (by decide +kernel), by decide, by decide +kernel, by decide +kernel⟩
set_option maxRecDepth 100000 in
theorem qo_122 : ai_okM qr_TB qr_Y0 qr_P qm_122 := ⟨by decide +kernel, by decide +kernel, by decide +kernel, by decide +kernel, plainFor_of_name (by decide +kernel), rfl⟩
set_option maxRecDepth 100000 in
theorem qk_122 : ai_okC qr_TB qm_122 := ⟨List.mem_of_getElem? (i := 1049) (by decide +kernel), List.mem_of_getElem? (i := 130) (by decide +kernel), by decide, by decide +kernel, by decide +kernel⟩
set_option maxRecDepth 100000 in
theorem qo_123 : ai_okM qr_TB qr_Y0 qr_P qm_123 := ⟨by decide +kernel, by decide +kernel, by decide +kernel, by decide +kernel, plainFor_of_name (by decide +kernel), rfl⟩
set_option maxRecDepth 100000 in
theorem qk_123 : ai_okC qr_TB qm_123 := ⟨List.mem_of_getElem? (i := 1052) (by decide +kernel), List.mem_of_getElem? (i := 130) (by decide +kernel), by decide, by decide +kernel, by decide +kernel⟩
set_option maxRecDepth 100000 in
theorem qo_124 : ai_okM qr_TB qr_Y0 qr_P qm_124 := ⟨by decide +kernel, by decide +kernel, by decide +kernel, by decide +kernel, plainFor_of_name (by decide +kernel), rfl⟩
set_option maxRecDepth 100000 in
theorem qk_124 : ai_okC qr_TB qm_124 := ⟨List.mem_of_getElem? (i := 1055) (by decide +kernel), List.mem_of_getElem? (i := 130) (by decide +kernel), by decide, by decide +kernel, by decide +kernel⟩
