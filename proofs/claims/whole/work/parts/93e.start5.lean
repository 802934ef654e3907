/-! THE LAW'S START: the model's words. (Printed by wip/whole/start.py.) -/
section LSW
variable {L : Nat} {xs : Nat → Int32} {d : Nat} {X : List ai_C} {c : Nat × Nat}
/-- before the j-th word -/
def s_wp (L : Nat) (xs : Nat → Int32) (d : Nat) (X : List ai_C) (c : Nat × Nat) (j : Nat) : Prop := ∀ g : Nat → Value, (∀ i, i < j → g i = .retAddr (qr_en.getD i (0, 0)).1) → ∃ g2 : Nat → Value, (∀ i, i < 82 → g2 i = .retAddr (qr_en.getD i (0, 0)).1) ∧ ∀ o, qg L xs d qm_114 333 [some (.ref 14)] [.ref 15, .ref 14] (X ++ [ai_refs "java/lang/String" 82 g2], c) o → qg L xs d qm_114 (5 + 4 * j) [some (.ref 14)] [.ref 15, .ref 14] (X ++ [ai_refs "java/lang/String" 82 g], c) o
theorem s_wd {v j pc ln : Nat} {rs : List Int} {nm : String} (hX : X.length = 15) (hj : j < 82) (hv : (qr_en.getD j (0, 0)).1 = v) (hz : qr_Z L xs v = some (ai_obj 7 [.retAddr (v + 1000), .int 0])) (hk : (ai_Mc qm_114)[5 + 4 * j + 3]? = some (pc, .aastore, ln, 0, rs, nm)) (e : ∀ h : ai_H, ai_pl (qr_G L xs) qm_114 3 (5 + 4 * j) [some (.ref 14)] [.ref 15, .ref 14] h = some (5 + 4 * j + 3, [some (.ref 14)], [.retAddr v, .int (nI j), .ref 15, .ref 15, .ref 14], h)) (hg : s_wp L xs d X c (j + 1)) : s_wp L xs d X c j := by
  intro g hgi
  have hw : ∀ i, i < j + 1 → va_up g j (.retAddr v) i = .retAddr (qr_en.getD i (0, 0)).1 := fun i hi => by
    unfold va_up
    by_cases h : i = j
    · subst h; rw [if_pos rfl, hv]
    · rw [if_neg h]; exact hgi i (by omega)
  obtain ⟨g2, h2, h3⟩ := hg _ hw
  refine ⟨g2, h2, fun o ho => ?_⟩
  refine qg_pls (e _) ?_
  have hl : (X ++ [ai_refs "java/lang/String" 82 g])[15]? = some (ai_refs "java/lang/String" 82 g) := by rw [List.getElem?_append_right (by omega), hX]; rfl
  refine qg_aast (C := "java/lang/String") (n := 82) (g := g) (ci := 7) (fs := [.retAddr (v + 1000), .int 0]) hk hl hz rfl hj (by decide) ?_
  have hs : (X ++ [ai_refs "java/lang/String" 82 g]).set 15 (ai_refs "java/lang/String" 82 (va_up g j (.retAddr v))) = X ++ [ai_refs "java/lang/String" 82 (va_up g j (.retAddr v))] := by
    rw [List.set_append_right _ _ (by omega), hX]; rfl
  show qg L xs d qm_114 (5 + 4 * j + 3 + 1) [some (.ref 14)] [.ref 15, .ref 14] ((X ++ [ai_refs "java/lang/String" 82 g]).set 15 (ai_refs "java/lang/String" 82 (va_up g j (.retAddr v))), c) o
  rw [hs]
  exact h3 o ho
theorem s_wz {v : Nat} (h : 1000 ≤ v ∧ v < 1112) : qr_Z L xs v = some (ai_obj 7 [.retAddr (v + 1000), .int 0]) := by
  unfold qr_Z
  rw [if_neg (by omega), if_pos h]
/-- all words -/
theorem s_ws (hX : X.length = 15) : s_wp L xs d X c 0 := by
  refine s_wd (v := 1015) (j := 0) hX (by decide) rfl (s_wz (by decide)) rfl (fun _ => rfl) ?_
  refine s_wd (v := 1016) (j := 1) hX (by decide) rfl (s_wz (by decide)) rfl (fun _ => rfl) ?_
  refine s_wd (v := 1017) (j := 2) hX (by decide) rfl (s_wz (by decide)) rfl (fun _ => rfl) ?_
  refine s_wd (v := 1018) (j := 3) hX (by decide) rfl (s_wz (by decide)) rfl (fun _ => rfl) ?_
  refine s_wd (v := 1019) (j := 4) hX (by decide) rfl (s_wz (by decide)) rfl (fun _ => rfl) ?_
  refine s_wd (v := 1020) (j := 5) hX (by decide) rfl (s_wz (by decide)) rfl (fun _ => rfl) ?_
  refine s_wd (v := 1021) (j := 6) hX (by decide) rfl (s_wz (by decide)) rfl (fun _ => rfl) ?_
  refine s_wd (v := 1022) (j := 7) hX (by decide) rfl (s_wz (by decide)) rfl (fun _ => rfl) ?_
  refine s_wd (v := 1023) (j := 8) hX (by decide) rfl (s_wz (by decide)) rfl (fun _ => rfl) ?_
  refine s_wd (v := 1024) (j := 9) hX (by decide) rfl (s_wz (by decide)) rfl (fun _ => rfl) ?_
  refine s_wd (v := 1025) (j := 10) hX (by decide) rfl (s_wz (by decide)) rfl (fun _ => rfl) ?_
  refine s_wd (v := 1026) (j := 11) hX (by decide) rfl (s_wz (by decide)) rfl (fun _ => rfl) ?_
  refine s_wd (v := 1027) (j := 12) hX (by decide) rfl (s_wz (by decide)) rfl (fun _ => rfl) ?_
  refine s_wd (v := 1028) (j := 13) hX (by decide) rfl (s_wz (by decide)) rfl (fun _ => rfl) ?_
  refine s_wd (v := 1029) (j := 14) hX (by decide) rfl (s_wz (by decide)) rfl (fun _ => rfl) ?_
  refine s_wd (v := 1030) (j := 15) hX (by decide) rfl (s_wz (by decide)) rfl (fun _ => rfl) ?_
  refine s_wd (v := 1031) (j := 16) hX (by decide) rfl (s_wz (by decide)) rfl (fun _ => rfl) ?_
  refine s_wd (v := 1032) (j := 17) hX (by decide) rfl (s_wz (by decide)) rfl (fun _ => rfl) ?_
  refine s_wd (v := 1033) (j := 18) hX (by decide) rfl (s_wz (by decide)) rfl (fun _ => rfl) ?_
  refine s_wd (v := 1034) (j := 19) hX (by decide) rfl (s_wz (by decide)) rfl (fun _ => rfl) ?_
  refine s_wd (v := 1035) (j := 20) hX (by decide) rfl (s_wz (by decide)) rfl (fun _ => rfl) ?_
  refine s_wd (v := 1036) (j := 21) hX (by decide) rfl (s_wz (by decide)) rfl (fun _ => rfl) ?_
  refine s_wd (v := 1037) (j := 22) hX (by decide) rfl (s_wz (by decide)) rfl (fun _ => rfl) ?_
  refine s_wd (v := 1038) (j := 23) hX (by decide) rfl (s_wz (by decide)) rfl (fun _ => rfl) ?_
  refine s_wd (v := 1039) (j := 24) hX (by decide) rfl (s_wz (by decide)) rfl (fun _ => rfl) ?_
  refine s_wd (v := 1040) (j := 25) hX (by decide) rfl (s_wz (by decide)) rfl (fun _ => rfl) ?_
  refine s_wd (v := 1041) (j := 26) hX (by decide) rfl (s_wz (by decide)) rfl (fun _ => rfl) ?_
  refine s_wd (v := 1042) (j := 27) hX (by decide) rfl (s_wz (by decide)) rfl (fun _ => rfl) ?_
  refine s_wd (v := 1043) (j := 28) hX (by decide) rfl (s_wz (by decide)) rfl (fun _ => rfl) ?_
  refine s_wd (v := 1044) (j := 29) hX (by decide) rfl (s_wz (by decide)) rfl (fun _ => rfl) ?_
  refine s_wd (v := 1045) (j := 30) hX (by decide) rfl (s_wz (by decide)) rfl (fun _ => rfl) ?_
  refine s_wd (v := 1046) (j := 31) hX (by decide) rfl (s_wz (by decide)) rfl (fun _ => rfl) ?_
  refine s_wd (v := 1047) (j := 32) hX (by decide) rfl (s_wz (by decide)) rfl (fun _ => rfl) ?_
  refine s_wd (v := 1048) (j := 33) hX (by decide) rfl (s_wz (by decide)) rfl (fun _ => rfl) ?_
  refine s_wd (v := 1049) (j := 34) hX (by decide) rfl (s_wz (by decide)) rfl (fun _ => rfl) ?_
  refine s_wd (v := 1050) (j := 35) hX (by decide) rfl (s_wz (by decide)) rfl (fun _ => rfl) ?_
  refine s_wd (v := 1051) (j := 36) hX (by decide) rfl (s_wz (by decide)) rfl (fun _ => rfl) ?_
  refine s_wd (v := 1052) (j := 37) hX (by decide) rfl (s_wz (by decide)) rfl (fun _ => rfl) ?_
  refine s_wd (v := 1053) (j := 38) hX (by decide) rfl (s_wz (by decide)) rfl (fun _ => rfl) ?_
  refine s_wd (v := 1054) (j := 39) hX (by decide) rfl (s_wz (by decide)) rfl (fun _ => rfl) ?_
  refine s_wd (v := 1055) (j := 40) hX (by decide) rfl (s_wz (by decide)) rfl (fun _ => rfl) ?_
  refine s_wd (v := 1056) (j := 41) hX (by decide) rfl (s_wz (by decide)) rfl (fun _ => rfl) ?_
  refine s_wd (v := 1057) (j := 42) hX (by decide) rfl (s_wz (by decide)) rfl (fun _ => rfl) ?_
  refine s_wd (v := 1058) (j := 43) hX (by decide) rfl (s_wz (by decide)) rfl (fun _ => rfl) ?_
  refine s_wd (v := 1059) (j := 44) hX (by decide) rfl (s_wz (by decide)) rfl (fun _ => rfl) ?_
  refine s_wd (v := 1060) (j := 45) hX (by decide) rfl (s_wz (by decide)) rfl (fun _ => rfl) ?_
  refine s_wd (v := 1061) (j := 46) hX (by decide) rfl (s_wz (by decide)) rfl (fun _ => rfl) ?_
  refine s_wd (v := 1062) (j := 47) hX (by decide) rfl (s_wz (by decide)) rfl (fun _ => rfl) ?_
  refine s_wd (v := 1063) (j := 48) hX (by decide) rfl (s_wz (by decide)) rfl (fun _ => rfl) ?_
  refine s_wd (v := 1064) (j := 49) hX (by decide) rfl (s_wz (by decide)) rfl (fun _ => rfl) ?_
  refine s_wd (v := 1065) (j := 50) hX (by decide) rfl (s_wz (by decide)) rfl (fun _ => rfl) ?_
  refine s_wd (v := 1066) (j := 51) hX (by decide) rfl (s_wz (by decide)) rfl (fun _ => rfl) ?_
  refine s_wd (v := 1067) (j := 52) hX (by decide) rfl (s_wz (by decide)) rfl (fun _ => rfl) ?_
  refine s_wd (v := 1068) (j := 53) hX (by decide) rfl (s_wz (by decide)) rfl (fun _ => rfl) ?_
  refine s_wd (v := 1069) (j := 54) hX (by decide) rfl (s_wz (by decide)) rfl (fun _ => rfl) ?_
  refine s_wd (v := 1070) (j := 55) hX (by decide) rfl (s_wz (by decide)) rfl (fun _ => rfl) ?_
  refine s_wd (v := 1071) (j := 56) hX (by decide) rfl (s_wz (by decide)) rfl (fun _ => rfl) ?_
  refine s_wd (v := 1072) (j := 57) hX (by decide) rfl (s_wz (by decide)) rfl (fun _ => rfl) ?_
  refine s_wd (v := 1073) (j := 58) hX (by decide) rfl (s_wz (by decide)) rfl (fun _ => rfl) ?_
  refine s_wd (v := 1074) (j := 59) hX (by decide) rfl (s_wz (by decide)) rfl (fun _ => rfl) ?_
  refine s_wd (v := 1075) (j := 60) hX (by decide) rfl (s_wz (by decide)) rfl (fun _ => rfl) ?_
  refine s_wd (v := 1076) (j := 61) hX (by decide) rfl (s_wz (by decide)) rfl (fun _ => rfl) ?_
  refine s_wd (v := 1077) (j := 62) hX (by decide) rfl (s_wz (by decide)) rfl (fun _ => rfl) ?_
  refine s_wd (v := 1078) (j := 63) hX (by decide) rfl (s_wz (by decide)) rfl (fun _ => rfl) ?_
  refine s_wd (v := 1079) (j := 64) hX (by decide) rfl (s_wz (by decide)) rfl (fun _ => rfl) ?_
  refine s_wd (v := 1080) (j := 65) hX (by decide) rfl (s_wz (by decide)) rfl (fun _ => rfl) ?_
  refine s_wd (v := 1010) (j := 66) hX (by decide) rfl (s_wz (by decide)) rfl (fun _ => rfl) ?_
  refine s_wd (v := 1081) (j := 67) hX (by decide) rfl (s_wz (by decide)) rfl (fun _ => rfl) ?_
  refine s_wd (v := 1082) (j := 68) hX (by decide) rfl (s_wz (by decide)) rfl (fun _ => rfl) ?_
  refine s_wd (v := 1083) (j := 69) hX (by decide) rfl (s_wz (by decide)) rfl (fun _ => rfl) ?_
  refine s_wd (v := 1084) (j := 70) hX (by decide) rfl (s_wz (by decide)) rfl (fun _ => rfl) ?_
  refine s_wd (v := 1085) (j := 71) hX (by decide) rfl (s_wz (by decide)) rfl (fun _ => rfl) ?_
  refine s_wd (v := 1086) (j := 72) hX (by decide) rfl (s_wz (by decide)) rfl (fun _ => rfl) ?_
  refine s_wd (v := 1087) (j := 73) hX (by decide) rfl (s_wz (by decide)) rfl (fun _ => rfl) ?_
  refine s_wd (v := 1088) (j := 74) hX (by decide) rfl (s_wz (by decide)) rfl (fun _ => rfl) ?_
  refine s_wd (v := 1089) (j := 75) hX (by decide) rfl (s_wz (by decide)) rfl (fun _ => rfl) ?_
  refine s_wd (v := 1090) (j := 76) hX (by decide) rfl (s_wz (by decide)) rfl (fun _ => rfl) ?_
  refine s_wd (v := 1091) (j := 77) hX (by decide) rfl (s_wz (by decide)) rfl (fun _ => rfl) ?_
  refine s_wd (v := 1092) (j := 78) hX (by decide) rfl (s_wz (by decide)) rfl (fun _ => rfl) ?_
  refine s_wd (v := 1093) (j := 79) hX (by decide) rfl (s_wz (by decide)) rfl (fun _ => rfl) ?_
  refine s_wd (v := 1094) (j := 80) hX (by decide) rfl (s_wz (by decide)) rfl (fun _ => rfl) ?_
  refine s_wd (v := 1095) (j := 81) hX (by decide) rfl (s_wz (by decide)) rfl (fun _ => rfl) ?_
  exact fun g hg => ⟨g, hg, fun _ ho => ho⟩
end LSW
