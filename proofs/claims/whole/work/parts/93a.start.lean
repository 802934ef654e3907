/-! THE LAW'S START: the small constructors. (Printed by wip/whole/pp.py from wip/whole/src.) -/
section LST
variable {L : Nat} {xs : Nat → Int32} {d a : Nat} {h : ai_H} {v0 v1 : Value}
/-- Row() -/
theorem s_row (c : h.1[a]? = some (ai_obj 3 [v0, v1])) : qe L xs (d + 1) 2 [.ref a] h (.inl none, ((h.1 ++ [ai_num .byte 256 (fun _ => 0)]).set a (ai_obj 3 [.ref h.1.length, .int 0]), h.2.1 + 1, h.2.2 + 256)) := by
  refine qe_of (M := qm_2) rfl rfl ?_
  show qg L xs _ qm_2 0 [some (.ref a)] [] h _
  refine qg_pls (n := 1) (k' := 1) (lo' := [some (.ref a)]) (S' := [.ref a]) (h' := h) rfl ?_
  refine qg_obj rfl rfl ?_
  refine qg_pls (n := 2) (k' := 4) (lo' := [some (.ref a)]) (S' := [.int 256, .ref a]) (h' := h) rfl ?_
  refine qg_newa rfl (by decide) (by decide) ?_
  show qg L xs _ qm_2 5 [some (.ref a)] [.ref h.1.length, .ref a] (h.1 ++ [ai_num .byte 256 (fun _ => 0)], h.2.1 + 1, h.2.2 + 256) _
  refine qg_putf rfl (q_app c) rfl rfl (Nat.le_of_ble_eq_true rfl) rfl ?_
  show qg L xs _ qm_2 6 [some (.ref a)] [] ((h.1 ++ [ai_num .byte 256 (fun _ => 0)]).set a (ai_obj 3 [.ref h.1.length, v1]), h.2.1 + 1, h.2.2 + 256) _
  refine qg_pls (n := 2) (k' := 8) (lo' := [some (.ref a)]) (S' := [.int 0, .ref a]) (h' := ((h.1 ++ [ai_num .byte 256 (fun _ => 0)]).set a (ai_obj 3 [.ref h.1.length, v1]), h.2.1 + 1, h.2.2 + 256)) rfl ?_
  refine qg_putf rfl (q_set (q_app c)) rfl rfl (Nat.le_of_ble_eq_true rfl) rfl ?_
  rw [List.set_set]
  show qg L xs _ qm_2 9 [some (.ref a)] [] ((h.1 ++ [ai_num .byte 256 (fun _ => 0)]).set a (ai_obj 3 [.ref h.1.length, .int 0]), h.2.1 + 1, h.2.2 + 256) _
  exact qg_ret7 rfl
/-- Names() -/
theorem s_names (c : h.1[a]? = some (ai_obj 2 [v0])) : qe L xs (d + 1) 4 [.ref a] h (.inl none, ((h.1 ++ [ai_num .int 16 (fun _ => 0)]).set a (ai_obj 2 [.ref h.1.length]), h.2.1 + 1, h.2.2 + 16)) := by
  refine qe_of (M := qm_4) rfl rfl ?_
  show qg L xs _ qm_4 0 [some (.ref a)] [] h _
  refine qg_pls (n := 1) (k' := 1) (lo' := [some (.ref a)]) (S' := [.ref a]) (h' := h) rfl ?_
  refine qg_obj rfl rfl ?_
  refine qg_pls (n := 2) (k' := 4) (lo' := [some (.ref a)]) (S' := [.int 16, .ref a]) (h' := h) rfl ?_
  refine qg_newa rfl (by decide) (by decide) ?_
  show qg L xs _ qm_4 5 [some (.ref a)] [.ref h.1.length, .ref a] (h.1 ++ [ai_num .int 16 (fun _ => 0)], h.2.1 + 1, h.2.2 + 16) _
  refine qg_putf rfl (q_app c) rfl rfl (Nat.le_of_ble_eq_true rfl) rfl ?_
  show qg L xs _ qm_4 6 [some (.ref a)] [] ((h.1 ++ [ai_num .int 16 (fun _ => 0)]).set a (ai_obj 2 [.ref h.1.length]), h.2.1 + 1, h.2.2 + 16) _
  exact qg_ret7 rfl
end LST
