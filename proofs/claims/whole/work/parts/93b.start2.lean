/-! THE LAW'S START: Tokens. (Printed by wip/whole/pp.py from wip/whole/src.) -/
section LSU
variable {L : Nat} {xs : Nat → Int32} {d a : Nat} {h : ai_H} {v0 v1 v2 v3 v4 : Value}
theorem q_sapp {X : List ai_C} {o y : ai_C} (ha : a < X.length) : X.set a o ++ [y] = (X ++ [y]).set a o := (List.set_append_left a o ha).symm
/-- Tokens() -/
theorem s_toks (c : h.1[a]? = some (ai_obj 4 [v0, v1, v2, v3, v4])) : qe L xs (d + 1) 3 [.ref a] h (.inl none, (((h.1 ++ [ai_refs "QueryReader$Sort" 64 (fun _ => .null)]) ++ [ai_num .int 64 (fun _ => 0)] ++ [ai_num .int 64 (fun _ => 0)]).set a (ai_obj 4 [.ref h.1.length, .ref (h.1.length + 1), .ref (h.1.length + 2), .int 0, .int 0]), h.2.1 + 1 + 1 + 1, h.2.2 + 64 + 64 + 64)) := by
  have ha := q_lt c
  have n1 : (h.1 ++ [ai_refs "QueryReader$Sort" 64 (fun _ => .null)]).length = h.1.length + 1 := by rw [List.length_append]; rfl
  have c1 := q_app (z := [ai_refs "QueryReader$Sort" 64 (fun _ => .null)]) c
  generalize hX : h.1 ++ [ai_refs "QueryReader$Sort" 64 (fun _ => .null)] = X at n1 c1 ⊢
  have n2 : (X ++ [ai_num .int 64 (fun _ => 0)]).length = h.1.length + 2 := by rw [List.length_append, n1]; rfl
  have c2 := q_app (z := [ai_num .int 64 (fun _ => 0)]) c1
  generalize hY : X ++ [ai_num .int 64 (fun _ => 0)] = Y at n2 c2 ⊢
  have c3 := q_app (z := [ai_num .int 64 (fun _ => 0)]) c2
  refine qe_of (M := qm_3) rfl rfl ?_
  show qg L xs _ qm_3 0 [some (.ref a)] [] h _
  refine qg_pls (n := 1) (k' := 1) (lo' := [some (.ref a)]) (S' := [.ref a]) (h' := h) rfl ?_
  refine qg_obj rfl rfl ?_
  refine qg_pls (n := 2) (k' := 4) (lo' := [some (.ref a)]) (S' := [.int 64, .ref a]) (h' := h) rfl ?_
  refine qg_eff (k' := 5) (t := 0) (lo' := [some (.ref a)]) (S' := [.ref h.1.length, .ref a]) (h' := (h.1 ++ [ai_refs "QueryReader$Sort" 64 (fun _ => .null)], h.2.1 + 1, h.2.2 + 64)) rfl rfl rfl ?_
  rw [hX]
  refine qg_putf rfl c1 rfl rfl (Nat.le_of_ble_eq_true rfl) rfl ?_
  show qg L xs _ qm_3 6 [some (.ref a)] [] (X.set a (ai_obj 4 [.ref h.1.length, v1, v2, v3, v4]), h.2.1 + 1, h.2.2 + 64) _
  refine qg_pls (n := 2) (k' := 8) (lo' := [some (.ref a)]) (S' := [.int 64, .ref a]) (h' := (X.set a (ai_obj 4 [.ref h.1.length, v1, v2, v3, v4]), h.2.1 + 1, h.2.2 + 64)) rfl ?_
  refine qg_newa rfl (by decide) (by decide) ?_
  show qg L xs _ qm_3 9 [some (.ref a)] [.ref (X.set a (ai_obj 4 [.ref h.1.length, v1, v2, v3, v4])).length, .ref a] (X.set a (ai_obj 4 [.ref h.1.length, v1, v2, v3, v4]) ++ [ai_num .int 64 (fun _ => 0)], h.2.1 + 1 + 1, h.2.2 + 64 + 64) _
  rw [List.length_set, n1, q_sapp (q_lt c1), hY]
  refine qg_putf rfl (q_set c2) rfl rfl (Nat.le_of_ble_eq_true rfl) rfl ?_
  rw [List.set_set]
  show qg L xs _ qm_3 10 [some (.ref a)] [] (Y.set a (ai_obj 4 [.ref h.1.length, .ref (h.1.length + 1), v2, v3, v4]), h.2.1 + 1 + 1, h.2.2 + 64 + 64) _
  refine qg_pls (n := 2) (k' := 12) (lo' := [some (.ref a)]) (S' := [.int 64, .ref a]) (h' := (Y.set a (ai_obj 4 [.ref h.1.length, .ref (h.1.length + 1), v2, v3, v4]), h.2.1 + 1 + 1, h.2.2 + 64 + 64)) rfl ?_
  refine qg_newa rfl (by decide) (by decide) ?_
  show qg L xs _ qm_3 13 [some (.ref a)] [.ref (Y.set a (ai_obj 4 [.ref h.1.length, .ref (h.1.length + 1), v2, v3, v4])).length, .ref a] (Y.set a (ai_obj 4 [.ref h.1.length, .ref (h.1.length + 1), v2, v3, v4]) ++ [ai_num .int 64 (fun _ => 0)], h.2.1 + 1 + 1 + 1, h.2.2 + 64 + 64 + 64) _
  rw [List.length_set, n2, q_sapp (q_lt c2)]
  generalize Y ++ [ai_num .int 64 (fun _ => 0)] = W at c3 ⊢
  refine qg_putf rfl (q_set c3) rfl rfl (Nat.le_of_ble_eq_true rfl) rfl ?_
  rw [List.set_set]
  show qg L xs _ qm_3 14 [some (.ref a)] [] (W.set a (ai_obj 4 [.ref h.1.length, .ref (h.1.length + 1), .ref (h.1.length + 2), v3, v4]), h.2.1 + 1 + 1 + 1, h.2.2 + 64 + 64 + 64) _
  refine qg_pls (n := 2) (k' := 16) (lo' := [some (.ref a)]) (S' := [.int 0, .ref a]) (h' := (W.set a (ai_obj 4 [.ref h.1.length, .ref (h.1.length + 1), .ref (h.1.length + 2), v3, v4]), h.2.1 + 1 + 1 + 1, h.2.2 + 64 + 64 + 64)) rfl ?_
  refine qg_putf rfl (q_set c3) rfl rfl (Nat.le_of_ble_eq_true rfl) rfl ?_
  rw [List.set_set]
  show qg L xs _ qm_3 17 [some (.ref a)] [] (W.set a (ai_obj 4 [.ref h.1.length, .ref (h.1.length + 1), .ref (h.1.length + 2), .int 0, v4]), h.2.1 + 1 + 1 + 1, h.2.2 + 64 + 64 + 64) _
  refine qg_pls (n := 2) (k' := 19) (lo' := [some (.ref a)]) (S' := [.int 0, .ref a]) (h' := (W.set a (ai_obj 4 [.ref h.1.length, .ref (h.1.length + 1), .ref (h.1.length + 2), .int 0, v4]), h.2.1 + 1 + 1 + 1, h.2.2 + 64 + 64 + 64)) rfl ?_
  refine qg_putf rfl (q_set c3) rfl rfl (Nat.le_of_ble_eq_true rfl) rfl ?_
  rw [List.set_set]
  show qg L xs _ qm_3 20 [some (.ref a)] [] (W.set a (ai_obj 4 [.ref h.1.length, .ref (h.1.length + 1), .ref (h.1.length + 2), .int 0, .int 0]), h.2.1 + 1 + 1 + 1, h.2.2 + 64 + 64 + 64) _
  exact qg_ret7 rfl
end LSU
