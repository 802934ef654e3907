/-! ROWS OF BYTES: words, slices, brackets. (Printed by wip/whole/pp.py from wip/whole/src.) -/
section QRY
variable {L : Nat} {xs : Nat → Int32} {d : Nat} {h h' : ai_H}
theorem qrow_obj {r b len : Nat} {t : List Int32} (hr : qrow h r b len t) : h.1[r]? = some (ai_obj 3 [.ref b, .int (nI t.length)]) := by
  obtain ⟨f, h1, -⟩ := hr
  exact h1
theorem qrow_arr {r b len : Nat} {t : List Int32} (hr : qrow h r b len t) : ∃ f, h.1[b]? = some (ai_num .byte len f) := by
  obtain ⟨f, h1, h2, -⟩ := hr
  exact ⟨f, h2⟩
theorem qrow_ne {r b len r2 b2 len2 : Nat} {t u : List Int32} (hr : qrow h r b len t) (hr2 : qrow h r2 b2 len2 u) : r2 ≠ b := by
  obtain ⟨f, h2⟩ := qrow_arr hr
  exact q_ne (qrow_obj hr2) h2 (by intro e; cases e)
/-- another row stays -/
theorem qrow_keep {r b len b' len' r2 b2 len2 : Nat} {t u : List Int32} (hq : qro r h b len h' b' len') (hr : qrow h r b len t) (hr2 : qrow h r2 b2 len2 u) (n1 : r2 ≠ r) (n2 : b2 ≠ b) : qrow h' r2 b2 len2 u ∧ b2 ≠ b' := by
  have m1 := qrow_ne hr hr2
  have m2 := qrow_ne hr2 hr
  obtain ⟨f, h1, h2, h3, h4, h5⟩ := hr2
  obtain ⟨q1, q2, q3, -⟩ := hq
  have l1 := q_lt h1
  have l2 := q_lt h2
  refine ⟨⟨f, ?_, ?_, h3, h4, h5⟩, by omega⟩
  · rw [q2 r2 n1 m1 l1]; exact h1
  · rw [q2 b2 (Ne.symm m2) n2 l2]; exact h2
theorem drop_cons {α : Type} {x : α} {u : List α} {j : Nat} (h : j < u.length) : u.drop j = u.getD j x :: u.drop (j + 1) := by
  rw [List.drop_eq_getElem_cons h, List.getD_eq_getElem?_getD, List.getElem?_eq_getElem h]
  rfl
theorem q_wordl {c r : Nat} (c1 : 1000 ≤ c) (c2 : c < 1112) : ∀ (m j : Nat) (h : ai_H) (b len : Nat) (t : List Int32), j + m = (zt c).length → qrow h r b len t → t.length + m + 1 ≤ 524288 → ∃ h' b' len', qg L xs (d + 4) qm_38 2 [some (.ref r), some (.retAddr c), some (.int (nI j))] [] h (.inl none, h') ∧ qrow h' r b' len' (t ++ ((zt c).drop j ++ [32])) ∧ qro r h b len h' b' len' := by
  have hc := zt_len c1 c2
  intro m
  induction m with
  | zero =>
    intro j h b len t hj hr hlen
    obtain ⟨h1, b1, len1, g1, g2, g3⟩ := q_add (L := L) (xs := xs) (d := d + 1) 32 hr (by omega)
    refine ⟨h1, b1, len1, ?_, ?_, g3⟩
    · skip
      refine qg_pls (n := 2) (k' := 4) (lo' := [some (.ref r), some (.retAddr c), some (.int (nI j))]) (S' := [.retAddr c, .int (nI j)]) (h' := h) rfl ?_
      refine qg_call (v := some (.int (nI (zt c).length))) (h' := h) (as := [.retAddr c]) rfl rfl rfl rfl rfl rfl rfl (ai_rcv1 rfl rfl (qZ_str c1 c2)) (q_slen c1 c2) ?_
      show qg L xs _ qm_38 5 [some (.ref r), some (.retAddr c), some (.int (nI j))] [.int (nI (zt c).length), .int (nI j)] h _
      refine qg_icmp true rfl (qc_geT (by omega) (by omega)) rfl ?_
      refine qg_pls (n := 2) (k' := 15) (lo' := [some (.ref r), some (.retAddr c), some (.int (nI j))]) (S' := [.int 32, .ref r]) (h' := h) rfl ?_
      refine qg_call (v := none) (h' := h1) (as := [.ref r, .int 32]) rfl rfl rfl rfl rfl rfl rfl (ai_rcv1 rfl rfl (qrow_obj hr)) (g1) ?_
      show qg L xs _ qm_38 16 [some (.ref r), some (.retAddr c), some (.int (nI j))] [] h1 _
      exact qg_ret7 rfl
    · rw [List.drop_eq_nil_of_le (by omega)]
      exact g2
  | succ m ih =>
    intro j h b len t hj hr hlen
    have hjl : j < (zt c).length := by omega
    obtain ⟨-, -, e3, -⟩ := zt_chr c1 c2 hjl
    obtain ⟨h1, b1, len1, g1, g2, g3⟩ := q_add (L := L) (xs := xs) (d := d + 1) ((zt c).getD j 0) hr (by omega)
    rw [e3] at g2
    obtain ⟨h2, b2, len2, k1, k2, k3⟩ := ih (j + 1) h1 b1 len1 _ (by omega) g2 (by rw [List.length_append]; show t.length + 1 + m + 1 ≤ _; omega)
    refine ⟨h2, b2, len2, ?_, ?_, qro_trans g3 k3⟩
    · skip
      refine qg_pls (n := 2) (k' := 4) (lo' := [some (.ref r), some (.retAddr c), some (.int (nI j))]) (S' := [.retAddr c, .int (nI j)]) (h' := h) rfl ?_
      refine qg_call (v := some (.int (nI (zt c).length))) (h' := h) (as := [.retAddr c]) rfl rfl rfl rfl rfl rfl rfl (ai_rcv1 rfl rfl (qZ_str c1 c2)) (q_slen c1 c2) ?_
      show qg L xs _ qm_38 5 [some (.ref r), some (.retAddr c), some (.int (nI j))] [.int (nI (zt c).length), .int (nI j)] h _
      refine qg_icmp false rfl (qc_geF hjl (by omega)) rfl ?_
      refine qg_pls (n := 3) (k' := 9) (lo' := [some (.ref r), some (.retAddr c), some (.int (nI j))]) (S' := [.int (nI j), .retAddr c, .ref r]) (h' := h) rfl ?_
      refine qg_call (v := some (.int ((zt c).getD j 0))) (h' := h) (as := [.retAddr c, .int (nI j)]) rfl rfl rfl rfl rfl rfl rfl (ai_rcv1 rfl rfl (qZ_str c1 c2)) (q_char c1 c2 hjl) ?_
      show qg L xs _ qm_38 10 [some (.ref r), some (.retAddr c), some (.int (nI j))] [.int ((zt c).getD j 0), .ref r] h _
      refine qg_call (v := none) (h' := h1) (as := [.ref r, .int ((zt c).getD j 0)]) rfl rfl rfl rfl rfl rfl rfl (ai_rcv1 rfl rfl (qrow_obj hr)) (g1) ?_
      show qg L xs _ qm_38 11 [some (.ref r), some (.retAddr c), some (.int (nI j))] [] h1 _
      refine qg_pls (n := 2) (k' := 2) (lo' := [some (.ref r), some (.retAddr c), some (.int ((nI j) + 1))]) (S' := []) (h' := h1) rfl ?_
      rw [nI_1]
      exact k1
    · rw [List.append_assoc, List.singleton_append] at k2
      rw [drop_cons (x := 0) hjl, List.cons_append]
      exact k2
/-- Row.word(text) -/
theorem q_word {c r b len : Nat} {t : List Int32} (c1 : 1000 ≤ c) (c2 : c < 1112) (hr : qrow h r b len t) (hlen : t.length + (zt c).length + 1 ≤ 524288) : ∃ h' b' len', qe L xs (d + 5) 38 [.ref r, .retAddr c] h (.inl none, h') ∧ qrow h' r b' len' (t ++ zt c ++ [32]) ∧ qro r h b len h' b' len' := by
  obtain ⟨h1, b1, len1, g1, g2, g3⟩ := q_wordl (L := L) (xs := xs) (d := d) c1 c2 (zt c).length 0 h b len t (by omega) hr hlen
  refine ⟨h1, b1, len1, ?_, by rw [List.append_assoc]; exact g2, g3⟩
  refine qe_of (M := qm_38) rfl rfl ?_
  show qg L xs _ qm_38 0 [some (.ref r), some (.retAddr c), none] [] h _
  refine qg_pls (n := 2) (k' := 2) (lo' := [some (.ref r), some (.retAddr c), some (.int 0)]) (S' := []) (h' := h) rfl ?_
  exact g1
theorem zb_and {x : Int32} (h : zb x = x) : zb (x &&& 255) = x := by
  have e : (x &&& 255).toInt8 = x.toInt8 := by
    rw [Int32.toInt8_and]
    exact Int8.and_neg_one
  show (x &&& 255).toInt8.toInt32 = x
  rw [e]
  exact h
theorem zat_lt {u : List Int32} {j : Nat} (h : j < u.length) : zat u j = u.getD j 0 &&& 255 := if_pos h
theorem take_drop_cons {α : Type} {x : α} {u : List α} {j z : Nat} (h1 : j < z) (h2 : z ≤ u.length) : (u.drop j).take (z - j) = u.getD j x :: (u.drop (j + 1)).take (z - (j + 1)) := by
  rw [List.drop_eq_getElem_cons (by omega), show z - j = (z - (j + 1)) + 1 by omega, List.take_succ_cons, List.getD_eq_getElem?_getD, List.getElem?_eq_getElem (by omega)]
  rfl
theorem q_copl {r r2 a z : Nat} (hn : r2 ≠ r) {u : List Int32} (hu : ∀ x ∈ u, zb x = x) (hz : z ≤ u.length) : ∀ (m j : Nat) (h : ai_H) (b len b2 len2 : Nat) (t : List Int32), j + m = z → qrow h r b len t → qrow h r2 b2 len2 u → b2 ≠ b → t.length + m + 1 ≤ 524288 → ∃ h' b' len', qg L xs (d + 3) qm_53 2 [some (.ref r), some (.ref r2), some (.int (nI a)), some (.int (nI z)), some (.int (nI j))] [] h (.inl none, h') ∧ qrow h' r b' len' (t ++ ((u.drop j).take (z - j) ++ [32])) ∧ qro r h b len h' b' len' := by
  intro m
  induction m with
  | zero =>
    intro j h b len b2 len2 t hj hr hr2 hb hlen
    have hle := qrow_le hr2
    obtain ⟨h1, b1, len1, g1, g2, g3⟩ := q_add (L := L) (xs := xs) (d := d) 32 hr (by omega)
    refine ⟨h1, b1, len1, ?_, ?_, g3⟩
    · skip
      refine qg_pls (n := 2) (k' := 4) (lo' := [some (.ref r), some (.ref r2), some (.int (nI a)), some (.int (nI z)), some (.int (nI j))]) (S' := [.int (nI z), .int (nI j)]) (h' := h) rfl ?_
      refine qg_icmp true rfl (qc_geT (by omega) (by omega)) rfl ?_
      refine qg_pls (n := 2) (k' := 14) (lo' := [some (.ref r), some (.ref r2), some (.int (nI a)), some (.int (nI z)), some (.int (nI j))]) (S' := [.int 32, .ref r]) (h' := h) rfl ?_
      refine qg_call (v := none) (h' := h1) (as := [.ref r, .int 32]) rfl rfl rfl rfl rfl rfl rfl (ai_rcv1 rfl rfl (qrow_obj hr)) (g1) ?_
      show qg L xs _ qm_53 15 [some (.ref r), some (.ref r2), some (.int (nI a)), some (.int (nI z)), some (.int (nI j))] [] h1 _
      exact qg_ret7 rfl
    · rw [show z - j = 0 by omega]
      exact g2
  | succ m ih =>
    intro j h b len b2 len2 t hj hr hr2 hb hlen
    have hle := qrow_le hr2
    obtain ⟨h1, b1, len1, g1, g2, g3⟩ := q_add (L := L) (xs := xs) (d := d) (zat u j) hr (by omega)
    have hx : zb (zat u j) = u.getD j 0 := by
      rw [zat_lt (by omega)]
      refine zb_and (hu _ ?_)
      rw [List.getD_eq_getElem?_getD, List.getElem?_eq_getElem (by omega)]
      exact List.getElem_mem _
    rw [hx] at g2
    obtain ⟨w1, w2⟩ := qrow_keep g3 hr hr2 hn hb
    obtain ⟨h2, b3, len3, k1, k2, k3⟩ := ih (j + 1) h1 b1 len1 b2 len2 _ (by omega) g2 w1 w2 (by rw [List.length_append]; show t.length + 1 + m + 1 ≤ _; omega)
    refine ⟨h2, b3, len3, ?_, ?_, qro_trans g3 k3⟩
    · skip
      refine qg_pls (n := 2) (k' := 4) (lo' := [some (.ref r), some (.ref r2), some (.int (nI a)), some (.int (nI z)), some (.int (nI j))]) (S' := [.int (nI z), .int (nI j)]) (h' := h) rfl ?_
      refine qg_icmp false rfl (qc_geF (by omega) (by omega)) rfl ?_
      refine qg_pls (n := 3) (k' := 8) (lo' := [some (.ref r), some (.ref r2), some (.int (nI a)), some (.int (nI z)), some (.int (nI j))]) (S' := [.int (nI j), .ref r2, .ref r]) (h' := h) rfl ?_
      refine qg_call (v := some (.int (zat u j))) (h' := h) (as := [.ref r2, .int (nI j)]) rfl rfl rfl rfl rfl rfl rfl (ai_rcv1 rfl rfl (qrow_obj hr2)) (q_at hr2 (by omega)) ?_
      show qg L xs _ qm_53 9 [some (.ref r), some (.ref r2), some (.int (nI a)), some (.int (nI z)), some (.int (nI j))] [.int (zat u j), .ref r] h _
      refine qg_call (v := none) (h' := h1) (as := [.ref r, .int (zat u j)]) rfl rfl rfl rfl rfl rfl rfl (ai_rcv1 rfl rfl (qrow_obj hr)) (g1) ?_
      show qg L xs _ qm_53 10 [some (.ref r), some (.ref r2), some (.int (nI a)), some (.int (nI z)), some (.int (nI j))] [] h1 _
      refine qg_pls (n := 2) (k' := 2) (lo' := [some (.ref r), some (.ref r2), some (.int (nI a)), some (.int (nI z)), some (.int ((nI j) + 1))]) (S' := []) (h' := h1) rfl ?_
      rw [nI_1]
      exact k1
    · rw [List.append_assoc, List.singleton_append] at k2
      rw [take_drop_cons (x := 0) (by omega) hz, List.cons_append]
      exact k2
/-- Row.copied(text, a, z) -/
theorem q_copied {r r2 a z b len b2 len2 : Nat} {t u : List Int32} (hn : r2 ≠ r) (hu : ∀ x ∈ u, zb x = x) (hz : z ≤ u.length) (haz : a ≤ z) (hr : qrow h r b len t) (hr2 : qrow h r2 b2 len2 u) (hb : b2 ≠ b) (hlen : t.length + (z - a) + 1 ≤ 524288) : ∃ h' b' len', qe L xs (d + 4) 53 [.ref r, .ref r2, .int (nI a), .int (nI z)] h (.inl none, h') ∧ qrow h' r b' len' (t ++ (u.drop a).take (z - a) ++ [32]) ∧ qro r h b len h' b' len' := by
  obtain ⟨h1, b1, len1, g1, g2, g3⟩ := q_copl (L := L) (xs := xs) (d := d) (a := a) hn hu hz (z - a) a h b len b2 len2 t (by omega) hr hr2 hb hlen
  refine ⟨h1, b1, len1, ?_, by rw [List.append_assoc]; exact g2, g3⟩
  refine qe_of (M := qm_53) rfl rfl ?_
  show qg L xs _ qm_53 0 [some (.ref r), some (.ref r2), some (.int (nI a)), some (.int (nI z)), none] [] h _
  refine qg_pls (n := 2) (k' := 2) (lo' := [some (.ref r), some (.ref r2), some (.int (nI a)), some (.int (nI z)), some (.int (nI a))]) (S' := []) (h' := h) rfl ?_
  exact g1
end QRY
