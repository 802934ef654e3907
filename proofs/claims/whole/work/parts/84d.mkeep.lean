/-! WORDS, MARKS, KEEPING. (Printed by wip/whole/pp.py from wip/whole/src.) -/
section MKE
variable {L : Nat} {xs : Nat → Int32} {d : Nat} {h h' : ai_H} {e : zE} {Y : Nat → Option ai_C} {K : mK} {P : zK} {s s' : zS}
theorem mtk_so (ht : mtk e Y) : ∃ fk, Y 19 = some (ai_num .byte 65538 fk) ∧ (∀ i, i < e.1.length → fk i = nI (zcode (ztk e i))) ∧ e.1.length ≤ 65537 := by
  obtain ⟨gw, ft, f1, fk, fz, t1, t2, t3, t4, t5, t6, t7, t8, t9, t10, t11⟩ := ht
  refine ⟨fk, t7, fun i hi => (t9 i hi).2.1, ?_⟩
  rw [t11]
  have := zen_len (t := e.2)
  omega
theorem mtk_lt (ht : mtk e Y) (i : Nat) : ztk e i < 104 := by
  obtain ⟨gw, ft, f1, fk, fz, t1, t2, t3, t4, t5, t6, t7, t8, t9, t10, t11⟩ := ht
  rw [t11]; exact zen_lt i
theorem zcode_cases {k : Nat} (hk : k < 104) : (zcode k = 1 ↔ k < 82) ∧ (zcode k = 5 ↔ 82 ≤ k ∧ k < 99) ∧ (zcode k = 2 ↔ k = 99) ∧ (zcode k = 3 ↔ k = 100) ∧ (zcode k = 4 ↔ k = 101) ∧ (zcode k = 7 ↔ k = 102) ∧ zcode k ≤ 7 := by
  unfold zcode
  (repeat' split) <;> omega
/-- QueryReaderModel.isWord, isMark -/
theorem m_isWord (ht : mtk e Y) (hc : mcs e Y K P s h) {k : Nat} (hk : 0 ≤ k ∧ k < 82) : qe L xs (d + 7) 132 [.ref 14, .retAddr (qr_en.getD k (0, 0)).1] h (.inl (some (.int (if ztk e s.1 = k then 1 else 0))), h) := by
  have hp := mcs_prot hc
  have hb := mcs_bd hc
  obtain ⟨kept, bg, en, md, hob⟩ := mcs_obj hc
  obtain ⟨fk, t7, t9, t10⟩ := mtk_so ht
  have hlt := mtk_lt ht s.1
  have hzc := zcode_cases hlt
  refine qe_of (M := qm_132) rfl rfl ?_
  show qg L xs _ qm_132 0 [some (.ref 14), some (.retAddr (qr_en.getD k (0, 0)).1)] [] h _
  refine qg_pls (n := 1) (k' := 1) (lo' := [some (.ref 14), some (.retAddr (qr_en.getD k (0, 0)).1)]) (S' := [.ref 14]) (h' := h) rfl ?_
  refine qg_getf (v := .ref 19) rfl hob rfl rfl rfl ?_
  refine qg_pls (n := 1) (k' := 3) (lo' := [some (.ref 14), some (.retAddr (qr_en.getD k (0, 0)).1)]) (S' := [.ref 14, .ref 19]) (h' := h) rfl ?_
  refine qg_getf (v := .int (nI s.1)) rfl hob rfl rfl rfl ?_
  refine qg_ald rfl (fun _ _ _ => rfl) (hp _ _ t7) (by omega) (by decide) ?_
  rw [t9 _ hb.1]
  refine qg_pls (n := 1) (k' := 6) (lo' := [some (.ref 14), some (.retAddr (qr_en.getD k (0, 0)).1)]) (S' := [.int 1, .int (nI (zcode (ztk e s.1)))]) (h' := h) rfl ?_
  by_cases h1 : zcode (ztk e s.1) = 1
  · have hs := m_spells (L := L) (xs := xs) (d := d) ht hp hob rfl rfl rfl (i := s.1) (k := k) (by omega) (by omega)
    refine qg_icmp false rfl (qc_neF (b := 1) h1) rfl ?_
    refine qg_pls (n := 2) (k' := 9) (lo' := [some (.ref 14), some (.retAddr (qr_en.getD k (0, 0)).1)]) (S' := [.ref 14, .ref 14]) (h' := h) rfl ?_
    refine qg_getf (v := .int (nI s.1)) rfl hob rfl rfl rfl ?_
    refine qg_pls (n := 1) (k' := 11) (lo' := [some (.ref 14), some (.retAddr (qr_en.getD k (0, 0)).1)]) (S' := [.retAddr (qr_en.getD k (0, 0)).1, .int (nI s.1), .ref 14]) (h' := h) rfl ?_
    refine qg_call (v := some (.int (if ztk e s.1 = k then 1 else 0))) (h' := h) (as := [.ref 14, .int (nI s.1), .retAddr (qr_en.getD k (0, 0)).1]) rfl rfl rfl rfl rfl rfl rfl (ai_rcv1 rfl rfl hob) (hs) ?_
    show qg L xs _ qm_132 12 [some (.ref 14), some (.retAddr (qr_en.getD k (0, 0)).1)] [.int (if ztk e s.1 = k then 1 else 0)] h _
    by_cases h2 : ztk e s.1 = k
    · rw [if_pos h2]
      refine qg_if false rfl (rfl) rfl ?_
      refine qg_pls (n := 2) (k' := 16) (lo' := [some (.ref 14), some (.retAddr (qr_en.getD k (0, 0)).1)]) (S' := [.int 1]) (h' := h) rfl ?_
      exact qg_ret5 rfl rfl rfl
    · rw [if_neg h2]
      refine qg_if true rfl (rfl) rfl ?_
      refine qg_pls (n := 1) (k' := 16) (lo' := [some (.ref 14), some (.retAddr (qr_en.getD k (0, 0)).1)]) (S' := [.int 0]) (h' := h) rfl ?_
      exact qg_ret5 rfl rfl rfl
  · rw [if_neg (by omega)]
    refine qg_icmp true rfl (qc_neT (b := 1) h1 (by omega) (by decide)) rfl ?_
    refine qg_pls (n := 1) (k' := 16) (lo' := [some (.ref 14), some (.retAddr (qr_en.getD k (0, 0)).1)]) (S' := [.int 0]) (h' := h) rfl ?_
    exact qg_ret5 rfl rfl rfl
theorem m_isMark (ht : mtk e Y) (hc : mcs e Y K P s h) {k : Nat} (hk : 82 ≤ k ∧ k < 99) : qe L xs (d + 7) 138 [.ref 14, .retAddr (qr_en.getD k (0, 0)).1] h (.inl (some (.int (if ztk e s.1 = k then 1 else 0))), h) := by
  have hp := mcs_prot hc
  have hb := mcs_bd hc
  obtain ⟨kept, bg, en, md, hob⟩ := mcs_obj hc
  obtain ⟨fk, t7, t9, t10⟩ := mtk_so ht
  have hlt := mtk_lt ht s.1
  have hzc := zcode_cases hlt
  refine qe_of (M := qm_138) rfl rfl ?_
  show qg L xs _ qm_138 0 [some (.ref 14), some (.retAddr (qr_en.getD k (0, 0)).1)] [] h _
  refine qg_pls (n := 1) (k' := 1) (lo' := [some (.ref 14), some (.retAddr (qr_en.getD k (0, 0)).1)]) (S' := [.ref 14]) (h' := h) rfl ?_
  refine qg_getf (v := .ref 19) rfl hob rfl rfl rfl ?_
  refine qg_pls (n := 1) (k' := 3) (lo' := [some (.ref 14), some (.retAddr (qr_en.getD k (0, 0)).1)]) (S' := [.ref 14, .ref 19]) (h' := h) rfl ?_
  refine qg_getf (v := .int (nI s.1)) rfl hob rfl rfl rfl ?_
  refine qg_ald rfl (fun _ _ _ => rfl) (hp _ _ t7) (by omega) (by decide) ?_
  rw [t9 _ hb.1]
  refine qg_pls (n := 1) (k' := 6) (lo' := [some (.ref 14), some (.retAddr (qr_en.getD k (0, 0)).1)]) (S' := [.int 5, .int (nI (zcode (ztk e s.1)))]) (h' := h) rfl ?_
  by_cases h1 : zcode (ztk e s.1) = 5
  · have hs := m_spells (L := L) (xs := xs) (d := d) ht hp hob rfl rfl rfl (i := s.1) (k := k) (by omega) (by omega)
    refine qg_icmp false rfl (qc_neF (b := 5) h1) rfl ?_
    refine qg_pls (n := 2) (k' := 9) (lo' := [some (.ref 14), some (.retAddr (qr_en.getD k (0, 0)).1)]) (S' := [.ref 14, .ref 14]) (h' := h) rfl ?_
    refine qg_getf (v := .int (nI s.1)) rfl hob rfl rfl rfl ?_
    refine qg_pls (n := 1) (k' := 11) (lo' := [some (.ref 14), some (.retAddr (qr_en.getD k (0, 0)).1)]) (S' := [.retAddr (qr_en.getD k (0, 0)).1, .int (nI s.1), .ref 14]) (h' := h) rfl ?_
    refine qg_call (v := some (.int (if ztk e s.1 = k then 1 else 0))) (h' := h) (as := [.ref 14, .int (nI s.1), .retAddr (qr_en.getD k (0, 0)).1]) rfl rfl rfl rfl rfl rfl rfl (ai_rcv1 rfl rfl hob) (hs) ?_
    show qg L xs _ qm_138 12 [some (.ref 14), some (.retAddr (qr_en.getD k (0, 0)).1)] [.int (if ztk e s.1 = k then 1 else 0)] h _
    by_cases h2 : ztk e s.1 = k
    · rw [if_pos h2]
      refine qg_if false rfl (rfl) rfl ?_
      refine qg_pls (n := 2) (k' := 16) (lo' := [some (.ref 14), some (.retAddr (qr_en.getD k (0, 0)).1)]) (S' := [.int 1]) (h' := h) rfl ?_
      exact qg_ret5 rfl rfl rfl
    · rw [if_neg h2]
      refine qg_if true rfl (rfl) rfl ?_
      refine qg_pls (n := 1) (k' := 16) (lo' := [some (.ref 14), some (.retAddr (qr_en.getD k (0, 0)).1)]) (S' := [.int 0]) (h' := h) rfl ?_
      exact qg_ret5 rfl rfl rfl
  · rw [if_neg (by omega)]
    refine qg_icmp true rfl (qc_neT (b := 5) h1 (by omega) (by decide)) rfl ?_
    refine qg_pls (n := 1) (k' := 16) (lo' := [some (.ref 14), some (.retAddr (qr_en.getD k (0, 0)).1)]) (S' := [.int 0]) (h' := h) rfl ?_
    exact qg_ret5 rfl rfl rfl
theorem jsum_app (J Q : List zJ) : jsum (J ++ Q) = jsum J + jsum Q := by
  induction J with
  | nil => simp [jsum]
  | cons a J ih => simp only [List.cons_append, jsum, ih]; omega
theorem jn_app {U : List Nat} {W : zK} {J Q : List zJ} {k : Nat} (hk : k ≤ J.length) : jn U W (J ++ Q) k = jn U W J k := by
  unfold jn
  rw [jo_app hk]
/-- where all brackets that wait stand before items, none stands at the end -/
theorem jn_end {U : List Nat} {W : zK} {J : List zJ} (hW : ∀ q ∈ W, ∃ k, k < J.length ∧ jo J k = q.1) (hU : ∀ u ∈ U, ∃ k, k < J.length ∧ jo J k = u) : jn U W J J.length = 0 := by
  unfold jn
  rw [List.count_eq_zero]
  intro hm
  rcases List.mem_append.mp hm with q | q
  · obtain ⟨p, hp, e1⟩ := List.mem_map.mp q
    obtain ⟨k, hk, e2⟩ := hW p hp
    have := jo_lt hk (Nat.le_refl J.length)
    omega
  · obtain ⟨k, hk, e2⟩ := hU _ q
    have := jo_lt hk (Nat.le_refl J.length)
    omega
theorem rev_mem {W : zK} {Q : Nat → Nat × Nat → Prop} (h : ∀ i q, W.reverse[i]? = some q → Q i q) : ∀ q ∈ W, ∃ i, Q i q := by
  intro q hq
  have hq2 : q ∈ W.reverse := List.mem_reverse.mpr hq
  obtain ⟨i, hi, e1⟩ := List.getElem_of_mem hq2
  exact ⟨i, h i q (by rw [List.getElem?_eq_getElem hi, e1])⟩
end MKE
