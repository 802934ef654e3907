section QST
variable {args : Array Value} {s : State} {A : Nat → Prop}
theorem q_exact {t : Term} {C : String} (h : (Cond.exactly t C).before args s = true) (hA : ∀ a : Nat, a < s.heap.size → ¬ A a) : ∃ a, t.eval args s none [] s = some (.ref a) ∧ va_O C a A s s.heap := by
  obtain ⟨a, c, cell, k, q1, q2, q3, q4, q5, q6, -⟩ := Cond.exactly_spec h
  exact ⟨a, q1, cell, q3, q5, by rw [q6]; exact q2, hA a (Array.getElem?_eq_some_iff.mp q3).1⟩
theorem q_str (hs : ∀ w ∈ qr_NL, w.before args s = true) (hA : ∀ a : Nat, a < s.heap.size → ¬ A a) (j : Nat) : ∃ p : Nat × Nat, j < 112 → (qt_S (qr_rp.getD j ("", 0))).eval args s none [] s = some (.ref p.1) ∧ va_O "java/lang/String" p.1 A s s.heap ∧ va_OF "java/lang/String" "value" "[B" (.ref p.2) p.1 A s s.heap ∧ va_OF "java/lang/String" "coder" "B" (.int 0) p.1 A s s.heap ∧ va_T .byte p.2 (qr_tx.getD j []).length (fun k => .int ((qr_tx.getD j []).getD k 0)) A s s.heap := by
  by_cases hj : j < 112
  · have h := qn_S0 j hj
    simp only [qn_cS, Bool.and_eq_true] at h
    obtain ⟨h1, h2, h3, h4, h5, h6⟩ := h
    obtain ⟨a, e1, e2⟩ := q_exact (qn_ok hs h1) hA
    obtain ⟨b, f1, f2⟩ := va_Tof (A := A) (N := (qr_tx.getD j []).length) (f := fun k => .int ((qr_tx.getD j []).getD k 0)) (of_decide_eq_true h5) (qn_ok hs h3) (va_eqt (qn_ok hs h4)) (fun k hk => va_eqt (qn_ok hs (List.all_eq_true.mp h6 k (List.mem_range.mpr hk)))) hA
    exact ⟨(a, b), fun _ => ⟨e1, e2, vk_OFof e1 f1 hA, vk_OFof e1 (va_eqt (qn_ok hs h2)) hA, f2⟩⟩
  · exact ⟨(0, 0), fun h => absurd h hj⟩
/-- every entry leads to its text's own object -/
theorem q_ent (hs : ∀ w ∈ qr_NL, w.before args s = true) {aS : Nat → Nat} (hS : ∀ j, j < 112 → (qt_S (qr_rp.getD j ("", 0))).eval args s none [] s = some (.ref (aS j))) {q : String × Nat × String × Nat} (hq : q ∈ qr_ys) : 1000 ≤ q.2.2.2 ∧ q.2.2.2 < 1112 ∧ Cond.stringRef q.1 q.2.1 q.2.2.1 ∈ lw_tbl ∧ (Term.string q.1 q.2.1).eval args s none [] s = some (.ref (aS (q.2.2.2 - 1000))) := by
  obtain ⟨k, hk⟩ := List.getElem?_of_mem hq
  have hkl : k < qr_ys.length := (List.getElem?_eq_some_iff.mp hk).1
  have h := qn_D0 k (by rw [← qr_ys_len]; exact hkl)
  simp only [qn_cD, hk, Bool.and_eq_true] at h
  obtain ⟨h1, h2, h3⟩ := h
  obtain ⟨h1, h4⟩ := of_decide_eq_true h1
  refine ⟨h1, h4, qn_tb_in h2, ?_⟩
  have hr := hS (q.2.2.2 - 1000) (by omega)
  split at h3
  · have e := of_decide_eq_true h3
    rw [← e] at hr
    exact hr
  · exact va_eqv (qn_ok hs h3) hr
  · exact va_eqR (qn_ok hs h3) hr
theorem q_enum (hs : ∀ w ∈ qr_NL, w.before args s = true) (hA : ∀ a : Nat, a < s.heap.size → ¬ A a) {aS : Nat → Nat} (hS : ∀ j, j < 112 → (qt_S (qr_rp.getD j ("", 0))).eval args s none [] s = some (.ref (aS j))) (i : Nat) : ∃ a : Nat, i < 104 → (qt_E i).eval args s none [] s = some (.ref a) ∧ va_O "QueryReader$Sort" a A s s.heap ∧ va_OF "java/lang/Enum" "ordinal" "I" (.int (Int32.ofNat i)) a A s s.heap ∧ va_OF "QueryReader$Sort" "makes" "I" (.int (qr_en.getD i (0, 0)).2) a A s s.heap ∧ 1000 ≤ (qr_en.getD i (0, 0)).1 ∧ (qr_en.getD i (0, 0)).1 < 1112 ∧ va_OF "QueryReader$Sort" "text" "Ljava/lang/String;" (.ref (aS ((qr_en.getD i (0, 0)).1 - 1000))) a A s s.heap := by
  by_cases hi : i < 104
  · have h := List.all_eq_true.mp qn_E0 i (List.mem_range.mpr hi)
    simp only [qn_cE, Bool.and_eq_true] at h
    obtain ⟨h1, h2, h3, h4, h5⟩ := h
    obtain ⟨a, e1, e2⟩ := q_exact (qn_ok hs h1) hA
    split at h5
    · rename_i q hq
      obtain ⟨g1, g2, g3⟩ := of_decide_eq_true h5
      obtain ⟨k1, k2, -, k3⟩ := q_ent hs hS (List.mem_of_getElem? hq)
      rw [g1, g2, g3] at k3
      rw [g3] at k1 k2
      refine ⟨a, fun _ => ⟨e1, e2, vk_OFof e1 (va_eqt (qn_ok hs h2)) hA, vk_OFof e1 (va_eqt (qn_ok hs h3)) hA, k1, k2, vk_OFof e1 (va_eqv (qn_ok hs h4) k3) hA⟩⟩
    · cases h5
  · exact ⟨0, fun h => absurd h hi⟩
end QST
