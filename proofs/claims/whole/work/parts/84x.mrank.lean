/-! THE MODEL: RANKS; WHAT WAITS IS SETTLED. (Printed by wip/whole/pp.py from wip/whole/src.) -/
section MRK
variable {L : Nat} {xs : Nat → Int32} {d : Nat} {h h' : ai_H} {e : zE} {Y : Nat → Option ai_C} {K : mK} {W P : zK} {s s' : zS} {J : List zJ} {bg en md : Value}
/-- the rank of a token between operands -/
def znkk (k : Nat) : Nat := if k = 37 ∨ k = 49 ∨ k = 31 ∨ k = 7 ∨ k = 42 then 4 else (qr_en.getD k (0, 0)).2.toNatClampNeg
def znk (e : zE) (i : Nat) : Nat := znkk (ztk e i)
theorem znk_0 : (List.range 104).all (fun k => decide (znkk k = 0 ∨ k ∈ [37, 49, 31, 7, 42, 54, 2, 93, 94, 95, 96, 97, 98, 92, 87, 88, 89, 90, 91])) = true := by decide +kernel
theorem znk_no {i : Nat} (hk : ztk e i < 104) (hn : ztk e i ∉ [37, 49, 31, 7, 42, 54, 2, 93, 94, 95, 96, 97, 98, 92, 87, 88, 89, 90, 91]) : znk e i = 0 := by
  rcases of_decide_eq_true (List.all_eq_true.mp znk_0 (ztk e i) (List.mem_range.mpr hk)) with q | q
  · exact q
  · exact absurd q hn
theorem znk_1 : (List.range 104).all (fun k => decide (znkk k ≤ 7 ∧ znkk k ≠ 3 ∧ ((qr_en.getD k (0, 0)).2.toNatClampNeg = if k = 37 ∨ k = 49 ∨ k = 31 ∨ k = 7 ∨ k = 42 then 0 else znkk k) ∧ (1 ≤ znkk k → k < 99 ∧ k ≠ 82 ∧ k ≠ 10 ∧ k ≠ 83 ∧ k ≠ 25) ∧ (znkk k = 2 ↔ k = 2) ∧ (k = 88 → znkk k = 6))) = true := by decide +kernel
theorem znk_of (ht : mtk e Y) (i : Nat) : znk e i ≤ 7 ∧ znk e i ≠ 3 ∧ (zmk e i = if ztk e i = 37 ∨ ztk e i = 49 ∨ ztk e i = 31 ∨ ztk e i = 7 ∨ ztk e i = 42 then 0 else znk e i) ∧ (1 ≤ znk e i → ztk e i < 99 ∧ ztk e i ≠ 82 ∧ ztk e i ≠ 10 ∧ ztk e i ≠ 83 ∧ ztk e i ≠ 25) ∧ (znk e i = 2 ↔ ztk e i = 2) := by
  obtain ⟨a, b, c, dd, f, -⟩ := of_decide_eq_true (List.all_eq_true.mp znk_1 (ztk e i) (List.mem_range.mpr (mtk_lt ht i)))
  exact ⟨a, b, c, dd, f⟩
/-- QueryReaderModel.rank -/
theorem m_rank (ht : mtk e Y) (hc : mcs e Y K W s h) : qe L xs (d + 8) 156 [.ref 14] h (.inl (some (.int (nI (znk e s.1)))), h) := by
  have hp := mcs_prot hc
  have hb := mcs_bd hc
  obtain ⟨kept, bg, en, md, hob⟩ := mcs_obj hc
  obtain ⟨fk, t7, t9, t10⟩ := mtk_so ht
  have hlt := mtk_lt ht s.1
  have hzc := zcode_cases hlt
  refine qe_of (M := qm_156) rfl rfl ?_
  show qg L xs _ qm_156 0 [some (.ref 14), none] [] h _
  refine qg_pls (n := 1) (k' := 1) (lo' := [some (.ref 14), none]) (S' := [.ref 14]) (h' := h) rfl ?_
  refine qg_getf (v := .ref 19) rfl hob rfl rfl rfl ?_
  refine qg_pls (n := 1) (k' := 3) (lo' := [some (.ref 14), none]) (S' := [.ref 14, .ref 19]) (h' := h) rfl ?_
  refine qg_getf (v := .int (nI s.1)) rfl hob rfl rfl rfl ?_
  refine qg_ald rfl (fun _ _ _ => rfl) (hp _ _ t7) (by omega) (by decide) ?_
  rw [t9 _ hb.1]
  refine qg_pls (n := 1) (k' := 6) (lo' := [some (.ref 14), none]) (S' := [.int 1, .int (nI (zcode (ztk e s.1)))]) (h' := h) rfl ?_
  by_cases hA : ztk e s.1 < 82
  · skip
    refine qg_icmp false rfl (qc_neF (b := 1) (hzc.1.mpr hA)) rfl ?_
    refine qg_pls (n := 2) (k' := 9) (lo' := [some (.ref 14), none]) (S' := [.retAddr 1052, .ref 14]) (h' := h) rfl ?_
    by_cases t1 : ztk e s.1 = 37
    · skip
      refine qg_call (v := some (.int 1)) (h' := h) (as := [.ref 14, .retAddr 1052]) rfl rfl rfl rfl rfl rfl rfl (ai_rcv1 rfl rfl (mcs_rcv hc).choose_spec) (by have hh := m_isWord (L := L) (xs := xs) (d := d) ht hc (k := 37) (by decide); rw [if_pos t1] at hh; exact qe_up (by omega) hh) ?_
      show qg L xs _ qm_156 10 [some (.ref 14), none] [.int 1] h _
      refine qg_if true rfl (rfl) rfl ?_
      refine qg_pls (n := 5) (k' := 33) (lo' := [some (.ref 14), some (.int 1)]) (S' := [.retAddr 1069, .ref 14]) (h' := h) rfl ?_
      refine qg_call (v := some (.int 0)) (h' := h) (as := [.ref 14, .retAddr 1069]) rfl rfl rfl rfl rfl rfl rfl (ai_rcv1 rfl rfl (mcs_rcv hc).choose_spec) (by have hh := m_isWord (L := L) (xs := xs) (d := d) ht hc (k := 54) (by decide); rw [if_neg (show ¬ ztk e s.1 = 54 by omega)] at hh; exact qe_up (by omega) hh) ?_
      show qg L xs _ qm_156 34 [some (.ref 14), some (.int 1)] [.int 0] h _
      refine qg_if true rfl (rfl) rfl ?_
      refine qg_pls (n := 2) (k' := 39) (lo' := [some (.ref 14), some (.int 1)]) (S' := [.retAddr 1017, .ref 14]) (h' := h) rfl ?_
      refine qg_call (v := some (.int 0)) (h' := h) (as := [.ref 14, .retAddr 1017]) rfl rfl rfl rfl rfl rfl rfl (ai_rcv1 rfl rfl (mcs_rcv hc).choose_spec) (by have hh := m_isWord (L := L) (xs := xs) (d := d) ht hc (k := 2) (by decide); rw [if_neg (show ¬ ztk e s.1 = 2 by omega)] at hh; exact qe_up (by omega) hh) ?_
      show qg L xs _ qm_156 40 [some (.ref 14), some (.int 1)] [.int 0] h _
      refine qg_if true rfl (rfl) rfl ?_
      refine qg_pls (n := 1) (k' := 44) (lo' := [some (.ref 14), some (.int 1)]) (S' := [.int 1]) (h' := h) rfl ?_
      refine qg_if false rfl (rfl) rfl ?_
      refine qg_pls (n := 2) (k' := 48) (lo' := [some (.ref 14), some (.int 1)]) (S' := [.int 4]) (h' := h) rfl ?_
      (first | rw [show znk e s.1 = 4 by unfold znk; rw [t1]; decide] | rw [znk_no hlt (by simp only [List.mem_cons, List.not_mem_nil, or_false, not_or]; omega)])
      exact qg_ret5 rfl rfl rfl
    · skip
      refine qg_call (v := some (.int 0)) (h' := h) (as := [.ref 14, .retAddr 1052]) rfl rfl rfl rfl rfl rfl rfl (ai_rcv1 rfl rfl (mcs_rcv hc).choose_spec) (by have hh := m_isWord (L := L) (xs := xs) (d := d) ht hc (k := 37) (by decide); rw [if_neg t1] at hh; exact qe_up (by omega) hh) ?_
      show qg L xs _ qm_156 10 [some (.ref 14), none] [.int 0] h _
      refine qg_if false rfl (rfl) rfl ?_
      refine qg_pls (n := 2) (k' := 13) (lo' := [some (.ref 14), none]) (S' := [.retAddr 1064, .ref 14]) (h' := h) rfl ?_
      by_cases t2 : ztk e s.1 = 49
      · skip
        refine qg_call (v := some (.int 1)) (h' := h) (as := [.ref 14, .retAddr 1064]) rfl rfl rfl rfl rfl rfl rfl (ai_rcv1 rfl rfl (mcs_rcv hc).choose_spec) (by have hh := m_isWord (L := L) (xs := xs) (d := d) ht hc (k := 49) (by decide); rw [if_pos t2] at hh; exact qe_up (by omega) hh) ?_
        show qg L xs _ qm_156 14 [some (.ref 14), none] [.int 1] h _
        refine qg_if true rfl (rfl) rfl ?_
        refine qg_pls (n := 5) (k' := 33) (lo' := [some (.ref 14), some (.int 1)]) (S' := [.retAddr 1069, .ref 14]) (h' := h) rfl ?_
        refine qg_call (v := some (.int 0)) (h' := h) (as := [.ref 14, .retAddr 1069]) rfl rfl rfl rfl rfl rfl rfl (ai_rcv1 rfl rfl (mcs_rcv hc).choose_spec) (by have hh := m_isWord (L := L) (xs := xs) (d := d) ht hc (k := 54) (by decide); rw [if_neg (show ¬ ztk e s.1 = 54 by omega)] at hh; exact qe_up (by omega) hh) ?_
        show qg L xs _ qm_156 34 [some (.ref 14), some (.int 1)] [.int 0] h _
        refine qg_if true rfl (rfl) rfl ?_
        refine qg_pls (n := 2) (k' := 39) (lo' := [some (.ref 14), some (.int 1)]) (S' := [.retAddr 1017, .ref 14]) (h' := h) rfl ?_
        refine qg_call (v := some (.int 0)) (h' := h) (as := [.ref 14, .retAddr 1017]) rfl rfl rfl rfl rfl rfl rfl (ai_rcv1 rfl rfl (mcs_rcv hc).choose_spec) (by have hh := m_isWord (L := L) (xs := xs) (d := d) ht hc (k := 2) (by decide); rw [if_neg (show ¬ ztk e s.1 = 2 by omega)] at hh; exact qe_up (by omega) hh) ?_
        show qg L xs _ qm_156 40 [some (.ref 14), some (.int 1)] [.int 0] h _
        refine qg_if true rfl (rfl) rfl ?_
        refine qg_pls (n := 1) (k' := 44) (lo' := [some (.ref 14), some (.int 1)]) (S' := [.int 1]) (h' := h) rfl ?_
        refine qg_if false rfl (rfl) rfl ?_
        refine qg_pls (n := 2) (k' := 48) (lo' := [some (.ref 14), some (.int 1)]) (S' := [.int 4]) (h' := h) rfl ?_
        (first | rw [show znk e s.1 = 4 by unfold znk; rw [t2]; decide] | rw [znk_no hlt (by simp only [List.mem_cons, List.not_mem_nil, or_false, not_or]; omega)])
        exact qg_ret5 rfl rfl rfl
      · skip
        refine qg_call (v := some (.int 0)) (h' := h) (as := [.ref 14, .retAddr 1064]) rfl rfl rfl rfl rfl rfl rfl (ai_rcv1 rfl rfl (mcs_rcv hc).choose_spec) (by have hh := m_isWord (L := L) (xs := xs) (d := d) ht hc (k := 49) (by decide); rw [if_neg t2] at hh; exact qe_up (by omega) hh) ?_
        show qg L xs _ qm_156 14 [some (.ref 14), none] [.int 0] h _
        refine qg_if false rfl (rfl) rfl ?_
        refine qg_pls (n := 2) (k' := 17) (lo' := [some (.ref 14), none]) (S' := [.retAddr 1046, .ref 14]) (h' := h) rfl ?_
        by_cases t3 : ztk e s.1 = 31
        · skip
          refine qg_call (v := some (.int 1)) (h' := h) (as := [.ref 14, .retAddr 1046]) rfl rfl rfl rfl rfl rfl rfl (ai_rcv1 rfl rfl (mcs_rcv hc).choose_spec) (by have hh := m_isWord (L := L) (xs := xs) (d := d) ht hc (k := 31) (by decide); rw [if_pos t3] at hh; exact qe_up (by omega) hh) ?_
          show qg L xs _ qm_156 18 [some (.ref 14), none] [.int 1] h _
          refine qg_if true rfl (rfl) rfl ?_
          refine qg_pls (n := 5) (k' := 33) (lo' := [some (.ref 14), some (.int 1)]) (S' := [.retAddr 1069, .ref 14]) (h' := h) rfl ?_
          refine qg_call (v := some (.int 0)) (h' := h) (as := [.ref 14, .retAddr 1069]) rfl rfl rfl rfl rfl rfl rfl (ai_rcv1 rfl rfl (mcs_rcv hc).choose_spec) (by have hh := m_isWord (L := L) (xs := xs) (d := d) ht hc (k := 54) (by decide); rw [if_neg (show ¬ ztk e s.1 = 54 by omega)] at hh; exact qe_up (by omega) hh) ?_
          show qg L xs _ qm_156 34 [some (.ref 14), some (.int 1)] [.int 0] h _
          refine qg_if true rfl (rfl) rfl ?_
          refine qg_pls (n := 2) (k' := 39) (lo' := [some (.ref 14), some (.int 1)]) (S' := [.retAddr 1017, .ref 14]) (h' := h) rfl ?_
          refine qg_call (v := some (.int 0)) (h' := h) (as := [.ref 14, .retAddr 1017]) rfl rfl rfl rfl rfl rfl rfl (ai_rcv1 rfl rfl (mcs_rcv hc).choose_spec) (by have hh := m_isWord (L := L) (xs := xs) (d := d) ht hc (k := 2) (by decide); rw [if_neg (show ¬ ztk e s.1 = 2 by omega)] at hh; exact qe_up (by omega) hh) ?_
          show qg L xs _ qm_156 40 [some (.ref 14), some (.int 1)] [.int 0] h _
          refine qg_if true rfl (rfl) rfl ?_
          refine qg_pls (n := 1) (k' := 44) (lo' := [some (.ref 14), some (.int 1)]) (S' := [.int 1]) (h' := h) rfl ?_
          refine qg_if false rfl (rfl) rfl ?_
          refine qg_pls (n := 2) (k' := 48) (lo' := [some (.ref 14), some (.int 1)]) (S' := [.int 4]) (h' := h) rfl ?_
          (first | rw [show znk e s.1 = 4 by unfold znk; rw [t3]; decide] | rw [znk_no hlt (by simp only [List.mem_cons, List.not_mem_nil, or_false, not_or]; omega)])
          exact qg_ret5 rfl rfl rfl
        · skip
          refine qg_call (v := some (.int 0)) (h' := h) (as := [.ref 14, .retAddr 1046]) rfl rfl rfl rfl rfl rfl rfl (ai_rcv1 rfl rfl (mcs_rcv hc).choose_spec) (by have hh := m_isWord (L := L) (xs := xs) (d := d) ht hc (k := 31) (by decide); rw [if_neg t3] at hh; exact qe_up (by omega) hh) ?_
          show qg L xs _ qm_156 18 [some (.ref 14), none] [.int 0] h _
          refine qg_if false rfl (rfl) rfl ?_
          refine qg_pls (n := 2) (k' := 21) (lo' := [some (.ref 14), none]) (S' := [.retAddr 1022, .ref 14]) (h' := h) rfl ?_
          by_cases t4 : ztk e s.1 = 7
          · skip
            refine qg_call (v := some (.int 1)) (h' := h) (as := [.ref 14, .retAddr 1022]) rfl rfl rfl rfl rfl rfl rfl (ai_rcv1 rfl rfl (mcs_rcv hc).choose_spec) (by have hh := m_isWord (L := L) (xs := xs) (d := d) ht hc (k := 7) (by decide); rw [if_pos t4] at hh; exact qe_up (by omega) hh) ?_
            show qg L xs _ qm_156 22 [some (.ref 14), none] [.int 1] h _
            refine qg_if true rfl (rfl) rfl ?_
            refine qg_pls (n := 5) (k' := 33) (lo' := [some (.ref 14), some (.int 1)]) (S' := [.retAddr 1069, .ref 14]) (h' := h) rfl ?_
            refine qg_call (v := some (.int 0)) (h' := h) (as := [.ref 14, .retAddr 1069]) rfl rfl rfl rfl rfl rfl rfl (ai_rcv1 rfl rfl (mcs_rcv hc).choose_spec) (by have hh := m_isWord (L := L) (xs := xs) (d := d) ht hc (k := 54) (by decide); rw [if_neg (show ¬ ztk e s.1 = 54 by omega)] at hh; exact qe_up (by omega) hh) ?_
            show qg L xs _ qm_156 34 [some (.ref 14), some (.int 1)] [.int 0] h _
            refine qg_if true rfl (rfl) rfl ?_
            refine qg_pls (n := 2) (k' := 39) (lo' := [some (.ref 14), some (.int 1)]) (S' := [.retAddr 1017, .ref 14]) (h' := h) rfl ?_
            refine qg_call (v := some (.int 0)) (h' := h) (as := [.ref 14, .retAddr 1017]) rfl rfl rfl rfl rfl rfl rfl (ai_rcv1 rfl rfl (mcs_rcv hc).choose_spec) (by have hh := m_isWord (L := L) (xs := xs) (d := d) ht hc (k := 2) (by decide); rw [if_neg (show ¬ ztk e s.1 = 2 by omega)] at hh; exact qe_up (by omega) hh) ?_
            show qg L xs _ qm_156 40 [some (.ref 14), some (.int 1)] [.int 0] h _
            refine qg_if true rfl (rfl) rfl ?_
            refine qg_pls (n := 1) (k' := 44) (lo' := [some (.ref 14), some (.int 1)]) (S' := [.int 1]) (h' := h) rfl ?_
            refine qg_if false rfl (rfl) rfl ?_
            refine qg_pls (n := 2) (k' := 48) (lo' := [some (.ref 14), some (.int 1)]) (S' := [.int 4]) (h' := h) rfl ?_
            (first | rw [show znk e s.1 = 4 by unfold znk; rw [t4]; decide] | rw [znk_no hlt (by simp only [List.mem_cons, List.not_mem_nil, or_false, not_or]; omega)])
            exact qg_ret5 rfl rfl rfl
          · skip
            refine qg_call (v := some (.int 0)) (h' := h) (as := [.ref 14, .retAddr 1022]) rfl rfl rfl rfl rfl rfl rfl (ai_rcv1 rfl rfl (mcs_rcv hc).choose_spec) (by have hh := m_isWord (L := L) (xs := xs) (d := d) ht hc (k := 7) (by decide); rw [if_neg t4] at hh; exact qe_up (by omega) hh) ?_
            show qg L xs _ qm_156 22 [some (.ref 14), none] [.int 0] h _
            refine qg_if false rfl (rfl) rfl ?_
            refine qg_pls (n := 2) (k' := 25) (lo' := [some (.ref 14), none]) (S' := [.retAddr 1057, .ref 14]) (h' := h) rfl ?_
            by_cases t5 : ztk e s.1 = 42
            · skip
              refine qg_call (v := some (.int 1)) (h' := h) (as := [.ref 14, .retAddr 1057]) rfl rfl rfl rfl rfl rfl rfl (ai_rcv1 rfl rfl (mcs_rcv hc).choose_spec) (by have hh := m_isWord (L := L) (xs := xs) (d := d) ht hc (k := 42) (by decide); rw [if_pos t5] at hh; exact qe_up (by omega) hh) ?_
              show qg L xs _ qm_156 26 [some (.ref 14), none] [.int 1] h _
              refine qg_if false rfl (rfl) rfl ?_
              refine qg_pls (n := 5) (k' := 33) (lo' := [some (.ref 14), some (.int 1)]) (S' := [.retAddr 1069, .ref 14]) (h' := h) rfl ?_
              refine qg_call (v := some (.int 0)) (h' := h) (as := [.ref 14, .retAddr 1069]) rfl rfl rfl rfl rfl rfl rfl (ai_rcv1 rfl rfl (mcs_rcv hc).choose_spec) (by have hh := m_isWord (L := L) (xs := xs) (d := d) ht hc (k := 54) (by decide); rw [if_neg (show ¬ ztk e s.1 = 54 by omega)] at hh; exact qe_up (by omega) hh) ?_
              show qg L xs _ qm_156 34 [some (.ref 14), some (.int 1)] [.int 0] h _
              refine qg_if true rfl (rfl) rfl ?_
              refine qg_pls (n := 2) (k' := 39) (lo' := [some (.ref 14), some (.int 1)]) (S' := [.retAddr 1017, .ref 14]) (h' := h) rfl ?_
              refine qg_call (v := some (.int 0)) (h' := h) (as := [.ref 14, .retAddr 1017]) rfl rfl rfl rfl rfl rfl rfl (ai_rcv1 rfl rfl (mcs_rcv hc).choose_spec) (by have hh := m_isWord (L := L) (xs := xs) (d := d) ht hc (k := 2) (by decide); rw [if_neg (show ¬ ztk e s.1 = 2 by omega)] at hh; exact qe_up (by omega) hh) ?_
              show qg L xs _ qm_156 40 [some (.ref 14), some (.int 1)] [.int 0] h _
              refine qg_if true rfl (rfl) rfl ?_
              refine qg_pls (n := 1) (k' := 44) (lo' := [some (.ref 14), some (.int 1)]) (S' := [.int 1]) (h' := h) rfl ?_
              refine qg_if false rfl (rfl) rfl ?_
              refine qg_pls (n := 2) (k' := 48) (lo' := [some (.ref 14), some (.int 1)]) (S' := [.int 4]) (h' := h) rfl ?_
              (first | rw [show znk e s.1 = 4 by unfold znk; rw [t5]; decide] | rw [znk_no hlt (by simp only [List.mem_cons, List.not_mem_nil, or_false, not_or]; omega)])
              exact qg_ret5 rfl rfl rfl
            · skip
              refine qg_call (v := some (.int 0)) (h' := h) (as := [.ref 14, .retAddr 1057]) rfl rfl rfl rfl rfl rfl rfl (ai_rcv1 rfl rfl (mcs_rcv hc).choose_spec) (by have hh := m_isWord (L := L) (xs := xs) (d := d) ht hc (k := 42) (by decide); rw [if_neg t5] at hh; exact qe_up (by omega) hh) ?_
              show qg L xs _ qm_156 26 [some (.ref 14), none] [.int 0] h _
              refine qg_if true rfl (rfl) rfl ?_
              refine qg_pls (n := 4) (k' := 33) (lo' := [some (.ref 14), some (.int 0)]) (S' := [.retAddr 1069, .ref 14]) (h' := h) rfl ?_
              by_cases t6 : ztk e s.1 = 54
              · skip
                refine qg_call (v := some (.int 1)) (h' := h) (as := [.ref 14, .retAddr 1069]) rfl rfl rfl rfl rfl rfl rfl (ai_rcv1 rfl rfl (mcs_rcv hc).choose_spec) (by have hh := m_isWord (L := L) (xs := xs) (d := d) ht hc (k := 54) (by decide); rw [if_pos t6] at hh; exact qe_up (by omega) hh) ?_
                show qg L xs _ qm_156 34 [some (.ref 14), some (.int 0)] [.int 1] h _
                refine qg_if false rfl (rfl) rfl ?_
                refine qg_pls (n := 2) (k' := 48) (lo' := [some (.ref 14), some (.int 0)]) (S' := [.int 1]) (h' := h) rfl ?_
                (first | rw [show znk e s.1 = 1 by unfold znk; rw [t6]; decide] | rw [znk_no hlt (by simp only [List.mem_cons, List.not_mem_nil, or_false, not_or]; omega)])
                exact qg_ret5 rfl rfl rfl
              · skip
                refine qg_call (v := some (.int 0)) (h' := h) (as := [.ref 14, .retAddr 1069]) rfl rfl rfl rfl rfl rfl rfl (ai_rcv1 rfl rfl (mcs_rcv hc).choose_spec) (by have hh := m_isWord (L := L) (xs := xs) (d := d) ht hc (k := 54) (by decide); rw [if_neg t6] at hh; exact qe_up (by omega) hh) ?_
                show qg L xs _ qm_156 34 [some (.ref 14), some (.int 0)] [.int 0] h _
                refine qg_if true rfl (rfl) rfl ?_
                refine qg_pls (n := 2) (k' := 39) (lo' := [some (.ref 14), some (.int 0)]) (S' := [.retAddr 1017, .ref 14]) (h' := h) rfl ?_
                by_cases t7 : ztk e s.1 = 2
                · skip
                  refine qg_call (v := some (.int 1)) (h' := h) (as := [.ref 14, .retAddr 1017]) rfl rfl rfl rfl rfl rfl rfl (ai_rcv1 rfl rfl (mcs_rcv hc).choose_spec) (by have hh := m_isWord (L := L) (xs := xs) (d := d) ht hc (k := 2) (by decide); rw [if_pos t7] at hh; exact qe_up (by omega) hh) ?_
                  show qg L xs _ qm_156 40 [some (.ref 14), some (.int 0)] [.int 1] h _
                  refine qg_if false rfl (rfl) rfl ?_
                  refine qg_pls (n := 2) (k' := 48) (lo' := [some (.ref 14), some (.int 0)]) (S' := [.int 2]) (h' := h) rfl ?_
                  (first | rw [show znk e s.1 = 2 by unfold znk; rw [t7]; decide] | rw [znk_no hlt (by simp only [List.mem_cons, List.not_mem_nil, or_false, not_or]; omega)])
                  exact qg_ret5 rfl rfl rfl
                · skip
                  refine qg_call (v := some (.int 0)) (h' := h) (as := [.ref 14, .retAddr 1017]) rfl rfl rfl rfl rfl rfl rfl (ai_rcv1 rfl rfl (mcs_rcv hc).choose_spec) (by have hh := m_isWord (L := L) (xs := xs) (d := d) ht hc (k := 2) (by decide); rw [if_neg t7] at hh; exact qe_up (by omega) hh) ?_
                  show qg L xs _ qm_156 40 [some (.ref 14), some (.int 0)] [.int 0] h _
                  refine qg_if true rfl (rfl) rfl ?_
                  refine qg_pls (n := 1) (k' := 44) (lo' := [some (.ref 14), some (.int 0)]) (S' := [.int 0]) (h' := h) rfl ?_
                  refine qg_if true rfl (rfl) rfl ?_
                  refine qg_pls (n := 1) (k' := 48) (lo' := [some (.ref 14), some (.int 0)]) (S' := [.int 0]) (h' := h) rfl ?_
                  (first | rw [show znk e s.1 = 0 by unfold znk; rw [NONE]; decide] | rw [znk_no hlt (by simp only [List.mem_cons, List.not_mem_nil, or_false, not_or]; omega)])
                  exact qg_ret5 rfl rfl rfl
  · skip
    refine qg_icmp true rfl (qc_neT (b := 1) (fun q => hA (hzc.1.mp q)) (by omega) (by decide)) rfl ?_
    refine qg_pls (n := 1) (k' := 50) (lo' := [some (.ref 14), none]) (S' := [.ref 14]) (h' := h) rfl ?_
    refine qg_getf (v := .ref 19) rfl hob rfl rfl rfl ?_
    refine qg_pls (n := 1) (k' := 52) (lo' := [some (.ref 14), none]) (S' := [.ref 14, .ref 19]) (h' := h) rfl ?_
    refine qg_getf (v := .int (nI s.1)) rfl hob rfl rfl rfl ?_
    refine qg_ald rfl (fun _ _ _ => rfl) (hp _ _ t7) (by omega) (by decide) ?_
    rw [t9 _ hb.1]
    refine qg_pls (n := 1) (k' := 55) (lo' := [some (.ref 14), none]) (S' := [.int 5, .int (nI (zcode (ztk e s.1)))]) (h' := h) rfl ?_
    by_cases hB : ztk e s.1 < 99
    · skip
      refine qg_icmp true rfl (qc_eqT (b := 5) (hzc.2.1.mpr ⟨by omega, hB⟩)) rfl ?_
      refine qg_pls (n := 2) (k' := 60) (lo' := [some (.ref 14), none]) (S' := [.retAddr 1100, .ref 14]) (h' := h) rfl ?_
      by_cases t8 : ztk e s.1 = 93
      · skip
        refine qg_call (v := some (.int 1)) (h' := h) (as := [.ref 14, .retAddr 1100]) rfl rfl rfl rfl rfl rfl rfl (ai_rcv1 rfl rfl (mcs_rcv hc).choose_spec) (by have hh := m_isMark (L := L) (xs := xs) (d := d) ht hc (k := 93) (by decide); rw [if_pos t8] at hh; exact qe_up (by omega) hh) ?_
        show qg L xs _ qm_156 61 [some (.ref 14), none] [.int 1] h _
        refine qg_if true rfl (rfl) rfl ?_
        refine qg_pls (n := 4) (k' := 87) (lo' := [some (.ref 14), some (.int 1)]) (S' := [.int 1]) (h' := h) rfl ?_
        refine qg_if false rfl (rfl) rfl ?_
        refine qg_pls (n := 2) (k' := 121) (lo' := [some (.ref 14), some (.int 1)]) (S' := [.int 4]) (h' := h) rfl ?_
        (first | rw [show znk e s.1 = 4 by unfold znk; rw [t8]; decide] | rw [znk_no hlt (by simp only [List.mem_cons, List.not_mem_nil, or_false, not_or]; omega)])
        exact qg_ret5 rfl rfl rfl
      · skip
        refine qg_call (v := some (.int 0)) (h' := h) (as := [.ref 14, .retAddr 1100]) rfl rfl rfl rfl rfl rfl rfl (ai_rcv1 rfl rfl (mcs_rcv hc).choose_spec) (by have hh := m_isMark (L := L) (xs := xs) (d := d) ht hc (k := 93) (by decide); rw [if_neg t8] at hh; exact qe_up (by omega) hh) ?_
        show qg L xs _ qm_156 61 [some (.ref 14), none] [.int 0] h _
        refine qg_if false rfl (rfl) rfl ?_
        refine qg_pls (n := 2) (k' := 64) (lo' := [some (.ref 14), none]) (S' := [.retAddr 1101, .ref 14]) (h' := h) rfl ?_
        by_cases t9 : ztk e s.1 = 94
        · skip
          refine qg_call (v := some (.int 1)) (h' := h) (as := [.ref 14, .retAddr 1101]) rfl rfl rfl rfl rfl rfl rfl (ai_rcv1 rfl rfl (mcs_rcv hc).choose_spec) (by have hh := m_isMark (L := L) (xs := xs) (d := d) ht hc (k := 94) (by decide); rw [if_pos t9] at hh; exact qe_up (by omega) hh) ?_
          show qg L xs _ qm_156 65 [some (.ref 14), none] [.int 1] h _
          refine qg_if true rfl (rfl) rfl ?_
          refine qg_pls (n := 4) (k' := 87) (lo' := [some (.ref 14), some (.int 1)]) (S' := [.int 1]) (h' := h) rfl ?_
          refine qg_if false rfl (rfl) rfl ?_
          refine qg_pls (n := 2) (k' := 121) (lo' := [some (.ref 14), some (.int 1)]) (S' := [.int 4]) (h' := h) rfl ?_
          (first | rw [show znk e s.1 = 4 by unfold znk; rw [t9]; decide] | rw [znk_no hlt (by simp only [List.mem_cons, List.not_mem_nil, or_false, not_or]; omega)])
          exact qg_ret5 rfl rfl rfl
        · skip
          refine qg_call (v := some (.int 0)) (h' := h) (as := [.ref 14, .retAddr 1101]) rfl rfl rfl rfl rfl rfl rfl (ai_rcv1 rfl rfl (mcs_rcv hc).choose_spec) (by have hh := m_isMark (L := L) (xs := xs) (d := d) ht hc (k := 94) (by decide); rw [if_neg t9] at hh; exact qe_up (by omega) hh) ?_
          show qg L xs _ qm_156 65 [some (.ref 14), none] [.int 0] h _
          refine qg_if false rfl (rfl) rfl ?_
          refine qg_pls (n := 2) (k' := 68) (lo' := [some (.ref 14), none]) (S' := [.retAddr 1102, .ref 14]) (h' := h) rfl ?_
          by_cases t10 : ztk e s.1 = 95
          · skip
            refine qg_call (v := some (.int 1)) (h' := h) (as := [.ref 14, .retAddr 1102]) rfl rfl rfl rfl rfl rfl rfl (ai_rcv1 rfl rfl (mcs_rcv hc).choose_spec) (by have hh := m_isMark (L := L) (xs := xs) (d := d) ht hc (k := 95) (by decide); rw [if_pos t10] at hh; exact qe_up (by omega) hh) ?_
            show qg L xs _ qm_156 69 [some (.ref 14), none] [.int 1] h _
            refine qg_if true rfl (rfl) rfl ?_
            refine qg_pls (n := 4) (k' := 87) (lo' := [some (.ref 14), some (.int 1)]) (S' := [.int 1]) (h' := h) rfl ?_
            refine qg_if false rfl (rfl) rfl ?_
            refine qg_pls (n := 2) (k' := 121) (lo' := [some (.ref 14), some (.int 1)]) (S' := [.int 4]) (h' := h) rfl ?_
            (first | rw [show znk e s.1 = 4 by unfold znk; rw [t10]; decide] | rw [znk_no hlt (by simp only [List.mem_cons, List.not_mem_nil, or_false, not_or]; omega)])
            exact qg_ret5 rfl rfl rfl
          · skip
            refine qg_call (v := some (.int 0)) (h' := h) (as := [.ref 14, .retAddr 1102]) rfl rfl rfl rfl rfl rfl rfl (ai_rcv1 rfl rfl (mcs_rcv hc).choose_spec) (by have hh := m_isMark (L := L) (xs := xs) (d := d) ht hc (k := 95) (by decide); rw [if_neg t10] at hh; exact qe_up (by omega) hh) ?_
            show qg L xs _ qm_156 69 [some (.ref 14), none] [.int 0] h _
            refine qg_if false rfl (rfl) rfl ?_
            refine qg_pls (n := 2) (k' := 72) (lo' := [some (.ref 14), none]) (S' := [.retAddr 1103, .ref 14]) (h' := h) rfl ?_
            by_cases t11 : ztk e s.1 = 96
            · skip
              refine qg_call (v := some (.int 1)) (h' := h) (as := [.ref 14, .retAddr 1103]) rfl rfl rfl rfl rfl rfl rfl (ai_rcv1 rfl rfl (mcs_rcv hc).choose_spec) (by have hh := m_isMark (L := L) (xs := xs) (d := d) ht hc (k := 96) (by decide); rw [if_pos t11] at hh; exact qe_up (by omega) hh) ?_
              show qg L xs _ qm_156 73 [some (.ref 14), none] [.int 1] h _
              refine qg_if true rfl (rfl) rfl ?_
              refine qg_pls (n := 4) (k' := 87) (lo' := [some (.ref 14), some (.int 1)]) (S' := [.int 1]) (h' := h) rfl ?_
              refine qg_if false rfl (rfl) rfl ?_
              refine qg_pls (n := 2) (k' := 121) (lo' := [some (.ref 14), some (.int 1)]) (S' := [.int 4]) (h' := h) rfl ?_
              (first | rw [show znk e s.1 = 4 by unfold znk; rw [t11]; decide] | rw [znk_no hlt (by simp only [List.mem_cons, List.not_mem_nil, or_false, not_or]; omega)])
              exact qg_ret5 rfl rfl rfl
            · skip
              refine qg_call (v := some (.int 0)) (h' := h) (as := [.ref 14, .retAddr 1103]) rfl rfl rfl rfl rfl rfl rfl (ai_rcv1 rfl rfl (mcs_rcv hc).choose_spec) (by have hh := m_isMark (L := L) (xs := xs) (d := d) ht hc (k := 96) (by decide); rw [if_neg t11] at hh; exact qe_up (by omega) hh) ?_
              show qg L xs _ qm_156 73 [some (.ref 14), none] [.int 0] h _
              refine qg_if false rfl (rfl) rfl ?_
              refine qg_pls (n := 2) (k' := 76) (lo' := [some (.ref 14), none]) (S' := [.retAddr 1104, .ref 14]) (h' := h) rfl ?_
              by_cases t12 : ztk e s.1 = 97
              · skip
                refine qg_call (v := some (.int 1)) (h' := h) (as := [.ref 14, .retAddr 1104]) rfl rfl rfl rfl rfl rfl rfl (ai_rcv1 rfl rfl (mcs_rcv hc).choose_spec) (by have hh := m_isMark (L := L) (xs := xs) (d := d) ht hc (k := 97) (by decide); rw [if_pos t12] at hh; exact qe_up (by omega) hh) ?_
                show qg L xs _ qm_156 77 [some (.ref 14), none] [.int 1] h _
                refine qg_if true rfl (rfl) rfl ?_
                refine qg_pls (n := 4) (k' := 87) (lo' := [some (.ref 14), some (.int 1)]) (S' := [.int 1]) (h' := h) rfl ?_
                refine qg_if false rfl (rfl) rfl ?_
                refine qg_pls (n := 2) (k' := 121) (lo' := [some (.ref 14), some (.int 1)]) (S' := [.int 4]) (h' := h) rfl ?_
                (first | rw [show znk e s.1 = 4 by unfold znk; rw [t12]; decide] | rw [znk_no hlt (by simp only [List.mem_cons, List.not_mem_nil, or_false, not_or]; omega)])
                exact qg_ret5 rfl rfl rfl
              · skip
                refine qg_call (v := some (.int 0)) (h' := h) (as := [.ref 14, .retAddr 1104]) rfl rfl rfl rfl rfl rfl rfl (ai_rcv1 rfl rfl (mcs_rcv hc).choose_spec) (by have hh := m_isMark (L := L) (xs := xs) (d := d) ht hc (k := 97) (by decide); rw [if_neg t12] at hh; exact qe_up (by omega) hh) ?_
                show qg L xs _ qm_156 77 [some (.ref 14), none] [.int 0] h _
                refine qg_if false rfl (rfl) rfl ?_
                refine qg_pls (n := 2) (k' := 80) (lo' := [some (.ref 14), none]) (S' := [.retAddr 1105, .ref 14]) (h' := h) rfl ?_
                by_cases t13 : ztk e s.1 = 98
                · skip
                  refine qg_call (v := some (.int 1)) (h' := h) (as := [.ref 14, .retAddr 1105]) rfl rfl rfl rfl rfl rfl rfl (ai_rcv1 rfl rfl (mcs_rcv hc).choose_spec) (by have hh := m_isMark (L := L) (xs := xs) (d := d) ht hc (k := 98) (by decide); rw [if_pos t13] at hh; exact qe_up (by omega) hh) ?_
                  show qg L xs _ qm_156 81 [some (.ref 14), none] [.int 1] h _
                  refine qg_if false rfl (rfl) rfl ?_
                  refine qg_pls (n := 4) (k' := 87) (lo' := [some (.ref 14), some (.int 1)]) (S' := [.int 1]) (h' := h) rfl ?_
                  refine qg_if false rfl (rfl) rfl ?_
                  refine qg_pls (n := 2) (k' := 121) (lo' := [some (.ref 14), some (.int 1)]) (S' := [.int 4]) (h' := h) rfl ?_
                  (first | rw [show znk e s.1 = 4 by unfold znk; rw [t13]; decide] | rw [znk_no hlt (by simp only [List.mem_cons, List.not_mem_nil, or_false, not_or]; omega)])
                  exact qg_ret5 rfl rfl rfl
                · skip
                  refine qg_call (v := some (.int 0)) (h' := h) (as := [.ref 14, .retAddr 1105]) rfl rfl rfl rfl rfl rfl rfl (ai_rcv1 rfl rfl (mcs_rcv hc).choose_spec) (by have hh := m_isMark (L := L) (xs := xs) (d := d) ht hc (k := 98) (by decide); rw [if_neg t13] at hh; exact qe_up (by omega) hh) ?_
                  show qg L xs _ qm_156 81 [some (.ref 14), none] [.int 0] h _
                  refine qg_if true rfl (rfl) rfl ?_
                  refine qg_pls (n := 3) (k' := 87) (lo' := [some (.ref 14), some (.int 0)]) (S' := [.int 0]) (h' := h) rfl ?_
                  refine qg_if true rfl (rfl) rfl ?_
                  refine qg_pls (n := 2) (k' := 92) (lo' := [some (.ref 14), some (.int 0)]) (S' := [.retAddr 1106, .ref 14]) (h' := h) rfl ?_
                  by_cases t14 : ztk e s.1 = 92
                  · skip
                    refine qg_call (v := some (.int 1)) (h' := h) (as := [.ref 14, .retAddr 1106]) rfl rfl rfl rfl rfl rfl rfl (ai_rcv1 rfl rfl (mcs_rcv hc).choose_spec) (by have hh := m_isMark (L := L) (xs := xs) (d := d) ht hc (k := 92) (by decide); rw [if_pos t14] at hh; exact qe_up (by omega) hh) ?_
                    show qg L xs _ qm_156 93 [some (.ref 14), some (.int 0)] [.int 1] h _
                    refine qg_if false rfl (rfl) rfl ?_
                    refine qg_pls (n := 2) (k' := 121) (lo' := [some (.ref 14), some (.int 0)]) (S' := [.int 5]) (h' := h) rfl ?_
                    (first | rw [show znk e s.1 = 5 by unfold znk; rw [t14]; decide] | rw [znk_no hlt (by simp only [List.mem_cons, List.not_mem_nil, or_false, not_or]; omega)])
                    exact qg_ret5 rfl rfl rfl
                  · skip
                    refine qg_call (v := some (.int 0)) (h' := h) (as := [.ref 14, .retAddr 1106]) rfl rfl rfl rfl rfl rfl rfl (ai_rcv1 rfl rfl (mcs_rcv hc).choose_spec) (by have hh := m_isMark (L := L) (xs := xs) (d := d) ht hc (k := 92) (by decide); rw [if_neg t14] at hh; exact qe_up (by omega) hh) ?_
                    show qg L xs _ qm_156 93 [some (.ref 14), some (.int 0)] [.int 0] h _
                    refine qg_if true rfl (rfl) rfl ?_
                    refine qg_pls (n := 2) (k' := 98) (lo' := [some (.ref 14), some (.int 0)]) (S' := [.retAddr 1107, .ref 14]) (h' := h) rfl ?_
                    by_cases t15 : ztk e s.1 = 87
                    · skip
                      refine qg_call (v := some (.int 1)) (h' := h) (as := [.ref 14, .retAddr 1107]) rfl rfl rfl rfl rfl rfl rfl (ai_rcv1 rfl rfl (mcs_rcv hc).choose_spec) (by have hh := m_isMark (L := L) (xs := xs) (d := d) ht hc (k := 87) (by decide); rw [if_pos t15] at hh; exact qe_up (by omega) hh) ?_
                      show qg L xs _ qm_156 99 [some (.ref 14), some (.int 0)] [.int 1] h _
                      refine qg_if true rfl (rfl) rfl ?_
                      refine qg_pls (n := 2) (k' := 121) (lo' := [some (.ref 14), some (.int 0)]) (S' := [.int 6]) (h' := h) rfl ?_
                      (first | rw [show znk e s.1 = 6 by unfold znk; rw [t15]; decide] | rw [znk_no hlt (by simp only [List.mem_cons, List.not_mem_nil, or_false, not_or]; omega)])
                      exact qg_ret5 rfl rfl rfl
                    · skip
                      refine qg_call (v := some (.int 0)) (h' := h) (as := [.ref 14, .retAddr 1107]) rfl rfl rfl rfl rfl rfl rfl (ai_rcv1 rfl rfl (mcs_rcv hc).choose_spec) (by have hh := m_isMark (L := L) (xs := xs) (d := d) ht hc (k := 87) (by decide); rw [if_neg t15] at hh; exact qe_up (by omega) hh) ?_
                      show qg L xs _ qm_156 99 [some (.ref 14), some (.int 0)] [.int 0] h _
                      refine qg_if false rfl (rfl) rfl ?_
                      refine qg_pls (n := 2) (k' := 102) (lo' := [some (.ref 14), some (.int 0)]) (S' := [.retAddr 1097, .ref 14]) (h' := h) rfl ?_
                      by_cases t16 : ztk e s.1 = 88
                      · skip
                        refine qg_call (v := some (.int 1)) (h' := h) (as := [.ref 14, .retAddr 1097]) rfl rfl rfl rfl rfl rfl rfl (ai_rcv1 rfl rfl (mcs_rcv hc).choose_spec) (by have hh := m_isMark (L := L) (xs := xs) (d := d) ht hc (k := 88) (by decide); rw [if_pos t16] at hh; exact qe_up (by omega) hh) ?_
                        show qg L xs _ qm_156 103 [some (.ref 14), some (.int 0)] [.int 1] h _
                        refine qg_if false rfl (rfl) rfl ?_
                        refine qg_pls (n := 2) (k' := 121) (lo' := [some (.ref 14), some (.int 0)]) (S' := [.int 6]) (h' := h) rfl ?_
                        (first | rw [show znk e s.1 = 6 by unfold znk; rw [t16]; decide] | rw [znk_no hlt (by simp only [List.mem_cons, List.not_mem_nil, or_false, not_or]; omega)])
                        exact qg_ret5 rfl rfl rfl
                      · skip
                        refine qg_call (v := some (.int 0)) (h' := h) (as := [.ref 14, .retAddr 1097]) rfl rfl rfl rfl rfl rfl rfl (ai_rcv1 rfl rfl (mcs_rcv hc).choose_spec) (by have hh := m_isMark (L := L) (xs := xs) (d := d) ht hc (k := 88) (by decide); rw [if_neg t16] at hh; exact qe_up (by omega) hh) ?_
                        show qg L xs _ qm_156 103 [some (.ref 14), some (.int 0)] [.int 0] h _
                        refine qg_if true rfl (rfl) rfl ?_
                        refine qg_pls (n := 2) (k' := 108) (lo' := [some (.ref 14), some (.int 0)]) (S' := [.retAddr 1096, .ref 14]) (h' := h) rfl ?_
                        by_cases t17 : ztk e s.1 = 89
                        · skip
                          refine qg_call (v := some (.int 1)) (h' := h) (as := [.ref 14, .retAddr 1096]) rfl rfl rfl rfl rfl rfl rfl (ai_rcv1 rfl rfl (mcs_rcv hc).choose_spec) (by have hh := m_isMark (L := L) (xs := xs) (d := d) ht hc (k := 89) (by decide); rw [if_pos t17] at hh; exact qe_up (by omega) hh) ?_
                          show qg L xs _ qm_156 109 [some (.ref 14), some (.int 0)] [.int 1] h _
                          refine qg_if true rfl (rfl) rfl ?_
                          refine qg_pls (n := 2) (k' := 121) (lo' := [some (.ref 14), some (.int 0)]) (S' := [.int 7]) (h' := h) rfl ?_
                          (first | rw [show znk e s.1 = 7 by unfold znk; rw [t17]; decide] | rw [znk_no hlt (by simp only [List.mem_cons, List.not_mem_nil, or_false, not_or]; omega)])
                          exact qg_ret5 rfl rfl rfl
                        · skip
                          refine qg_call (v := some (.int 0)) (h' := h) (as := [.ref 14, .retAddr 1096]) rfl rfl rfl rfl rfl rfl rfl (ai_rcv1 rfl rfl (mcs_rcv hc).choose_spec) (by have hh := m_isMark (L := L) (xs := xs) (d := d) ht hc (k := 89) (by decide); rw [if_neg t17] at hh; exact qe_up (by omega) hh) ?_
                          show qg L xs _ qm_156 109 [some (.ref 14), some (.int 0)] [.int 0] h _
                          refine qg_if false rfl (rfl) rfl ?_
                          refine qg_pls (n := 2) (k' := 112) (lo' := [some (.ref 14), some (.int 0)]) (S' := [.retAddr 1108, .ref 14]) (h' := h) rfl ?_
                          by_cases t18 : ztk e s.1 = 90
                          · skip
                            refine qg_call (v := some (.int 1)) (h' := h) (as := [.ref 14, .retAddr 1108]) rfl rfl rfl rfl rfl rfl rfl (ai_rcv1 rfl rfl (mcs_rcv hc).choose_spec) (by have hh := m_isMark (L := L) (xs := xs) (d := d) ht hc (k := 90) (by decide); rw [if_pos t18] at hh; exact qe_up (by omega) hh) ?_
                            show qg L xs _ qm_156 113 [some (.ref 14), some (.int 0)] [.int 1] h _
                            refine qg_if true rfl (rfl) rfl ?_
                            refine qg_pls (n := 2) (k' := 121) (lo' := [some (.ref 14), some (.int 0)]) (S' := [.int 7]) (h' := h) rfl ?_
                            (first | rw [show znk e s.1 = 7 by unfold znk; rw [t18]; decide] | rw [znk_no hlt (by simp only [List.mem_cons, List.not_mem_nil, or_false, not_or]; omega)])
                            exact qg_ret5 rfl rfl rfl
                          · skip
                            refine qg_call (v := some (.int 0)) (h' := h) (as := [.ref 14, .retAddr 1108]) rfl rfl rfl rfl rfl rfl rfl (ai_rcv1 rfl rfl (mcs_rcv hc).choose_spec) (by have hh := m_isMark (L := L) (xs := xs) (d := d) ht hc (k := 90) (by decide); rw [if_neg t18] at hh; exact qe_up (by omega) hh) ?_
                            show qg L xs _ qm_156 113 [some (.ref 14), some (.int 0)] [.int 0] h _
                            refine qg_if false rfl (rfl) rfl ?_
                            refine qg_pls (n := 2) (k' := 116) (lo' := [some (.ref 14), some (.int 0)]) (S' := [.retAddr 1109, .ref 14]) (h' := h) rfl ?_
                            by_cases t19 : ztk e s.1 = 91
                            · skip
                              refine qg_call (v := some (.int 1)) (h' := h) (as := [.ref 14, .retAddr 1109]) rfl rfl rfl rfl rfl rfl rfl (ai_rcv1 rfl rfl (mcs_rcv hc).choose_spec) (by have hh := m_isMark (L := L) (xs := xs) (d := d) ht hc (k := 91) (by decide); rw [if_pos t19] at hh; exact qe_up (by omega) hh) ?_
                              show qg L xs _ qm_156 117 [some (.ref 14), some (.int 0)] [.int 1] h _
                              refine qg_if false rfl (rfl) rfl ?_
                              refine qg_pls (n := 2) (k' := 121) (lo' := [some (.ref 14), some (.int 0)]) (S' := [.int 7]) (h' := h) rfl ?_
                              (first | rw [show znk e s.1 = 7 by unfold znk; rw [t19]; decide] | rw [znk_no hlt (by simp only [List.mem_cons, List.not_mem_nil, or_false, not_or]; omega)])
                              exact qg_ret5 rfl rfl rfl
                            · skip
                              refine qg_call (v := some (.int 0)) (h' := h) (as := [.ref 14, .retAddr 1109]) rfl rfl rfl rfl rfl rfl rfl (ai_rcv1 rfl rfl (mcs_rcv hc).choose_spec) (by have hh := m_isMark (L := L) (xs := xs) (d := d) ht hc (k := 91) (by decide); rw [if_neg t19] at hh; exact qe_up (by omega) hh) ?_
                              show qg L xs _ qm_156 117 [some (.ref 14), some (.int 0)] [.int 0] h _
                              refine qg_if true rfl (rfl) rfl ?_
                              refine qg_pls (n := 1) (k' := 121) (lo' := [some (.ref 14), some (.int 0)]) (S' := [.int 0]) (h' := h) rfl ?_
                              (first | rw [show znk e s.1 = 0 by unfold znk; rw [NONE]; decide] | rw [znk_no hlt (by simp only [List.mem_cons, List.not_mem_nil, or_false, not_or]; omega)])
                              exact qg_ret5 rfl rfl rfl
    · skip
      refine qg_icmp false rfl (qc_eqF (b := 5) (fun q => hB (hzc.2.1.mp q).2) (by omega) (by decide)) rfl ?_
      refine qg_pls (n := 1) (k' := 57) (lo' := [some (.ref 14), none]) (S' := [.int 0]) (h' := h) rfl ?_
      rw [znk_no hlt (by simp only [List.mem_cons, List.not_mem_nil, or_false, not_or]; omega)]
      exact qg_ret5 rfl rfl rfl
/-- the operators of this expression that wait stand in order -/
def mso (l0 : Nat) : Nat → zK → Prop
  | st, [] => l0 ≤ st
  | st, q :: Q => q.1 ≤ st ∧ mso l0 q.1 Q
/-- where the undermost of them begins -/
def zbot : zK → Nat → Nat
  | [], st => st
  | q :: p, _ => zbot p q.1
theorem mso_le {l0 : Nat} : ∀ {Q : zK} {st : Nat}, mso l0 st Q → l0 ≤ st ∧ ∀ q ∈ Q, q.1 ≤ st := by
  intro Q
  induction Q with
  | nil => intro st hm; exact ⟨hm, (fun q hq => by cases hq)⟩
  | cons p Q ih =>
    intro st hm
    obtain ⟨a, b⟩ := ih hm.2
    refine ⟨Nat.le_trans a hm.1, fun q hq => ?_⟩
    rcases List.mem_cons.mp hq with rfl | hq
    · exact hm.1
    · exact Nat.le_trans (b q hq) hm.1
theorem mso_up {l0 st st' : Nat} {Q : zK} (hm : mso l0 st Q) (h : st ≤ st') : mso l0 st' Q := by
  cases Q with
  | nil => exact Nat.le_trans hm h
  | cons q Q => exact ⟨Nat.le_trans hm.1 h, hm.2⟩
theorem mle_of {l0 st : Nat} {Q : zK} (hm : mso l0 st Q) (hl : mle K P l0) : mle K (Q ++ P) st := by
  obtain ⟨a, b⟩ := mso_le hm
  refine ⟨fun q hq => ?_, fun u hu => Nat.le_trans (hl.2.1 u hu) a, fun m hm => Nat.le_trans (hl.2.2 m hm) a⟩
  rcases List.mem_append.mp hq with r | r
  · exact b q r
  · exact Nat.le_trans (hl.1 q r) a
theorem zcb_stop {nx st ma : Nat} {p : zK} (hp : ∀ q p', p = q :: p' → q.2 < nx) : zcb nx p st ma s = some (some (p, st, ma), s) := by
  cases p with
  | nil => rfl
  | cons q p =>
    have := hp q p rfl
    unfold zcb
    rw [if_neg (by omega)]
/-- QueryReaderModel.settleTo -/
theorem m_sto (ht : mtk e Y) {nx l0 r0 : Nat} {R : zK} (hl : mle K P l0) (hn : 1 ≤ nx) (hn8 : nx ≤ 8) (hR : ∀ q R', R = q :: R' → q.2 < nx ∨ q.2 = 9) : ∀ (p : zK) (st ma r : Nat) (s s' : zS) (h : ai_H) (v : Option (zK × Nat × Nat)), mxp e Y K (p ++ R ++ P) s h st ma → mso l0 st (p ++ R) → (∀ q ∈ p, 1 ≤ q.2 ∧ q.2 ≤ 8) → zcb nx p st ma s = some (v, s') → ∃ h' p' st' ma' r', v = some (p', st', ma') ∧ qg L xs (d + 3) qm_157 2 [some (.ref 14), some (.int (nI P.length)), some (.int (nI nx)), some (.int (nI r0)), some (.int (nI r))] [] h (.inl (some (.int (nI r'))), h') ∧ mxp e Y K (p' ++ R ++ P) s' h' st' ma' ∧ mso l0 st' (p' ++ R) ∧ (∀ q ∈ p', q ∈ p) ∧ (∀ q p'', p' = q :: p'' → q.2 < nx) ∧ zbot p' st' = zbot p st ∧ (r' = r ∧ p' = p ∧ s' = s ∨ nx ≤ r' ∧ r' ≤ 8) ∧ s'.1 = s.1 := by
  intro p
  induction p with
  | nil =>
    intro st ma r s s' h v hx hm hq hz
    cases hz
    refine ⟨h, [], st, ma, r, rfl, ?_, hx, hm, fun q hq => hq, (fun q p'' e1 => by cases e1), rfl, Or.inl ⟨rfl, rfl, rfl⟩, rfl⟩
    obtain ⟨J, k, hc, -⟩ := hx
    obtain ⟨rf, bf, wr, wf, h5, c6, c7, c8, ⟨cu, c9, c10, c11⟩, c14⟩ := mcs0_5 hc
    refine qg_pls (n := 1) (k' := 3) (lo' := [some (.ref 14), some (.int (nI P.length)), some (.int (nI nx)), some (.int (nI r0)), some (.int (nI r))]) (S' := [.ref 14]) (h' := h) rfl ?_
    refine qg_getf (v := .int (nI ((R ++ P).length))) rfl h5.1 rfl rfl rfl ?_
    refine qg_pls (n := 1) (k' := 5) (lo' := [some (.ref 14), some (.int (nI P.length)), some (.int (nI nx)), some (.int (nI r0)), some (.int (nI r))]) (S' := [.int (nI P.length), .int (nI ((R ++ P).length))]) (h' := h) rfl ?_
    cases R with
    | nil =>
      refine qg_icmp true rfl (qc_leT (Nat.le_refl _) (by have : P.length ≤ 300 := c9.2.2.2.2; omega)) rfl ?_
      refine qg_pls (n := 1) (k' := 36) (lo' := [some (.ref 14), some (.int (nI P.length)), some (.int (nI nx)), some (.int (nI r0)), some (.int (nI r))]) (S' := [.int (nI r)]) (h' := h) rfl ?_
      exact qg_ret5 rfl rfl rfl
    | cons q R =>
      have hl1 : (q :: R ++ P).length = (R ++ P).length + 1 := rfl
      have hl2 : P.length ≤ (R ++ P).length := by rw [List.length_append]; omega
      have hl3 : (q :: R ++ P).length ≤ 300 := c9.2.2.2.2
      obtain ⟨-, w1, w2, -⟩ := mww_pop (W := R ++ P) c8
      refine qg_icmp false rfl (qc_leF (by omega) (by omega)) rfl ?_
      refine qg_pls (n := 1) (k' := 7) (lo' := [some (.ref 14), some (.int (nI P.length)), some (.int (nI nx)), some (.int (nI r0)), some (.int (nI r))]) (S' := [.ref 14]) (h' := h) rfl ?_
      refine qg_getf (v := .ref 23) rfl h5.1 rfl rfl rfl ?_
      refine qg_pls (n := 1) (k' := 9) (lo' := [some (.ref 14), some (.int (nI P.length)), some (.int (nI nx)), some (.int (nI r0)), some (.int (nI r))]) (S' := [.ref 14, .ref 23]) (h' := h) rfl ?_
      refine qg_getf (v := .int (nI ((q :: R ++ P).length))) rfl h5.1 rfl rfl rfl ?_
      refine qg_pls (n := 2) (k' := 12) (lo' := [some (.ref 14), some (.int (nI P.length)), some (.int (nI nx)), some (.int (nI r0)), some (.int (nI r))]) (S' := [.int ((nI ((q :: R ++ P).length)) - 1), .ref 23]) (h' := h) rfl ?_
      rw [show nI (q :: R ++ P).length - 1 = nI (R ++ P).length from nI_sub (b := 1) (by omega)]
      refine qg_ald rfl (fun _ _ _ => rfl) h5.2.2.2.1 (by omega) (by decide) ?_
      rw [w1]
      refine qg_pls (n := 1) (k' := 14) (lo' := [some (.ref 14), some (.int (nI P.length)), some (.int (nI nx)), some (.int (nI r0)), some (.int (nI r))]) (S' := [.int (nI nx), .int (nI q.2)]) (h' := h) rfl ?_
      by_cases hlt : q.2 < nx
      · skip
        refine qg_icmp true rfl (qc_ltT hlt (by omega)) rfl ?_
        refine qg_pls (n := 1) (k' := 36) (lo' := [some (.ref 14), some (.int (nI P.length)), some (.int (nI nx)), some (.int (nI r0)), some (.int (nI r))]) (S' := [.int (nI r)]) (h' := h) rfl ?_
        exact qg_ret5 rfl rfl rfl
      · have q9 : q.2 = 9 := by
          rcases hR q R rfl with z | z
          · omega
          · exact z
        refine qg_icmp false rfl (qc_ltF (by omega) (by omega)) rfl ?_
        refine qg_pls (n := 1) (k' := 16) (lo' := [some (.ref 14), some (.int (nI P.length)), some (.int (nI nx)), some (.int (nI r0)), some (.int (nI r))]) (S' := [.ref 14]) (h' := h) rfl ?_
        refine qg_getf (v := .ref 23) rfl h5.1 rfl rfl rfl ?_
        refine qg_pls (n := 1) (k' := 18) (lo' := [some (.ref 14), some (.int (nI P.length)), some (.int (nI nx)), some (.int (nI r0)), some (.int (nI r))]) (S' := [.ref 14, .ref 23]) (h' := h) rfl ?_
        refine qg_getf (v := .int (nI ((q :: R ++ P).length))) rfl h5.1 rfl rfl rfl ?_
        refine qg_pls (n := 2) (k' := 21) (lo' := [some (.ref 14), some (.int (nI P.length)), some (.int (nI nx)), some (.int (nI r0)), some (.int (nI r))]) (S' := [.int ((nI ((q :: R ++ P).length)) - 1), .ref 23]) (h' := h) rfl ?_
        rw [show nI (q :: R ++ P).length - 1 = nI (R ++ P).length from nI_sub (b := 1) (by omega)]
        refine qg_ald rfl (fun _ _ _ => rfl) h5.2.2.2.1 (by omega) (by decide) ?_
        rw [w1]
        refine qg_pls (n := 1) (k' := 23) (lo' := [some (.ref 14), some (.int (nI P.length)), some (.int (nI nx)), some (.int (nI r0)), some (.int (nI r))]) (S' := [.int 9, .int (nI q.2)]) (h' := h) rfl ?_
        refine qg_icmp true rfl (qc_eqT (b := 9) q9) rfl ?_
        refine qg_pls (n := 1) (k' := 36) (lo' := [some (.ref 14), some (.int (nI P.length)), some (.int (nI nx)), some (.int (nI r0)), some (.int (nI r))]) (S' := [.int (nI r)]) (h' := h) rfl ?_
        exact qg_ret5 rfl rfl rfl
  | cons q p ih =>
    intro st ma r s s' h v hx hm hq hz
    obtain ⟨J, k, hc, hk1, hst, hma, hbr⟩ := id hx
    have hfr := mtk_fr ht s.1
    have hm2 : q.1 ≤ st ∧ mso l0 q.1 (p ++ R) := hm
    obtain ⟨rf, bf, wr, wf, h5, c6, c7, c8, ⟨cu, c9, c10, c11⟩, c14⟩ := mcs0_5 hc
    have hl1 : (q :: p ++ R ++ P).length = (p ++ R ++ P).length + 1 := rfl
    have hl2 : P.length ≤ (p ++ R ++ P).length := by rw [List.length_append]; omega
    have hl3 : (q :: p ++ R ++ P).length ≤ 300 := c9.2.2.2.2
    obtain ⟨-, w1, w2, -⟩ := mww_pop (W := p ++ R ++ P) c8
    obtain ⟨q1, q2⟩ := hq q (List.mem_cons_self ..)
    have road : ∀ o, qg L xs (d + 3) qm_157 14 [some (.ref 14), some (.int (nI P.length)), some (.int (nI nx)), some (.int (nI r0)), some (.int (nI r))] [.int (nI nx), .int (nI q.2)] h o → qg L xs (d + 3) qm_157 2 [some (.ref 14), some (.int (nI P.length)), some (.int (nI nx)), some (.int (nI r0)), some (.int (nI r))] [] h o := by
      intro o hg
      refine qg_pls (n := 1) (k' := 3) (lo' := [some (.ref 14), some (.int (nI P.length)), some (.int (nI nx)), some (.int (nI r0)), some (.int (nI r))]) (S' := [.ref 14]) (h' := h) rfl ?_
      refine qg_getf (v := .int (nI ((q :: p ++ R ++ P).length))) rfl h5.1 rfl rfl rfl ?_
      refine qg_pls (n := 1) (k' := 5) (lo' := [some (.ref 14), some (.int (nI P.length)), some (.int (nI nx)), some (.int (nI r0)), some (.int (nI r))]) (S' := [.int (nI P.length), .int (nI ((q :: p ++ R ++ P).length))]) (h' := h) rfl ?_
      refine qg_icmp false rfl (qc_leF (by omega) (by omega)) rfl ?_
      refine qg_pls (n := 1) (k' := 7) (lo' := [some (.ref 14), some (.int (nI P.length)), some (.int (nI nx)), some (.int (nI r0)), some (.int (nI r))]) (S' := [.ref 14]) (h' := h) rfl ?_
      refine qg_getf (v := .ref 23) rfl h5.1 rfl rfl rfl ?_
      refine qg_pls (n := 1) (k' := 9) (lo' := [some (.ref 14), some (.int (nI P.length)), some (.int (nI nx)), some (.int (nI r0)), some (.int (nI r))]) (S' := [.ref 14, .ref 23]) (h' := h) rfl ?_
      refine qg_getf (v := .int (nI ((q :: p ++ R ++ P).length))) rfl h5.1 rfl rfl rfl ?_
      refine qg_pls (n := 2) (k' := 12) (lo' := [some (.ref 14), some (.int (nI P.length)), some (.int (nI nx)), some (.int (nI r0)), some (.int (nI r))]) (S' := [.int ((nI ((q :: p ++ R ++ P).length)) - 1), .ref 23]) (h' := h) rfl ?_
      rw [show nI (q :: p ++ R ++ P).length - 1 = nI (p ++ R ++ P).length from nI_sub (b := 1) (by omega)]
      refine qg_ald rfl (fun _ _ _ => rfl) h5.2.2.2.1 (by omega) (by decide) ?_
      rw [w1]
      refine qg_pls (n := 1) (k' := 14) (lo' := [some (.ref 14), some (.int (nI P.length)), some (.int (nI nx)), some (.int (nI r0)), some (.int (nI r))]) (S' := [.int (nI nx), .int (nI q.2)]) (h' := h) rfl ?_
      exact hg
    unfold zcb at hz
    by_cases hle : nx ≤ q.2
    · rw [if_pos hle] at hz
      rcases zbd_inv hz with ⟨z1, -⟩ | ⟨a1, s1, z1, hz⟩
      · obtain ⟨-, x, -⟩ := zpop_inv z1; cases x
      obtain ⟨-, -, e1⟩ := zpop_inv z1
      rcases zbd_inv hz with ⟨z2, -⟩ | ⟨a2, s2, z2, hz⟩
      · obtain ⟨-, x, -⟩ := zput_inv z2; cases x
      obtain ⟨-, -, e2⟩ := zput_inv z2
      rw [e1, zt_cl] at e2
      have hdn : ∃ s3, (q.2 = 3 ∨ q.2 = 8 → 0 < s.2.1) ∧ s3 = (s.1, (if q.2 = 3 ∨ q.2 = 8 then s.2.1 - 1 else s.2.1), s.2.2.1, s.2.2.2.1 - 1, s.2.2.2.2 ++ [41, 32]) ∧ zcb nx p q.1 q.2 s3 = some (v, s') := by
        rcases zbd_inv hz with ⟨z3, -⟩ | ⟨a3, s3, z3, hz⟩
        · split at z3
          · obtain ⟨-, x, -⟩ := zdown_inv z3; cases x
          · cases z3
        refine ⟨s3, ?_, ?_, hz⟩
        · intro q38
          rw [if_pos q38] at z3
          obtain ⟨x, -⟩ := zdown_inv z3
          rw [e2] at x; exact x
        · by_cases q38 : q.2 = 3 ∨ q.2 = 8
          · rw [if_pos q38] at z3 ⊢
            obtain ⟨-, -, e3⟩ := zdown_inv z3
            rw [e3, e2]
            simp only [List.append_assoc, List.cons_append, List.nil_append]
          · rw [if_neg q38] at z3 ⊢
            cases z3
            rw [e2]
            simp only [List.append_assoc, List.cons_append, List.nil_append]
      obtain ⟨s3, hdo, e3, hz3⟩ := hdn
      obtain ⟨h3, g3, x3⟩ := m_settle (L := L) (xs := xs) (d := d) ht (W := p ++ R ++ P) (q := q) hc (by omega) q1 (mle_of hm2.2 hl) hdo
      rw [← e3] at x3
      obtain ⟨h', p', st', ma', r', i1, i2, i3, i4, i5, i6, i7, i8, i9⟩ := ih q.1 q.2 q.2 s3 s' h3 v x3 hm2.2 (fun x hx => hq x (List.mem_cons_of_mem _ hx)) hz3
      refine ⟨h', p', st', ma', r', i1, road _ ?_, i3, i4, fun x hx => List.mem_cons_of_mem _ (i5 x hx), i6, i7, Or.inr ?_, by rw [i9, e3]⟩
      · skip
        refine qg_icmp false rfl (qc_ltF hle (by omega)) rfl ?_
        refine qg_pls (n := 1) (k' := 16) (lo' := [some (.ref 14), some (.int (nI P.length)), some (.int (nI nx)), some (.int (nI r0)), some (.int (nI r))]) (S' := [.ref 14]) (h' := h) rfl ?_
        refine qg_getf (v := .ref 23) rfl h5.1 rfl rfl rfl ?_
        refine qg_pls (n := 1) (k' := 18) (lo' := [some (.ref 14), some (.int (nI P.length)), some (.int (nI nx)), some (.int (nI r0)), some (.int (nI r))]) (S' := [.ref 14, .ref 23]) (h' := h) rfl ?_
        refine qg_getf (v := .int (nI ((q :: p ++ R ++ P).length))) rfl h5.1 rfl rfl rfl ?_
        refine qg_pls (n := 2) (k' := 21) (lo' := [some (.ref 14), some (.int (nI P.length)), some (.int (nI nx)), some (.int (nI r0)), some (.int (nI r))]) (S' := [.int ((nI ((q :: p ++ R ++ P).length)) - 1), .ref 23]) (h' := h) rfl ?_
        rw [show nI (q :: p ++ R ++ P).length - 1 = nI (p ++ R ++ P).length from nI_sub (b := 1) (by omega)]
        refine qg_ald rfl (fun _ _ _ => rfl) h5.2.2.2.1 (by omega) (by decide) ?_
        rw [w1]
        refine qg_pls (n := 1) (k' := 23) (lo' := [some (.ref 14), some (.int (nI P.length)), some (.int (nI nx)), some (.int (nI r0)), some (.int (nI r))]) (S' := [.int 9, .int (nI q.2)]) (h' := h) rfl ?_
        refine qg_icmp false rfl (qc_eqF (b := 9) (by omega) (by omega) (by decide)) rfl ?_
        refine qg_pls (n := 1) (k' := 25) (lo' := [some (.ref 14), some (.int (nI P.length)), some (.int (nI nx)), some (.int (nI r0)), some (.int (nI r))]) (S' := [.ref 14]) (h' := h) rfl ?_
        refine qg_getf (v := .ref 23) rfl h5.1 rfl rfl rfl ?_
        refine qg_pls (n := 1) (k' := 27) (lo' := [some (.ref 14), some (.int (nI P.length)), some (.int (nI nx)), some (.int (nI r0)), some (.int (nI r))]) (S' := [.ref 14, .ref 23]) (h' := h) rfl ?_
        refine qg_getf (v := .int (nI ((q :: p ++ R ++ P).length))) rfl h5.1 rfl rfl rfl ?_
        refine qg_pls (n := 2) (k' := 30) (lo' := [some (.ref 14), some (.int (nI P.length)), some (.int (nI nx)), some (.int (nI r0)), some (.int (nI r))]) (S' := [.int ((nI ((q :: p ++ R ++ P).length)) - 1), .ref 23]) (h' := h) rfl ?_
        rw [show nI (q :: p ++ R ++ P).length - 1 = nI (p ++ R ++ P).length from nI_sub (b := 1) (by omega)]
        refine qg_ald rfl (fun _ _ _ => rfl) h5.2.2.2.1 (by omega) (by decide) ?_
        rw [w1]
        refine qg_pls (n := 2) (k' := 33) (lo' := [some (.ref 14), some (.int (nI P.length)), some (.int (nI nx)), some (.int (nI r0)), some (.int (nI q.2))]) (S' := [.ref 14]) (h' := h) rfl ?_
        refine qg_call (v := none) (h' := h3) (as := [.ref 14]) rfl rfl rfl rfl rfl rfl rfl (ai_rcv1 rfl rfl h5.1) ((qe_up (by omega) g3)) ?_
        show qg L xs _ qm_157 34 [some (.ref 14), some (.int (nI P.length)), some (.int (nI nx)), some (.int (nI r0)), some (.int (nI q.2))] [] h3 _
        refine qg_pls (n := 1) (k' := 2) (lo' := [some (.ref 14), some (.int (nI P.length)), some (.int (nI nx)), some (.int (nI r0)), some (.int (nI q.2))]) (S' := []) (h' := h3) rfl ?_
        exact i2
      · rcases i8 with ⟨x, -, -⟩ | x
        · omega
        · exact x
    · rw [if_neg hle] at hz
      cases hz
      refine ⟨h, q :: p, st, ma, r, rfl, road _ ?_, hx, hm, fun x hx => hx, (fun x p'' e1 => by cases e1; omega), rfl, Or.inl ⟨rfl, rfl, rfl⟩, rfl⟩
      refine qg_icmp true rfl (qc_ltT (by omega) (by omega)) rfl ?_
      refine qg_pls (n := 1) (k' := 36) (lo' := [some (.ref 14), some (.int (nI P.length)), some (.int (nI nx)), some (.int (nI r0)), some (.int (nI r))]) (S' := [.int (nI r)]) (h' := h) rfl ?_
      exact qg_ret5 rfl rfl rfl
end MRK
