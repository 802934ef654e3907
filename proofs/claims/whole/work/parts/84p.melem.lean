/-! THE MODEL'S TABLES: ELEMENTS. (Printed by wip/whole/pp.py from wip/whole/src.) -/
section MEL
variable {L : Nat} {xs : Nat → Int32} {d : Nat} {h h' : ai_H} {e : zE} {Y : Nat → Option ai_C} {K : mK} {W P : zK} {s s' : zS} {ex qy : zP}
theorem ms_elem (ht : mtk e Y) (hex : mim L xs e Y K d 140 [.ref 14] 0 ex) (hop : mim L xs e Y K (d + 11) 174 [.ref 14] 1 (z_option e ex)) : mim L xs e Y K (d + 12) 171 [.ref 14] 0 (z_elem e ex) := by
  refine mim_of (M := qm_171) rfl rfl (fun P s h hc => ?_)
  show msm L xs e Y K _ qm_171 0 [some (.ref 14), none] [] h _ _ _
  have ol : ∀ (G : Nat → zS → zR Nat), (∀ (s : zS) (h : ai_H), mcs e Y K P s h → msm L xs e Y K (d + 11) qm_171 38 [some (.ref 14), some (.int 0)] [] h 0 P (G 0 s)) → ∀ (n : Nat) (s : zS) (h : ai_H), mcs e Y K P s h → msm L xs e Y K (d + 11) qm_171 34 [some (.ref 14), some (.int 1)] [] h 0 P (zbd (zlp (z_option e ex) n s) G) := by
    intro G tail n
    induction n with
    | zero => intro s h hc; exact msm_none
    | succ n ih =>
      intro s h hc
      rw [zlp_succ]
      generalize zlp (z_option e ex) n = W at ih ⊢
      simp only [zbd_zbd]
      refine msm_pls (n := 1) (k' := 35) (lo' := [some (.ref 14), some (.int 1)]) (S' := [.ref 14]) (h' := h) rfl ?_
      first
        | refine msm_call hc (mim_up (hop) (by omega)) rfl rfl rfl rfl rfl rfl rfl rfl (ai_rcv1 rfl rfl (mcs_rcv hc).choose_spec) (fun v1 s1 h1 f1 hc1 => ?_)
        | refine msm_callL hc (mim_up (hop) (by omega)) rfl rfl rfl rfl rfl rfl rfl rfl (ai_rcv1 rfl rfl (mcs_rcv hc).choose_spec) (fun v1 s1 h1 f1 hc1 => ?_)
      show msm L xs e Y K _ qm_171 36 [some (.ref 14), some (.int 1)] [.int (nI v1)] h1 _ _ _
      try simp only [zq, zi, zc, zv, zf, zci_eq, zsi_eq, zsk_eq, zbd_zbd, zbd_some, zbd_fault, zbd_none, zite0, zite1, ↓reduceIte, Nat.one_ne_zero, Nat.reduceEqDiff]
      rcases zopt_v f1 with e1 | e1
      · subst e1
        show msm L xs e Y K _ qm_171 36 [some (.ref 14), some (.int 1)] [.int 0] h1 _ _ _
        try simp only [zq, zi, zc, zv, zf, zci_eq, zsi_eq, zsk_eq, zbd_zbd, zbd_some, zbd_fault, zbd_none, zite0, zite1, ↓reduceIte, Nat.one_ne_zero, Nat.reduceEqDiff]
        refine msm_pls (n := 3) (k' := 33) (lo' := [some (.ref 14), some (.int 0)]) (S' := [.int 0]) (h' := h1) rfl ?_
        refine msm_if true rfl (rfl) rfl ?_
        show msm L xs e Y K _ qm_171 38 [some (.ref 14), some (.int 0)] [] h1 _ _ _
        exact tail _ _ hc1
      · subst e1
        show msm L xs e Y K _ qm_171 36 [some (.ref 14), some (.int 1)] [.int 1] h1 _ _ _
        try simp only [zq, zi, zc, zv, zf, zci_eq, zsi_eq, zsk_eq, zbd_zbd, zbd_some, zbd_fault, zbd_none, zite0, zite1, ↓reduceIte, Nat.one_ne_zero, Nat.reduceEqDiff]
        refine msm_pls (n := 3) (k' := 33) (lo' := [some (.ref 14), some (.int 1)]) (S' := [.int 1]) (h' := h1) rfl ?_
        refine msm_if false rfl (rfl) rfl ?_
        show msm L xs e Y K _ qm_171 34 [some (.ref 14), some (.int 1)] [] h1 _ _ _
        by_cases gg : s1.1 ≤ s.1
        · rw [if_pos gg]; exact msm_none
        · rw [if_neg gg]; exact ih _ _ hc1
  simp only [z_elem, z_column, zq, zi, zc, zv, zf, zci_eq, zsi_eq, zsk_eq, zbd_zbd, zbd_some, zbd_fault, zbd_none, zite0, zite1, ↓reduceIte, Nat.one_ne_zero, Nat.reduceEqDiff]
  refine msm_pls (n := 2) (k' := 2) (lo' := [some (.ref 14), none]) (S' := [.retAddr 1074, .ref 14]) (h' := h) rfl ?_
  by_cases t4 : ztk e s.1 = 59
  · skip
    try simp only [zq, zi, zc, zv, zf, zci_eq, zsi_eq, zsk_eq, zbd_zbd, zbd_some, zbd_fault, zbd_none, zite0, zite1, ↓reduceIte, Nat.one_ne_zero, Nat.reduceEqDiff, t4]
    refine msm_took hc (mim_up (mi_takes (d := d) (k := 59) ht (by decide) (by decide)) (by omega)) t4 rfl rfl rfl rfl rfl rfl rfl rfl (ai_rcv1 rfl rfl (mcs_rcv hc).choose_spec) (fun v5 s5 h5 f5 hc5 => ?_)
    show msm L xs e Y K _ qm_171 3 [some (.ref 14), none] [.int 1] h5 _ _ _
    try simp only [zq, zi, zc, zv, zf, zci_eq, zsi_eq, zsk_eq, zbd_zbd, zbd_some, zbd_fault, zbd_none, zite0, zite1, ↓reduceIte, Nat.one_ne_zero, Nat.reduceEqDiff]
    refine msm_if false rfl (rfl) rfl ?_
    refine msm_pls (n := 2) (k' := 6) (lo' := [some (.ref 14), none]) (S' := [.retAddr 1054, .ref 14]) (h' := h5) rfl ?_
    first
      | refine msm_call hc5 (mim_up (mi_word (d := d) (k := 39) ht (by decide) (by decide)) (by omega)) rfl rfl rfl rfl rfl rfl rfl rfl (ai_rcv1 rfl rfl (mcs_rcv hc5).choose_spec) (fun v6 s6 h6 f6 hc6 => ?_)
      | refine msm_callL hc5 (mim_up (mi_word (d := d) (k := 39) ht (by decide) (by decide)) (by omega)) rfl rfl rfl rfl rfl rfl rfl rfl (ai_rcv1 rfl rfl (mcs_rcv hc5).choose_spec) (fun v6 s6 h6 f6 hc6 => ?_)
    show msm L xs e Y K _ qm_171 7 [some (.ref 14), none] [] h6 _ _ _
    try simp only [zq, zi, zc, zv, zf, zci_eq, zsi_eq, zsk_eq, zbd_zbd, zbd_some, zbd_fault, zbd_none, zite0, zite1, ↓reduceIte, Nat.one_ne_zero, Nat.reduceEqDiff]
    refine msm_pls (n := 1) (k' := 8) (lo' := [some (.ref 14), none]) (S' := [.ref 14]) (h' := h6) rfl ?_
    first
      | refine msm_call hc6 (mim_up (ms_brack (d := d) ht) (by omega)) rfl rfl rfl rfl rfl rfl rfl rfl (ai_rcv1 rfl rfl (mcs_rcv hc6).choose_spec) (fun v7 s7 h7 f7 hc7 => ?_)
      | refine msm_callL hc6 (mim_up (ms_brack (d := d) ht) (by omega)) rfl rfl rfl rfl rfl rfl rfl rfl (ai_rcv1 rfl rfl (mcs_rcv hc6).choose_spec) (fun v7 s7 h7 f7 hc7 => ?_)
    show msm L xs e Y K _ qm_171 9 [some (.ref 14), none] [] h7 _ _ _
    try simp only [zq, zi, zc, zv, zf, zci_eq, zsi_eq, zsk_eq, zbd_zbd, zbd_some, zbd_fault, zbd_none, zite0, zite1, ↓reduceIte, Nat.one_ne_zero, Nat.reduceEqDiff]
    refine msm_pls (n := 1) (k' := 38) (lo' := [some (.ref 14), none]) (S' := []) (h' := h7) rfl ?_
    exact msm_ret7 hc7 rfl
  · skip
    try simp only [zq, zi, zc, zv, zf, zci_eq, zsi_eq, zsk_eq, zbd_zbd, zbd_some, zbd_fault, zbd_none, zite0, zite1, ↓reduceIte, Nat.one_ne_zero, Nat.reduceEqDiff, t4]
    refine msm_left hc (mim_up (mi_takes (d := d) (k := 59) ht (by decide) (by decide)) (by omega)) t4 rfl rfl rfl rfl rfl rfl rfl rfl (ai_rcv1 rfl rfl (mcs_rcv hc).choose_spec) (fun h8 hc8 => ?_)
    show msm L xs e Y K _ qm_171 3 [some (.ref 14), none] [.int 0] h8 _ _ _
    refine msm_if true rfl (rfl) rfl ?_
    refine msm_pls (n := 2) (k' := 12) (lo' := [some (.ref 14), none]) (S' := [.retAddr 1090, .ref 14]) (h' := h8) rfl ?_
    by_cases t9 : ztk e s.1 = 76
    · skip
      try simp only [zq, zi, zc, zv, zf, zci_eq, zsi_eq, zsk_eq, zbd_zbd, zbd_some, zbd_fault, zbd_none, zite0, zite1, ↓reduceIte, Nat.one_ne_zero, Nat.reduceEqDiff, t4, t9]
      refine msm_took hc8 (mim_up (mi_takes (d := d) (k := 76) ht (by decide) (by decide)) (by omega)) t9 rfl rfl rfl rfl rfl rfl rfl rfl (ai_rcv1 rfl rfl (mcs_rcv hc8).choose_spec) (fun v10 s10 h10 f10 hc10 => ?_)
      show msm L xs e Y K _ qm_171 13 [some (.ref 14), none] [.int 1] h10 _ _ _
      try simp only [zq, zi, zc, zv, zf, zci_eq, zsi_eq, zsk_eq, zbd_zbd, zbd_some, zbd_fault, zbd_none, zite0, zite1, ↓reduceIte, Nat.one_ne_zero, Nat.reduceEqDiff]
      refine msm_if false rfl (rfl) rfl ?_
      refine msm_pls (n := 1) (k' := 15) (lo' := [some (.ref 14), none]) (S' := [.ref 14]) (h' := h10) rfl ?_
      first
        | refine msm_call hc10 (mim_up (ms_brack (d := d) ht) (by omega)) rfl rfl rfl rfl rfl rfl rfl rfl (ai_rcv1 rfl rfl (mcs_rcv hc10).choose_spec) (fun v11 s11 h11 f11 hc11 => ?_)
        | refine msm_callL hc10 (mim_up (ms_brack (d := d) ht) (by omega)) rfl rfl rfl rfl rfl rfl rfl rfl (ai_rcv1 rfl rfl (mcs_rcv hc10).choose_spec) (fun v11 s11 h11 f11 hc11 => ?_)
      show msm L xs e Y K _ qm_171 16 [some (.ref 14), none] [] h11 _ _ _
      try simp only [zq, zi, zc, zv, zf, zci_eq, zsi_eq, zsk_eq, zbd_zbd, zbd_some, zbd_fault, zbd_none, zite0, zite1, ↓reduceIte, Nat.one_ne_zero, Nat.reduceEqDiff]
      refine msm_pls (n := 1) (k' := 38) (lo' := [some (.ref 14), none]) (S' := []) (h' := h11) rfl ?_
      exact msm_ret7 hc11 rfl
    · skip
      try simp only [zq, zi, zc, zv, zf, zci_eq, zsi_eq, zsk_eq, zbd_zbd, zbd_some, zbd_fault, zbd_none, zite0, zite1, ↓reduceIte, Nat.one_ne_zero, Nat.reduceEqDiff, t4, t9]
      refine msm_left hc8 (mim_up (mi_takes (d := d) (k := 76) ht (by decide) (by decide)) (by omega)) t9 rfl rfl rfl rfl rfl rfl rfl rfl (ai_rcv1 rfl rfl (mcs_rcv hc8).choose_spec) (fun h12 hc12 => ?_)
      show msm L xs e Y K _ qm_171 13 [some (.ref 14), none] [.int 0] h12 _ _ _
      refine msm_if true rfl (rfl) rfl ?_
      refine msm_pls (n := 2) (k' := 19) (lo' := [some (.ref 14), none]) (S' := [.retAddr 1027, .ref 14]) (h' := h12) rfl ?_
      by_cases t13 : ztk e s.1 = 12
      · skip
        try simp only [zq, zi, zc, zv, zf, zci_eq, zsi_eq, zsk_eq, zbd_zbd, zbd_some, zbd_fault, zbd_none, zite0, zite1, ↓reduceIte, Nat.one_ne_zero, Nat.reduceEqDiff, t4, t9, t13]
        refine msm_took hc12 (mim_up (mi_takes (d := d) (k := 12) ht (by decide) (by decide)) (by omega)) t13 rfl rfl rfl rfl rfl rfl rfl rfl (ai_rcv1 rfl rfl (mcs_rcv hc12).choose_spec) (fun v14 s14 h14 f14 hc14 => ?_)
        show msm L xs e Y K _ qm_171 20 [some (.ref 14), none] [.int 1] h14 _ _ _
        try simp only [zq, zi, zc, zv, zf, zci_eq, zsi_eq, zsk_eq, zbd_zbd, zbd_some, zbd_fault, zbd_none, zite0, zite1, ↓reduceIte, Nat.one_ne_zero, Nat.reduceEqDiff]
        refine msm_if false rfl (rfl) rfl ?_
        refine msm_pls (n := 1) (k' := 22) (lo' := [some (.ref 14), none]) (S' := [.ref 14]) (h' := h14) rfl ?_
        first
          | refine msm_call hc14 (mim_up (ms_check (d := d) ht hex) (by omega)) rfl rfl rfl rfl rfl rfl rfl rfl (ai_rcv1 rfl rfl (mcs_rcv hc14).choose_spec) (fun v15 s15 h15 f15 hc15 => ?_)
          | refine msm_callL hc14 (mim_up (ms_check (d := d) ht hex) (by omega)) rfl rfl rfl rfl rfl rfl rfl rfl (ai_rcv1 rfl rfl (mcs_rcv hc14).choose_spec) (fun v15 s15 h15 f15 hc15 => ?_)
        show msm L xs e Y K _ qm_171 23 [some (.ref 14), none] [] h15 _ _ _
        try simp only [zq, zi, zc, zv, zf, zci_eq, zsi_eq, zsk_eq, zbd_zbd, zbd_some, zbd_fault, zbd_none, zite0, zite1, ↓reduceIte, Nat.one_ne_zero, Nat.reduceEqDiff]
        refine msm_pls (n := 1) (k' := 38) (lo' := [some (.ref 14), none]) (S' := []) (h' := h15) rfl ?_
        exact msm_ret7 hc15 rfl
      · skip
        try simp only [zq, zi, zc, zv, zf, zci_eq, zsi_eq, zsk_eq, zbd_zbd, zbd_some, zbd_fault, zbd_none, zite0, zite1, ↓reduceIte, Nat.one_ne_zero, Nat.reduceEqDiff, t4, t9, t13]
        refine msm_left hc12 (mim_up (mi_takes (d := d) (k := 12) ht (by decide) (by decide)) (by omega)) t13 rfl rfl rfl rfl rfl rfl rfl rfl (ai_rcv1 rfl rfl (mcs_rcv hc12).choose_spec) (fun h16 hc16 => ?_)
        show msm L xs e Y K _ qm_171 20 [some (.ref 14), none] [.int 0] h16 _ _ _
        refine msm_if true rfl (rfl) rfl ?_
        refine msm_pls (n := 2) (k' := 26) (lo' := [some (.ref 14), none]) (S' := [.int 2, .ref 14]) (h' := h16) rfl ?_
        by_cases t17 : ztk e s.1 = 99
        · skip
          try simp only [zq, zi, zc, zv, zf, zci_eq, zsi_eq, zsk_eq, zbd_zbd, zbd_some, zbd_fault, zbd_none, zite0, zite1, ↓reduceIte, Nat.one_ne_zero, Nat.reduceEqDiff, t4, t9, t13, t17]
          first
            | refine msm_call hc16 (mim_up (mi_name (d := d) ht) (by omega)) rfl rfl rfl rfl rfl rfl rfl rfl (ai_rcv1 rfl rfl (mcs_rcv hc16).choose_spec) (fun v18 s18 h18 f18 hc18 => ?_)
            | refine msm_callL hc16 (mim_up (mi_name (d := d) ht) (by omega)) rfl rfl rfl rfl rfl rfl rfl rfl (ai_rcv1 rfl rfl (mcs_rcv hc16).choose_spec) (fun v18 s18 h18 f18 hc18 => ?_)
          show msm L xs e Y K _ qm_171 27 [some (.ref 14), none] [] h18 _ _ _
          try simp only [zq, zi, zc, zv, zf, zci_eq, zsi_eq, zsk_eq, zbd_zbd, zbd_some, zbd_fault, zbd_none, zite0, zite1, ↓reduceIte, Nat.one_ne_zero, Nat.reduceEqDiff]
          refine msm_pls (n := 1) (k' := 28) (lo' := [some (.ref 14), none]) (S' := [.ref 14]) (h' := h18) rfl ?_
          first
            | refine msm_call hc18 (mim_up (ms_type (d := d) ht) (by omega)) rfl rfl rfl rfl rfl rfl rfl rfl (ai_rcv1 rfl rfl (mcs_rcv hc18).choose_spec) (fun v19 s19 h19 f19 hc19 => ?_)
            | refine msm_callL hc18 (mim_up (ms_type (d := d) ht) (by omega)) rfl rfl rfl rfl rfl rfl rfl rfl (ai_rcv1 rfl rfl (mcs_rcv hc18).choose_spec) (fun v19 s19 h19 f19 hc19 => ?_)
          show msm L xs e Y K _ qm_171 29 [some (.ref 14), none] [] h19 _ _ _
          try simp only [zq, zi, zc, zv, zf, zci_eq, zsi_eq, zsk_eq, zbd_zbd, zbd_some, zbd_fault, zbd_none, zite0, zite1, ↓reduceIte, Nat.one_ne_zero, Nat.reduceEqDiff]
          show msm L xs e Y K _ qm_171 29 [some (.ref 14), none] [] h19 _ _ _
          rw [← zbd_id (zlp (z_option e ex) zN _), show zN = 69999 + 1 from rfl, zlp_succ]
          simp only [zbd_zbd]
          refine msm_pls (n := 1) (k' := 30) (lo' := [some (.ref 14), none]) (S' := [.ref 14]) (h' := h19) rfl ?_
          first
            | refine msm_call hc19 (mim_up (hop) (by omega)) rfl rfl rfl rfl rfl rfl rfl rfl (ai_rcv1 rfl rfl (mcs_rcv hc19).choose_spec) (fun v21 s21 h21 f21 hc21 => ?_)
            | refine msm_callL hc19 (mim_up (hop) (by omega)) rfl rfl rfl rfl rfl rfl rfl rfl (ai_rcv1 rfl rfl (mcs_rcv hc19).choose_spec) (fun v21 s21 h21 f21 hc21 => ?_)
          show msm L xs e Y K _ qm_171 31 [some (.ref 14), none] [.int (nI v21)] h21 _ _ _
          try simp only [zq, zi, zc, zv, zf, zci_eq, zsi_eq, zsk_eq, zbd_zbd, zbd_some, zbd_fault, zbd_none, zite0, zite1, ↓reduceIte, Nat.one_ne_zero, Nat.reduceEqDiff]
          rcases zopt_v f21 with e21 | e21
          · subst e21
            show msm L xs e Y K _ qm_171 31 [some (.ref 14), none] [.int 0] h21 _ _ _
            try simp only [zq, zi, zc, zv, zf, zci_eq, zsi_eq, zsk_eq, zbd_zbd, zbd_some, zbd_fault, zbd_none, zite0, zite1, ↓reduceIte, Nat.one_ne_zero, Nat.reduceEqDiff]
            refine msm_pls (n := 2) (k' := 33) (lo' := [some (.ref 14), some (.int 0)]) (S' := [.int 0]) (h' := h21) rfl ?_
            refine msm_if true rfl (rfl) rfl ?_
            exact msm_ret7 hc21 rfl
          · subst e21
            show msm L xs e Y K _ qm_171 31 [some (.ref 14), none] [.int 1] h21 _ _ _
            try simp only [zq, zi, zc, zv, zf, zci_eq, zsi_eq, zsk_eq, zbd_zbd, zbd_some, zbd_fault, zbd_none, zite0, zite1, ↓reduceIte, Nat.one_ne_zero, Nat.reduceEqDiff]
            refine msm_pls (n := 2) (k' := 33) (lo' := [some (.ref 14), some (.int 1)]) (S' := [.int 1]) (h' := h21) rfl ?_
            refine msm_if false rfl (rfl) rfl ?_
            show msm L xs e Y K _ qm_171 34 [some (.ref 14), some (.int 1)] [] h21 _ _ _
            split
            · exact msm_none
            refine ol _ (fun s22 h22 hc22 => ?_) _ _ _ hc21
            show msm L xs e Y K _ qm_171 38 [some (.ref 14), some (.int 0)] [] h22 _ _ _
            try simp only [zq, zi, zc, zv, zf, zci_eq, zsi_eq, zsk_eq, zbd_zbd, zbd_some, zbd_fault, zbd_none, zite0, zite1, ↓reduceIte, Nat.one_ne_zero, Nat.reduceEqDiff]
            exact msm_ret7 hc22 rfl
        · simp only [zq, zi, zc, zv, zf, zci_eq, zsi_eq, zsk_eq, zbd_zbd, zbd_some, zbd_fault, zbd_none, zite0, zite1, ↓reduceIte, Nat.one_ne_zero, Nat.reduceEqDiff, t4, t9, t13, t17, zcp_no t4, zcp_no t9, zcp_no t13, znm_no t17]
          exact msm_threw hc16 (mim_up (mi_name (d := d) ht) (by omega)) (znm_no t17) rfl rfl rfl rfl rfl rfl rfl rfl (ai_rcv1 rfl rfl (mcs_rcv hc16).choose_spec)
theorem ms_named12 (ht : mtk e Y) : mim L xs e Y K (d + 3) 183 [.ref 14, .int 12, .int 2] 1 (zq (znm e) (zv 12)) := by
  refine mim_of (M := qm_183) rfl rfl (fun P s h hc => ?_)
  show msm L xs e Y K _ qm_183 0 [some (.ref 14), some (.int 12), some (.int 2)] [] h _ _ _
  simp only [zq, zq, zi, zc, zv, zf, zci_eq, zsi_eq, zsk_eq, zbd_zbd, zbd_some, zbd_fault, zbd_none, zite0, zite1, ↓reduceIte, Nat.one_ne_zero, Nat.reduceEqDiff]
  refine msm_pls (n := 2) (k' := 2) (lo' := [some (.ref 14), some (.int 12), some (.int 2)]) (S' := [.int 2, .ref 14]) (h' := h) rfl ?_
  first
    | refine msm_call hc (mim_up (mi_name (d := d) ht) (by omega)) rfl rfl rfl rfl rfl rfl rfl rfl (ai_rcv1 rfl rfl (mcs_rcv hc).choose_spec) (fun v23 s23 h23 f23 hc23 => ?_)
    | refine msm_callL hc (mim_up (mi_name (d := d) ht) (by omega)) rfl rfl rfl rfl rfl rfl rfl rfl (ai_rcv1 rfl rfl (mcs_rcv hc).choose_spec) (fun v23 s23 h23 f23 hc23 => ?_)
  show msm L xs e Y K _ qm_183 3 [some (.ref 14), some (.int 12), some (.int 2)] [] h23 _ _ _
  try simp only [zq, zi, zc, zv, zf, zci_eq, zsi_eq, zsk_eq, zbd_zbd, zbd_some, zbd_fault, zbd_none, zite0, zite1, ↓reduceIte, Nat.one_ne_zero, Nat.reduceEqDiff]
  refine msm_pls (n := 1) (k' := 4) (lo' := [some (.ref 14), some (.int 12), some (.int 2)]) (S' := [.int 12]) (h' := h23) rfl ?_
  exact msm_ret5 (v := 12) hc23 rfl rfl rfl (by decide)
theorem ms_named15 (ht : mtk e Y) : mim L xs e Y K (d + 3) 183 [.ref 14, .int 15, .int 3] 1 (zq (znu e) (zv 15)) := by
  refine mim_of (M := qm_183) rfl rfl (fun P s h hc => ?_)
  show msm L xs e Y K _ qm_183 0 [some (.ref 14), some (.int 15), some (.int 3)] [] h _ _ _
  simp only [zq, zq, zi, zc, zv, zf, zci_eq, zsi_eq, zsk_eq, zbd_zbd, zbd_some, zbd_fault, zbd_none, zite0, zite1, ↓reduceIte, Nat.one_ne_zero, Nat.reduceEqDiff]
  refine msm_pls (n := 2) (k' := 2) (lo' := [some (.ref 14), some (.int 15), some (.int 3)]) (S' := [.int 3, .ref 14]) (h' := h) rfl ?_
  first
    | refine msm_call hc (mim_up (mi_number (d := d) ht) (by omega)) rfl rfl rfl rfl rfl rfl rfl rfl (ai_rcv1 rfl rfl (mcs_rcv hc).choose_spec) (fun v24 s24 h24 f24 hc24 => ?_)
    | refine msm_callL hc (mim_up (mi_number (d := d) ht) (by omega)) rfl rfl rfl rfl rfl rfl rfl rfl (ai_rcv1 rfl rfl (mcs_rcv hc).choose_spec) (fun v24 s24 h24 f24 hc24 => ?_)
  show msm L xs e Y K _ qm_183 3 [some (.ref 14), some (.int 15), some (.int 3)] [] h24 _ _ _
  try simp only [zq, zi, zc, zv, zf, zci_eq, zsi_eq, zsk_eq, zbd_zbd, zbd_some, zbd_fault, zbd_none, zite0, zite1, ↓reduceIte, Nat.one_ne_zero, Nat.reduceEqDiff]
  refine msm_pls (n := 1) (k' := 4) (lo' := [some (.ref 14), some (.int 15), some (.int 3)]) (S' := [.int 15]) (h' := h24) rfl ?_
  exact msm_ret5 (v := 15) hc24 rfl rfl rfl (by decide)
end MEL
