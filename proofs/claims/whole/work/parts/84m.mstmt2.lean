/-! THE MODEL'S STATEMENTS WITH LOOPS. (Printed by wip/whole/pp.py from wip/whole/src.) -/
section MS2
variable {L : Nat} {xs : Nat → Int32} {d : Nat} {h h' : ai_H} {e : zE} {Y : Nat → Option ai_C} {K : mK} {W P : zK} {s s' : zS} {ex qy : zP}
def zd_update (e : zE) (ex : zP) : zP := zq (znm e) (zq (zcp e 67) (zq (zlp (zl_set e ex) zN) (zq (z_cond e ex) (zv 6))))
theorem z_update_eq : z_update e ex = zq (zcp e 77) (zd_update e ex) := rfl
theorem ms_update (ht : mtk e Y) (hex : mim L xs e Y K d 140 [.ref 14] 0 ex) : mim L xs e Y K (d + 10) 178 [.ref 14] 1 (zd_update e ex) := by
  refine mim_of (M := qm_178) rfl rfl (fun P s h hc => ?_)
  show msm L xs e Y K _ qm_178 0 [some (.ref 14)] [] h _ _ _
  have loop : ∀ (G : Nat → zS → zR Nat), (∀ (s : zS) (h : ai_H), mcs e Y K P s h → msm L xs e Y K (d + 9) qm_178 17 [some (.ref 14)] [] h 1 P (G 0 s)) → ∀ (n : Nat) (s : zS) (h : ai_H), mcs e Y K P s h → msm L xs e Y K (d + 9) qm_178 6 [some (.ref 14)] [] h 1 P (zbd (zlp (zl_set e ex) n s) G) := by
    intro G tail n
    induction n with
    | zero => intro s h hc; exact msm_none
    | succ n ih =>
      intro s h hc
      rw [zlp_succ]
      generalize zlp (zl_set e ex) n = W at ih ⊢
      simp only [zl_set, zq, zi, zc, zv, zf, zci_eq, zsi_eq, zsk_eq, zbd_zbd, zbd_some, zbd_fault, zbd_none, zite0, zite1, ↓reduceIte, Nat.one_ne_zero, Nat.reduceEqDiff]
      refine msm_pls (n := 2) (k' := 8) (lo' := [some (.ref 14)]) (S' := [.int 2, .ref 14]) (h' := h) rfl ?_
      first
        | refine msm_call hc (mim_up (mi_name (d := d) ht) (by omega)) rfl rfl rfl rfl rfl rfl rfl rfl (ai_rcv1 rfl rfl (mcs_rcv hc).choose_spec) (fun v1 s1 h1 f1 hc1 => ?_)
        | refine msm_callL hc (mim_up (mi_name (d := d) ht) (by omega)) rfl rfl rfl rfl rfl rfl rfl rfl (ai_rcv1 rfl rfl (mcs_rcv hc).choose_spec) (fun v1 s1 h1 f1 hc1 => ?_)
      show msm L xs e Y K _ qm_178 9 [some (.ref 14)] [] h1 _ _ _
      try simp only [zq, zi, zc, zv, zf, zci_eq, zsi_eq, zsk_eq, zbd_zbd, zbd_some, zbd_fault, zbd_none, zite0, zite1, ↓reduceIte, Nat.one_ne_zero, Nat.reduceEqDiff]
      refine msm_pls (n := 2) (k' := 11) (lo' := [some (.ref 14)]) (S' := [.retAddr 1100, .ref 14]) (h' := h1) rfl ?_
      first
        | refine msm_call hc1 (mim_up (mi_sign (d := d) (k := 93) ht (by decide) (by decide)) (by omega)) rfl rfl rfl rfl rfl rfl rfl rfl (ai_rcv1 rfl rfl (mcs_rcv hc1).choose_spec) (fun v2 s2 h2 f2 hc2 => ?_)
        | refine msm_callL hc1 (mim_up (mi_sign (d := d) (k := 93) ht (by decide) (by decide)) (by omega)) rfl rfl rfl rfl rfl rfl rfl rfl (ai_rcv1 rfl rfl (mcs_rcv hc1).choose_spec) (fun v2 s2 h2 f2 hc2 => ?_)
      show msm L xs e Y K _ qm_178 12 [some (.ref 14)] [] h2 _ _ _
      try simp only [zq, zi, zc, zv, zf, zci_eq, zsi_eq, zsk_eq, zbd_zbd, zbd_some, zbd_fault, zbd_none, zite0, zite1, ↓reduceIte, Nat.one_ne_zero, Nat.reduceEqDiff]
      refine msm_pls (n := 1) (k' := 13) (lo' := [some (.ref 14)]) (S' := [.ref 14]) (h' := h2) rfl ?_
      first
        | refine msm_call hc2 (mim_up (hex) (by omega)) rfl rfl rfl rfl rfl rfl rfl rfl (ai_rcv1 rfl rfl (mcs_rcv hc2).choose_spec) (fun v3 s3 h3 f3 hc3 => ?_)
        | refine msm_callL hc2 (mim_up (hex) (by omega)) rfl rfl rfl rfl rfl rfl rfl rfl (ai_rcv1 rfl rfl (mcs_rcv hc2).choose_spec) (fun v3 s3 h3 f3 hc3 => ?_)
      show msm L xs e Y K _ qm_178 14 [some (.ref 14)] [] h3 _ _ _
      try simp only [zq, zi, zc, zv, zf, zci_eq, zsi_eq, zsk_eq, zbd_zbd, zbd_some, zbd_fault, zbd_none, zite0, zite1, ↓reduceIte, Nat.one_ne_zero, Nat.reduceEqDiff]
      refine msm_pls (n := 1) (k' := 15) (lo' := [some (.ref 14)]) (S' := [.ref 14]) (h' := h3) rfl ?_
      by_cases t4 : ztk e s3.1 = 84
      · skip
        try simp only [zq, zi, zc, zv, zf, zci_eq, zsi_eq, zsk_eq, zbd_zbd, zbd_some, zbd_fault, zbd_none, zite0, zite1, ↓reduceIte, Nat.one_ne_zero, Nat.reduceEqDiff, t4]
        refine msm_took hc3 (mim_up (mi_comma (d := d) ht) (by omega)) t4 rfl rfl rfl rfl rfl rfl rfl rfl (ai_rcv1 rfl rfl (mcs_rcv hc3).choose_spec) (fun v5 s5 h5 f5 hc5 => ?_)
        show msm L xs e Y K _ qm_178 16 [some (.ref 14)] [.int 1] h5 _ _ _
        try simp only [zq, zi, zc, zv, zf, zci_eq, zsi_eq, zsk_eq, zbd_zbd, zbd_some, zbd_fault, zbd_none, zite0, zite1, ↓reduceIte, Nat.one_ne_zero, Nat.reduceEqDiff]
        refine msm_if true rfl (rfl) rfl ?_
        by_cases g6 : s5.1 ≤ s.1
        · rw [if_pos g6]; exact msm_none
        · rw [if_neg g6]; exact ih _ _ hc5
      · skip
        try simp only [zq, zi, zc, zv, zf, zci_eq, zsi_eq, zsk_eq, zbd_zbd, zbd_some, zbd_fault, zbd_none, zite0, zite1, ↓reduceIte, Nat.one_ne_zero, Nat.reduceEqDiff, t4]
        refine msm_left hc3 (mim_up (mi_comma (d := d) ht) (by omega)) t4 rfl rfl rfl rfl rfl rfl rfl rfl (ai_rcv1 rfl rfl (mcs_rcv hc3).choose_spec) (fun h7 hc7 => ?_)
        show msm L xs e Y K _ qm_178 16 [some (.ref 14)] [.int 0] h7 _ _ _
        refine msm_if false rfl (rfl) rfl ?_
        exact tail _ _ hc7
  simp only [zd_update, zq, zi, zc, zv, zf, zci_eq, zsi_eq, zsk_eq, zbd_zbd, zbd_some, zbd_fault, zbd_none, zite0, zite1, ↓reduceIte, Nat.one_ne_zero, Nat.reduceEqDiff]
  refine msm_pls (n := 2) (k' := 2) (lo' := [some (.ref 14)]) (S' := [.int 2, .ref 14]) (h' := h) rfl ?_
  first
    | refine msm_call hc (mim_up (mi_name (d := d) ht) (by omega)) rfl rfl rfl rfl rfl rfl rfl rfl (ai_rcv1 rfl rfl (mcs_rcv hc).choose_spec) (fun v8 s8 h8 f8 hc8 => ?_)
    | refine msm_callL hc (mim_up (mi_name (d := d) ht) (by omega)) rfl rfl rfl rfl rfl rfl rfl rfl (ai_rcv1 rfl rfl (mcs_rcv hc).choose_spec) (fun v8 s8 h8 f8 hc8 => ?_)
  show msm L xs e Y K _ qm_178 3 [some (.ref 14)] [] h8 _ _ _
  try simp only [zq, zi, zc, zv, zf, zci_eq, zsi_eq, zsk_eq, zbd_zbd, zbd_some, zbd_fault, zbd_none, zite0, zite1, ↓reduceIte, Nat.one_ne_zero, Nat.reduceEqDiff]
  refine msm_pls (n := 2) (k' := 5) (lo' := [some (.ref 14)]) (S' := [.retAddr 1081, .ref 14]) (h' := h8) rfl ?_
  first
    | refine msm_call hc8 (mim_up (mi_word (d := d) (k := 67) ht (by decide) (by decide)) (by omega)) rfl rfl rfl rfl rfl rfl rfl rfl (ai_rcv1 rfl rfl (mcs_rcv hc8).choose_spec) (fun v9 s9 h9 f9 hc9 => ?_)
    | refine msm_callL hc8 (mim_up (mi_word (d := d) (k := 67) ht (by decide) (by decide)) (by omega)) rfl rfl rfl rfl rfl rfl rfl rfl (ai_rcv1 rfl rfl (mcs_rcv hc8).choose_spec) (fun v9 s9 h9 f9 hc9 => ?_)
  show msm L xs e Y K _ qm_178 6 [some (.ref 14)] [] h9 _ _ _
  try simp only [zq, zi, zc, zv, zf, zci_eq, zsi_eq, zsk_eq, zbd_zbd, zbd_some, zbd_fault, zbd_none, zite0, zite1, ↓reduceIte, Nat.one_ne_zero, Nat.reduceEqDiff]
  first
    | refine loop _ (fun s10 h10 hc10 => ?_) zN _ _ hc9
    | (rw [← zbd_id (zlp (zl_set e ex) zN _)]; refine loop _ (fun s10 h10 hc10 => ?_) zN _ _ hc9)
  show msm L xs e Y K _ qm_178 17 [some (.ref 14)] [] h10 _ _ _
  try simp only [zq, zi, zc, zv, zf, zci_eq, zsi_eq, zsk_eq, zbd_zbd, zbd_some, zbd_fault, zbd_none, zite0, zite1, ↓reduceIte, Nat.one_ne_zero, Nat.reduceEqDiff]
  refine msm_pls (n := 1) (k' := 18) (lo' := [some (.ref 14)]) (S' := [.ref 14]) (h' := h10) rfl ?_
  first
    | refine msm_call hc10 (mim_up (ms_where (d := d) ht hex) (by omega)) rfl rfl rfl rfl rfl rfl rfl rfl (ai_rcv1 rfl rfl (mcs_rcv hc10).choose_spec) (fun v11 s11 h11 f11 hc11 => ?_)
    | refine msm_callL hc10 (mim_up (ms_where (d := d) ht hex) (by omega)) rfl rfl rfl rfl rfl rfl rfl rfl (ai_rcv1 rfl rfl (mcs_rcv hc10).choose_spec) (fun v11 s11 h11 f11 hc11 => ?_)
  show msm L xs e Y K _ qm_178 19 [some (.ref 14)] [] h11 _ _ _
  try simp only [zq, zi, zc, zv, zf, zci_eq, zsi_eq, zsk_eq, zbd_zbd, zbd_some, zbd_fault, zbd_none, zite0, zite1, ↓reduceIte, Nat.one_ne_zero, Nat.reduceEqDiff]
  refine msm_pls (n := 1) (k' := 20) (lo' := [some (.ref 14)]) (S' := [.int 6]) (h' := h11) rfl ?_
  exact msm_ret5 (v := 6) hc11 rfl rfl rfl (by decide)
def zd_insert (e : zE) (ex qy : zP) : zP := zq (zcp e 36) (zq (znm e) (zq (zc e 82 (z_names e) (zv 0)) (zc e 65 (zq qy (zv 5)) (zq (zcp e 79) (zq (zlp (zl_rows e ex) zN) (zv 5))))))
theorem z_insert_eq : z_insert e ex qy = zq (zcp e 34) (zd_insert e ex qy) := rfl
theorem ms_insert (ht : mtk e Y) (hex : mim L xs e Y K d 140 [.ref 14] 0 ex) (hqy : mim L xs e Y K d 133 [.ref 14] 0 qy) (hq0 : ∀ s : zS, ¬ ztk e s.1 = 65 → qy s = some (none, s)) : mim L xs e Y K (d + 11) 177 [.ref 14] 1 (zd_insert e ex qy) := by
  refine mim_of (M := qm_177) rfl rfl (fun P s h hc => ?_)
  show msm L xs e Y K _ qm_177 0 [some (.ref 14)] [] h _ _ _
  have loop : ∀ (G : Nat → zS → zR Nat), (∀ (s : zS) (h : ai_H), mcs e Y K P s h → msm L xs e Y K (d + 10) qm_177 29 [some (.ref 14)] [] h 1 P (G 0 s)) → ∀ (n : Nat) (s : zS) (h : ai_H), mcs e Y K P s h → msm L xs e Y K (d + 10) qm_177 20 [some (.ref 14)] [] h 1 P (zbd (zlp (zl_rows e ex) n s) G) := by
    intro G tail n
    induction n with
    | zero => intro s h hc; exact msm_none
    | succ n ih =>
      intro s h hc
      rw [zlp_succ]
      generalize zlp (zl_rows e ex) n = W at ih ⊢
      simp only [zl_rows, zq, zi, zc, zv, zf, zci_eq, zsi_eq, zsk_eq, zbd_zbd, zbd_some, zbd_fault, zbd_none, zite0, zite1, ↓reduceIte, Nat.one_ne_zero, Nat.reduceEqDiff]
      refine msm_pls (n := 1) (k' := 21) (lo' := [some (.ref 14)]) (S' := [.ref 14]) (h' := h) rfl ?_
      first
        | refine msm_call hc (mim_up (mi_open (d := d) ht) (by omega)) rfl rfl rfl rfl rfl rfl rfl rfl (ai_rcv1 rfl rfl (mcs_rcv hc).choose_spec) (fun v12 s12 h12 f12 hc12 => ?_)
        | refine msm_callL hc (mim_up (mi_open (d := d) ht) (by omega)) rfl rfl rfl rfl rfl rfl rfl rfl (ai_rcv1 rfl rfl (mcs_rcv hc).choose_spec) (fun v12 s12 h12 f12 hc12 => ?_)
      show msm L xs e Y K _ qm_177 22 [some (.ref 14)] [] h12 _ _ _
      try simp only [zq, zi, zc, zv, zf, zci_eq, zsi_eq, zsk_eq, zbd_zbd, zbd_some, zbd_fault, zbd_none, zite0, zite1, ↓reduceIte, Nat.one_ne_zero, Nat.reduceEqDiff]
      refine msm_pls (n := 1) (k' := 23) (lo' := [some (.ref 14)]) (S' := [.ref 14]) (h' := h12) rfl ?_
      first
        | refine msm_call hc12 (mim_up (ms_list (d := d) ht hex) (by omega)) rfl rfl rfl rfl rfl rfl rfl rfl (ai_rcv1 rfl rfl (mcs_rcv hc12).choose_spec) (fun v13 s13 h13 f13 hc13 => ?_)
        | refine msm_callL hc12 (mim_up (ms_list (d := d) ht hex) (by omega)) rfl rfl rfl rfl rfl rfl rfl rfl (ai_rcv1 rfl rfl (mcs_rcv hc12).choose_spec) (fun v13 s13 h13 f13 hc13 => ?_)
      show msm L xs e Y K _ qm_177 24 [some (.ref 14)] [] h13 _ _ _
      try simp only [zq, zi, zc, zv, zf, zci_eq, zsi_eq, zsk_eq, zbd_zbd, zbd_some, zbd_fault, zbd_none, zite0, zite1, ↓reduceIte, Nat.one_ne_zero, Nat.reduceEqDiff]
      refine msm_pls (n := 1) (k' := 25) (lo' := [some (.ref 14)]) (S' := [.ref 14]) (h' := h13) rfl ?_
      first
        | refine msm_call hc13 (mim_up (mi_close (d := d) ht) (by omega)) rfl rfl rfl rfl rfl rfl rfl rfl (ai_rcv1 rfl rfl (mcs_rcv hc13).choose_spec) (fun v14 s14 h14 f14 hc14 => ?_)
        | refine msm_callL hc13 (mim_up (mi_close (d := d) ht) (by omega)) rfl rfl rfl rfl rfl rfl rfl rfl (ai_rcv1 rfl rfl (mcs_rcv hc13).choose_spec) (fun v14 s14 h14 f14 hc14 => ?_)
      show msm L xs e Y K _ qm_177 26 [some (.ref 14)] [] h14 _ _ _
      try simp only [zq, zi, zc, zv, zf, zci_eq, zsi_eq, zsk_eq, zbd_zbd, zbd_some, zbd_fault, zbd_none, zite0, zite1, ↓reduceIte, Nat.one_ne_zero, Nat.reduceEqDiff]
      refine msm_pls (n := 1) (k' := 27) (lo' := [some (.ref 14)]) (S' := [.ref 14]) (h' := h14) rfl ?_
      by_cases t15 : ztk e s14.1 = 84
      · skip
        try simp only [zq, zi, zc, zv, zf, zci_eq, zsi_eq, zsk_eq, zbd_zbd, zbd_some, zbd_fault, zbd_none, zite0, zite1, ↓reduceIte, Nat.one_ne_zero, Nat.reduceEqDiff, t15]
        refine msm_took hc14 (mim_up (mi_comma (d := d) ht) (by omega)) t15 rfl rfl rfl rfl rfl rfl rfl rfl (ai_rcv1 rfl rfl (mcs_rcv hc14).choose_spec) (fun v16 s16 h16 f16 hc16 => ?_)
        show msm L xs e Y K _ qm_177 28 [some (.ref 14)] [.int 1] h16 _ _ _
        try simp only [zq, zi, zc, zv, zf, zci_eq, zsi_eq, zsk_eq, zbd_zbd, zbd_some, zbd_fault, zbd_none, zite0, zite1, ↓reduceIte, Nat.one_ne_zero, Nat.reduceEqDiff]
        refine msm_if true rfl (rfl) rfl ?_
        by_cases g17 : s16.1 ≤ s.1
        · rw [if_pos g17]; exact msm_none
        · rw [if_neg g17]; exact ih _ _ hc16
      · skip
        try simp only [zq, zi, zc, zv, zf, zci_eq, zsi_eq, zsk_eq, zbd_zbd, zbd_some, zbd_fault, zbd_none, zite0, zite1, ↓reduceIte, Nat.one_ne_zero, Nat.reduceEqDiff, t15]
        refine msm_left hc14 (mim_up (mi_comma (d := d) ht) (by omega)) t15 rfl rfl rfl rfl rfl rfl rfl rfl (ai_rcv1 rfl rfl (mcs_rcv hc14).choose_spec) (fun h18 hc18 => ?_)
        show msm L xs e Y K _ qm_177 28 [some (.ref 14)] [.int 0] h18 _ _ _
        refine msm_if false rfl (rfl) rfl ?_
        exact tail _ _ hc18
  simp only [zd_insert, zq, zi, zc, zv, zf, zci_eq, zsi_eq, zsk_eq, zbd_zbd, zbd_some, zbd_fault, zbd_none, zite0, zite1, ↓reduceIte, Nat.one_ne_zero, Nat.reduceEqDiff]
  refine msm_pls (n := 2) (k' := 2) (lo' := [some (.ref 14)]) (S' := [.retAddr 1051, .ref 14]) (h' := h) rfl ?_
  first
    | refine msm_call hc (mim_up (mi_word (d := d) (k := 36) ht (by decide) (by decide)) (by omega)) rfl rfl rfl rfl rfl rfl rfl rfl (ai_rcv1 rfl rfl (mcs_rcv hc).choose_spec) (fun v19 s19 h19 f19 hc19 => ?_)
    | refine msm_callL hc (mim_up (mi_word (d := d) (k := 36) ht (by decide) (by decide)) (by omega)) rfl rfl rfl rfl rfl rfl rfl rfl (ai_rcv1 rfl rfl (mcs_rcv hc).choose_spec) (fun v19 s19 h19 f19 hc19 => ?_)
  show msm L xs e Y K _ qm_177 3 [some (.ref 14)] [] h19 _ _ _
  try simp only [zq, zi, zc, zv, zf, zci_eq, zsi_eq, zsk_eq, zbd_zbd, zbd_some, zbd_fault, zbd_none, zite0, zite1, ↓reduceIte, Nat.one_ne_zero, Nat.reduceEqDiff]
  refine msm_pls (n := 2) (k' := 5) (lo' := [some (.ref 14)]) (S' := [.int 2, .ref 14]) (h' := h19) rfl ?_
  first
    | refine msm_call hc19 (mim_up (mi_name (d := d) ht) (by omega)) rfl rfl rfl rfl rfl rfl rfl rfl (ai_rcv1 rfl rfl (mcs_rcv hc19).choose_spec) (fun v20 s20 h20 f20 hc20 => ?_)
    | refine msm_callL hc19 (mim_up (mi_name (d := d) ht) (by omega)) rfl rfl rfl rfl rfl rfl rfl rfl (ai_rcv1 rfl rfl (mcs_rcv hc19).choose_spec) (fun v20 s20 h20 f20 hc20 => ?_)
  show msm L xs e Y K _ qm_177 6 [some (.ref 14)] [] h20 _ _ _
  try simp only [zq, zi, zc, zv, zf, zci_eq, zsi_eq, zsk_eq, zbd_zbd, zbd_some, zbd_fault, zbd_none, zite0, zite1, ↓reduceIte, Nat.one_ne_zero, Nat.reduceEqDiff]
  refine msm_pls (n := 2) (k' := 8) (lo' := [some (.ref 14)]) (S' := [.retAddr 1005, .ref 14]) (h' := h20) rfl ?_
  by_cases t21 : ztk e s20.1 = 82
  · skip
    try simp only [zq, zi, zc, zv, zf, zci_eq, zsi_eq, zsk_eq, zbd_zbd, zbd_some, zbd_fault, zbd_none, zite0, zite1, ↓reduceIte, Nat.one_ne_zero, Nat.reduceEqDiff, t21]
    refine msm_ask (by have hh := m_isMark (L := L) (xs := xs) (d := d) ht hc20 (k := 82) (by decide); rw [if_pos t21] at hh; exact qe_up (by omega) hh) rfl rfl rfl rfl rfl rfl rfl (ai_rcv1 rfl rfl (mcs_rcv hc20).choose_spec) ?_
    show msm L xs e Y K _ qm_177 9 [some (.ref 14)] [.int 1] h20 _ _ _
    refine msm_if false rfl (rfl) rfl ?_
    refine msm_pls (n := 1) (k' := 11) (lo' := [some (.ref 14)]) (S' := [.ref 14]) (h' := h20) rfl ?_
    first
      | refine msm_call hc20 (mim_up (ms_brack (d := d) ht) (by omega)) rfl rfl rfl rfl rfl rfl rfl rfl (ai_rcv1 rfl rfl (mcs_rcv hc20).choose_spec) (fun v22 s22 h22 f22 hc22 => ?_)
      | refine msm_callL hc20 (mim_up (ms_brack (d := d) ht) (by omega)) rfl rfl rfl rfl rfl rfl rfl rfl (ai_rcv1 rfl rfl (mcs_rcv hc20).choose_spec) (fun v22 s22 h22 f22 hc22 => ?_)
    show msm L xs e Y K _ qm_177 12 [some (.ref 14)] [] h22 _ _ _
    try simp only [zq, zi, zc, zv, zf, zci_eq, zsi_eq, zsk_eq, zbd_zbd, zbd_some, zbd_fault, zbd_none, zite0, zite1, ↓reduceIte, Nat.one_ne_zero, Nat.reduceEqDiff]
    refine msm_pls (n := 2) (k' := 14) (lo' := [some (.ref 14)]) (S' := [.retAddr 1093, .ref 14]) (h' := h22) rfl ?_
    by_cases t23 : ztk e s22.1 = 79
    · skip
      try simp only [zq, zi, zc, zv, zf, zci_eq, zsi_eq, zsk_eq, zbd_zbd, zbd_some, zbd_fault, zbd_none, zite0, zite1, ↓reduceIte, Nat.one_ne_zero, Nat.reduceEqDiff, t23]
      refine msm_took hc22 (mim_up (mi_takes (d := d) (k := 79) ht (by decide) (by decide)) (by omega)) t23 rfl rfl rfl rfl rfl rfl rfl rfl (ai_rcv1 rfl rfl (mcs_rcv hc22).choose_spec) (fun v24 s24 h24 f24 hc24 => ?_)
      show msm L xs e Y K _ qm_177 15 [some (.ref 14)] [.int 1] h24 _ _ _
      try simp only [zq, zi, zc, zv, zf, zci_eq, zsi_eq, zsk_eq, zbd_zbd, zbd_some, zbd_fault, zbd_none, zite0, zite1, ↓reduceIte, Nat.one_ne_zero, Nat.reduceEqDiff]
      refine msm_if true rfl (rfl) rfl ?_
      first
        | refine loop _ (fun s25 h25 hc25 => ?_) zN _ _ hc24
        | (rw [← zbd_id (zlp (zl_rows e ex) zN _)]; refine loop _ (fun s25 h25 hc25 => ?_) zN _ _ hc24)
      show msm L xs e Y K _ qm_177 29 [some (.ref 14)] [] h25 _ _ _
      try simp only [zq, zi, zc, zv, zf, zci_eq, zsi_eq, zsk_eq, zbd_zbd, zbd_some, zbd_fault, zbd_none, zite0, zite1, ↓reduceIte, Nat.one_ne_zero, Nat.reduceEqDiff]
      refine msm_pls (n := 1) (k' := 30) (lo' := [some (.ref 14)]) (S' := [.int 5]) (h' := h25) rfl ?_
      exact msm_ret5 (v := 5) hc25 rfl rfl rfl (by decide)
    · skip
      try simp only [zq, zi, zc, zv, zf, zci_eq, zsi_eq, zsk_eq, zbd_zbd, zbd_some, zbd_fault, zbd_none, zite0, zite1, ↓reduceIte, Nat.one_ne_zero, Nat.reduceEqDiff, t23]
      refine msm_left hc22 (mim_up (mi_takes (d := d) (k := 79) ht (by decide) (by decide)) (by omega)) t23 rfl rfl rfl rfl rfl rfl rfl rfl (ai_rcv1 rfl rfl (mcs_rcv hc22).choose_spec) (fun h26 hc26 => ?_)
      show msm L xs e Y K _ qm_177 15 [some (.ref 14)] [.int 0] h26 _ _ _
      refine msm_if false rfl (rfl) rfl ?_
      refine msm_pls (n := 1) (k' := 17) (lo' := [some (.ref 14)]) (S' := [.ref 14]) (h' := h26) rfl ?_
      by_cases t27 : ztk e s22.1 = 65
      · skip
        try simp only [zq, zi, zc, zv, zf, zci_eq, zsi_eq, zsk_eq, zbd_zbd, zbd_some, zbd_fault, zbd_none, zite0, zite1, ↓reduceIte, Nat.one_ne_zero, Nat.reduceEqDiff, t23, t27]
        first
          | refine msm_call hc26 (mim_up (hqy) (by omega)) rfl rfl rfl rfl rfl rfl rfl rfl (ai_rcv1 rfl rfl (mcs_rcv hc26).choose_spec) (fun v28 s28 h28 f28 hc28 => ?_)
          | refine msm_callL hc26 (mim_up (hqy) (by omega)) rfl rfl rfl rfl rfl rfl rfl rfl (ai_rcv1 rfl rfl (mcs_rcv hc26).choose_spec) (fun v28 s28 h28 f28 hc28 => ?_)
        show msm L xs e Y K _ qm_177 18 [some (.ref 14)] [] h28 _ _ _
        try simp only [zq, zi, zc, zv, zf, zci_eq, zsi_eq, zsk_eq, zbd_zbd, zbd_some, zbd_fault, zbd_none, zite0, zite1, ↓reduceIte, Nat.one_ne_zero, Nat.reduceEqDiff]
        refine msm_pls (n := 1) (k' := 19) (lo' := [some (.ref 14)]) (S' := [.int 5]) (h' := h28) rfl ?_
        exact msm_ret5 (v := 5) hc28 rfl rfl rfl (by decide)
      · simp only [zq, zi, zc, zv, zf, zci_eq, zsi_eq, zsk_eq, zbd_zbd, zbd_some, zbd_fault, zbd_none, zite0, zite1, ↓reduceIte, Nat.one_ne_zero, Nat.reduceEqDiff, t23, t27, zcp_no t23, zcp_no t27]
        exact msm_threw hc26 (mim_up (hqy) (by omega)) (hq0 _ t27) rfl rfl rfl rfl rfl rfl rfl rfl (ai_rcv1 rfl rfl (mcs_rcv hc26).choose_spec)
  · skip
    try simp only [zq, zi, zc, zv, zf, zci_eq, zsi_eq, zsk_eq, zbd_zbd, zbd_some, zbd_fault, zbd_none, zite0, zite1, ↓reduceIte, Nat.one_ne_zero, Nat.reduceEqDiff, t21]
    refine msm_ask (by have hh := m_isMark (L := L) (xs := xs) (d := d) ht hc20 (k := 82) (by decide); rw [if_neg t21] at hh; exact qe_up (by omega) hh) rfl rfl rfl rfl rfl rfl rfl (ai_rcv1 rfl rfl (mcs_rcv hc20).choose_spec) ?_
    show msm L xs e Y K _ qm_177 9 [some (.ref 14)] [.int 0] h20 _ _ _
    refine msm_if true rfl (rfl) rfl ?_
    refine msm_pls (n := 2) (k' := 14) (lo' := [some (.ref 14)]) (S' := [.retAddr 1093, .ref 14]) (h' := h20) rfl ?_
    by_cases t29 : ztk e s20.1 = 79
    · skip
      try simp only [zq, zi, zc, zv, zf, zci_eq, zsi_eq, zsk_eq, zbd_zbd, zbd_some, zbd_fault, zbd_none, zite0, zite1, ↓reduceIte, Nat.one_ne_zero, Nat.reduceEqDiff, t21, t29]
      refine msm_took hc20 (mim_up (mi_takes (d := d) (k := 79) ht (by decide) (by decide)) (by omega)) t29 rfl rfl rfl rfl rfl rfl rfl rfl (ai_rcv1 rfl rfl (mcs_rcv hc20).choose_spec) (fun v30 s30 h30 f30 hc30 => ?_)
      show msm L xs e Y K _ qm_177 15 [some (.ref 14)] [.int 1] h30 _ _ _
      try simp only [zq, zi, zc, zv, zf, zci_eq, zsi_eq, zsk_eq, zbd_zbd, zbd_some, zbd_fault, zbd_none, zite0, zite1, ↓reduceIte, Nat.one_ne_zero, Nat.reduceEqDiff]
      refine msm_if true rfl (rfl) rfl ?_
      first
        | refine loop _ (fun s31 h31 hc31 => ?_) zN _ _ hc30
        | (rw [← zbd_id (zlp (zl_rows e ex) zN _)]; refine loop _ (fun s31 h31 hc31 => ?_) zN _ _ hc30)
      show msm L xs e Y K _ qm_177 29 [some (.ref 14)] [] h31 _ _ _
      try simp only [zq, zi, zc, zv, zf, zci_eq, zsi_eq, zsk_eq, zbd_zbd, zbd_some, zbd_fault, zbd_none, zite0, zite1, ↓reduceIte, Nat.one_ne_zero, Nat.reduceEqDiff]
      refine msm_pls (n := 1) (k' := 30) (lo' := [some (.ref 14)]) (S' := [.int 5]) (h' := h31) rfl ?_
      exact msm_ret5 (v := 5) hc31 rfl rfl rfl (by decide)
    · skip
      try simp only [zq, zi, zc, zv, zf, zci_eq, zsi_eq, zsk_eq, zbd_zbd, zbd_some, zbd_fault, zbd_none, zite0, zite1, ↓reduceIte, Nat.one_ne_zero, Nat.reduceEqDiff, t21, t29]
      refine msm_left hc20 (mim_up (mi_takes (d := d) (k := 79) ht (by decide) (by decide)) (by omega)) t29 rfl rfl rfl rfl rfl rfl rfl rfl (ai_rcv1 rfl rfl (mcs_rcv hc20).choose_spec) (fun h32 hc32 => ?_)
      show msm L xs e Y K _ qm_177 15 [some (.ref 14)] [.int 0] h32 _ _ _
      refine msm_if false rfl (rfl) rfl ?_
      refine msm_pls (n := 1) (k' := 17) (lo' := [some (.ref 14)]) (S' := [.ref 14]) (h' := h32) rfl ?_
      by_cases t33 : ztk e s20.1 = 65
      · skip
        try simp only [zq, zi, zc, zv, zf, zci_eq, zsi_eq, zsk_eq, zbd_zbd, zbd_some, zbd_fault, zbd_none, zite0, zite1, ↓reduceIte, Nat.one_ne_zero, Nat.reduceEqDiff, t21, t29, t33]
        first
          | refine msm_call hc32 (mim_up (hqy) (by omega)) rfl rfl rfl rfl rfl rfl rfl rfl (ai_rcv1 rfl rfl (mcs_rcv hc32).choose_spec) (fun v34 s34 h34 f34 hc34 => ?_)
          | refine msm_callL hc32 (mim_up (hqy) (by omega)) rfl rfl rfl rfl rfl rfl rfl rfl (ai_rcv1 rfl rfl (mcs_rcv hc32).choose_spec) (fun v34 s34 h34 f34 hc34 => ?_)
        show msm L xs e Y K _ qm_177 18 [some (.ref 14)] [] h34 _ _ _
        try simp only [zq, zi, zc, zv, zf, zci_eq, zsi_eq, zsk_eq, zbd_zbd, zbd_some, zbd_fault, zbd_none, zite0, zite1, ↓reduceIte, Nat.one_ne_zero, Nat.reduceEqDiff]
        refine msm_pls (n := 1) (k' := 19) (lo' := [some (.ref 14)]) (S' := [.int 5]) (h' := h34) rfl ?_
        exact msm_ret5 (v := 5) hc34 rfl rfl rfl (by decide)
      · simp only [zq, zi, zc, zv, zf, zci_eq, zsi_eq, zsk_eq, zbd_zbd, zbd_some, zbd_fault, zbd_none, zite0, zite1, ↓reduceIte, Nat.one_ne_zero, Nat.reduceEqDiff, t21, t29, t33, zcp_no t21, zcp_no t29, zcp_no t33]
        exact msm_threw hc32 (mim_up (hqy) (by omega)) (hq0 _ t33) rfl rfl rfl rfl rfl rfl rfl rfl (ai_rcv1 rfl rfl (mcs_rcv hc32).choose_spec)
def zd_create (e : zE) (ex : zP) : zP := zc e 71 (z_table e ex) (z_index e)
end MS2
