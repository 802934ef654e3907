/-! THE MODEL'S STATEMENTS, SIMPLE ONES. (Printed by wip/whole/pp.py from wip/whole/src.) -/
section MST
variable {L : Nat} {xs : Nat → Int32} {d : Nat} {h h' : ai_H} {e : zE} {Y : Nat → Option ai_C} {K : mK} {W P : zK} {s s' : zS} {ex qy : zP}
theorem ms_list (ht : mtk e Y) (hex : mim L xs e Y K d 140 [.ref 14] 0 ex) : mim L xs e Y K (d + 9) 152 [.ref 14] 0 (z_exs e ex) := by
  refine mim_of (M := qm_152) rfl rfl (fun P s h hc => ?_)
  show msm L xs e Y K _ qm_152 0 [some (.ref 14)] [] h _ _ _
  have loop : ∀ (G : Nat → zS → zR Nat), (∀ (s : zS) (h : ai_H), mcs e Y K P s h → msm L xs e Y K (d + 8) qm_152 8 [some (.ref 14)] [] h 0 P (G 0 s)) → ∀ (n : Nat) (s : zS) (h : ai_H), mcs e Y K P s h → msm L xs e Y K (d + 8) qm_152 2 [some (.ref 14)] [] h 0 P (zbd (zlp (zl_exs e ex) n s) G) := by
    intro G tail n
    induction n with
    | zero => intro s h hc; exact msm_none
    | succ n ih =>
      intro s h hc
      rw [zlp_succ]
      generalize zlp (zl_exs e ex) n = W at ih ⊢
      simp only [zl_exs, zq, zi, zc, zv, zf, zci_eq, zsi_eq, zsk_eq, zbd_zbd, zbd_some, zbd_fault, zbd_none, zite0, zite1, ↓reduceIte, Nat.one_ne_zero, Nat.reduceEqDiff]
      refine msm_pls (n := 1) (k' := 3) (lo' := [some (.ref 14)]) (S' := [.ref 14]) (h' := h) rfl ?_
      by_cases t1 : ztk e s.1 = 84
      · skip
        try simp only [zq, zi, zc, zv, zf, zci_eq, zsi_eq, zsk_eq, zbd_zbd, zbd_some, zbd_fault, zbd_none, zite0, zite1, ↓reduceIte, Nat.one_ne_zero, Nat.reduceEqDiff, t1]
        refine msm_took hc (mim_up (mi_comma (d := d) ht) (by omega)) t1 rfl rfl rfl rfl rfl rfl rfl rfl (ai_rcv1 rfl rfl (mcs_rcv hc).choose_spec) (fun v2 s2 h2 f2 hc2 => ?_)
        show msm L xs e Y K _ qm_152 4 [some (.ref 14)] [.int 1] h2 _ _ _
        try simp only [zq, zi, zc, zv, zf, zci_eq, zsi_eq, zsk_eq, zbd_zbd, zbd_some, zbd_fault, zbd_none, zite0, zite1, ↓reduceIte, Nat.one_ne_zero, Nat.reduceEqDiff]
        refine msm_if false rfl (rfl) rfl ?_
        refine msm_pls (n := 1) (k' := 6) (lo' := [some (.ref 14)]) (S' := [.ref 14]) (h' := h2) rfl ?_
        first
          | refine msm_call hc2 (mim_up (hex) (by omega)) rfl rfl rfl rfl rfl rfl rfl rfl (ai_rcv1 rfl rfl (mcs_rcv hc2).choose_spec) (fun v3 s3 h3 f3 hc3 => ?_)
          | refine msm_callL hc2 (mim_up (hex) (by omega)) rfl rfl rfl rfl rfl rfl rfl rfl (ai_rcv1 rfl rfl (mcs_rcv hc2).choose_spec) (fun v3 s3 h3 f3 hc3 => ?_)
        show msm L xs e Y K _ qm_152 7 [some (.ref 14)] [] h3 _ _ _
        try simp only [zq, zi, zc, zv, zf, zci_eq, zsi_eq, zsk_eq, zbd_zbd, zbd_some, zbd_fault, zbd_none, zite0, zite1, ↓reduceIte, Nat.one_ne_zero, Nat.reduceEqDiff]
        refine msm_pls (n := 1) (k' := 2) (lo' := [some (.ref 14)]) (S' := []) (h' := h3) rfl ?_
        by_cases g4 : s3.1 ≤ s.1
        · rw [if_pos g4]; exact msm_none
        · rw [if_neg g4]; exact ih _ _ hc3
      · skip
        try simp only [zq, zi, zc, zv, zf, zci_eq, zsi_eq, zsk_eq, zbd_zbd, zbd_some, zbd_fault, zbd_none, zite0, zite1, ↓reduceIte, Nat.one_ne_zero, Nat.reduceEqDiff, t1]
        refine msm_left hc (mim_up (mi_comma (d := d) ht) (by omega)) t1 rfl rfl rfl rfl rfl rfl rfl rfl (ai_rcv1 rfl rfl (mcs_rcv hc).choose_spec) (fun h5 hc5 => ?_)
        show msm L xs e Y K _ qm_152 4 [some (.ref 14)] [.int 0] h5 _ _ _
        refine msm_if true rfl (rfl) rfl ?_
        exact tail _ _ hc5
  simp only [z_exs, zq, zi, zc, zv, zf, zci_eq, zsi_eq, zsk_eq, zbd_zbd, zbd_some, zbd_fault, zbd_none, zite0, zite1, ↓reduceIte, Nat.one_ne_zero, Nat.reduceEqDiff]
  refine msm_pls (n := 1) (k' := 1) (lo' := [some (.ref 14)]) (S' := [.ref 14]) (h' := h) rfl ?_
  first
    | refine msm_call hc (mim_up (hex) (by omega)) rfl rfl rfl rfl rfl rfl rfl rfl (ai_rcv1 rfl rfl (mcs_rcv hc).choose_spec) (fun v6 s6 h6 f6 hc6 => ?_)
    | refine msm_callL hc (mim_up (hex) (by omega)) rfl rfl rfl rfl rfl rfl rfl rfl (ai_rcv1 rfl rfl (mcs_rcv hc).choose_spec) (fun v6 s6 h6 f6 hc6 => ?_)
  show msm L xs e Y K _ qm_152 2 [some (.ref 14)] [] h6 _ _ _
  try simp only [zq, zi, zc, zv, zf, zci_eq, zsi_eq, zsk_eq, zbd_zbd, zbd_some, zbd_fault, zbd_none, zite0, zite1, ↓reduceIte, Nat.one_ne_zero, Nat.reduceEqDiff]
  first
    | refine loop _ (fun s7 h7 hc7 => ?_) zN _ _ hc6
    | (rw [← zbd_id (zlp (zl_exs e ex) zN _)]; refine loop _ (fun s7 h7 hc7 => ?_) zN _ _ hc6)
  show msm L xs e Y K _ qm_152 8 [some (.ref 14)] [] h7 _ _ _
  try simp only [zq, zi, zc, zv, zf, zci_eq, zsi_eq, zsk_eq, zbd_zbd, zbd_some, zbd_fault, zbd_none, zite0, zite1, ↓reduceIte, Nat.one_ne_zero, Nat.reduceEqDiff]
  exact msm_ret7 hc7 rfl
theorem ms_brack (ht : mtk e Y) : mim L xs e Y K (d + 10) 172 [.ref 14] 0 (z_names e) := by
  refine mim_of (M := qm_172) rfl rfl (fun P s h hc => ?_)
  show msm L xs e Y K _ qm_172 0 [some (.ref 14)] [] h _ _ _
  have loop : ∀ (G : Nat → zS → zR Nat), (∀ (s : zS) (h : ai_H), mcs e Y K P s h → msm L xs e Y K (d + 9) qm_172 12 [some (.ref 14)] [] h 0 P (G 0 s)) → ∀ (n : Nat) (s : zS) (h : ai_H), mcs e Y K P s h → msm L xs e Y K (d + 9) qm_172 5 [some (.ref 14)] [] h 0 P (zbd (zlp (zl_names e) n s) G) := by
    intro G tail n
    induction n with
    | zero => intro s h hc; exact msm_none
    | succ n ih =>
      intro s h hc
      rw [zlp_succ]
      generalize zlp (zl_names e) n = W at ih ⊢
      simp only [zl_names, zq, zi, zc, zv, zf, zci_eq, zsi_eq, zsk_eq, zbd_zbd, zbd_some, zbd_fault, zbd_none, zite0, zite1, ↓reduceIte, Nat.one_ne_zero, Nat.reduceEqDiff]
      refine msm_pls (n := 1) (k' := 6) (lo' := [some (.ref 14)]) (S' := [.ref 14]) (h' := h) rfl ?_
      by_cases t8 : ztk e s.1 = 84
      · skip
        try simp only [zq, zi, zc, zv, zf, zci_eq, zsi_eq, zsk_eq, zbd_zbd, zbd_some, zbd_fault, zbd_none, zite0, zite1, ↓reduceIte, Nat.one_ne_zero, Nat.reduceEqDiff, t8]
        refine msm_took hc (mim_up (mi_comma (d := d) ht) (by omega)) t8 rfl rfl rfl rfl rfl rfl rfl rfl (ai_rcv1 rfl rfl (mcs_rcv hc).choose_spec) (fun v9 s9 h9 f9 hc9 => ?_)
        show msm L xs e Y K _ qm_172 7 [some (.ref 14)] [.int 1] h9 _ _ _
        try simp only [zq, zi, zc, zv, zf, zci_eq, zsi_eq, zsk_eq, zbd_zbd, zbd_some, zbd_fault, zbd_none, zite0, zite1, ↓reduceIte, Nat.one_ne_zero, Nat.reduceEqDiff]
        refine msm_if false rfl (rfl) rfl ?_
        refine msm_pls (n := 2) (k' := 10) (lo' := [some (.ref 14)]) (S' := [.int 2, .ref 14]) (h' := h9) rfl ?_
        first
          | refine msm_call hc9 (mim_up (mi_name (d := d) ht) (by omega)) rfl rfl rfl rfl rfl rfl rfl rfl (ai_rcv1 rfl rfl (mcs_rcv hc9).choose_spec) (fun v10 s10 h10 f10 hc10 => ?_)
          | refine msm_callL hc9 (mim_up (mi_name (d := d) ht) (by omega)) rfl rfl rfl rfl rfl rfl rfl rfl (ai_rcv1 rfl rfl (mcs_rcv hc9).choose_spec) (fun v10 s10 h10 f10 hc10 => ?_)
        show msm L xs e Y K _ qm_172 11 [some (.ref 14)] [] h10 _ _ _
        try simp only [zq, zi, zc, zv, zf, zci_eq, zsi_eq, zsk_eq, zbd_zbd, zbd_some, zbd_fault, zbd_none, zite0, zite1, ↓reduceIte, Nat.one_ne_zero, Nat.reduceEqDiff]
        refine msm_pls (n := 1) (k' := 5) (lo' := [some (.ref 14)]) (S' := []) (h' := h10) rfl ?_
        by_cases g11 : s10.1 ≤ s.1
        · rw [if_pos g11]; exact msm_none
        · rw [if_neg g11]; exact ih _ _ hc10
      · skip
        try simp only [zq, zi, zc, zv, zf, zci_eq, zsi_eq, zsk_eq, zbd_zbd, zbd_some, zbd_fault, zbd_none, zite0, zite1, ↓reduceIte, Nat.one_ne_zero, Nat.reduceEqDiff, t8]
        refine msm_left hc (mim_up (mi_comma (d := d) ht) (by omega)) t8 rfl rfl rfl rfl rfl rfl rfl rfl (ai_rcv1 rfl rfl (mcs_rcv hc).choose_spec) (fun h12 hc12 => ?_)
        show msm L xs e Y K _ qm_172 7 [some (.ref 14)] [.int 0] h12 _ _ _
        refine msm_if true rfl (rfl) rfl ?_
        exact tail _ _ hc12
  simp only [z_names, zq, zi, zc, zv, zf, zci_eq, zsi_eq, zsk_eq, zbd_zbd, zbd_some, zbd_fault, zbd_none, zite0, zite1, ↓reduceIte, Nat.one_ne_zero, Nat.reduceEqDiff]
  refine msm_pls (n := 1) (k' := 1) (lo' := [some (.ref 14)]) (S' := [.ref 14]) (h' := h) rfl ?_
  first
    | refine msm_call hc (mim_up (mi_open (d := d) ht) (by omega)) rfl rfl rfl rfl rfl rfl rfl rfl (ai_rcv1 rfl rfl (mcs_rcv hc).choose_spec) (fun v13 s13 h13 f13 hc13 => ?_)
    | refine msm_callL hc (mim_up (mi_open (d := d) ht) (by omega)) rfl rfl rfl rfl rfl rfl rfl rfl (ai_rcv1 rfl rfl (mcs_rcv hc).choose_spec) (fun v13 s13 h13 f13 hc13 => ?_)
  show msm L xs e Y K _ qm_172 2 [some (.ref 14)] [] h13 _ _ _
  try simp only [zq, zi, zc, zv, zf, zci_eq, zsi_eq, zsk_eq, zbd_zbd, zbd_some, zbd_fault, zbd_none, zite0, zite1, ↓reduceIte, Nat.one_ne_zero, Nat.reduceEqDiff]
  refine msm_pls (n := 2) (k' := 4) (lo' := [some (.ref 14)]) (S' := [.int 2, .ref 14]) (h' := h13) rfl ?_
  first
    | refine msm_call hc13 (mim_up (mi_name (d := d) ht) (by omega)) rfl rfl rfl rfl rfl rfl rfl rfl (ai_rcv1 rfl rfl (mcs_rcv hc13).choose_spec) (fun v14 s14 h14 f14 hc14 => ?_)
    | refine msm_callL hc13 (mim_up (mi_name (d := d) ht) (by omega)) rfl rfl rfl rfl rfl rfl rfl rfl (ai_rcv1 rfl rfl (mcs_rcv hc13).choose_spec) (fun v14 s14 h14 f14 hc14 => ?_)
  show msm L xs e Y K _ qm_172 5 [some (.ref 14)] [] h14 _ _ _
  try simp only [zq, zi, zc, zv, zf, zci_eq, zsi_eq, zsk_eq, zbd_zbd, zbd_some, zbd_fault, zbd_none, zite0, zite1, ↓reduceIte, Nat.one_ne_zero, Nat.reduceEqDiff]
  first
    | refine loop _ (fun s15 h15 hc15 => ?_) zN _ _ hc14
    | (rw [← zbd_id (zlp (zl_names e) zN _)]; refine loop _ (fun s15 h15 hc15 => ?_) zN _ _ hc14)
  show msm L xs e Y K _ qm_172 12 [some (.ref 14)] [] h15 _ _ _
  try simp only [zq, zi, zc, zv, zf, zci_eq, zsi_eq, zsk_eq, zbd_zbd, zbd_some, zbd_fault, zbd_none, zite0, zite1, ↓reduceIte, Nat.one_ne_zero, Nat.reduceEqDiff]
  refine msm_pls (n := 1) (k' := 13) (lo' := [some (.ref 14)]) (S' := [.ref 14]) (h' := h15) rfl ?_
  first
    | refine msm_call hc15 (mim_up (mi_close (d := d) ht) (by omega)) rfl rfl rfl rfl rfl rfl rfl rfl (ai_rcv1 rfl rfl (mcs_rcv hc15).choose_spec) (fun v16 s16 h16 f16 hc16 => ?_)
    | refine msm_callL hc15 (mim_up (mi_close (d := d) ht) (by omega)) rfl rfl rfl rfl rfl rfl rfl rfl (ai_rcv1 rfl rfl (mcs_rcv hc15).choose_spec) (fun v16 s16 h16 f16 hc16 => ?_)
  show msm L xs e Y K _ qm_172 14 [some (.ref 14)] [] h16 _ _ _
  try simp only [zq, zi, zc, zv, zf, zci_eq, zsi_eq, zsk_eq, zbd_zbd, zbd_some, zbd_fault, zbd_none, zite0, zite1, ↓reduceIte, Nat.one_ne_zero, Nat.reduceEqDiff]
  exact msm_ret7 hc16 rfl
/-! what follows a statement's first word -/
def zd_drop (e : zE) : zP := zc e 32 (zq (zcp e 32) (zq (znm e) (zv 4))) (zq (zcp e 71) (zq (znm e) (zv 3)))
theorem z_drop_eq : z_drop e = zq (zcp e 23) (zd_drop e) := rfl
def zd_delete (e : zE) (ex : zP) : zP := zq (zcp e 28) (zq (znm e) (zq (z_cond e ex) (zv 7)))
theorem z_delete_eq : z_delete e ex = zq (zcp e 20) (zd_delete e ex) := rfl
def zd_commit (e : zE) : zP := zi (zci e 58) (zq (znu e) (zv 16)) (zv 10)
theorem z_commit_eq : z_commit e = zq (zcp e 14) (zd_commit e) := rfl
def zd_rollback (e : zE) : zP := zi (zci e 74) (zq (znm e) (zv 13)) (zi (zci e 58) (zq (znu e) (zv 17)) (zv 11))
theorem z_rollback_eq : z_rollback e = zq (zcp e 63) (zd_rollback e) := rfl
def zd_lock (e : zE) : zP := zq (zcp e 71) (zq (znm e) (zq (zcp e 31) (zq (zi (zci e 68) (zv 0) (zcp e 26)) (zq (zcp e 48) (zv 14)))))
theorem z_lock_eq : z_lock e = zq (zcp e 44) (zd_lock e) := rfl
theorem ms_drop (ht : mtk e Y) : mim L xs e Y K (d + 9) 176 [.ref 14] 1 (zd_drop e) := by
  refine mim_of (M := qm_176) rfl rfl (fun P s h hc => ?_)
  show msm L xs e Y K _ qm_176 0 [some (.ref 14), none] [] h _ _ _
  simp only [zd_drop, zq, zi, zc, zv, zf, zci_eq, zsi_eq, zsk_eq, zbd_zbd, zbd_some, zbd_fault, zbd_none, zite0, zite1, ↓reduceIte, Nat.one_ne_zero, Nat.reduceEqDiff]
  refine msm_pls (n := 2) (k' := 2) (lo' := [some (.ref 14), none]) (S' := [.retAddr 1085, .ref 14]) (h' := h) rfl ?_
  by_cases t17 : ztk e s.1 = 71
  · skip
    try simp only [zq, zi, zc, zv, zf, zci_eq, zsi_eq, zsk_eq, zbd_zbd, zbd_some, zbd_fault, zbd_none, zite0, zite1, ↓reduceIte, Nat.one_ne_zero, Nat.reduceEqDiff, t17]
    refine msm_took hc (mim_up (mi_takes (d := d) (k := 71) ht (by decide) (by decide)) (by omega)) t17 rfl rfl rfl rfl rfl rfl rfl rfl (ai_rcv1 rfl rfl (mcs_rcv hc).choose_spec) (fun v18 s18 h18 f18 hc18 => ?_)
    show msm L xs e Y K _ qm_176 3 [some (.ref 14), none] [.int 1] h18 _ _ _
    try simp only [zq, zi, zc, zv, zf, zci_eq, zsi_eq, zsk_eq, zbd_zbd, zbd_some, zbd_fault, zbd_none, zite0, zite1, ↓reduceIte, Nat.one_ne_zero, Nat.reduceEqDiff]
    refine msm_pls (n := 2) (k' := 5) (lo' := [some (.ref 14), some (.int 1)]) (S' := [.int 1]) (h' := h18) rfl ?_
    refine msm_if true rfl (rfl) rfl ?_
    refine msm_pls (n := 2) (k' := 11) (lo' := [some (.ref 14), some (.int 1)]) (S' := [.int 2, .ref 14]) (h' := h18) rfl ?_
    first
      | refine msm_call hc18 (mim_up (mi_name (d := d) ht) (by omega)) rfl rfl rfl rfl rfl rfl rfl rfl (ai_rcv1 rfl rfl (mcs_rcv hc18).choose_spec) (fun v19 s19 h19 f19 hc19 => ?_)
      | refine msm_callL hc18 (mim_up (mi_name (d := d) ht) (by omega)) rfl rfl rfl rfl rfl rfl rfl rfl (ai_rcv1 rfl rfl (mcs_rcv hc18).choose_spec) (fun v19 s19 h19 f19 hc19 => ?_)
    show msm L xs e Y K _ qm_176 12 [some (.ref 14), some (.int 1)] [] h19 _ _ _
    try simp only [zq, zi, zc, zv, zf, zci_eq, zsi_eq, zsk_eq, zbd_zbd, zbd_some, zbd_fault, zbd_none, zite0, zite1, ↓reduceIte, Nat.one_ne_zero, Nat.reduceEqDiff]
    refine msm_pls (n := 1) (k' := 13) (lo' := [some (.ref 14), some (.int 1)]) (S' := [.int 1]) (h' := h19) rfl ?_
    refine msm_if false rfl (rfl) rfl ?_
    refine msm_pls (n := 2) (k' := 17) (lo' := [some (.ref 14), some (.int 1)]) (S' := [.int 3]) (h' := h19) rfl ?_
    exact msm_ret5 (v := 3) hc19 rfl rfl rfl (by decide)
  · skip
    try simp only [zq, zi, zc, zv, zf, zci_eq, zsi_eq, zsk_eq, zbd_zbd, zbd_some, zbd_fault, zbd_none, zite0, zite1, ↓reduceIte, Nat.one_ne_zero, Nat.reduceEqDiff, t17]
    refine msm_left hc (mim_up (mi_takes (d := d) (k := 71) ht (by decide) (by decide)) (by omega)) t17 rfl rfl rfl rfl rfl rfl rfl rfl (ai_rcv1 rfl rfl (mcs_rcv hc).choose_spec) (fun h20 hc20 => ?_)
    show msm L xs e Y K _ qm_176 3 [some (.ref 14), none] [.int 0] h20 _ _ _
    refine msm_pls (n := 2) (k' := 5) (lo' := [some (.ref 14), some (.int 0)]) (S' := [.int 0]) (h' := h20) rfl ?_
    refine msm_if false rfl (rfl) rfl ?_
    refine msm_pls (n := 2) (k' := 8) (lo' := [some (.ref 14), some (.int 0)]) (S' := [.retAddr 1047, .ref 14]) (h' := h20) rfl ?_
    by_cases t21 : ztk e s.1 = 32
    · skip
      try simp only [zq, zi, zc, zv, zf, zci_eq, zsi_eq, zsk_eq, zbd_zbd, zbd_some, zbd_fault, zbd_none, zite0, zite1, ↓reduceIte, Nat.one_ne_zero, Nat.reduceEqDiff, t17, t21]
      first
        | refine msm_call hc20 (mim_up (mi_word (d := d) (k := 32) ht (by decide) (by decide)) (by omega)) rfl rfl rfl rfl rfl rfl rfl rfl (ai_rcv1 rfl rfl (mcs_rcv hc20).choose_spec) (fun v22 s22 h22 f22 hc22 => ?_)
        | refine msm_callL hc20 (mim_up (mi_word (d := d) (k := 32) ht (by decide) (by decide)) (by omega)) rfl rfl rfl rfl rfl rfl rfl rfl (ai_rcv1 rfl rfl (mcs_rcv hc20).choose_spec) (fun v22 s22 h22 f22 hc22 => ?_)
      show msm L xs e Y K _ qm_176 9 [some (.ref 14), some (.int 0)] [] h22 _ _ _
      try simp only [zq, zi, zc, zv, zf, zci_eq, zsi_eq, zsk_eq, zbd_zbd, zbd_some, zbd_fault, zbd_none, zite0, zite1, ↓reduceIte, Nat.one_ne_zero, Nat.reduceEqDiff]
      refine msm_pls (n := 2) (k' := 11) (lo' := [some (.ref 14), some (.int 0)]) (S' := [.int 2, .ref 14]) (h' := h22) rfl ?_
      first
        | refine msm_call hc22 (mim_up (mi_name (d := d) ht) (by omega)) rfl rfl rfl rfl rfl rfl rfl rfl (ai_rcv1 rfl rfl (mcs_rcv hc22).choose_spec) (fun v23 s23 h23 f23 hc23 => ?_)
        | refine msm_callL hc22 (mim_up (mi_name (d := d) ht) (by omega)) rfl rfl rfl rfl rfl rfl rfl rfl (ai_rcv1 rfl rfl (mcs_rcv hc22).choose_spec) (fun v23 s23 h23 f23 hc23 => ?_)
      show msm L xs e Y K _ qm_176 12 [some (.ref 14), some (.int 0)] [] h23 _ _ _
      try simp only [zq, zi, zc, zv, zf, zci_eq, zsi_eq, zsk_eq, zbd_zbd, zbd_some, zbd_fault, zbd_none, zite0, zite1, ↓reduceIte, Nat.one_ne_zero, Nat.reduceEqDiff]
      refine msm_pls (n := 1) (k' := 13) (lo' := [some (.ref 14), some (.int 0)]) (S' := [.int 0]) (h' := h23) rfl ?_
      refine msm_if true rfl (rfl) rfl ?_
      refine msm_pls (n := 1) (k' := 17) (lo' := [some (.ref 14), some (.int 0)]) (S' := [.int 4]) (h' := h23) rfl ?_
      exact msm_ret5 (v := 4) hc23 rfl rfl rfl (by decide)
    · simp only [zq, zi, zc, zv, zf, zci_eq, zsi_eq, zsk_eq, zbd_zbd, zbd_some, zbd_fault, zbd_none, zite0, zite1, ↓reduceIte, Nat.one_ne_zero, Nat.reduceEqDiff, t17, t21, zcp_no t17, zcp_no t21]
      exact msm_threw hc20 (mim_up (mi_word (d := d) (k := 32) ht (by decide) (by decide)) (by omega)) (zcp_no t21) rfl rfl rfl rfl rfl rfl rfl rfl (ai_rcv1 rfl rfl (mcs_rcv hc20).choose_spec)
theorem ms_delete (ht : mtk e Y) (hex : mim L xs e Y K d 140 [.ref 14] 0 ex) : mim L xs e Y K (d + 10) 179 [.ref 14] 1 (zd_delete e ex) := by
  refine mim_of (M := qm_179) rfl rfl (fun P s h hc => ?_)
  show msm L xs e Y K _ qm_179 0 [some (.ref 14)] [] h _ _ _
  simp only [zd_delete, zq, zi, zc, zv, zf, zci_eq, zsi_eq, zsk_eq, zbd_zbd, zbd_some, zbd_fault, zbd_none, zite0, zite1, ↓reduceIte, Nat.one_ne_zero, Nat.reduceEqDiff]
  refine msm_pls (n := 2) (k' := 2) (lo' := [some (.ref 14)]) (S' := [.retAddr 1043, .ref 14]) (h' := h) rfl ?_
  first
    | refine msm_call hc (mim_up (mi_word (d := d) (k := 28) ht (by decide) (by decide)) (by omega)) rfl rfl rfl rfl rfl rfl rfl rfl (ai_rcv1 rfl rfl (mcs_rcv hc).choose_spec) (fun v24 s24 h24 f24 hc24 => ?_)
    | refine msm_callL hc (mim_up (mi_word (d := d) (k := 28) ht (by decide) (by decide)) (by omega)) rfl rfl rfl rfl rfl rfl rfl rfl (ai_rcv1 rfl rfl (mcs_rcv hc).choose_spec) (fun v24 s24 h24 f24 hc24 => ?_)
  show msm L xs e Y K _ qm_179 3 [some (.ref 14)] [] h24 _ _ _
  try simp only [zq, zi, zc, zv, zf, zci_eq, zsi_eq, zsk_eq, zbd_zbd, zbd_some, zbd_fault, zbd_none, zite0, zite1, ↓reduceIte, Nat.one_ne_zero, Nat.reduceEqDiff]
  refine msm_pls (n := 2) (k' := 5) (lo' := [some (.ref 14)]) (S' := [.int 2, .ref 14]) (h' := h24) rfl ?_
  first
    | refine msm_call hc24 (mim_up (mi_name (d := d) ht) (by omega)) rfl rfl rfl rfl rfl rfl rfl rfl (ai_rcv1 rfl rfl (mcs_rcv hc24).choose_spec) (fun v25 s25 h25 f25 hc25 => ?_)
    | refine msm_callL hc24 (mim_up (mi_name (d := d) ht) (by omega)) rfl rfl rfl rfl rfl rfl rfl rfl (ai_rcv1 rfl rfl (mcs_rcv hc24).choose_spec) (fun v25 s25 h25 f25 hc25 => ?_)
  show msm L xs e Y K _ qm_179 6 [some (.ref 14)] [] h25 _ _ _
  try simp only [zq, zi, zc, zv, zf, zci_eq, zsi_eq, zsk_eq, zbd_zbd, zbd_some, zbd_fault, zbd_none, zite0, zite1, ↓reduceIte, Nat.one_ne_zero, Nat.reduceEqDiff]
  refine msm_pls (n := 1) (k' := 7) (lo' := [some (.ref 14)]) (S' := [.ref 14]) (h' := h25) rfl ?_
  first
    | refine msm_call hc25 (mim_up (ms_where (d := d) ht hex) (by omega)) rfl rfl rfl rfl rfl rfl rfl rfl (ai_rcv1 rfl rfl (mcs_rcv hc25).choose_spec) (fun v26 s26 h26 f26 hc26 => ?_)
    | refine msm_callL hc25 (mim_up (ms_where (d := d) ht hex) (by omega)) rfl rfl rfl rfl rfl rfl rfl rfl (ai_rcv1 rfl rfl (mcs_rcv hc25).choose_spec) (fun v26 s26 h26 f26 hc26 => ?_)
  show msm L xs e Y K _ qm_179 8 [some (.ref 14)] [] h26 _ _ _
  try simp only [zq, zi, zc, zv, zf, zci_eq, zsi_eq, zsk_eq, zbd_zbd, zbd_some, zbd_fault, zbd_none, zite0, zite1, ↓reduceIte, Nat.one_ne_zero, Nat.reduceEqDiff]
  refine msm_pls (n := 1) (k' := 9) (lo' := [some (.ref 14)]) (S' := [.int 7]) (h' := h26) rfl ?_
  exact msm_ret5 (v := 7) hc26 rfl rfl rfl (by decide)
theorem ms_commit (ht : mtk e Y) : mim L xs e Y K (d + 9) 181 [.ref 14] 1 (zd_commit e) := by
  refine mim_of (M := qm_181) rfl rfl (fun P s h hc => ?_)
  show msm L xs e Y K _ qm_181 0 [some (.ref 14)] [] h _ _ _
  simp only [zd_commit, zq, zi, zc, zv, zf, zci_eq, zsi_eq, zsk_eq, zbd_zbd, zbd_some, zbd_fault, zbd_none, zite0, zite1, ↓reduceIte, Nat.one_ne_zero, Nat.reduceEqDiff]
  refine msm_pls (n := 2) (k' := 2) (lo' := [some (.ref 14)]) (S' := [.retAddr 1073, .ref 14]) (h' := h) rfl ?_
  by_cases t27 : ztk e s.1 = 58
  · skip
    try simp only [zq, zi, zc, zv, zf, zci_eq, zsi_eq, zsk_eq, zbd_zbd, zbd_some, zbd_fault, zbd_none, zite0, zite1, ↓reduceIte, Nat.one_ne_zero, Nat.reduceEqDiff, t27]
    refine msm_took hc (mim_up (mi_takes (d := d) (k := 58) ht (by decide) (by decide)) (by omega)) t27 rfl rfl rfl rfl rfl rfl rfl rfl (ai_rcv1 rfl rfl (mcs_rcv hc).choose_spec) (fun v28 s28 h28 f28 hc28 => ?_)
    show msm L xs e Y K _ qm_181 3 [some (.ref 14)] [.int 1] h28 _ _ _
    try simp only [zq, zi, zc, zv, zf, zci_eq, zsi_eq, zsk_eq, zbd_zbd, zbd_some, zbd_fault, zbd_none, zite0, zite1, ↓reduceIte, Nat.one_ne_zero, Nat.reduceEqDiff]
    refine msm_if false rfl (rfl) rfl ?_
    refine msm_pls (n := 2) (k' := 6) (lo' := [some (.ref 14)]) (S' := [.int 3, .ref 14]) (h' := h28) rfl ?_
    first
      | refine msm_call hc28 (mim_up (mi_number (d := d) ht) (by omega)) rfl rfl rfl rfl rfl rfl rfl rfl (ai_rcv1 rfl rfl (mcs_rcv hc28).choose_spec) (fun v29 s29 h29 f29 hc29 => ?_)
      | refine msm_callL hc28 (mim_up (mi_number (d := d) ht) (by omega)) rfl rfl rfl rfl rfl rfl rfl rfl (ai_rcv1 rfl rfl (mcs_rcv hc28).choose_spec) (fun v29 s29 h29 f29 hc29 => ?_)
    show msm L xs e Y K _ qm_181 7 [some (.ref 14)] [] h29 _ _ _
    try simp only [zq, zi, zc, zv, zf, zci_eq, zsi_eq, zsk_eq, zbd_zbd, zbd_some, zbd_fault, zbd_none, zite0, zite1, ↓reduceIte, Nat.one_ne_zero, Nat.reduceEqDiff]
    refine msm_pls (n := 1) (k' := 8) (lo' := [some (.ref 14)]) (S' := [.int 16]) (h' := h29) rfl ?_
    exact msm_ret5 (v := 16) hc29 rfl rfl rfl (by decide)
  · skip
    try simp only [zq, zi, zc, zv, zf, zci_eq, zsi_eq, zsk_eq, zbd_zbd, zbd_some, zbd_fault, zbd_none, zite0, zite1, ↓reduceIte, Nat.one_ne_zero, Nat.reduceEqDiff, t27]
    refine msm_left hc (mim_up (mi_takes (d := d) (k := 58) ht (by decide) (by decide)) (by omega)) t27 rfl rfl rfl rfl rfl rfl rfl rfl (ai_rcv1 rfl rfl (mcs_rcv hc).choose_spec) (fun h30 hc30 => ?_)
    show msm L xs e Y K _ qm_181 3 [some (.ref 14)] [.int 0] h30 _ _ _
    refine msm_if true rfl (rfl) rfl ?_
    refine msm_pls (n := 1) (k' := 10) (lo' := [some (.ref 14)]) (S' := [.int 10]) (h' := h30) rfl ?_
    exact msm_ret5 (v := 10) hc30 rfl rfl rfl (by decide)
theorem ms_rollback (ht : mtk e Y) : mim L xs e Y K (d + 9) 182 [.ref 14] 1 (zd_rollback e) := by
  refine mim_of (M := qm_182) rfl rfl (fun P s h hc => ?_)
  show msm L xs e Y K _ qm_182 0 [some (.ref 14)] [] h _ _ _
  simp only [zd_rollback, zq, zi, zc, zv, zf, zci_eq, zsi_eq, zsk_eq, zbd_zbd, zbd_some, zbd_fault, zbd_none, zite0, zite1, ↓reduceIte, Nat.one_ne_zero, Nat.reduceEqDiff]
  refine msm_pls (n := 2) (k' := 2) (lo' := [some (.ref 14)]) (S' := [.retAddr 1088, .ref 14]) (h' := h) rfl ?_
  by_cases t31 : ztk e s.1 = 74
  · skip
    try simp only [zq, zi, zc, zv, zf, zci_eq, zsi_eq, zsk_eq, zbd_zbd, zbd_some, zbd_fault, zbd_none, zite0, zite1, ↓reduceIte, Nat.one_ne_zero, Nat.reduceEqDiff, t31]
    refine msm_took hc (mim_up (mi_takes (d := d) (k := 74) ht (by decide) (by decide)) (by omega)) t31 rfl rfl rfl rfl rfl rfl rfl rfl (ai_rcv1 rfl rfl (mcs_rcv hc).choose_spec) (fun v32 s32 h32 f32 hc32 => ?_)
    show msm L xs e Y K _ qm_182 3 [some (.ref 14)] [.int 1] h32 _ _ _
    try simp only [zq, zi, zc, zv, zf, zci_eq, zsi_eq, zsk_eq, zbd_zbd, zbd_some, zbd_fault, zbd_none, zite0, zite1, ↓reduceIte, Nat.one_ne_zero, Nat.reduceEqDiff]
    refine msm_if false rfl (rfl) rfl ?_
    refine msm_pls (n := 2) (k' := 6) (lo' := [some (.ref 14)]) (S' := [.int 2, .ref 14]) (h' := h32) rfl ?_
    first
      | refine msm_call hc32 (mim_up (mi_name (d := d) ht) (by omega)) rfl rfl rfl rfl rfl rfl rfl rfl (ai_rcv1 rfl rfl (mcs_rcv hc32).choose_spec) (fun v33 s33 h33 f33 hc33 => ?_)
      | refine msm_callL hc32 (mim_up (mi_name (d := d) ht) (by omega)) rfl rfl rfl rfl rfl rfl rfl rfl (ai_rcv1 rfl rfl (mcs_rcv hc32).choose_spec) (fun v33 s33 h33 f33 hc33 => ?_)
    show msm L xs e Y K _ qm_182 7 [some (.ref 14)] [] h33 _ _ _
    try simp only [zq, zi, zc, zv, zf, zci_eq, zsi_eq, zsk_eq, zbd_zbd, zbd_some, zbd_fault, zbd_none, zite0, zite1, ↓reduceIte, Nat.one_ne_zero, Nat.reduceEqDiff]
    refine msm_pls (n := 1) (k' := 8) (lo' := [some (.ref 14)]) (S' := [.int 13]) (h' := h33) rfl ?_
    exact msm_ret5 (v := 13) hc33 rfl rfl rfl (by decide)
  · skip
    try simp only [zq, zi, zc, zv, zf, zci_eq, zsi_eq, zsk_eq, zbd_zbd, zbd_some, zbd_fault, zbd_none, zite0, zite1, ↓reduceIte, Nat.one_ne_zero, Nat.reduceEqDiff, t31]
    refine msm_left hc (mim_up (mi_takes (d := d) (k := 74) ht (by decide) (by decide)) (by omega)) t31 rfl rfl rfl rfl rfl rfl rfl rfl (ai_rcv1 rfl rfl (mcs_rcv hc).choose_spec) (fun h34 hc34 => ?_)
    show msm L xs e Y K _ qm_182 3 [some (.ref 14)] [.int 0] h34 _ _ _
    refine msm_if true rfl (rfl) rfl ?_
    refine msm_pls (n := 2) (k' := 11) (lo' := [some (.ref 14)]) (S' := [.retAddr 1073, .ref 14]) (h' := h34) rfl ?_
    by_cases t35 : ztk e s.1 = 58
    · skip
      try simp only [zq, zi, zc, zv, zf, zci_eq, zsi_eq, zsk_eq, zbd_zbd, zbd_some, zbd_fault, zbd_none, zite0, zite1, ↓reduceIte, Nat.one_ne_zero, Nat.reduceEqDiff, t31, t35]
      refine msm_took hc34 (mim_up (mi_takes (d := d) (k := 58) ht (by decide) (by decide)) (by omega)) t35 rfl rfl rfl rfl rfl rfl rfl rfl (ai_rcv1 rfl rfl (mcs_rcv hc34).choose_spec) (fun v36 s36 h36 f36 hc36 => ?_)
      show msm L xs e Y K _ qm_182 12 [some (.ref 14)] [.int 1] h36 _ _ _
      try simp only [zq, zi, zc, zv, zf, zci_eq, zsi_eq, zsk_eq, zbd_zbd, zbd_some, zbd_fault, zbd_none, zite0, zite1, ↓reduceIte, Nat.one_ne_zero, Nat.reduceEqDiff]
      refine msm_if false rfl (rfl) rfl ?_
      refine msm_pls (n := 2) (k' := 15) (lo' := [some (.ref 14)]) (S' := [.int 3, .ref 14]) (h' := h36) rfl ?_
      first
        | refine msm_call hc36 (mim_up (mi_number (d := d) ht) (by omega)) rfl rfl rfl rfl rfl rfl rfl rfl (ai_rcv1 rfl rfl (mcs_rcv hc36).choose_spec) (fun v37 s37 h37 f37 hc37 => ?_)
        | refine msm_callL hc36 (mim_up (mi_number (d := d) ht) (by omega)) rfl rfl rfl rfl rfl rfl rfl rfl (ai_rcv1 rfl rfl (mcs_rcv hc36).choose_spec) (fun v37 s37 h37 f37 hc37 => ?_)
      show msm L xs e Y K _ qm_182 16 [some (.ref 14)] [] h37 _ _ _
      try simp only [zq, zi, zc, zv, zf, zci_eq, zsi_eq, zsk_eq, zbd_zbd, zbd_some, zbd_fault, zbd_none, zite0, zite1, ↓reduceIte, Nat.one_ne_zero, Nat.reduceEqDiff]
      refine msm_pls (n := 1) (k' := 17) (lo' := [some (.ref 14)]) (S' := [.int 17]) (h' := h37) rfl ?_
      exact msm_ret5 (v := 17) hc37 rfl rfl rfl (by decide)
    · skip
      try simp only [zq, zi, zc, zv, zf, zci_eq, zsi_eq, zsk_eq, zbd_zbd, zbd_some, zbd_fault, zbd_none, zite0, zite1, ↓reduceIte, Nat.one_ne_zero, Nat.reduceEqDiff, t31, t35]
      refine msm_left hc34 (mim_up (mi_takes (d := d) (k := 58) ht (by decide) (by decide)) (by omega)) t35 rfl rfl rfl rfl rfl rfl rfl rfl (ai_rcv1 rfl rfl (mcs_rcv hc34).choose_spec) (fun h38 hc38 => ?_)
      show msm L xs e Y K _ qm_182 12 [some (.ref 14)] [.int 0] h38 _ _ _
      refine msm_if true rfl (rfl) rfl ?_
      refine msm_pls (n := 1) (k' := 19) (lo' := [some (.ref 14)]) (S' := [.int 11]) (h' := h38) rfl ?_
      exact msm_ret5 (v := 11) hc38 rfl rfl rfl (by decide)
theorem ms_lock (ht : mtk e Y) : mim L xs e Y K (d + 9) 184 [.ref 14] 1 (zd_lock e) := by
  refine mim_of (M := qm_184) rfl rfl (fun P s h hc => ?_)
  show msm L xs e Y K _ qm_184 0 [some (.ref 14)] [] h _ _ _
  simp only [zd_lock, zq, zi, zc, zv, zf, zci_eq, zsi_eq, zsk_eq, zbd_zbd, zbd_some, zbd_fault, zbd_none, zite0, zite1, ↓reduceIte, Nat.one_ne_zero, Nat.reduceEqDiff]
  refine msm_pls (n := 2) (k' := 2) (lo' := [some (.ref 14)]) (S' := [.retAddr 1085, .ref 14]) (h' := h) rfl ?_
  first
    | refine msm_call hc (mim_up (mi_word (d := d) (k := 71) ht (by decide) (by decide)) (by omega)) rfl rfl rfl rfl rfl rfl rfl rfl (ai_rcv1 rfl rfl (mcs_rcv hc).choose_spec) (fun v39 s39 h39 f39 hc39 => ?_)
    | refine msm_callL hc (mim_up (mi_word (d := d) (k := 71) ht (by decide) (by decide)) (by omega)) rfl rfl rfl rfl rfl rfl rfl rfl (ai_rcv1 rfl rfl (mcs_rcv hc).choose_spec) (fun v39 s39 h39 f39 hc39 => ?_)
  show msm L xs e Y K _ qm_184 3 [some (.ref 14)] [] h39 _ _ _
  try simp only [zq, zi, zc, zv, zf, zci_eq, zsi_eq, zsk_eq, zbd_zbd, zbd_some, zbd_fault, zbd_none, zite0, zite1, ↓reduceIte, Nat.one_ne_zero, Nat.reduceEqDiff]
  refine msm_pls (n := 2) (k' := 5) (lo' := [some (.ref 14)]) (S' := [.int 2, .ref 14]) (h' := h39) rfl ?_
  first
    | refine msm_call hc39 (mim_up (mi_name (d := d) ht) (by omega)) rfl rfl rfl rfl rfl rfl rfl rfl (ai_rcv1 rfl rfl (mcs_rcv hc39).choose_spec) (fun v40 s40 h40 f40 hc40 => ?_)
    | refine msm_callL hc39 (mim_up (mi_name (d := d) ht) (by omega)) rfl rfl rfl rfl rfl rfl rfl rfl (ai_rcv1 rfl rfl (mcs_rcv hc39).choose_spec) (fun v40 s40 h40 f40 hc40 => ?_)
  show msm L xs e Y K _ qm_184 6 [some (.ref 14)] [] h40 _ _ _
  try simp only [zq, zi, zc, zv, zf, zci_eq, zsi_eq, zsk_eq, zbd_zbd, zbd_some, zbd_fault, zbd_none, zite0, zite1, ↓reduceIte, Nat.one_ne_zero, Nat.reduceEqDiff]
  refine msm_pls (n := 2) (k' := 8) (lo' := [some (.ref 14)]) (S' := [.retAddr 1046, .ref 14]) (h' := h40) rfl ?_
  first
    | refine msm_call hc40 (mim_up (mi_word (d := d) (k := 31) ht (by decide) (by decide)) (by omega)) rfl rfl rfl rfl rfl rfl rfl rfl (ai_rcv1 rfl rfl (mcs_rcv hc40).choose_spec) (fun v41 s41 h41 f41 hc41 => ?_)
    | refine msm_callL hc40 (mim_up (mi_word (d := d) (k := 31) ht (by decide) (by decide)) (by omega)) rfl rfl rfl rfl rfl rfl rfl rfl (ai_rcv1 rfl rfl (mcs_rcv hc40).choose_spec) (fun v41 s41 h41 f41 hc41 => ?_)
  show msm L xs e Y K _ qm_184 9 [some (.ref 14)] [] h41 _ _ _
  try simp only [zq, zi, zc, zv, zf, zci_eq, zsi_eq, zsk_eq, zbd_zbd, zbd_some, zbd_fault, zbd_none, zite0, zite1, ↓reduceIte, Nat.one_ne_zero, Nat.reduceEqDiff]
  refine msm_pls (n := 2) (k' := 11) (lo' := [some (.ref 14)]) (S' := [.retAddr 1082, .ref 14]) (h' := h41) rfl ?_
  by_cases t42 : ztk e s41.1 = 68
  · skip
    try simp only [zq, zi, zc, zv, zf, zci_eq, zsi_eq, zsk_eq, zbd_zbd, zbd_some, zbd_fault, zbd_none, zite0, zite1, ↓reduceIte, Nat.one_ne_zero, Nat.reduceEqDiff, t42]
    refine msm_took hc41 (mim_up (mi_takes (d := d) (k := 68) ht (by decide) (by decide)) (by omega)) t42 rfl rfl rfl rfl rfl rfl rfl rfl (ai_rcv1 rfl rfl (mcs_rcv hc41).choose_spec) (fun v43 s43 h43 f43 hc43 => ?_)
    show msm L xs e Y K _ qm_184 12 [some (.ref 14)] [.int 1] h43 _ _ _
    try simp only [zq, zi, zc, zv, zf, zci_eq, zsi_eq, zsk_eq, zbd_zbd, zbd_some, zbd_fault, zbd_none, zite0, zite1, ↓reduceIte, Nat.one_ne_zero, Nat.reduceEqDiff]
    refine msm_if true rfl (rfl) rfl ?_
    refine msm_pls (n := 2) (k' := 18) (lo' := [some (.ref 14)]) (S' := [.retAddr 1063, .ref 14]) (h' := h43) rfl ?_
    first
      | refine msm_call hc43 (mim_up (mi_word (d := d) (k := 48) ht (by decide) (by decide)) (by omega)) rfl rfl rfl rfl rfl rfl rfl rfl (ai_rcv1 rfl rfl (mcs_rcv hc43).choose_spec) (fun v44 s44 h44 f44 hc44 => ?_)
      | refine msm_callL hc43 (mim_up (mi_word (d := d) (k := 48) ht (by decide) (by decide)) (by omega)) rfl rfl rfl rfl rfl rfl rfl rfl (ai_rcv1 rfl rfl (mcs_rcv hc43).choose_spec) (fun v44 s44 h44 f44 hc44 => ?_)
    show msm L xs e Y K _ qm_184 19 [some (.ref 14)] [] h44 _ _ _
    try simp only [zq, zi, zc, zv, zf, zci_eq, zsi_eq, zsk_eq, zbd_zbd, zbd_some, zbd_fault, zbd_none, zite0, zite1, ↓reduceIte, Nat.one_ne_zero, Nat.reduceEqDiff]
    refine msm_pls (n := 1) (k' := 20) (lo' := [some (.ref 14)]) (S' := [.int 14]) (h' := h44) rfl ?_
    exact msm_ret5 (v := 14) hc44 rfl rfl rfl (by decide)
  · skip
    try simp only [zq, zi, zc, zv, zf, zci_eq, zsi_eq, zsk_eq, zbd_zbd, zbd_some, zbd_fault, zbd_none, zite0, zite1, ↓reduceIte, Nat.one_ne_zero, Nat.reduceEqDiff, t42]
    refine msm_left hc41 (mim_up (mi_takes (d := d) (k := 68) ht (by decide) (by decide)) (by omega)) t42 rfl rfl rfl rfl rfl rfl rfl rfl (ai_rcv1 rfl rfl (mcs_rcv hc41).choose_spec) (fun h45 hc45 => ?_)
    show msm L xs e Y K _ qm_184 12 [some (.ref 14)] [.int 0] h45 _ _ _
    refine msm_if false rfl (rfl) rfl ?_
    refine msm_pls (n := 2) (k' := 15) (lo' := [some (.ref 14)]) (S' := [.retAddr 1041, .ref 14]) (h' := h45) rfl ?_
    by_cases t46 : ztk e s41.1 = 26
    · skip
      try simp only [zq, zi, zc, zv, zf, zci_eq, zsi_eq, zsk_eq, zbd_zbd, zbd_some, zbd_fault, zbd_none, zite0, zite1, ↓reduceIte, Nat.one_ne_zero, Nat.reduceEqDiff, t42, t46]
      first
        | refine msm_call hc45 (mim_up (mi_word (d := d) (k := 26) ht (by decide) (by decide)) (by omega)) rfl rfl rfl rfl rfl rfl rfl rfl (ai_rcv1 rfl rfl (mcs_rcv hc45).choose_spec) (fun v47 s47 h47 f47 hc47 => ?_)
        | refine msm_callL hc45 (mim_up (mi_word (d := d) (k := 26) ht (by decide) (by decide)) (by omega)) rfl rfl rfl rfl rfl rfl rfl rfl (ai_rcv1 rfl rfl (mcs_rcv hc45).choose_spec) (fun v47 s47 h47 f47 hc47 => ?_)
      show msm L xs e Y K _ qm_184 16 [some (.ref 14)] [] h47 _ _ _
      try simp only [zq, zi, zc, zv, zf, zci_eq, zsi_eq, zsk_eq, zbd_zbd, zbd_some, zbd_fault, zbd_none, zite0, zite1, ↓reduceIte, Nat.one_ne_zero, Nat.reduceEqDiff]
      refine msm_pls (n := 2) (k' := 18) (lo' := [some (.ref 14)]) (S' := [.retAddr 1063, .ref 14]) (h' := h47) rfl ?_
      first
        | refine msm_call hc47 (mim_up (mi_word (d := d) (k := 48) ht (by decide) (by decide)) (by omega)) rfl rfl rfl rfl rfl rfl rfl rfl (ai_rcv1 rfl rfl (mcs_rcv hc47).choose_spec) (fun v48 s48 h48 f48 hc48 => ?_)
        | refine msm_callL hc47 (mim_up (mi_word (d := d) (k := 48) ht (by decide) (by decide)) (by omega)) rfl rfl rfl rfl rfl rfl rfl rfl (ai_rcv1 rfl rfl (mcs_rcv hc47).choose_spec) (fun v48 s48 h48 f48 hc48 => ?_)
      show msm L xs e Y K _ qm_184 19 [some (.ref 14)] [] h48 _ _ _
      try simp only [zq, zi, zc, zv, zf, zci_eq, zsi_eq, zsk_eq, zbd_zbd, zbd_some, zbd_fault, zbd_none, zite0, zite1, ↓reduceIte, Nat.one_ne_zero, Nat.reduceEqDiff]
      refine msm_pls (n := 1) (k' := 20) (lo' := [some (.ref 14)]) (S' := [.int 14]) (h' := h48) rfl ?_
      exact msm_ret5 (v := 14) hc48 rfl rfl rfl (by decide)
    · simp only [zq, zi, zc, zv, zf, zci_eq, zsi_eq, zsk_eq, zbd_zbd, zbd_some, zbd_fault, zbd_none, zite0, zite1, ↓reduceIte, Nat.one_ne_zero, Nat.reduceEqDiff, t42, t46, zcp_no t42, zcp_no t46]
      exact msm_threw hc45 (mim_up (mi_word (d := d) (k := 26) ht (by decide) (by decide)) (by omega)) (zcp_no t46) rfl rfl rfl rfl rfl rfl rfl rfl (ai_rcv1 rfl rfl (mcs_rcv hc45).choose_spec)
end MST
