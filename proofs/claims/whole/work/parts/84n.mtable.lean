/-! KEEPING AS A PIECE; TABLES. (Printed by wip/whole/pp.py from wip/whole/src.) -/
section MTA
variable {L : Nat} {xs : Nat → Int32} {d : Nat} {h h' : ai_H} {e : zE} {Y : Nat → Option ai_C} {K : mK} {W P : zK} {s s' : zS} {ex qy : zP}
theorem msm_keep {M : ai_M} {k : Nat} {lo : ai_L} {S : List Value} {md kk : Nat} {g : Nat → zS → zR Nat} {pc len n : Nat} {i : Instr} {rs : List Int} {nm : String} {S0 : List Value} (ht : mtk e Y) (hc : mcs e Y K P s h) (hk1 : kk < 99) (hk2 : ¬ (kk = 82 ∨ kk = 10) ∧ ¬ (kk = 83 ∨ kk = 25)) (t : ztk e s.1 = kk) (hk : (ai_Mc M)[k]? = some (pc, i, len, 1, rs, nm)) (hmi : (ai_nth (1, rs, nm) 0).toNat = 136) (hn : (ai_nth (1, rs, nm) 1).toNat = n) (has : (S.take n).reverse = [.ref 14]) (hS0 : S.drop n = S0) (hw : Nat.ble (ai_wt S0) 8 = true) (hle : Nat.ble n S.length = true) (hx : ai_catch (ai_Mh M) k = none) (hrc : ai_rcv (qr_Z L xs) (1, rs, nm) (some (.ref 14)) h = true)
    (hs : ∀ s1 h1, mcs e Y K P s1 h1 → msm L xs e Y K (d + 1) M (k + 1) lo S0 h1 md P (g 0 s1)) : msm L xs e Y K (d + 1) M k lo S h md P (zbd (zcp e kk s) g) := by
  intro v s' hr
  obtain ⟨h1, g1, g2⟩ := m_keepw (L := L) (xs := xs) (d := d) ht hc t hk1
  rcases zbd_inv hr with ⟨h2, -⟩ | ⟨a, s1, h2, h3⟩
  · unfold zcp zc at h2
    rw [if_pos t] at h2
    obtain ⟨q, -⟩ := zkp_inv t hk2 h2
    cases q
  · unfold zcp zc at h2
    rw [if_pos t] at h2
    obtain ⟨q, e1⟩ := zkp_inv t hk2 h2
    cases q
    rw [← e1] at g2
    obtain ⟨h2', g3, g4⟩ := hs s1 h1 g2 v s' h3
    exact ⟨h2', qg_call hk hmi hn has hS0 hw hle hrc g1 g3, g4⟩
theorem msm_join2 {M : ai_M} {k md : Nat} {lo : ai_L} {S : List Value} {r : zR Nat} {f R : Nat → zS → zR Nat} (k' : Nat) (lo' : ai_L) (S' : List Value) (hh : ∀ G : Nat → zS → zR Nat, (∀ v s1 h1, mcs e Y K P s1 h1 → msm L xs e Y K d M k' lo' S' h1 md P (G v s1)) → msm L xs e Y K d M k lo S h md P (zbd r fun v s => zbd (f v s) G)) (ht : ∀ v s1 h1, mcs e Y K P s1 h1 → msm L xs e Y K d M k' lo' S' h1 md P (R v s1)) : msm L xs e Y K d M k lo S h md P (zbd r fun v s => zbd (f v s) R) := hh R ht
theorem ms_create (ht : mtk e Y) (hel : mim L xs e Y K (d + 12) 171 [.ref 14] 0 (z_elem e ex)) : mim L xs e Y K (d + 13) 170 [.ref 14] 1 (zd_create e ex) := by
  refine mim_of (M := qm_170) rfl rfl (fun P s h hc => ?_)
  show msm L xs e Y K _ qm_170 0 [some (.ref 14)] [] h _ _ _
  have loop : ∀ (G : Nat → zS → zR Nat), (∀ (s : zS) (h : ai_H), mcs e Y K P s h → msm L xs e Y K (d + 12) qm_170 17 [some (.ref 14)] [] h 1 P (G 0 s)) → ∀ (n : Nat) (s0 s : zS) (h : ai_H), mcs e Y K P s h → msm L xs e Y K (d + 12) qm_170 11 [some (.ref 14)] [] h 1 P (zbd (if ztk e s.1 = 84 then zbd (zcp e 84 s) fun _ s1 => some (some 1, s1) else some (some 0, s)) fun v s1 => zbd (if v = 0 then some (some 0, s1) else if s1.1 ≤ s0.1 then none else zlp (zl_elem e ex) n s1) G) := by
    intro G tail n
    induction n with
    | zero =>
      intro s0 s h hc
      simp only [show zlp (zl_elem e ex) 0 = fun _ => none from rfl]
      refine msm_pls (n := 1) (k' := 12) (lo' := [some (.ref 14)]) (S' := [.ref 14]) (h' := h) rfl ?_
      by_cases t1 : ztk e s.1 = 84
      · skip
        try simp only [zq, zi, zc, zv, zf, zci_eq, zsi_eq, zsk_eq, zbd_zbd, zbd_some, zbd_fault, zbd_none, zite0, zite1, ↓reduceIte, Nat.one_ne_zero, Nat.reduceEqDiff, t1]
        refine msm_took hc (mim_up (mi_comma (d := d) ht) (by omega)) t1 rfl rfl rfl rfl rfl rfl rfl rfl (ai_rcv1 rfl rfl (mcs_rcv hc).choose_spec) (fun v2 s2 h2 f2 hc2 => ?_)
        show msm L xs e Y K _ qm_170 13 [some (.ref 14)] [.int 1] h2 _ _ _
        try simp only [zq, zi, zc, zv, zf, zci_eq, zsi_eq, zsk_eq, zbd_zbd, zbd_some, zbd_fault, zbd_none, zite0, zite1, ↓reduceIte, Nat.one_ne_zero, Nat.reduceEqDiff]
        refine msm_if false rfl (rfl) rfl ?_
        by_cases g3 : s2.1 ≤ s0.1
        · rw [if_pos g3]; exact msm_none
        · rw [if_neg g3]; exact msm_none
      · skip
        try simp only [zq, zi, zc, zv, zf, zci_eq, zsi_eq, zsk_eq, zbd_zbd, zbd_some, zbd_fault, zbd_none, zite0, zite1, ↓reduceIte, Nat.one_ne_zero, Nat.reduceEqDiff, t1]
        refine msm_left hc (mim_up (mi_comma (d := d) ht) (by omega)) t1 rfl rfl rfl rfl rfl rfl rfl rfl (ai_rcv1 rfl rfl (mcs_rcv hc).choose_spec) (fun h4 hc4 => ?_)
        show msm L xs e Y K _ qm_170 13 [some (.ref 14)] [.int 0] h4 _ _ _
        refine msm_if true rfl (rfl) rfl ?_
        exact tail _ _ hc4
    | succ n ih =>
      intro s0 s h hc
      simp only [zlp_succ]
      generalize hW : zlp (zl_elem e ex) n = W at ih ⊢
      refine msm_pls (n := 1) (k' := 12) (lo' := [some (.ref 14)]) (S' := [.ref 14]) (h' := h) rfl ?_
      by_cases t5 : ztk e s.1 = 84
      · skip
        try simp only [zq, zi, zc, zv, zf, zci_eq, zsi_eq, zsk_eq, zbd_zbd, zbd_some, zbd_fault, zbd_none, zite0, zite1, ↓reduceIte, Nat.one_ne_zero, Nat.reduceEqDiff, t5]
        refine msm_took hc (mim_up (mi_comma (d := d) ht) (by omega)) t5 rfl rfl rfl rfl rfl rfl rfl rfl (ai_rcv1 rfl rfl (mcs_rcv hc).choose_spec) (fun v6 s6 h6 f6 hc6 => ?_)
        show msm L xs e Y K _ qm_170 13 [some (.ref 14)] [.int 1] h6 _ _ _
        try simp only [zq, zi, zc, zv, zf, zci_eq, zsi_eq, zsk_eq, zbd_zbd, zbd_some, zbd_fault, zbd_none, zite0, zite1, ↓reduceIte, Nat.one_ne_zero, Nat.reduceEqDiff]
        refine msm_if false rfl (rfl) rfl ?_
        by_cases g7 : s6.1 ≤ s0.1
        · rw [if_pos g7]; exact msm_none
        rw [if_neg g7]
        simp only [zl_elem, zq, zi, zc, zv, zf, zci_eq, zsi_eq, zsk_eq, zbd_zbd, zbd_some, zbd_fault, zbd_none, zite0, zite1, ↓reduceIte, Nat.one_ne_zero, Nat.reduceEqDiff]
        refine msm_pls (n := 1) (k' := 15) (lo' := [some (.ref 14)]) (S' := [.ref 14]) (h' := h6) rfl ?_
        first
          | refine msm_call hc6 (mim_up (hel) (by omega)) rfl rfl rfl rfl rfl rfl rfl rfl (ai_rcv1 rfl rfl (mcs_rcv hc6).choose_spec) (fun v8 s8 h8 f8 hc8 => ?_)
          | refine msm_callL hc6 (mim_up (hel) (by omega)) rfl rfl rfl rfl rfl rfl rfl rfl (ai_rcv1 rfl rfl (mcs_rcv hc6).choose_spec) (fun v8 s8 h8 f8 hc8 => ?_)
        show msm L xs e Y K _ qm_170 16 [some (.ref 14)] [] h8 _ _ _
        try simp only [zq, zi, zc, zv, zf, zci_eq, zsi_eq, zsk_eq, zbd_zbd, zbd_some, zbd_fault, zbd_none, zite0, zite1, ↓reduceIte, Nat.one_ne_zero, Nat.reduceEqDiff]
        refine msm_pls (n := 1) (k' := 11) (lo' := [some (.ref 14)]) (S' := []) (h' := h8) rfl ?_
        exact ih _ _ _ hc8
      · skip
        try simp only [zq, zi, zc, zv, zf, zci_eq, zsi_eq, zsk_eq, zbd_zbd, zbd_some, zbd_fault, zbd_none, zite0, zite1, ↓reduceIte, Nat.one_ne_zero, Nat.reduceEqDiff, t5]
        refine msm_left hc (mim_up (mi_comma (d := d) ht) (by omega)) t5 rfl rfl rfl rfl rfl rfl rfl rfl (ai_rcv1 rfl rfl (mcs_rcv hc).choose_spec) (fun h9 hc9 => ?_)
        show msm L xs e Y K _ qm_170 13 [some (.ref 14)] [.int 0] h9 _ _ _
        refine msm_if true rfl (rfl) rfl ?_
        exact tail _ _ hc9
  simp only [zd_create, z_table, z_index, zq, zi, zc, zv, zf, zci_eq, zsi_eq, zsk_eq, zbd_zbd, zbd_some, zbd_fault, zbd_none, zite0, zite1, ↓reduceIte, Nat.one_ne_zero, Nat.reduceEqDiff]
  refine msm_pls (n := 2) (k' := 2) (lo' := [some (.ref 14)]) (S' := [.retAddr 1085, .ref 14]) (h' := h) rfl ?_
  by_cases t10 : ztk e s.1 = 71
  · skip
    try simp only [zq, zi, zc, zv, zf, zci_eq, zsi_eq, zsk_eq, zbd_zbd, zbd_some, zbd_fault, zbd_none, zite0, zite1, ↓reduceIte, Nat.one_ne_zero, Nat.reduceEqDiff, t10]
    refine msm_took hc (mim_up (mi_takes (d := d) (k := 71) ht (by decide) (by decide)) (by omega)) t10 rfl rfl rfl rfl rfl rfl rfl rfl (ai_rcv1 rfl rfl (mcs_rcv hc).choose_spec) (fun v11 s11 h11 f11 hc11 => ?_)
    show msm L xs e Y K _ qm_170 3 [some (.ref 14)] [.int 1] h11 _ _ _
    try simp only [zq, zi, zc, zv, zf, zci_eq, zsi_eq, zsk_eq, zbd_zbd, zbd_some, zbd_fault, zbd_none, zite0, zite1, ↓reduceIte, Nat.one_ne_zero, Nat.reduceEqDiff]
    refine msm_if false rfl (rfl) rfl ?_
    refine msm_pls (n := 2) (k' := 6) (lo' := [some (.ref 14)]) (S' := [.int 2, .ref 14]) (h' := h11) rfl ?_
    first
      | refine msm_call hc11 (mim_up (mi_name (d := d) ht) (by omega)) rfl rfl rfl rfl rfl rfl rfl rfl (ai_rcv1 rfl rfl (mcs_rcv hc11).choose_spec) (fun v12 s12 h12 f12 hc12 => ?_)
      | refine msm_callL hc11 (mim_up (mi_name (d := d) ht) (by omega)) rfl rfl rfl rfl rfl rfl rfl rfl (ai_rcv1 rfl rfl (mcs_rcv hc11).choose_spec) (fun v12 s12 h12 f12 hc12 => ?_)
    show msm L xs e Y K _ qm_170 7 [some (.ref 14)] [] h12 _ _ _
    try simp only [zq, zi, zc, zv, zf, zci_eq, zsi_eq, zsk_eq, zbd_zbd, zbd_some, zbd_fault, zbd_none, zite0, zite1, ↓reduceIte, Nat.one_ne_zero, Nat.reduceEqDiff]
    refine msm_pls (n := 1) (k' := 8) (lo' := [some (.ref 14)]) (S' := [.ref 14]) (h' := h12) rfl ?_
    first
      | refine msm_call hc12 (mim_up (mi_open (d := d) ht) (by omega)) rfl rfl rfl rfl rfl rfl rfl rfl (ai_rcv1 rfl rfl (mcs_rcv hc12).choose_spec) (fun v13 s13 h13 f13 hc13 => ?_)
      | refine msm_callL hc12 (mim_up (mi_open (d := d) ht) (by omega)) rfl rfl rfl rfl rfl rfl rfl rfl (ai_rcv1 rfl rfl (mcs_rcv hc12).choose_spec) (fun v13 s13 h13 f13 hc13 => ?_)
    show msm L xs e Y K _ qm_170 9 [some (.ref 14)] [] h13 _ _ _
    try simp only [zq, zi, zc, zv, zf, zci_eq, zsi_eq, zsk_eq, zbd_zbd, zbd_some, zbd_fault, zbd_none, zite0, zite1, ↓reduceIte, Nat.one_ne_zero, Nat.reduceEqDiff]
    show msm L xs e Y K _ qm_170 9 [some (.ref 14)] [] h13 _ _ _
    rw [show zN = 69999 + 1 from rfl, zlp_succ]
    simp only [zl_elem, zq, zi, zc, zv, zf, zci_eq, zbd_zbd, zbd_some, zbd_fault, zbd_none]
    refine msm_pls (n := 1) (k' := 10) (lo' := [some (.ref 14)]) (S' := [.ref 14]) (h' := h13) rfl ?_
    first
      | refine msm_call hc13 (mim_up (hel) (by omega)) rfl rfl rfl rfl rfl rfl rfl rfl (ai_rcv1 rfl rfl (mcs_rcv hc13).choose_spec) (fun v15 s15 h15 f15 hc15 => ?_)
      | refine msm_callL hc13 (mim_up (hel) (by omega)) rfl rfl rfl rfl rfl rfl rfl rfl (ai_rcv1 rfl rfl (mcs_rcv hc13).choose_spec) (fun v15 s15 h15 f15 hc15 => ?_)
    show msm L xs e Y K _ qm_170 11 [some (.ref 14)] [] h15 _ _ _
    try simp only [zq, zi, zc, zv, zf, zci_eq, zsi_eq, zsk_eq, zbd_zbd, zbd_some, zbd_fault, zbd_none, zite0, zite1, ↓reduceIte, Nat.one_ne_zero, Nat.reduceEqDiff]
    refine loop _ (fun s16 h16 hc16 => ?_) _ _ _ _ hc15
    show msm L xs e Y K _ qm_170 17 [some (.ref 14)] [] h16 _ _ _
    try simp only [zq, zi, zc, zv, zf, zci_eq, zsi_eq, zsk_eq, zbd_zbd, zbd_some, zbd_fault, zbd_none, zite0, zite1, ↓reduceIte, Nat.one_ne_zero, Nat.reduceEqDiff]
    refine msm_pls (n := 1) (k' := 18) (lo' := [some (.ref 14)]) (S' := [.ref 14]) (h' := h16) rfl ?_
    first
      | refine msm_call hc16 (mim_up (mi_close (d := d) ht) (by omega)) rfl rfl rfl rfl rfl rfl rfl rfl (ai_rcv1 rfl rfl (mcs_rcv hc16).choose_spec) (fun v17 s17 h17 f17 hc17 => ?_)
      | refine msm_callL hc16 (mim_up (mi_close (d := d) ht) (by omega)) rfl rfl rfl rfl rfl rfl rfl rfl (ai_rcv1 rfl rfl (mcs_rcv hc16).choose_spec) (fun v17 s17 h17 f17 hc17 => ?_)
    show msm L xs e Y K _ qm_170 19 [some (.ref 14)] [] h17 _ _ _
    try simp only [zq, zi, zc, zv, zf, zci_eq, zsi_eq, zsk_eq, zbd_zbd, zbd_some, zbd_fault, zbd_none, zite0, zite1, ↓reduceIte, Nat.one_ne_zero, Nat.reduceEqDiff]
    refine msm_pls (n := 1) (k' := 20) (lo' := [some (.ref 14)]) (S' := [.int 1]) (h' := h17) rfl ?_
    exact msm_ret5 (v := 1) hc17 rfl rfl rfl (by decide)
  · skip
    try simp only [zq, zi, zc, zv, zf, zci_eq, zsi_eq, zsk_eq, zbd_zbd, zbd_some, zbd_fault, zbd_none, zite0, zite1, ↓reduceIte, Nat.one_ne_zero, Nat.reduceEqDiff, t10]
    refine msm_left hc (mim_up (mi_takes (d := d) (k := 71) ht (by decide) (by decide)) (by omega)) t10 rfl rfl rfl rfl rfl rfl rfl rfl (ai_rcv1 rfl rfl (mcs_rcv hc).choose_spec) (fun h18 hc18 => ?_)
    show msm L xs e Y K _ qm_170 3 [some (.ref 14)] [.int 0] h18 _ _ _
    refine msm_if true rfl (rfl) rfl ?_
    refine msm_pls (n := 2) (k' := 23) (lo' := [some (.ref 14)]) (S' := [.retAddr 1090, .ref 14]) (h' := h18) rfl ?_
    by_cases t19 : ztk e s.1 = 76
    · skip
      try simp only [zq, zi, zc, zv, zf, zci_eq, zsi_eq, zsk_eq, zbd_zbd, zbd_some, zbd_fault, zbd_none, zite0, zite1, ↓reduceIte, Nat.one_ne_zero, Nat.reduceEqDiff, t10, t19]
      refine msm_took hc18 (mim_up (mi_takes (d := d) (k := 76) ht (by decide) (by decide)) (by omega)) t19 rfl rfl rfl rfl rfl rfl rfl rfl (ai_rcv1 rfl rfl (mcs_rcv hc18).choose_spec) (fun v20 s20 h20 f20 hc20 => ?_)
      show msm L xs e Y K _ qm_170 24 [some (.ref 14)] [.int 1] h20 _ _ _
      try simp only [zq, zi, zc, zv, zf, zci_eq, zsi_eq, zsk_eq, zbd_zbd, zbd_some, zbd_fault, zbd_none, zite0, zite1, ↓reduceIte, Nat.one_ne_zero, Nat.reduceEqDiff]
      refine msm_pls (n := 3) (k' := 27) (lo' := [some (.ref 14)]) (S' := [.retAddr 1047, .ref 14]) (h' := h20) rfl ?_
      first
        | refine msm_call hc20 (mim_up (mi_word (d := d) (k := 32) ht (by decide) (by decide)) (by omega)) rfl rfl rfl rfl rfl rfl rfl rfl (ai_rcv1 rfl rfl (mcs_rcv hc20).choose_spec) (fun v21 s21 h21 f21 hc21 => ?_)
        | refine msm_callL hc20 (mim_up (mi_word (d := d) (k := 32) ht (by decide) (by decide)) (by omega)) rfl rfl rfl rfl rfl rfl rfl rfl (ai_rcv1 rfl rfl (mcs_rcv hc20).choose_spec) (fun v21 s21 h21 f21 hc21 => ?_)
      show msm L xs e Y K _ qm_170 28 [some (.ref 14)] [] h21 _ _ _
      try simp only [zq, zi, zc, zv, zf, zci_eq, zsi_eq, zsk_eq, zbd_zbd, zbd_some, zbd_fault, zbd_none, zite0, zite1, ↓reduceIte, Nat.one_ne_zero, Nat.reduceEqDiff]
      refine msm_pls (n := 2) (k' := 30) (lo' := [some (.ref 14)]) (S' := [.int 2, .ref 14]) (h' := h21) rfl ?_
      first
        | refine msm_call hc21 (mim_up (mi_name (d := d) ht) (by omega)) rfl rfl rfl rfl rfl rfl rfl rfl (ai_rcv1 rfl rfl (mcs_rcv hc21).choose_spec) (fun v22 s22 h22 f22 hc22 => ?_)
        | refine msm_callL hc21 (mim_up (mi_name (d := d) ht) (by omega)) rfl rfl rfl rfl rfl rfl rfl rfl (ai_rcv1 rfl rfl (mcs_rcv hc21).choose_spec) (fun v22 s22 h22 f22 hc22 => ?_)
      show msm L xs e Y K _ qm_170 31 [some (.ref 14)] [] h22 _ _ _
      try simp only [zq, zi, zc, zv, zf, zci_eq, zsi_eq, zsk_eq, zbd_zbd, zbd_some, zbd_fault, zbd_none, zite0, zite1, ↓reduceIte, Nat.one_ne_zero, Nat.reduceEqDiff]
      refine msm_pls (n := 2) (k' := 33) (lo' := [some (.ref 14)]) (S' := [.retAddr 1068, .ref 14]) (h' := h22) rfl ?_
      first
        | refine msm_call hc22 (mim_up (mi_word (d := d) (k := 53) ht (by decide) (by decide)) (by omega)) rfl rfl rfl rfl rfl rfl rfl rfl (ai_rcv1 rfl rfl (mcs_rcv hc22).choose_spec) (fun v23 s23 h23 f23 hc23 => ?_)
        | refine msm_callL hc22 (mim_up (mi_word (d := d) (k := 53) ht (by decide) (by decide)) (by omega)) rfl rfl rfl rfl rfl rfl rfl rfl (ai_rcv1 rfl rfl (mcs_rcv hc22).choose_spec) (fun v23 s23 h23 f23 hc23 => ?_)
      show msm L xs e Y K _ qm_170 34 [some (.ref 14)] [] h23 _ _ _
      try simp only [zq, zi, zc, zv, zf, zci_eq, zsi_eq, zsk_eq, zbd_zbd, zbd_some, zbd_fault, zbd_none, zite0, zite1, ↓reduceIte, Nat.one_ne_zero, Nat.reduceEqDiff]
      refine msm_pls (n := 2) (k' := 36) (lo' := [some (.ref 14)]) (S' := [.int 2, .ref 14]) (h' := h23) rfl ?_
      first
        | refine msm_call hc23 (mim_up (mi_name (d := d) ht) (by omega)) rfl rfl rfl rfl rfl rfl rfl rfl (ai_rcv1 rfl rfl (mcs_rcv hc23).choose_spec) (fun v24 s24 h24 f24 hc24 => ?_)
        | refine msm_callL hc23 (mim_up (mi_name (d := d) ht) (by omega)) rfl rfl rfl rfl rfl rfl rfl rfl (ai_rcv1 rfl rfl (mcs_rcv hc23).choose_spec) (fun v24 s24 h24 f24 hc24 => ?_)
      show msm L xs e Y K _ qm_170 37 [some (.ref 14)] [] h24 _ _ _
      try simp only [zq, zi, zc, zv, zf, zci_eq, zsi_eq, zsk_eq, zbd_zbd, zbd_some, zbd_fault, zbd_none, zite0, zite1, ↓reduceIte, Nat.one_ne_zero, Nat.reduceEqDiff]
      refine msm_pls (n := 1) (k' := 38) (lo' := [some (.ref 14)]) (S' := [.ref 14]) (h' := h24) rfl ?_
      first
        | refine msm_call hc24 (mim_up (ms_brack (d := d) ht) (by omega)) rfl rfl rfl rfl rfl rfl rfl rfl (ai_rcv1 rfl rfl (mcs_rcv hc24).choose_spec) (fun v25 s25 h25 f25 hc25 => ?_)
        | refine msm_callL hc24 (mim_up (ms_brack (d := d) ht) (by omega)) rfl rfl rfl rfl rfl rfl rfl rfl (ai_rcv1 rfl rfl (mcs_rcv hc24).choose_spec) (fun v25 s25 h25 f25 hc25 => ?_)
      show msm L xs e Y K _ qm_170 39 [some (.ref 14)] [] h25 _ _ _
      try simp only [zq, zi, zc, zv, zf, zci_eq, zsi_eq, zsk_eq, zbd_zbd, zbd_some, zbd_fault, zbd_none, zite0, zite1, ↓reduceIte, Nat.one_ne_zero, Nat.reduceEqDiff]
      refine msm_pls (n := 1) (k' := 40) (lo' := [some (.ref 14)]) (S' := [.int 2]) (h' := h25) rfl ?_
      exact msm_ret5 (v := 2) hc25 rfl rfl rfl (by decide)
    · skip
      try simp only [zq, zi, zc, zv, zf, zci_eq, zsi_eq, zsk_eq, zbd_zbd, zbd_some, zbd_fault, zbd_none, zite0, zite1, ↓reduceIte, Nat.one_ne_zero, Nat.reduceEqDiff, t10, t19]
      refine msm_left hc18 (mim_up (mi_takes (d := d) (k := 76) ht (by decide) (by decide)) (by omega)) t19 rfl rfl rfl rfl rfl rfl rfl rfl (ai_rcv1 rfl rfl (mcs_rcv hc18).choose_spec) (fun h26 hc26 => ?_)
      show msm L xs e Y K _ qm_170 24 [some (.ref 14)] [.int 0] h26 _ _ _
      refine msm_pls (n := 3) (k' := 27) (lo' := [some (.ref 14)]) (S' := [.retAddr 1047, .ref 14]) (h' := h26) rfl ?_
      by_cases t27 : ztk e s.1 = 32
      · skip
        try simp only [zq, zi, zc, zv, zf, zci_eq, zsi_eq, zsk_eq, zbd_zbd, zbd_some, zbd_fault, zbd_none, zite0, zite1, ↓reduceIte, Nat.one_ne_zero, Nat.reduceEqDiff, t10, t19, t27]
        first
          | refine msm_call hc26 (mim_up (mi_word (d := d) (k := 32) ht (by decide) (by decide)) (by omega)) rfl rfl rfl rfl rfl rfl rfl rfl (ai_rcv1 rfl rfl (mcs_rcv hc26).choose_spec) (fun v28 s28 h28 f28 hc28 => ?_)
          | refine msm_callL hc26 (mim_up (mi_word (d := d) (k := 32) ht (by decide) (by decide)) (by omega)) rfl rfl rfl rfl rfl rfl rfl rfl (ai_rcv1 rfl rfl (mcs_rcv hc26).choose_spec) (fun v28 s28 h28 f28 hc28 => ?_)
        show msm L xs e Y K _ qm_170 28 [some (.ref 14)] [] h28 _ _ _
        try simp only [zq, zi, zc, zv, zf, zci_eq, zsi_eq, zsk_eq, zbd_zbd, zbd_some, zbd_fault, zbd_none, zite0, zite1, ↓reduceIte, Nat.one_ne_zero, Nat.reduceEqDiff]
        refine msm_pls (n := 2) (k' := 30) (lo' := [some (.ref 14)]) (S' := [.int 2, .ref 14]) (h' := h28) rfl ?_
        first
          | refine msm_call hc28 (mim_up (mi_name (d := d) ht) (by omega)) rfl rfl rfl rfl rfl rfl rfl rfl (ai_rcv1 rfl rfl (mcs_rcv hc28).choose_spec) (fun v29 s29 h29 f29 hc29 => ?_)
          | refine msm_callL hc28 (mim_up (mi_name (d := d) ht) (by omega)) rfl rfl rfl rfl rfl rfl rfl rfl (ai_rcv1 rfl rfl (mcs_rcv hc28).choose_spec) (fun v29 s29 h29 f29 hc29 => ?_)
        show msm L xs e Y K _ qm_170 31 [some (.ref 14)] [] h29 _ _ _
        try simp only [zq, zi, zc, zv, zf, zci_eq, zsi_eq, zsk_eq, zbd_zbd, zbd_some, zbd_fault, zbd_none, zite0, zite1, ↓reduceIte, Nat.one_ne_zero, Nat.reduceEqDiff]
        refine msm_pls (n := 2) (k' := 33) (lo' := [some (.ref 14)]) (S' := [.retAddr 1068, .ref 14]) (h' := h29) rfl ?_
        first
          | refine msm_call hc29 (mim_up (mi_word (d := d) (k := 53) ht (by decide) (by decide)) (by omega)) rfl rfl rfl rfl rfl rfl rfl rfl (ai_rcv1 rfl rfl (mcs_rcv hc29).choose_spec) (fun v30 s30 h30 f30 hc30 => ?_)
          | refine msm_callL hc29 (mim_up (mi_word (d := d) (k := 53) ht (by decide) (by decide)) (by omega)) rfl rfl rfl rfl rfl rfl rfl rfl (ai_rcv1 rfl rfl (mcs_rcv hc29).choose_spec) (fun v30 s30 h30 f30 hc30 => ?_)
        show msm L xs e Y K _ qm_170 34 [some (.ref 14)] [] h30 _ _ _
        try simp only [zq, zi, zc, zv, zf, zci_eq, zsi_eq, zsk_eq, zbd_zbd, zbd_some, zbd_fault, zbd_none, zite0, zite1, ↓reduceIte, Nat.one_ne_zero, Nat.reduceEqDiff]
        refine msm_pls (n := 2) (k' := 36) (lo' := [some (.ref 14)]) (S' := [.int 2, .ref 14]) (h' := h30) rfl ?_
        first
          | refine msm_call hc30 (mim_up (mi_name (d := d) ht) (by omega)) rfl rfl rfl rfl rfl rfl rfl rfl (ai_rcv1 rfl rfl (mcs_rcv hc30).choose_spec) (fun v31 s31 h31 f31 hc31 => ?_)
          | refine msm_callL hc30 (mim_up (mi_name (d := d) ht) (by omega)) rfl rfl rfl rfl rfl rfl rfl rfl (ai_rcv1 rfl rfl (mcs_rcv hc30).choose_spec) (fun v31 s31 h31 f31 hc31 => ?_)
        show msm L xs e Y K _ qm_170 37 [some (.ref 14)] [] h31 _ _ _
        try simp only [zq, zi, zc, zv, zf, zci_eq, zsi_eq, zsk_eq, zbd_zbd, zbd_some, zbd_fault, zbd_none, zite0, zite1, ↓reduceIte, Nat.one_ne_zero, Nat.reduceEqDiff]
        refine msm_pls (n := 1) (k' := 38) (lo' := [some (.ref 14)]) (S' := [.ref 14]) (h' := h31) rfl ?_
        first
          | refine msm_call hc31 (mim_up (ms_brack (d := d) ht) (by omega)) rfl rfl rfl rfl rfl rfl rfl rfl (ai_rcv1 rfl rfl (mcs_rcv hc31).choose_spec) (fun v32 s32 h32 f32 hc32 => ?_)
          | refine msm_callL hc31 (mim_up (ms_brack (d := d) ht) (by omega)) rfl rfl rfl rfl rfl rfl rfl rfl (ai_rcv1 rfl rfl (mcs_rcv hc31).choose_spec) (fun v32 s32 h32 f32 hc32 => ?_)
        show msm L xs e Y K _ qm_170 39 [some (.ref 14)] [] h32 _ _ _
        try simp only [zq, zi, zc, zv, zf, zci_eq, zsi_eq, zsk_eq, zbd_zbd, zbd_some, zbd_fault, zbd_none, zite0, zite1, ↓reduceIte, Nat.one_ne_zero, Nat.reduceEqDiff]
        refine msm_pls (n := 1) (k' := 40) (lo' := [some (.ref 14)]) (S' := [.int 2]) (h' := h32) rfl ?_
        exact msm_ret5 (v := 2) hc32 rfl rfl rfl (by decide)
      · simp only [zq, zi, zc, zv, zf, zci_eq, zsi_eq, zsk_eq, zbd_zbd, zbd_some, zbd_fault, zbd_none, zite0, zite1, ↓reduceIte, Nat.one_ne_zero, Nat.reduceEqDiff, t10, t19, t27, zcp_no t10, zcp_no t19, zcp_no t27]
        exact msm_threw hc26 (mim_up (mi_word (d := d) (k := 32) ht (by decide) (by decide)) (by omega)) (zcp_no t27) rfl rfl rfl rfl rfl rfl rfl rfl (ai_rcv1 rfl rfl (mcs_rcv hc26).choose_spec)
end MTA
