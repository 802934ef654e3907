/-! THE MODEL'S QUERIES. (Printed by wip/whole/pp.py from wip/whole/src.) -/
section MQU
variable {L : Nat} {xs : Nat → Int32} {d : Nat} {h h' : ai_H} {e : zE} {Y : Nat → Option ai_C} {K : mK} {W P : zK} {s s' : zS} {ex qy : zP} {J : List zJ} {bg en md' : Value}
/-- a token is passed and not kept -/
theorem msm_nxt {M : ai_M} {k k' : Nat} {lo : ai_L} {S S' : List Value} {md kk : Nat} {G : Nat → zS → zR Nat} (ht : mtk e Y) (hc : mcs0 e Y K P s h J bg en md') (hk1 : kk < 102) (hk2 : ¬ (kk = 82 ∨ kk = 10) ∧ ¬ (kk = 83 ∨ kk = 25)) (t : ztk e s.1 = kk) (road : ∀ o, qg L xs d M k' lo S' (h.1.set 14 (mobj K.2.2.2.1 (s.1 + 1) J.length s.2.1 s.2.2.1 bg en md' P.length), h.2) o → qg L xs d M k lo S h o) (hs : ∀ s1 h1, mcs e Y K P s1 h1 → msm L xs e Y K d M k' lo S' h1 md P (G 0 s1)) : msm L xs e Y K d M k lo S h md P (zbd (zstep e s) G) := by
  intro v s' hr
  obtain ⟨n1, n2, n3⟩ := mtk_next ht (show ztk e s.1 < 102 by omega)
  have hc1 := mcs0_next ht hc (by omega) (c' := K.1) (g' := K.2.1) (by omega) (by omega)
  have hz : zstep e s = znext s := by
    unfold zstep
    rw [t, if_neg hk2.1, if_neg hk2.2]
  rw [hz] at hr
  rcases zbd_inv hr with ⟨h1, -⟩ | ⟨a, s1, h1, h2⟩
  · obtain ⟨-, q, -⟩ := znext_inv h1; cases q
  obtain ⟨-, q, e1⟩ := znext_inv h1
  cases q
  obtain ⟨h2', g3, g4⟩ := hs s1 _ (by rw [e1]; exact ⟨J, bg, en, md', hc1⟩) v s' h2
  exact ⟨h2', road _ g3, g4⟩
/-- QueryReaderModel.order -/
theorem ms_order (ht : mtk e Y) (hex : mim L xs e Y K d 140 [.ref 14] 0 ex) : mim L xs e Y K (d + 9) 169 [.ref 14] 0 (z_order e ex) := by
  refine mim_of (M := qm_169) rfl rfl (fun P s h hc => ?_)
  show msm L xs e Y K _ qm_169 0 [some (.ref 14)] [] h _ _ _
  simp only [z_order, zq, zi, zc, zv, zf, zci_eq, zsi_eq, zsk_eq, zbd_zbd, zbd_some, zbd_fault, zbd_none, zite0, zite1, ↓reduceIte, Nat.one_ne_zero, Nat.reduceEqDiff]
  refine msm_pls (n := 1) (k' := 1) (lo' := [some (.ref 14)]) (S' := [.ref 14]) (h' := h) rfl ?_
  first
    | refine msm_call hc (mim_up (hex) (by omega)) rfl rfl rfl rfl rfl rfl rfl rfl (ai_rcv1 rfl rfl (mcs_rcv hc).choose_spec) (fun v1 s1 h1 f1 hc1 => ?_)
    | refine msm_callL hc (mim_up (hex) (by omega)) rfl rfl rfl rfl rfl rfl rfl rfl (ai_rcv1 rfl rfl (mcs_rcv hc).choose_spec) (fun v1 s1 h1 f1 hc1 => ?_)
  show msm L xs e Y K _ qm_169 2 [some (.ref 14)] [] h1 _ _ _
  try simp only [zq, zi, zc, zv, zf, zci_eq, zsi_eq, zsk_eq, zbd_zbd, zbd_some, zbd_fault, zbd_none, zite0, zite1, ↓reduceIte, Nat.one_ne_zero, Nat.reduceEqDiff]
  refine msm_pls (n := 2) (k' := 4) (lo' := [some (.ref 14)]) (S' := [.retAddr 1019, .ref 14]) (h' := h1) rfl ?_
  by_cases t2 : ztk e s1.1 = 4
  · skip
    try simp only [zq, zi, zc, zv, zf, zci_eq, zsi_eq, zsk_eq, zbd_zbd, zbd_some, zbd_fault, zbd_none, zite0, zite1, ↓reduceIte, Nat.one_ne_zero, Nat.reduceEqDiff, t2]
    refine msm_ask (by have hh := m_isWord (L := L) (xs := xs) (d := d) ht hc1 (k := 4) (by decide); rw [if_pos t2] at hh; exact qe_up (by omega) hh) rfl rfl rfl rfl rfl rfl rfl (ai_rcv1 rfl rfl (mcs_rcv hc1).choose_spec) ?_
    show msm L xs e Y K _ qm_169 5 [some (.ref 14)] [.int 1] h1 _ _ _
    refine msm_if false rfl (rfl) rfl ?_
    refine msm_pls (n := 2) (k' := 8) (lo' := [some (.ref 14)]) (S' := [.ref 14, .ref 14]) (h' := h1) rfl ?_
    obtain ⟨J3, bg3, en3, md3, hz3⟩ := id hc1
    have road3 : ∀ (dd : Nat) o, qg L xs dd qm_169 12 [some (.ref 14)] [] (h1.1.set 14 (mobj K.2.2.2.1 (s1.1 + 1) J3.length s1.2.1 s1.2.2.1 bg3 en3 md3 P.length), h1.2) o → qg L xs dd qm_169 8 [some (.ref 14)] [.ref 14, .ref 14] h1 o := by
      intro dd o hg
      refine qg_getf (v := .int (nI s1.1)) rfl (mcs0_ob hz3) rfl rfl rfl ?_
      refine qg_pls (n := 2) (k' := 11) (lo' := [some (.ref 14)]) (S' := [.int ((nI s1.1) + 1), .ref 14]) (h' := h1) rfl ?_
      rw [show nI s1.1 + 1 = nI (s1.1 + 1) from nI_1 _]
      refine qg_putf rfl (mcs0_ob hz3) rfl rfl (Nat.le_of_ble_eq_true rfl) rfl ?_
      exact hg
    refine msm_nxt ht hz3 (kk := 4) (by decide) (by decide) t2 (road3 _) (fun s3 h3 hc3 => ?_)
    show msm L xs e Y K _ qm_169 12 [some (.ref 14)] [] h3 _ _ _
    try simp only [zq, zi, zc, zv, zf, zci_eq, zsi_eq, zsk_eq, zbd_zbd, zbd_some, zbd_fault, zbd_none, zite0, zite1, ↓reduceIte, Nat.one_ne_zero, Nat.reduceEqDiff]
    refine msm_pls (n := 1) (k' := 17) (lo' := [some (.ref 14)]) (S' := []) (h' := h3) rfl ?_
    exact msm_ret7 hc3 rfl
  · skip
    try simp only [zq, zi, zc, zv, zf, zci_eq, zsi_eq, zsk_eq, zbd_zbd, zbd_some, zbd_fault, zbd_none, zite0, zite1, ↓reduceIte, Nat.one_ne_zero, Nat.reduceEqDiff, t2]
    refine msm_ask (by have hh := m_isWord (L := L) (xs := xs) (d := d) ht hc1 (k := 4) (by decide); rw [if_neg t2] at hh; exact qe_up (by omega) hh) rfl rfl rfl rfl rfl rfl rfl (ai_rcv1 rfl rfl (mcs_rcv hc1).choose_spec) ?_
    show msm L xs e Y K _ qm_169 5 [some (.ref 14)] [.int 0] h1 _ _ _
    refine msm_if true rfl (rfl) rfl ?_
    refine msm_pls (n := 2) (k' := 15) (lo' := [some (.ref 14)]) (S' := [.retAddr 1036, .ref 14]) (h' := h1) rfl ?_
    by_cases t4 : ztk e s1.1 = 21
    · skip
      try simp only [zq, zi, zc, zv, zf, zci_eq, zsi_eq, zsk_eq, zbd_zbd, zbd_some, zbd_fault, zbd_none, zite0, zite1, ↓reduceIte, Nat.one_ne_zero, Nat.reduceEqDiff, t2, t4]
      refine msm_took hc1 (mim_up (mi_takes (d := d) (k := 21) ht (by decide) (by decide)) (by omega)) t4 rfl rfl rfl rfl rfl rfl rfl rfl (ai_rcv1 rfl rfl (mcs_rcv hc1).choose_spec) (fun v5 s5 h5 f5 hc5 => ?_)
      show msm L xs e Y K _ qm_169 16 [some (.ref 14)] [.int 1] h5 _ _ _
      try simp only [zq, zi, zc, zv, zf, zci_eq, zsi_eq, zsk_eq, zbd_zbd, zbd_some, zbd_fault, zbd_none, zite0, zite1, ↓reduceIte, Nat.one_ne_zero, Nat.reduceEqDiff]
      refine msm_pls (n := 1) (k' := 17) (lo' := [some (.ref 14)]) (S' := []) (h' := h5) rfl ?_
      exact msm_ret7 hc5 rfl
    · skip
      try simp only [zq, zi, zc, zv, zf, zci_eq, zsi_eq, zsk_eq, zbd_zbd, zbd_some, zbd_fault, zbd_none, zite0, zite1, ↓reduceIte, Nat.one_ne_zero, Nat.reduceEqDiff, t2, t4]
      refine msm_left hc1 (mim_up (mi_takes (d := d) (k := 21) ht (by decide) (by decide)) (by omega)) t4 rfl rfl rfl rfl rfl rfl rfl rfl (ai_rcv1 rfl rfl (mcs_rcv hc1).choose_spec) (fun h6 hc6 => ?_)
      show msm L xs e Y K _ qm_169 16 [some (.ref 14)] [.int 0] h6 _ _ _
      refine msm_pls (n := 1) (k' := 17) (lo' := [some (.ref 14)]) (S' := []) (h' := h6) rfl ?_
      exact msm_ret7 hc6 rfl
theorem zt_cross : zt 1006 = zw 18 ++ [32] ++ zw 38 := by decide
theorem zt_ondel : zt 1009 = zw 53 ++ [32] ++ zw 20 ++ [32] ++ zw 62 := by decide
/-- a comma between sources: CROSS JOIN is put -/
theorem m_cross {G : Nat → zS → zR Nat} (ht : mtk e Y) (hc : mcs e Y K P s h) (t : ztk e s.1 = 84) (hs : ∀ s1 h1, mcs e Y K P s1 h1 → msm L xs e Y K (d + 10) qm_164 69 [some (.ref 14), some (.int 0)] [] h1 1 P (G 0 s1)) : msm L xs e Y K (d + 10) qm_164 6 [some (.ref 14), some (.int 1)] [] h 1 P (zbd (zstep e s) fun _ s => zbd (zput (zt 1006) s) G) := by
  intro v s' hr
  obtain ⟨J, bg, en, md', hc0⟩ := hc
  obtain ⟨n1, n2, n3⟩ := mtk_next ht (show ztk e s.1 < 102 by omega)
  have hc1 := mcs0_next ht hc0 (by omega) (c' := K.1) (g' := K.2.1 + 2) (by omega) (by omega)
  obtain ⟨h2, g2, hc2⟩ := m_put (L := L) (xs := xs) (d := d + 7) ht hc1 (k := 18) (by decide) (g' := K.2.1 + 1) (Nat.le_refl _)
  obtain ⟨h3, g3, hc3⟩ := m_put (L := L) (xs := xs) (d := d + 7) ht hc2 (k := 38) (by decide) (g' := K.2.1) (Nat.le_refl _)
  have hz : zstep e s = znext s := by
    unfold zstep
    rw [t, if_neg (by decide), if_neg (by decide)]
  rw [hz] at hr
  rcases zbd_inv hr with ⟨h1, -⟩ | ⟨a, s1, h1, hr⟩
  · obtain ⟨-, q, -⟩ := znext_inv h1; cases q
  obtain ⟨-, -, e1⟩ := znext_inv h1
  rcases zbd_inv hr with ⟨h1, -⟩ | ⟨a, s2, h1, hr⟩
  · obtain ⟨-, q, -⟩ := zput_inv h1; cases q
  obtain ⟨-, q, e2⟩ := zput_inv h1
  cases q
  have hst : s2 = (s.1 + 1, s.2.1, s.2.2.1, s.2.2.2.1, s.2.2.2.2 ++ zw 18 ++ [32] ++ zw 38 ++ [32]) := by
    rw [e2, e1, zt_cross]
    simp only [List.append_assoc]
  have hc3 : mcs e Y K P s2 h3 := by rw [hst]; exact ⟨_, _, _, _, hc3⟩
  obtain ⟨h4, g4, g5⟩ := hs s2 h3 hc3 v s' hr
  refine ⟨h4, ?_, g5⟩
  refine qg_pls (n := 2) (k' := 8) (lo' := [some (.ref 14), some (.int 1)]) (S' := [.ref 14, .ref 14]) (h' := h) rfl ?_
  refine qg_getf (v := .int (nI s.1)) rfl (mcs0_ob hc0) rfl rfl rfl ?_
  refine qg_pls (n := 2) (k' := 11) (lo' := [some (.ref 14), some (.int 1)]) (S' := [.int ((nI s.1) + 1), .ref 14]) (h' := h) rfl ?_
  rw [show nI s.1 + 1 = nI (s.1 + 1) from nI_1 _]
  refine qg_putf rfl (mcs0_ob hc0) rfl rfl (Nat.le_of_ble_eq_true rfl) rfl ?_
  show qg L xs _ qm_164 12 [some (.ref 14), some (.int 1)] [] (h.1.set 14 (mobj K.2.2.2.1 (s.1 + 1) J.length s.2.1 s.2.2.1 bg en md' P.length), h.2) _
  refine qg_pls (n := 2) (k' := 14) (lo' := [some (.ref 14), some (.int 1)]) (S' := [.retAddr 1033, .ref 14]) (h' := (h.1.set 14 (mobj K.2.2.2.1 (s.1 + 1) J.length s.2.1 s.2.2.1 bg en md' P.length), h.2)) rfl ?_
  refine qg_call (v := none) (h' := h2) (as := [.ref 14, .retAddr 1033]) rfl rfl rfl rfl rfl rfl rfl (ai_rcv1 rfl rfl (mcs0_ob hc1)) (g2) ?_
  show qg L xs _ qm_164 15 [some (.ref 14), some (.int 1)] [] h2 _
  refine qg_pls (n := 2) (k' := 17) (lo' := [some (.ref 14), some (.int 1)]) (S' := [.retAddr 1053, .ref 14]) (h' := h2) rfl ?_
  refine qg_call (v := none) (h' := h3) (as := [.ref 14, .retAddr 1053]) rfl rfl rfl rfl rfl rfl rfl (ai_rcv1 rfl rfl (mcs0_ob hc2)) (g3) ?_
  show qg L xs _ qm_164 18 [some (.ref 14), some (.int 1)] [] h3 _
  refine qg_pls (n := 3) (k' := 69) (lo' := [some (.ref 14), some (.int 0)]) (S' := []) (h' := h3) rfl ?_
  exact g4
theorem ms_join (ht : mtk e Y) (hex : mim L xs e Y K d 140 [.ref 14] 0 ex) : mim L xs e Y K (d + 11) 164 [.ref 14] 1 (z_join e ex) := by
  refine mim_of (M := qm_164) rfl rfl (fun P s h hc => ?_)
  show msm L xs e Y K _ qm_164 0 [some (.ref 14), none] [] h _ _ _
  simp only [z_join, z_on, zq, zi, zc, zv, zf, zci_eq, zsi_eq, zsk_eq, zbd_zbd, zbd_some, zbd_fault, zbd_none, zite0, zite1, ↓reduceIte, Nat.one_ne_zero, Nat.reduceEqDiff]
  refine msm_pls (n := 4) (k' := 4) (lo' := [some (.ref 14), some (.int 1)]) (S' := [.retAddr 1099, .ref 14]) (h' := h) rfl ?_
  by_cases t7 : ztk e s.1 = 84
  · skip
    try simp only [zq, zi, zc, zv, zf, zci_eq, zsi_eq, zsk_eq, zbd_zbd, zbd_some, zbd_fault, zbd_none, zite0, zite1, ↓reduceIte, Nat.one_ne_zero, Nat.reduceEqDiff, t7]
    refine msm_ask (by have hh := m_isMark (L := L) (xs := xs) (d := d) ht hc (k := 84) (by decide); rw [if_pos t7] at hh; exact qe_up (by omega) hh) rfl rfl rfl rfl rfl rfl rfl (ai_rcv1 rfl rfl (mcs_rcv hc).choose_spec) ?_
    show msm L xs e Y K _ qm_164 5 [some (.ref 14), some (.int 1)] [.int 1] h _ _ _
    refine msm_if false rfl (rfl) rfl ?_
    show msm L xs e Y K _ qm_164 6 [some (.ref 14), some (.int 1)] [] h _ _ _
    refine m_cross ht hc t7 (fun s8 h8 hc8 => ?_)
    show msm L xs e Y K _ qm_164 69 [some (.ref 14), some (.int 0)] [] h8 _ _ _
    try simp only [zq, zi, zc, zv, zf, zci_eq, zsi_eq, zsk_eq, zbd_zbd, zbd_some, zbd_fault, zbd_none, zite0, zite1, ↓reduceIte, Nat.one_ne_zero, Nat.reduceEqDiff]
    refine msm_pls (n := 1) (k' := 70) (lo' := [some (.ref 14), some (.int 0)]) (S' := [.ref 14]) (h' := h8) rfl ?_
    first
      | refine msm_call hc8 (mim_up (ms_source (d := d) ht) (by omega)) rfl rfl rfl rfl rfl rfl rfl rfl (ai_rcv1 rfl rfl (mcs_rcv hc8).choose_spec) (fun v9 s9 h9 f9 hc9 => ?_)
      | refine msm_callL hc8 (mim_up (ms_source (d := d) ht) (by omega)) rfl rfl rfl rfl rfl rfl rfl rfl (ai_rcv1 rfl rfl (mcs_rcv hc8).choose_spec) (fun v9 s9 h9 f9 hc9 => ?_)
    show msm L xs e Y K _ qm_164 71 [some (.ref 14), some (.int 0)] [] h9 _ _ _
    try simp only [zq, zi, zc, zv, zf, zci_eq, zsi_eq, zsk_eq, zbd_zbd, zbd_some, zbd_fault, zbd_none, zite0, zite1, ↓reduceIte, Nat.one_ne_zero, Nat.reduceEqDiff]
    refine msm_pls (n := 1) (k' := 72) (lo' := [some (.ref 14), some (.int 0)]) (S' := [.int 0]) (h' := h9) rfl ?_
    refine msm_if true rfl (rfl) rfl ?_
    refine msm_pls (n := 1) (k' := 79) (lo' := [some (.ref 14), some (.int 0)]) (S' := [.int 1]) (h' := h9) rfl ?_
    exact msm_ret5 (v := 1) hc9 rfl rfl rfl (by decide)
  · skip
    try simp only [zq, zi, zc, zv, zf, zci_eq, zsi_eq, zsk_eq, zbd_zbd, zbd_some, zbd_fault, zbd_none, zite0, zite1, ↓reduceIte, Nat.one_ne_zero, Nat.reduceEqDiff, t7]
    refine msm_ask (by have hh := m_isMark (L := L) (xs := xs) (d := d) ht hc (k := 84) (by decide); rw [if_neg t7] at hh; exact qe_up (by omega) hh) rfl rfl rfl rfl rfl rfl rfl (ai_rcv1 rfl rfl (mcs_rcv hc).choose_spec) ?_
    show msm L xs e Y K _ qm_164 5 [some (.ref 14), some (.int 1)] [.int 0] h _ _ _
    refine msm_if true rfl (rfl) rfl ?_
    refine msm_pls (n := 2) (k' := 23) (lo' := [some (.ref 14), some (.int 1)]) (S' := [.retAddr 1033, .ref 14]) (h' := h) rfl ?_
    by_cases t10 : ztk e s.1 = 18
    · skip
      try simp only [zq, zi, zc, zv, zf, zci_eq, zsi_eq, zsk_eq, zbd_zbd, zbd_some, zbd_fault, zbd_none, zite0, zite1, ↓reduceIte, Nat.one_ne_zero, Nat.reduceEqDiff, t7, t10]
      refine msm_took hc (mim_up (mi_takes (d := d) (k := 18) ht (by decide) (by decide)) (by omega)) t10 rfl rfl rfl rfl rfl rfl rfl rfl (ai_rcv1 rfl rfl (mcs_rcv hc).choose_spec) (fun v11 s11 h11 f11 hc11 => ?_)
      show msm L xs e Y K _ qm_164 24 [some (.ref 14), some (.int 1)] [.int 1] h11 _ _ _
      try simp only [zq, zi, zc, zv, zf, zci_eq, zsi_eq, zsk_eq, zbd_zbd, zbd_some, zbd_fault, zbd_none, zite0, zite1, ↓reduceIte, Nat.one_ne_zero, Nat.reduceEqDiff]
      refine msm_if false rfl (rfl) rfl ?_
      refine msm_pls (n := 2) (k' := 27) (lo' := [some (.ref 14), some (.int 1)]) (S' := [.retAddr 1053, .ref 14]) (h' := h11) rfl ?_
      first
        | refine msm_call hc11 (mim_up (mi_word (d := d) (k := 38) ht (by decide) (by decide)) (by omega)) rfl rfl rfl rfl rfl rfl rfl rfl (ai_rcv1 rfl rfl (mcs_rcv hc11).choose_spec) (fun v12 s12 h12 f12 hc12 => ?_)
        | refine msm_callL hc11 (mim_up (mi_word (d := d) (k := 38) ht (by decide) (by decide)) (by omega)) rfl rfl rfl rfl rfl rfl rfl rfl (ai_rcv1 rfl rfl (mcs_rcv hc11).choose_spec) (fun v12 s12 h12 f12 hc12 => ?_)
      show msm L xs e Y K _ qm_164 28 [some (.ref 14), some (.int 1)] [] h12 _ _ _
      try simp only [zq, zi, zc, zv, zf, zci_eq, zsi_eq, zsk_eq, zbd_zbd, zbd_some, zbd_fault, zbd_none, zite0, zite1, ↓reduceIte, Nat.one_ne_zero, Nat.reduceEqDiff]
      refine msm_pls (n := 4) (k' := 70) (lo' := [some (.ref 14), some (.int 0)]) (S' := [.ref 14]) (h' := h12) rfl ?_
      first
        | refine msm_call hc12 (mim_up (ms_source (d := d) ht) (by omega)) rfl rfl rfl rfl rfl rfl rfl rfl (ai_rcv1 rfl rfl (mcs_rcv hc12).choose_spec) (fun v13 s13 h13 f13 hc13 => ?_)
        | refine msm_callL hc12 (mim_up (ms_source (d := d) ht) (by omega)) rfl rfl rfl rfl rfl rfl rfl rfl (ai_rcv1 rfl rfl (mcs_rcv hc12).choose_spec) (fun v13 s13 h13 f13 hc13 => ?_)
      show msm L xs e Y K _ qm_164 71 [some (.ref 14), some (.int 0)] [] h13 _ _ _
      try simp only [zq, zi, zc, zv, zf, zci_eq, zsi_eq, zsk_eq, zbd_zbd, zbd_some, zbd_fault, zbd_none, zite0, zite1, ↓reduceIte, Nat.one_ne_zero, Nat.reduceEqDiff]
      refine msm_pls (n := 1) (k' := 72) (lo' := [some (.ref 14), some (.int 0)]) (S' := [.int 0]) (h' := h13) rfl ?_
      refine msm_if true rfl (rfl) rfl ?_
      refine msm_pls (n := 1) (k' := 79) (lo' := [some (.ref 14), some (.int 0)]) (S' := [.int 1]) (h' := h13) rfl ?_
      exact msm_ret5 (v := 1) hc13 rfl rfl rfl (by decide)
    · skip
      try simp only [zq, zi, zc, zv, zf, zci_eq, zsi_eq, zsk_eq, zbd_zbd, zbd_some, zbd_fault, zbd_none, zite0, zite1, ↓reduceIte, Nat.one_ne_zero, Nat.reduceEqDiff, t7, t10]
      refine msm_left hc (mim_up (mi_takes (d := d) (k := 18) ht (by decide) (by decide)) (by omega)) t10 rfl rfl rfl rfl rfl rfl rfl rfl (ai_rcv1 rfl rfl (mcs_rcv hc).choose_spec) (fun h14 hc14 => ?_)
      show msm L xs e Y K _ qm_164 24 [some (.ref 14), some (.int 1)] [.int 0] h14 _ _ _
      refine msm_if true rfl (rfl) rfl ?_
      refine msm_pls (n := 2) (k' := 33) (lo' := [some (.ref 14), some (.int 1)]) (S' := [.retAddr 1055, .ref 14]) (h' := h14) rfl ?_
      by_cases t15 : ztk e s.1 = 40
      · skip
        try simp only [zq, zi, zc, zv, zf, zci_eq, zsi_eq, zsk_eq, zbd_zbd, zbd_some, zbd_fault, zbd_none, zite0, zite1, ↓reduceIte, Nat.one_ne_zero, Nat.reduceEqDiff, t7, t10, t15]
        refine msm_took hc14 (mim_up (mi_takes (d := d) (k := 40) ht (by decide) (by decide)) (by omega)) t15 rfl rfl rfl rfl rfl rfl rfl rfl (ai_rcv1 rfl rfl (mcs_rcv hc14).choose_spec) (fun v16 s16 h16 f16 hc16 => ?_)
        show msm L xs e Y K _ qm_164 34 [some (.ref 14), some (.int 1)] [.int 1] h16 _ _ _
        try simp only [zq, zi, zc, zv, zf, zci_eq, zsi_eq, zsk_eq, zbd_zbd, zbd_some, zbd_fault, zbd_none, zite0, zite1, ↓reduceIte, Nat.one_ne_zero, Nat.reduceEqDiff]
        refine msm_if false rfl (rfl) rfl ?_
        refine msm_pls (n := 2) (k' := 37) (lo' := [some (.ref 14), some (.int 1)]) (S' := [.retAddr 1071, .ref 14]) (h' := h16) rfl ?_
        by_cases t17 : ztk e s16.1 = 56
        · skip
          try simp only [zq, zi, zc, zv, zf, zci_eq, zsi_eq, zsk_eq, zbd_zbd, zbd_some, zbd_fault, zbd_none, zite0, zite1, ↓reduceIte, Nat.one_ne_zero, Nat.reduceEqDiff, t17]
          refine msm_ask (by have hh := m_isWord (L := L) (xs := xs) (d := d) ht hc16 (k := 56) (by decide); rw [if_pos t17] at hh; exact qe_up (by omega) hh) rfl rfl rfl rfl rfl rfl rfl (ai_rcv1 rfl rfl (mcs_rcv hc16).choose_spec) ?_
          show msm L xs e Y K _ qm_164 38 [some (.ref 14), some (.int 1)] [.int 1] h16 _ _ _
          refine msm_if false rfl (rfl) rfl ?_
          refine msm_pls (n := 2) (k' := 41) (lo' := [some (.ref 14), some (.int 1)]) (S' := [.ref 14, .ref 14]) (h' := h16) rfl ?_
          obtain ⟨J18, bg18, en18, md18, hz18⟩ := id hc16
          have road18 : ∀ (dd : Nat) o, qg L xs dd qm_164 45 [some (.ref 14), some (.int 1)] [] (h16.1.set 14 (mobj K.2.2.2.1 (s16.1 + 1) J18.length s16.2.1 s16.2.2.1 bg18 en18 md18 P.length), h16.2) o → qg L xs dd qm_164 41 [some (.ref 14), some (.int 1)] [.ref 14, .ref 14] h16 o := by
            intro dd o hg
            refine qg_getf (v := .int (nI s16.1)) rfl (mcs0_ob hz18) rfl rfl rfl ?_
            refine qg_pls (n := 2) (k' := 44) (lo' := [some (.ref 14), some (.int 1)]) (S' := [.int ((nI s16.1) + 1), .ref 14]) (h' := h16) rfl ?_
            rw [show nI s16.1 + 1 = nI (s16.1 + 1) from nI_1 _]
            refine qg_putf rfl (mcs0_ob hz18) rfl rfl (Nat.le_of_ble_eq_true rfl) rfl ?_
            exact hg
          refine msm_nxt ht hz18 (kk := 56) (by decide) (by decide) t17 (road18 _) (fun s18 h18 hc18 => ?_)
          show msm L xs e Y K _ qm_164 45 [some (.ref 14), some (.int 1)] [] h18 _ _ _
          try simp only [zq, zi, zc, zv, zf, zci_eq, zsi_eq, zsk_eq, zbd_zbd, zbd_some, zbd_fault, zbd_none, zite0, zite1, ↓reduceIte, Nat.one_ne_zero, Nat.reduceEqDiff]
          refine msm_pls (n := 2) (k' := 47) (lo' := [some (.ref 14), some (.int 1)]) (S' := [.retAddr 1053, .ref 14]) (h' := h18) rfl ?_
          first
            | refine msm_call hc18 (mim_up (mi_word (d := d) (k := 38) ht (by decide) (by decide)) (by omega)) rfl rfl rfl rfl rfl rfl rfl rfl (ai_rcv1 rfl rfl (mcs_rcv hc18).choose_spec) (fun v19 s19 h19 f19 hc19 => ?_)
            | refine msm_callL hc18 (mim_up (mi_word (d := d) (k := 38) ht (by decide) (by decide)) (by omega)) rfl rfl rfl rfl rfl rfl rfl rfl (ai_rcv1 rfl rfl (mcs_rcv hc18).choose_spec) (fun v19 s19 h19 f19 hc19 => ?_)
          show msm L xs e Y K _ qm_164 48 [some (.ref 14), some (.int 1)] [] h19 _ _ _
          try simp only [zq, zi, zc, zv, zf, zci_eq, zsi_eq, zsk_eq, zbd_zbd, zbd_some, zbd_fault, zbd_none, zite0, zite1, ↓reduceIte, Nat.one_ne_zero, Nat.reduceEqDiff]
          refine msm_pls (n := 2) (k' := 70) (lo' := [some (.ref 14), some (.int 1)]) (S' := [.ref 14]) (h' := h19) rfl ?_
          first
            | refine msm_call hc19 (mim_up (ms_source (d := d) ht) (by omega)) rfl rfl rfl rfl rfl rfl rfl rfl (ai_rcv1 rfl rfl (mcs_rcv hc19).choose_spec) (fun v20 s20 h20 f20 hc20 => ?_)
            | refine msm_callL hc19 (mim_up (ms_source (d := d) ht) (by omega)) rfl rfl rfl rfl rfl rfl rfl rfl (ai_rcv1 rfl rfl (mcs_rcv hc19).choose_spec) (fun v20 s20 h20 f20 hc20 => ?_)
          show msm L xs e Y K _ qm_164 71 [some (.ref 14), some (.int 1)] [] h20 _ _ _
          try simp only [zq, zi, zc, zv, zf, zci_eq, zsi_eq, zsk_eq, zbd_zbd, zbd_some, zbd_fault, zbd_none, zite0, zite1, ↓reduceIte, Nat.one_ne_zero, Nat.reduceEqDiff]
          refine msm_pls (n := 1) (k' := 72) (lo' := [some (.ref 14), some (.int 1)]) (S' := [.int 1]) (h' := h20) rfl ?_
          refine msm_if false rfl (rfl) rfl ?_
          refine msm_pls (n := 2) (k' := 75) (lo' := [some (.ref 14), some (.int 1)]) (S' := [.retAddr 1068, .ref 14]) (h' := h20) rfl ?_
          first
            | refine msm_call hc20 (mim_up (mi_word (d := d) (k := 53) ht (by decide) (by decide)) (by omega)) rfl rfl rfl rfl rfl rfl rfl rfl (ai_rcv1 rfl rfl (mcs_rcv hc20).choose_spec) (fun v21 s21 h21 f21 hc21 => ?_)
            | refine msm_callL hc20 (mim_up (mi_word (d := d) (k := 53) ht (by decide) (by decide)) (by omega)) rfl rfl rfl rfl rfl rfl rfl rfl (ai_rcv1 rfl rfl (mcs_rcv hc20).choose_spec) (fun v21 s21 h21 f21 hc21 => ?_)
          show msm L xs e Y K _ qm_164 76 [some (.ref 14), some (.int 1)] [] h21 _ _ _
          try simp only [zq, zi, zc, zv, zf, zci_eq, zsi_eq, zsk_eq, zbd_zbd, zbd_some, zbd_fault, zbd_none, zite0, zite1, ↓reduceIte, Nat.one_ne_zero, Nat.reduceEqDiff]
          refine msm_pls (n := 1) (k' := 77) (lo' := [some (.ref 14), some (.int 1)]) (S' := [.ref 14]) (h' := h21) rfl ?_
          first
            | refine msm_call hc21 (mim_up (hex) (by omega)) rfl rfl rfl rfl rfl rfl rfl rfl (ai_rcv1 rfl rfl (mcs_rcv hc21).choose_spec) (fun v22 s22 h22 f22 hc22 => ?_)
            | refine msm_callL hc21 (mim_up (hex) (by omega)) rfl rfl rfl rfl rfl rfl rfl rfl (ai_rcv1 rfl rfl (mcs_rcv hc21).choose_spec) (fun v22 s22 h22 f22 hc22 => ?_)
          show msm L xs e Y K _ qm_164 78 [some (.ref 14), some (.int 1)] [] h22 _ _ _
          try simp only [zq, zi, zc, zv, zf, zci_eq, zsi_eq, zsk_eq, zbd_zbd, zbd_some, zbd_fault, zbd_none, zite0, zite1, ↓reduceIte, Nat.one_ne_zero, Nat.reduceEqDiff]
          refine msm_pls (n := 1) (k' := 79) (lo' := [some (.ref 14), some (.int 1)]) (S' := [.int 1]) (h' := h22) rfl ?_
          exact msm_ret5 (v := 1) hc22 rfl rfl rfl (by decide)
        · skip
          try simp only [zq, zi, zc, zv, zf, zci_eq, zsi_eq, zsk_eq, zbd_zbd, zbd_some, zbd_fault, zbd_none, zite0, zite1, ↓reduceIte, Nat.one_ne_zero, Nat.reduceEqDiff, t17]
          refine msm_ask (by have hh := m_isWord (L := L) (xs := xs) (d := d) ht hc16 (k := 56) (by decide); rw [if_neg t17] at hh; exact qe_up (by omega) hh) rfl rfl rfl rfl rfl rfl rfl (ai_rcv1 rfl rfl (mcs_rcv hc16).choose_spec) ?_
          show msm L xs e Y K _ qm_164 38 [some (.ref 14), some (.int 1)] [.int 0] h16 _ _ _
          refine msm_if true rfl (rfl) rfl ?_
          refine msm_pls (n := 2) (k' := 47) (lo' := [some (.ref 14), some (.int 1)]) (S' := [.retAddr 1053, .ref 14]) (h' := h16) rfl ?_
          by_cases t23 : ztk e s16.1 = 38
          · skip
            try simp only [zq, zi, zc, zv, zf, zci_eq, zsi_eq, zsk_eq, zbd_zbd, zbd_some, zbd_fault, zbd_none, zite0, zite1, ↓reduceIte, Nat.one_ne_zero, Nat.reduceEqDiff, t17, t23]
            first
              | refine msm_call hc16 (mim_up (mi_word (d := d) (k := 38) ht (by decide) (by decide)) (by omega)) rfl rfl rfl rfl rfl rfl rfl rfl (ai_rcv1 rfl rfl (mcs_rcv hc16).choose_spec) (fun v24 s24 h24 f24 hc24 => ?_)
              | refine msm_callL hc16 (mim_up (mi_word (d := d) (k := 38) ht (by decide) (by decide)) (by omega)) rfl rfl rfl rfl rfl rfl rfl rfl (ai_rcv1 rfl rfl (mcs_rcv hc16).choose_spec) (fun v24 s24 h24 f24 hc24 => ?_)
            show msm L xs e Y K _ qm_164 48 [some (.ref 14), some (.int 1)] [] h24 _ _ _
            try simp only [zq, zi, zc, zv, zf, zci_eq, zsi_eq, zsk_eq, zbd_zbd, zbd_some, zbd_fault, zbd_none, zite0, zite1, ↓reduceIte, Nat.one_ne_zero, Nat.reduceEqDiff]
            refine msm_pls (n := 2) (k' := 70) (lo' := [some (.ref 14), some (.int 1)]) (S' := [.ref 14]) (h' := h24) rfl ?_
            first
              | refine msm_call hc24 (mim_up (ms_source (d := d) ht) (by omega)) rfl rfl rfl rfl rfl rfl rfl rfl (ai_rcv1 rfl rfl (mcs_rcv hc24).choose_spec) (fun v25 s25 h25 f25 hc25 => ?_)
              | refine msm_callL hc24 (mim_up (ms_source (d := d) ht) (by omega)) rfl rfl rfl rfl rfl rfl rfl rfl (ai_rcv1 rfl rfl (mcs_rcv hc24).choose_spec) (fun v25 s25 h25 f25 hc25 => ?_)
            show msm L xs e Y K _ qm_164 71 [some (.ref 14), some (.int 1)] [] h25 _ _ _
            try simp only [zq, zi, zc, zv, zf, zci_eq, zsi_eq, zsk_eq, zbd_zbd, zbd_some, zbd_fault, zbd_none, zite0, zite1, ↓reduceIte, Nat.one_ne_zero, Nat.reduceEqDiff]
            refine msm_pls (n := 1) (k' := 72) (lo' := [some (.ref 14), some (.int 1)]) (S' := [.int 1]) (h' := h25) rfl ?_
            refine msm_if false rfl (rfl) rfl ?_
            refine msm_pls (n := 2) (k' := 75) (lo' := [some (.ref 14), some (.int 1)]) (S' := [.retAddr 1068, .ref 14]) (h' := h25) rfl ?_
            first
              | refine msm_call hc25 (mim_up (mi_word (d := d) (k := 53) ht (by decide) (by decide)) (by omega)) rfl rfl rfl rfl rfl rfl rfl rfl (ai_rcv1 rfl rfl (mcs_rcv hc25).choose_spec) (fun v26 s26 h26 f26 hc26 => ?_)
              | refine msm_callL hc25 (mim_up (mi_word (d := d) (k := 53) ht (by decide) (by decide)) (by omega)) rfl rfl rfl rfl rfl rfl rfl rfl (ai_rcv1 rfl rfl (mcs_rcv hc25).choose_spec) (fun v26 s26 h26 f26 hc26 => ?_)
            show msm L xs e Y K _ qm_164 76 [some (.ref 14), some (.int 1)] [] h26 _ _ _
            try simp only [zq, zi, zc, zv, zf, zci_eq, zsi_eq, zsk_eq, zbd_zbd, zbd_some, zbd_fault, zbd_none, zite0, zite1, ↓reduceIte, Nat.one_ne_zero, Nat.reduceEqDiff]
            refine msm_pls (n := 1) (k' := 77) (lo' := [some (.ref 14), some (.int 1)]) (S' := [.ref 14]) (h' := h26) rfl ?_
            first
              | refine msm_call hc26 (mim_up (hex) (by omega)) rfl rfl rfl rfl rfl rfl rfl rfl (ai_rcv1 rfl rfl (mcs_rcv hc26).choose_spec) (fun v27 s27 h27 f27 hc27 => ?_)
              | refine msm_callL hc26 (mim_up (hex) (by omega)) rfl rfl rfl rfl rfl rfl rfl rfl (ai_rcv1 rfl rfl (mcs_rcv hc26).choose_spec) (fun v27 s27 h27 f27 hc27 => ?_)
            show msm L xs e Y K _ qm_164 78 [some (.ref 14), some (.int 1)] [] h27 _ _ _
            try simp only [zq, zi, zc, zv, zf, zci_eq, zsi_eq, zsk_eq, zbd_zbd, zbd_some, zbd_fault, zbd_none, zite0, zite1, ↓reduceIte, Nat.one_ne_zero, Nat.reduceEqDiff]
            refine msm_pls (n := 1) (k' := 79) (lo' := [some (.ref 14), some (.int 1)]) (S' := [.int 1]) (h' := h27) rfl ?_
            exact msm_ret5 (v := 1) hc27 rfl rfl rfl (by decide)
          · simp only [zq, zi, zc, zv, zf, zci_eq, zsi_eq, zsk_eq, zbd_zbd, zbd_some, zbd_fault, zbd_none, zite0, zite1, ↓reduceIte, Nat.one_ne_zero, Nat.reduceEqDiff, t17, t23, zcp_no t17, zcp_no t23]
            exact msm_threw hc16 (mim_up (mi_word (d := d) (k := 38) ht (by decide) (by decide)) (by omega)) (zcp_no t23) rfl rfl rfl rfl rfl rfl rfl rfl (ai_rcv1 rfl rfl (mcs_rcv hc16).choose_spec)
      · skip
        try simp only [zq, zi, zc, zv, zf, zci_eq, zsi_eq, zsk_eq, zbd_zbd, zbd_some, zbd_fault, zbd_none, zite0, zite1, ↓reduceIte, Nat.one_ne_zero, Nat.reduceEqDiff, t7, t10, t15]
        refine msm_left hc14 (mim_up (mi_takes (d := d) (k := 40) ht (by decide) (by decide)) (by omega)) t15 rfl rfl rfl rfl rfl rfl rfl rfl (ai_rcv1 rfl rfl (mcs_rcv hc14).choose_spec) (fun h28 hc28 => ?_)
        show msm L xs e Y K _ qm_164 34 [some (.ref 14), some (.int 1)] [.int 0] h28 _ _ _
        refine msm_if true rfl (rfl) rfl ?_
        refine msm_pls (n := 2) (k' := 51) (lo' := [some (.ref 14), some (.int 1)]) (S' := [.retAddr 1048, .ref 14]) (h' := h28) rfl ?_
        by_cases t29 : ztk e s.1 = 33
        · skip
          try simp only [zq, zi, zc, zv, zf, zci_eq, zsi_eq, zsk_eq, zbd_zbd, zbd_some, zbd_fault, zbd_none, zite0, zite1, ↓reduceIte, Nat.one_ne_zero, Nat.reduceEqDiff, t7, t10, t15, t29]
          refine msm_ask (by have hh := m_isWord (L := L) (xs := xs) (d := d) ht hc28 (k := 33) (by decide); rw [if_pos t29] at hh; exact qe_up (by omega) hh) rfl rfl rfl rfl rfl rfl rfl (ai_rcv1 rfl rfl (mcs_rcv hc28).choose_spec) ?_
          show msm L xs e Y K _ qm_164 52 [some (.ref 14), some (.int 1)] [.int 1] h28 _ _ _
          refine msm_if false rfl (rfl) rfl ?_
          refine msm_pls (n := 2) (k' := 55) (lo' := [some (.ref 14), some (.int 1)]) (S' := [.ref 14, .ref 14]) (h' := h28) rfl ?_
          obtain ⟨J30, bg30, en30, md30, hz30⟩ := id hc28
          have road30 : ∀ (dd : Nat) o, qg L xs dd qm_164 59 [some (.ref 14), some (.int 1)] [] (h28.1.set 14 (mobj K.2.2.2.1 (s.1 + 1) J30.length s.2.1 s.2.2.1 bg30 en30 md30 P.length), h28.2) o → qg L xs dd qm_164 55 [some (.ref 14), some (.int 1)] [.ref 14, .ref 14] h28 o := by
            intro dd o hg
            refine qg_getf (v := .int (nI s.1)) rfl (mcs0_ob hz30) rfl rfl rfl ?_
            refine qg_pls (n := 2) (k' := 58) (lo' := [some (.ref 14), some (.int 1)]) (S' := [.int ((nI s.1) + 1), .ref 14]) (h' := h28) rfl ?_
            rw [show nI s.1 + 1 = nI (s.1 + 1) from nI_1 _]
            refine qg_putf rfl (mcs0_ob hz30) rfl rfl (Nat.le_of_ble_eq_true rfl) rfl ?_
            exact hg
          refine msm_nxt ht hz30 (kk := 33) (by decide) (by decide) t29 (road30 _) (fun s30 h30 hc30 => ?_)
          show msm L xs e Y K _ qm_164 59 [some (.ref 14), some (.int 1)] [] h30 _ _ _
          try simp only [zq, zi, zc, zv, zf, zci_eq, zsi_eq, zsk_eq, zbd_zbd, zbd_some, zbd_fault, zbd_none, zite0, zite1, ↓reduceIte, Nat.one_ne_zero, Nat.reduceEqDiff]
          refine msm_pls (n := 2) (k' := 61) (lo' := [some (.ref 14), some (.int 1)]) (S' := [.retAddr 1053, .ref 14]) (h' := h30) rfl ?_
          first
            | refine msm_call hc30 (mim_up (mi_word (d := d) (k := 38) ht (by decide) (by decide)) (by omega)) rfl rfl rfl rfl rfl rfl rfl rfl (ai_rcv1 rfl rfl (mcs_rcv hc30).choose_spec) (fun v31 s31 h31 f31 hc31 => ?_)
            | refine msm_callL hc30 (mim_up (mi_word (d := d) (k := 38) ht (by decide) (by decide)) (by omega)) rfl rfl rfl rfl rfl rfl rfl rfl (ai_rcv1 rfl rfl (mcs_rcv hc30).choose_spec) (fun v31 s31 h31 f31 hc31 => ?_)
          show msm L xs e Y K _ qm_164 62 [some (.ref 14), some (.int 1)] [] h31 _ _ _
          try simp only [zq, zi, zc, zv, zf, zci_eq, zsi_eq, zsk_eq, zbd_zbd, zbd_some, zbd_fault, zbd_none, zite0, zite1, ↓reduceIte, Nat.one_ne_zero, Nat.reduceEqDiff]
          refine msm_pls (n := 2) (k' := 70) (lo' := [some (.ref 14), some (.int 1)]) (S' := [.ref 14]) (h' := h31) rfl ?_
          first
            | refine msm_call hc31 (mim_up (ms_source (d := d) ht) (by omega)) rfl rfl rfl rfl rfl rfl rfl rfl (ai_rcv1 rfl rfl (mcs_rcv hc31).choose_spec) (fun v32 s32 h32 f32 hc32 => ?_)
            | refine msm_callL hc31 (mim_up (ms_source (d := d) ht) (by omega)) rfl rfl rfl rfl rfl rfl rfl rfl (ai_rcv1 rfl rfl (mcs_rcv hc31).choose_spec) (fun v32 s32 h32 f32 hc32 => ?_)
          show msm L xs e Y K _ qm_164 71 [some (.ref 14), some (.int 1)] [] h32 _ _ _
          try simp only [zq, zi, zc, zv, zf, zci_eq, zsi_eq, zsk_eq, zbd_zbd, zbd_some, zbd_fault, zbd_none, zite0, zite1, ↓reduceIte, Nat.one_ne_zero, Nat.reduceEqDiff]
          refine msm_pls (n := 1) (k' := 72) (lo' := [some (.ref 14), some (.int 1)]) (S' := [.int 1]) (h' := h32) rfl ?_
          refine msm_if false rfl (rfl) rfl ?_
          refine msm_pls (n := 2) (k' := 75) (lo' := [some (.ref 14), some (.int 1)]) (S' := [.retAddr 1068, .ref 14]) (h' := h32) rfl ?_
          first
            | refine msm_call hc32 (mim_up (mi_word (d := d) (k := 53) ht (by decide) (by decide)) (by omega)) rfl rfl rfl rfl rfl rfl rfl rfl (ai_rcv1 rfl rfl (mcs_rcv hc32).choose_spec) (fun v33 s33 h33 f33 hc33 => ?_)
            | refine msm_callL hc32 (mim_up (mi_word (d := d) (k := 53) ht (by decide) (by decide)) (by omega)) rfl rfl rfl rfl rfl rfl rfl rfl (ai_rcv1 rfl rfl (mcs_rcv hc32).choose_spec) (fun v33 s33 h33 f33 hc33 => ?_)
          show msm L xs e Y K _ qm_164 76 [some (.ref 14), some (.int 1)] [] h33 _ _ _
          try simp only [zq, zi, zc, zv, zf, zci_eq, zsi_eq, zsk_eq, zbd_zbd, zbd_some, zbd_fault, zbd_none, zite0, zite1, ↓reduceIte, Nat.one_ne_zero, Nat.reduceEqDiff]
          refine msm_pls (n := 1) (k' := 77) (lo' := [some (.ref 14), some (.int 1)]) (S' := [.ref 14]) (h' := h33) rfl ?_
          first
            | refine msm_call hc33 (mim_up (hex) (by omega)) rfl rfl rfl rfl rfl rfl rfl rfl (ai_rcv1 rfl rfl (mcs_rcv hc33).choose_spec) (fun v34 s34 h34 f34 hc34 => ?_)
            | refine msm_callL hc33 (mim_up (hex) (by omega)) rfl rfl rfl rfl rfl rfl rfl rfl (ai_rcv1 rfl rfl (mcs_rcv hc33).choose_spec) (fun v34 s34 h34 f34 hc34 => ?_)
          show msm L xs e Y K _ qm_164 78 [some (.ref 14), some (.int 1)] [] h34 _ _ _
          try simp only [zq, zi, zc, zv, zf, zci_eq, zsi_eq, zsk_eq, zbd_zbd, zbd_some, zbd_fault, zbd_none, zite0, zite1, ↓reduceIte, Nat.one_ne_zero, Nat.reduceEqDiff]
          refine msm_pls (n := 1) (k' := 79) (lo' := [some (.ref 14), some (.int 1)]) (S' := [.int 1]) (h' := h34) rfl ?_
          exact msm_ret5 (v := 1) hc34 rfl rfl rfl (by decide)
        · skip
          try simp only [zq, zi, zc, zv, zf, zci_eq, zsi_eq, zsk_eq, zbd_zbd, zbd_some, zbd_fault, zbd_none, zite0, zite1, ↓reduceIte, Nat.one_ne_zero, Nat.reduceEqDiff, t7, t10, t15, t29]
          refine msm_ask (by have hh := m_isWord (L := L) (xs := xs) (d := d) ht hc28 (k := 33) (by decide); rw [if_neg t29] at hh; exact qe_up (by omega) hh) rfl rfl rfl rfl rfl rfl rfl (ai_rcv1 rfl rfl (mcs_rcv hc28).choose_spec) ?_
          show msm L xs e Y K _ qm_164 52 [some (.ref 14), some (.int 1)] [.int 0] h28 _ _ _
          refine msm_if true rfl (rfl) rfl ?_
          refine msm_pls (n := 2) (k' := 65) (lo' := [some (.ref 14), some (.int 1)]) (S' := [.retAddr 1053, .ref 14]) (h' := h28) rfl ?_
          by_cases t35 : ztk e s.1 = 38
          · skip
            try simp only [zq, zi, zc, zv, zf, zci_eq, zsi_eq, zsk_eq, zbd_zbd, zbd_some, zbd_fault, zbd_none, zite0, zite1, ↓reduceIte, Nat.one_ne_zero, Nat.reduceEqDiff, t7, t10, t15, t29, t35]
            refine msm_took hc28 (mim_up (mi_takes (d := d) (k := 38) ht (by decide) (by decide)) (by omega)) t35 rfl rfl rfl rfl rfl rfl rfl rfl (ai_rcv1 rfl rfl (mcs_rcv hc28).choose_spec) (fun v36 s36 h36 f36 hc36 => ?_)
            show msm L xs e Y K _ qm_164 66 [some (.ref 14), some (.int 1)] [.int 1] h36 _ _ _
            try simp only [zq, zi, zc, zv, zf, zci_eq, zsi_eq, zsk_eq, zbd_zbd, zbd_some, zbd_fault, zbd_none, zite0, zite1, ↓reduceIte, Nat.one_ne_zero, Nat.reduceEqDiff]
            refine msm_if true rfl (rfl) rfl ?_
            refine msm_pls (n := 1) (k' := 70) (lo' := [some (.ref 14), some (.int 1)]) (S' := [.ref 14]) (h' := h36) rfl ?_
            first
              | refine msm_call hc36 (mim_up (ms_source (d := d) ht) (by omega)) rfl rfl rfl rfl rfl rfl rfl rfl (ai_rcv1 rfl rfl (mcs_rcv hc36).choose_spec) (fun v37 s37 h37 f37 hc37 => ?_)
              | refine msm_callL hc36 (mim_up (ms_source (d := d) ht) (by omega)) rfl rfl rfl rfl rfl rfl rfl rfl (ai_rcv1 rfl rfl (mcs_rcv hc36).choose_spec) (fun v37 s37 h37 f37 hc37 => ?_)
            show msm L xs e Y K _ qm_164 71 [some (.ref 14), some (.int 1)] [] h37 _ _ _
            try simp only [zq, zi, zc, zv, zf, zci_eq, zsi_eq, zsk_eq, zbd_zbd, zbd_some, zbd_fault, zbd_none, zite0, zite1, ↓reduceIte, Nat.one_ne_zero, Nat.reduceEqDiff]
            refine msm_pls (n := 1) (k' := 72) (lo' := [some (.ref 14), some (.int 1)]) (S' := [.int 1]) (h' := h37) rfl ?_
            refine msm_if false rfl (rfl) rfl ?_
            refine msm_pls (n := 2) (k' := 75) (lo' := [some (.ref 14), some (.int 1)]) (S' := [.retAddr 1068, .ref 14]) (h' := h37) rfl ?_
            first
              | refine msm_call hc37 (mim_up (mi_word (d := d) (k := 53) ht (by decide) (by decide)) (by omega)) rfl rfl rfl rfl rfl rfl rfl rfl (ai_rcv1 rfl rfl (mcs_rcv hc37).choose_spec) (fun v38 s38 h38 f38 hc38 => ?_)
              | refine msm_callL hc37 (mim_up (mi_word (d := d) (k := 53) ht (by decide) (by decide)) (by omega)) rfl rfl rfl rfl rfl rfl rfl rfl (ai_rcv1 rfl rfl (mcs_rcv hc37).choose_spec) (fun v38 s38 h38 f38 hc38 => ?_)
            show msm L xs e Y K _ qm_164 76 [some (.ref 14), some (.int 1)] [] h38 _ _ _
            try simp only [zq, zi, zc, zv, zf, zci_eq, zsi_eq, zsk_eq, zbd_zbd, zbd_some, zbd_fault, zbd_none, zite0, zite1, ↓reduceIte, Nat.one_ne_zero, Nat.reduceEqDiff]
            refine msm_pls (n := 1) (k' := 77) (lo' := [some (.ref 14), some (.int 1)]) (S' := [.ref 14]) (h' := h38) rfl ?_
            first
              | refine msm_call hc38 (mim_up (hex) (by omega)) rfl rfl rfl rfl rfl rfl rfl rfl (ai_rcv1 rfl rfl (mcs_rcv hc38).choose_spec) (fun v39 s39 h39 f39 hc39 => ?_)
              | refine msm_callL hc38 (mim_up (hex) (by omega)) rfl rfl rfl rfl rfl rfl rfl rfl (ai_rcv1 rfl rfl (mcs_rcv hc38).choose_spec) (fun v39 s39 h39 f39 hc39 => ?_)
            show msm L xs e Y K _ qm_164 78 [some (.ref 14), some (.int 1)] [] h39 _ _ _
            try simp only [zq, zi, zc, zv, zf, zci_eq, zsi_eq, zsk_eq, zbd_zbd, zbd_some, zbd_fault, zbd_none, zite0, zite1, ↓reduceIte, Nat.one_ne_zero, Nat.reduceEqDiff]
            refine msm_pls (n := 1) (k' := 79) (lo' := [some (.ref 14), some (.int 1)]) (S' := [.int 1]) (h' := h39) rfl ?_
            exact msm_ret5 (v := 1) hc39 rfl rfl rfl (by decide)
          · skip
            try simp only [zq, zi, zc, zv, zf, zci_eq, zsi_eq, zsk_eq, zbd_zbd, zbd_some, zbd_fault, zbd_none, zite0, zite1, ↓reduceIte, Nat.one_ne_zero, Nat.reduceEqDiff, t7, t10, t15, t29, t35]
            refine msm_left hc28 (mim_up (mi_takes (d := d) (k := 38) ht (by decide) (by decide)) (by omega)) t35 rfl rfl rfl rfl rfl rfl rfl rfl (ai_rcv1 rfl rfl (mcs_rcv hc28).choose_spec) (fun h40 hc40 => ?_)
            show msm L xs e Y K _ qm_164 66 [some (.ref 14), some (.int 1)] [.int 0] h40 _ _ _
            refine msm_if false rfl (rfl) rfl ?_
            refine msm_pls (n := 1) (k' := 68) (lo' := [some (.ref 14), some (.int 1)]) (S' := [.int 0]) (h' := h40) rfl ?_
            exact msm_ret5 (v := 0) hc40 rfl rfl rfl (by decide)
end MQU
