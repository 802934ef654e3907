/-! THE MODEL: OPTIONS OF A COLUMN. (Printed by wip/whole/pp.py from wip/whole/src.) -/
section MOP
variable {L : Nat} {xs : Nat → Int32} {d : Nat} {h h' : ai_H} {e : zE} {Y : Nat → Option ai_C} {K : mK} {W P : zK} {s s' : zS} {ex qy : zP}
/-- the token at which the model stands is kept, whichever it is -/
theorem m_keepx (ht : mtk e Y) (hc : mcs e Y K P s h) (hk : ztk e s.1 < 102) : ∃ h', qe L xs (d + 1) 136 [.ref 14] h (.inl none, h') ∧ mcs e Y K P (s.1 + 1, s.2.1, s.2.2.1, s.2.2.2.1, s.2.2.2.2 ++ zit e s.1 ++ [32]) h' := by
  obtain ⟨J, bg, en, md, hc0⟩ := hc
  obtain ⟨n1, n2, n3⟩ := mtk_next ht hk
  obtain ⟨h', g1, g2⟩ := m_keep (L := L) (xs := xs) (d := d) ht hc0 hk (c' := K.1) (g' := K.2.1) (by omega) (by omega)
  exact ⟨h', g1, _, _, _, _, g2⟩
theorem zit_s (t : ztk e s.1 = 101) : zit e s.1 = zsl e s.1 := by
  unfold zit
  rw [t, if_neg (by decide), if_neg (by decide), if_neg (by decide)]
theorem zit_n (t : ztk e s.1 = 100) : zit e s.1 = znz (zsl e s.1) := by
  unfold zit
  rw [t, if_neg (by decide), if_neg (by decide), if_pos rfl]
/-- a number or a string -/
theorem m_lit {G : Nat → zS → zR Nat} (ht : mtk e Y) (hc : mcs e Y K P s h) (hs : ∀ s1 h1, mcs e Y K P s1 h1 → msm L xs e Y K (d + 10) qm_174 81 [some (.ref 14)] [] h1 1 P (G 0 s1)) : msm L xs e Y K (d + 10) qm_174 40 [some (.ref 14)] [] h 1 P (zbd (if ztk e s.1 = 101 then zst e s else znu e s) G) := by
  have hp := mcs_prot hc
  have hb := mcs_bd hc
  obtain ⟨kept, bg, en, md, hob⟩ := mcs_obj hc
  obtain ⟨fk, t7, t9, t10⟩ := mtk_so ht
  have hlt := mtk_lt ht s.1
  have hzc := zcode_cases hlt
  have go : ∀ s1, ztk e s.1 < 102 → s1 = (s.1 + 1, s.2.1, s.2.2.1, s.2.2.2.1, s.2.2.2.2 ++ zit e s.1 ++ [32]) → msm L xs e Y K (d + 10) qm_174 58 [some (.ref 14)] [.int 1, .ref 14] h 1 P (G 0 s1) := by
    intro s1 h102 e1 v s' hr
    obtain ⟨h1, g1, g2⟩ := m_keepx (L := L) (xs := xs) (d := d + 9) ht hc h102
    rw [← e1] at g2
    obtain ⟨h2, g3, g4⟩ := hs s1 h1 g2 v s' hr
    refine ⟨h2, ?_, g4⟩
    refine qg_call (v := none) (h' := h) (as := [.ref 14, .int 1]) rfl rfl rfl rfl rfl rfl rfl (ai_rcv1 rfl rfl hob) (m_need1 (d := d + 9)) ?_
    show qg L xs _ qm_174 59 [some (.ref 14)] [] h _
    refine qg_pls (n := 1) (k' := 60) (lo' := [some (.ref 14)]) (S' := [.ref 14]) (h' := h) rfl ?_
    refine qg_call (v := none) (h' := h1) (as := [.ref 14]) rfl rfl rfl rfl rfl rfl rfl (ai_rcv1 rfl rfl hob) (g1) ?_
    show qg L xs _ qm_174 61 [some (.ref 14)] [] h1 _
    refine qg_pls (n := 1) (k' := 81) (lo' := [some (.ref 14)]) (S' := []) (h' := h1) rfl ?_
    exact g3
  have road : ∀ o, qg L xs (d + 10) qm_174 47 [some (.ref 14)] [.int 3, .int (nI (zcode (ztk e s.1))), .ref 14] h o → qg L xs (d + 10) qm_174 40 [some (.ref 14)] [] h o := by
    intro o hg
    refine qg_pls (n := 2) (k' := 42) (lo' := [some (.ref 14)]) (S' := [.ref 14, .ref 14]) (h' := h) rfl ?_
    refine qg_getf (v := .ref 19) rfl hob rfl rfl rfl ?_
    refine qg_pls (n := 1) (k' := 44) (lo' := [some (.ref 14)]) (S' := [.ref 14, .ref 19, .ref 14]) (h' := h) rfl ?_
    refine qg_getf (v := .int (nI s.1)) rfl hob rfl rfl rfl ?_
    refine qg_ald rfl (fun _ _ _ => rfl) (hp _ _ t7) (by omega) (by decide) ?_
    rw [t9 _ hb.1]
    refine qg_pls (n := 1) (k' := 47) (lo' := [some (.ref 14)]) (S' := [.int 3, .int (nI (zcode (ztk e s.1))), .ref 14]) (h' := h) rfl ?_
    exact hg
  have road2 : ¬ zcode (ztk e s.1) = 3 → ∀ o, qg L xs (d + 10) qm_174 54 [some (.ref 14)] [.int 4, .int (nI (zcode (ztk e s.1))), .ref 14] h o → qg L xs (d + 10) qm_174 40 [some (.ref 14)] [] h o := by
    intro h3 o hg
    refine road o ?_
    refine qg_icmp false rfl (qc_eqF (b := 3) h3 (by omega) (by decide)) rfl ?_
    refine qg_pls (n := 1) (k' := 49) (lo' := [some (.ref 14)]) (S' := [.ref 14, .ref 14]) (h' := h) rfl ?_
    refine qg_getf (v := .ref 19) rfl hob rfl rfl rfl ?_
    refine qg_pls (n := 1) (k' := 51) (lo' := [some (.ref 14)]) (S' := [.ref 14, .ref 19, .ref 14]) (h' := h) rfl ?_
    refine qg_getf (v := .int (nI s.1)) rfl hob rfl rfl rfl ?_
    refine qg_ald rfl (fun _ _ _ => rfl) (hp _ _ t7) (by omega) (by decide) ?_
    rw [t9 _ hb.1]
    refine qg_pls (n := 1) (k' := 54) (lo' := [some (.ref 14)]) (S' := [.int 4, .int (nI (zcode (ztk e s.1))), .ref 14]) (h' := h) rfl ?_
    exact hg
  intro v s' hr
  by_cases ts : ztk e s.1 = 101
  · rw [if_pos ts] at hr
    rcases zbd_inv hr with ⟨h1, -⟩ | ⟨a, s1, h1, h2⟩
    · obtain ⟨q, -⟩ := zkp_inv ts (by decide) h1; cases q
    · obtain ⟨q, e1⟩ := zkp_inv ts (by decide) h1
      cases q
      obtain ⟨h3, g3, g4⟩ := go s1 (by omega) (by rw [e1, zit_s ts]) v s' h2
      refine ⟨h3, road2 (by omega) _ ?_, g4⟩
      refine qg_icmp false rfl (qc_neF (b := 4) (by omega)) rfl ?_
      refine qg_pls (n := 2) (k' := 58) (lo' := [some (.ref 14)]) (S' := [.int 1, .ref 14]) (h' := h) rfl ?_
      exact g3
  · rw [if_neg ts] at hr
    by_cases tn : ztk e s.1 = 100
    · unfold znu zc at hr
      rw [if_pos tn] at hr
      rcases zbd_inv hr with ⟨h1, -⟩ | ⟨a, s1, h1, h2⟩
      · obtain ⟨q, -⟩ := zkp_inv tn (by decide) h1; cases q
      · obtain ⟨q, e1⟩ := zkp_inv tn (by decide) h1
        cases q
        obtain ⟨h3, g3, g4⟩ := go s1 (by omega) (by rw [e1, zit_n tn]) v s' h2
        refine ⟨h3, road _ ?_, g4⟩
        refine qg_icmp true rfl (qc_eqT (b := 3) (by omega)) rfl ?_
        refine qg_pls (n := 2) (k' := 58) (lo' := [some (.ref 14)]) (S' := [.int 1, .ref 14]) (h' := h) rfl ?_
        exact g3
    · rw [znu_no tn] at hr
      cases hr
      refine ⟨_, road2 (by omega) _ ?_, mcs_bad hc⟩
      refine qg_icmp true rfl (qc_neT (b := 4) (by omega) (by omega) (by decide)) rfl ?_
      refine qg_pls (n := 1) (k' := 58) (lo' := [some (.ref 14)]) (S' := [.int 0, .ref 14]) (h' := h) rfl ?_
      exact qg_callT rfl rfl rfl rfl rfl rfl rfl (ai_rcv1 rfl rfl hob) rfl (m_need0 (d := d + 9))
/-- REFERENCES and what follows -/
theorem m_refpath {G : Nat → zS → zR Nat} (ht : mtk e Y) (hc : mcs e Y K P s h) (t : ztk e s.1 = 61) (hs : ∀ v s1 h1, mcs e Y K P s1 h1 → msm L xs e Y K (d + 10) qm_174 81 [some (.ref 14)] [] h1 1 P (G v s1)) : msm L xs e Y K (d + 10) qm_174 69 [some (.ref 14)] [] h 1 P (zbd (zcp e 61 s) fun _ s => zbd (z_refer e s) G) := by
  obtain ⟨h1, g1, hc1⟩ := m_takesG (L := L) (xs := xs) (d := d + 2) ht hc (k := 61) (by decide) (by decide) t
  intro v s' hr
  rcases zbd_inv hr with ⟨h2, -⟩ | ⟨a, s1, h2, hr⟩
  · unfold zcp zc at h2
    rw [if_pos t] at h2
    obtain ⟨q, -⟩ := zkp_inv t (by decide) h2; cases q
  unfold zcp zc at h2
  rw [if_pos t] at h2
  obtain ⟨-, e1⟩ := zkp_inv t (by decide) h2
  rw [← e1] at hc1
  rw [z_refer_eq] at hr
  unfold zq at hr
  rw [zbd_zbd] at hr
  have road : ∀ o, qg L xs (d + 10) qm_174 75 [some (.ref 14)] [.int 2, .ref 14] h1 o → qg L xs (d + 10) qm_174 69 [some (.ref 14)] [] h o := by
    intro o hg
    refine qg_pls (n := 2) (k' := 71) (lo' := [some (.ref 14)]) (S' := [.retAddr 1076, .ref 14]) (h' := h) rfl ?_
    refine qg_call (v := some (.int 1)) (h' := h1) (as := [.ref 14, .retAddr 1076]) rfl rfl rfl rfl rfl rfl rfl (ai_rcv1 rfl rfl ((mcs_rcv hc).choose_spec)) (g1) ?_
    show qg L xs _ qm_174 72 [some (.ref 14)] [.int 1] h1 _
    refine qg_if false rfl (rfl) rfl ?_
    refine qg_pls (n := 2) (k' := 75) (lo' := [some (.ref 14)]) (S' := [.int 2, .ref 14]) (h' := h1) rfl ?_
    exact hg
  rcases zbd_inv hr with ⟨h3, rfl⟩ | ⟨a3, s3, h3, hr⟩
  · obtain ⟨h4, g4, hb4⟩ := mi_name (L := L) (xs := xs) (d := d + 8) (K := (K.1, K.2.1 + 3, K.2.2)) ht P s1 h1 _ _ hc1 h3
    refine ⟨h4, road _ ?_, hb4⟩
    exact qg_callT rfl rfl rfl rfl rfl rfl rfl (ai_rcv1 rfl rfl ((mcs_rcv hc1).choose_spec)) rfl (g4)
  · obtain ⟨h4, g4, hc4⟩ := mi_name (L := L) (xs := xs) (d := d + 8) (K := (K.1, K.2.1 + 3, K.2.2)) ht P s1 h1 _ _ hc1 h3
    have hc4 : mcs e Y (K.1, K.2.1 + 3, K.2.2) P s3 h4 := hc4
    have road2 : ∀ o, qg L xs (d + 10) qm_174 77 [some (.ref 14)] [.ref 14] h4 o → qg L xs (d + 10) qm_174 69 [some (.ref 14)] [] h o := by
      intro o hg
      refine road o ?_
      refine qg_call (v := none) (h' := h4) (as := [.ref 14, .int 2]) rfl rfl rfl rfl rfl rfl rfl (ai_rcv1 rfl rfl ((mcs_rcv hc1).choose_spec)) (g4) ?_
      show qg L xs _ qm_174 76 [some (.ref 14)] [] h4 _
      refine qg_pls (n := 1) (k' := 77) (lo' := [some (.ref 14)]) (S' := [.ref 14]) (h' := h4) rfl ?_
      exact hg
    rcases zbd_inv hr with ⟨h5, rfl⟩ | ⟨a5, s5, h5, hr⟩
    · obtain ⟨h6, g6, hb6⟩ := ms_refs (L := L) (xs := xs) (d := d + 1) ht hc4 h5
      refine ⟨h6, road2 _ ?_, hb6⟩
      exact qg_callT rfl rfl rfl rfl rfl rfl rfl (ai_rcv1 rfl rfl ((mcs_rcv hc4).choose_spec)) rfl (g6)
    · obtain ⟨h6, g6, hc6⟩ := ms_refs (L := L) (xs := xs) (d := d + 1) ht hc4 h5
      obtain ⟨h7, g7, g8⟩ := hs a5 s5 h6 hc6 v s' hr
      refine ⟨h7, road2 _ ?_, g8⟩
      refine qg_call (v := none) (h' := h6) (as := [.ref 14]) rfl rfl rfl rfl rfl rfl rfl (ai_rcv1 rfl rfl ((mcs_rcv hc4).choose_spec)) (g6) ?_
      show qg L xs _ qm_174 78 [some (.ref 14)] [] h6 _
      refine qg_pls (n := 1) (k' := 81) (lo' := [some (.ref 14)]) (S' := []) (h' := h6) rfl ?_
      exact g7
theorem ms_option (ht : mtk e Y) (hex : mim L xs e Y K d 140 [.ref 14] 0 ex) : mim L xs e Y K (d + 11) 174 [.ref 14] 1 (z_option e ex) := by
  refine mim_of (M := qm_174) rfl rfl (fun P s h hc => ?_)
  show msm L xs e Y K _ qm_174 0 [some (.ref 14)] [] h _ _ _
  simp only [z_option, z_preset, zq, zi, zc, zv, zf, zci_eq, zsi_eq, zsk_eq, zbd_zbd, zbd_some, zbd_fault, zbd_none, zite0, zite1, ↓reduceIte, Nat.one_ne_zero, Nat.reduceEqDiff]
  refine msm_pls (n := 2) (k' := 2) (lo' := [some (.ref 14)]) (S' := [.retAddr 1064, .ref 14]) (h' := h) rfl ?_
  by_cases t1 : ztk e s.1 = 49
  · skip
    try simp only [zq, zi, zc, zv, zf, zci_eq, zsi_eq, zsk_eq, zbd_zbd, zbd_some, zbd_fault, zbd_none, zite0, zite1, ↓reduceIte, Nat.one_ne_zero, Nat.reduceEqDiff, t1]
    refine msm_took hc (mim_up (mi_takes (d := d) (k := 49) ht (by decide) (by decide)) (by omega)) t1 rfl rfl rfl rfl rfl rfl rfl rfl (ai_rcv1 rfl rfl (mcs_rcv hc).choose_spec) (fun v2 s2 h2 f2 hc2 => ?_)
    show msm L xs e Y K _ qm_174 3 [some (.ref 14)] [.int 1] h2 _ _ _
    try simp only [zq, zi, zc, zv, zf, zci_eq, zsi_eq, zsk_eq, zbd_zbd, zbd_some, zbd_fault, zbd_none, zite0, zite1, ↓reduceIte, Nat.one_ne_zero, Nat.reduceEqDiff]
    refine msm_if false rfl (rfl) rfl ?_
    refine msm_pls (n := 2) (k' := 6) (lo' := [some (.ref 14)]) (S' := [.retAddr 1065, .ref 14]) (h' := h2) rfl ?_
    first
      | refine msm_call hc2 (mim_up (mi_word (d := d) (k := 50) ht (by decide) (by decide)) (by omega)) rfl rfl rfl rfl rfl rfl rfl rfl (ai_rcv1 rfl rfl (mcs_rcv hc2).choose_spec) (fun v3 s3 h3 f3 hc3 => ?_)
      | refine msm_callL hc2 (mim_up (mi_word (d := d) (k := 50) ht (by decide) (by decide)) (by omega)) rfl rfl rfl rfl rfl rfl rfl rfl (ai_rcv1 rfl rfl (mcs_rcv hc2).choose_spec) (fun v3 s3 h3 f3 hc3 => ?_)
    show msm L xs e Y K _ qm_174 7 [some (.ref 14)] [] h3 _ _ _
    try simp only [zq, zi, zc, zv, zf, zci_eq, zsi_eq, zsk_eq, zbd_zbd, zbd_some, zbd_fault, zbd_none, zite0, zite1, ↓reduceIte, Nat.one_ne_zero, Nat.reduceEqDiff]
    refine msm_pls (n := 2) (k' := 82) (lo' := [some (.ref 14)]) (S' := [.int 1]) (h' := h3) rfl ?_
    exact msm_ret5 (v := 1) hc3 rfl rfl rfl (by decide)
  · skip
    try simp only [zq, zi, zc, zv, zf, zci_eq, zsi_eq, zsk_eq, zbd_zbd, zbd_some, zbd_fault, zbd_none, zite0, zite1, ↓reduceIte, Nat.one_ne_zero, Nat.reduceEqDiff, t1]
    refine msm_left hc (mim_up (mi_takes (d := d) (k := 49) ht (by decide) (by decide)) (by omega)) t1 rfl rfl rfl rfl rfl rfl rfl rfl (ai_rcv1 rfl rfl (mcs_rcv hc).choose_spec) (fun h4 hc4 => ?_)
    show msm L xs e Y K _ qm_174 3 [some (.ref 14)] [.int 0] h4 _ _ _
    refine msm_if true rfl (rfl) rfl ?_
    refine msm_pls (n := 2) (k' := 10) (lo' := [some (.ref 14)]) (S' := [.retAddr 1074, .ref 14]) (h' := h4) rfl ?_
    by_cases t5 : ztk e s.1 = 59
    · skip
      try simp only [zq, zi, zc, zv, zf, zci_eq, zsi_eq, zsk_eq, zbd_zbd, zbd_some, zbd_fault, zbd_none, zite0, zite1, ↓reduceIte, Nat.one_ne_zero, Nat.reduceEqDiff, t1, t5]
      refine msm_took hc4 (mim_up (mi_takes (d := d) (k := 59) ht (by decide) (by decide)) (by omega)) t5 rfl rfl rfl rfl rfl rfl rfl rfl (ai_rcv1 rfl rfl (mcs_rcv hc4).choose_spec) (fun v6 s6 h6 f6 hc6 => ?_)
      show msm L xs e Y K _ qm_174 11 [some (.ref 14)] [.int 1] h6 _ _ _
      try simp only [zq, zi, zc, zv, zf, zci_eq, zsi_eq, zsk_eq, zbd_zbd, zbd_some, zbd_fault, zbd_none, zite0, zite1, ↓reduceIte, Nat.one_ne_zero, Nat.reduceEqDiff]
      refine msm_if false rfl (rfl) rfl ?_
      refine msm_pls (n := 2) (k' := 14) (lo' := [some (.ref 14)]) (S' := [.retAddr 1054, .ref 14]) (h' := h6) rfl ?_
      first
        | refine msm_call hc6 (mim_up (mi_word (d := d) (k := 39) ht (by decide) (by decide)) (by omega)) rfl rfl rfl rfl rfl rfl rfl rfl (ai_rcv1 rfl rfl (mcs_rcv hc6).choose_spec) (fun v7 s7 h7 f7 hc7 => ?_)
        | refine msm_callL hc6 (mim_up (mi_word (d := d) (k := 39) ht (by decide) (by decide)) (by omega)) rfl rfl rfl rfl rfl rfl rfl rfl (ai_rcv1 rfl rfl (mcs_rcv hc6).choose_spec) (fun v7 s7 h7 f7 hc7 => ?_)
      show msm L xs e Y K _ qm_174 15 [some (.ref 14)] [] h7 _ _ _
      try simp only [zq, zi, zc, zv, zf, zci_eq, zsi_eq, zsk_eq, zbd_zbd, zbd_some, zbd_fault, zbd_none, zite0, zite1, ↓reduceIte, Nat.one_ne_zero, Nat.reduceEqDiff]
      refine msm_pls (n := 2) (k' := 82) (lo' := [some (.ref 14)]) (S' := [.int 1]) (h' := h7) rfl ?_
      exact msm_ret5 (v := 1) hc7 rfl rfl rfl (by decide)
    · skip
      try simp only [zq, zi, zc, zv, zf, zci_eq, zsi_eq, zsk_eq, zbd_zbd, zbd_some, zbd_fault, zbd_none, zite0, zite1, ↓reduceIte, Nat.one_ne_zero, Nat.reduceEqDiff, t1, t5]
      refine msm_left hc4 (mim_up (mi_takes (d := d) (k := 59) ht (by decide) (by decide)) (by omega)) t5 rfl rfl rfl rfl rfl rfl rfl rfl (ai_rcv1 rfl rfl (mcs_rcv hc4).choose_spec) (fun h8 hc8 => ?_)
      show msm L xs e Y K _ qm_174 11 [some (.ref 14)] [.int 0] h8 _ _ _
      refine msm_if true rfl (rfl) rfl ?_
      refine msm_pls (n := 2) (k' := 18) (lo' := [some (.ref 14)]) (S' := [.retAddr 1090, .ref 14]) (h' := h8) rfl ?_
      by_cases t9 : ztk e s.1 = 76
      · skip
        try simp only [zq, zi, zc, zv, zf, zci_eq, zsi_eq, zsk_eq, zbd_zbd, zbd_some, zbd_fault, zbd_none, zite0, zite1, ↓reduceIte, Nat.one_ne_zero, Nat.reduceEqDiff, t1, t5, t9]
        refine msm_took hc8 (mim_up (mi_takes (d := d) (k := 76) ht (by decide) (by decide)) (by omega)) t9 rfl rfl rfl rfl rfl rfl rfl rfl (ai_rcv1 rfl rfl (mcs_rcv hc8).choose_spec) (fun v10 s10 h10 f10 hc10 => ?_)
        show msm L xs e Y K _ qm_174 19 [some (.ref 14)] [.int 1] h10 _ _ _
        try simp only [zq, zi, zc, zv, zf, zci_eq, zsi_eq, zsk_eq, zbd_zbd, zbd_some, zbd_fault, zbd_none, zite0, zite1, ↓reduceIte, Nat.one_ne_zero, Nat.reduceEqDiff]
        refine msm_if false rfl (rfl) rfl ?_
        refine msm_pls (n := 1) (k' := 21) (lo' := [some (.ref 14)]) (S' := [.int 1]) (h' := h10) rfl ?_
        exact msm_ret5 (v := 1) hc10 rfl rfl rfl (by decide)
      · skip
        try simp only [zq, zi, zc, zv, zf, zci_eq, zsi_eq, zsk_eq, zbd_zbd, zbd_some, zbd_fault, zbd_none, zite0, zite1, ↓reduceIte, Nat.one_ne_zero, Nat.reduceEqDiff, t1, t5, t9]
        refine msm_left hc8 (mim_up (mi_takes (d := d) (k := 76) ht (by decide) (by decide)) (by omega)) t9 rfl rfl rfl rfl rfl rfl rfl rfl (ai_rcv1 rfl rfl (mcs_rcv hc8).choose_spec) (fun h11 hc11 => ?_)
        show msm L xs e Y K _ qm_174 19 [some (.ref 14)] [.int 0] h11 _ _ _
        refine msm_if true rfl (rfl) rfl ?_
        refine msm_pls (n := 2) (k' := 24) (lo' := [some (.ref 14)]) (S' := [.retAddr 1034, .ref 14]) (h' := h11) rfl ?_
        by_cases t12 : ztk e s.1 = 19
        · skip
          try simp only [zq, zi, zc, zv, zf, zci_eq, zsi_eq, zsk_eq, zbd_zbd, zbd_some, zbd_fault, zbd_none, zite0, zite1, ↓reduceIte, Nat.one_ne_zero, Nat.reduceEqDiff, t1, t5, t9, t12]
          refine msm_took hc11 (mim_up (mi_takes (d := d) (k := 19) ht (by decide) (by decide)) (by omega)) t12 rfl rfl rfl rfl rfl rfl rfl rfl (ai_rcv1 rfl rfl (mcs_rcv hc11).choose_spec) (fun v13 s13 h13 f13 hc13 => ?_)
          show msm L xs e Y K _ qm_174 25 [some (.ref 14)] [.int 1] h13 _ _ _
          try simp only [zq, zi, zc, zv, zf, zci_eq, zsi_eq, zsk_eq, zbd_zbd, zbd_some, zbd_fault, zbd_none, zite0, zite1, ↓reduceIte, Nat.one_ne_zero, Nat.reduceEqDiff]
          refine msm_if false rfl (rfl) rfl ?_
          refine msm_pls (n := 2) (k' := 28) (lo' := [some (.ref 14)]) (S' := [.retAddr 1097, .ref 14]) (h' := h13) rfl ?_
          by_cases t14 : ztk e s13.1 = 88
          · skip
            try simp only [zq, zi, zc, zv, zf, zci_eq, zsi_eq, zsk_eq, zbd_zbd, zbd_some, zbd_fault, zbd_none, zite0, zite1, ↓reduceIte, Nat.one_ne_zero, Nat.reduceEqDiff, t14]
            refine msm_ask (by have hh := m_isMark (L := L) (xs := xs) (d := d) ht hc13 (k := 88) (by decide); rw [if_pos t14] at hh; exact qe_up (by omega) hh) rfl rfl rfl rfl rfl rfl rfl (ai_rcv1 rfl rfl (mcs_rcv hc13).choose_spec) ?_
            show msm L xs e Y K _ qm_174 29 [some (.ref 14)] [.int 1] h13 _ _ _
            refine msm_if false rfl (rfl) rfl ?_
            refine msm_pls (n := 1) (k' := 31) (lo' := [some (.ref 14)]) (S' := [.ref 14]) (h' := h13) rfl ?_
            first
              | refine msm_keep ht hc13 (kk := 88) (by decide) (by decide) t14 rfl rfl rfl rfl rfl rfl rfl rfl (ai_rcv1 rfl rfl (mcs_rcv hc13).choose_spec) (fun s15 h15 hc15 => ?_)
            show msm L xs e Y K _ qm_174 32 [some (.ref 14)] [] h15 _ _ _
            try simp only [zq, zi, zc, zv, zf, zci_eq, zsi_eq, zsk_eq, zbd_zbd, zbd_some, zbd_fault, zbd_none, zite0, zite1, ↓reduceIte, Nat.one_ne_zero, Nat.reduceEqDiff]
            refine msm_pls (n := 2) (k' := 34) (lo' := [some (.ref 14)]) (S' := [.int 3, .ref 14]) (h' := h15) rfl ?_
            first
              | refine msm_call hc15 (mim_up (mi_number (d := d) ht) (by omega)) rfl rfl rfl rfl rfl rfl rfl rfl (ai_rcv1 rfl rfl (mcs_rcv hc15).choose_spec) (fun v16 s16 h16 f16 hc16 => ?_)
              | refine msm_callL hc15 (mim_up (mi_number (d := d) ht) (by omega)) rfl rfl rfl rfl rfl rfl rfl rfl (ai_rcv1 rfl rfl (mcs_rcv hc15).choose_spec) (fun v16 s16 h16 f16 hc16 => ?_)
            show msm L xs e Y K _ qm_174 35 [some (.ref 14)] [] h16 _ _ _
            try simp only [zq, zi, zc, zv, zf, zci_eq, zsi_eq, zsk_eq, zbd_zbd, zbd_some, zbd_fault, zbd_none, zite0, zite1, ↓reduceIte, Nat.one_ne_zero, Nat.reduceEqDiff]
            refine msm_pls (n := 2) (k' := 82) (lo' := [some (.ref 14)]) (S' := [.int 1]) (h' := h16) rfl ?_
            exact msm_ret5 (v := 1) hc16 rfl rfl rfl (by decide)
          · skip
            try simp only [zq, zi, zc, zv, zf, zci_eq, zsi_eq, zsk_eq, zbd_zbd, zbd_some, zbd_fault, zbd_none, zite0, zite1, ↓reduceIte, Nat.one_ne_zero, Nat.reduceEqDiff, t14]
            refine msm_ask (by have hh := m_isMark (L := L) (xs := xs) (d := d) ht hc13 (k := 88) (by decide); rw [if_neg t14] at hh; exact qe_up (by omega) hh) rfl rfl rfl rfl rfl rfl rfl (ai_rcv1 rfl rfl (mcs_rcv hc13).choose_spec) ?_
            show msm L xs e Y K _ qm_174 29 [some (.ref 14)] [.int 0] h13 _ _ _
            refine msm_if true rfl (rfl) rfl ?_
            refine msm_pls (n := 2) (k' := 38) (lo' := [some (.ref 14)]) (S' := [.retAddr 1065, .ref 14]) (h' := h13) rfl ?_
            by_cases t17 : ztk e s13.1 = 50
            · skip
              try simp only [zq, zi, zc, zv, zf, zci_eq, zsi_eq, zsk_eq, zbd_zbd, zbd_some, zbd_fault, zbd_none, zite0, zite1, ↓reduceIte, Nat.one_ne_zero, Nat.reduceEqDiff, t14, t17]
              refine msm_took hc13 (mim_up (mi_takes (d := d) (k := 50) ht (by decide) (by decide)) (by omega)) t17 rfl rfl rfl rfl rfl rfl rfl rfl (ai_rcv1 rfl rfl (mcs_rcv hc13).choose_spec) (fun v18 s18 h18 f18 hc18 => ?_)
              show msm L xs e Y K _ qm_174 39 [some (.ref 14)] [.int 1] h18 _ _ _
              try simp only [zq, zi, zc, zv, zf, zci_eq, zsi_eq, zsk_eq, zbd_zbd, zbd_some, zbd_fault, zbd_none, zite0, zite1, ↓reduceIte, Nat.one_ne_zero, Nat.reduceEqDiff]
              refine msm_if true rfl (rfl) rfl ?_
              refine msm_pls (n := 1) (k' := 82) (lo' := [some (.ref 14)]) (S' := [.int 1]) (h' := h18) rfl ?_
              exact msm_ret5 (v := 1) hc18 rfl rfl rfl (by decide)
            · skip
              try simp only [zq, zi, zc, zv, zf, zci_eq, zsi_eq, zsk_eq, zbd_zbd, zbd_some, zbd_fault, zbd_none, zite0, zite1, ↓reduceIte, Nat.one_ne_zero, Nat.reduceEqDiff, t14, t17]
              refine msm_left hc13 (mim_up (mi_takes (d := d) (k := 50) ht (by decide) (by decide)) (by omega)) t17 rfl rfl rfl rfl rfl rfl rfl rfl (ai_rcv1 rfl rfl (mcs_rcv hc13).choose_spec) (fun h19 hc19 => ?_)
              show msm L xs e Y K _ qm_174 39 [some (.ref 14)] [.int 0] h19 _ _ _
              refine msm_if false rfl (rfl) rfl ?_
              show msm L xs e Y K _ qm_174 40 [some (.ref 14)] [] h19 _ _ _
              try simp only [zq, zi, zc, zv, zf, zci_eq, zsi_eq, zsk_eq, zbd_zbd, zbd_some, zbd_fault, zbd_none, zite0, zite1, ↓reduceIte, Nat.one_ne_zero, Nat.reduceEqDiff, t14, t17]
              refine m_lit ht hc19 (fun s20 h20 hc20 => ?_)
              show msm L xs e Y K _ qm_174 81 [some (.ref 14)] [] h20 _ _ _
              try simp only [zq, zi, zc, zv, zf, zci_eq, zsi_eq, zsk_eq, zbd_zbd, zbd_some, zbd_fault, zbd_none, zite0, zite1, ↓reduceIte, Nat.one_ne_zero, Nat.reduceEqDiff]
              refine msm_pls (n := 1) (k' := 82) (lo' := [some (.ref 14)]) (S' := [.int 1]) (h' := h20) rfl ?_
              exact msm_ret5 (v := 1) hc20 rfl rfl rfl (by decide)
        · skip
          try simp only [zq, zi, zc, zv, zf, zci_eq, zsi_eq, zsk_eq, zbd_zbd, zbd_some, zbd_fault, zbd_none, zite0, zite1, ↓reduceIte, Nat.one_ne_zero, Nat.reduceEqDiff, t1, t5, t9, t12]
          refine msm_left hc11 (mim_up (mi_takes (d := d) (k := 19) ht (by decide) (by decide)) (by omega)) t12 rfl rfl rfl rfl rfl rfl rfl rfl (ai_rcv1 rfl rfl (mcs_rcv hc11).choose_spec) (fun h21 hc21 => ?_)
          show msm L xs e Y K _ qm_174 25 [some (.ref 14)] [.int 0] h21 _ _ _
          refine msm_if true rfl (rfl) rfl ?_
          refine msm_pls (n := 2) (k' := 64) (lo' := [some (.ref 14)]) (S' := [.retAddr 1027, .ref 14]) (h' := h21) rfl ?_
          by_cases t22 : ztk e s.1 = 12
          · skip
            try simp only [zq, zi, zc, zv, zf, zci_eq, zsi_eq, zsk_eq, zbd_zbd, zbd_some, zbd_fault, zbd_none, zite0, zite1, ↓reduceIte, Nat.one_ne_zero, Nat.reduceEqDiff, t1, t5, t9, t12, t22]
            refine msm_took hc21 (mim_up (mi_takes (d := d) (k := 12) ht (by decide) (by decide)) (by omega)) t22 rfl rfl rfl rfl rfl rfl rfl rfl (ai_rcv1 rfl rfl (mcs_rcv hc21).choose_spec) (fun v23 s23 h23 f23 hc23 => ?_)
            show msm L xs e Y K _ qm_174 65 [some (.ref 14)] [.int 1] h23 _ _ _
            try simp only [zq, zi, zc, zv, zf, zci_eq, zsi_eq, zsk_eq, zbd_zbd, zbd_some, zbd_fault, zbd_none, zite0, zite1, ↓reduceIte, Nat.one_ne_zero, Nat.reduceEqDiff]
            refine msm_if false rfl (rfl) rfl ?_
            refine msm_pls (n := 1) (k' := 67) (lo' := [some (.ref 14)]) (S' := [.ref 14]) (h' := h23) rfl ?_
            first
              | refine msm_call hc23 (mim_up (ms_check (d := d) ht hex) (by omega)) rfl rfl rfl rfl rfl rfl rfl rfl (ai_rcv1 rfl rfl (mcs_rcv hc23).choose_spec) (fun v24 s24 h24 f24 hc24 => ?_)
              | refine msm_callL hc23 (mim_up (ms_check (d := d) ht hex) (by omega)) rfl rfl rfl rfl rfl rfl rfl rfl (ai_rcv1 rfl rfl (mcs_rcv hc23).choose_spec) (fun v24 s24 h24 f24 hc24 => ?_)
            show msm L xs e Y K _ qm_174 68 [some (.ref 14)] [] h24 _ _ _
            try simp only [zq, zi, zc, zv, zf, zci_eq, zsi_eq, zsk_eq, zbd_zbd, zbd_some, zbd_fault, zbd_none, zite0, zite1, ↓reduceIte, Nat.one_ne_zero, Nat.reduceEqDiff]
            refine msm_pls (n := 2) (k' := 82) (lo' := [some (.ref 14)]) (S' := [.int 1]) (h' := h24) rfl ?_
            exact msm_ret5 (v := 1) hc24 rfl rfl rfl (by decide)
          · skip
            try simp only [zq, zi, zc, zv, zf, zci_eq, zsi_eq, zsk_eq, zbd_zbd, zbd_some, zbd_fault, zbd_none, zite0, zite1, ↓reduceIte, Nat.one_ne_zero, Nat.reduceEqDiff, t1, t5, t9, t12, t22]
            refine msm_left hc21 (mim_up (mi_takes (d := d) (k := 12) ht (by decide) (by decide)) (by omega)) t22 rfl rfl rfl rfl rfl rfl rfl rfl (ai_rcv1 rfl rfl (mcs_rcv hc21).choose_spec) (fun h25 hc25 => ?_)
            show msm L xs e Y K _ qm_174 65 [some (.ref 14)] [.int 0] h25 _ _ _
            refine msm_if true rfl (rfl) rfl ?_
            show msm L xs e Y K _ qm_174 69 [some (.ref 14)] [] h25 _ _ _
            by_cases t26 : ztk e s.1 = 61
            · (simp only [zq, zi, zc, zv, zf, zci_eq, zsi_eq, zsk_eq, zbd_zbd, zbd_some, zbd_fault, zbd_none, zite0, zite1, ↓reduceIte, Nat.one_ne_zero, Nat.reduceEqDiff, t1, t5, t9, t12, t22, t26]; exact m_refpath ht hc25 t26 (fun v s1 h1 hc1 => msm_pls (n := 1) (k' := 82) (lo' := [some (.ref 14)]) (S' := [.int 1]) (h' := h1) rfl (msm_ret5 (v := 1) hc1 rfl rfl rfl (by decide))))
            try simp only [zq, zi, zc, zv, zf, zci_eq, zsi_eq, zsk_eq, zbd_zbd, zbd_some, zbd_fault, zbd_none, zite0, zite1, ↓reduceIte, Nat.one_ne_zero, Nat.reduceEqDiff, t1, t5, t9, t12, t22, t26]
            refine msm_pls (n := 2) (k' := 71) (lo' := [some (.ref 14)]) (S' := [.retAddr 1076, .ref 14]) (h' := h25) rfl ?_
            refine msm_left hc25 (mim_up (mi_takes (d := d) (k := 61) ht (by decide) (by decide)) (by omega)) t26 rfl rfl rfl rfl rfl rfl rfl rfl (ai_rcv1 rfl rfl (mcs_rcv hc25).choose_spec) (fun h27 hc27 => ?_)
            show msm L xs e Y K _ qm_174 72 [some (.ref 14)] [.int 0] h27 _ _ _
            refine msm_if true rfl (rfl) rfl ?_
            refine msm_pls (n := 1) (k' := 80) (lo' := [some (.ref 14)]) (S' := [.int 0]) (h' := h27) rfl ?_
            exact msm_ret5 (v := 0) hc27 rfl rfl rfl (by decide)
end MOP
