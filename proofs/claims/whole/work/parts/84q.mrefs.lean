/-! THE MODEL: WORDS THAT ARE PUT FOR OTHERS. (Printed by wip/whole/pp.py from wip/whole/src.) -/
section MRE
variable {L : Nat} {xs : Nat → Int32} {d : Nat} {h h' : ai_H} {e : zE} {Y : Nat → Option ai_C} {K : mK} {W P : zK} {s s' : zS} {ex qy : zP}
theorem mcs_weak {g' : Nat} (hg : K.2.1 ≤ g') (hc : mcs e Y (K.1, g', K.2.2) P s h) : mcs e Y K P s h := by
  obtain ⟨J, bg, en, md, rf, bf, wr, wf, c1, c2, c3, c4, c5, c6, c7, c8, cu, c9, c10, c11, c12, c13, c14⟩ := hc
  refine ⟨J, bg, en, md, rf, bf, wr, wf, c1, c2, c3, c4, c5, c6, c7, c8, cu, c9, ⟨?_, c10.2.1, c10.2.2⟩, c11, c12, c13, c14⟩
  have := c10.1
  have : J.length + g' ≤ 2 * zfr e s.1 := this
  omega
/-- takes, of a word that is there: the room for items grows -/
theorem m_takesG (ht : mtk e Y) (hc : mcs e Y K P s h) {k : Nat} (hk : k < 82) (hl : 2 ≤ (zw k).length) (t : ztk e s.1 = k) : ∃ h', qe L xs (d + 8) 137 [.ref 14, .retAddr (qr_en.getD k (0, 0)).1] h (.inl (some (.int 1)), h') ∧ mcs e Y (K.1, K.2.1 + 3, K.2.2) P (s.1 + 1, s.2.1, s.2.2.1, s.2.2.2.1, s.2.2.2.2 ++ zw k ++ [32]) h' := by
  have his := m_isWord (L := L) (xs := xs) (d := d) ht hc (k := k) (by omega)
  rw [if_pos t] at his
  obtain ⟨J, bg, en, md, hc0⟩ := hc
  have hob := mcs0_ob hc0
  obtain ⟨n1, n2, n3⟩ := mtk_next ht (show ztk e s.1 < 102 by omega)
  have hlen : zto e s.1 - zfr e s.1 = (zw k).length := by
    obtain ⟨gw, ft, f1, fk, fz, t1, t2, t3, t4, t5, t6, t7, t8, t9, t10, t11⟩ := ht
    have := zen_lw (t := e.2) (i := s.1) (by rw [← t11]; omega)
    rw [← t11, t] at this
    exact this
  obtain ⟨h', g1, g2⟩ := m_keep (L := L) (xs := xs) (d := d + 6) ht hc0 (by omega) (c' := K.1) (g' := K.2.1 + 3) (by omega) (by omega)
  rw [zit_w t (by omega)] at g2
  refine ⟨h', ?_, _, _, _, _, g2⟩
  refine qe_of (M := qm_137) rfl rfl ?_
  show qg L xs _ qm_137 0 [some (.ref 14), some (.retAddr (qr_en.getD k (0, 0)).1), none] [] h _
  refine qg_pls (n := 2) (k' := 2) (lo' := [some (.ref 14), some (.retAddr (qr_en.getD k (0, 0)).1), none]) (S' := [.retAddr (qr_en.getD k (0, 0)).1, .ref 14]) (h' := h) rfl ?_
  refine qg_call (v := some (.int 1)) (h' := h) (as := [.ref 14, .retAddr (qr_en.getD k (0, 0)).1]) rfl rfl rfl rfl rfl rfl rfl (ai_rcv1 rfl rfl hob) (his) ?_
  show qg L xs _ qm_137 3 [some (.ref 14), some (.retAddr (qr_en.getD k (0, 0)).1), none] [.int 1] h _
  refine qg_pls (n := 2) (k' := 5) (lo' := [some (.ref 14), some (.retAddr (qr_en.getD k (0, 0)).1), some (.int 1)]) (S' := [.int 1]) (h' := h) rfl ?_
  refine qg_if false rfl (rfl) rfl ?_
  refine qg_pls (n := 1) (k' := 7) (lo' := [some (.ref 14), some (.retAddr (qr_en.getD k (0, 0)).1), some (.int 1)]) (S' := [.ref 14]) (h' := h) rfl ?_
  refine qg_call (v := none) (h' := h') (as := [.ref 14]) rfl rfl rfl rfl rfl rfl rfl (ai_rcv1 rfl rfl hob) (g1) ?_
  show qg L xs _ qm_137 8 [some (.ref 14), some (.retAddr (qr_en.getD k (0, 0)).1), some (.int 1)] [] h' _
  refine qg_pls (n := 1) (k' := 9) (lo' := [some (.ref 14), some (.retAddr (qr_en.getD k (0, 0)).1), some (.int 1)]) (S' := [.int 1]) (h' := h') rfl ?_
  exact qg_ret5 rfl rfl rfl
def zd_refer (e : zE) : zP := zi (zci e 53) (zq (zcp e 20) (zi (zci e 67) (zcp e 50) (zi (zci e 9) (zv 0) (zcp e 62)))) (zput (zt 1009))
theorem z_refer_eq : z_refer e = zq (znm e) (zd_refer e) := rfl
/-- QueryReaderModel.references -/
theorem ms_refs (ht : mtk e Y) {v : Option Nat} (hc : mcs e Y (K.1, K.2.1 + 3, K.2.2) P s h) (hf : zd_refer e s = some (v, s')) : ∃ h', qe L xs (d + 9) 175 [.ref 14] h (qout 0 v, h') ∧ mpost e Y K P v s' h' := by
  by_cases t : ztk e s.1 = 53
  · have hcw := mcs_weak (by omega) hc
    have key : msm L xs e Y K (d + 8) qm_175 0 [some (.ref 14)] [] h 0 P (zd_refer e s) := by
      simp only [zd_refer, zq, zi, zc, zv, zf, zci_eq, t, zbd_zbd, zbd_some, zbd_fault, zbd_none, ↓reduceIte, Nat.one_ne_zero]
      refine msm_pls (n := 2) (k' := 2) (lo' := [some (.ref 14)]) (S' := [.retAddr 1068, .ref 14]) (h' := h) rfl ?_
      refine msm_took hcw (mim_up (mi_takes (d := d) (k := 53) ht (by decide) (by decide)) (by omega)) t rfl rfl rfl rfl rfl rfl rfl rfl (ai_rcv1 rfl rfl (mcs_rcv hcw).choose_spec) (fun v1 s1 h1 f1 hc1 => ?_)
      show msm L xs e Y K _ qm_175 3 [some (.ref 14)] [.int 1] h1 _ _ _
      try simp only [zq, zi, zc, zv, zf, zci_eq, zsi_eq, zsk_eq, zbd_zbd, zbd_some, zbd_fault, zbd_none, zite0, zite1, ↓reduceIte, Nat.one_ne_zero, Nat.reduceEqDiff]
      refine msm_if true rfl (rfl) rfl ?_
      refine msm_pls (n := 2) (k' := 16) (lo' := [some (.ref 14)]) (S' := [.retAddr 1035, .ref 14]) (h' := h1) rfl ?_
      first
        | refine msm_call hc1 (mim_up (mi_word (d := d) (k := 20) ht (by decide) (by decide)) (by omega)) rfl rfl rfl rfl rfl rfl rfl rfl (ai_rcv1 rfl rfl (mcs_rcv hc1).choose_spec) (fun v2 s2 h2 f2 hc2 => ?_)
        | refine msm_callL hc1 (mim_up (mi_word (d := d) (k := 20) ht (by decide) (by decide)) (by omega)) rfl rfl rfl rfl rfl rfl rfl rfl (ai_rcv1 rfl rfl (mcs_rcv hc1).choose_spec) (fun v2 s2 h2 f2 hc2 => ?_)
      show msm L xs e Y K _ qm_175 17 [some (.ref 14)] [] h2 _ _ _
      try simp only [zq, zi, zc, zv, zf, zci_eq, zsi_eq, zsk_eq, zbd_zbd, zbd_some, zbd_fault, zbd_none, zite0, zite1, ↓reduceIte, Nat.one_ne_zero, Nat.reduceEqDiff]
      refine msm_pls (n := 2) (k' := 19) (lo' := [some (.ref 14)]) (S' := [.retAddr 1081, .ref 14]) (h' := h2) rfl ?_
      by_cases t3 : ztk e s2.1 = 67
      · skip
        try simp only [zq, zi, zc, zv, zf, zci_eq, zsi_eq, zsk_eq, zbd_zbd, zbd_some, zbd_fault, zbd_none, zite0, zite1, ↓reduceIte, Nat.one_ne_zero, Nat.reduceEqDiff, t3]
        refine msm_took hc2 (mim_up (mi_takes (d := d) (k := 67) ht (by decide) (by decide)) (by omega)) t3 rfl rfl rfl rfl rfl rfl rfl rfl (ai_rcv1 rfl rfl (mcs_rcv hc2).choose_spec) (fun v4 s4 h4 f4 hc4 => ?_)
        show msm L xs e Y K _ qm_175 20 [some (.ref 14)] [.int 1] h4 _ _ _
        try simp only [zq, zi, zc, zv, zf, zci_eq, zsi_eq, zsk_eq, zbd_zbd, zbd_some, zbd_fault, zbd_none, zite0, zite1, ↓reduceIte, Nat.one_ne_zero, Nat.reduceEqDiff]
        refine msm_if false rfl (rfl) rfl ?_
        refine msm_pls (n := 2) (k' := 23) (lo' := [some (.ref 14)]) (S' := [.retAddr 1065, .ref 14]) (h' := h4) rfl ?_
        first
          | refine msm_call hc4 (mim_up (mi_word (d := d) (k := 50) ht (by decide) (by decide)) (by omega)) rfl rfl rfl rfl rfl rfl rfl rfl (ai_rcv1 rfl rfl (mcs_rcv hc4).choose_spec) (fun v5 s5 h5 f5 hc5 => ?_)
          | refine msm_callL hc4 (mim_up (mi_word (d := d) (k := 50) ht (by decide) (by decide)) (by omega)) rfl rfl rfl rfl rfl rfl rfl rfl (ai_rcv1 rfl rfl (mcs_rcv hc4).choose_spec) (fun v5 s5 h5 f5 hc5 => ?_)
        show msm L xs e Y K _ qm_175 24 [some (.ref 14)] [] h5 _ _ _
        try simp only [zq, zi, zc, zv, zf, zci_eq, zsi_eq, zsk_eq, zbd_zbd, zbd_some, zbd_fault, zbd_none, zite0, zite1, ↓reduceIte, Nat.one_ne_zero, Nat.reduceEqDiff]
        refine msm_pls (n := 1) (k' := 32) (lo' := [some (.ref 14)]) (S' := []) (h' := h5) rfl ?_
        exact msm_ret7 hc5 rfl
      · skip
        try simp only [zq, zi, zc, zv, zf, zci_eq, zsi_eq, zsk_eq, zbd_zbd, zbd_some, zbd_fault, zbd_none, zite0, zite1, ↓reduceIte, Nat.one_ne_zero, Nat.reduceEqDiff, t3]
        refine msm_left hc2 (mim_up (mi_takes (d := d) (k := 67) ht (by decide) (by decide)) (by omega)) t3 rfl rfl rfl rfl rfl rfl rfl rfl (ai_rcv1 rfl rfl (mcs_rcv hc2).choose_spec) (fun h6 hc6 => ?_)
        show msm L xs e Y K _ qm_175 20 [some (.ref 14)] [.int 0] h6 _ _ _
        refine msm_if true rfl (rfl) rfl ?_
        refine msm_pls (n := 2) (k' := 27) (lo' := [some (.ref 14)]) (S' := [.retAddr 1024, .ref 14]) (h' := h6) rfl ?_
        by_cases t7 : ztk e s2.1 = 9
        · skip
          try simp only [zq, zi, zc, zv, zf, zci_eq, zsi_eq, zsk_eq, zbd_zbd, zbd_some, zbd_fault, zbd_none, zite0, zite1, ↓reduceIte, Nat.one_ne_zero, Nat.reduceEqDiff, t3, t7]
          refine msm_took hc6 (mim_up (mi_takes (d := d) (k := 9) ht (by decide) (by decide)) (by omega)) t7 rfl rfl rfl rfl rfl rfl rfl rfl (ai_rcv1 rfl rfl (mcs_rcv hc6).choose_spec) (fun v8 s8 h8 f8 hc8 => ?_)
          show msm L xs e Y K _ qm_175 28 [some (.ref 14)] [.int 1] h8 _ _ _
          try simp only [zq, zi, zc, zv, zf, zci_eq, zsi_eq, zsk_eq, zbd_zbd, zbd_some, zbd_fault, zbd_none, zite0, zite1, ↓reduceIte, Nat.one_ne_zero, Nat.reduceEqDiff]
          refine msm_if true rfl (rfl) rfl ?_
          exact msm_ret7 hc8 rfl
        · skip
          try simp only [zq, zi, zc, zv, zf, zci_eq, zsi_eq, zsk_eq, zbd_zbd, zbd_some, zbd_fault, zbd_none, zite0, zite1, ↓reduceIte, Nat.one_ne_zero, Nat.reduceEqDiff, t3, t7]
          refine msm_left hc6 (mim_up (mi_takes (d := d) (k := 9) ht (by decide) (by decide)) (by omega)) t7 rfl rfl rfl rfl rfl rfl rfl rfl (ai_rcv1 rfl rfl (mcs_rcv hc6).choose_spec) (fun h9 hc9 => ?_)
          show msm L xs e Y K _ qm_175 28 [some (.ref 14)] [.int 0] h9 _ _ _
          refine msm_if false rfl (rfl) rfl ?_
          refine msm_pls (n := 2) (k' := 31) (lo' := [some (.ref 14)]) (S' := [.retAddr 1077, .ref 14]) (h' := h9) rfl ?_
          by_cases t10 : ztk e s2.1 = 62
          · skip
            try simp only [zq, zi, zc, zv, zf, zci_eq, zsi_eq, zsk_eq, zbd_zbd, zbd_some, zbd_fault, zbd_none, zite0, zite1, ↓reduceIte, Nat.one_ne_zero, Nat.reduceEqDiff, t3, t7, t10]
            first
              | refine msm_call hc9 (mim_up (mi_word (d := d) (k := 62) ht (by decide) (by decide)) (by omega)) rfl rfl rfl rfl rfl rfl rfl rfl (ai_rcv1 rfl rfl (mcs_rcv hc9).choose_spec) (fun v11 s11 h11 f11 hc11 => ?_)
              | refine msm_callL hc9 (mim_up (mi_word (d := d) (k := 62) ht (by decide) (by decide)) (by omega)) rfl rfl rfl rfl rfl rfl rfl rfl (ai_rcv1 rfl rfl (mcs_rcv hc9).choose_spec) (fun v11 s11 h11 f11 hc11 => ?_)
            show msm L xs e Y K _ qm_175 32 [some (.ref 14)] [] h11 _ _ _
            try simp only [zq, zi, zc, zv, zf, zci_eq, zsi_eq, zsk_eq, zbd_zbd, zbd_some, zbd_fault, zbd_none, zite0, zite1, ↓reduceIte, Nat.one_ne_zero, Nat.reduceEqDiff]
            exact msm_ret7 hc11 rfl
          · simp only [zq, zi, zc, zv, zf, zci_eq, zsi_eq, zsk_eq, zbd_zbd, zbd_some, zbd_fault, zbd_none, zite0, zite1, ↓reduceIte, Nat.one_ne_zero, Nat.reduceEqDiff, t3, t7, t10, zcp_no t3, zcp_no t7, zcp_no t10]
            exact msm_threw hc9 (mim_up (mi_word (d := d) (k := 62) ht (by decide) (by decide)) (by omega)) (zcp_no t10) rfl rfl rfl rfl rfl rfl rfl rfl (ai_rcv1 rfl rfl (mcs_rcv hc9).choose_spec)
    obtain ⟨h1, g1, g2⟩ := key v s' hf
    exact ⟨h1, qe_of (M := qm_175) rfl rfl g1, g2⟩
  · have hz : zd_refer e s = zput (zt 1009) s := by
      unfold zd_refer zi
      rw [zci_F t]; rfl
    rw [hz] at hf
    obtain ⟨-, rfl, e1⟩ := zput_inv hf
    obtain ⟨h1, g1, hc1⟩ := mi_takes (L := L) (xs := xs) (d := d) (K := (K.1, K.2.1 + 3, K.2.2)) (k := 53) ht (by decide) (by decide) P s h _ _ hc (zci_F t)
    obtain ⟨J, bg, en, md, hc1⟩ := hc1
    obtain ⟨h2, g2, hc2⟩ := m_put (L := L) (xs := xs) (d := d + 5) ht hc1 (k := 53) (by decide) (g' := K.2.1 + 2) (Nat.le_refl _)
    obtain ⟨h3, g3, hc3⟩ := m_put (L := L) (xs := xs) (d := d + 5) ht hc2 (k := 20) (by decide) (g' := K.2.1 + 1) (Nat.le_refl _)
    obtain ⟨h4, g4, hc4⟩ := m_put (L := L) (xs := xs) (d := d + 5) ht hc3 (k := 62) (by decide) (g' := K.2.1) (Nat.le_refl _)
    have hst : s' = (s.1, s.2.1, s.2.2.1, s.2.2.2.1, s.2.2.2.2 ++ zw 53 ++ [32] ++ zw 20 ++ [32] ++ zw 62 ++ [32]) := by
      rw [e1, zt_ondel]
      simp only [List.append_assoc]
    refine ⟨h4, ?_, by rw [hst]; exact ⟨_, _, _, _, hc4⟩⟩
    refine qe_of (M := qm_175) rfl rfl ?_
    show qg L xs _ qm_175 0 [some (.ref 14)] [] h _
    refine qg_pls (n := 2) (k' := 2) (lo' := [some (.ref 14)]) (S' := [.retAddr 1068, .ref 14]) (h' := h) rfl ?_
    refine qg_call (v := some (.int 0)) (h' := h1) (as := [.ref 14, .retAddr 1068]) rfl rfl rfl rfl rfl rfl rfl (ai_rcv1 rfl rfl ((mcs_rcv hc).choose_spec)) (g1) ?_
    show qg L xs _ qm_175 3 [some (.ref 14)] [.int 0] h1 _
    refine qg_if false rfl (rfl) rfl ?_
    refine qg_pls (n := 2) (k' := 6) (lo' := [some (.ref 14)]) (S' := [.retAddr 1068, .ref 14]) (h' := h1) rfl ?_
    refine qg_call (v := none) (h' := h2) (as := [.ref 14, .retAddr 1068]) rfl rfl rfl rfl rfl rfl rfl (ai_rcv1 rfl rfl (mcs0_ob hc1)) (g2) ?_
    show qg L xs _ qm_175 7 [some (.ref 14)] [] h2 _
    refine qg_pls (n := 2) (k' := 9) (lo' := [some (.ref 14)]) (S' := [.retAddr 1035, .ref 14]) (h' := h2) rfl ?_
    refine qg_call (v := none) (h' := h3) (as := [.ref 14, .retAddr 1035]) rfl rfl rfl rfl rfl rfl rfl (ai_rcv1 rfl rfl (mcs0_ob hc2)) (g3) ?_
    show qg L xs _ qm_175 10 [some (.ref 14)] [] h3 _
    refine qg_pls (n := 2) (k' := 12) (lo' := [some (.ref 14)]) (S' := [.retAddr 1077, .ref 14]) (h' := h3) rfl ?_
    refine qg_call (v := none) (h' := h4) (as := [.ref 14, .retAddr 1077]) rfl rfl rfl rfl rfl rfl rfl (ai_rcv1 rfl rfl (mcs0_ob hc3)) (g4) ?_
    show qg L xs _ qm_175 13 [some (.ref 14)] [] h4 _
    exact qg_ret7 rfl
end MRE
