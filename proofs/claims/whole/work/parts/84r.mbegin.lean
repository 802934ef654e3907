/-! THE MODEL: BEGIN. (Printed by wip/whole/pp.py from wip/whole/src.) -/
section MBE
variable {L : Nat} {xs : Nat → Int32} {d : Nat} {h h' : ai_H} {e : zE} {Y : Nat → Option ai_C} {K : mK} {W P : zK} {s s' : zS} {ex qy : zP}
def zd_begin (e : zE) : zP := zq (zi (zci e 60) (zi (zci e 15) (zv 0) (zcp e 75)) (zi (zci e 66) (zv 0) (zput (zt 1010)))) (zv 9)
theorem z_begin_eq : z_begin e = zq (zcp e 6) (zd_begin e) := rfl
/-- QueryReaderModel.begin -/
theorem ms_begin (ht : mtk e Y) {v : Option Nat} (hc : mcs e Y (K.1, K.2.1 + 3, K.2.2) P s h) (hf : zd_begin e s = some (v, s')) : ∃ h', qe L xs (d + 9) 180 [.ref 14] h (qout 1 v, h') ∧ mpost e Y K P v s' h' := by
  by_cases t : ztk e s.1 = 60
  · have hcw := mcs_weak (by omega) hc
    have key : msm L xs e Y K (d + 8) qm_180 0 [some (.ref 14)] [] h 1 P (zd_begin e s) := by
      simp only [zd_begin, zq, zi, zc, zv, zf, zci_eq, t, zbd_zbd, zbd_some, zbd_fault, zbd_none, ↓reduceIte, Nat.one_ne_zero]
      refine msm_pls (n := 2) (k' := 2) (lo' := [some (.ref 14)]) (S' := [.retAddr 1075, .ref 14]) (h' := h) rfl ?_
      refine msm_took hcw (mim_up (mi_takes (d := d) (k := 60) ht (by decide) (by decide)) (by omega)) t rfl rfl rfl rfl rfl rfl rfl rfl (ai_rcv1 rfl rfl (mcs_rcv hcw).choose_spec) (fun v1 s1 h1 f1 hc1 => ?_)
      show msm L xs e Y K _ qm_180 3 [some (.ref 14)] [.int 1] h1 _ _ _
      try simp only [zq, zi, zc, zv, zf, zci_eq, zsi_eq, zsk_eq, zbd_zbd, zbd_some, zbd_fault, zbd_none, zite0, zite1, ↓reduceIte, Nat.one_ne_zero, Nat.reduceEqDiff]
      refine msm_if false rfl (rfl) rfl ?_
      refine msm_pls (n := 2) (k' := 6) (lo' := [some (.ref 14)]) (S' := [.retAddr 1030, .ref 14]) (h' := h1) rfl ?_
      by_cases t2 : ztk e s1.1 = 15
      · skip
        try simp only [zq, zi, zc, zv, zf, zci_eq, zsi_eq, zsk_eq, zbd_zbd, zbd_some, zbd_fault, zbd_none, zite0, zite1, ↓reduceIte, Nat.one_ne_zero, Nat.reduceEqDiff, t2]
        refine msm_took hc1 (mim_up (mi_takes (d := d) (k := 15) ht (by decide) (by decide)) (by omega)) t2 rfl rfl rfl rfl rfl rfl rfl rfl (ai_rcv1 rfl rfl (mcs_rcv hc1).choose_spec) (fun v3 s3 h3 f3 hc3 => ?_)
        show msm L xs e Y K _ qm_180 7 [some (.ref 14)] [.int 1] h3 _ _ _
        try simp only [zq, zi, zc, zv, zf, zci_eq, zsi_eq, zsk_eq, zbd_zbd, zbd_some, zbd_fault, zbd_none, zite0, zite1, ↓reduceIte, Nat.one_ne_zero, Nat.reduceEqDiff]
        refine msm_if true rfl (rfl) rfl ?_
        refine msm_pls (n := 1) (k' := 20) (lo' := [some (.ref 14)]) (S' := [.int 9]) (h' := h3) rfl ?_
        exact msm_ret5 (v := 9) hc3 rfl rfl rfl (by decide)
      · skip
        try simp only [zq, zi, zc, zv, zf, zci_eq, zsi_eq, zsk_eq, zbd_zbd, zbd_some, zbd_fault, zbd_none, zite0, zite1, ↓reduceIte, Nat.one_ne_zero, Nat.reduceEqDiff, t2]
        refine msm_left hc1 (mim_up (mi_takes (d := d) (k := 15) ht (by decide) (by decide)) (by omega)) t2 rfl rfl rfl rfl rfl rfl rfl rfl (ai_rcv1 rfl rfl (mcs_rcv hc1).choose_spec) (fun h4 hc4 => ?_)
        show msm L xs e Y K _ qm_180 7 [some (.ref 14)] [.int 0] h4 _ _ _
        refine msm_if false rfl (rfl) rfl ?_
        refine msm_pls (n := 2) (k' := 10) (lo' := [some (.ref 14)]) (S' := [.retAddr 1089, .ref 14]) (h' := h4) rfl ?_
        by_cases t5 : ztk e s1.1 = 75
        · skip
          try simp only [zq, zi, zc, zv, zf, zci_eq, zsi_eq, zsk_eq, zbd_zbd, zbd_some, zbd_fault, zbd_none, zite0, zite1, ↓reduceIte, Nat.one_ne_zero, Nat.reduceEqDiff, t2, t5]
          first
            | refine msm_call hc4 (mim_up (mi_word (d := d) (k := 75) ht (by decide) (by decide)) (by omega)) rfl rfl rfl rfl rfl rfl rfl rfl (ai_rcv1 rfl rfl (mcs_rcv hc4).choose_spec) (fun v6 s6 h6 f6 hc6 => ?_)
            | refine msm_callL hc4 (mim_up (mi_word (d := d) (k := 75) ht (by decide) (by decide)) (by omega)) rfl rfl rfl rfl rfl rfl rfl rfl (ai_rcv1 rfl rfl (mcs_rcv hc4).choose_spec) (fun v6 s6 h6 f6 hc6 => ?_)
          show msm L xs e Y K _ qm_180 11 [some (.ref 14)] [] h6 _ _ _
          try simp only [zq, zi, zc, zv, zf, zci_eq, zsi_eq, zsk_eq, zbd_zbd, zbd_some, zbd_fault, zbd_none, zite0, zite1, ↓reduceIte, Nat.one_ne_zero, Nat.reduceEqDiff]
          refine msm_pls (n := 2) (k' := 20) (lo' := [some (.ref 14)]) (S' := [.int 9]) (h' := h6) rfl ?_
          exact msm_ret5 (v := 9) hc6 rfl rfl rfl (by decide)
        · simp only [zq, zi, zc, zv, zf, zci_eq, zsi_eq, zsk_eq, zbd_zbd, zbd_some, zbd_fault, zbd_none, zite0, zite1, ↓reduceIte, Nat.one_ne_zero, Nat.reduceEqDiff, t2, t5, zcp_no t2, zcp_no t5]
          exact msm_threw hc4 (mim_up (mi_word (d := d) (k := 75) ht (by decide) (by decide)) (by omega)) (zcp_no t5) rfl rfl rfl rfl rfl rfl rfl rfl (ai_rcv1 rfl rfl (mcs_rcv hc4).choose_spec)
    obtain ⟨h1, g1, g2⟩ := key v s' hf
    exact ⟨h1, qe_of (M := qm_180) rfl rfl g1, g2⟩
  by_cases t2 : ztk e s.1 = 66
  · have hcw := mcs_weak (by omega) hc
    have key : msm L xs e Y K (d + 8) qm_180 0 [some (.ref 14)] [] h 1 P (zd_begin e s) := by
      simp only [zd_begin, zq, zi, zc, zv, zf, zci_eq, t2, zbd_zbd, zbd_some, zbd_fault, zbd_none, ↓reduceIte, Nat.one_ne_zero, Nat.reduceEqDiff]
      refine msm_pls (n := 2) (k' := 2) (lo' := [some (.ref 14)]) (S' := [.retAddr 1075, .ref 14]) (h' := h) rfl ?_
      refine msm_left hcw (mim_up (mi_takes (d := d) (k := 60) ht (by decide) (by decide)) (by omega)) (show ¬ ztk e s.1 = 60 from fun q => absurd (t2.symm.trans q) (by decide)) rfl rfl rfl rfl rfl rfl rfl rfl (ai_rcv1 rfl rfl (mcs_rcv hcw).choose_spec) (fun h7 hc7 => ?_)
      show msm L xs e Y K _ qm_180 3 [some (.ref 14)] [.int 0] h7 _ _ _
      refine msm_if true rfl (rfl) rfl ?_
      refine msm_pls (n := 2) (k' := 14) (lo' := [some (.ref 14)]) (S' := [.retAddr 1010, .ref 14]) (h' := h7) rfl ?_
      refine msm_took hc7 (mim_up (mi_takes (d := d) (k := 66) ht (by decide) (by decide)) (by omega)) t2 rfl rfl rfl rfl rfl rfl rfl rfl (ai_rcv1 rfl rfl (mcs_rcv hc7).choose_spec) (fun v8 s8 h8 f8 hc8 => ?_)
      show msm L xs e Y K _ qm_180 15 [some (.ref 14)] [.int 1] h8 _ _ _
      try simp only [zq, zi, zc, zv, zf, zci_eq, zsi_eq, zsk_eq, zbd_zbd, zbd_some, zbd_fault, zbd_none, zite0, zite1, ↓reduceIte, Nat.one_ne_zero, Nat.reduceEqDiff]
      refine msm_if true rfl (rfl) rfl ?_
      refine msm_pls (n := 1) (k' := 20) (lo' := [some (.ref 14)]) (S' := [.int 9]) (h' := h8) rfl ?_
      exact msm_ret5 (v := 9) hc8 rfl rfl rfl (by decide)
    obtain ⟨h1, g1, g2⟩ := key v s' hf
    exact ⟨h1, qe_of (M := qm_180) rfl rfl g1, g2⟩
  · have hz : zd_begin e s = zbd (zput (zt 1010) s) fun _ s => some (some 9, s) := by
      unfold zd_begin zq zi
      simp only [zci_F t, zci_F t2, zbd_some, zite0, ↓reduceIte]
      rfl
    rw [hz] at hf
    rcases zbd_inv hf with ⟨hf1, -⟩ | ⟨a, s1, hf1, hf2⟩
    · obtain ⟨-, q, -⟩ := zput_inv hf1; cases q
    obtain ⟨-, -, e1⟩ := zput_inv hf1
    cases hf2
    obtain ⟨h1, g1, hc1⟩ := mi_takes (L := L) (xs := xs) (d := d) (K := (K.1, K.2.1 + 3, K.2.2)) (k := 60) ht (by decide) (by decide) P s h _ _ hc (zci_F t)
    have hc1 : mcs e Y (K.1, K.2.1 + 3, K.2.2) P s h1 := hc1
    obtain ⟨h2, g2, hc2⟩ := mi_takes (L := L) (xs := xs) (d := d) (K := (K.1, K.2.1 + 3, K.2.2)) (k := 66) ht (by decide) (by decide) P s h1 _ _ hc1 (zci_F t2)
    obtain ⟨J, bg, en, md, hc2⟩ := hc2
    obtain ⟨h3, g3, hc3⟩ := m_put (L := L) (xs := xs) (d := d + 5) ht hc2 (k := 66) (by decide) (g' := K.2.1) (by show K.2.1 + 1 ≤ K.2.1 + 3; omega)
    refine ⟨h3, ?_, by rw [e1]; exact ⟨_, _, _, _, hc3⟩⟩
    refine qe_of (M := qm_180) rfl rfl ?_
    show qg L xs _ qm_180 0 [some (.ref 14)] [] h _
    refine qg_pls (n := 2) (k' := 2) (lo' := [some (.ref 14)]) (S' := [.retAddr 1075, .ref 14]) (h' := h) rfl ?_
    refine qg_call (v := some (.int 0)) (h' := h1) (as := [.ref 14, .retAddr 1075]) rfl rfl rfl rfl rfl rfl rfl (ai_rcv1 rfl rfl ((mcs_rcv hc).choose_spec)) (g1) ?_
    show qg L xs _ qm_180 3 [some (.ref 14)] [.int 0] h1 _
    refine qg_if true rfl (rfl) rfl ?_
    refine qg_pls (n := 2) (k' := 14) (lo' := [some (.ref 14)]) (S' := [.retAddr 1010, .ref 14]) (h' := h1) rfl ?_
    refine qg_call (v := some (.int 0)) (h' := h2) (as := [.ref 14, .retAddr 1010]) rfl rfl rfl rfl rfl rfl rfl (ai_rcv1 rfl rfl ((mcs_rcv hc1).choose_spec)) (g2) ?_
    show qg L xs _ qm_180 15 [some (.ref 14)] [.int 0] h2 _
    refine qg_if false rfl (rfl) rfl ?_
    refine qg_pls (n := 2) (k' := 18) (lo' := [some (.ref 14)]) (S' := [.retAddr 1010, .ref 14]) (h' := h2) rfl ?_
    refine qg_call (v := none) (h' := h3) (as := [.ref 14, .retAddr 1010]) rfl rfl rfl rfl rfl rfl rfl (ai_rcv1 rfl rfl (mcs0_ob hc2)) (g3) ?_
    show qg L xs _ qm_180 19 [some (.ref 14)] [] h3 _
    refine qg_pls (n := 1) (k' := 20) (lo' := [some (.ref 14)]) (S' := [.int 9]) (h' := h3) rfl ?_
    exact qg_ret5 rfl rfl rfl
end MBE
