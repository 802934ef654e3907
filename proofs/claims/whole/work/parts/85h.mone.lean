/-! THE MODEL: A STATEMENT, THE WHOLE TEXT. (Printed by wip/whole/pp.py from wip/whole/src.) -/
section MON
variable {L : Nat} {xs : Nat → Int32} {d : Nat} {h h' : ai_H} {e : zE} {Y : Nat → Option ai_C} {K : mK} {W P : zK} {s s' : zS} {ex qy exq : zP}
/-- behind the first word there is room for a bracket -/
abbrev mfw (K : mK) : mK := (K.1 + 1, K.2)
/-- the first word is kept -/
theorem m_first1 (ht : mtk e Y) (hc : mcs e Y K P s h) {k : Nat} (hk : k < 82) (hl : 2 ≤ (zw k).length) (t : ztk e s.1 = k) : ∃ h', qe L xs (d + 1) 136 [.ref 14] h (.inl none, h') ∧ mcs e Y ((mfw K).1, (mfw K).2.1 + 3, (mfw K).2.2) P (s.1 + 1, s.2.1, s.2.2.1, s.2.2.2.1, s.2.2.2.2 ++ zw k ++ [32]) h' := by
  obtain ⟨J, bg, en, md, hc0⟩ := hc
  obtain ⟨n1, n2, n3⟩ := mtk_next ht (show ztk e s.1 < 102 by omega)
  have hlen : zto e s.1 - zfr e s.1 = (zw k).length := by
    obtain ⟨gw, ft, f1, fk, fz, t1, t2, t3, t4, t5, t6, t7, t8, t9, t10, t11⟩ := ht
    have := zen_lw (t := e.2) (i := s.1) (by rw [← t11]; omega)
    rw [← t11, t] at this
    exact this
  obtain ⟨h', g1, g2⟩ := m_keep (L := L) (xs := xs) (d := d) ht hc0 (by omega) (c' := K.1 + 1) (g' := K.2.1 + 3) (by omega) (by omega)
  rw [zit_w t (by omega)] at g2
  exact ⟨h', g1, _, _, _, _, g2⟩
theorem m_firstT (ht : mtk e Y) (hc : mcs e Y K P s h) {k : Nat} (hk : k < 82) (hl : 2 ≤ (zw k).length) (t : ztk e s.1 = k) : ∃ h', qe L xs (d + 8) 137 [.ref 14, .retAddr (qr_en.getD k (0, 0)).1] h (.inl (some (.int 1)), h') ∧ mcs e Y ((mfw K).1, (mfw K).2.1 + 3, (mfw K).2.2) P (s.1 + 1, s.2.1, s.2.2.1, s.2.2.2.1, s.2.2.2.2 ++ zw k ++ [32]) h' := by
  have his := m_isWord (L := L) (xs := xs) (d := d) ht hc (k := k) (by omega)
  rw [if_pos t] at his
  obtain ⟨h', g1, g2⟩ := m_first1 (L := L) (xs := xs) (d := d + 6) ht hc hk hl t
  refine ⟨h', ?_, g2⟩
  refine qe_of (M := qm_137) rfl rfl ?_
  show qg L xs _ qm_137 0 [some (.ref 14), some (.retAddr (qr_en.getD k (0, 0)).1), none] [] h _
  refine qg_pls (n := 2) (k' := 2) (lo' := [some (.ref 14), some (.retAddr (qr_en.getD k (0, 0)).1), none]) (S' := [.retAddr (qr_en.getD k (0, 0)).1, .ref 14]) (h' := h) rfl ?_
  refine qg_call (v := some (.int 1)) (h' := h) (as := [.ref 14, .retAddr (qr_en.getD k (0, 0)).1]) rfl rfl rfl rfl rfl rfl rfl (ai_rcv1 rfl rfl ((mcs_rcv hc).choose_spec)) (his) ?_
  show qg L xs _ qm_137 3 [some (.ref 14), some (.retAddr (qr_en.getD k (0, 0)).1), none] [.int 1] h _
  refine qg_pls (n := 2) (k' := 5) (lo' := [some (.ref 14), some (.retAddr (qr_en.getD k (0, 0)).1), some (.int 1)]) (S' := [.int 1]) (h' := h) rfl ?_
  refine qg_if false rfl (rfl) rfl ?_
  refine qg_pls (n := 1) (k' := 7) (lo' := [some (.ref 14), some (.retAddr (qr_en.getD k (0, 0)).1), some (.int 1)]) (S' := [.ref 14]) (h' := h) rfl ?_
  refine qg_call (v := none) (h' := h') (as := [.ref 14]) rfl rfl rfl rfl rfl rfl rfl (ai_rcv1 rfl rfl ((mcs_rcv hc).choose_spec)) (g1) ?_
  show qg L xs _ qm_137 8 [some (.ref 14), some (.retAddr (qr_en.getD k (0, 0)).1), some (.int 1)] [] h' _
  refine qg_pls (n := 1) (k' := 9) (lo' := [some (.ref 14), some (.retAddr (qr_en.getD k (0, 0)).1), some (.int 1)]) (S' := [.int 1]) (h' := h') rfl ?_
  exact qg_ret5 rfl rfl rfl
theorem m_firstW (ht : mtk e Y) (hc : mcs e Y K P s h) {k : Nat} (hk : k < 82) (hl : 2 ≤ (zw k).length) (t : ztk e s.1 = k) : ∃ h', qe L xs (d + 8) 134 [.ref 14, .retAddr (qr_en.getD k (0, 0)).1] h (.inl none, h') ∧ mcs e Y ((mfw K).1, (mfw K).2.1 + 3, (mfw K).2.2) P (s.1 + 1, s.2.1, s.2.2.1, s.2.2.2.1, s.2.2.2.2 ++ zw k ++ [32]) h' := by
  have his := m_isWord (L := L) (xs := xs) (d := d) ht hc (k := k) (by omega)
  rw [if_pos t] at his
  obtain ⟨h', g1, g2⟩ := m_first1 (L := L) (xs := xs) (d := d + 6) ht hc hk hl t
  refine ⟨h', ?_, g2⟩
  refine qe_of (M := qm_134) rfl rfl ?_
  show qg L xs _ qm_134 0 [some (.ref 14), some (.retAddr (qr_en.getD k (0, 0)).1)] [] h _
  refine qg_pls (n := 3) (k' := 3) (lo' := [some (.ref 14), some (.retAddr (qr_en.getD k (0, 0)).1)]) (S' := [.retAddr (qr_en.getD k (0, 0)).1, .ref 14, .ref 14]) (h' := h) rfl ?_
  refine qg_call (v := some (.int 1)) (h' := h) (as := [.ref 14, .retAddr (qr_en.getD k (0, 0)).1]) rfl rfl rfl rfl rfl rfl rfl (ai_rcv1 rfl rfl ((mcs_rcv hc).choose_spec)) (his) ?_
  show qg L xs _ qm_134 4 [some (.ref 14), some (.retAddr (qr_en.getD k (0, 0)).1)] [.int 1, .ref 14] h _
  refine qg_call (v := none) (h' := h) (as := [.ref 14, .int 1]) rfl rfl rfl rfl rfl rfl rfl (ai_rcv1 rfl rfl ((mcs_rcv hc).choose_spec)) (m_need1 (d := d + 6)) ?_
  show qg L xs _ qm_134 5 [some (.ref 14), some (.retAddr (qr_en.getD k (0, 0)).1)] [] h _
  refine qg_pls (n := 1) (k' := 6) (lo' := [some (.ref 14), some (.retAddr (qr_en.getD k (0, 0)).1)]) (S' := [.ref 14]) (h' := h) rfl ?_
  refine qg_call (v := none) (h' := h') (as := [.ref 14]) rfl rfl rfl rfl rfl rfl rfl (ai_rcv1 rfl rfl ((mcs_rcv hc).choose_spec)) (g1) ?_
  show qg L xs _ qm_134 7 [some (.ref 14), some (.retAddr (qr_en.getD k (0, 0)).1)] [] h' _
  exact qg_ret7 rfl
/-- the first word's step in the picture -/
theorem z_first {k : Nat} {f : zP} {v : Option Nat} (hk : ¬ (k = 82 ∨ k = 10) ∧ ¬ (k = 83 ∨ k = 25)) (t : ztk e s.1 = k) (hz : zq (zcp e k) f s = some (v, s')) : f (s.1 + 1, s.2.1, s.2.2.1, s.2.2.2.1, s.2.2.2.2 ++ zw k ++ [32]) = some (v, s') := by
  rcases zbd_inv hz with ⟨z1, -⟩ | ⟨a1, s1, z1, hz⟩
  · unfold zcp zc at z1
    rw [if_pos t] at z1
    obtain ⟨q, -⟩ := zkp_inv t hk z1; cases q
  · unfold zcp zc at z1
    rw [if_pos t] at z1
    obtain ⟨-, e1⟩ := zkp_inv t hk z1
    rw [← e1]; exact hz
/-- QueryReaderModel.one -/
theorem m_one (ht : mtk e Y) (hex : mim L xs e Y (mfw K) d 140 [.ref 14] 0 ex) (hexq : mim L xs e Y (mfw K) d 140 [.ref 14] 0 exq) (hqy : mim L xs e Y (mfw K) d 133 [.ref 14] 0 (z_query e exq)) {v : Option Nat} (hc : mcs e Y K P s h) (hz : z_stmt e ex (z_query e exq) s = some (v, s')) : ∃ h', qe L xs (d + 15) 131 [.ref 14] h (qout 1 v, h') ∧ mpost e Y (mfw K) P v s' h' := by
  have hlt := mtk_lt ht s.1
  have hq0 : ∀ s : zS, ¬ ztk e s.1 = 65 → z_query e exq s = some (none, s) := by
    intro s t
    show zbd (zcp e 65 s) _ = _
    rw [zcp_no t]; rfl
  unfold z_stmt at hz
  by_cases t : ztk e s.1 = 65
  · rw [if_neg (by omega), if_neg (by omega), if_neg (by omega), if_neg (by omega), if_neg (by omega), if_pos t] at hz
    have hz : zbd (z_query e exq s) (fun _ s => some (some 8, s)) = some (v, s') := hz
    have his := m_isWord (L := L) (xs := xs) (d := d + 7) ht hc (k := 65) (by decide)
    rw [if_pos t] at his
    obtain ⟨h1, g1, hc1⟩ := m_firstW (L := L) (xs := xs) (d := d + 5) ht hc (k := 65) (by decide) (by decide) t
    have hc1 := mcs_weak (K := mfw K) (by omega) hc1
    have road : ∀ o, qg L xs (d + 13) qm_133 3 [some (.ref 14), none] [] h1 o → qe L xs (d + 14) 133 [.ref 14] h o := by
      intro o hg
      refine qe_of (M := qm_133) rfl rfl ?_
      show qg L xs _ qm_133 0 [some (.ref 14), none] [] h _
      refine qg_pls (n := 2) (k' := 2) (lo' := [some (.ref 14), none]) (S' := [.retAddr 1080, .ref 14]) (h' := h) rfl ?_
      refine qg_call (v := none) (h' := h1) (as := [.ref 14, .retAddr 1080]) rfl rfl rfl rfl rfl rfl rfl (ai_rcv1 rfl rfl ((mcs_rcv hc).choose_spec)) (g1) ?_
      show qg L xs _ qm_133 3 [some (.ref 14), none] [] h1 _
      exact hg
    rcases zbd_inv hz with ⟨z1, rfl⟩ | ⟨a1, s1, z1, hz⟩
    · rw [z_query_eq] at z1
      obtain ⟨h2, g2, hb2⟩ := m_query3 (d := d + 1) (K := mfw K) ht (mim_up hexq (by omega)) (mim_up (ms_item ht hexq) (by omega)) hc1 _ _ (z_first (by decide) t z1)
      refine ⟨h2, ?_, hb2⟩
      refine qe_of (M := qm_131) rfl rfl ?_
      show qg L xs _ qm_131 0 [some (.ref 14)] [] h _
      refine qg_pls (n := 2) (k' := 2) (lo' := [some (.ref 14)]) (S' := [.retAddr 1080, .ref 14]) (h' := h) rfl ?_
      refine qg_call (v := some (.int 1)) (h' := h) (as := [.ref 14, .retAddr 1080]) rfl rfl rfl rfl rfl rfl rfl (ai_rcv1 rfl rfl ((mcs_rcv hc).choose_spec)) (his) ?_
      show qg L xs _ qm_131 3 [some (.ref 14)] [.int 1] h _
      refine qg_if false rfl (rfl) rfl ?_
      refine qg_pls (n := 1) (k' := 5) (lo' := [some (.ref 14)]) (S' := [.ref 14]) (h' := h) rfl ?_
      exact qg_callT rfl rfl rfl rfl rfl rfl rfl (ai_rcv1 rfl rfl ((mcs_rcv hc).choose_spec)) rfl (road _ g2)
    · rw [z_query_eq] at z1
      obtain ⟨h2, g2, hc2⟩ := m_query3 (d := d + 1) (K := mfw K) ht (mim_up hexq (by omega)) (mim_up (ms_item ht hexq) (by omega)) hc1 _ _ (z_first (by decide) t z1)
      cases hz
      refine ⟨h2, ?_, hc2⟩
      refine qe_of (M := qm_131) rfl rfl ?_
      show qg L xs _ qm_131 0 [some (.ref 14)] [] h _
      refine qg_pls (n := 2) (k' := 2) (lo' := [some (.ref 14)]) (S' := [.retAddr 1080, .ref 14]) (h' := h) rfl ?_
      refine qg_call (v := some (.int 1)) (h' := h) (as := [.ref 14, .retAddr 1080]) rfl rfl rfl rfl rfl rfl rfl (ai_rcv1 rfl rfl ((mcs_rcv hc).choose_spec)) (his) ?_
      show qg L xs _ qm_131 3 [some (.ref 14)] [.int 1] h _
      refine qg_if false rfl (rfl) rfl ?_
      refine qg_pls (n := 1) (k' := 5) (lo' := [some (.ref 14)]) (S' := [.ref 14]) (h' := h) rfl ?_
      refine qg_call (v := none) (h' := h2) (as := [.ref 14]) rfl rfl rfl rfl rfl rfl rfl (ai_rcv1 rfl rfl ((mcs_rcv hc).choose_spec)) (road _ g2) ?_
      show qg L xs _ qm_131 6 [some (.ref 14)] [] h2 _
      refine qg_pls (n := 1) (k' := 7) (lo' := [some (.ref 14)]) (S' := [.int 8]) (h' := h2) rfl ?_
      exact qg_ret5 rfl rfl rfl
  have tS := t
  clear t
  by_cases t : ztk e s.1 = 17
  · rw [if_pos t] at hz
    have road : ∀ o, qg L xs (d + 14) qm_131 10 [some (.ref 14)] [.retAddr (qr_en.getD 17 (0, 0)).1, .ref 14] h o → qe L xs (d + 15) 131 [.ref 14] h o := by
      intro o hg
      refine qe_of (M := qm_131) rfl rfl ?_
      show qg L xs _ qm_131 0 [some (.ref 14)] [] h _
      refine qg_pls (n := 2) (k' := 2) (lo' := [some (.ref 14)]) (S' := [.retAddr 1080, .ref 14]) (h' := h) rfl ?_
      refine qg_call (v := some (.int 0)) (h' := h) (as := [.ref 14, .retAddr 1080]) rfl rfl rfl rfl rfl rfl rfl (ai_rcv1 rfl rfl (mcs_rcv hc).choose_spec) (by have hh := m_isWord (L := L) (xs := xs) (d := d) ht hc (k := 65) (by decide); rw [if_neg (show ¬ ztk e s.1 = 65 by omega)] at hh; exact qe_up (by omega) hh) ?_
      show qg L xs _ qm_131 3 [some (.ref 14)] [.int 0] h _
      refine qg_if true rfl (rfl) rfl ?_
      refine qg_pls (n := 2) (k' := 10) (lo' := [some (.ref 14)]) (S' := [.retAddr 1032, .ref 14]) (h' := h) rfl ?_
      exact hg
    obtain ⟨h1, g1, hc1⟩ := m_firstT (L := L) (xs := xs) (d := d + 6) ht hc (k := 17) (by decide) (by decide) t
    have hc1 := mcs_weak (K := mfw K) (by omega) hc1
    have hz := z_first (f := zd_create e ex) (by decide) t hz
    obtain ⟨h2, g2, hp2⟩ := (show mim L xs e Y (mfw K) (d + 14) _ _ 1 (zd_create e ex) from (mim_up (ms_create (d := d) ht (ms_elem ht hex (ms_option ht hex))) (by omega))) _ _ _ _ _ hc1 hz
    refine ⟨h2, road _ ?_, hp2⟩
    cases v with
    | none =>
      refine qg_call (v := some (.int 1)) (h' := h1) (as := [.ref 14, .retAddr (qr_en.getD 17 (0, 0)).1]) rfl rfl rfl rfl rfl rfl rfl (ai_rcv1 rfl rfl ((mcs_rcv hc).choose_spec)) (g1) ?_
      show qg L xs _ qm_131 11 [some (.ref 14)] [.int 1] h1 _
      refine qg_if false rfl (rfl) rfl ?_
      refine qg_pls (n := 1) (k' := 13) (lo' := [some (.ref 14)]) (S' := [.ref 14]) (h' := h1) rfl ?_
      exact qg_callT rfl rfl rfl rfl rfl rfl rfl (ai_rcv1 rfl rfl ((mcs_rcv hc1).choose_spec)) rfl (g2)
    | some w =>
      refine qg_call (v := some (.int 1)) (h' := h1) (as := [.ref 14, .retAddr (qr_en.getD 17 (0, 0)).1]) rfl rfl rfl rfl rfl rfl rfl (ai_rcv1 rfl rfl ((mcs_rcv hc).choose_spec)) (g1) ?_
      show qg L xs _ qm_131 11 [some (.ref 14)] [.int 1] h1 _
      refine qg_if false rfl (rfl) rfl ?_
      refine qg_pls (n := 1) (k' := 13) (lo' := [some (.ref 14)]) (S' := [.ref 14]) (h' := h1) rfl ?_
      refine qg_call (v := some (.int (nI w))) (h' := h2) (as := [.ref 14]) rfl rfl rfl rfl rfl rfl rfl (ai_rcv1 rfl rfl ((mcs_rcv hc1).choose_spec)) (g2) ?_
      show qg L xs _ qm_131 14 [some (.ref 14)] [.int (nI w)] h2 _
      exact qg_ret5 rfl rfl rfl
  have tCREATE := t
  clear t
  by_cases t : ztk e s.1 = 23
  · rw [if_neg (by omega), if_pos t] at hz
    have road : ∀ o, qg L xs (d + 14) qm_131 17 [some (.ref 14)] [.retAddr (qr_en.getD 23 (0, 0)).1, .ref 14] h o → qe L xs (d + 15) 131 [.ref 14] h o := by
      intro o hg
      refine qe_of (M := qm_131) rfl rfl ?_
      show qg L xs _ qm_131 0 [some (.ref 14)] [] h _
      refine qg_pls (n := 2) (k' := 2) (lo' := [some (.ref 14)]) (S' := [.retAddr 1080, .ref 14]) (h' := h) rfl ?_
      refine qg_call (v := some (.int 0)) (h' := h) (as := [.ref 14, .retAddr 1080]) rfl rfl rfl rfl rfl rfl rfl (ai_rcv1 rfl rfl (mcs_rcv hc).choose_spec) (by have hh := m_isWord (L := L) (xs := xs) (d := d) ht hc (k := 65) (by decide); rw [if_neg (show ¬ ztk e s.1 = 65 by omega)] at hh; exact qe_up (by omega) hh) ?_
      show qg L xs _ qm_131 3 [some (.ref 14)] [.int 0] h _
      refine qg_if true rfl (rfl) rfl ?_
      refine qg_pls (n := 2) (k' := 10) (lo' := [some (.ref 14)]) (S' := [.retAddr 1032, .ref 14]) (h' := h) rfl ?_
      refine qg_call (v := some (.int 0)) (h' := h) (as := [.ref 14, .retAddr 1032]) rfl rfl rfl rfl rfl rfl rfl (ai_rcv1 rfl rfl (mcs_rcv hc).choose_spec) (qe_up (by omega) (m_takes0 (L := L) (xs := xs) (d := d) ht hc (k := 17) (by decide) (show ¬ ztk e s.1 = 17 by omega))) ?_
      show qg L xs _ qm_131 11 [some (.ref 14)] [.int 0] h _
      refine qg_if true rfl (rfl) rfl ?_
      refine qg_pls (n := 2) (k' := 17) (lo' := [some (.ref 14)]) (S' := [.retAddr 1038, .ref 14]) (h' := h) rfl ?_
      exact hg
    obtain ⟨h1, g1, hc1⟩ := m_firstT (L := L) (xs := xs) (d := d + 6) ht hc (k := 23) (by decide) (by decide) t
    have hc1 := mcs_weak (K := mfw K) (by omega) hc1
    have hz := z_first (f := zd_drop e) (by decide) t hz
    obtain ⟨h2, g2, hp2⟩ := (show mim L xs e Y (mfw K) (d + 14) _ _ 1 (zd_drop e) from (mim_up (ms_drop (d := d) ht) (by omega))) _ _ _ _ _ hc1 hz
    refine ⟨h2, road _ ?_, hp2⟩
    cases v with
    | none =>
      refine qg_call (v := some (.int 1)) (h' := h1) (as := [.ref 14, .retAddr (qr_en.getD 23 (0, 0)).1]) rfl rfl rfl rfl rfl rfl rfl (ai_rcv1 rfl rfl ((mcs_rcv hc).choose_spec)) (g1) ?_
      show qg L xs _ qm_131 18 [some (.ref 14)] [.int 1] h1 _
      refine qg_if false rfl (rfl) rfl ?_
      refine qg_pls (n := 1) (k' := 20) (lo' := [some (.ref 14)]) (S' := [.ref 14]) (h' := h1) rfl ?_
      exact qg_callT rfl rfl rfl rfl rfl rfl rfl (ai_rcv1 rfl rfl ((mcs_rcv hc1).choose_spec)) rfl (g2)
    | some w =>
      refine qg_call (v := some (.int 1)) (h' := h1) (as := [.ref 14, .retAddr (qr_en.getD 23 (0, 0)).1]) rfl rfl rfl rfl rfl rfl rfl (ai_rcv1 rfl rfl ((mcs_rcv hc).choose_spec)) (g1) ?_
      show qg L xs _ qm_131 18 [some (.ref 14)] [.int 1] h1 _
      refine qg_if false rfl (rfl) rfl ?_
      refine qg_pls (n := 1) (k' := 20) (lo' := [some (.ref 14)]) (S' := [.ref 14]) (h' := h1) rfl ?_
      refine qg_call (v := some (.int (nI w))) (h' := h2) (as := [.ref 14]) rfl rfl rfl rfl rfl rfl rfl (ai_rcv1 rfl rfl ((mcs_rcv hc1).choose_spec)) (g2) ?_
      show qg L xs _ qm_131 21 [some (.ref 14)] [.int (nI w)] h2 _
      exact qg_ret5 rfl rfl rfl
  have tDROP := t
  clear t
  by_cases t : ztk e s.1 = 34
  · rw [if_neg (by omega), if_neg (by omega), if_pos t] at hz
    have road : ∀ o, qg L xs (d + 14) qm_131 24 [some (.ref 14)] [.retAddr (qr_en.getD 34 (0, 0)).1, .ref 14] h o → qe L xs (d + 15) 131 [.ref 14] h o := by
      intro o hg
      refine qe_of (M := qm_131) rfl rfl ?_
      show qg L xs _ qm_131 0 [some (.ref 14)] [] h _
      refine qg_pls (n := 2) (k' := 2) (lo' := [some (.ref 14)]) (S' := [.retAddr 1080, .ref 14]) (h' := h) rfl ?_
      refine qg_call (v := some (.int 0)) (h' := h) (as := [.ref 14, .retAddr 1080]) rfl rfl rfl rfl rfl rfl rfl (ai_rcv1 rfl rfl (mcs_rcv hc).choose_spec) (by have hh := m_isWord (L := L) (xs := xs) (d := d) ht hc (k := 65) (by decide); rw [if_neg (show ¬ ztk e s.1 = 65 by omega)] at hh; exact qe_up (by omega) hh) ?_
      show qg L xs _ qm_131 3 [some (.ref 14)] [.int 0] h _
      refine qg_if true rfl (rfl) rfl ?_
      refine qg_pls (n := 2) (k' := 10) (lo' := [some (.ref 14)]) (S' := [.retAddr 1032, .ref 14]) (h' := h) rfl ?_
      refine qg_call (v := some (.int 0)) (h' := h) (as := [.ref 14, .retAddr 1032]) rfl rfl rfl rfl rfl rfl rfl (ai_rcv1 rfl rfl (mcs_rcv hc).choose_spec) (qe_up (by omega) (m_takes0 (L := L) (xs := xs) (d := d) ht hc (k := 17) (by decide) (show ¬ ztk e s.1 = 17 by omega))) ?_
      show qg L xs _ qm_131 11 [some (.ref 14)] [.int 0] h _
      refine qg_if true rfl (rfl) rfl ?_
      refine qg_pls (n := 2) (k' := 17) (lo' := [some (.ref 14)]) (S' := [.retAddr 1038, .ref 14]) (h' := h) rfl ?_
      refine qg_call (v := some (.int 0)) (h' := h) (as := [.ref 14, .retAddr 1038]) rfl rfl rfl rfl rfl rfl rfl (ai_rcv1 rfl rfl (mcs_rcv hc).choose_spec) (qe_up (by omega) (m_takes0 (L := L) (xs := xs) (d := d) ht hc (k := 23) (by decide) (show ¬ ztk e s.1 = 23 by omega))) ?_
      show qg L xs _ qm_131 18 [some (.ref 14)] [.int 0] h _
      refine qg_if true rfl (rfl) rfl ?_
      refine qg_pls (n := 2) (k' := 24) (lo' := [some (.ref 14)]) (S' := [.retAddr 1049, .ref 14]) (h' := h) rfl ?_
      exact hg
    obtain ⟨h1, g1, hc1⟩ := m_firstT (L := L) (xs := xs) (d := d + 6) ht hc (k := 34) (by decide) (by decide) t
    have hc1 := mcs_weak (K := mfw K) (by omega) hc1
    have hz := z_first (f := zd_insert e ex (z_query e exq)) (by decide) t hz
    obtain ⟨h2, g2, hp2⟩ := (show mim L xs e Y (mfw K) (d + 14) _ _ 1 (zd_insert e ex (z_query e exq)) from (mim_up (ms_insert ht hex hqy hq0) (by omega))) _ _ _ _ _ hc1 hz
    refine ⟨h2, road _ ?_, hp2⟩
    cases v with
    | none =>
      refine qg_call (v := some (.int 1)) (h' := h1) (as := [.ref 14, .retAddr (qr_en.getD 34 (0, 0)).1]) rfl rfl rfl rfl rfl rfl rfl (ai_rcv1 rfl rfl ((mcs_rcv hc).choose_spec)) (g1) ?_
      show qg L xs _ qm_131 25 [some (.ref 14)] [.int 1] h1 _
      refine qg_if false rfl (rfl) rfl ?_
      refine qg_pls (n := 1) (k' := 27) (lo' := [some (.ref 14)]) (S' := [.ref 14]) (h' := h1) rfl ?_
      exact qg_callT rfl rfl rfl rfl rfl rfl rfl (ai_rcv1 rfl rfl ((mcs_rcv hc1).choose_spec)) rfl (g2)
    | some w =>
      refine qg_call (v := some (.int 1)) (h' := h1) (as := [.ref 14, .retAddr (qr_en.getD 34 (0, 0)).1]) rfl rfl rfl rfl rfl rfl rfl (ai_rcv1 rfl rfl ((mcs_rcv hc).choose_spec)) (g1) ?_
      show qg L xs _ qm_131 25 [some (.ref 14)] [.int 1] h1 _
      refine qg_if false rfl (rfl) rfl ?_
      refine qg_pls (n := 1) (k' := 27) (lo' := [some (.ref 14)]) (S' := [.ref 14]) (h' := h1) rfl ?_
      refine qg_call (v := some (.int (nI w))) (h' := h2) (as := [.ref 14]) rfl rfl rfl rfl rfl rfl rfl (ai_rcv1 rfl rfl ((mcs_rcv hc1).choose_spec)) (g2) ?_
      show qg L xs _ qm_131 28 [some (.ref 14)] [.int (nI w)] h2 _
      exact qg_ret5 rfl rfl rfl
  have tINSERT := t
  clear t
  by_cases t : ztk e s.1 = 77
  · rw [if_neg (by omega), if_neg (by omega), if_neg (by omega), if_pos t] at hz
    have road : ∀ o, qg L xs (d + 14) qm_131 31 [some (.ref 14)] [.retAddr (qr_en.getD 77 (0, 0)).1, .ref 14] h o → qe L xs (d + 15) 131 [.ref 14] h o := by
      intro o hg
      refine qe_of (M := qm_131) rfl rfl ?_
      show qg L xs _ qm_131 0 [some (.ref 14)] [] h _
      refine qg_pls (n := 2) (k' := 2) (lo' := [some (.ref 14)]) (S' := [.retAddr 1080, .ref 14]) (h' := h) rfl ?_
      refine qg_call (v := some (.int 0)) (h' := h) (as := [.ref 14, .retAddr 1080]) rfl rfl rfl rfl rfl rfl rfl (ai_rcv1 rfl rfl (mcs_rcv hc).choose_spec) (by have hh := m_isWord (L := L) (xs := xs) (d := d) ht hc (k := 65) (by decide); rw [if_neg (show ¬ ztk e s.1 = 65 by omega)] at hh; exact qe_up (by omega) hh) ?_
      show qg L xs _ qm_131 3 [some (.ref 14)] [.int 0] h _
      refine qg_if true rfl (rfl) rfl ?_
      refine qg_pls (n := 2) (k' := 10) (lo' := [some (.ref 14)]) (S' := [.retAddr 1032, .ref 14]) (h' := h) rfl ?_
      refine qg_call (v := some (.int 0)) (h' := h) (as := [.ref 14, .retAddr 1032]) rfl rfl rfl rfl rfl rfl rfl (ai_rcv1 rfl rfl (mcs_rcv hc).choose_spec) (qe_up (by omega) (m_takes0 (L := L) (xs := xs) (d := d) ht hc (k := 17) (by decide) (show ¬ ztk e s.1 = 17 by omega))) ?_
      show qg L xs _ qm_131 11 [some (.ref 14)] [.int 0] h _
      refine qg_if true rfl (rfl) rfl ?_
      refine qg_pls (n := 2) (k' := 17) (lo' := [some (.ref 14)]) (S' := [.retAddr 1038, .ref 14]) (h' := h) rfl ?_
      refine qg_call (v := some (.int 0)) (h' := h) (as := [.ref 14, .retAddr 1038]) rfl rfl rfl rfl rfl rfl rfl (ai_rcv1 rfl rfl (mcs_rcv hc).choose_spec) (qe_up (by omega) (m_takes0 (L := L) (xs := xs) (d := d) ht hc (k := 23) (by decide) (show ¬ ztk e s.1 = 23 by omega))) ?_
      show qg L xs _ qm_131 18 [some (.ref 14)] [.int 0] h _
      refine qg_if true rfl (rfl) rfl ?_
      refine qg_pls (n := 2) (k' := 24) (lo' := [some (.ref 14)]) (S' := [.retAddr 1049, .ref 14]) (h' := h) rfl ?_
      refine qg_call (v := some (.int 0)) (h' := h) (as := [.ref 14, .retAddr 1049]) rfl rfl rfl rfl rfl rfl rfl (ai_rcv1 rfl rfl (mcs_rcv hc).choose_spec) (qe_up (by omega) (m_takes0 (L := L) (xs := xs) (d := d) ht hc (k := 34) (by decide) (show ¬ ztk e s.1 = 34 by omega))) ?_
      show qg L xs _ qm_131 25 [some (.ref 14)] [.int 0] h _
      refine qg_if true rfl (rfl) rfl ?_
      refine qg_pls (n := 2) (k' := 31) (lo' := [some (.ref 14)]) (S' := [.retAddr 1091, .ref 14]) (h' := h) rfl ?_
      exact hg
    obtain ⟨h1, g1, hc1⟩ := m_firstT (L := L) (xs := xs) (d := d + 6) ht hc (k := 77) (by decide) (by decide) t
    have hc1 := mcs_weak (K := mfw K) (by omega) hc1
    have hz := z_first (f := zd_update e ex) (by decide) t hz
    obtain ⟨h2, g2, hp2⟩ := (show mim L xs e Y (mfw K) (d + 14) _ _ 1 (zd_update e ex) from (mim_up (ms_update ht hex) (by omega))) _ _ _ _ _ hc1 hz
    refine ⟨h2, road _ ?_, hp2⟩
    cases v with
    | none =>
      refine qg_call (v := some (.int 1)) (h' := h1) (as := [.ref 14, .retAddr (qr_en.getD 77 (0, 0)).1]) rfl rfl rfl rfl rfl rfl rfl (ai_rcv1 rfl rfl ((mcs_rcv hc).choose_spec)) (g1) ?_
      show qg L xs _ qm_131 32 [some (.ref 14)] [.int 1] h1 _
      refine qg_if false rfl (rfl) rfl ?_
      refine qg_pls (n := 1) (k' := 34) (lo' := [some (.ref 14)]) (S' := [.ref 14]) (h' := h1) rfl ?_
      exact qg_callT rfl rfl rfl rfl rfl rfl rfl (ai_rcv1 rfl rfl ((mcs_rcv hc1).choose_spec)) rfl (g2)
    | some w =>
      refine qg_call (v := some (.int 1)) (h' := h1) (as := [.ref 14, .retAddr (qr_en.getD 77 (0, 0)).1]) rfl rfl rfl rfl rfl rfl rfl (ai_rcv1 rfl rfl ((mcs_rcv hc).choose_spec)) (g1) ?_
      show qg L xs _ qm_131 32 [some (.ref 14)] [.int 1] h1 _
      refine qg_if false rfl (rfl) rfl ?_
      refine qg_pls (n := 1) (k' := 34) (lo' := [some (.ref 14)]) (S' := [.ref 14]) (h' := h1) rfl ?_
      refine qg_call (v := some (.int (nI w))) (h' := h2) (as := [.ref 14]) rfl rfl rfl rfl rfl rfl rfl (ai_rcv1 rfl rfl ((mcs_rcv hc1).choose_spec)) (g2) ?_
      show qg L xs _ qm_131 35 [some (.ref 14)] [.int (nI w)] h2 _
      exact qg_ret5 rfl rfl rfl
  have tUPDATE := t
  clear t
  by_cases t : ztk e s.1 = 20
  · rw [if_neg (by omega), if_neg (by omega), if_neg (by omega), if_neg (by omega), if_pos t] at hz
    have road : ∀ o, qg L xs (d + 14) qm_131 38 [some (.ref 14)] [.retAddr (qr_en.getD 20 (0, 0)).1, .ref 14] h o → qe L xs (d + 15) 131 [.ref 14] h o := by
      intro o hg
      refine qe_of (M := qm_131) rfl rfl ?_
      show qg L xs _ qm_131 0 [some (.ref 14)] [] h _
      refine qg_pls (n := 2) (k' := 2) (lo' := [some (.ref 14)]) (S' := [.retAddr 1080, .ref 14]) (h' := h) rfl ?_
      refine qg_call (v := some (.int 0)) (h' := h) (as := [.ref 14, .retAddr 1080]) rfl rfl rfl rfl rfl rfl rfl (ai_rcv1 rfl rfl (mcs_rcv hc).choose_spec) (by have hh := m_isWord (L := L) (xs := xs) (d := d) ht hc (k := 65) (by decide); rw [if_neg (show ¬ ztk e s.1 = 65 by omega)] at hh; exact qe_up (by omega) hh) ?_
      show qg L xs _ qm_131 3 [some (.ref 14)] [.int 0] h _
      refine qg_if true rfl (rfl) rfl ?_
      refine qg_pls (n := 2) (k' := 10) (lo' := [some (.ref 14)]) (S' := [.retAddr 1032, .ref 14]) (h' := h) rfl ?_
      refine qg_call (v := some (.int 0)) (h' := h) (as := [.ref 14, .retAddr 1032]) rfl rfl rfl rfl rfl rfl rfl (ai_rcv1 rfl rfl (mcs_rcv hc).choose_spec) (qe_up (by omega) (m_takes0 (L := L) (xs := xs) (d := d) ht hc (k := 17) (by decide) (show ¬ ztk e s.1 = 17 by omega))) ?_
      show qg L xs _ qm_131 11 [some (.ref 14)] [.int 0] h _
      refine qg_if true rfl (rfl) rfl ?_
      refine qg_pls (n := 2) (k' := 17) (lo' := [some (.ref 14)]) (S' := [.retAddr 1038, .ref 14]) (h' := h) rfl ?_
      refine qg_call (v := some (.int 0)) (h' := h) (as := [.ref 14, .retAddr 1038]) rfl rfl rfl rfl rfl rfl rfl (ai_rcv1 rfl rfl (mcs_rcv hc).choose_spec) (qe_up (by omega) (m_takes0 (L := L) (xs := xs) (d := d) ht hc (k := 23) (by decide) (show ¬ ztk e s.1 = 23 by omega))) ?_
      show qg L xs _ qm_131 18 [some (.ref 14)] [.int 0] h _
      refine qg_if true rfl (rfl) rfl ?_
      refine qg_pls (n := 2) (k' := 24) (lo' := [some (.ref 14)]) (S' := [.retAddr 1049, .ref 14]) (h' := h) rfl ?_
      refine qg_call (v := some (.int 0)) (h' := h) (as := [.ref 14, .retAddr 1049]) rfl rfl rfl rfl rfl rfl rfl (ai_rcv1 rfl rfl (mcs_rcv hc).choose_spec) (qe_up (by omega) (m_takes0 (L := L) (xs := xs) (d := d) ht hc (k := 34) (by decide) (show ¬ ztk e s.1 = 34 by omega))) ?_
      show qg L xs _ qm_131 25 [some (.ref 14)] [.int 0] h _
      refine qg_if true rfl (rfl) rfl ?_
      refine qg_pls (n := 2) (k' := 31) (lo' := [some (.ref 14)]) (S' := [.retAddr 1091, .ref 14]) (h' := h) rfl ?_
      refine qg_call (v := some (.int 0)) (h' := h) (as := [.ref 14, .retAddr 1091]) rfl rfl rfl rfl rfl rfl rfl (ai_rcv1 rfl rfl (mcs_rcv hc).choose_spec) (qe_up (by omega) (m_takes0 (L := L) (xs := xs) (d := d) ht hc (k := 77) (by decide) (show ¬ ztk e s.1 = 77 by omega))) ?_
      show qg L xs _ qm_131 32 [some (.ref 14)] [.int 0] h _
      refine qg_if true rfl (rfl) rfl ?_
      refine qg_pls (n := 2) (k' := 38) (lo' := [some (.ref 14)]) (S' := [.retAddr 1035, .ref 14]) (h' := h) rfl ?_
      exact hg
    obtain ⟨h1, g1, hc1⟩ := m_firstT (L := L) (xs := xs) (d := d + 6) ht hc (k := 20) (by decide) (by decide) t
    have hc1 := mcs_weak (K := mfw K) (by omega) hc1
    have hz := z_first (f := zd_delete e ex) (by decide) t hz
    obtain ⟨h2, g2, hp2⟩ := (show mim L xs e Y (mfw K) (d + 14) _ _ 1 (zd_delete e ex) from (mim_up (ms_delete ht hex) (by omega))) _ _ _ _ _ hc1 hz
    refine ⟨h2, road _ ?_, hp2⟩
    cases v with
    | none =>
      refine qg_call (v := some (.int 1)) (h' := h1) (as := [.ref 14, .retAddr (qr_en.getD 20 (0, 0)).1]) rfl rfl rfl rfl rfl rfl rfl (ai_rcv1 rfl rfl ((mcs_rcv hc).choose_spec)) (g1) ?_
      show qg L xs _ qm_131 39 [some (.ref 14)] [.int 1] h1 _
      refine qg_if false rfl (rfl) rfl ?_
      refine qg_pls (n := 1) (k' := 41) (lo' := [some (.ref 14)]) (S' := [.ref 14]) (h' := h1) rfl ?_
      exact qg_callT rfl rfl rfl rfl rfl rfl rfl (ai_rcv1 rfl rfl ((mcs_rcv hc1).choose_spec)) rfl (g2)
    | some w =>
      refine qg_call (v := some (.int 1)) (h' := h1) (as := [.ref 14, .retAddr (qr_en.getD 20 (0, 0)).1]) rfl rfl rfl rfl rfl rfl rfl (ai_rcv1 rfl rfl ((mcs_rcv hc).choose_spec)) (g1) ?_
      show qg L xs _ qm_131 39 [some (.ref 14)] [.int 1] h1 _
      refine qg_if false rfl (rfl) rfl ?_
      refine qg_pls (n := 1) (k' := 41) (lo' := [some (.ref 14)]) (S' := [.ref 14]) (h' := h1) rfl ?_
      refine qg_call (v := some (.int (nI w))) (h' := h2) (as := [.ref 14]) rfl rfl rfl rfl rfl rfl rfl (ai_rcv1 rfl rfl ((mcs_rcv hc1).choose_spec)) (g2) ?_
      show qg L xs _ qm_131 42 [some (.ref 14)] [.int (nI w)] h2 _
      exact qg_ret5 rfl rfl rfl
  have tDELETE := t
  clear t
  by_cases t : ztk e s.1 = 6
  · rw [if_neg (by omega), if_neg (by omega), if_neg (by omega), if_neg (by omega), if_neg (by omega), if_neg (by omega), if_pos t] at hz
    have road : ∀ o, qg L xs (d + 14) qm_131 45 [some (.ref 14)] [.retAddr (qr_en.getD 6 (0, 0)).1, .ref 14] h o → qe L xs (d + 15) 131 [.ref 14] h o := by
      intro o hg
      refine qe_of (M := qm_131) rfl rfl ?_
      show qg L xs _ qm_131 0 [some (.ref 14)] [] h _
      refine qg_pls (n := 2) (k' := 2) (lo' := [some (.ref 14)]) (S' := [.retAddr 1080, .ref 14]) (h' := h) rfl ?_
      refine qg_call (v := some (.int 0)) (h' := h) (as := [.ref 14, .retAddr 1080]) rfl rfl rfl rfl rfl rfl rfl (ai_rcv1 rfl rfl (mcs_rcv hc).choose_spec) (by have hh := m_isWord (L := L) (xs := xs) (d := d) ht hc (k := 65) (by decide); rw [if_neg (show ¬ ztk e s.1 = 65 by omega)] at hh; exact qe_up (by omega) hh) ?_
      show qg L xs _ qm_131 3 [some (.ref 14)] [.int 0] h _
      refine qg_if true rfl (rfl) rfl ?_
      refine qg_pls (n := 2) (k' := 10) (lo' := [some (.ref 14)]) (S' := [.retAddr 1032, .ref 14]) (h' := h) rfl ?_
      refine qg_call (v := some (.int 0)) (h' := h) (as := [.ref 14, .retAddr 1032]) rfl rfl rfl rfl rfl rfl rfl (ai_rcv1 rfl rfl (mcs_rcv hc).choose_spec) (qe_up (by omega) (m_takes0 (L := L) (xs := xs) (d := d) ht hc (k := 17) (by decide) (show ¬ ztk e s.1 = 17 by omega))) ?_
      show qg L xs _ qm_131 11 [some (.ref 14)] [.int 0] h _
      refine qg_if true rfl (rfl) rfl ?_
      refine qg_pls (n := 2) (k' := 17) (lo' := [some (.ref 14)]) (S' := [.retAddr 1038, .ref 14]) (h' := h) rfl ?_
      refine qg_call (v := some (.int 0)) (h' := h) (as := [.ref 14, .retAddr 1038]) rfl rfl rfl rfl rfl rfl rfl (ai_rcv1 rfl rfl (mcs_rcv hc).choose_spec) (qe_up (by omega) (m_takes0 (L := L) (xs := xs) (d := d) ht hc (k := 23) (by decide) (show ¬ ztk e s.1 = 23 by omega))) ?_
      show qg L xs _ qm_131 18 [some (.ref 14)] [.int 0] h _
      refine qg_if true rfl (rfl) rfl ?_
      refine qg_pls (n := 2) (k' := 24) (lo' := [some (.ref 14)]) (S' := [.retAddr 1049, .ref 14]) (h' := h) rfl ?_
      refine qg_call (v := some (.int 0)) (h' := h) (as := [.ref 14, .retAddr 1049]) rfl rfl rfl rfl rfl rfl rfl (ai_rcv1 rfl rfl (mcs_rcv hc).choose_spec) (qe_up (by omega) (m_takes0 (L := L) (xs := xs) (d := d) ht hc (k := 34) (by decide) (show ¬ ztk e s.1 = 34 by omega))) ?_
      show qg L xs _ qm_131 25 [some (.ref 14)] [.int 0] h _
      refine qg_if true rfl (rfl) rfl ?_
      refine qg_pls (n := 2) (k' := 31) (lo' := [some (.ref 14)]) (S' := [.retAddr 1091, .ref 14]) (h' := h) rfl ?_
      refine qg_call (v := some (.int 0)) (h' := h) (as := [.ref 14, .retAddr 1091]) rfl rfl rfl rfl rfl rfl rfl (ai_rcv1 rfl rfl (mcs_rcv hc).choose_spec) (qe_up (by omega) (m_takes0 (L := L) (xs := xs) (d := d) ht hc (k := 77) (by decide) (show ¬ ztk e s.1 = 77 by omega))) ?_
      show qg L xs _ qm_131 32 [some (.ref 14)] [.int 0] h _
      refine qg_if true rfl (rfl) rfl ?_
      refine qg_pls (n := 2) (k' := 38) (lo' := [some (.ref 14)]) (S' := [.retAddr 1035, .ref 14]) (h' := h) rfl ?_
      refine qg_call (v := some (.int 0)) (h' := h) (as := [.ref 14, .retAddr 1035]) rfl rfl rfl rfl rfl rfl rfl (ai_rcv1 rfl rfl (mcs_rcv hc).choose_spec) (qe_up (by omega) (m_takes0 (L := L) (xs := xs) (d := d) ht hc (k := 20) (by decide) (show ¬ ztk e s.1 = 20 by omega))) ?_
      show qg L xs _ qm_131 39 [some (.ref 14)] [.int 0] h _
      refine qg_if true rfl (rfl) rfl ?_
      refine qg_pls (n := 2) (k' := 45) (lo' := [some (.ref 14)]) (S' := [.retAddr 1021, .ref 14]) (h' := h) rfl ?_
      exact hg
    obtain ⟨h1, g1, hc1⟩ := m_firstT (L := L) (xs := xs) (d := d + 6) ht hc (k := 6) (by decide) (by decide) t
    have hz := z_first (f := zd_begin e) (by decide) t hz
    obtain ⟨h2, g2, hp2⟩ := ms_begin (L := L) (xs := xs) (d := d + 5) (K := mfw K) ht hc1 hz
    refine ⟨h2, road _ ?_, hp2⟩
    cases v with
    | none =>
      refine qg_call (v := some (.int 1)) (h' := h1) (as := [.ref 14, .retAddr (qr_en.getD 6 (0, 0)).1]) rfl rfl rfl rfl rfl rfl rfl (ai_rcv1 rfl rfl ((mcs_rcv hc).choose_spec)) (g1) ?_
      show qg L xs _ qm_131 46 [some (.ref 14)] [.int 1] h1 _
      refine qg_if false rfl (rfl) rfl ?_
      refine qg_pls (n := 1) (k' := 48) (lo' := [some (.ref 14)]) (S' := [.ref 14]) (h' := h1) rfl ?_
      exact qg_callT rfl rfl rfl rfl rfl rfl rfl (ai_rcv1 rfl rfl ((mcs_rcv hc1).choose_spec)) rfl (g2)
    | some w =>
      refine qg_call (v := some (.int 1)) (h' := h1) (as := [.ref 14, .retAddr (qr_en.getD 6 (0, 0)).1]) rfl rfl rfl rfl rfl rfl rfl (ai_rcv1 rfl rfl ((mcs_rcv hc).choose_spec)) (g1) ?_
      show qg L xs _ qm_131 46 [some (.ref 14)] [.int 1] h1 _
      refine qg_if false rfl (rfl) rfl ?_
      refine qg_pls (n := 1) (k' := 48) (lo' := [some (.ref 14)]) (S' := [.ref 14]) (h' := h1) rfl ?_
      refine qg_call (v := some (.int (nI w))) (h' := h2) (as := [.ref 14]) rfl rfl rfl rfl rfl rfl rfl (ai_rcv1 rfl rfl ((mcs_rcv hc1).choose_spec)) (g2) ?_
      show qg L xs _ qm_131 49 [some (.ref 14)] [.int (nI w)] h2 _
      exact qg_ret5 rfl rfl rfl
  have tBEGIN := t
  clear t
  by_cases t : ztk e s.1 = 14
  · rw [if_neg (by omega), if_neg (by omega), if_neg (by omega), if_neg (by omega), if_neg (by omega), if_neg (by omega), if_neg (by omega), if_pos t] at hz
    have road : ∀ o, qg L xs (d + 14) qm_131 52 [some (.ref 14)] [.retAddr (qr_en.getD 14 (0, 0)).1, .ref 14] h o → qe L xs (d + 15) 131 [.ref 14] h o := by
      intro o hg
      refine qe_of (M := qm_131) rfl rfl ?_
      show qg L xs _ qm_131 0 [some (.ref 14)] [] h _
      refine qg_pls (n := 2) (k' := 2) (lo' := [some (.ref 14)]) (S' := [.retAddr 1080, .ref 14]) (h' := h) rfl ?_
      refine qg_call (v := some (.int 0)) (h' := h) (as := [.ref 14, .retAddr 1080]) rfl rfl rfl rfl rfl rfl rfl (ai_rcv1 rfl rfl (mcs_rcv hc).choose_spec) (by have hh := m_isWord (L := L) (xs := xs) (d := d) ht hc (k := 65) (by decide); rw [if_neg (show ¬ ztk e s.1 = 65 by omega)] at hh; exact qe_up (by omega) hh) ?_
      show qg L xs _ qm_131 3 [some (.ref 14)] [.int 0] h _
      refine qg_if true rfl (rfl) rfl ?_
      refine qg_pls (n := 2) (k' := 10) (lo' := [some (.ref 14)]) (S' := [.retAddr 1032, .ref 14]) (h' := h) rfl ?_
      refine qg_call (v := some (.int 0)) (h' := h) (as := [.ref 14, .retAddr 1032]) rfl rfl rfl rfl rfl rfl rfl (ai_rcv1 rfl rfl (mcs_rcv hc).choose_spec) (qe_up (by omega) (m_takes0 (L := L) (xs := xs) (d := d) ht hc (k := 17) (by decide) (show ¬ ztk e s.1 = 17 by omega))) ?_
      show qg L xs _ qm_131 11 [some (.ref 14)] [.int 0] h _
      refine qg_if true rfl (rfl) rfl ?_
      refine qg_pls (n := 2) (k' := 17) (lo' := [some (.ref 14)]) (S' := [.retAddr 1038, .ref 14]) (h' := h) rfl ?_
      refine qg_call (v := some (.int 0)) (h' := h) (as := [.ref 14, .retAddr 1038]) rfl rfl rfl rfl rfl rfl rfl (ai_rcv1 rfl rfl (mcs_rcv hc).choose_spec) (qe_up (by omega) (m_takes0 (L := L) (xs := xs) (d := d) ht hc (k := 23) (by decide) (show ¬ ztk e s.1 = 23 by omega))) ?_
      show qg L xs _ qm_131 18 [some (.ref 14)] [.int 0] h _
      refine qg_if true rfl (rfl) rfl ?_
      refine qg_pls (n := 2) (k' := 24) (lo' := [some (.ref 14)]) (S' := [.retAddr 1049, .ref 14]) (h' := h) rfl ?_
      refine qg_call (v := some (.int 0)) (h' := h) (as := [.ref 14, .retAddr 1049]) rfl rfl rfl rfl rfl rfl rfl (ai_rcv1 rfl rfl (mcs_rcv hc).choose_spec) (qe_up (by omega) (m_takes0 (L := L) (xs := xs) (d := d) ht hc (k := 34) (by decide) (show ¬ ztk e s.1 = 34 by omega))) ?_
      show qg L xs _ qm_131 25 [some (.ref 14)] [.int 0] h _
      refine qg_if true rfl (rfl) rfl ?_
      refine qg_pls (n := 2) (k' := 31) (lo' := [some (.ref 14)]) (S' := [.retAddr 1091, .ref 14]) (h' := h) rfl ?_
      refine qg_call (v := some (.int 0)) (h' := h) (as := [.ref 14, .retAddr 1091]) rfl rfl rfl rfl rfl rfl rfl (ai_rcv1 rfl rfl (mcs_rcv hc).choose_spec) (qe_up (by omega) (m_takes0 (L := L) (xs := xs) (d := d) ht hc (k := 77) (by decide) (show ¬ ztk e s.1 = 77 by omega))) ?_
      show qg L xs _ qm_131 32 [some (.ref 14)] [.int 0] h _
      refine qg_if true rfl (rfl) rfl ?_
      refine qg_pls (n := 2) (k' := 38) (lo' := [some (.ref 14)]) (S' := [.retAddr 1035, .ref 14]) (h' := h) rfl ?_
      refine qg_call (v := some (.int 0)) (h' := h) (as := [.ref 14, .retAddr 1035]) rfl rfl rfl rfl rfl rfl rfl (ai_rcv1 rfl rfl (mcs_rcv hc).choose_spec) (qe_up (by omega) (m_takes0 (L := L) (xs := xs) (d := d) ht hc (k := 20) (by decide) (show ¬ ztk e s.1 = 20 by omega))) ?_
      show qg L xs _ qm_131 39 [some (.ref 14)] [.int 0] h _
      refine qg_if true rfl (rfl) rfl ?_
      refine qg_pls (n := 2) (k' := 45) (lo' := [some (.ref 14)]) (S' := [.retAddr 1021, .ref 14]) (h' := h) rfl ?_
      refine qg_call (v := some (.int 0)) (h' := h) (as := [.ref 14, .retAddr 1021]) rfl rfl rfl rfl rfl rfl rfl (ai_rcv1 rfl rfl (mcs_rcv hc).choose_spec) (qe_up (by omega) (m_takes0 (L := L) (xs := xs) (d := d) ht hc (k := 6) (by decide) (show ¬ ztk e s.1 = 6 by omega))) ?_
      show qg L xs _ qm_131 46 [some (.ref 14)] [.int 0] h _
      refine qg_if true rfl (rfl) rfl ?_
      refine qg_pls (n := 2) (k' := 52) (lo' := [some (.ref 14)]) (S' := [.retAddr 1029, .ref 14]) (h' := h) rfl ?_
      exact hg
    obtain ⟨h1, g1, hc1⟩ := m_firstT (L := L) (xs := xs) (d := d + 6) ht hc (k := 14) (by decide) (by decide) t
    have hc1 := mcs_weak (K := mfw K) (by omega) hc1
    have hz := z_first (f := zd_commit e) (by decide) t hz
    obtain ⟨h2, g2, hp2⟩ := (show mim L xs e Y (mfw K) (d + 14) _ _ 1 (zd_commit e) from (mim_up (ms_commit (d := d) ht) (by omega))) _ _ _ _ _ hc1 hz
    refine ⟨h2, road _ ?_, hp2⟩
    cases v with
    | none =>
      refine qg_call (v := some (.int 1)) (h' := h1) (as := [.ref 14, .retAddr (qr_en.getD 14 (0, 0)).1]) rfl rfl rfl rfl rfl rfl rfl (ai_rcv1 rfl rfl ((mcs_rcv hc).choose_spec)) (g1) ?_
      show qg L xs _ qm_131 53 [some (.ref 14)] [.int 1] h1 _
      refine qg_if false rfl (rfl) rfl ?_
      refine qg_pls (n := 1) (k' := 55) (lo' := [some (.ref 14)]) (S' := [.ref 14]) (h' := h1) rfl ?_
      exact qg_callT rfl rfl rfl rfl rfl rfl rfl (ai_rcv1 rfl rfl ((mcs_rcv hc1).choose_spec)) rfl (g2)
    | some w =>
      refine qg_call (v := some (.int 1)) (h' := h1) (as := [.ref 14, .retAddr (qr_en.getD 14 (0, 0)).1]) rfl rfl rfl rfl rfl rfl rfl (ai_rcv1 rfl rfl ((mcs_rcv hc).choose_spec)) (g1) ?_
      show qg L xs _ qm_131 53 [some (.ref 14)] [.int 1] h1 _
      refine qg_if false rfl (rfl) rfl ?_
      refine qg_pls (n := 1) (k' := 55) (lo' := [some (.ref 14)]) (S' := [.ref 14]) (h' := h1) rfl ?_
      refine qg_call (v := some (.int (nI w))) (h' := h2) (as := [.ref 14]) rfl rfl rfl rfl rfl rfl rfl (ai_rcv1 rfl rfl ((mcs_rcv hc1).choose_spec)) (g2) ?_
      show qg L xs _ qm_131 56 [some (.ref 14)] [.int (nI w)] h2 _
      exact qg_ret5 rfl rfl rfl
  have tCOMMIT := t
  clear t
  by_cases t : ztk e s.1 = 63
  · rw [if_neg (by omega), if_neg (by omega), if_neg (by omega), if_neg (by omega), if_neg (by omega), if_neg (by omega), if_neg (by omega), if_neg (by omega), if_pos t] at hz
    have road : ∀ o, qg L xs (d + 14) qm_131 59 [some (.ref 14)] [.retAddr (qr_en.getD 63 (0, 0)).1, .ref 14] h o → qe L xs (d + 15) 131 [.ref 14] h o := by
      intro o hg
      refine qe_of (M := qm_131) rfl rfl ?_
      show qg L xs _ qm_131 0 [some (.ref 14)] [] h _
      refine qg_pls (n := 2) (k' := 2) (lo' := [some (.ref 14)]) (S' := [.retAddr 1080, .ref 14]) (h' := h) rfl ?_
      refine qg_call (v := some (.int 0)) (h' := h) (as := [.ref 14, .retAddr 1080]) rfl rfl rfl rfl rfl rfl rfl (ai_rcv1 rfl rfl (mcs_rcv hc).choose_spec) (by have hh := m_isWord (L := L) (xs := xs) (d := d) ht hc (k := 65) (by decide); rw [if_neg (show ¬ ztk e s.1 = 65 by omega)] at hh; exact qe_up (by omega) hh) ?_
      show qg L xs _ qm_131 3 [some (.ref 14)] [.int 0] h _
      refine qg_if true rfl (rfl) rfl ?_
      refine qg_pls (n := 2) (k' := 10) (lo' := [some (.ref 14)]) (S' := [.retAddr 1032, .ref 14]) (h' := h) rfl ?_
      refine qg_call (v := some (.int 0)) (h' := h) (as := [.ref 14, .retAddr 1032]) rfl rfl rfl rfl rfl rfl rfl (ai_rcv1 rfl rfl (mcs_rcv hc).choose_spec) (qe_up (by omega) (m_takes0 (L := L) (xs := xs) (d := d) ht hc (k := 17) (by decide) (show ¬ ztk e s.1 = 17 by omega))) ?_
      show qg L xs _ qm_131 11 [some (.ref 14)] [.int 0] h _
      refine qg_if true rfl (rfl) rfl ?_
      refine qg_pls (n := 2) (k' := 17) (lo' := [some (.ref 14)]) (S' := [.retAddr 1038, .ref 14]) (h' := h) rfl ?_
      refine qg_call (v := some (.int 0)) (h' := h) (as := [.ref 14, .retAddr 1038]) rfl rfl rfl rfl rfl rfl rfl (ai_rcv1 rfl rfl (mcs_rcv hc).choose_spec) (qe_up (by omega) (m_takes0 (L := L) (xs := xs) (d := d) ht hc (k := 23) (by decide) (show ¬ ztk e s.1 = 23 by omega))) ?_
      show qg L xs _ qm_131 18 [some (.ref 14)] [.int 0] h _
      refine qg_if true rfl (rfl) rfl ?_
      refine qg_pls (n := 2) (k' := 24) (lo' := [some (.ref 14)]) (S' := [.retAddr 1049, .ref 14]) (h' := h) rfl ?_
      refine qg_call (v := some (.int 0)) (h' := h) (as := [.ref 14, .retAddr 1049]) rfl rfl rfl rfl rfl rfl rfl (ai_rcv1 rfl rfl (mcs_rcv hc).choose_spec) (qe_up (by omega) (m_takes0 (L := L) (xs := xs) (d := d) ht hc (k := 34) (by decide) (show ¬ ztk e s.1 = 34 by omega))) ?_
      show qg L xs _ qm_131 25 [some (.ref 14)] [.int 0] h _
      refine qg_if true rfl (rfl) rfl ?_
      refine qg_pls (n := 2) (k' := 31) (lo' := [some (.ref 14)]) (S' := [.retAddr 1091, .ref 14]) (h' := h) rfl ?_
      refine qg_call (v := some (.int 0)) (h' := h) (as := [.ref 14, .retAddr 1091]) rfl rfl rfl rfl rfl rfl rfl (ai_rcv1 rfl rfl (mcs_rcv hc).choose_spec) (qe_up (by omega) (m_takes0 (L := L) (xs := xs) (d := d) ht hc (k := 77) (by decide) (show ¬ ztk e s.1 = 77 by omega))) ?_
      show qg L xs _ qm_131 32 [some (.ref 14)] [.int 0] h _
      refine qg_if true rfl (rfl) rfl ?_
      refine qg_pls (n := 2) (k' := 38) (lo' := [some (.ref 14)]) (S' := [.retAddr 1035, .ref 14]) (h' := h) rfl ?_
      refine qg_call (v := some (.int 0)) (h' := h) (as := [.ref 14, .retAddr 1035]) rfl rfl rfl rfl rfl rfl rfl (ai_rcv1 rfl rfl (mcs_rcv hc).choose_spec) (qe_up (by omega) (m_takes0 (L := L) (xs := xs) (d := d) ht hc (k := 20) (by decide) (show ¬ ztk e s.1 = 20 by omega))) ?_
      show qg L xs _ qm_131 39 [some (.ref 14)] [.int 0] h _
      refine qg_if true rfl (rfl) rfl ?_
      refine qg_pls (n := 2) (k' := 45) (lo' := [some (.ref 14)]) (S' := [.retAddr 1021, .ref 14]) (h' := h) rfl ?_
      refine qg_call (v := some (.int 0)) (h' := h) (as := [.ref 14, .retAddr 1021]) rfl rfl rfl rfl rfl rfl rfl (ai_rcv1 rfl rfl (mcs_rcv hc).choose_spec) (qe_up (by omega) (m_takes0 (L := L) (xs := xs) (d := d) ht hc (k := 6) (by decide) (show ¬ ztk e s.1 = 6 by omega))) ?_
      show qg L xs _ qm_131 46 [some (.ref 14)] [.int 0] h _
      refine qg_if true rfl (rfl) rfl ?_
      refine qg_pls (n := 2) (k' := 52) (lo' := [some (.ref 14)]) (S' := [.retAddr 1029, .ref 14]) (h' := h) rfl ?_
      refine qg_call (v := some (.int 0)) (h' := h) (as := [.ref 14, .retAddr 1029]) rfl rfl rfl rfl rfl rfl rfl (ai_rcv1 rfl rfl (mcs_rcv hc).choose_spec) (qe_up (by omega) (m_takes0 (L := L) (xs := xs) (d := d) ht hc (k := 14) (by decide) (show ¬ ztk e s.1 = 14 by omega))) ?_
      show qg L xs _ qm_131 53 [some (.ref 14)] [.int 0] h _
      refine qg_if true rfl (rfl) rfl ?_
      refine qg_pls (n := 2) (k' := 59) (lo' := [some (.ref 14)]) (S' := [.retAddr 1078, .ref 14]) (h' := h) rfl ?_
      exact hg
    obtain ⟨h1, g1, hc1⟩ := m_firstT (L := L) (xs := xs) (d := d + 6) ht hc (k := 63) (by decide) (by decide) t
    have hc1 := mcs_weak (K := mfw K) (by omega) hc1
    have hz := z_first (f := zd_rollback e) (by decide) t hz
    obtain ⟨h2, g2, hp2⟩ := (show mim L xs e Y (mfw K) (d + 14) _ _ 1 (zd_rollback e) from (mim_up (ms_rollback (d := d) ht) (by omega))) _ _ _ _ _ hc1 hz
    refine ⟨h2, road _ ?_, hp2⟩
    cases v with
    | none =>
      refine qg_call (v := some (.int 1)) (h' := h1) (as := [.ref 14, .retAddr (qr_en.getD 63 (0, 0)).1]) rfl rfl rfl rfl rfl rfl rfl (ai_rcv1 rfl rfl ((mcs_rcv hc).choose_spec)) (g1) ?_
      show qg L xs _ qm_131 60 [some (.ref 14)] [.int 1] h1 _
      refine qg_if false rfl (rfl) rfl ?_
      refine qg_pls (n := 1) (k' := 62) (lo' := [some (.ref 14)]) (S' := [.ref 14]) (h' := h1) rfl ?_
      exact qg_callT rfl rfl rfl rfl rfl rfl rfl (ai_rcv1 rfl rfl ((mcs_rcv hc1).choose_spec)) rfl (g2)
    | some w =>
      refine qg_call (v := some (.int 1)) (h' := h1) (as := [.ref 14, .retAddr (qr_en.getD 63 (0, 0)).1]) rfl rfl rfl rfl rfl rfl rfl (ai_rcv1 rfl rfl ((mcs_rcv hc).choose_spec)) (g1) ?_
      show qg L xs _ qm_131 60 [some (.ref 14)] [.int 1] h1 _
      refine qg_if false rfl (rfl) rfl ?_
      refine qg_pls (n := 1) (k' := 62) (lo' := [some (.ref 14)]) (S' := [.ref 14]) (h' := h1) rfl ?_
      refine qg_call (v := some (.int (nI w))) (h' := h2) (as := [.ref 14]) rfl rfl rfl rfl rfl rfl rfl (ai_rcv1 rfl rfl ((mcs_rcv hc1).choose_spec)) (g2) ?_
      show qg L xs _ qm_131 63 [some (.ref 14)] [.int (nI w)] h2 _
      exact qg_ret5 rfl rfl rfl
  have tROLLBACK := t
  clear t
  by_cases t : ztk e s.1 = 64
  · rw [if_neg (by omega), if_neg (by omega), if_neg (by omega), if_neg (by omega), if_neg (by omega), if_neg (by omega), if_neg (by omega), if_neg (by omega), if_neg (by omega), if_pos t] at hz
    have road : ∀ o, qg L xs (d + 14) qm_131 66 [some (.ref 14)] [.retAddr (qr_en.getD 64 (0, 0)).1, .ref 14] h o → qe L xs (d + 15) 131 [.ref 14] h o := by
      intro o hg
      refine qe_of (M := qm_131) rfl rfl ?_
      show qg L xs _ qm_131 0 [some (.ref 14)] [] h _
      refine qg_pls (n := 2) (k' := 2) (lo' := [some (.ref 14)]) (S' := [.retAddr 1080, .ref 14]) (h' := h) rfl ?_
      refine qg_call (v := some (.int 0)) (h' := h) (as := [.ref 14, .retAddr 1080]) rfl rfl rfl rfl rfl rfl rfl (ai_rcv1 rfl rfl (mcs_rcv hc).choose_spec) (by have hh := m_isWord (L := L) (xs := xs) (d := d) ht hc (k := 65) (by decide); rw [if_neg (show ¬ ztk e s.1 = 65 by omega)] at hh; exact qe_up (by omega) hh) ?_
      show qg L xs _ qm_131 3 [some (.ref 14)] [.int 0] h _
      refine qg_if true rfl (rfl) rfl ?_
      refine qg_pls (n := 2) (k' := 10) (lo' := [some (.ref 14)]) (S' := [.retAddr 1032, .ref 14]) (h' := h) rfl ?_
      refine qg_call (v := some (.int 0)) (h' := h) (as := [.ref 14, .retAddr 1032]) rfl rfl rfl rfl rfl rfl rfl (ai_rcv1 rfl rfl (mcs_rcv hc).choose_spec) (qe_up (by omega) (m_takes0 (L := L) (xs := xs) (d := d) ht hc (k := 17) (by decide) (show ¬ ztk e s.1 = 17 by omega))) ?_
      show qg L xs _ qm_131 11 [some (.ref 14)] [.int 0] h _
      refine qg_if true rfl (rfl) rfl ?_
      refine qg_pls (n := 2) (k' := 17) (lo' := [some (.ref 14)]) (S' := [.retAddr 1038, .ref 14]) (h' := h) rfl ?_
      refine qg_call (v := some (.int 0)) (h' := h) (as := [.ref 14, .retAddr 1038]) rfl rfl rfl rfl rfl rfl rfl (ai_rcv1 rfl rfl (mcs_rcv hc).choose_spec) (qe_up (by omega) (m_takes0 (L := L) (xs := xs) (d := d) ht hc (k := 23) (by decide) (show ¬ ztk e s.1 = 23 by omega))) ?_
      show qg L xs _ qm_131 18 [some (.ref 14)] [.int 0] h _
      refine qg_if true rfl (rfl) rfl ?_
      refine qg_pls (n := 2) (k' := 24) (lo' := [some (.ref 14)]) (S' := [.retAddr 1049, .ref 14]) (h' := h) rfl ?_
      refine qg_call (v := some (.int 0)) (h' := h) (as := [.ref 14, .retAddr 1049]) rfl rfl rfl rfl rfl rfl rfl (ai_rcv1 rfl rfl (mcs_rcv hc).choose_spec) (qe_up (by omega) (m_takes0 (L := L) (xs := xs) (d := d) ht hc (k := 34) (by decide) (show ¬ ztk e s.1 = 34 by omega))) ?_
      show qg L xs _ qm_131 25 [some (.ref 14)] [.int 0] h _
      refine qg_if true rfl (rfl) rfl ?_
      refine qg_pls (n := 2) (k' := 31) (lo' := [some (.ref 14)]) (S' := [.retAddr 1091, .ref 14]) (h' := h) rfl ?_
      refine qg_call (v := some (.int 0)) (h' := h) (as := [.ref 14, .retAddr 1091]) rfl rfl rfl rfl rfl rfl rfl (ai_rcv1 rfl rfl (mcs_rcv hc).choose_spec) (qe_up (by omega) (m_takes0 (L := L) (xs := xs) (d := d) ht hc (k := 77) (by decide) (show ¬ ztk e s.1 = 77 by omega))) ?_
      show qg L xs _ qm_131 32 [some (.ref 14)] [.int 0] h _
      refine qg_if true rfl (rfl) rfl ?_
      refine qg_pls (n := 2) (k' := 38) (lo' := [some (.ref 14)]) (S' := [.retAddr 1035, .ref 14]) (h' := h) rfl ?_
      refine qg_call (v := some (.int 0)) (h' := h) (as := [.ref 14, .retAddr 1035]) rfl rfl rfl rfl rfl rfl rfl (ai_rcv1 rfl rfl (mcs_rcv hc).choose_spec) (qe_up (by omega) (m_takes0 (L := L) (xs := xs) (d := d) ht hc (k := 20) (by decide) (show ¬ ztk e s.1 = 20 by omega))) ?_
      show qg L xs _ qm_131 39 [some (.ref 14)] [.int 0] h _
      refine qg_if true rfl (rfl) rfl ?_
      refine qg_pls (n := 2) (k' := 45) (lo' := [some (.ref 14)]) (S' := [.retAddr 1021, .ref 14]) (h' := h) rfl ?_
      refine qg_call (v := some (.int 0)) (h' := h) (as := [.ref 14, .retAddr 1021]) rfl rfl rfl rfl rfl rfl rfl (ai_rcv1 rfl rfl (mcs_rcv hc).choose_spec) (qe_up (by omega) (m_takes0 (L := L) (xs := xs) (d := d) ht hc (k := 6) (by decide) (show ¬ ztk e s.1 = 6 by omega))) ?_
      show qg L xs _ qm_131 46 [some (.ref 14)] [.int 0] h _
      refine qg_if true rfl (rfl) rfl ?_
      refine qg_pls (n := 2) (k' := 52) (lo' := [some (.ref 14)]) (S' := [.retAddr 1029, .ref 14]) (h' := h) rfl ?_
      refine qg_call (v := some (.int 0)) (h' := h) (as := [.ref 14, .retAddr 1029]) rfl rfl rfl rfl rfl rfl rfl (ai_rcv1 rfl rfl (mcs_rcv hc).choose_spec) (qe_up (by omega) (m_takes0 (L := L) (xs := xs) (d := d) ht hc (k := 14) (by decide) (show ¬ ztk e s.1 = 14 by omega))) ?_
      show qg L xs _ qm_131 53 [some (.ref 14)] [.int 0] h _
      refine qg_if true rfl (rfl) rfl ?_
      refine qg_pls (n := 2) (k' := 59) (lo' := [some (.ref 14)]) (S' := [.retAddr 1078, .ref 14]) (h' := h) rfl ?_
      refine qg_call (v := some (.int 0)) (h' := h) (as := [.ref 14, .retAddr 1078]) rfl rfl rfl rfl rfl rfl rfl (ai_rcv1 rfl rfl (mcs_rcv hc).choose_spec) (qe_up (by omega) (m_takes0 (L := L) (xs := xs) (d := d) ht hc (k := 63) (by decide) (show ¬ ztk e s.1 = 63 by omega))) ?_
      show qg L xs _ qm_131 60 [some (.ref 14)] [.int 0] h _
      refine qg_if true rfl (rfl) rfl ?_
      refine qg_pls (n := 2) (k' := 66) (lo' := [some (.ref 14)]) (S' := [.retAddr 1079, .ref 14]) (h' := h) rfl ?_
      exact hg
    obtain ⟨h1, g1, hc1⟩ := m_firstT (L := L) (xs := xs) (d := d + 6) ht hc (k := 64) (by decide) (by decide) t
    have hc1 := mcs_weak (K := mfw K) (by omega) hc1
    have hz := z_first (f := zq (znm e) (zv 12)) (by decide) t hz
    obtain ⟨h2, g2, hp2⟩ := (show mim L xs e Y (mfw K) (d + 14) _ _ 1 (zq (znm e) (zv 12)) from (mim_up (ms_named12 (d := d) ht) (by omega))) _ _ _ _ _ hc1 hz
    refine ⟨h2, road _ ?_, hp2⟩
    cases v with
    | none =>
      refine qg_call (v := some (.int 1)) (h' := h1) (as := [.ref 14, .retAddr (qr_en.getD 64 (0, 0)).1]) rfl rfl rfl rfl rfl rfl rfl (ai_rcv1 rfl rfl ((mcs_rcv hc).choose_spec)) (g1) ?_
      show qg L xs _ qm_131 67 [some (.ref 14)] [.int 1] h1 _
      refine qg_if false rfl (rfl) rfl ?_
      refine qg_pls (n := 3) (k' := 71) (lo' := [some (.ref 14)]) (S' := [.int 2, .int 12, .ref 14]) (h' := h1) rfl ?_
      exact qg_callT rfl rfl rfl rfl rfl rfl rfl (ai_rcv1 rfl rfl ((mcs_rcv hc1).choose_spec)) rfl (g2)
    | some w =>
      refine qg_call (v := some (.int 1)) (h' := h1) (as := [.ref 14, .retAddr (qr_en.getD 64 (0, 0)).1]) rfl rfl rfl rfl rfl rfl rfl (ai_rcv1 rfl rfl ((mcs_rcv hc).choose_spec)) (g1) ?_
      show qg L xs _ qm_131 67 [some (.ref 14)] [.int 1] h1 _
      refine qg_if false rfl (rfl) rfl ?_
      refine qg_pls (n := 3) (k' := 71) (lo' := [some (.ref 14)]) (S' := [.int 2, .int 12, .ref 14]) (h' := h1) rfl ?_
      refine qg_call (v := some (.int (nI w))) (h' := h2) (as := [.ref 14, .int 12, .int 2]) rfl rfl rfl rfl rfl rfl rfl (ai_rcv1 rfl rfl ((mcs_rcv hc1).choose_spec)) (g2) ?_
      show qg L xs _ qm_131 72 [some (.ref 14)] [.int (nI w)] h2 _
      exact qg_ret5 rfl rfl rfl
  have tSAVEPOINT := t
  clear t
  by_cases t : ztk e s.1 = 57
  · rw [if_neg (by omega), if_neg (by omega), if_neg (by omega), if_neg (by omega), if_neg (by omega), if_neg (by omega), if_neg (by omega), if_neg (by omega), if_neg (by omega), if_neg (by omega), if_neg (by omega), if_pos t] at hz
    have road : ∀ o, qg L xs (d + 14) qm_131 75 [some (.ref 14)] [.retAddr (qr_en.getD 57 (0, 0)).1, .ref 14] h o → qe L xs (d + 15) 131 [.ref 14] h o := by
      intro o hg
      refine qe_of (M := qm_131) rfl rfl ?_
      show qg L xs _ qm_131 0 [some (.ref 14)] [] h _
      refine qg_pls (n := 2) (k' := 2) (lo' := [some (.ref 14)]) (S' := [.retAddr 1080, .ref 14]) (h' := h) rfl ?_
      refine qg_call (v := some (.int 0)) (h' := h) (as := [.ref 14, .retAddr 1080]) rfl rfl rfl rfl rfl rfl rfl (ai_rcv1 rfl rfl (mcs_rcv hc).choose_spec) (by have hh := m_isWord (L := L) (xs := xs) (d := d) ht hc (k := 65) (by decide); rw [if_neg (show ¬ ztk e s.1 = 65 by omega)] at hh; exact qe_up (by omega) hh) ?_
      show qg L xs _ qm_131 3 [some (.ref 14)] [.int 0] h _
      refine qg_if true rfl (rfl) rfl ?_
      refine qg_pls (n := 2) (k' := 10) (lo' := [some (.ref 14)]) (S' := [.retAddr 1032, .ref 14]) (h' := h) rfl ?_
      refine qg_call (v := some (.int 0)) (h' := h) (as := [.ref 14, .retAddr 1032]) rfl rfl rfl rfl rfl rfl rfl (ai_rcv1 rfl rfl (mcs_rcv hc).choose_spec) (qe_up (by omega) (m_takes0 (L := L) (xs := xs) (d := d) ht hc (k := 17) (by decide) (show ¬ ztk e s.1 = 17 by omega))) ?_
      show qg L xs _ qm_131 11 [some (.ref 14)] [.int 0] h _
      refine qg_if true rfl (rfl) rfl ?_
      refine qg_pls (n := 2) (k' := 17) (lo' := [some (.ref 14)]) (S' := [.retAddr 1038, .ref 14]) (h' := h) rfl ?_
      refine qg_call (v := some (.int 0)) (h' := h) (as := [.ref 14, .retAddr 1038]) rfl rfl rfl rfl rfl rfl rfl (ai_rcv1 rfl rfl (mcs_rcv hc).choose_spec) (qe_up (by omega) (m_takes0 (L := L) (xs := xs) (d := d) ht hc (k := 23) (by decide) (show ¬ ztk e s.1 = 23 by omega))) ?_
      show qg L xs _ qm_131 18 [some (.ref 14)] [.int 0] h _
      refine qg_if true rfl (rfl) rfl ?_
      refine qg_pls (n := 2) (k' := 24) (lo' := [some (.ref 14)]) (S' := [.retAddr 1049, .ref 14]) (h' := h) rfl ?_
      refine qg_call (v := some (.int 0)) (h' := h) (as := [.ref 14, .retAddr 1049]) rfl rfl rfl rfl rfl rfl rfl (ai_rcv1 rfl rfl (mcs_rcv hc).choose_spec) (qe_up (by omega) (m_takes0 (L := L) (xs := xs) (d := d) ht hc (k := 34) (by decide) (show ¬ ztk e s.1 = 34 by omega))) ?_
      show qg L xs _ qm_131 25 [some (.ref 14)] [.int 0] h _
      refine qg_if true rfl (rfl) rfl ?_
      refine qg_pls (n := 2) (k' := 31) (lo' := [some (.ref 14)]) (S' := [.retAddr 1091, .ref 14]) (h' := h) rfl ?_
      refine qg_call (v := some (.int 0)) (h' := h) (as := [.ref 14, .retAddr 1091]) rfl rfl rfl rfl rfl rfl rfl (ai_rcv1 rfl rfl (mcs_rcv hc).choose_spec) (qe_up (by omega) (m_takes0 (L := L) (xs := xs) (d := d) ht hc (k := 77) (by decide) (show ¬ ztk e s.1 = 77 by omega))) ?_
      show qg L xs _ qm_131 32 [some (.ref 14)] [.int 0] h _
      refine qg_if true rfl (rfl) rfl ?_
      refine qg_pls (n := 2) (k' := 38) (lo' := [some (.ref 14)]) (S' := [.retAddr 1035, .ref 14]) (h' := h) rfl ?_
      refine qg_call (v := some (.int 0)) (h' := h) (as := [.ref 14, .retAddr 1035]) rfl rfl rfl rfl rfl rfl rfl (ai_rcv1 rfl rfl (mcs_rcv hc).choose_spec) (qe_up (by omega) (m_takes0 (L := L) (xs := xs) (d := d) ht hc (k := 20) (by decide) (show ¬ ztk e s.1 = 20 by omega))) ?_
      show qg L xs _ qm_131 39 [some (.ref 14)] [.int 0] h _
      refine qg_if true rfl (rfl) rfl ?_
      refine qg_pls (n := 2) (k' := 45) (lo' := [some (.ref 14)]) (S' := [.retAddr 1021, .ref 14]) (h' := h) rfl ?_
      refine qg_call (v := some (.int 0)) (h' := h) (as := [.ref 14, .retAddr 1021]) rfl rfl rfl rfl rfl rfl rfl (ai_rcv1 rfl rfl (mcs_rcv hc).choose_spec) (qe_up (by omega) (m_takes0 (L := L) (xs := xs) (d := d) ht hc (k := 6) (by decide) (show ¬ ztk e s.1 = 6 by omega))) ?_
      show qg L xs _ qm_131 46 [some (.ref 14)] [.int 0] h _
      refine qg_if true rfl (rfl) rfl ?_
      refine qg_pls (n := 2) (k' := 52) (lo' := [some (.ref 14)]) (S' := [.retAddr 1029, .ref 14]) (h' := h) rfl ?_
      refine qg_call (v := some (.int 0)) (h' := h) (as := [.ref 14, .retAddr 1029]) rfl rfl rfl rfl rfl rfl rfl (ai_rcv1 rfl rfl (mcs_rcv hc).choose_spec) (qe_up (by omega) (m_takes0 (L := L) (xs := xs) (d := d) ht hc (k := 14) (by decide) (show ¬ ztk e s.1 = 14 by omega))) ?_
      show qg L xs _ qm_131 53 [some (.ref 14)] [.int 0] h _
      refine qg_if true rfl (rfl) rfl ?_
      refine qg_pls (n := 2) (k' := 59) (lo' := [some (.ref 14)]) (S' := [.retAddr 1078, .ref 14]) (h' := h) rfl ?_
      refine qg_call (v := some (.int 0)) (h' := h) (as := [.ref 14, .retAddr 1078]) rfl rfl rfl rfl rfl rfl rfl (ai_rcv1 rfl rfl (mcs_rcv hc).choose_spec) (qe_up (by omega) (m_takes0 (L := L) (xs := xs) (d := d) ht hc (k := 63) (by decide) (show ¬ ztk e s.1 = 63 by omega))) ?_
      show qg L xs _ qm_131 60 [some (.ref 14)] [.int 0] h _
      refine qg_if true rfl (rfl) rfl ?_
      refine qg_pls (n := 2) (k' := 66) (lo' := [some (.ref 14)]) (S' := [.retAddr 1079, .ref 14]) (h' := h) rfl ?_
      refine qg_call (v := some (.int 0)) (h' := h) (as := [.ref 14, .retAddr 1079]) rfl rfl rfl rfl rfl rfl rfl (ai_rcv1 rfl rfl (mcs_rcv hc).choose_spec) (qe_up (by omega) (m_takes0 (L := L) (xs := xs) (d := d) ht hc (k := 64) (by decide) (show ¬ ztk e s.1 = 64 by omega))) ?_
      show qg L xs _ qm_131 67 [some (.ref 14)] [.int 0] h _
      refine qg_if true rfl (rfl) rfl ?_
      refine qg_pls (n := 2) (k' := 75) (lo' := [some (.ref 14)]) (S' := [.retAddr 1072, .ref 14]) (h' := h) rfl ?_
      exact hg
    obtain ⟨h1, g1, hc1⟩ := m_firstT (L := L) (xs := xs) (d := d + 6) ht hc (k := 57) (by decide) (by decide) t
    have hc1 := mcs_weak (K := mfw K) (by omega) hc1
    have hz := z_first (f := zq (znu e) (zv 15)) (by decide) t hz
    obtain ⟨h2, g2, hp2⟩ := (show mim L xs e Y (mfw K) (d + 14) _ _ 1 (zq (znu e) (zv 15)) from (mim_up (ms_named15 (d := d) ht) (by omega))) _ _ _ _ _ hc1 hz
    refine ⟨h2, road _ ?_, hp2⟩
    cases v with
    | none =>
      refine qg_call (v := some (.int 1)) (h' := h1) (as := [.ref 14, .retAddr (qr_en.getD 57 (0, 0)).1]) rfl rfl rfl rfl rfl rfl rfl (ai_rcv1 rfl rfl ((mcs_rcv hc).choose_spec)) (g1) ?_
      show qg L xs _ qm_131 76 [some (.ref 14)] [.int 1] h1 _
      refine qg_if false rfl (rfl) rfl ?_
      refine qg_pls (n := 3) (k' := 80) (lo' := [some (.ref 14)]) (S' := [.int 3, .int 15, .ref 14]) (h' := h1) rfl ?_
      exact qg_callT rfl rfl rfl rfl rfl rfl rfl (ai_rcv1 rfl rfl ((mcs_rcv hc1).choose_spec)) rfl (g2)
    | some w =>
      refine qg_call (v := some (.int 1)) (h' := h1) (as := [.ref 14, .retAddr (qr_en.getD 57 (0, 0)).1]) rfl rfl rfl rfl rfl rfl rfl (ai_rcv1 rfl rfl ((mcs_rcv hc).choose_spec)) (g1) ?_
      show qg L xs _ qm_131 76 [some (.ref 14)] [.int 1] h1 _
      refine qg_if false rfl (rfl) rfl ?_
      refine qg_pls (n := 3) (k' := 80) (lo' := [some (.ref 14)]) (S' := [.int 3, .int 15, .ref 14]) (h' := h1) rfl ?_
      refine qg_call (v := some (.int (nI w))) (h' := h2) (as := [.ref 14, .int 15, .int 3]) rfl rfl rfl rfl rfl rfl rfl (ai_rcv1 rfl rfl ((mcs_rcv hc1).choose_spec)) (g2) ?_
      show qg L xs _ qm_131 81 [some (.ref 14)] [.int (nI w)] h2 _
      exact qg_ret5 rfl rfl rfl
  have tPREPARE := t
  clear t
  by_cases t : ztk e s.1 = 44
  · rw [if_neg (by omega), if_neg (by omega), if_neg (by omega), if_neg (by omega), if_neg (by omega), if_neg (by omega), if_neg (by omega), if_neg (by omega), if_neg (by omega), if_neg (by omega), if_pos t] at hz
    have road : ∀ o, qg L xs (d + 14) qm_131 84 [some (.ref 14)] [.retAddr (qr_en.getD 44 (0, 0)).1, .ref 14] h o → qe L xs (d + 15) 131 [.ref 14] h o := by
      intro o hg
      refine qe_of (M := qm_131) rfl rfl ?_
      show qg L xs _ qm_131 0 [some (.ref 14)] [] h _
      refine qg_pls (n := 2) (k' := 2) (lo' := [some (.ref 14)]) (S' := [.retAddr 1080, .ref 14]) (h' := h) rfl ?_
      refine qg_call (v := some (.int 0)) (h' := h) (as := [.ref 14, .retAddr 1080]) rfl rfl rfl rfl rfl rfl rfl (ai_rcv1 rfl rfl (mcs_rcv hc).choose_spec) (by have hh := m_isWord (L := L) (xs := xs) (d := d) ht hc (k := 65) (by decide); rw [if_neg (show ¬ ztk e s.1 = 65 by omega)] at hh; exact qe_up (by omega) hh) ?_
      show qg L xs _ qm_131 3 [some (.ref 14)] [.int 0] h _
      refine qg_if true rfl (rfl) rfl ?_
      refine qg_pls (n := 2) (k' := 10) (lo' := [some (.ref 14)]) (S' := [.retAddr 1032, .ref 14]) (h' := h) rfl ?_
      refine qg_call (v := some (.int 0)) (h' := h) (as := [.ref 14, .retAddr 1032]) rfl rfl rfl rfl rfl rfl rfl (ai_rcv1 rfl rfl (mcs_rcv hc).choose_spec) (qe_up (by omega) (m_takes0 (L := L) (xs := xs) (d := d) ht hc (k := 17) (by decide) (show ¬ ztk e s.1 = 17 by omega))) ?_
      show qg L xs _ qm_131 11 [some (.ref 14)] [.int 0] h _
      refine qg_if true rfl (rfl) rfl ?_
      refine qg_pls (n := 2) (k' := 17) (lo' := [some (.ref 14)]) (S' := [.retAddr 1038, .ref 14]) (h' := h) rfl ?_
      refine qg_call (v := some (.int 0)) (h' := h) (as := [.ref 14, .retAddr 1038]) rfl rfl rfl rfl rfl rfl rfl (ai_rcv1 rfl rfl (mcs_rcv hc).choose_spec) (qe_up (by omega) (m_takes0 (L := L) (xs := xs) (d := d) ht hc (k := 23) (by decide) (show ¬ ztk e s.1 = 23 by omega))) ?_
      show qg L xs _ qm_131 18 [some (.ref 14)] [.int 0] h _
      refine qg_if true rfl (rfl) rfl ?_
      refine qg_pls (n := 2) (k' := 24) (lo' := [some (.ref 14)]) (S' := [.retAddr 1049, .ref 14]) (h' := h) rfl ?_
      refine qg_call (v := some (.int 0)) (h' := h) (as := [.ref 14, .retAddr 1049]) rfl rfl rfl rfl rfl rfl rfl (ai_rcv1 rfl rfl (mcs_rcv hc).choose_spec) (qe_up (by omega) (m_takes0 (L := L) (xs := xs) (d := d) ht hc (k := 34) (by decide) (show ¬ ztk e s.1 = 34 by omega))) ?_
      show qg L xs _ qm_131 25 [some (.ref 14)] [.int 0] h _
      refine qg_if true rfl (rfl) rfl ?_
      refine qg_pls (n := 2) (k' := 31) (lo' := [some (.ref 14)]) (S' := [.retAddr 1091, .ref 14]) (h' := h) rfl ?_
      refine qg_call (v := some (.int 0)) (h' := h) (as := [.ref 14, .retAddr 1091]) rfl rfl rfl rfl rfl rfl rfl (ai_rcv1 rfl rfl (mcs_rcv hc).choose_spec) (qe_up (by omega) (m_takes0 (L := L) (xs := xs) (d := d) ht hc (k := 77) (by decide) (show ¬ ztk e s.1 = 77 by omega))) ?_
      show qg L xs _ qm_131 32 [some (.ref 14)] [.int 0] h _
      refine qg_if true rfl (rfl) rfl ?_
      refine qg_pls (n := 2) (k' := 38) (lo' := [some (.ref 14)]) (S' := [.retAddr 1035, .ref 14]) (h' := h) rfl ?_
      refine qg_call (v := some (.int 0)) (h' := h) (as := [.ref 14, .retAddr 1035]) rfl rfl rfl rfl rfl rfl rfl (ai_rcv1 rfl rfl (mcs_rcv hc).choose_spec) (qe_up (by omega) (m_takes0 (L := L) (xs := xs) (d := d) ht hc (k := 20) (by decide) (show ¬ ztk e s.1 = 20 by omega))) ?_
      show qg L xs _ qm_131 39 [some (.ref 14)] [.int 0] h _
      refine qg_if true rfl (rfl) rfl ?_
      refine qg_pls (n := 2) (k' := 45) (lo' := [some (.ref 14)]) (S' := [.retAddr 1021, .ref 14]) (h' := h) rfl ?_
      refine qg_call (v := some (.int 0)) (h' := h) (as := [.ref 14, .retAddr 1021]) rfl rfl rfl rfl rfl rfl rfl (ai_rcv1 rfl rfl (mcs_rcv hc).choose_spec) (qe_up (by omega) (m_takes0 (L := L) (xs := xs) (d := d) ht hc (k := 6) (by decide) (show ¬ ztk e s.1 = 6 by omega))) ?_
      show qg L xs _ qm_131 46 [some (.ref 14)] [.int 0] h _
      refine qg_if true rfl (rfl) rfl ?_
      refine qg_pls (n := 2) (k' := 52) (lo' := [some (.ref 14)]) (S' := [.retAddr 1029, .ref 14]) (h' := h) rfl ?_
      refine qg_call (v := some (.int 0)) (h' := h) (as := [.ref 14, .retAddr 1029]) rfl rfl rfl rfl rfl rfl rfl (ai_rcv1 rfl rfl (mcs_rcv hc).choose_spec) (qe_up (by omega) (m_takes0 (L := L) (xs := xs) (d := d) ht hc (k := 14) (by decide) (show ¬ ztk e s.1 = 14 by omega))) ?_
      show qg L xs _ qm_131 53 [some (.ref 14)] [.int 0] h _
      refine qg_if true rfl (rfl) rfl ?_
      refine qg_pls (n := 2) (k' := 59) (lo' := [some (.ref 14)]) (S' := [.retAddr 1078, .ref 14]) (h' := h) rfl ?_
      refine qg_call (v := some (.int 0)) (h' := h) (as := [.ref 14, .retAddr 1078]) rfl rfl rfl rfl rfl rfl rfl (ai_rcv1 rfl rfl (mcs_rcv hc).choose_spec) (qe_up (by omega) (m_takes0 (L := L) (xs := xs) (d := d) ht hc (k := 63) (by decide) (show ¬ ztk e s.1 = 63 by omega))) ?_
      show qg L xs _ qm_131 60 [some (.ref 14)] [.int 0] h _
      refine qg_if true rfl (rfl) rfl ?_
      refine qg_pls (n := 2) (k' := 66) (lo' := [some (.ref 14)]) (S' := [.retAddr 1079, .ref 14]) (h' := h) rfl ?_
      refine qg_call (v := some (.int 0)) (h' := h) (as := [.ref 14, .retAddr 1079]) rfl rfl rfl rfl rfl rfl rfl (ai_rcv1 rfl rfl (mcs_rcv hc).choose_spec) (qe_up (by omega) (m_takes0 (L := L) (xs := xs) (d := d) ht hc (k := 64) (by decide) (show ¬ ztk e s.1 = 64 by omega))) ?_
      show qg L xs _ qm_131 67 [some (.ref 14)] [.int 0] h _
      refine qg_if true rfl (rfl) rfl ?_
      refine qg_pls (n := 2) (k' := 75) (lo' := [some (.ref 14)]) (S' := [.retAddr 1072, .ref 14]) (h' := h) rfl ?_
      refine qg_call (v := some (.int 0)) (h' := h) (as := [.ref 14, .retAddr 1072]) rfl rfl rfl rfl rfl rfl rfl (ai_rcv1 rfl rfl (mcs_rcv hc).choose_spec) (qe_up (by omega) (m_takes0 (L := L) (xs := xs) (d := d) ht hc (k := 57) (by decide) (show ¬ ztk e s.1 = 57 by omega))) ?_
      show qg L xs _ qm_131 76 [some (.ref 14)] [.int 0] h _
      refine qg_if true rfl (rfl) rfl ?_
      refine qg_pls (n := 2) (k' := 84) (lo' := [some (.ref 14)]) (S' := [.retAddr 1059, .ref 14]) (h' := h) rfl ?_
      exact hg
    obtain ⟨h1, g1, hc1⟩ := m_firstW (L := L) (xs := xs) (d := d + 6) ht hc (k := 44) (by decide) (by decide) t
    have hc1 := mcs_weak (K := mfw K) (by omega) hc1
    have hz := z_first (f := zd_lock e) (by decide) t hz
    obtain ⟨h2, g2, hp2⟩ := (show mim L xs e Y (mfw K) (d + 14) _ _ 1 (zd_lock e) from (mim_up (ms_lock (d := d) ht) (by omega))) _ _ _ _ _ hc1 hz
    refine ⟨h2, road _ ?_, hp2⟩
    cases v with
    | none =>
      refine qg_call (v := none) (h' := h1) (as := [.ref 14, .retAddr (qr_en.getD 44 (0, 0)).1]) rfl rfl rfl rfl rfl rfl rfl (ai_rcv1 rfl rfl ((mcs_rcv hc).choose_spec)) (g1) ?_
      show qg L xs _ qm_131 85 [some (.ref 14)] [] h1 _
      refine qg_pls (n := 1) (k' := 86) (lo' := [some (.ref 14)]) (S' := [.ref 14]) (h' := h1) rfl ?_
      exact qg_callT rfl rfl rfl rfl rfl rfl rfl (ai_rcv1 rfl rfl ((mcs_rcv hc1).choose_spec)) rfl (g2)
    | some w =>
      refine qg_call (v := none) (h' := h1) (as := [.ref 14, .retAddr (qr_en.getD 44 (0, 0)).1]) rfl rfl rfl rfl rfl rfl rfl (ai_rcv1 rfl rfl ((mcs_rcv hc).choose_spec)) (g1) ?_
      show qg L xs _ qm_131 85 [some (.ref 14)] [] h1 _
      refine qg_pls (n := 1) (k' := 86) (lo' := [some (.ref 14)]) (S' := [.ref 14]) (h' := h1) rfl ?_
      refine qg_call (v := some (.int (nI w))) (h' := h2) (as := [.ref 14]) rfl rfl rfl rfl rfl rfl rfl (ai_rcv1 rfl rfl ((mcs_rcv hc1).choose_spec)) (g2) ?_
      show qg L xs _ qm_131 87 [some (.ref 14)] [.int (nI w)] h2 _
      exact qg_ret5 rfl rfl rfl
  have tLOCK := t
  clear t
  -- none of them
  rw [if_neg (by omega), if_neg (by omega), if_neg (by omega), if_neg (by omega), if_neg (by omega), if_neg (by omega), if_neg (by omega), if_neg (by omega), if_neg (by omega), if_neg (by omega), if_neg (by omega), if_neg (by omega)] at hz
  cases hz
  refine ⟨_, ?_, (mcs_bad hc : mbad e Y K s _)⟩
  have road : ∀ o, qg L xs (d + 14) qm_131 84 [some (.ref 14)] [.retAddr (qr_en.getD 44 (0, 0)).1, .ref 14] h o → qe L xs (d + 15) 131 [.ref 14] h o := by
    intro o hg
    refine qe_of (M := qm_131) rfl rfl ?_
    show qg L xs _ qm_131 0 [some (.ref 14)] [] h _
    refine qg_pls (n := 2) (k' := 2) (lo' := [some (.ref 14)]) (S' := [.retAddr 1080, .ref 14]) (h' := h) rfl ?_
    refine qg_call (v := some (.int 0)) (h' := h) (as := [.ref 14, .retAddr 1080]) rfl rfl rfl rfl rfl rfl rfl (ai_rcv1 rfl rfl (mcs_rcv hc).choose_spec) (by have hh := m_isWord (L := L) (xs := xs) (d := d) ht hc (k := 65) (by decide); rw [if_neg (show ¬ ztk e s.1 = 65 by omega)] at hh; exact qe_up (by omega) hh) ?_
    show qg L xs _ qm_131 3 [some (.ref 14)] [.int 0] h _
    refine qg_if true rfl (rfl) rfl ?_
    refine qg_pls (n := 2) (k' := 10) (lo' := [some (.ref 14)]) (S' := [.retAddr 1032, .ref 14]) (h' := h) rfl ?_
    refine qg_call (v := some (.int 0)) (h' := h) (as := [.ref 14, .retAddr 1032]) rfl rfl rfl rfl rfl rfl rfl (ai_rcv1 rfl rfl (mcs_rcv hc).choose_spec) (qe_up (by omega) (m_takes0 (L := L) (xs := xs) (d := d) ht hc (k := 17) (by decide) (show ¬ ztk e s.1 = 17 by omega))) ?_
    show qg L xs _ qm_131 11 [some (.ref 14)] [.int 0] h _
    refine qg_if true rfl (rfl) rfl ?_
    refine qg_pls (n := 2) (k' := 17) (lo' := [some (.ref 14)]) (S' := [.retAddr 1038, .ref 14]) (h' := h) rfl ?_
    refine qg_call (v := some (.int 0)) (h' := h) (as := [.ref 14, .retAddr 1038]) rfl rfl rfl rfl rfl rfl rfl (ai_rcv1 rfl rfl (mcs_rcv hc).choose_spec) (qe_up (by omega) (m_takes0 (L := L) (xs := xs) (d := d) ht hc (k := 23) (by decide) (show ¬ ztk e s.1 = 23 by omega))) ?_
    show qg L xs _ qm_131 18 [some (.ref 14)] [.int 0] h _
    refine qg_if true rfl (rfl) rfl ?_
    refine qg_pls (n := 2) (k' := 24) (lo' := [some (.ref 14)]) (S' := [.retAddr 1049, .ref 14]) (h' := h) rfl ?_
    refine qg_call (v := some (.int 0)) (h' := h) (as := [.ref 14, .retAddr 1049]) rfl rfl rfl rfl rfl rfl rfl (ai_rcv1 rfl rfl (mcs_rcv hc).choose_spec) (qe_up (by omega) (m_takes0 (L := L) (xs := xs) (d := d) ht hc (k := 34) (by decide) (show ¬ ztk e s.1 = 34 by omega))) ?_
    show qg L xs _ qm_131 25 [some (.ref 14)] [.int 0] h _
    refine qg_if true rfl (rfl) rfl ?_
    refine qg_pls (n := 2) (k' := 31) (lo' := [some (.ref 14)]) (S' := [.retAddr 1091, .ref 14]) (h' := h) rfl ?_
    refine qg_call (v := some (.int 0)) (h' := h) (as := [.ref 14, .retAddr 1091]) rfl rfl rfl rfl rfl rfl rfl (ai_rcv1 rfl rfl (mcs_rcv hc).choose_spec) (qe_up (by omega) (m_takes0 (L := L) (xs := xs) (d := d) ht hc (k := 77) (by decide) (show ¬ ztk e s.1 = 77 by omega))) ?_
    show qg L xs _ qm_131 32 [some (.ref 14)] [.int 0] h _
    refine qg_if true rfl (rfl) rfl ?_
    refine qg_pls (n := 2) (k' := 38) (lo' := [some (.ref 14)]) (S' := [.retAddr 1035, .ref 14]) (h' := h) rfl ?_
    refine qg_call (v := some (.int 0)) (h' := h) (as := [.ref 14, .retAddr 1035]) rfl rfl rfl rfl rfl rfl rfl (ai_rcv1 rfl rfl (mcs_rcv hc).choose_spec) (qe_up (by omega) (m_takes0 (L := L) (xs := xs) (d := d) ht hc (k := 20) (by decide) (show ¬ ztk e s.1 = 20 by omega))) ?_
    show qg L xs _ qm_131 39 [some (.ref 14)] [.int 0] h _
    refine qg_if true rfl (rfl) rfl ?_
    refine qg_pls (n := 2) (k' := 45) (lo' := [some (.ref 14)]) (S' := [.retAddr 1021, .ref 14]) (h' := h) rfl ?_
    refine qg_call (v := some (.int 0)) (h' := h) (as := [.ref 14, .retAddr 1021]) rfl rfl rfl rfl rfl rfl rfl (ai_rcv1 rfl rfl (mcs_rcv hc).choose_spec) (qe_up (by omega) (m_takes0 (L := L) (xs := xs) (d := d) ht hc (k := 6) (by decide) (show ¬ ztk e s.1 = 6 by omega))) ?_
    show qg L xs _ qm_131 46 [some (.ref 14)] [.int 0] h _
    refine qg_if true rfl (rfl) rfl ?_
    refine qg_pls (n := 2) (k' := 52) (lo' := [some (.ref 14)]) (S' := [.retAddr 1029, .ref 14]) (h' := h) rfl ?_
    refine qg_call (v := some (.int 0)) (h' := h) (as := [.ref 14, .retAddr 1029]) rfl rfl rfl rfl rfl rfl rfl (ai_rcv1 rfl rfl (mcs_rcv hc).choose_spec) (qe_up (by omega) (m_takes0 (L := L) (xs := xs) (d := d) ht hc (k := 14) (by decide) (show ¬ ztk e s.1 = 14 by omega))) ?_
    show qg L xs _ qm_131 53 [some (.ref 14)] [.int 0] h _
    refine qg_if true rfl (rfl) rfl ?_
    refine qg_pls (n := 2) (k' := 59) (lo' := [some (.ref 14)]) (S' := [.retAddr 1078, .ref 14]) (h' := h) rfl ?_
    refine qg_call (v := some (.int 0)) (h' := h) (as := [.ref 14, .retAddr 1078]) rfl rfl rfl rfl rfl rfl rfl (ai_rcv1 rfl rfl (mcs_rcv hc).choose_spec) (qe_up (by omega) (m_takes0 (L := L) (xs := xs) (d := d) ht hc (k := 63) (by decide) (show ¬ ztk e s.1 = 63 by omega))) ?_
    show qg L xs _ qm_131 60 [some (.ref 14)] [.int 0] h _
    refine qg_if true rfl (rfl) rfl ?_
    refine qg_pls (n := 2) (k' := 66) (lo' := [some (.ref 14)]) (S' := [.retAddr 1079, .ref 14]) (h' := h) rfl ?_
    refine qg_call (v := some (.int 0)) (h' := h) (as := [.ref 14, .retAddr 1079]) rfl rfl rfl rfl rfl rfl rfl (ai_rcv1 rfl rfl (mcs_rcv hc).choose_spec) (qe_up (by omega) (m_takes0 (L := L) (xs := xs) (d := d) ht hc (k := 64) (by decide) (show ¬ ztk e s.1 = 64 by omega))) ?_
    show qg L xs _ qm_131 67 [some (.ref 14)] [.int 0] h _
    refine qg_if true rfl (rfl) rfl ?_
    refine qg_pls (n := 2) (k' := 75) (lo' := [some (.ref 14)]) (S' := [.retAddr 1072, .ref 14]) (h' := h) rfl ?_
    refine qg_call (v := some (.int 0)) (h' := h) (as := [.ref 14, .retAddr 1072]) rfl rfl rfl rfl rfl rfl rfl (ai_rcv1 rfl rfl (mcs_rcv hc).choose_spec) (qe_up (by omega) (m_takes0 (L := L) (xs := xs) (d := d) ht hc (k := 57) (by decide) (show ¬ ztk e s.1 = 57 by omega))) ?_
    show qg L xs _ qm_131 76 [some (.ref 14)] [.int 0] h _
    refine qg_if true rfl (rfl) rfl ?_
    refine qg_pls (n := 2) (k' := 84) (lo' := [some (.ref 14)]) (S' := [.retAddr 1059, .ref 14]) (h' := h) rfl ?_
    exact hg
  refine road _ ?_
  exact qg_callT rfl rfl rfl rfl rfl rfl rfl (ai_rcv1 rfl rfl ((mcs_rcv hc).choose_spec)) rfl (m_word0 (d := d + 6) ht hc (k := 44) (by decide) tLOCK)
/-- QueryReaderModel.whole: a statement, a semicolon or none, the end -/
def zd_end (e : zE) : zP := zq (zsi e 86) (zc e 102 (zv 0) zf)
theorem m_whole (ht : mtk e Y) (hex : mim L xs e Y (mfw K) d 140 [.ref 14] 0 ex) (hexq : mim L xs e Y (mfw K) d 140 [.ref 14] 0 exq) (hqy : mim L xs e Y (mfw K) d 133 [.ref 14] 0 (z_query e exq)) {v : Option Nat} (hc : mcs e Y K P s h) (hz : zbd (z_stmt e ex (z_query e exq) s) (fun k s => zbd (zd_end e s) fun _ s => some (some k, s)) = some (v, s')) : ∃ h', qe L xs (d + 16) 130 [.ref 14] h (qout 1 v, h') ∧ mpost e Y (mfw K) P v s' h' := by
  rcases zbd_inv hz with ⟨z1, rfl⟩ | ⟨w, s1, z1, hz⟩
  · obtain ⟨h1, g1, hb1⟩ := m_one ht hex hexq hqy hc z1
    refine ⟨h1, ?_, hb1⟩
    refine qe_of (M := qm_130) rfl rfl ?_
    show qg L xs _ qm_130 0 [some (.ref 14), none] [] h _
    refine qg_pls (n := 1) (k' := 1) (lo' := [some (.ref 14), none]) (S' := [.ref 14]) (h' := h) rfl ?_
    exact qg_callT rfl rfl rfl rfl rfl rfl rfl (ai_rcv1 rfl rfl ((mcs_rcv hc).choose_spec)) rfl (g1)
  obtain ⟨h1, g1, hc1⟩ := m_one ht hex hexq hqy hc z1
  have hc1 : mcs e Y (mfw K) P s1 h1 := hc1
  have road : ∀ o, qg L xs (d + 15) qm_130 3 [some (.ref 14), some (.int (nI w))] [] h1 o → qe L xs (d + 16) 130 [.ref 14] h o := by
    intro o hg
    refine qe_of (M := qm_130) rfl rfl ?_
    show qg L xs _ qm_130 0 [some (.ref 14), none] [] h _
    refine qg_pls (n := 1) (k' := 1) (lo' := [some (.ref 14), none]) (S' := [.ref 14]) (h' := h) rfl ?_
    refine qg_call (v := some (.int (nI w))) (h' := h1) (as := [.ref 14]) rfl rfl rfl rfl rfl rfl rfl (ai_rcv1 rfl rfl ((mcs_rcv hc).choose_spec)) (g1) ?_
    show qg L xs _ qm_130 2 [some (.ref 14), none] [.int (nI w)] h1 _
    refine qg_pls (n := 1) (k' := 3) (lo' := [some (.ref 14), some (.int (nI w))]) (S' := []) (h' := h1) rfl ?_
    exact hg
  have his := m_isMark (L := L) (xs := xs) (d := d + 8) ht hc1 (k := 86) (by decide)
  -- the end
  have rest : ∀ s2 h2, mcs e Y (mfw K) P s2 h2 → zbd (zc e 102 (zv 0) zf s2) (fun _ s => some (some w, s)) = some (v, s') → ∃ h', qg L xs (d + 15) qm_130 13 [some (.ref 14), some (.int (nI w))] [] h2 (qout 1 v, h') ∧ mpost e Y (mfw K) P v s' h' := by
    intro s2 h2 hc2 hz
    have hp := mcs_prot hc2
    have hb := mcs_bd hc2
    have hlt := mtk_lt ht s2.1
    have hzc := zcode_cases hlt
    obtain ⟨fk, t7, t9, t10⟩ := mtk_so ht
    obtain ⟨kept, bg, en, md, hob⟩ := mcs_obj hc2
    have r20 : ∀ o, qg L xs (d + 15) qm_130 20 [some (.ref 14), some (.int (nI w))] [.int 7, .int (nI (zcode (ztk e s2.1))), .ref 14] h2 o → qg L xs (d + 15) qm_130 13 [some (.ref 14), some (.int (nI w))] [] h2 o := by
      intro o hg
      refine qg_pls (n := 2) (k' := 15) (lo' := [some (.ref 14), some (.int (nI w))]) (S' := [.ref 14, .ref 14]) (h' := h2) rfl ?_
      refine qg_getf (v := .ref 19) rfl hob rfl rfl rfl ?_
      refine qg_pls (n := 1) (k' := 17) (lo' := [some (.ref 14), some (.int (nI w))]) (S' := [.ref 14, .ref 19, .ref 14]) (h' := h2) rfl ?_
      refine qg_getf (v := .int (nI s2.1)) rfl hob rfl rfl rfl ?_
      refine qg_ald rfl (fun _ _ _ => rfl) (hp _ _ t7) (by omega) (by decide) ?_
      rw [t9 _ hb.1]
      refine qg_pls (n := 1) (k' := 20) (lo' := [some (.ref 14), some (.int (nI w))]) (S' := [.int 7, .int (nI (zcode (ztk e s2.1))), .ref 14]) (h' := h2) rfl ?_
      exact hg
    unfold zc at hz
    by_cases t : ztk e s2.1 = 102
    · rw [if_pos t] at hz
      have hz : some (some w, s2) = some (v, s') := hz
      cases hz
      refine ⟨h2, r20 _ ?_, hc2⟩
      refine qg_icmp false rfl (qc_neF (b := 7) (hzc.2.2.2.2.2.1.mpr t)) rfl ?_
      refine qg_pls (n := 2) (k' := 24) (lo' := [some (.ref 14), some (.int (nI w))]) (S' := [.int 1, .ref 14]) (h' := h2) rfl ?_
      refine qg_call (v := none) (h' := h2) (as := [.ref 14, .int 1]) rfl rfl rfl rfl rfl rfl rfl (ai_rcv1 rfl rfl hob) (m_need1 (d := d + 14)) ?_
      show qg L xs _ qm_130 25 [some (.ref 14), some (.int (nI w))] [] h2 _
      refine qg_pls (n := 1) (k' := 26) (lo' := [some (.ref 14), some (.int (nI w))]) (S' := [.int (nI w)]) (h' := h2) rfl ?_
      exact qg_ret5 rfl rfl rfl
    · rw [if_neg t] at hz
      have hz : some (none, s2) = some (v, s') := hz
      cases hz
      refine ⟨_, r20 _ ?_, mcs_bad hc2⟩
      refine qg_icmp true rfl (qc_neT (b := 7) (fun q => t (hzc.2.2.2.2.2.1.mp q)) (by omega) (by decide)) rfl ?_
      refine qg_pls (n := 1) (k' := 24) (lo' := [some (.ref 14), some (.int (nI w))]) (S' := [.int 0, .ref 14]) (h' := h2) rfl ?_
      exact qg_callT rfl rfl rfl rfl rfl rfl rfl (ai_rcv1 rfl rfl hob) rfl (m_need0 (d := d + 14))
  unfold zd_end zq zsi at hz
  simp only [zbd_zbd] at hz
  by_cases t : ztk e s1.1 = 86
  · rw [if_pos t] at his
    have zs : zc e 86 (zq (zstep e) (zv 1)) (zv 0) s1 = zbd (znext s1) fun _ s => some (some 1, s) := by
      unfold zc zq zstep
      rw [if_pos t, if_neg (by omega), if_neg (by omega)]; rfl
    have hz : zbd (zc e 86 (zq (zstep e) (zv 1)) (zv 0) s1) (fun _ s => zbd (zc e 102 (zv 0) zf s) fun _ s => some (some w, s)) = some (v, s') := hz
    rw [zs, zbd_zbd] at hz
    rcases zbd_inv hz with ⟨z2, -⟩ | ⟨a2, s2, z2, hz⟩
    · obtain ⟨-, q, -⟩ := znext_inv z2; cases q
    obtain ⟨-, -, e2⟩ := znext_inv z2
    simp only [zbd_some] at hz
    obtain ⟨J, bg, en, md, hc10⟩ := id hc1
    obtain ⟨n1, n2, n3⟩ := mtk_next ht (show ztk e s1.1 < 102 by omega)
    have hc2 := mcs0_next (K := mfw K) (c' := K.1 + 1) (g' := K.2.1) ht hc10 (by omega) (by show K.1 + 1 ≤ K.1 + 1 + _; omega) (by show K.2.1 ≤ K.2.1 + _; omega)
    rw [← e2] at hc2
    obtain ⟨h3, g3, hp3⟩ := rest s2 _ ⟨J, bg, en, md, hc2⟩ hz
    refine ⟨h3, road _ ?_, hp3⟩
    refine qg_pls (n := 2) (k' := 5) (lo' := [some (.ref 14), some (.int (nI w))]) (S' := [.retAddr 1110, .ref 14]) (h' := h1) rfl ?_
    refine qg_call (v := some (.int 1)) (h' := h1) (as := [.ref 14, .retAddr 1110]) rfl rfl rfl rfl rfl rfl rfl (ai_rcv1 rfl rfl (mcs0_ob hc10)) (his) ?_
    show qg L xs _ qm_130 6 [some (.ref 14), some (.int (nI w))] [.int 1] h1 _
    refine qg_if false rfl (rfl) rfl ?_
    refine qg_pls (n := 2) (k' := 9) (lo' := [some (.ref 14), some (.int (nI w))]) (S' := [.ref 14, .ref 14]) (h' := h1) rfl ?_
    refine qg_getf (v := .int (nI s1.1)) rfl (mcs0_ob hc10) rfl rfl rfl ?_
    refine qg_pls (n := 2) (k' := 12) (lo' := [some (.ref 14), some (.int (nI w))]) (S' := [.int ((nI s1.1) + 1), .ref 14]) (h' := h1) rfl ?_
    rw [show nI s1.1 + 1 = nI (s1.1 + 1) from nI_1 _]
    refine qg_putf rfl (mcs0_ob hc10) rfl rfl (Nat.le_of_ble_eq_true rfl) rfl ?_
    exact g3
  · rw [if_neg t] at his
    have zs : zc e 86 (zq (zstep e) (zv 1)) (zv 0) s1 = some (some 0, s1) := by
      unfold zc
      rw [if_neg t]; rfl
    have hz : zbd (zc e 86 (zq (zstep e) (zv 1)) (zv 0) s1) (fun _ s => zbd (zc e 102 (zv 0) zf s) fun _ s => some (some w, s)) = some (v, s') := hz
    rw [zs] at hz
    simp only [zbd_some] at hz
    obtain ⟨h3, g3, hp3⟩ := rest s1 h1 hc1 hz
    refine ⟨h3, road _ ?_, hp3⟩
    refine qg_pls (n := 2) (k' := 5) (lo' := [some (.ref 14), some (.int (nI w))]) (S' := [.retAddr 1110, .ref 14]) (h' := h1) rfl ?_
    refine qg_call (v := some (.int 0)) (h' := h1) (as := [.ref 14, .retAddr 1110]) rfl rfl rfl rfl rfl rfl rfl (ai_rcv1 rfl rfl ((mcs_rcv hc1).choose_spec)) (his) ?_
    show qg L xs _ qm_130 6 [some (.ref 14), some (.int (nI w))] [.int 0] h1 _
    refine qg_if true rfl (rfl) rfl ?_
    exact g3
end MON
