/-! WORDS AND MARKS THAT ARE TAKEN. (Printed by wip/whole/pp.py from wip/whole/src.) -/
section MWO
variable {L : Nat} {xs : Nat → Int32} {d : Nat} {h h' : ai_H} {e : zE} {Y : Nat → Option ai_C} {K : mK} {W P : zK} {s s' : zS} {J : List zJ} {bg en md : Value}
/-- QueryReaderModel.need -/
theorem m_need1 {a : Nat} : qe L xs (d + 1) 135 [.ref a, .int 1] h (.inl none, h) := by
  refine qe_of (M := qm_135) rfl rfl ?_
  show qg L xs _ qm_135 0 [some (.ref a), some (.int 1)] [] h _
  refine qg_pls (n := 1) (k' := 1) (lo' := [some (.ref a), some (.int 1)]) (S' := [.int 1]) (h' := h) rfl ?_
  refine qg_if true rfl (rfl) rfl ?_
  exact qg_ret7 rfl
theorem m_need0 {a : Nat} : qe L xs (d + 1) 135 [.ref a, .int 0] h (.inr "java/lang/IllegalArgumentException", (h.1, h.2.1 + 1, h.2.2 + 6)) := by
  refine qe_of (M := qm_135) rfl rfl ?_
  show qg L xs _ qm_135 0 [some (.ref a), some (.int 0)] [] h _
  refine qg_pls (n := 1) (k' := 1) (lo' := [some (.ref a), some (.int 0)]) (S' := [.int 0]) (h' := h) rfl ?_
  refine qg_if false rfl (rfl) rfl ?_
  exact qg_throw rfl rfl rfl
/-- a token that opens and closes nothing is put and passed -/
theorem zkp_inv {k : Nat} {t : List Int32} {v : Option Nat} (h1 : ztk e s.1 = k) (hk : ¬ (k = 82 ∨ k = 10) ∧ ¬ (k = 83 ∨ k = 25)) (h : zq (zput t) (zstep e) s = some (v, s')) : v = some 0 ∧ s' = (s.1 + 1, s.2.1, s.2.2.1, s.2.2.2.1, s.2.2.2.2 ++ t ++ [32]) := by
  rcases zbd_inv h with ⟨h2, -⟩ | ⟨a, s1, h2, h3⟩
  · obtain ⟨-, q, -⟩ := zput_inv h2; cases q
  obtain ⟨-, -, e1⟩ := zput_inv h2
  have e2 : ztk e s1.1 = k := by rw [e1]; exact h1
  have h3 : zstep e s1 = some (v, s') := h3
  unfold zstep at h3
  rw [e2, if_neg hk.1, if_neg hk.2] at h3
  obtain ⟨-, q, e3⟩ := znext_inv h3
  rw [e3, e1]
  exact ⟨q, rfl⟩
theorem zit_w {k : Nat} (h1 : ztk e s.1 = k) (hk : k < 99) : zit e s.1 = zw k := by
  unfold zit
  rw [h1, if_pos hk]
/-- the token at which the model stands is kept -/
theorem m_keepw (ht : mtk e Y) (hc : mcs e Y K P s h) {k : Nat} (h1 : ztk e s.1 = k) (hk : k < 99) : ∃ h', qe L xs (d + 1) 136 [.ref 14] h (.inl none, h') ∧ mcs e Y K P (s.1 + 1, s.2.1, s.2.2.1, s.2.2.2.1, s.2.2.2.2 ++ zw k ++ [32]) h' := by
  obtain ⟨J, bg, en, md, hc0⟩ := hc
  obtain ⟨n1, n2, n3⟩ := mtk_next ht (show ztk e s.1 < 102 by omega)
  obtain ⟨h', g1, g2⟩ := m_keep (L := L) (xs := xs) (d := d) ht hc0 (by omega) (c' := K.1) (g' := K.2.1) (by omega) (by omega)
  rw [zit_w h1 hk] at g2
  exact ⟨h', g1, _, _, _, _, g2⟩
/-- QueryReaderModel.word -/
theorem mi_word (ht : mtk e Y) {k : Nat} (hk : 0 ≤ k ∧ k < 82) (hk2 : ¬ (k = 82 ∨ k = 10) ∧ ¬ (k = 83 ∨ k = 25)) : mim L xs e Y K (d + 8) 134 [.ref 14, .retAddr (qr_en.getD k (0, 0)).1] 0 (zcp e k) := by
  intro P s h v s' hc hf
  have his := m_isWord (L := L) (xs := xs) (d := d) ht hc hk
  obtain ⟨kept, bg, en, md, hob⟩ := mcs_obj hc
  unfold zcp zc at hf
  by_cases h1 : ztk e s.1 = k
  · rw [if_pos h1] at hf his
    obtain ⟨rfl, rfl⟩ := zkp_inv h1 hk2 hf
    obtain ⟨h', g1, g2⟩ := m_keepw (L := L) (xs := xs) (d := d + 6) ht hc h1 (by omega)
    refine ⟨h', ?_, g2⟩
    refine qe_of (M := qm_134) rfl rfl ?_
    show qg L xs _ qm_134 0 [some (.ref 14), some (.retAddr (qr_en.getD k (0, 0)).1)] [] h _
    refine qg_pls (n := 3) (k' := 3) (lo' := [some (.ref 14), some (.retAddr (qr_en.getD k (0, 0)).1)]) (S' := [.retAddr (qr_en.getD k (0, 0)).1, .ref 14, .ref 14]) (h' := h) rfl ?_
    refine qg_call (v := some (.int 1)) (h' := h) (as := [.ref 14, .retAddr (qr_en.getD k (0, 0)).1]) rfl rfl rfl rfl rfl rfl rfl (ai_rcv1 rfl rfl hob) (his) ?_
    show qg L xs _ qm_134 4 [some (.ref 14), some (.retAddr (qr_en.getD k (0, 0)).1)] [.int 1, .ref 14] h _
    refine qg_call (v := none) (h' := h) (as := [.ref 14, .int 1]) rfl rfl rfl rfl rfl rfl rfl (ai_rcv1 rfl rfl hob) (m_need1 (d := d + 6)) ?_
    show qg L xs _ qm_134 5 [some (.ref 14), some (.retAddr (qr_en.getD k (0, 0)).1)] [] h _
    refine qg_pls (n := 1) (k' := 6) (lo' := [some (.ref 14), some (.retAddr (qr_en.getD k (0, 0)).1)]) (S' := [.ref 14]) (h' := h) rfl ?_
    refine qg_call (v := none) (h' := h') (as := [.ref 14]) rfl rfl rfl rfl rfl rfl rfl (ai_rcv1 rfl rfl hob) (g1) ?_
    show qg L xs _ qm_134 7 [some (.ref 14), some (.retAddr (qr_en.getD k (0, 0)).1)] [] h' _
    exact qg_ret7 rfl
  · rw [if_neg h1] at hf his
    cases hf
    refine ⟨_, ?_, mcs_bad hc⟩
    refine qe_of (M := qm_134) rfl rfl ?_
    show qg L xs _ qm_134 0 [some (.ref 14), some (.retAddr (qr_en.getD k (0, 0)).1)] [] h _
    refine qg_pls (n := 3) (k' := 3) (lo' := [some (.ref 14), some (.retAddr (qr_en.getD k (0, 0)).1)]) (S' := [.retAddr (qr_en.getD k (0, 0)).1, .ref 14, .ref 14]) (h' := h) rfl ?_
    refine qg_call (v := some (.int 0)) (h' := h) (as := [.ref 14, .retAddr (qr_en.getD k (0, 0)).1]) rfl rfl rfl rfl rfl rfl rfl (ai_rcv1 rfl rfl hob) (his) ?_
    show qg L xs _ qm_134 4 [some (.ref 14), some (.retAddr (qr_en.getD k (0, 0)).1)] [.int 0, .ref 14] h _
    exact qg_callT rfl rfl rfl rfl rfl rfl rfl (ai_rcv1 rfl rfl hob) rfl (m_need0 (d := d + 6))
/-- QueryReaderModel.sign -/
theorem mi_sign (ht : mtk e Y) {k : Nat} (hk : 82 ≤ k ∧ k < 99) (hk2 : ¬ (k = 82 ∨ k = 10) ∧ ¬ (k = 83 ∨ k = 25)) : mim L xs e Y K (d + 8) 149 [.ref 14, .retAddr (qr_en.getD k (0, 0)).1] 0 (zcp e k) := by
  intro P s h v s' hc hf
  have his := m_isMark (L := L) (xs := xs) (d := d) ht hc hk
  obtain ⟨kept, bg, en, md, hob⟩ := mcs_obj hc
  unfold zcp zc at hf
  by_cases h1 : ztk e s.1 = k
  · rw [if_pos h1] at hf his
    obtain ⟨rfl, rfl⟩ := zkp_inv h1 hk2 hf
    obtain ⟨h', g1, g2⟩ := m_keepw (L := L) (xs := xs) (d := d + 6) ht hc h1 (by omega)
    refine ⟨h', ?_, g2⟩
    refine qe_of (M := qm_149) rfl rfl ?_
    show qg L xs _ qm_149 0 [some (.ref 14), some (.retAddr (qr_en.getD k (0, 0)).1)] [] h _
    refine qg_pls (n := 3) (k' := 3) (lo' := [some (.ref 14), some (.retAddr (qr_en.getD k (0, 0)).1)]) (S' := [.retAddr (qr_en.getD k (0, 0)).1, .ref 14, .ref 14]) (h' := h) rfl ?_
    refine qg_call (v := some (.int 1)) (h' := h) (as := [.ref 14, .retAddr (qr_en.getD k (0, 0)).1]) rfl rfl rfl rfl rfl rfl rfl (ai_rcv1 rfl rfl hob) (his) ?_
    show qg L xs _ qm_149 4 [some (.ref 14), some (.retAddr (qr_en.getD k (0, 0)).1)] [.int 1, .ref 14] h _
    refine qg_call (v := none) (h' := h) (as := [.ref 14, .int 1]) rfl rfl rfl rfl rfl rfl rfl (ai_rcv1 rfl rfl hob) (m_need1 (d := d + 6)) ?_
    show qg L xs _ qm_149 5 [some (.ref 14), some (.retAddr (qr_en.getD k (0, 0)).1)] [] h _
    refine qg_pls (n := 1) (k' := 6) (lo' := [some (.ref 14), some (.retAddr (qr_en.getD k (0, 0)).1)]) (S' := [.ref 14]) (h' := h) rfl ?_
    refine qg_call (v := none) (h' := h') (as := [.ref 14]) rfl rfl rfl rfl rfl rfl rfl (ai_rcv1 rfl rfl hob) (g1) ?_
    show qg L xs _ qm_149 7 [some (.ref 14), some (.retAddr (qr_en.getD k (0, 0)).1)] [] h' _
    exact qg_ret7 rfl
  · rw [if_neg h1] at hf his
    cases hf
    refine ⟨_, ?_, mcs_bad hc⟩
    refine qe_of (M := qm_149) rfl rfl ?_
    show qg L xs _ qm_149 0 [some (.ref 14), some (.retAddr (qr_en.getD k (0, 0)).1)] [] h _
    refine qg_pls (n := 3) (k' := 3) (lo' := [some (.ref 14), some (.retAddr (qr_en.getD k (0, 0)).1)]) (S' := [.retAddr (qr_en.getD k (0, 0)).1, .ref 14, .ref 14]) (h' := h) rfl ?_
    refine qg_call (v := some (.int 0)) (h' := h) (as := [.ref 14, .retAddr (qr_en.getD k (0, 0)).1]) rfl rfl rfl rfl rfl rfl rfl (ai_rcv1 rfl rfl hob) (his) ?_
    show qg L xs _ qm_149 4 [some (.ref 14), some (.retAddr (qr_en.getD k (0, 0)).1)] [.int 0, .ref 14] h _
    exact qg_callT rfl rfl rfl rfl rfl rfl rfl (ai_rcv1 rfl rfl hob) rfl (m_need0 (d := d + 6))
/-- QueryReaderModel.takes -/
theorem mi_takes (ht : mtk e Y) {k : Nat} (hk : k < 82) (hk2 : ¬ (k = 82 ∨ k = 10) ∧ ¬ (k = 83 ∨ k = 25)) : mim L xs e Y K (d + 8) 137 [.ref 14, .retAddr (qr_en.getD k (0, 0)).1] 1 (zci e k) := by
  intro P s h v s' hc hf
  have his := m_isWord (L := L) (xs := xs) (d := d) ht hc (k := k) (by omega)
  obtain ⟨kept, bg, en, md, hob⟩ := mcs_obj hc
  by_cases h1 : ztk e s.1 = k
  · rw [zci_T h1] at hf
    rw [if_pos h1] at his
    rcases zbd_inv hf with ⟨hf1, -⟩ | ⟨a, s1, hf1, hf2⟩
    · unfold zcp zc at hf1
      rw [if_pos h1] at hf1
      obtain ⟨q, -⟩ := zkp_inv h1 hk2 hf1
      cases q
    · unfold zcp zc at hf1
      rw [if_pos h1] at hf1
      obtain ⟨-, rfl⟩ := zkp_inv h1 hk2 hf1
      cases hf2
      obtain ⟨h', g1, g2⟩ := m_keepw (L := L) (xs := xs) (d := d + 6) ht hc h1 (by omega)
      refine ⟨h', ?_, g2⟩
      refine qe_of (M := qm_137) rfl rfl ?_
      show qg L xs _ qm_137 0 [some (.ref 14), some (.retAddr (qr_en.getD k (0, 0)).1), none] [] h _
      refine qg_pls (n := 2) (k' := 2) (lo' := [some (.ref 14), some (.retAddr (qr_en.getD k (0, 0)).1), none]) (S' := [.retAddr (qr_en.getD k (0, 0)).1, .ref 14]) (h' := h) rfl ?_
      refine qg_call (v := some (.int 1)) (h' := h) (as := [.ref 14, .retAddr (qr_en.getD k (0, 0)).1]) rfl rfl rfl rfl rfl rfl rfl (ai_rcv1 rfl rfl hob) (his) ?_
      show qg L xs _ qm_137 3 [some (.ref 14), some (.retAddr (qr_en.getD k (0, 0)).1), none] [.int 1] h _
      refine qg_pls (n := 2) (k' := 5) (lo' := [some (.ref 14), some (.retAddr (qr_en.getD k (0, 0)).1), some (.int 1)]) (S' := [.int 1]) (h' := h) rfl ?_
      refine qg_if false rfl (rfl) rfl ?_
      refine qg_pls (n := 1) (k' := 7) (lo' := [some (.ref 14), some (.retAddr (qr_en.getD k (0, 0)).1), some (.int 1)]) (S' := [.ref 14]) (h' := h) rfl ?_
      refine qg_call (v := none) (h' := h') (as := [.ref 14]) rfl rfl rfl rfl rfl rfl rfl (ai_rcv1 rfl rfl hob) (g1) ?_
      show qg L xs _ qm_137 8 [some (.ref 14), some (.retAddr (qr_en.getD k (0, 0)).1), some (.int 1)] [] h' _
      refine qg_pls (n := 1) (k' := 9) (lo' := [some (.ref 14), some (.retAddr (qr_en.getD k (0, 0)).1), some (.int 1)]) (S' := [.int 1]) (h' := h') rfl ?_
      exact qg_ret5 rfl rfl rfl
  · rw [zci_F h1] at hf
    rw [if_neg h1] at his
    cases hf
    refine ⟨h, ?_, hc⟩
    refine qe_of (M := qm_137) rfl rfl ?_
    show qg L xs _ qm_137 0 [some (.ref 14), some (.retAddr (qr_en.getD k (0, 0)).1), none] [] h _
    refine qg_pls (n := 2) (k' := 2) (lo' := [some (.ref 14), some (.retAddr (qr_en.getD k (0, 0)).1), none]) (S' := [.retAddr (qr_en.getD k (0, 0)).1, .ref 14]) (h' := h) rfl ?_
    refine qg_call (v := some (.int 0)) (h' := h) (as := [.ref 14, .retAddr (qr_en.getD k (0, 0)).1]) rfl rfl rfl rfl rfl rfl rfl (ai_rcv1 rfl rfl hob) (his) ?_
    show qg L xs _ qm_137 3 [some (.ref 14), some (.retAddr (qr_en.getD k (0, 0)).1), none] [.int 0] h _
    refine qg_pls (n := 2) (k' := 5) (lo' := [some (.ref 14), some (.retAddr (qr_en.getD k (0, 0)).1), some (.int 0)]) (S' := [.int 0]) (h' := h) rfl ?_
    refine qg_if true rfl (rfl) rfl ?_
    refine qg_pls (n := 1) (k' := 9) (lo' := [some (.ref 14), some (.retAddr (qr_en.getD k (0, 0)).1), some (.int 0)]) (S' := [.int 0]) (h' := h) rfl ?_
    exact qg_ret5 rfl rfl rfl
/-- QueryReaderModel.takesComma -/
theorem mi_comma (ht : mtk e Y) : mim L xs e Y K (d + 8) 153 [.ref 14] 1 (zci e 84) := by
  intro P s h v s' hc hf
  have his := m_isMark (L := L) (xs := xs) (d := d) ht hc (k := 84) (by omega)
  obtain ⟨kept, bg, en, md, hob⟩ := mcs_obj hc
  by_cases h1 : ztk e s.1 = 84
  · rw [zci_T h1] at hf
    rw [if_pos h1] at his
    rcases zbd_inv hf with ⟨hf1, -⟩ | ⟨a, s1, hf1, hf2⟩
    · unfold zcp zc at hf1
      rw [if_pos h1] at hf1
      obtain ⟨q, -⟩ := zkp_inv h1 (by decide) hf1
      cases q
    · unfold zcp zc at hf1
      rw [if_pos h1] at hf1
      obtain ⟨-, rfl⟩ := zkp_inv h1 (by decide) hf1
      cases hf2
      obtain ⟨h', g1, g2⟩ := m_keepw (L := L) (xs := xs) (d := d + 6) ht hc h1 (by omega)
      refine ⟨h', ?_, g2⟩
      refine qe_of (M := qm_153) rfl rfl ?_
      show qg L xs _ qm_153 0 [some (.ref 14), none] [] h _
      refine qg_pls (n := 2) (k' := 2) (lo' := [some (.ref 14), none]) (S' := [.retAddr 1099, .ref 14]) (h' := h) rfl ?_
      refine qg_call (v := some (.int 1)) (h' := h) (as := [.ref 14, .retAddr 1099]) rfl rfl rfl rfl rfl rfl rfl (ai_rcv1 rfl rfl hob) (his) ?_
      show qg L xs _ qm_153 3 [some (.ref 14), none] [.int 1] h _
      refine qg_pls (n := 2) (k' := 5) (lo' := [some (.ref 14), some (.int 1)]) (S' := [.int 1]) (h' := h) rfl ?_
      refine qg_if false rfl (rfl) rfl ?_
      refine qg_pls (n := 1) (k' := 7) (lo' := [some (.ref 14), some (.int 1)]) (S' := [.ref 14]) (h' := h) rfl ?_
      refine qg_call (v := none) (h' := h') (as := [.ref 14]) rfl rfl rfl rfl rfl rfl rfl (ai_rcv1 rfl rfl hob) (g1) ?_
      show qg L xs _ qm_153 8 [some (.ref 14), some (.int 1)] [] h' _
      refine qg_pls (n := 1) (k' := 9) (lo' := [some (.ref 14), some (.int 1)]) (S' := [.int 1]) (h' := h') rfl ?_
      exact qg_ret5 rfl rfl rfl
  · rw [zci_F h1] at hf
    rw [if_neg h1] at his
    cases hf
    refine ⟨h, ?_, hc⟩
    refine qe_of (M := qm_153) rfl rfl ?_
    show qg L xs _ qm_153 0 [some (.ref 14), none] [] h _
    refine qg_pls (n := 2) (k' := 2) (lo' := [some (.ref 14), none]) (S' := [.retAddr 1099, .ref 14]) (h' := h) rfl ?_
    refine qg_call (v := some (.int 0)) (h' := h) (as := [.ref 14, .retAddr 1099]) rfl rfl rfl rfl rfl rfl rfl (ai_rcv1 rfl rfl hob) (his) ?_
    show qg L xs _ qm_153 3 [some (.ref 14), none] [.int 0] h _
    refine qg_pls (n := 2) (k' := 5) (lo' := [some (.ref 14), some (.int 0)]) (S' := [.int 0]) (h' := h) rfl ?_
    refine qg_if true rfl (rfl) rfl ?_
    refine qg_pls (n := 1) (k' := 9) (lo' := [some (.ref 14), some (.int 0)]) (S' := [.int 0]) (h' := h) rfl ?_
    exact qg_ret5 rfl rfl rfl
end MWO
