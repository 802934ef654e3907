/-! CLOSING BRACKETS, WORDS THAT ARE PUT. (Printed by wip/whole/pp.py from wip/whole/src.) -/
section MCL
variable {L : Nat} {xs : Nat → Int32} {d : Nat} {h h' : ai_H} {e : zE} {Y : Nat → Option ai_C} {K : mK} {W P : zK} {s s' : zS} {J : List zJ} {bg en md : Value}
theorem m_word1 (ht : mtk e Y) (hc : mcs e Y K P s h) {k : Nat} (hk : 0 ≤ k ∧ k < 82) (h1 : ztk e s.1 = k) : ∃ h', qe L xs (d + 8) 134 [.ref 14, .retAddr (qr_en.getD k (0, 0)).1] h (.inl none, h') ∧ mcs e Y K P (s.1 + 1, s.2.1, s.2.2.1, s.2.2.2.1, s.2.2.2.2 ++ zw k ++ [32]) h' := by
  have his := m_isWord (L := L) (xs := xs) (d := d) ht hc hk
  obtain ⟨kept, bg, en, md, hob⟩ := mcs_obj hc
  rw [if_pos h1] at his
  obtain ⟨h', g1, g2⟩ := m_keepw (L := L) (xs := xs) (d := d + 6) ht hc h1 (by omega)
  refine ⟨h', ?_, g2⟩
  refine qe_of (M := qm_134) rfl rfl ?_
  show qg L xs _ qm_134 0 [some (.ref 14), some (.retAddr (qr_en.getD k (0, 0)).1)] [] h _
  refine qg_pls (n := 3) (k' := 3) (lo' := [some (.ref 14), some (.retAddr (qr_en.getD k (0, 0)).1)]) (S' := [.retAddr (qr_en.getD k (0, 0)).1, .ref 14, .ref 14]) (h' := h) rfl ?_
  refine qg_call (v := some (.int 1)) (h' := h) (as := [.ref 14, .retAddr (qr_en.getD k (0, 0)).1]) rfl rfl rfl rfl rfl rfl rfl (ai_rcv1 rfl rfl hob) (his) ?_
  show qg L xs _ qm_134 4 [some (.ref 14), some (.retAddr (qr_en.getD k (0, 0)).1)] [.int 1, .ref 14] h _
  refine qg_call (v := none) (h' := h) (as := [.ref 14, .int 1]) rfl rfl rfl rfl rfl rfl rfl (ai_rcv1 rfl rfl hob) (m_need1 (d := d + 6)) ?_
  show qg L xs _ qm_134 5 [some (.ref 14), some (.retAddr (qr_en.getD k (0, 0)).1)] [] h _
  refine qg_pls (n := 1) (k' := 6) (lo' := [some (.ref 14), some (.retAddr (qr_en.getD k (0, 0)).1)]) (S' := [.ref 14]) (h' := h) rfl ?_
  refine qg_call (v := none) (h' := h') (as := [.ref 14]) rfl rfl rfl rfl rfl rfl rfl (ai_rcv1 rfl rfl hob) (g1) ?_
  show qg L xs _ qm_134 7 [some (.ref 14), some (.retAddr (qr_en.getD k (0, 0)).1)] [] h' _
  exact qg_ret7 rfl
theorem m_word0 (ht : mtk e Y) (hc : mcs e Y K P s h) {k : Nat} (hk : 0 ≤ k ∧ k < 82) (h1 : ¬ ztk e s.1 = k) : qe L xs (d + 8) 134 [.ref 14, .retAddr (qr_en.getD k (0, 0)).1] h (.inr "java/lang/IllegalArgumentException", (h.1, h.2.1 + 1, h.2.2 + 6)) := by
  have his := m_isWord (L := L) (xs := xs) (d := d) ht hc hk
  obtain ⟨kept, bg, en, md, hob⟩ := mcs_obj hc
  rw [if_neg h1] at his
  refine qe_of (M := qm_134) rfl rfl ?_
  show qg L xs _ qm_134 0 [some (.ref 14), some (.retAddr (qr_en.getD k (0, 0)).1)] [] h _
  refine qg_pls (n := 3) (k' := 3) (lo' := [some (.ref 14), some (.retAddr (qr_en.getD k (0, 0)).1)]) (S' := [.retAddr (qr_en.getD k (0, 0)).1, .ref 14, .ref 14]) (h' := h) rfl ?_
  refine qg_call (v := some (.int 0)) (h' := h) (as := [.ref 14, .retAddr (qr_en.getD k (0, 0)).1]) rfl rfl rfl rfl rfl rfl rfl (ai_rcv1 rfl rfl hob) (his) ?_
  show qg L xs _ qm_134 4 [some (.ref 14), some (.retAddr (qr_en.getD k (0, 0)).1)] [.int 0, .ref 14] h _
  exact qg_callT rfl rfl rfl rfl rfl rfl rfl (ai_rcv1 rfl rfl hob) rfl (m_need0 (d := d + 6))
theorem m_sign1 (ht : mtk e Y) (hc : mcs e Y K P s h) {k : Nat} (hk : 82 ≤ k ∧ k < 99) (h1 : ztk e s.1 = k) : ∃ h', qe L xs (d + 8) 149 [.ref 14, .retAddr (qr_en.getD k (0, 0)).1] h (.inl none, h') ∧ mcs e Y K P (s.1 + 1, s.2.1, s.2.2.1, s.2.2.2.1, s.2.2.2.2 ++ zw k ++ [32]) h' := by
  have his := m_isMark (L := L) (xs := xs) (d := d) ht hc hk
  obtain ⟨kept, bg, en, md, hob⟩ := mcs_obj hc
  rw [if_pos h1] at his
  obtain ⟨h', g1, g2⟩ := m_keepw (L := L) (xs := xs) (d := d + 6) ht hc h1 (by omega)
  refine ⟨h', ?_, g2⟩
  refine qe_of (M := qm_149) rfl rfl ?_
  show qg L xs _ qm_149 0 [some (.ref 14), some (.retAddr (qr_en.getD k (0, 0)).1)] [] h _
  refine qg_pls (n := 3) (k' := 3) (lo' := [some (.ref 14), some (.retAddr (qr_en.getD k (0, 0)).1)]) (S' := [.retAddr (qr_en.getD k (0, 0)).1, .ref 14, .ref 14]) (h' := h) rfl ?_
  refine qg_call (v := some (.int 1)) (h' := h) (as := [.ref 14, .retAddr (qr_en.getD k (0, 0)).1]) rfl rfl rfl rfl rfl rfl rfl (ai_rcv1 rfl rfl hob) (his) ?_
  show qg L xs _ qm_149 4 [some (.ref 14), some (.retAddr (qr_en.getD k (0, 0)).1)] [.int 1, .ref 14] h _
  refine qg_call (v := none) (h' := h) (as := [.ref 14, .int 1]) rfl rfl rfl rfl rfl rfl rfl (ai_rcv1 rfl rfl hob) (m_need1 (d := d + 6)) ?_
  show qg L xs _ qm_149 5 [some (.ref 14), some (.retAddr (qr_en.getD k (0, 0)).1)] [] h _
  refine qg_pls (n := 1) (k' := 6) (lo' := [some (.ref 14), some (.retAddr (qr_en.getD k (0, 0)).1)]) (S' := [.ref 14]) (h' := h) rfl ?_
  refine qg_call (v := none) (h' := h') (as := [.ref 14]) rfl rfl rfl rfl rfl rfl rfl (ai_rcv1 rfl rfl hob) (g1) ?_
  show qg L xs _ qm_149 7 [some (.ref 14), some (.retAddr (qr_en.getD k (0, 0)).1)] [] h' _
  exact qg_ret7 rfl
theorem m_sign0 (ht : mtk e Y) (hc : mcs e Y K P s h) {k : Nat} (hk : 82 ≤ k ∧ k < 99) (h1 : ¬ ztk e s.1 = k) : qe L xs (d + 8) 149 [.ref 14, .retAddr (qr_en.getD k (0, 0)).1] h (.inr "java/lang/IllegalArgumentException", (h.1, h.2.1 + 1, h.2.2 + 6)) := by
  have his := m_isMark (L := L) (xs := xs) (d := d) ht hc hk
  obtain ⟨kept, bg, en, md, hob⟩ := mcs_obj hc
  rw [if_neg h1] at his
  refine qe_of (M := qm_149) rfl rfl ?_
  show qg L xs _ qm_149 0 [some (.ref 14), some (.retAddr (qr_en.getD k (0, 0)).1)] [] h _
  refine qg_pls (n := 3) (k' := 3) (lo' := [some (.ref 14), some (.retAddr (qr_en.getD k (0, 0)).1)]) (S' := [.retAddr (qr_en.getD k (0, 0)).1, .ref 14, .ref 14]) (h' := h) rfl ?_
  refine qg_call (v := some (.int 0)) (h' := h) (as := [.ref 14, .retAddr (qr_en.getD k (0, 0)).1]) rfl rfl rfl rfl rfl rfl rfl (ai_rcv1 rfl rfl hob) (his) ?_
  show qg L xs _ qm_149 4 [some (.ref 14), some (.retAddr (qr_en.getD k (0, 0)).1)] [.int 0, .ref 14] h _
  exact qg_callT rfl rfl rfl rfl rfl rfl rfl (ai_rcv1 rfl rfl hob) rfl (m_need0 (d := d + 6))
/-- what a closing token does -/
theorem zcl_inv {k : Nat} {v : Option Nat} (hk : k = 83 ∨ k = 25) (h : zcp e k s = some (v, s')) : (¬ ztk e s.1 = k ∧ v = none ∧ s' = s) ∨ (ztk e s.1 = k ∧ 0 < s.2.1 ∧ v = some 0 ∧ s' = (s.1 + 1, s.2.1 - 1, s.2.2.1, s.2.2.2.1, s.2.2.2.2 ++ zw k ++ [32])) := by
  unfold zcp zc at h
  by_cases h1 : ztk e s.1 = k
  · rw [if_pos h1] at h
    rcases zbd_inv h with ⟨h2, -⟩ | ⟨a, s1, h2, h3⟩
    · obtain ⟨-, q, -⟩ := zput_inv h2; cases q
    obtain ⟨-, -, e1⟩ := zput_inv h2
    have e2 : ztk e s1.1 = k := by rw [e1]; exact h1
    have h3 : zstep e s1 = some (v, s') := h3
    unfold zstep at h3
    rw [e2, if_neg (by omega), if_pos hk] at h3
    rcases zbd_inv h3 with ⟨h4, -⟩ | ⟨a4, s4, h4, h5⟩
    · obtain ⟨-, q, -⟩ := zdown_inv h4; cases q
    obtain ⟨o1, -, e4⟩ := zdown_inv h4
    obtain ⟨-, q, e5⟩ := znext_inv h5
    refine Or.inr ⟨h1, ?_, q, ?_⟩
    · rw [e1] at o1; exact o1
    · rw [e5, e4, e1]
  · rw [if_neg h1] at h
    cases h; exact Or.inl ⟨h1, rfl, rfl⟩
/-- QueryReaderModel.closeBracket -/
theorem mi_close (ht : mtk e Y) : mim L xs e Y K (d + 9) 148 [.ref 14] 0 (zcp e 83) := by
  intro P s h v s' hc hf
  obtain ⟨kept, bg, en, md, hob⟩ := mcs_obj hc
  have hb := mcs_bd hc
  rcases zcl_inv (Or.inl rfl) hf with ⟨h1, rfl, rfl⟩ | ⟨h1, ho, rfl, rfl⟩
  · refine ⟨_, ?_, mcs_bad hc⟩
    refine qe_of (M := qm_148) rfl rfl ?_
    show qg L xs _ qm_148 0 [some (.ref 14)] [] h _
    refine qg_pls (n := 2) (k' := 2) (lo' := [some (.ref 14)]) (S' := [.retAddr 1008, .ref 14]) (h' := h) rfl ?_
    exact qg_callT rfl rfl rfl rfl rfl rfl rfl (ai_rcv1 rfl rfl hob) rfl (m_sign0 (d := d) ht hc (k := 83) (by decide) h1)
  · obtain ⟨h1', g1, ⟨J1, bg1, en1, md1, hc1⟩⟩ := m_sign1 (L := L) (xs := xs) (d := d) ht hc (k := 83) (by decide) h1
    have hc2 := mcs0_open (o' := s.2.1 - 1) (m' := s.2.2.1) hc1 (by omega) (by omega)
    refine ⟨_, ?_, J1, bg1, en1, md1, hc2⟩
    refine qe_of (M := qm_148) rfl rfl ?_
    show qg L xs _ qm_148 0 [some (.ref 14)] [] h _
    refine qg_pls (n := 2) (k' := 2) (lo' := [some (.ref 14)]) (S' := [.retAddr 1008, .ref 14]) (h' := h) rfl ?_
    refine qg_call (v := none) (h' := h1') (as := [.ref 14, .retAddr 1008]) rfl rfl rfl rfl rfl rfl rfl (ai_rcv1 rfl rfl hob) (g1) ?_
    show qg L xs _ qm_148 3 [some (.ref 14)] [] h1' _
    refine qg_pls (n := 2) (k' := 5) (lo' := [some (.ref 14)]) (S' := [.ref 14, .ref 14]) (h' := h1') rfl ?_
    refine qg_getf (v := .int (nI (s.1 + 1, s.2.1, s.2.2.1, s.2.2.2.1, s.2.2.2.2 ++ zw 83 ++ [32]).2.1)) rfl (mcs0_ob hc1) rfl rfl rfl ?_
    refine qg_pls (n := 2) (k' := 8) (lo' := [some (.ref 14)]) (S' := [.int ((nI (s.1 + 1, s.2.1, s.2.2.1, s.2.2.2.1, s.2.2.2.2 ++ zw 83 ++ [32]).2.1) - 1), .ref 14]) (h' := h1') rfl ?_
    rw [show nI s.2.1 - 1 = nI (s.2.1 - 1) from nI_sub (b := 1) (by omega)]
    refine qg_putf rfl (mcs0_ob hc1) rfl rfl (Nat.le_of_ble_eq_true rfl) rfl ?_
    exact qg_ret7 rfl
/-- String.equals of two texts that are known -/
theorem m_leql {a c : Nat} (a1 : 1000 ≤ a) (a2 : a < 1112) (c1 : 1000 ≤ c) (c2 : c < 1112) (hl : (zt a).length = (zt c).length) : ∀ (n j : Nat), (zt a).length - j = n → j ≤ (zt a).length → qg L xs d qm_167 7 [some (.retAddr (a + 1000)), some (.retAddr (c + 1000)), some (.int (nI j))] [] h (.inl (some (.int (if (zt a).drop j = (zt c).drop j then 1 else 0))), h) := by
  have hla := zt_len a1 a2
  have oa : ai_look (qr_Z L xs) h.1 (.retAddr (a + 1000)) = some (ai_num .byte (zt a).length (fun j => (zt a).getD j 0)) := qZ_val a1 a2
  have oc : ai_look (qr_Z L xs) h.1 (.retAddr (c + 1000)) = some (ai_num .byte (zt c).length (fun j => (zt c).getD j 0)) := qZ_val c1 c2
  intro n
  induction n with
  | zero =>
    intro j hn hj
    rw [List.drop_eq_nil_of_le (show (zt a).length ≤ j by omega), List.drop_eq_nil_of_le (show (zt c).length ≤ j by omega), if_pos rfl]
    refine qg_pls (n := 2) (k' := 9) (lo' := [some (.retAddr (a + 1000)), some (.retAddr (c + 1000)), some (.int (nI j))]) (S' := [.retAddr (a + 1000), .int (nI j)]) (h' := h) rfl ?_
    refine qg_alen rfl oa ?_
    refine qg_icmp true rfl (qc_geT (by omega) (by omega)) rfl ?_
    refine qg_pls (n := 1) (k' := 23) (lo' := [some (.retAddr (a + 1000)), some (.retAddr (c + 1000)), some (.int (nI j))]) (S' := [.int 1]) (h' := h) rfl ?_
    exact qg_ret5 rfl rfl rfl
  | succ n ih =>
    intro j hn hj
    rw [drop_cons (x := 0) (show j < (zt a).length by omega), drop_cons (x := 0) (show j < (zt c).length by omega)]
    refine qg_pls (n := 2) (k' := 9) (lo' := [some (.retAddr (a + 1000)), some (.retAddr (c + 1000)), some (.int (nI j))]) (S' := [.retAddr (a + 1000), .int (nI j)]) (h' := h) rfl ?_
    refine qg_alen rfl oa ?_
    refine qg_icmp false rfl (qc_geF (by omega) (by omega)) rfl ?_
    refine qg_pls (n := 2) (k' := 13) (lo' := [some (.retAddr (a + 1000)), some (.retAddr (c + 1000)), some (.int (nI j))]) (S' := [.int (nI j), .retAddr (a + 1000)]) (h' := h) rfl ?_
    refine qg_ald rfl (fun _ _ _ => rfl) oa (by omega) (by omega) ?_
    refine qg_pls (n := 2) (k' := 16) (lo' := [some (.retAddr (a + 1000)), some (.retAddr (c + 1000)), some (.int (nI j))]) (S' := [.int (nI j), .retAddr (c + 1000), .int ((zt a).getD j 0)]) (h' := h) rfl ?_
    refine qg_ald rfl (fun _ _ _ => rfl) oc (by omega) (by omega) ?_
    by_cases heq : (zt a).getD j 0 = (zt c).getD j 0
    · rw [show (if (zt a).getD j 0 :: (zt a).drop (j + 1) = (zt c).getD j 0 :: (zt c).drop (j + 1) then (1 : Int32) else 0) = if (zt a).drop (j + 1) = (zt c).drop (j + 1) then 1 else 0 from by
        rw [heq]
        by_cases q : (zt a).drop (j + 1) = (zt c).drop (j + 1)
        · rw [if_pos q, if_pos (by rw [q])]
        · rw [if_neg q, if_neg (fun q2 => q (List.cons.inj q2).2)]]
      refine qg_icmp true rfl (qb_eqT heq) rfl ?_
      refine qg_pls (n := 2) (k' := 7) (lo' := [some (.retAddr (a + 1000)), some (.retAddr (c + 1000)), some (.int ((nI j) + 1))]) (S' := []) (h' := h) rfl ?_
      rw [nI_1]
      exact ih (j + 1) (by omega) (by omega)
    · rw [if_neg (fun q => heq (List.cons.inj q).1)]
      refine qg_icmp false rfl (qb_eqF heq) rfl ?_
      refine qg_pls (n := 1) (k' := 19) (lo' := [some (.retAddr (a + 1000)), some (.retAddr (c + 1000)), some (.int (nI j))]) (S' := [.int 0]) (h' := h) rfl ?_
      exact qg_ret5 rfl rfl rfl
theorem m_leq {a c : Nat} (a1 : 1000 ≤ a) (a2 : a < 1112) (c1 : 1000 ≤ c) (c2 : c < 1112) : qe L xs (d + 1) 167 [.retAddr (a + 1000), .retAddr (c + 1000)] h (.inl (some (.int (if zt a = zt c then 1 else 0))), h) := by
  have hla := zt_len a1 a2
  have hlc := zt_len c1 c2
  have oa : ai_look (qr_Z L xs) h.1 (.retAddr (a + 1000)) = some (ai_num .byte (zt a).length (fun j => (zt a).getD j 0)) := qZ_val a1 a2
  have oc : ai_look (qr_Z L xs) h.1 (.retAddr (c + 1000)) = some (ai_num .byte (zt c).length (fun j => (zt c).getD j 0)) := qZ_val c1 c2
  refine qe_of (M := qm_167) rfl rfl ?_
  show qg L xs _ qm_167 0 [some (.retAddr (a + 1000)), some (.retAddr (c + 1000)), none] [] h _
  refine qg_pls (n := 1) (k' := 1) (lo' := [some (.retAddr (a + 1000)), some (.retAddr (c + 1000)), none]) (S' := [.retAddr (a + 1000)]) (h' := h) rfl ?_
  refine qg_alen rfl oa ?_
  refine qg_pls (n := 1) (k' := 3) (lo' := [some (.retAddr (a + 1000)), some (.retAddr (c + 1000)), none]) (S' := [.retAddr (c + 1000), .int (nI ((zt a).length))]) (h' := h) rfl ?_
  refine qg_alen rfl oc ?_
  by_cases hl : (zt a).length = (zt c).length
  · skip
    refine qg_icmp false rfl (qc_neF hl) rfl ?_
    refine qg_pls (n := 2) (k' := 7) (lo' := [some (.retAddr (a + 1000)), some (.retAddr (c + 1000)), some (.int 0)]) (S' := []) (h' := h) rfl ?_
    exact m_leql a1 a2 c1 c2 hl _ 0 rfl (Nat.zero_le _)
  · rw [if_neg (fun q => hl (by rw [q]))]
    refine qg_icmp true rfl (qc_neT hl (by omega) (by omega)) rfl ?_
    refine qg_pls (n := 1) (k' := 25) (lo' := [some (.retAddr (a + 1000)), some (.retAddr (c + 1000)), none]) (S' := [.int 0]) (h' := h) rfl ?_
    exact qg_ret5 rfl rfl rfl
end MCL
