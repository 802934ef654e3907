/-! THE MODEL: ROWS OF EXPRESSION. (Printed by wip/whole/pp.py from wip/whole/src.) -/
section MXR
variable {L : Nat} {xs : Nat → Int32} {d : Nat} {h h' : ai_H} {e : zE} {Y : Nat → Option ai_C} {K : mK} {W P Q : zK} {s s' : zS} {x4 x5 : Option Value}
/-- settleTo, as a call -/
theorem m_stoC (ht : mtk e Y) {nx l0 r : Nat} {R p : zK} {st ma : Nat} {v : Option (zK × Nat × Nat)} (hl : mle K P l0) (hn : 1 ≤ nx) (hn8 : nx ≤ 8) (hR : ∀ q R', R = q :: R' → q.2 < nx ∨ q.2 = 9) (hx : mxp e Y K (p ++ R ++ P) s h st ma) (hm : mso l0 st (p ++ R)) (hq : ∀ q ∈ p, 1 ≤ q.2 ∧ q.2 ≤ 8) (hz : zcb nx p st ma s = some (v, s')) : ∃ h' p' st' ma' r', v = some (p', st', ma') ∧ qe L xs (d + 4) 157 [.ref 14, .int (nI P.length), .int (nI nx), .int (nI r)] h (.inl (some (.int (nI r'))), h') ∧ mxp e Y K (p' ++ R ++ P) s' h' st' ma' ∧ mso l0 st' (p' ++ R) ∧ (∀ q ∈ p', q ∈ p) ∧ (∀ q p'', p' = q :: p'' → q.2 < nx) ∧ zbot p' st' = zbot p st ∧ (r' = r ∧ p' = p ∧ s' = s ∨ nx ≤ r' ∧ r' ≤ 8) ∧ s'.1 = s.1 := by
  obtain ⟨h', p', st', ma', r', i1, i2, i3⟩ := m_sto (L := L) (xs := xs) (d := d) (r0 := r) ht hl hn hn8 hR p st ma r s s' h v hx hm hq hz
  refine ⟨h', p', st', ma', r', i1, ?_, i3⟩
  refine qe_of (M := qm_157) rfl rfl ?_
  show qg L xs _ qm_157 0 [some (.ref 14), some (.int (nI P.length)), some (.int (nI nx)), some (.int (nI r)), none] [] h _
  refine qg_pls (n := 2) (k' := 2) (lo' := [some (.ref 14), some (.int (nI P.length)), some (.int (nI nx)), some (.int (nI r)), some (.int (nI r))]) (S' := []) (h' := h) rfl ?_
  exact i2
/-- from the loop's head to behind the first settleTo -/
theorem x_10 (ht : mtk e Y) {base r r' : Nat} (hc : mcs e Y K W s h) (hst : qe L xs (d + 8) 157 [.ref 14, .int (nI base), .int (nI (if 4 < znk e s.1 then znk e s.1 else 5)), .int (nI r)] h (.inl (some (.int (nI r'))), h')) : ∀ o, qg L xs (d + 8) qm_140 26 [some (.ref 14), some (.int (nI base)), some (.int 1), some (.int (nI r')), some (.int (nI (znk e s.1))), x5] [] h' o → qg L xs (d + 8) qm_140 10 [some (.ref 14), some (.int (nI base)), some (.int 1), some (.int (nI r)), x4, x5] [] h o := by
  intro o hg
  have hrk := znk_of ht s.1
  obtain ⟨fs, hob⟩ := mcs_rcv hc
  refine qg_pls (n := 1) (k' := 11) (lo' := [some (.ref 14), some (.int (nI base)), some (.int 1), some (.int (nI r)), x4, x5]) (S' := [.int 1]) (h' := h) rfl ?_
  refine qg_if false rfl (rfl) rfl ?_
  refine qg_pls (n := 1) (k' := 13) (lo' := [some (.ref 14), some (.int (nI base)), some (.int 1), some (.int (nI r)), x4, x5]) (S' := [.ref 14]) (h' := h) rfl ?_
  refine qg_call (v := some (.int (nI (znk e s.1)))) (h' := h) (as := [.ref 14]) rfl rfl rfl rfl rfl rfl rfl (ai_rcv1 rfl rfl hob) (m_rank (d := d) ht hc) ?_
  show qg L xs _ qm_140 14 [some (.ref 14), some (.int (nI base)), some (.int 1), some (.int (nI r)), x4, x5] [.int (nI (znk e s.1))] h _
  refine qg_pls (n := 5) (k' := 19) (lo' := [some (.ref 14), some (.int (nI base)), some (.int 1), some (.int (nI r)), some (.int (nI (znk e s.1))), x5]) (S' := [.int 4, .int (nI (znk e s.1)), .int (nI base), .ref 14]) (h' := h) rfl ?_
  by_cases h4 : 4 < znk e s.1
  · rw [if_pos h4] at hst
    refine qg_icmp false rfl (qc_leF (b := 4) h4 (by omega)) rfl ?_
    refine qg_pls (n := 3) (k' := 24) (lo' := [some (.ref 14), some (.int (nI base)), some (.int 1), some (.int (nI r)), some (.int (nI (znk e s.1))), x5]) (S' := [.int (nI r), .int (nI (znk e s.1)), .int (nI base), .ref 14]) (h' := h) rfl ?_
    refine qg_call (v := some (.int (nI r'))) (h' := h') (as := [.ref 14, .int (nI base), .int (nI (znk e s.1)), .int (nI r)]) rfl rfl rfl rfl rfl rfl rfl (ai_rcv1 rfl rfl hob) (hst) ?_
    show qg L xs _ qm_140 25 [some (.ref 14), some (.int (nI base)), some (.int 1), some (.int (nI r)), some (.int (nI (znk e s.1))), x5] [.int (nI r')] h' _
    refine qg_pls (n := 1) (k' := 26) (lo' := [some (.ref 14), some (.int (nI base)), some (.int 1), some (.int (nI r')), some (.int (nI (znk e s.1))), x5]) (S' := []) (h' := h') rfl ?_
    exact hg
  · rw [if_neg h4] at hst
    refine qg_icmp true rfl (qc_leT (b := 4) (by omega) (by decide)) rfl ?_
    refine qg_pls (n := 2) (k' := 24) (lo' := [some (.ref 14), some (.int (nI base)), some (.int 1), some (.int (nI r)), some (.int (nI (znk e s.1))), x5]) (S' := [.int (nI r), .int 5, .int (nI base), .ref 14]) (h' := h) rfl ?_
    refine qg_call (v := some (.int (nI r'))) (h' := h') (as := [.ref 14, .int (nI base), .int 5, .int (nI r)]) rfl rfl rfl rfl rfl rfl rfl (ai_rcv1 rfl rfl hob) (hst) ?_
    show qg L xs _ qm_140 25 [some (.ref 14), some (.int (nI base)), some (.int 1), some (.int (nI r)), some (.int (nI (znk e s.1))), x5] [.int (nI r')] h' _
    refine qg_pls (n := 1) (k' := 26) (lo' := [some (.ref 14), some (.int (nI base)), some (.int 1), some (.int (nI r')), some (.int (nI (znk e s.1))), x5]) (S' := []) (h' := h') rfl ?_
    exact hg
/-- what stands uppermost -/
theorem m_top {q : Nat × Nat} (hc : mcs e Y K (q :: W) s h) : ∃ kept bg en md wr, h.1[14]? = some (mobj K.2.2.2.1 s.1 kept s.2.1 s.2.2.1 bg en md (W.length + 1)) ∧ h.1[23]? = some (ai_num .int 512 wr) ∧ wr W.length = nI q.2 ∧ q.2 ≤ 9 ∧ W.length + 1 ≤ 300 := by
  obtain ⟨J, bg, en, md, hc⟩ := hc
  obtain ⟨rf, bf, wr, wf, h5, c6, c7, c8, ⟨cu, c9, c10, c11⟩, c14⟩ := mcs0_5 hc
  obtain ⟨-, w1, w2, -⟩ := mww_pop c8
  exact ⟨J.length, bg, en, md, wr, h5.1, h5.2.2.2.1, w1, w2, c9.2.2.2.2⟩
/-- no AND between the two ends of a BETWEEN -/
theorem x_26 {r by' : Nat} (hc : mcs e Y K (Q ++ P) s h) (hby : by' ≤ 8) (hb : by' ≠ 2 ∨ Q = [] ∨ ∃ q Q', Q = q :: Q' ∧ q.2 ≠ 9) : ∀ o, qg L xs (d + 8) qm_140 58 [some (.ref 14), some (.int (nI P.length)), some (.int 1), some (.int (nI r)), some (.int (nI by')), x5] [] h o → qg L xs (d + 8) qm_140 26 [some (.ref 14), some (.int (nI P.length)), some (.int 1), some (.int (nI r)), some (.int (nI by')), x5] [] h o := by
  intro o hg
  have hbd := mcs_bd hc
  obtain ⟨kept, bg, en, md, hob⟩ := mcs_obj hc
  refine qg_pls (n := 2) (k' := 28) (lo' := [some (.ref 14), some (.int (nI P.length)), some (.int 1), some (.int (nI r)), some (.int (nI by')), x5]) (S' := [.int 2, .int (nI by')]) (h' := h) rfl ?_
  by_cases h2 : by' = 2
  · skip
    refine qg_icmp false rfl (qc_neF (b := 2) h2) rfl ?_
    refine qg_pls (n := 1) (k' := 30) (lo' := [some (.ref 14), some (.int (nI P.length)), some (.int 1), some (.int (nI r)), some (.int (nI by')), x5]) (S' := [.ref 14]) (h' := h) rfl ?_
    refine qg_getf (v := .int (nI ((Q ++ P).length))) rfl hob rfl rfl rfl ?_
    refine qg_pls (n := 1) (k' := 32) (lo' := [some (.ref 14), some (.int (nI P.length)), some (.int 1), some (.int (nI r)), some (.int (nI by')), x5]) (S' := [.int (nI P.length), .int (nI ((Q ++ P).length))]) (h' := h) rfl ?_
    rcases hb with z | rfl | ⟨q, Q', rfl, h9⟩
    · exact absurd h2 z
    · skip
      refine qg_icmp true rfl (qc_leT (Nat.le_refl _) (by have : P.length ≤ 300 := hbd.2.2.2.2; omega)) rfl ?_
      exact hg
    · obtain ⟨kept2, bg2, en2, md2, wr, o1, o2, w1, w2, w3⟩ := m_top (W := Q' ++ P) hc
      have hl2 : P.length ≤ (Q' ++ P).length := by rw [List.length_append]; omega
      refine qg_icmp false rfl (qc_leF (by show P.length < (Q' ++ P).length + 1; omega) (by show (Q' ++ P).length + 1 < _; omega)) rfl ?_
      refine qg_pls (n := 1) (k' := 34) (lo' := [some (.ref 14), some (.int (nI P.length)), some (.int 1), some (.int (nI r)), some (.int (nI by')), x5]) (S' := [.ref 14]) (h' := h) rfl ?_
      refine qg_getf (v := .ref 23) rfl o1 rfl rfl rfl ?_
      refine qg_pls (n := 1) (k' := 36) (lo' := [some (.ref 14), some (.int (nI P.length)), some (.int 1), some (.int (nI r)), some (.int (nI by')), x5]) (S' := [.ref 14, .ref 23]) (h' := h) rfl ?_
      refine qg_getf (v := .int (nI ((Q' ++ P).length + 1))) rfl o1 rfl rfl rfl ?_
      refine qg_pls (n := 2) (k' := 39) (lo' := [some (.ref 14), some (.int (nI P.length)), some (.int 1), some (.int (nI r)), some (.int (nI by')), x5]) (S' := [.int ((nI ((Q' ++ P).length + 1)) - 1), .ref 23]) (h' := h) rfl ?_
      rw [show nI ((Q' ++ P).length + 1) - 1 = nI (Q' ++ P).length from nI_sub (b := 1) (by omega)]
      refine qg_ald rfl (fun _ _ _ => rfl) o2 (by omega) (by decide) ?_
      rw [w1]
      refine qg_pls (n := 1) (k' := 41) (lo' := [some (.ref 14), some (.int (nI P.length)), some (.int 1), some (.int (nI r)), some (.int (nI by')), x5]) (S' := [.int 9, .int (nI q.2)]) (h' := h) rfl ?_
      refine qg_icmp true rfl (qc_neT (b := 9) h9 (by omega) (by decide)) rfl ?_
      exact hg
  · skip
    refine qg_icmp true rfl (qc_neT (b := 2) h2 (by omega) (by decide)) rfl ?_
    exact hg
/-- the second settleTo -/
theorem x_58 {base r r' by' : Nat} (hc : mcs e Y K W s h) (hby : by' ≤ 8) (h0 : 1 ≤ by') (hst : qe L xs (d + 8) 157 [.ref 14, .int (nI base), .int (nI (if by' = 4 then 5 else by')), .int (nI r)] h (.inl (some (.int (nI r'))), h')) : ∀ o, qg L xs (d + 8) qm_140 73 [some (.ref 14), some (.int (nI base)), some (.int 1), some (.int (nI r')), some (.int (nI by')), x5] [] h' o → qg L xs (d + 8) qm_140 58 [some (.ref 14), some (.int (nI base)), some (.int 1), some (.int (nI r)), some (.int (nI by')), x5] [] h o := by
  intro o hg
  obtain ⟨fs, hob⟩ := mcs_rcv hc
  refine qg_pls (n := 1) (k' := 59) (lo' := [some (.ref 14), some (.int (nI base)), some (.int 1), some (.int (nI r)), some (.int (nI by')), x5]) (S' := [.int (nI by')]) (h' := h) rfl ?_
  refine qg_if false rfl (qc_leF (b := 0) h0 (by omega)) rfl ?_
  refine qg_pls (n := 4) (k' := 64) (lo' := [some (.ref 14), some (.int (nI base)), some (.int 1), some (.int (nI r)), some (.int (nI by')), x5]) (S' := [.int 4, .int (nI by'), .int (nI base), .ref 14]) (h' := h) rfl ?_
  by_cases h4 : by' = 4
  · rw [if_pos h4] at hst
    refine qg_icmp false rfl (qc_neF (b := 4) h4) rfl ?_
    refine qg_pls (n := 3) (k' := 69) (lo' := [some (.ref 14), some (.int (nI base)), some (.int 1), some (.int (nI r)), some (.int (nI by')), x5]) (S' := [.int (nI r), .int 5, .int (nI base), .ref 14]) (h' := h) rfl ?_
    refine qg_call (v := some (.int (nI r'))) (h' := h') (as := [.ref 14, .int (nI base), .int 5, .int (nI r)]) rfl rfl rfl rfl rfl rfl rfl (ai_rcv1 rfl rfl hob) (hst) ?_
    show qg L xs _ qm_140 70 [some (.ref 14), some (.int (nI base)), some (.int 1), some (.int (nI r)), some (.int (nI by')), x5] [.int (nI r')] h' _
    refine qg_pls (n := 2) (k' := 73) (lo' := [some (.ref 14), some (.int (nI base)), some (.int 1), some (.int (nI r')), some (.int (nI by')), x5]) (S' := []) (h' := h') rfl ?_
    exact hg
  · rw [if_neg h4] at hst
    refine qg_icmp true rfl (qc_neT (b := 4) h4 (by omega) (by decide)) rfl ?_
    refine qg_pls (n := 2) (k' := 69) (lo' := [some (.ref 14), some (.int (nI base)), some (.int 1), some (.int (nI r)), some (.int (nI by')), x5]) (S' := [.int (nI r), .int (nI by'), .int (nI base), .ref 14]) (h' := h) rfl ?_
    refine qg_call (v := some (.int (nI r'))) (h' := h') (as := [.ref 14, .int (nI base), .int (nI by'), .int (nI r)]) rfl rfl rfl rfl rfl rfl rfl (ai_rcv1 rfl rfl hob) (hst) ?_
    show qg L xs _ qm_140 70 [some (.ref 14), some (.int (nI base)), some (.int 1), some (.int (nI r)), some (.int (nI by')), x5] [.int (nI r')] h' _
    refine qg_pls (n := 2) (k' := 73) (lo' := [some (.ref 14), some (.int (nI base)), some (.int 1), some (.int (nI r')), some (.int (nI by')), x5]) (S' := []) (h' := h') rfl ?_
    exact hg
theorem x_58z {base r : Nat} : ∀ o, qg L xs (d + 8) qm_140 73 [some (.ref 14), some (.int (nI base)), some (.int 1), some (.int (nI r)), some (.int (nI 0)), x5] [] h o → qg L xs (d + 8) qm_140 58 [some (.ref 14), some (.int (nI base)), some (.int 1), some (.int (nI r)), some (.int (nI 0)), x5] [] h o := by
  intro o hg
  refine qg_pls (n := 1) (k' := 59) (lo' := [some (.ref 14), some (.int (nI base)), some (.int 1), some (.int (nI r)), some (.int (nI 0)), x5]) (S' := [.int (nI 0)]) (h' := h) rfl ?_
  refine qg_if true rfl (qc_leT (b := 0) (Nat.le_refl _) (by decide)) rfl ?_
  refine qg_pls (n := 2) (k' := 73) (lo' := [some (.ref 14), some (.int (nI base)), some (.int 1), some (.int (nI r)), some (.int (nI 0)), x5]) (S' := []) (h' := h) rfl ?_
  exact hg
/-- it isn't stuck -/
theorem x_73 {r by' : Nat} (hc : mcs e Y K (Q ++ P) s h) (hby : by' ≤ 8) (hb : 4 < by' ∨ Q = [] ∨ ∃ q Q', Q = q :: Q' ∧ q.2 ≠ 9) : ∀ o, qg L xs (d + 8) qm_140 100 [some (.ref 14), some (.int (nI P.length)), some (.int 1), some (.int (nI r)), some (.int (nI by')), some (.int 0)] [] h o → qg L xs (d + 8) qm_140 73 [some (.ref 14), some (.int (nI P.length)), some (.int 1), some (.int (nI r)), some (.int (nI by')), x5] [] h o := by
  intro o hg
  have hbd := mcs_bd hc
  obtain ⟨kept, bg, en, md, hob⟩ := mcs_obj hc
  have tail : qg L xs (d + 8) qm_140 91 [some (.ref 14), some (.int (nI P.length)), some (.int 1), some (.int (nI r)), some (.int (nI by')), x5] [] h o := by
    refine qg_pls (n := 4) (k' := 95) (lo' := [some (.ref 14), some (.int (nI P.length)), some (.int 1), some (.int (nI r)), some (.int (nI by')), some (.int 0)]) (S' := [.int 0, .ref 14]) (h' := h) rfl ?_
    refine qg_if false rfl (rfl) rfl ?_
    refine qg_pls (n := 2) (k' := 99) (lo' := [some (.ref 14), some (.int (nI P.length)), some (.int 1), some (.int (nI r)), some (.int (nI by')), some (.int 0)]) (S' := [.int 1, .ref 14]) (h' := h) rfl ?_
    refine qg_call (v := none) (h' := h) (as := [.ref 14, .int 1]) rfl rfl rfl rfl rfl rfl rfl (ai_rcv1 rfl rfl hob) (m_need1 (d := d + 7)) ?_
    show qg L xs _ qm_140 100 [some (.ref 14), some (.int (nI P.length)), some (.int 1), some (.int (nI r)), some (.int (nI by')), some (.int 0)] [] h _
    exact hg
  refine qg_pls (n := 2) (k' := 75) (lo' := [some (.ref 14), some (.int (nI P.length)), some (.int 1), some (.int (nI r)), some (.int (nI by')), x5]) (S' := [.int 4, .int (nI by')]) (h' := h) rfl ?_
  by_cases h4 : 4 < by'
  · skip
    refine qg_icmp true rfl (qc_gtT (b := 4) h4 (by omega)) rfl ?_
    exact tail
  · skip
    refine qg_icmp false rfl (qc_gtF (b := 4) (by omega) (by decide)) rfl ?_
    refine qg_pls (n := 1) (k' := 77) (lo' := [some (.ref 14), some (.int (nI P.length)), some (.int 1), some (.int (nI r)), some (.int (nI by')), x5]) (S' := [.ref 14]) (h' := h) rfl ?_
    refine qg_getf (v := .int (nI ((Q ++ P).length))) rfl hob rfl rfl rfl ?_
    refine qg_pls (n := 1) (k' := 79) (lo' := [some (.ref 14), some (.int (nI P.length)), some (.int 1), some (.int (nI r)), some (.int (nI by')), x5]) (S' := [.int (nI P.length), .int (nI ((Q ++ P).length))]) (h' := h) rfl ?_
    rcases hb with z | rfl | ⟨q, Q', rfl, h9⟩
    · exact absurd z h4
    · skip
      refine qg_icmp true rfl (qc_leT (Nat.le_refl _) (by have : P.length ≤ 300 := hbd.2.2.2.2; omega)) rfl ?_
      exact tail
    · obtain ⟨kept2, bg2, en2, md2, wr, o1, o2, w1, w2, w3⟩ := m_top (W := Q' ++ P) hc
      have hl2 : P.length ≤ (Q' ++ P).length := by rw [List.length_append]; omega
      refine qg_icmp false rfl (qc_leF (by show P.length < (Q' ++ P).length + 1; omega) (by show (Q' ++ P).length + 1 < _; omega)) rfl ?_
      refine qg_pls (n := 1) (k' := 81) (lo' := [some (.ref 14), some (.int (nI P.length)), some (.int 1), some (.int (nI r)), some (.int (nI by')), x5]) (S' := [.ref 14]) (h' := h) rfl ?_
      refine qg_getf (v := .ref 23) rfl o1 rfl rfl rfl ?_
      refine qg_pls (n := 1) (k' := 83) (lo' := [some (.ref 14), some (.int (nI P.length)), some (.int 1), some (.int (nI r)), some (.int (nI by')), x5]) (S' := [.ref 14, .ref 23]) (h' := h) rfl ?_
      refine qg_getf (v := .int (nI ((Q' ++ P).length + 1))) rfl o1 rfl rfl rfl ?_
      refine qg_pls (n := 2) (k' := 86) (lo' := [some (.ref 14), some (.int (nI P.length)), some (.int 1), some (.int (nI r)), some (.int (nI by')), x5]) (S' := [.int ((nI ((Q' ++ P).length + 1)) - 1), .ref 23]) (h' := h) rfl ?_
      rw [show nI ((Q' ++ P).length + 1) - 1 = nI (Q' ++ P).length from nI_sub (b := 1) (by omega)]
      refine qg_ald rfl (fun _ _ _ => rfl) o2 (by omega) (by decide) ?_
      rw [w1]
      refine qg_pls (n := 1) (k' := 88) (lo' := [some (.ref 14), some (.int (nI P.length)), some (.int 1), some (.int (nI r)), some (.int (nI by')), x5]) (S' := [.int 9, .int (nI q.2)]) (h' := h) rfl ?_
      refine qg_icmp true rfl (qc_neT (b := 9) h9 (by omega) (by decide)) rfl ?_
      exact tail
/-- it is stuck: the second end of a BETWEEN is wanting -/
theorem x_73s {r by' : Nat} {q : Nat × Nat} {Q' : zK} (hc : mcs e Y K (q :: Q' ++ P) s h) (hby : by' ≤ 4) (h9 : q.2 = 9) : qg L xs (d + 8) qm_140 73 [some (.ref 14), some (.int (nI P.length)), some (.int 1), some (.int (nI r)), some (.int (nI by')), x5] [] h (.inr "java/lang/IllegalArgumentException", (h.1, h.2.1 + 1, h.2.2 + 6)) := by
  obtain ⟨kept2, bg2, en2, md2, wr, o1, o2, w1, w2, w3⟩ := m_top (W := Q' ++ P) hc
  have hl2 : P.length ≤ (Q' ++ P).length := by rw [List.length_append]; omega
  refine qg_pls (n := 2) (k' := 75) (lo' := [some (.ref 14), some (.int (nI P.length)), some (.int 1), some (.int (nI r)), some (.int (nI by')), x5]) (S' := [.int 4, .int (nI by')]) (h' := h) rfl ?_
  refine qg_icmp false rfl (qc_gtF (b := 4) hby (by decide)) rfl ?_
  refine qg_pls (n := 1) (k' := 77) (lo' := [some (.ref 14), some (.int (nI P.length)), some (.int 1), some (.int (nI r)), some (.int (nI by')), x5]) (S' := [.ref 14]) (h' := h) rfl ?_
  refine qg_getf (v := .int (nI ((Q' ++ P).length + 1))) rfl o1 rfl rfl rfl ?_
  refine qg_pls (n := 1) (k' := 79) (lo' := [some (.ref 14), some (.int (nI P.length)), some (.int 1), some (.int (nI r)), some (.int (nI by')), x5]) (S' := [.int (nI P.length), .int (nI ((Q' ++ P).length + 1))]) (h' := h) rfl ?_
  refine qg_icmp false rfl (qc_leF (by omega) (by omega)) rfl ?_
  refine qg_pls (n := 1) (k' := 81) (lo' := [some (.ref 14), some (.int (nI P.length)), some (.int 1), some (.int (nI r)), some (.int (nI by')), x5]) (S' := [.ref 14]) (h' := h) rfl ?_
  refine qg_getf (v := .ref 23) rfl o1 rfl rfl rfl ?_
  refine qg_pls (n := 1) (k' := 83) (lo' := [some (.ref 14), some (.int (nI P.length)), some (.int 1), some (.int (nI r)), some (.int (nI by')), x5]) (S' := [.ref 14, .ref 23]) (h' := h) rfl ?_
  refine qg_getf (v := .int (nI ((Q' ++ P).length + 1))) rfl o1 rfl rfl rfl ?_
  refine qg_pls (n := 2) (k' := 86) (lo' := [some (.ref 14), some (.int (nI P.length)), some (.int 1), some (.int (nI r)), some (.int (nI by')), x5]) (S' := [.int ((nI ((Q' ++ P).length + 1)) - 1), .ref 23]) (h' := h) rfl ?_
  rw [show nI ((Q' ++ P).length + 1) - 1 = nI (Q' ++ P).length from nI_sub (b := 1) (by omega)]
  refine qg_ald rfl (fun _ _ _ => rfl) o2 (by omega) (by decide) ?_
  rw [w1]
  refine qg_pls (n := 1) (k' := 88) (lo' := [some (.ref 14), some (.int (nI P.length)), some (.int 1), some (.int (nI r)), some (.int (nI by')), x5]) (S' := [.int 9, .int (nI q.2)]) (h' := h) rfl ?_
  refine qg_icmp false rfl (qc_neF (b := 9) h9) rfl ?_
  refine qg_pls (n := 5) (k' := 95) (lo' := [some (.ref 14), some (.int (nI P.length)), some (.int 1), some (.int (nI r)), some (.int (nI by')), some (.int 1)]) (S' := [.int 1, .ref 14]) (h' := h) rfl ?_
  refine qg_if true rfl (rfl) rfl ?_
  refine qg_pls (n := 1) (k' := 99) (lo' := [some (.ref 14), some (.int (nI P.length)), some (.int 1), some (.int (nI r)), some (.int (nI by')), some (.int 1)]) (S' := [.int 0, .ref 14]) (h' := h) rfl ?_
  exact qg_callT rfl rfl rfl rfl rfl rfl rfl (ai_rcv1 rfl rfl o1) rfl (m_need0 (d := d + 7))
/-- the expression ends here -/
theorem x_100n {r by' : Nat} (hc : mcs e Y K (Q ++ P) s h) (hby : by' ≤ 8) (hr : r ≤ 9) (hb : by' = 0 ∨ (by' = 4 ∧ (r ≤ 4 ∨ ∃ q Q', Q = q :: Q' ∧ q.2 = 4)) ∨ (1 ≤ by' ∧ by' ≠ 4 ∧ r < by')) : ∀ o, qg L xs (d + 8) qm_140 137 [some (.ref 14), some (.int (nI P.length)), some (.int 0), some (.int (nI r)), some (.int (nI by')), x5] [] h o → qg L xs (d + 8) qm_140 100 [some (.ref 14), some (.int (nI P.length)), some (.int 1), some (.int (nI r)), some (.int (nI by')), x5] [] h o := by
  intro o hg
  have hbd := mcs_bd hc
  obtain ⟨kept, bg, en, md, hob⟩ := mcs_obj hc
  have tail : qg L xs (d + 8) qm_140 127 [some (.ref 14), some (.int (nI P.length)), some (.int 1), some (.int (nI r)), some (.int (nI by')), x5] [] h o := by
    refine qg_pls (n := 3) (k' := 130) (lo' := [some (.ref 14), some (.int (nI P.length)), some (.int 0), some (.int (nI r)), some (.int (nI by')), x5]) (S' := [.int 0]) (h' := h) rfl ?_
    refine qg_if true rfl (rfl) rfl ?_
    refine qg_pls (n := 2) (k' := 11) (lo' := [some (.ref 14), some (.int (nI P.length)), some (.int 0), some (.int (nI r)), some (.int (nI by')), x5]) (S' := [.int 0]) (h' := h) rfl ?_
    refine qg_if true rfl (rfl) rfl ?_
    exact hg
  refine qg_pls (n := 1) (k' := 101) (lo' := [some (.ref 14), some (.int (nI P.length)), some (.int 1), some (.int (nI r)), some (.int (nI by')), x5]) (S' := [.int (nI by')]) (h' := h) rfl ?_
  by_cases h0 : by' = 0
  · skip
    refine qg_if true rfl (qc_leT (b := 0) (by omega) (by decide)) rfl ?_
    exact tail
  · skip
    refine qg_if false rfl (qc_leF (b := 0) (by omega) (by omega)) rfl ?_
    refine qg_pls (n := 2) (k' := 104) (lo' := [some (.ref 14), some (.int (nI P.length)), some (.int 1), some (.int (nI r)), some (.int (nI by')), x5]) (S' := [.int 4, .int (nI by')]) (h' := h) rfl ?_
    by_cases h4 : by' = 4
    · skip
      refine qg_icmp false rfl (qc_neF (b := 4) h4) rfl ?_
      refine qg_pls (n := 2) (k' := 107) (lo' := [some (.ref 14), some (.int (nI P.length)), some (.int 1), some (.int (nI r)), some (.int (nI by')), x5]) (S' := [.int 4, .int (nI r)]) (h' := h) rfl ?_
      by_cases r4 : r ≤ 4
      · skip
        refine qg_icmp true rfl (qc_leT (b := 4) r4 (by decide)) rfl ?_
        exact tail
      · rcases hb with z | ⟨-, z | ⟨q, Q', rfl, hq⟩⟩ | ⟨-, z, -⟩
        · exact absurd z h0
        · exact absurd z r4
        · obtain ⟨kept2, bg2, en2, md2, wr, o1, o2, w1, w2, w3⟩ := m_top (W := Q' ++ P) hc
          have hl2 : P.length ≤ (Q' ++ P).length := by rw [List.length_append]; omega
          refine qg_icmp false rfl (qc_leF (b := 4) (by omega) (by omega)) rfl ?_
          refine qg_pls (n := 1) (k' := 109) (lo' := [some (.ref 14), some (.int (nI P.length)), some (.int 1), some (.int (nI r)), some (.int (nI by')), x5]) (S' := [.ref 14]) (h' := h) rfl ?_
          refine qg_getf (v := .int (nI ((Q' ++ P).length + 1))) rfl o1 rfl rfl rfl ?_
          refine qg_pls (n := 1) (k' := 111) (lo' := [some (.ref 14), some (.int (nI P.length)), some (.int 1), some (.int (nI r)), some (.int (nI by')), x5]) (S' := [.int (nI P.length), .int (nI ((Q' ++ P).length + 1))]) (h' := h) rfl ?_
          refine qg_icmp false rfl (qc_leF (by omega) (by omega)) rfl ?_
          refine qg_pls (n := 1) (k' := 113) (lo' := [some (.ref 14), some (.int (nI P.length)), some (.int 1), some (.int (nI r)), some (.int (nI by')), x5]) (S' := [.ref 14]) (h' := h) rfl ?_
          refine qg_getf (v := .ref 23) rfl o1 rfl rfl rfl ?_
          refine qg_pls (n := 1) (k' := 115) (lo' := [some (.ref 14), some (.int (nI P.length)), some (.int 1), some (.int (nI r)), some (.int (nI by')), x5]) (S' := [.ref 14, .ref 23]) (h' := h) rfl ?_
          refine qg_getf (v := .int (nI ((Q' ++ P).length + 1))) rfl o1 rfl rfl rfl ?_
          refine qg_pls (n := 2) (k' := 118) (lo' := [some (.ref 14), some (.int (nI P.length)), some (.int 1), some (.int (nI r)), some (.int (nI by')), x5]) (S' := [.int ((nI ((Q' ++ P).length + 1)) - 1), .ref 23]) (h' := h) rfl ?_
          rw [show nI ((Q' ++ P).length + 1) - 1 = nI (Q' ++ P).length from nI_sub (b := 1) (by omega)]
          refine qg_ald rfl (fun _ _ _ => rfl) o2 (by omega) (by decide) ?_
          rw [w1]
          refine qg_pls (n := 1) (k' := 120) (lo' := [some (.ref 14), some (.int (nI P.length)), some (.int 1), some (.int (nI r)), some (.int (nI by')), x5]) (S' := [.int 4, .int (nI q.2)]) (h' := h) rfl ?_
          refine qg_icmp true rfl (qc_eqT (b := 4) hq) rfl ?_
          exact tail
        · exact absurd h4 z
    · have hrb : r < by' := by
        rcases hb with z | ⟨z, -⟩ | ⟨-, -, z⟩
        · exact absurd z h0
        · exact absurd z h4
        · exact z
      refine qg_icmp true rfl (qc_neT (b := 4) h4 (by omega) (by decide)) rfl ?_
      refine qg_pls (n := 2) (k' := 124) (lo' := [some (.ref 14), some (.int (nI P.length)), some (.int 1), some (.int (nI r)), some (.int (nI by')), x5]) (S' := [.int (nI by'), .int (nI r)]) (h' := h) rfl ?_
      refine qg_icmp true rfl (qc_ltT hrb (by omega)) rfl ?_
      exact tail
/-- it goes on -/
theorem x_100y {r by' : Nat} (hc : mcs e Y K (Q ++ P) s h) (hby : by' ≤ 8) (hr : r ≤ 9) (h0 : 1 ≤ by') (hb : (by' = 4 ∧ 4 < r ∧ (Q = [] ∨ ∃ q Q', Q = q :: Q' ∧ q.2 ≠ 4)) ∨ (by' ≠ 4 ∧ by' ≤ r)) : ∀ o, qg L xs (d + 8) qm_140 134 [some (.ref 14), some (.int (nI P.length)), some (.int 1), some (.int (nI r)), some (.int (nI by')), x5] [.int (nI by'), .int (nI P.length), .ref 14] h o → qg L xs (d + 8) qm_140 100 [some (.ref 14), some (.int (nI P.length)), some (.int 1), some (.int (nI r)), some (.int (nI by')), x5] [] h o := by
  intro o hg
  have hbd := mcs_bd hc
  obtain ⟨kept, bg, en, md, hob⟩ := mcs_obj hc
  have tail : qg L xs (d + 8) qm_140 125 [some (.ref 14), some (.int (nI P.length)), some (.int 1), some (.int (nI r)), some (.int (nI by')), x5] [] h o := by
    refine qg_pls (n := 4) (k' := 130) (lo' := [some (.ref 14), some (.int (nI P.length)), some (.int 1), some (.int (nI r)), some (.int (nI by')), x5]) (S' := [.int 1]) (h' := h) rfl ?_
    refine qg_if false rfl (rfl) rfl ?_
    refine qg_pls (n := 3) (k' := 134) (lo' := [some (.ref 14), some (.int (nI P.length)), some (.int 1), some (.int (nI r)), some (.int (nI by')), x5]) (S' := [.int (nI by'), .int (nI P.length), .ref 14]) (h' := h) rfl ?_
    exact hg
  refine qg_pls (n := 1) (k' := 101) (lo' := [some (.ref 14), some (.int (nI P.length)), some (.int 1), some (.int (nI r)), some (.int (nI by')), x5]) (S' := [.int (nI by')]) (h' := h) rfl ?_
  refine qg_if false rfl (qc_leF (b := 0) h0 (by omega)) rfl ?_
  refine qg_pls (n := 2) (k' := 104) (lo' := [some (.ref 14), some (.int (nI P.length)), some (.int 1), some (.int (nI r)), some (.int (nI by')), x5]) (S' := [.int 4, .int (nI by')]) (h' := h) rfl ?_
  by_cases h4 : by' = 4
  · obtain ⟨r4, hq⟩ : 4 < r ∧ (Q = [] ∨ ∃ q Q', Q = q :: Q' ∧ q.2 ≠ 4) := by
      rcases hb with ⟨-, z1, z2⟩ | ⟨z, -⟩
      · exact ⟨z1, z2⟩
      · exact absurd h4 z
    refine qg_icmp false rfl (qc_neF (b := 4) h4) rfl ?_
    refine qg_pls (n := 2) (k' := 107) (lo' := [some (.ref 14), some (.int (nI P.length)), some (.int 1), some (.int (nI r)), some (.int (nI by')), x5]) (S' := [.int 4, .int (nI r)]) (h' := h) rfl ?_
    refine qg_icmp false rfl (qc_leF (b := 4) r4 (by omega)) rfl ?_
    refine qg_pls (n := 1) (k' := 109) (lo' := [some (.ref 14), some (.int (nI P.length)), some (.int 1), some (.int (nI r)), some (.int (nI by')), x5]) (S' := [.ref 14]) (h' := h) rfl ?_
    refine qg_getf (v := .int (nI ((Q ++ P).length))) rfl hob rfl rfl rfl ?_
    refine qg_pls (n := 1) (k' := 111) (lo' := [some (.ref 14), some (.int (nI P.length)), some (.int 1), some (.int (nI r)), some (.int (nI by')), x5]) (S' := [.int (nI P.length), .int (nI ((Q ++ P).length))]) (h' := h) rfl ?_
    rcases hq with rfl | ⟨q, Q', rfl, hq⟩
    · skip
      refine qg_icmp true rfl (qc_leT (Nat.le_refl _) (by have : P.length ≤ 300 := hbd.2.2.2.2; omega)) rfl ?_
      exact tail
    · obtain ⟨kept2, bg2, en2, md2, wr, o1, o2, w1, w2, w3⟩ := m_top (W := Q' ++ P) hc
      have hl2 : P.length ≤ (Q' ++ P).length := by rw [List.length_append]; omega
      refine qg_icmp false rfl (qc_leF (by show P.length < (Q' ++ P).length + 1; omega) (by show (Q' ++ P).length + 1 < _; omega)) rfl ?_
      refine qg_pls (n := 1) (k' := 113) (lo' := [some (.ref 14), some (.int (nI P.length)), some (.int 1), some (.int (nI r)), some (.int (nI by')), x5]) (S' := [.ref 14]) (h' := h) rfl ?_
      refine qg_getf (v := .ref 23) rfl o1 rfl rfl rfl ?_
      refine qg_pls (n := 1) (k' := 115) (lo' := [some (.ref 14), some (.int (nI P.length)), some (.int 1), some (.int (nI r)), some (.int (nI by')), x5]) (S' := [.ref 14, .ref 23]) (h' := h) rfl ?_
      refine qg_getf (v := .int (nI ((Q' ++ P).length + 1))) rfl o1 rfl rfl rfl ?_
      refine qg_pls (n := 2) (k' := 118) (lo' := [some (.ref 14), some (.int (nI P.length)), some (.int 1), some (.int (nI r)), some (.int (nI by')), x5]) (S' := [.int ((nI ((Q' ++ P).length + 1)) - 1), .ref 23]) (h' := h) rfl ?_
      rw [show nI ((Q' ++ P).length + 1) - 1 = nI (Q' ++ P).length from nI_sub (b := 1) (by omega)]
      refine qg_ald rfl (fun _ _ _ => rfl) o2 (by omega) (by decide) ?_
      rw [w1]
      refine qg_pls (n := 1) (k' := 120) (lo' := [some (.ref 14), some (.int (nI P.length)), some (.int 1), some (.int (nI r)), some (.int (nI by')), x5]) (S' := [.int 4, .int (nI q.2)]) (h' := h) rfl ?_
      refine qg_icmp false rfl (qc_eqF (b := 4) hq (by omega) (by decide)) rfl ?_
      refine qg_pls (n := 1) (k' := 125) (lo' := [some (.ref 14), some (.int (nI P.length)), some (.int 1), some (.int (nI r)), some (.int (nI by')), x5]) (S' := []) (h' := h) rfl ?_
      exact tail
  · have hrb : by' ≤ r := by
      rcases hb with ⟨z, -⟩ | ⟨-, z⟩
      · exact absurd z h4
      · exact z
    refine qg_icmp true rfl (qc_neT (b := 4) h4 (by omega) (by decide)) rfl ?_
    refine qg_pls (n := 2) (k' := 124) (lo' := [some (.ref 14), some (.int (nI P.length)), some (.int 1), some (.int (nI r)), some (.int (nI by')), x5]) (S' := [.int (nI by'), .int (nI r)]) (h' := h) rfl ?_
    refine qg_icmp false rfl (qc_ltF hrb (by omega)) rfl ?_
    exact tail
/-- the end: all that waits is settled -/
theorem x_137 (ht : mtk e Y) {r ma st l0 : Nat} {v : Option (zK × Nat × Nat)} {x3 : Option Value} (hl : mle K P l0) (hx : mxp e Y K (Q ++ P) s h st ma) (hm : mso l0 st Q) (hq : ∀ q ∈ Q, 1 ≤ q.2 ∧ q.2 ≤ 8) (hz : zcb 1 Q st ma s = some (v, s')) : ∃ h' ma', v = some ([], zbot Q st, ma') ∧ qg L xs (d + 8) qm_140 137 [some (.ref 14), some (.int (nI P.length)), some (.int 0), some (.int (nI r)), x4, x5] [] h (.inl none, h') ∧ mxp e Y K P s' h' (zbot Q st) ma' := by
  obtain ⟨h', p', st', ma', r', i1, i2, i3, i4, i5, i6, i7, i8⟩ := m_stoC (L := L) (xs := xs) (d := d) (r := r) (R := []) ht hl (by decide) (by decide) (fun q R' e1 => by cases e1) (by rw [List.append_nil]; exact hx) (by rw [List.append_nil]; exact hm) hq hz
  have hp : p' = [] := by
    cases p' with
    | nil => rfl
    | cons q p'' =>
      have a := i6 q p'' rfl
      have b := (hq q (i5 q (List.mem_cons_self ..))).1
      omega
  subst hp
  have e1 : st' = zbot Q st := i7
  rw [e1] at i1 i3
  refine ⟨h', ma', i1, ?_, i3⟩
  obtain ⟨fs, hob⟩ := mcs_rcv (mxp_mcs hx)
  have hc3 : mcs e Y K P s' h' := mxp_mcs i3
  have hbd := mcs_bd hc3
  obtain ⟨kept, bg, en, md, hob3⟩ := mcs_obj hc3
  refine qg_pls (n := 4) (k' := 141) (lo' := [some (.ref 14), some (.int (nI P.length)), some (.int 0), some (.int (nI r)), x4, x5]) (S' := [.int (nI r), .int 1, .int (nI P.length), .ref 14]) (h' := h) rfl ?_
  refine qg_call (v := some (.int (nI r'))) (h' := h') (as := [.ref 14, .int (nI P.length), .int 1, .int (nI r)]) rfl rfl rfl rfl rfl rfl rfl (ai_rcv1 rfl rfl hob) ((qe_up (by omega) i2)) ?_
  show qg L xs _ qm_140 142 [some (.ref 14), some (.int (nI P.length)), some (.int 0), some (.int (nI r)), x4, x5] [.int (nI r')] h' _
  refine qg_pls (n := 3) (k' := 145) (lo' := [some (.ref 14), some (.int (nI P.length)), some (.int 0), some (.int (nI r)), x4, x5]) (S' := [.ref 14, .ref 14]) (h' := h') rfl ?_
  refine qg_getf (v := .int (nI P.length)) rfl hob3 rfl rfl rfl ?_
  refine qg_pls (n := 1) (k' := 147) (lo' := [some (.ref 14), some (.int (nI P.length)), some (.int 0), some (.int (nI r)), x4, x5]) (S' := [.int (nI P.length), .int (nI P.length), .ref 14]) (h' := h') rfl ?_
  refine qg_icmp false rfl (qc_neF rfl) rfl ?_
  refine qg_pls (n := 2) (k' := 151) (lo' := [some (.ref 14), some (.int (nI P.length)), some (.int 0), some (.int (nI r)), x4, x5]) (S' := [.int 1, .ref 14]) (h' := h') rfl ?_
  refine qg_call (v := none) (h' := h') (as := [.ref 14, .int 1]) rfl rfl rfl rfl rfl rfl rfl (ai_rcv1 rfl rfl hob3) (m_need1 (d := d + 7)) ?_
  show qg L xs _ qm_140 152 [some (.ref 14), some (.int (nI P.length)), some (.int 0), some (.int (nI r)), x4, x5] [] h' _
  exact qg_ret7 rfl
end MXR
