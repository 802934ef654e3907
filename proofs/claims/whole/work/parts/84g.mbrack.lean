/-! NAMES, NUMBERS, BRACKETS. (Printed by wip/whole/pp.py from wip/whole/src.) -/
section MBR
variable {L : Nat} {xs : Nat → Int32} {d : Nat} {h h' : ai_H} {e : zE} {Y : Nat → Option ai_C} {K : mK} {W P : zK} {s s' : zS} {J : List zJ} {bg en md : Value}
/-- how many are open, and the most, alone have changed -/
theorem mcs0_open {o' m' : Nat} (hc : mcs0 e Y K W s h J bg en md) (ho : o' ≤ 40) (hm : m' ≤ 40) : mcs0 e Y K W (s.1, o', m', s.2.2.2) (h.1.set 14 (mobj K.2.2.2.1 s.1 J.length o' m' bg en md W.length), h.2) J bg en md := by
  obtain ⟨rf, bf, wr, wf, c1, c2, c3, c4, c5, c6, c7, c8, cu, c9, c10, c11, c12, ⟨y14, y21, y22, y23, y24⟩, c14⟩ := hc
  exact ⟨rf, bf, wr, wf, q_set c1, q_stay c2 (by decide), q_stay c3 (by decide), q_stay c4 (by decide), q_stay c5 (by decide), c6, c7, c8, cu, ⟨c9.1, ho, hm, c9.2.2.2⟩, c10, c11, fun i c hi => q_stay (c12 i c hi) (fun e => by rw [← e, y14] at hi; cases hi), ⟨y14, y21, y22, y23, y24⟩, c14⟩
theorem mcs0_ob (hc : mcs0 e Y K W s h J bg en md) : h.1[14]? = some (mobj K.2.2.2.1 s.1 J.length s.2.1 s.2.2.1 bg en md W.length) := by
  obtain ⟨rf, bf, wr, wf, c1, -⟩ := hc
  exact c1
/-- QueryReaderModel.sort -/
theorem m_sort (ht : mtk e Y) {c k : Nat} {f : zS → List Int32} (hk : k = 99 ∨ k = 100 ∨ k = 101) (hcode : ∀ m, m < 104 → (zcode m = c ↔ m = k)) (hc7 : c ≤ 7) (hz : ∀ s : zS, ztk e s.1 = k → zit e s.1 = f s) : mim L xs e Y K (d + 2) 145 [.ref 14, .int (nI c)] 0 (zc e k (fun s => zq (zput (f s)) (zstep e) s) zf) := by
  intro P s h v s' hc hf
  have hp := mcs_prot hc
  have hb := mcs_bd hc
  obtain ⟨J, bg, en, md, hc0⟩ := id hc
  have hob := mcs0_ob hc0
  obtain ⟨fk, t7, t9, t10⟩ := mtk_so ht
  have hlt := mtk_lt ht s.1
  have hzc := zcode_cases hlt
  unfold zc at hf
  by_cases h1 : ztk e s.1 = k
  · rw [if_pos h1] at hf
    obtain ⟨rfl, rfl⟩ := zkp_inv h1 (by omega) hf
    obtain ⟨n1, n2, n3⟩ := mtk_next ht (show ztk e s.1 < 102 by omega)
    obtain ⟨h', g1, g2⟩ := m_keep (L := L) (xs := xs) (d := d) ht hc0 (by omega) (c' := K.1) (g' := K.2.1) (by omega) (by omega)
    rw [hz s h1] at g2
    refine ⟨h', ?_, _, _, _, _, g2⟩
    refine qe_of (M := qm_145) rfl rfl ?_
    show qg L xs _ qm_145 0 [some (.ref 14), some (.int (nI c))] [] h _
    refine qg_pls (n := 2) (k' := 2) (lo' := [some (.ref 14), some (.int (nI c))]) (S' := [.ref 14, .ref 14]) (h' := h) rfl ?_
    refine qg_getf (v := .ref 19) rfl hob rfl rfl rfl ?_
    refine qg_pls (n := 1) (k' := 4) (lo' := [some (.ref 14), some (.int (nI c))]) (S' := [.ref 14, .ref 19, .ref 14]) (h' := h) rfl ?_
    refine qg_getf (v := .int (nI s.1)) rfl hob rfl rfl rfl ?_
    refine qg_ald rfl (fun _ _ _ => rfl) (hp _ _ t7) (by omega) (by decide) ?_
    rw [t9 _ hb.1]
    refine qg_pls (n := 1) (k' := 7) (lo' := [some (.ref 14), some (.int (nI c))]) (S' := [.int (nI c), .int (nI (zcode (ztk e s.1))), .ref 14]) (h' := h) rfl ?_
    refine qg_icmp false rfl (qc_neF ((hcode _ hlt).mpr h1)) rfl ?_
    refine qg_pls (n := 2) (k' := 11) (lo' := [some (.ref 14), some (.int (nI c))]) (S' := [.int 1, .ref 14]) (h' := h) rfl ?_
    refine qg_call (v := none) (h' := h) (as := [.ref 14, .int 1]) rfl rfl rfl rfl rfl rfl rfl (ai_rcv1 rfl rfl hob) (m_need1 (d := d)) ?_
    show qg L xs _ qm_145 12 [some (.ref 14), some (.int (nI c))] [] h _
    refine qg_pls (n := 1) (k' := 13) (lo' := [some (.ref 14), some (.int (nI c))]) (S' := [.ref 14]) (h' := h) rfl ?_
    refine qg_call (v := none) (h' := h') (as := [.ref 14]) rfl rfl rfl rfl rfl rfl rfl (ai_rcv1 rfl rfl hob) (g1) ?_
    show qg L xs _ qm_145 14 [some (.ref 14), some (.int (nI c))] [] h' _
    exact qg_ret7 rfl
  · rw [if_neg h1] at hf
    cases hf
    refine ⟨_, ?_, mcs_bad hc⟩
    refine qe_of (M := qm_145) rfl rfl ?_
    show qg L xs _ qm_145 0 [some (.ref 14), some (.int (nI c))] [] h _
    refine qg_pls (n := 2) (k' := 2) (lo' := [some (.ref 14), some (.int (nI c))]) (S' := [.ref 14, .ref 14]) (h' := h) rfl ?_
    refine qg_getf (v := .ref 19) rfl hob rfl rfl rfl ?_
    refine qg_pls (n := 1) (k' := 4) (lo' := [some (.ref 14), some (.int (nI c))]) (S' := [.ref 14, .ref 19, .ref 14]) (h' := h) rfl ?_
    refine qg_getf (v := .int (nI s.1)) rfl hob rfl rfl rfl ?_
    refine qg_ald rfl (fun _ _ _ => rfl) (hp _ _ t7) (by omega) (by decide) ?_
    rw [t9 _ hb.1]
    refine qg_pls (n := 1) (k' := 7) (lo' := [some (.ref 14), some (.int (nI c))]) (S' := [.int (nI c), .int (nI (zcode (ztk e s.1))), .ref 14]) (h' := h) rfl ?_
    refine qg_icmp true rfl (qc_neT (fun q => h1 ((hcode _ hlt).mp q)) (by omega) (by omega)) rfl ?_
    refine qg_pls (n := 1) (k' := 11) (lo' := [some (.ref 14), some (.int (nI c))]) (S' := [.int 0, .ref 14]) (h' := h) rfl ?_
    exact qg_callT rfl rfl rfl rfl rfl rfl rfl (ai_rcv1 rfl rfl hob) rfl (m_need0 (d := d))
theorem mi_name (ht : mtk e Y) : mim L xs e Y K (d + 2) 145 [.ref 14, .int 2] 0 (znm e) := m_sort (c := 2) (f := fun s => (zsl e s.1).map zsm) ht (by decide) (fun m hm => (zcode_cases hm).2.2.1) (by decide) (fun s h1 => by
  unfold zit
  rw [h1, if_neg (by decide), if_pos rfl])
theorem mi_number (ht : mtk e Y) : mim L xs e Y K (d + 2) 145 [.ref 14, .int 3] 0 (znu e) := m_sort (c := 3) (f := fun s => znz (zsl e s.1)) ht (by decide) (fun m hm => (zcode_cases hm).2.2.2.1) (by decide) (fun s h1 => by
  unfold zit
  rw [h1, if_neg (by decide), if_neg (by decide), if_pos rfl])
/-- QueryReaderModel.opens -/
theorem m_opens (hc : mcs0 e Y K W s h J bg en md) (ho : s.2.1 < 40) : qe L xs (d + 2) 142 [.ref 14] h (.inl none, (h.1.set 14 (mobj K.2.2.2.1 s.1 J.length (s.2.1 + 1) (max s.2.2.1 (s.2.1 + 1)) bg en md W.length), h.2)) := by
  have hob := mcs0_ob hc
  obtain ⟨rf, bf, wr, wf, c1, c2, c3, c4, c5, c6, c7, c8, cu, c9, c10, c11, c12, ⟨y14, y21, y22, y23, y24⟩, c14⟩ := hc
  refine qe_of (M := qm_142) rfl rfl ?_
  show qg L xs _ qm_142 0 [some (.ref 14)] [] h _
  refine qg_pls (n := 2) (k' := 2) (lo' := [some (.ref 14)]) (S' := [.ref 14, .ref 14]) (h' := h) rfl ?_
  refine qg_getf (v := .int (nI s.2.1)) rfl hob rfl rfl rfl ?_
  refine qg_pls (n := 1) (k' := 4) (lo' := [some (.ref 14)]) (S' := [.int 40, .int (nI s.2.1), .ref 14]) (h' := h) rfl ?_
  refine qg_icmp false rfl (qc_geF (b := 40) ho (by decide)) rfl ?_
  refine qg_pls (n := 2) (k' := 8) (lo' := [some (.ref 14)]) (S' := [.int 1, .ref 14]) (h' := h) rfl ?_
  refine qg_call (v := none) (h' := h) (as := [.ref 14, .int 1]) rfl rfl rfl rfl rfl rfl rfl (ai_rcv1 rfl rfl hob) (m_need1 (d := d)) ?_
  show qg L xs _ qm_142 9 [some (.ref 14)] [] h _
  refine qg_pls (n := 2) (k' := 11) (lo' := [some (.ref 14)]) (S' := [.ref 14, .ref 14]) (h' := h) rfl ?_
  refine qg_getf (v := .int (nI s.2.1)) rfl hob rfl rfl rfl ?_
  refine qg_pls (n := 2) (k' := 14) (lo' := [some (.ref 14)]) (S' := [.int ((nI s.2.1) + 1), .ref 14]) (h' := h) rfl ?_
  rw [show nI s.2.1 + 1 = nI (s.2.1 + 1) from nI_1 _]
  refine qg_putf rfl hob rfl rfl (Nat.le_of_ble_eq_true rfl) rfl ?_
  refine qg_pls (n := 2) (k' := 17) (lo' := [some (.ref 14)]) (S' := [.ref 14, .ref 14]) (h' := (h.1.set 14 (ai_obj 5 [.ref 15, K.2.2.2.1.1, .ref 16, K.2.2.2.1.2.1, .ref 17, K.2.2.2.1.2.2.1, K.2.2.2.1.2.2.2.1, .ref 18, .ref 19, .ref 20, .int (nI s.1), .int (nI J.length), .ref 21, .ref 22, .int (nI (s.2.1 + 1)), .int (nI s.2.2.1), K.2.2.2.1.2.2.2.2.1, K.2.2.2.1.2.2.2.2.2, bg, en, md, .int (nI W.length), .ref 23, .ref 24, .ref 25]), h.2)) rfl ?_
  refine qg_getf (v := .int (nI (s.2.1 + 1))) rfl (q_set hob) rfl rfl rfl ?_
  refine qg_pls (n := 1) (k' := 19) (lo' := [some (.ref 14)]) (S' := [.ref 14, .int (nI (s.2.1 + 1)), .ref 14]) (h' := (h.1.set 14 (ai_obj 5 [.ref 15, K.2.2.2.1.1, .ref 16, K.2.2.2.1.2.1, .ref 17, K.2.2.2.1.2.2.1, K.2.2.2.1.2.2.2.1, .ref 18, .ref 19, .ref 20, .int (nI s.1), .int (nI J.length), .ref 21, .ref 22, .int (nI (s.2.1 + 1)), .int (nI s.2.2.1), K.2.2.2.1.2.2.2.2.1, K.2.2.2.1.2.2.2.2.2, bg, en, md, .int (nI W.length), .ref 23, .ref 24, .ref 25]), h.2)) rfl ?_
  refine qg_getf (v := .int (nI s.2.2.1)) rfl (q_set hob) rfl rfl rfl ?_
  by_cases h1 : s.2.2.1 < s.2.1 + 1
  · rw [show max s.2.2.1 (s.2.1 + 1) = s.2.1 + 1 by omega]
    refine qg_icmp false rfl (qc_leF h1 (by omega)) rfl ?_
    refine qg_pls (n := 1) (k' := 22) (lo' := [some (.ref 14)]) (S' := [.ref 14, .ref 14]) (h' := (h.1.set 14 (ai_obj 5 [.ref 15, K.2.2.2.1.1, .ref 16, K.2.2.2.1.2.1, .ref 17, K.2.2.2.1.2.2.1, K.2.2.2.1.2.2.2.1, .ref 18, .ref 19, .ref 20, .int (nI s.1), .int (nI J.length), .ref 21, .ref 22, .int (nI (s.2.1 + 1)), .int (nI s.2.2.1), K.2.2.2.1.2.2.2.2.1, K.2.2.2.1.2.2.2.2.2, bg, en, md, .int (nI W.length), .ref 23, .ref 24, .ref 25]), h.2)) rfl ?_
    refine qg_getf (v := .int (nI (s.2.1 + 1))) rfl (q_set hob) rfl rfl rfl ?_
    refine qg_pls (n := 1) (k' := 26) (lo' := [some (.ref 14)]) (S' := [.int (nI (s.2.1 + 1)), .ref 14]) (h' := (h.1.set 14 (ai_obj 5 [.ref 15, K.2.2.2.1.1, .ref 16, K.2.2.2.1.2.1, .ref 17, K.2.2.2.1.2.2.1, K.2.2.2.1.2.2.2.1, .ref 18, .ref 19, .ref 20, .int (nI s.1), .int (nI J.length), .ref 21, .ref 22, .int (nI (s.2.1 + 1)), .int (nI s.2.2.1), K.2.2.2.1.2.2.2.2.1, K.2.2.2.1.2.2.2.2.2, bg, en, md, .int (nI W.length), .ref 23, .ref 24, .ref 25]), h.2)) rfl ?_
    refine qg_putf rfl (q_set hob) rfl rfl (Nat.le_of_ble_eq_true rfl) rfl ?_
    rw [List.set_set]
    exact qg_ret7 rfl
  · rw [show max s.2.2.1 (s.2.1 + 1) = s.2.2.1 by omega]
    refine qg_icmp true rfl (qc_leT (by omega) (by omega)) rfl ?_
    refine qg_pls (n := 1) (k' := 25) (lo' := [some (.ref 14)]) (S' := [.ref 14, .ref 14]) (h' := (h.1.set 14 (ai_obj 5 [.ref 15, K.2.2.2.1.1, .ref 16, K.2.2.2.1.2.1, .ref 17, K.2.2.2.1.2.2.1, K.2.2.2.1.2.2.2.1, .ref 18, .ref 19, .ref 20, .int (nI s.1), .int (nI J.length), .ref 21, .ref 22, .int (nI (s.2.1 + 1)), .int (nI s.2.2.1), K.2.2.2.1.2.2.2.2.1, K.2.2.2.1.2.2.2.2.2, bg, en, md, .int (nI W.length), .ref 23, .ref 24, .ref 25]), h.2)) rfl ?_
    refine qg_getf (v := .int (nI s.2.2.1)) rfl (q_set hob) rfl rfl rfl ?_
    refine qg_putf rfl (q_set hob) rfl rfl (Nat.le_of_ble_eq_true rfl) rfl ?_
    rw [List.set_set]
    exact qg_ret7 rfl
theorem m_opens0 (hc : mcs0 e Y K W s h J bg en md) (ho : 40 ≤ s.2.1) : qe L xs (d + 2) 142 [.ref 14] h (.inr "java/lang/IllegalArgumentException", (h.1, h.2.1 + 1, h.2.2 + 6)) := by
  have hob := mcs0_ob hc
  obtain ⟨rf, bf, wr, wf, c1, c2, c3, c4, c5, c6, c7, c8, cu, c9, c10, c11, c12, ⟨y14, y21, y22, y23, y24⟩, c14⟩ := hc
  refine qe_of (M := qm_142) rfl rfl ?_
  show qg L xs _ qm_142 0 [some (.ref 14)] [] h _
  refine qg_pls (n := 2) (k' := 2) (lo' := [some (.ref 14)]) (S' := [.ref 14, .ref 14]) (h' := h) rfl ?_
  refine qg_getf (v := .int (nI s.2.1)) rfl hob rfl rfl rfl ?_
  refine qg_pls (n := 1) (k' := 4) (lo' := [some (.ref 14)]) (S' := [.int 40, .int (nI s.2.1), .ref 14]) (h' := h) rfl ?_
  refine qg_icmp true rfl (qc_geT (b := 40) ho (by omega)) rfl ?_
  refine qg_pls (n := 1) (k' := 8) (lo' := [some (.ref 14)]) (S' := [.int 0, .ref 14]) (h' := h) rfl ?_
  exact qg_callT rfl rfl rfl rfl rfl rfl rfl (ai_rcv1 rfl rfl hob) rfl (m_need0 (d := d))
theorem mi_opens : mim L xs e Y K (d + 2) 142 [.ref 14] 0 zrise := by
  intro P s h v s' hc hf
  obtain ⟨J, bg, en, md, hc0⟩ := id hc
  have hb := mcs_bd hc
  rcases zrise_inv hf with ⟨rfl, rfl, h1⟩ | ⟨h1, rfl, rfl⟩
  · exact ⟨_, m_opens0 hc0 h1, mcs_bad hc⟩
  · exact ⟨_, m_opens hc0 h1, J, bg, en, md, mcs0_open hc0 (by omega) (by omega)⟩
/-- QueryReaderModel.openBracket -/
theorem mi_open (ht : mtk e Y) : mim L xs e Y K (d + 8) 147 [.ref 14] 0 (zcp e 82) := by
  intro P s h v s' hc hf
  have his := m_isMark (L := L) (xs := xs) (d := d) ht hc (k := 82) (by omega)
  obtain ⟨J, bg, en, md, hc0⟩ := id hc
  have hob := mcs0_ob hc0
  have hb := mcs_bd hc
  unfold zcp zc at hf
  by_cases h1 : ztk e s.1 = 82
  · rw [if_pos h1] at hf his
    rcases zbd_inv hf with ⟨h2, -⟩ | ⟨a, s1, h2, h3⟩
    · obtain ⟨-, q, -⟩ := zput_inv h2; cases q
    obtain ⟨-, -, e1⟩ := zput_inv h2
    have e2 : ztk e s1.1 = 82 := by rw [e1]; exact h1
    have h3 : zstep e s1 = some (v, s') := h3
    unfold zstep at h3
    rw [e2, if_pos (Or.inl rfl)] at h3
    rcases zbd_inv h3 with ⟨h4, rfl⟩ | ⟨a4, s4, h4, h5⟩
    · rcases zrise_inv h4 with ⟨-, e3, h40⟩ | ⟨-, q, -⟩
      · have hs : s'.1 = s.1 ∧ s'.2.2.1 = s.2.2.1 := by rw [e3, e1]; exact ⟨rfl, rfl⟩
        have h40 : 40 ≤ s.2.1 := by rw [e1] at h40; exact h40
        have hbad := mcs_bad hc
        refine ⟨(h.1, h.2.1 + 1, h.2.2 + 6), ?_, ?_⟩
        · skip
          refine qe_of (M := qm_147) rfl rfl ?_
          show qg L xs _ qm_147 0 [some (.ref 14)] [] h _
          refine qg_pls (n := 3) (k' := 3) (lo' := [some (.ref 14)]) (S' := [.retAddr 1005, .ref 14, .ref 14]) (h' := h) rfl ?_
          refine qg_call (v := some (.int 1)) (h' := h) (as := [.ref 14, .retAddr 1005]) rfl rfl rfl rfl rfl rfl rfl (ai_rcv1 rfl rfl hob) (his) ?_
          show qg L xs _ qm_147 4 [some (.ref 14)] [.int 1, .ref 14] h _
          refine qg_call (v := none) (h' := h) (as := [.ref 14, .int 1]) rfl rfl rfl rfl rfl rfl rfl (ai_rcv1 rfl rfl hob) (m_need1 (d := d + 6)) ?_
          show qg L xs _ qm_147 5 [some (.ref 14)] [] h _
          refine qg_pls (n := 1) (k' := 6) (lo' := [some (.ref 14)]) (S' := [.ref 14]) (h' := h) rfl ?_
          exact qg_callT rfl rfl rfl rfl rfl rfl rfl (ai_rcv1 rfl rfl hob) rfl (m_opens0 (d := d + 5) hc0 h40)
        · obtain ⟨rf, bf, wr, wf, k1, k2, k3, k4, k5, k6, b1, b2, b3, b4, b5, b6, b7⟩ := hbad
          refine ⟨rf, bf, wr, wf, k1, k2, k3, k4, k5, k6, ?_⟩
          rw [hs.1, hs.2]
          exact ⟨b1, b2, b3, b4, b5, b6, b7⟩
      · cases q
    · rcases zrise_inv h4 with ⟨q, -⟩ | ⟨ho, -, e3⟩
      · cases q
      obtain ⟨-, rfl, e5⟩ := znext_inv h5
      have ho : s.2.1 < 40 := by rw [e1] at ho; exact ho
      have hc1 := mcs0_open (o' := s.2.1 + 1) (m' := max s.2.2.1 (s.2.1 + 1)) hc0 (by omega) (by omega)
      obtain ⟨h', g1, g2⟩ := m_keepw (L := L) (xs := xs) (d := d + 6) (s := (s.1, s.2.1 + 1, max s.2.2.1 (s.2.1 + 1), s.2.2.2)) ht ⟨J, bg, en, md, hc1⟩ (k := 82) h1 (by decide)
      refine ⟨h', ?_, ?_⟩
      · skip
        refine qe_of (M := qm_147) rfl rfl ?_
        show qg L xs _ qm_147 0 [some (.ref 14)] [] h _
        refine qg_pls (n := 3) (k' := 3) (lo' := [some (.ref 14)]) (S' := [.retAddr 1005, .ref 14, .ref 14]) (h' := h) rfl ?_
        refine qg_call (v := some (.int 1)) (h' := h) (as := [.ref 14, .retAddr 1005]) rfl rfl rfl rfl rfl rfl rfl (ai_rcv1 rfl rfl hob) (his) ?_
        show qg L xs _ qm_147 4 [some (.ref 14)] [.int 1, .ref 14] h _
        refine qg_call (v := none) (h' := h) (as := [.ref 14, .int 1]) rfl rfl rfl rfl rfl rfl rfl (ai_rcv1 rfl rfl hob) (m_need1 (d := d + 6)) ?_
        show qg L xs _ qm_147 5 [some (.ref 14)] [] h _
        refine qg_pls (n := 1) (k' := 6) (lo' := [some (.ref 14)]) (S' := [.ref 14]) (h' := h) rfl ?_
        refine qg_call (v := none) (h' := (h.1.set 14 (mobj K.2.2.2.1 s.1 J.length (s.2.1 + 1) (max s.2.2.1 (s.2.1 + 1)) bg en md P.length), h.2)) (as := [.ref 14]) rfl rfl rfl rfl rfl rfl rfl (ai_rcv1 rfl rfl hob) (m_opens (d := d + 5) hc0 ho) ?_
        show qg L xs _ qm_147 7 [some (.ref 14)] [] (h.1.set 14 (mobj K.2.2.2.1 s.1 J.length (s.2.1 + 1) (max s.2.2.1 (s.2.1 + 1)) bg en md P.length), h.2) _
        refine qg_pls (n := 1) (k' := 8) (lo' := [some (.ref 14)]) (S' := [.ref 14]) (h' := (h.1.set 14 (mobj K.2.2.2.1 s.1 J.length (s.2.1 + 1) (max s.2.2.1 (s.2.1 + 1)) bg en md P.length), h.2)) rfl ?_
        refine qg_call (v := none) (h' := h') (as := [.ref 14]) rfl rfl rfl rfl rfl rfl rfl (ai_rcv1 rfl rfl (mcs0_ob hc1)) (g1) ?_
        show qg L xs _ qm_147 9 [some (.ref 14)] [] h' _
        exact qg_ret7 rfl
      · rw [e5, e3, e1]
        exact g2
  · rw [if_neg h1] at hf his
    cases hf
    refine ⟨_, ?_, mcs_bad hc⟩
    refine qe_of (M := qm_147) rfl rfl ?_
    show qg L xs _ qm_147 0 [some (.ref 14)] [] h _
    refine qg_pls (n := 3) (k' := 3) (lo' := [some (.ref 14)]) (S' := [.retAddr 1005, .ref 14, .ref 14]) (h' := h) rfl ?_
    refine qg_call (v := some (.int 0)) (h' := h) (as := [.ref 14, .retAddr 1005]) rfl rfl rfl rfl rfl rfl rfl (ai_rcv1 rfl rfl hob) (his) ?_
    show qg L xs _ qm_147 4 [some (.ref 14)] [.int 0, .ref 14] h _
    exact qg_callT rfl rfl rfl rfl rfl rfl rfl (ai_rcv1 rfl rfl hob) rfl (m_need0 (d := d + 6))
end MBR
