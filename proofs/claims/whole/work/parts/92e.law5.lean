/-! THE LAW'S STEPS: feed, end. (Printed by wip/whole/pp.py from wip/whole/src.) -/
section LBA
variable {L : Nat} {xs : Nat → Int32} {h : ai_H} {C S : Nat}
theorem qZ_sc : ai_look (qr_Z L xs) h.1 (.retAddr 3002) = some (ai_num .int L xs) := rfl
theorem i32_cases (x : Int32) : x < 0 ∨ ∃ p, p < 2 ^ 31 ∧ x = nI p := by
  by_cases hx : x < 0
  · exact Or.inl hx
  · right
    have h1 : (0 : Int32).toInt ≤ x.toInt := Int32.le_iff_toInt_le.mp (Int32.not_lt.mp hx)
    have h0 : (0 : Int32).toInt = 0 := rfl
    have h2 := Int32.toInt_lt x
    have h3 : x.toInt.toNat < 2 ^ 31 := by omega
    refine ⟨x.toInt.toNat, h3, Int32.toInt_inj.mp ?_⟩
    rw [show (nI x.toInt.toNat).toInt = ((x.toInt.toNat : Nat) : Int) from Int32.toInt_ofNat_of_lt h3]
    omega
/-- feed, once class and model are known -/
theorem l_feed0 {h1 h2 : ai_H} {kd : Nat} {t : Int32} {j : Nat} (hj : j + 6 ≤ L) (hL : L ≤ 3072) {v1 : List Value} {v2 : List Value} (c14 : h1.1[14]? = some (ai_obj 5 v1)) (c14' : h2.1[14]? = some (ai_obj 5 v2)) (g1 : qe L xs 2000 107 [.ref 0, .int (xs (j + 1)), .int (xs (j + 2)), .int (xs (j + 3)), .int (xs (j + 4)), .int (xs (j + 5))] h (.inl (some (.int t)), h1)) (g2 : qe L xs 2000 116 [.ref 14, .int (xs (j + 1)), .int (xs (j + 2)), .int (xs (j + 3)), .int (xs (j + 4)), .int (xs (j + 5))] h1 (.inl none, h2)) (g3 : qe L xs 2000 115 [.ref 14] h2 (.inl (some (.int t)), h2)) (x5 x6 : Option Value) (o : ai_O) (hg : qg L xs 2000 qm_law 193 [some (.retAddr 3002), some (.ref 0), some (.ref 14), some (.ref 26), some (.int (nI j)), some (.int t), x6] [] h2 o) : qg L xs 2000 qm_law 25 [some (.retAddr 3002), some (.ref 0), some (.ref 14), some (.ref 26), some (.int (nI j)), x5, x6] [] h o := by
  refine qg_pls (n := 5) (k' := 30) (lo' := [some (.retAddr 3002), some (.ref 0), some (.ref 14), some (.ref 26), some (.int (nI j)), x5, x6]) (S' := [.int ((nI j) + 1), .retAddr 3002, .ref 0]) (h' := h) rfl ?_
  rw [show nI j + 1 = nI (j + 1) from nI_add _ 1]
  refine qg_ald rfl (fun _ _ _ => rfl) qZ_sc (by omega) (by omega) ?_
  refine qg_pls (n := 4) (k' := 35) (lo' := [some (.retAddr 3002), some (.ref 0), some (.ref 14), some (.ref 26), some (.int (nI j)), x5, x6]) (S' := [.int ((nI j) + 2), .retAddr 3002, .int (xs (j + 1)), .ref 0]) (h' := h) rfl ?_
  rw [show nI j + 2 = nI (j + 2) from nI_add _ 2]
  refine qg_ald rfl (fun _ _ _ => rfl) qZ_sc (by omega) (by omega) ?_
  refine qg_pls (n := 4) (k' := 40) (lo' := [some (.retAddr 3002), some (.ref 0), some (.ref 14), some (.ref 26), some (.int (nI j)), x5, x6]) (S' := [.int ((nI j) + 3), .retAddr 3002, .int (xs (j + 2)), .int (xs (j + 1)), .ref 0]) (h' := h) rfl ?_
  rw [show nI j + 3 = nI (j + 3) from nI_add _ 3]
  refine qg_ald rfl (fun _ _ _ => rfl) qZ_sc (by omega) (by omega) ?_
  refine qg_pls (n := 4) (k' := 45) (lo' := [some (.retAddr 3002), some (.ref 0), some (.ref 14), some (.ref 26), some (.int (nI j)), x5, x6]) (S' := [.int ((nI j) + 4), .retAddr 3002, .int (xs (j + 3)), .int (xs (j + 2)), .int (xs (j + 1)), .ref 0]) (h' := h) rfl ?_
  rw [show nI j + 4 = nI (j + 4) from nI_add _ 4]
  refine qg_ald rfl (fun _ _ _ => rfl) qZ_sc (by omega) (by omega) ?_
  refine qg_pls (n := 4) (k' := 50) (lo' := [some (.retAddr 3002), some (.ref 0), some (.ref 14), some (.ref 26), some (.int (nI j)), x5, x6]) (S' := [.int ((nI j) + 5), .retAddr 3002, .int (xs (j + 4)), .int (xs (j + 3)), .int (xs (j + 2)), .int (xs (j + 1)), .ref 0]) (h' := h) rfl ?_
  rw [show nI j + 5 = nI (j + 5) from nI_add _ 5]
  refine qg_ald rfl (fun _ _ _ => rfl) qZ_sc (by omega) (by omega) ?_
  refine qg_call (v := some (.int t)) (h' := h1) (as := [.ref 0, .int (xs (j + 1)), .int (xs (j + 2)), .int (xs (j + 3)), .int (xs (j + 4)), .int (xs (j + 5))]) rfl rfl rfl rfl rfl rfl rfl rfl (g1) ?_
  show qg L xs _ qm_law 52 [some (.retAddr 3002), some (.ref 0), some (.ref 14), some (.ref 26), some (.int (nI j)), x5, x6] [.int t] h1 _
  refine qg_pls (n := 6) (k' := 58) (lo' := [some (.retAddr 3002), some (.ref 0), some (.ref 14), some (.ref 26), some (.int (nI j)), some (.int t), x6]) (S' := [.int ((nI j) + 1), .retAddr 3002, .ref 14]) (h' := h1) rfl ?_
  rw [show nI j + 1 = nI (j + 1) from nI_add _ 1]
  refine qg_ald rfl (fun _ _ _ => rfl) qZ_sc (by omega) (by omega) ?_
  refine qg_pls (n := 4) (k' := 63) (lo' := [some (.retAddr 3002), some (.ref 0), some (.ref 14), some (.ref 26), some (.int (nI j)), some (.int t), x6]) (S' := [.int ((nI j) + 2), .retAddr 3002, .int (xs (j + 1)), .ref 14]) (h' := h1) rfl ?_
  rw [show nI j + 2 = nI (j + 2) from nI_add _ 2]
  refine qg_ald rfl (fun _ _ _ => rfl) qZ_sc (by omega) (by omega) ?_
  refine qg_pls (n := 4) (k' := 68) (lo' := [some (.retAddr 3002), some (.ref 0), some (.ref 14), some (.ref 26), some (.int (nI j)), some (.int t), x6]) (S' := [.int ((nI j) + 3), .retAddr 3002, .int (xs (j + 2)), .int (xs (j + 1)), .ref 14]) (h' := h1) rfl ?_
  rw [show nI j + 3 = nI (j + 3) from nI_add _ 3]
  refine qg_ald rfl (fun _ _ _ => rfl) qZ_sc (by omega) (by omega) ?_
  refine qg_pls (n := 4) (k' := 73) (lo' := [some (.retAddr 3002), some (.ref 0), some (.ref 14), some (.ref 26), some (.int (nI j)), some (.int t), x6]) (S' := [.int ((nI j) + 4), .retAddr 3002, .int (xs (j + 3)), .int (xs (j + 2)), .int (xs (j + 1)), .ref 14]) (h' := h1) rfl ?_
  rw [show nI j + 4 = nI (j + 4) from nI_add _ 4]
  refine qg_ald rfl (fun _ _ _ => rfl) qZ_sc (by omega) (by omega) ?_
  refine qg_pls (n := 4) (k' := 78) (lo' := [some (.retAddr 3002), some (.ref 0), some (.ref 14), some (.ref 26), some (.int (nI j)), some (.int t), x6]) (S' := [.int ((nI j) + 5), .retAddr 3002, .int (xs (j + 4)), .int (xs (j + 3)), .int (xs (j + 2)), .int (xs (j + 1)), .ref 14]) (h' := h1) rfl ?_
  rw [show nI j + 5 = nI (j + 5) from nI_add _ 5]
  refine qg_ald rfl (fun _ _ _ => rfl) qZ_sc (by omega) (by omega) ?_
  refine qg_call (v := none) (h' := h2) (as := [.ref 14, .int (xs (j + 1)), .int (xs (j + 2)), .int (xs (j + 3)), .int (xs (j + 4)), .int (xs (j + 5))]) rfl rfl rfl rfl rfl rfl rfl (ai_rcv1 rfl rfl c14) (g2) ?_
  show qg L xs _ qm_law 80 [some (.retAddr 3002), some (.ref 0), some (.ref 14), some (.ref 26), some (.int (nI j)), some (.int t), x6] [] h2 _
  refine qg_pls (n := 1) (k' := 81) (lo' := [some (.retAddr 3002), some (.ref 0), some (.ref 14), some (.ref 26), some (.int (nI j)), some (.int t), x6]) (S' := [.ref 14]) (h' := h2) rfl ?_
  refine qg_call (v := some (.int t)) (h' := h2) (as := [.ref 14]) rfl rfl rfl rfl rfl rfl rfl (ai_rcv1 rfl rfl c14') (g3) ?_
  show qg L xs _ qm_law 82 [some (.retAddr 3002), some (.ref 0), some (.ref 14), some (.ref 26), some (.int (nI j)), some (.int t), x6] [.int t] h2 _
  refine qg_pls (n := 1) (k' := 83) (lo' := [some (.retAddr 3002), some (.ref 0), some (.ref 14), some (.ref 26), some (.int (nI j)), some (.int t), x6]) (S' := [.int t, .int t]) (h' := h2) rfl ?_
  refine qg_icmp true rfl ((qb_eqT rfl)) rfl ?_
  refine qg_pls (n := 1) (k' := 193) (lo' := [some (.retAddr 3002), some (.ref 0), some (.ref 14), some (.ref 26), some (.int (nI j)), some (.int t), x6]) (S' := []) (h' := h2) rfl ?_
  exact hg
theorem l_feed (hl : qlI h C S) {j : Nat} (hj : j + 6 ≤ L) (hL : L ≤ 3072) : ∃ h' t, qlI h' (C + 128) (S + 12) ∧ ∀ x5 x6 o, qg L xs 2000 qm_law 193 [some (.retAddr 3002), some (.ref 0), some (.ref 14), some (.ref 26), some (.int (nI j)), some (.int t), x6] [] h' o → qg L xs 2000 qm_law 25 [some (.retAddr 3002), some (.ref 0), some (.ref 14), some (.ref 26), some (.int (nI j)), x5, x6] [] h o := by
  obtain ⟨B, Q, mx, kd, J, T, hq, h0⟩ := hl
  obtain ⟨⟨tb, tl, pb, pl, so, fr, to, n, hs⟩, hm0, f, c26⟩ := qlj_s hq
  have hBl : B.length ≤ 65536 := by
    obtain ⟨_, _, _, _, _, _, _, _, _, _, _, _, _, _, _, _, -, -, -, cB, -⟩ := hm0
    exact cB.1
  by_cases hB : B.length + 20 ≤ 65536
  · obtain ⟨h1, g1, hj1⟩ := qlj_c (R := fun h' => qe L xs 2000 107 [.ref 0, .int (xs (j + 1)), .int (xs (j + 2)), .int (xs (j + 3)), .int (xs (j + 4)), .int (xs (j + 5))] h (.inl (some (.int 0)), h')) (B' := B ++ zF (xs (j + 1)) (xs (j + 2)) (xs (j + 3)) (xs (j + 4)) (xs (j + 5))) (Q' := Q) (mx' := mx) (kd' := kd) hq (fun tb tl pb pl so fr to n hs => by
      obtain ⟨h', tb', tl', a1, a2, a3⟩ := q_feedY (L := L) (xs := xs) (d := 0) hs hB
      exact ⟨h', tb', tl', pb, pl, so, fr, to, n, qe_up (by omega) (l_feedY (d := 0) (qst_c0 hs) a1), a2, a3⟩)
    obtain ⟨-, hm1, -⟩ := qlj_s hj1
    obtain ⟨h', ⟨g2, g3⟩, hj2⟩ := qlj_m (R := fun h' => qe L xs 2000 116 [.ref 14, .int (xs (j + 1)), .int (xs (j + 2)), .int (xs (j + 3)), .int (xs (j + 4)), .int (xs (j + 5))] h1 (.inl none, h') ∧ qe L xs 2000 115 [.ref 14] h' (.inl (some (.int 0)), h')) hj1 (fun hm => by
      obtain ⟨h', tp, ln, cn, kp, v10, v14, v17, v18, v19, v20, v21, a1, a2, a3, a4, a5⟩ := m_feedY (L := L) (xs := xs) (d := 0) hm hB
      exact ⟨h', ⟨qe_up (by omega) a1, qe_up (by omega) (m_thrown (d := 0) (t := .int 0) a5)⟩, a2, a3, Or.inl a4⟩)
    obtain ⟨-, hm2, -⟩ := qlj_s hj2
    obtain ⟨_, _, _, _, _, _, _, _, _, c14, -⟩ := mst_th hm1
    obtain ⟨_, _, _, _, _, _, _, _, _, c14', -⟩ := mst_th hm2
    exact ⟨h', 0, ⟨_, Q, mx, kd, J, T, qlj_le hj2 (by omega) (by omega), h0⟩, fun x5 x6 o hg => l_feed0 (kd := kd) hj hL c14 c14' g1 g2 g3 x5 x6 o hg⟩
  · obtain ⟨h1, g1, hj1⟩ := qlj_c (R := fun h' => qe L xs 2000 107 [.ref 0, .int (xs (j + 1)), .int (xs (j + 2)), .int (xs (j + 3)), .int (xs (j + 4)), .int (xs (j + 5))] h (.inl (some (.int 1)), h')) (B' := B) (Q' := Q) (mx' := mx) (kd' := kd) hq (fun tb tl pb pl so fr to n hs => by
      have a1 := q_feedN (L := L) (xs := xs) (d := 0) (a := xs (j + 1)) (b := xs (j + 2)) (c := xs (j + 3)) (dd := xs (j + 4)) (e := xs (j + 5)) hs (by omega) hBl
      obtain ⟨a2, a3⟩ := qst_thr hs
      exact ⟨_, tb, tl, pb, pl, so, fr, to, n, qe_up (by omega) (l_feedN (d := 0) (qst_c0 hs) a1), a2, a3⟩)
    obtain ⟨-, hm1, -⟩ := qlj_s hj1
    obtain ⟨h', ⟨g2, g3⟩, hj2⟩ := qlj_m (R := fun h' => qe L xs 2000 116 [.ref 14, .int (xs (j + 1)), .int (xs (j + 2)), .int (xs (j + 3)), .int (xs (j + 4)), .int (xs (j + 5))] h1 (.inl none, h') ∧ qe L xs 2000 115 [.ref 14] h' (.inl (some (.int 1)), h')) hj1 (fun hm => by
      obtain ⟨h', tp, ln, cn, kp, v10, v14, v17, v18, v19, v20, v21, a1, a2, a3, a4, a5⟩ := m_feedN (L := L) (xs := xs) (d := 0) (a := xs (j + 1)) (b := xs (j + 2)) (c := xs (j + 3)) (dd := xs (j + 4)) (e := xs (j + 5)) hm (by omega)
      exact ⟨h', ⟨qe_up (by omega) a1, qe_up (by omega) (m_thrown (d := 0) (t := .int 0) a5)⟩, a2, a3, Or.inl a4⟩)
    obtain ⟨-, hm2, -⟩ := qlj_s hj2
    obtain ⟨_, _, _, _, _, _, _, _, _, c14, -⟩ := mst_th hm1
    obtain ⟨_, _, _, _, _, _, _, _, _, c14', -⟩ := mst_th hm2
    exact ⟨h', 1, ⟨_, Q, mx, kd, J, T, qlj_le hj2 (by omega) (by omega), h0⟩, fun x5 x6 o hg => l_feed0 (kd := kd) hj hL c14 c14' g1 g2 g3 x5 x6 o hg⟩
end LBA
