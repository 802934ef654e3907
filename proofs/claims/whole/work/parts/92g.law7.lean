/-! THE LAW'S STEPS: letter. (Printed by wip/whole/pp.py from wip/whole/src.) -/
section LBC
variable {L : Nat} {xs : Nat → Int32} {h : ai_H} {C S : Nat}
theorem l_letter0 {h1 h2 : ai_H} {t r : Int32} {j : Nat} (hj : j + 6 ≤ L) (hL : L ≤ 3072) {v1 : List Value} {v2 : List Value} (c14 : h1.1[14]? = some (ai_obj 5 v1)) (c14' : h2.1[14]? = some (ai_obj 5 v2)) (g1 : qe L xs 2000 112 [.ref 0, .int (xs (j + 1)), .ref 26] h (.inl (some (.int t)), h1)) (g2 : qe L xs 2000 191 [.ref 14, .int (xs (j + 1))] h1 (.inl (some (.int r)), h2)) (g3 : qe L xs 2000 115 [.ref 14] h2 (.inl (some (.int t)), h2)) (x5 x6 : Option Value) (o : ai_O) (hg : qg L xs 2000 qm_law 153 [some (.retAddr 3002), some (.ref 0), some (.ref 14), some (.ref 26), some (.int (nI j)), some (.int t), some (.int r)] [] h2 o) : qg L xs 2000 qm_law 130 [some (.retAddr 3002), some (.ref 0), some (.ref 14), some (.ref 26), some (.int (nI j)), x5, x6] [] h o := by
  refine qg_pls (n := 5) (k' := 135) (lo' := [some (.retAddr 3002), some (.ref 0), some (.ref 14), some (.ref 26), some (.int (nI j)), x5, x6]) (S' := [.int ((nI j) + 1), .retAddr 3002, .ref 0]) (h' := h) rfl ?_
  rw [show nI j + 1 = nI (j + 1) from nI_add _ 1]
  refine qg_ald rfl (fun _ _ _ => rfl) qZ_sc (by omega) (by omega) ?_
  refine qg_pls (n := 1) (k' := 137) (lo' := [some (.retAddr 3002), some (.ref 0), some (.ref 14), some (.ref 26), some (.int (nI j)), x5, x6]) (S' := [.ref 26, .int (xs (j + 1)), .ref 0]) (h' := h) rfl ?_
  refine qg_call (v := some (.int t)) (h' := h1) (as := [.ref 0, .int (xs (j + 1)), .ref 26]) rfl rfl rfl rfl rfl rfl rfl rfl (g1) ?_
  show qg L xs _ qm_law 138 [some (.retAddr 3002), some (.ref 0), some (.ref 14), some (.ref 26), some (.int (nI j)), x5, x6] [.int t] h1 _
  refine qg_pls (n := 6) (k' := 144) (lo' := [some (.retAddr 3002), some (.ref 0), some (.ref 14), some (.ref 26), some (.int (nI j)), some (.int t), x6]) (S' := [.int ((nI j) + 1), .retAddr 3002, .ref 14]) (h' := h1) rfl ?_
  rw [show nI j + 1 = nI (j + 1) from nI_add _ 1]
  refine qg_ald rfl (fun _ _ _ => rfl) qZ_sc (by omega) (by omega) ?_
  refine qg_call (v := some (.int r)) (h' := h2) (as := [.ref 14, .int (xs (j + 1))]) rfl rfl rfl rfl rfl rfl rfl (ai_rcv1 rfl rfl c14) (g2) ?_
  show qg L xs _ qm_law 146 [some (.retAddr 3002), some (.ref 0), some (.ref 14), some (.ref 26), some (.int (nI j)), some (.int t), x6] [.int r] h2 _
  refine qg_pls (n := 2) (k' := 148) (lo' := [some (.retAddr 3002), some (.ref 0), some (.ref 14), some (.ref 26), some (.int (nI j)), some (.int t), some (.int r)]) (S' := [.ref 14]) (h' := h2) rfl ?_
  refine qg_call (v := some (.int t)) (h' := h2) (as := [.ref 14]) rfl rfl rfl rfl rfl rfl rfl (ai_rcv1 rfl rfl c14') (g3) ?_
  show qg L xs _ qm_law 149 [some (.retAddr 3002), some (.ref 0), some (.ref 14), some (.ref 26), some (.int (nI j)), some (.int t), some (.int r)] [.int t] h2 _
  refine qg_pls (n := 1) (k' := 150) (lo' := [some (.retAddr 3002), some (.ref 0), some (.ref 14), some (.ref 26), some (.int (nI j)), some (.int t), some (.int r)]) (S' := [.int t, .int t]) (h' := h2) rfl ?_
  refine qg_icmp true rfl ((qb_eqT rfl)) rfl ?_
  exact hg
theorem l_letter1 {h2 : ai_H} {i : Value} {r : Int32} {f : Nat → Int64} (c26 : h2.1[26]? = some (ai_lng 1 (vp_updL f 0 r.toInt64))) (o : ai_O) (hg : qg L xs 2000 qm_law 193 [some (.retAddr 3002), some (.ref 0), some (.ref 14), some (.ref 26), some i, some (.int 0), some (.int r)] [] h2 o) : qg L xs 2000 qm_law 153 [some (.retAddr 3002), some (.ref 0), some (.ref 14), some (.ref 26), some i, some (.int 0), some (.int r)] [] h2 o := by
  have hz : lg_cmp r.toInt64 r.toInt64 = 0 := by simp [lg_cmp]
  have k161 : qg L xs 2000 qm_law 161 [some (.retAddr 3002), some (.ref 0), some (.ref 14), some (.ref 26), some i, some (.int 0), some (.int r)] [.int 0] h2 o := by
    refine qg_if true rfl (rfl) rfl ?_
    refine qg_pls (n := 1) (k' := 193) (lo' := [some (.retAddr 3002), some (.ref 0), some (.ref 14), some (.ref 26), some (i), some (.int 0), some (.int r)]) (S' := []) (h' := h2) rfl ?_
    exact hg
  refine qg_pls (n := 1) (k' := 154) (lo' := [some (.retAddr 3002), some (.ref 0), some (.ref 14), some (.ref 26), some (i), some (.int 0), some (.int r)]) (S' := [.int 0]) (h' := h2) rfl ?_
  refine qg_if false rfl (rfl) rfl ?_
  refine qg_pls (n := 2) (k' := 157) (lo' := [some (.retAddr 3002), some (.ref 0), some (.ref 14), some (.ref 26), some (i), some (.int 0), some (.int r)]) (S' := [.int 0, .ref 26]) (h' := h2) rfl ?_
  refine qg_eff (k' := 158) (t := 0) (lo' := [some (.retAddr 3002), some (.ref 0), some (.ref 14), some (.ref 26), some i, some (.int 0), some (.int r)]) (S' := [.long r.toInt64]) (h' := h2) rfl ?_ rfl ?_
  · simp only [ai_eff, ai_lald, c26]
    rfl
  refine qg_eff (k' := 159) (t := 0) (lo' := [some (.retAddr 3002), some (.ref 0), some (.ref 14), some (.ref 26), some i, some (.int 0), some (.int r)]) (S' := [.int r, .long r.toInt64]) (h' := h2) rfl rfl rfl ?_
  refine qg_eff (k' := 160) (t := 0) (lo' := [some (.retAddr 3002), some (.ref 0), some (.ref 14), some (.ref 26), some i, some (.int 0), some (.int r)]) (S' := [.long r.toInt64, .long r.toInt64]) (h' := h2) rfl rfl rfl ?_
  refine qg_eff (k' := 161) (t := 0) (lo' := [some (.retAddr 3002), some (.ref 0), some (.ref 14), some (.ref 26), some i, some (.int 0), some (.int r)]) (S' := [.int 0]) (h' := h2) rfl ?_ rfl k161
  simp only [ai_eff, hz]
theorem l_letter2 {h2 : ai_H} {i : Value} {r : Int32} (o : ai_O) (hg : qg L xs 2000 qm_law 193 [some (.retAddr 3002), some (.ref 0), some (.ref 14), some (.ref 26), some i, some (.int 1), some (.int r)] [] h2 o) : qg L xs 2000 qm_law 153 [some (.retAddr 3002), some (.ref 0), some (.ref 14), some (.ref 26), some i, some (.int 1), some (.int r)] [] h2 o := by
  refine qg_pls (n := 1) (k' := 154) (lo' := [some (.retAddr 3002), some (.ref 0), some (.ref 14), some (.ref 26), some (i), some (.int 1), some (.int r)]) (S' := [.int 1]) (h' := h2) rfl ?_
  refine qg_if true rfl (rfl) rfl ?_
  refine qg_pls (n := 1) (k' := 193) (lo' := [some (.retAddr 3002), some (.ref 0), some (.ref 14), some (.ref 26), some (i), some (.int 1), some (.int r)]) (S' := []) (h' := h2) rfl ?_
  exact hg
theorem l_letter (hl : qlI h C S) {j : Nat} (hj : j + 6 ≤ L) (hL : L ≤ 3072) : ∃ h' t r, qlI h' (C + 128) (S + 12) ∧ ∀ x5 x6 o, qg L xs 2000 qm_law 193 [some (.retAddr 3002), some (.ref 0), some (.ref 14), some (.ref 26), some (.int (nI j)), some (.int t), some (.int r)] [] h' o → qg L xs 2000 qm_law 130 [some (.retAddr 3002), some (.ref 0), some (.ref 14), some (.ref 26), some (.int (nI j)), x5, x6] [] h o := by
  obtain ⟨B, Q, mx, kd, J, T, hq, h0⟩ := hl
  obtain ⟨⟨tb, tl, pb, pl, so, fr, to, n, hs⟩, hm0, f, c26⟩ := qlj_s hq
  have hasc := (mst_Q hm0).2.1
  by_cases hB : ∃ p, p < 2 ^ 31 ∧ p < Q.length ∧ xs (j + 1) = nI p
  · obtain ⟨p, hp, hp2, hx⟩ := hB
    have a1 := q_letterY (L := L) (xs := xs) (d := 3) hs hasc hp2
    rw [← hx] at a1
    have g1 : qe L xs 2000 112 [.ref 0, .int (xs (j + 1)), .ref 26] h (.inl (some (.int 0)), (h.1.set 26 (ai_lng 1 (vp_updL f 0 (Q.getD p 0).toInt64)), h.2)) := qe_up (by omega) (l_letterY (d := 0) (qst_c0 hs) c26 a1)
    have hj1 := qlj_26 (f := vp_updL f 0 (Q.getD p 0).toInt64) hq
    have c26' := q_set (y := ai_lng 1 (vp_updL f 0 (Q.getD p 0).toInt64)) c26
    generalize hh1 : ((h.1.set 26 (ai_lng 1 (vp_updL f 0 (Q.getD p 0).toInt64)), h.2) : ai_H) = h1 at g1 hj1
    have c26' : h1.1[26]? = some (ai_lng 1 (vp_updL f 0 (Q.getD p 0).toInt64)) := by rw [← hh1]; exact c26'
    obtain ⟨-, hm1, -⟩ := qlj_s hj1
    obtain ⟨h', ⟨g2, g3, g4⟩, hj2⟩ := qlj_m (R := fun h' => qe L xs 2000 191 [.ref 14, .int (xs (j + 1))] h1 (.inl (some (.int (Q.getD p 0))), h') ∧ qe L xs 2000 115 [.ref 14] h' (.inl (some (.int 0)), h') ∧ h'.1[26]? = some (ai_lng 1 (vp_updL f 0 (Q.getD p 0).toInt64))) hj1 (fun hm => by
      obtain ⟨h', tp, ln, cn, kp, v10, v14, v17, v18, v19, v20, v21, a1, a2, a3, a4, a5⟩ := m_letterY (L := L) (xs := xs) (d := 0) hm hp hp2
      rw [← hx] at a1
      exact ⟨h', ⟨qe_up (by omega) a1, qe_up (by omega) (m_thrown (d := 0) (t := .int 0) a5), a3 26 _ (Or.inr (by decide)) c26'⟩, a2, a3, Or.inl a4⟩)
    obtain ⟨-, hm2, -⟩ := qlj_s hj2
    obtain ⟨_, _, _, _, _, _, _, _, _, c14, -⟩ := mst_th hm1
    obtain ⟨_, _, _, _, _, _, _, _, _, c14', -⟩ := mst_th hm2
    exact ⟨h', 0, Q.getD p 0, ⟨_, Q, mx, kd, J, T, qlj_le hj2 (by omega) (by omega), h0⟩, fun x5 x6 o hg => l_letter0 hj hL c14 c14' g1 g2 g3 x5 x6 o (l_letter1 g4 o hg)⟩
  · have hx : xs (j + 1) < 0 ∨ ∃ p, p < 2 ^ 31 ∧ xs (j + 1) = nI p ∧ Q.length ≤ p := by
      rcases i32_cases (xs (j + 1)) with q | ⟨p, p1, p2⟩
      · exact Or.inl q
      · exact Or.inr ⟨p, p1, p2, Nat.le_of_not_lt (fun z => hB ⟨p, p1, z, p2⟩)⟩
    obtain ⟨h1, g1, hj1⟩ := qlj_c (R := fun h' => qe L xs 2000 112 [.ref 0, .int (xs (j + 1)), .ref 26] h (.inl (some (.int 1)), h')) (B' := B) (Q' := Q) (mx' := mx) (kd' := kd) hq (fun tb tl pb pl so fr to n hs => by
      have a1 := q_letterN (L := L) (xs := xs) (d := 3) hs hx
      obtain ⟨a2, a3⟩ := qst_thr hs
      exact ⟨_, tb, tl, pb, pl, so, fr, to, n, qe_up (by omega) (l_letterN (d := 0) (qst_c0 hs) a1), a2, a3⟩)
    obtain ⟨-, hm1, -⟩ := qlj_s hj1
    obtain ⟨h', ⟨r, g2, g3⟩, hj2⟩ := qlj_m (R := fun h' => ∃ r : Int32, qe L xs 2000 191 [.ref 14, .int (xs (j + 1))] h1 (.inl (some (.int r)), h') ∧ qe L xs 2000 115 [.ref 14] h' (.inl (some (.int 1)), h')) hj1 (fun hm => by
      obtain ⟨h', r, tp, ln, cn, kp, v10, v14, v17, v18, v19, v20, v21, a1, a2, a3, a4, a5⟩ := m_letterX (L := L) (xs := xs) (d := 0) hm hx
      exact ⟨h', ⟨r, qe_up (by omega) a1, qe_up (by omega) (m_thrown (d := 0) (t := .int 0) a5)⟩, a2, a3, Or.inl a4⟩)
    obtain ⟨-, hm2, -⟩ := qlj_s hj2
    obtain ⟨_, _, _, _, _, _, _, _, _, c14, -⟩ := mst_th hm1
    obtain ⟨_, _, _, _, _, _, _, _, _, c14', -⟩ := mst_th hm2
    exact ⟨h', 1, r, ⟨_, Q, mx, kd, J, T, qlj_le hj2 (by omega) (by omega), h0⟩, fun x5 x6 o hg => l_letter0 hj hL c14 c14' g1 g2 g3 x5 x6 o (l_letter2 o hg)⟩
end LBC
