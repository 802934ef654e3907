/-! THE MODEL: TESTS. (Printed by wip/whole/pp.py from wip/whole/src.) -/
section MTE
variable {L : Nat} {xs : Nat → Int32} {d : Nat} {h h' : ai_H} {e : zE} {Y : Nat → Option ai_C} {K : mK} {W P Q : zK} {s s' : zS} {pr ex qy : zP} {x3 x4 x5 : Option Value} {J : List zJ} {bg en md : Value}
/-- takes, of a word that isn't there -/
theorem m_takes0 (ht : mtk e Y) (hc : mcs e Y K W s h) {k : Nat} (hk : k < 82) (h1 : ¬ ztk e s.1 = k) : qe L xs (d + 8) 137 [.ref 14, .retAddr (qr_en.getD k (0, 0)).1] h (.inl (some (.int 0)), h) := by
  have his := m_isWord (L := L) (xs := xs) (d := d) ht hc (k := k) (by omega)
  rw [if_neg h1] at his
  refine qe_of (M := qm_137) rfl rfl ?_
  show qg L xs _ qm_137 0 [some (.ref 14), some (.retAddr (qr_en.getD k (0, 0)).1), none] [] h _
  refine qg_pls (n := 2) (k' := 2) (lo' := [some (.ref 14), some (.retAddr (qr_en.getD k (0, 0)).1), none]) (S' := [.retAddr (qr_en.getD k (0, 0)).1, .ref 14]) (h' := h) rfl ?_
  refine qg_call (v := some (.int 0)) (h' := h) (as := [.ref 14, .retAddr (qr_en.getD k (0, 0)).1]) rfl rfl rfl rfl rfl rfl rfl (ai_rcv1 rfl rfl ((mcs_rcv hc).choose_spec)) (his) ?_
  show qg L xs _ qm_137 3 [some (.ref 14), some (.retAddr (qr_en.getD k (0, 0)).1), none] [.int 0] h _
  refine qg_pls (n := 2) (k' := 5) (lo' := [some (.ref 14), some (.retAddr (qr_en.getD k (0, 0)).1), some (.int 0)]) (S' := [.int 0]) (h' := h) rfl ?_
  refine qg_if true rfl (rfl) rfl ?_
  refine qg_pls (n := 1) (k' := 9) (lo' := [some (.ref 14), some (.retAddr (qr_en.getD k (0, 0)).1), some (.int 0)]) (S' := [.int 0]) (h' := h) rfl ?_
  exact qg_ret5 rfl rfl rfl
theorem z_swap {A t : List Int32} {n : Nat} (h : n ≤ A.length) : (A ++ t).take n ++ [40, 32] ++ (A ++ t).drop n = (A.take n ++ [40, 32] ++ A.drop n) ++ t := by
  rw [List.take_append_of_le_length h, List.drop_append_of_le_length h]
  simp only [List.append_assoc]
/-- a test's first token -/
theorem m_keep1 (ht : mtk e Y) {k kk : Nat} (hc : mcs0 e Y K W s h J bg en md) (hk : k < J.length) (hl : mle K W (jo J k)) (hU : K.2.2.1.length + 1 ≤ 95) (t : ztk e s.1 = kk) (hkk : kk < 99) : ∃ h', qe L xs (d + 1) 136 [.ref 14] h (.inl none, h') ∧ mcs e Y (mgh K (jo J k) k) W (s.1 + 1, s.2.1, s.2.2.1, s.2.2.2.1, (s.2.2.2.2.take (jo J k) ++ [40, 32] ++ s.2.2.2.2.drop (jo J k)) ++ zw kk ++ [32]) h' := by
  obtain ⟨n1, n2, n3⟩ := mtk_next ht (show ztk e s.1 < 102 by omega)
  obtain ⟨h', g1, g2⟩ := m_keep (L := L) (xs := xs) (d := d) ht hc (by omega) (c' := K.1 + 1) (g' := K.2.1) (by omega) (by omega)
  rw [zit_w t hkk] at g2
  have hjo : jo (J ++ [(nI s.1, zw kk, 0, 0)]) k = jo J k := jo_app (by omega)
  have hle : jo J k ≤ s.2.2.2.2.length := by
    obtain ⟨rf, bf, wr, wf, h5, c6, -⟩ := mcs0_5 hc
    rw [c6]
    exact jo_le (by omega)
  have g3 := m_ghost (K := K) (k := k) g2 (by rw [List.length_append]; omega) (by rw [hjo]; exact hl) (fun a ha => by
    rw [List.length_append] at ha
    have ha : (J ++ [(nI s.1, zw kk, 0, 0)])[J.length]? = some a := ha
    rw [List.getElem?_append_right (Nat.le_refl _), Nat.sub_self] at ha
    cases ha
    rfl) (by rw [List.length_append]; simp only [List.length_cons, List.length_nil]; omega) hU
  rw [hjo] at g3
  have e1 : (s.2.2.2.2 ++ zw kk ++ [32]).take (jo J k) ++ [40, 32] ++ (s.2.2.2.2 ++ zw kk ++ [32]).drop (jo J k) = (s.2.2.2.2.take (jo J k) ++ [40, 32] ++ s.2.2.2.2.drop (jo J k)) ++ zw kk ++ [32] := by
    rw [List.append_assoc s.2.2.2.2, z_swap hle]
    simp only [List.append_assoc]
  dsimp only at g3
  rw [e1] at g3
  exact ⟨h', g1, _, _, _, _, g3⟩
theorem m_takes1 (ht : mtk e Y) {k kk : Nat} (hc : mcs0 e Y K W s h J bg en md) (hk : k < J.length) (hl : mle K W (jo J k)) (hU : K.2.2.1.length + 1 ≤ 95) (t : ztk e s.1 = kk) (hkk : kk < 82) : ∃ h', qe L xs (d + 8) 137 [.ref 14, .retAddr (qr_en.getD kk (0, 0)).1] h (.inl (some (.int 1)), h') ∧ mcs e Y (mgh K (jo J k) k) W (s.1 + 1, s.2.1, s.2.2.1, s.2.2.2.1, (s.2.2.2.2.take (jo J k) ++ [40, 32] ++ s.2.2.2.2.drop (jo J k)) ++ zw kk ++ [32]) h' := by
  have his := m_isWord (L := L) (xs := xs) (d := d) ht ⟨J, bg, en, md, hc⟩ (k := kk) (by omega)
  rw [if_pos t] at his
  obtain ⟨h', g1, g2⟩ := m_keep1 (L := L) (xs := xs) (d := d + 6) ht hc hk hl hU t (by omega)
  refine ⟨h', ?_, g2⟩
  refine qe_of (M := qm_137) rfl rfl ?_
  show qg L xs _ qm_137 0 [some (.ref 14), some (.retAddr (qr_en.getD kk (0, 0)).1), none] [] h _
  refine qg_pls (n := 2) (k' := 2) (lo' := [some (.ref 14), some (.retAddr (qr_en.getD kk (0, 0)).1), none]) (S' := [.retAddr (qr_en.getD kk (0, 0)).1, .ref 14]) (h' := h) rfl ?_
  refine qg_call (v := some (.int 1)) (h' := h) (as := [.ref 14, .retAddr (qr_en.getD kk (0, 0)).1]) rfl rfl rfl rfl rfl rfl rfl (ai_rcv1 rfl rfl (mcs0_ob hc)) (his) ?_
  show qg L xs _ qm_137 3 [some (.ref 14), some (.retAddr (qr_en.getD kk (0, 0)).1), none] [.int 1] h _
  refine qg_pls (n := 2) (k' := 5) (lo' := [some (.ref 14), some (.retAddr (qr_en.getD kk (0, 0)).1), some (.int 1)]) (S' := [.int 1]) (h' := h) rfl ?_
  refine qg_if false rfl (rfl) rfl ?_
  refine qg_pls (n := 1) (k' := 7) (lo' := [some (.ref 14), some (.retAddr (qr_en.getD kk (0, 0)).1), some (.int 1)]) (S' := [.ref 14]) (h' := h) rfl ?_
  refine qg_call (v := none) (h' := h') (as := [.ref 14]) rfl rfl rfl rfl rfl rfl rfl (ai_rcv1 rfl rfl (mcs0_ob hc)) (g1) ?_
  show qg L xs _ qm_137 8 [some (.ref 14), some (.retAddr (qr_en.getD kk (0, 0)).1), some (.int 1)] [] h' _
  refine qg_pls (n := 1) (k' := 9) (lo' := [some (.ref 14), some (.retAddr (qr_en.getD kk (0, 0)).1), some (.int 1)]) (S' := [.int 1]) (h' := h') rfl ?_
  exact qg_ret5 rfl rfl rfl
/-- what a test comes to -/
def mto (e : zE) (Y : Nat → Option ai_C) (K : mK) (pr : zP) (p1 P : zK) (l0 c0 : Nat) (Gt : Nat → zS → zR Nat) (v : Option Nat) (s' : zS) (Z : ai_O → Prop) : Prop :=
  (∃ h2, Z (.inr "java/lang/IllegalArgumentException", h2) ∧ v = none ∧ mbad e Y K s' h2) ∨
  (∃ h2 s5, Z (.inl (some (.int (nI 4))), h2) ∧ mxp e Y K (p1 ++ P) s5 h2 c0 4 ∧ Gt 4 s5 = some (v, s')) ∨
  (∃ h2 r p2 st ma s4 sX, Z (.inl (some (.int (nI 9))), h2) ∧ mxp e Y K (p2 ++ ((c0, r) :: p1) ++ P) s4 h2 st ma ∧ mso l0 st (p2 ++ ((c0, r) :: p1)) ∧ (∀ q ∈ p2, q.2 = 8) ∧ ((r = 4 ∧ zbd (zaft e 88 8 zfamS pr 69999 sX p2 st ma s4) (fun _ s => zbd (zpop s) fun _ s => zbd (zput (zt 1008) s) fun _ s => Gt 4 s) = some (v, s')) ∨ (r = 9 ∧ zbd (zaft e 88 8 zfamS pr 69999 sX p2 st ma s4) (fun _ s => zbd (zcp e 2 s) fun _ s => zbd (z_sum e pr s) fun _ s => zbd (zpop s) fun _ s => zbd (zput (zt 1008) s) fun _ s => Gt 4 s) = some (v, s'))))
theorem mto_mono {p1 : zK} {l0 c0 : Nat} {Gt : Nat → zS → zR Nat} {v : Option Nat} {Z Z' : ai_O → Prop} (hm : mto e Y K pr p1 P l0 c0 Gt v s' Z) (hz : ∀ o, Z o → Z' o) : mto e Y K pr p1 P l0 c0 Gt v s' Z' := by
  rcases hm with ⟨h2, g1, g2⟩ | ⟨h2, s5, g1, g2⟩ | ⟨h2, r, p2, st, ma, s4, sX, g1, g2⟩
  · exact Or.inl ⟨h2, hz _ g1, g2⟩
  · exact Or.inr (Or.inl ⟨h2, s5, hz _ g1, g2⟩)
  · exact Or.inr (Or.inr ⟨h2, r, p2, st, ma, s4, sX, hz _ g1, g2⟩)
/-- the operator waits, and what it compares with begins -/
theorem t_park (ht : mtk e Y) (hod : mop L xs e Y K (d + 8) 144 pr) {p1 : zK} {l0 c0 k r b : Nat} {Gt H : Nat → zS → zR Nat} {v : Option Nat} (hc : mcs e Y (mgh K c0 k) (p1 ++ P) s h) (hm : mso l0 c0 p1) (hz : zbd (ztest s) (fun _ s => zbd (z_sum e pr s) H) = some (v, s')) (hH : (r = 4 ∧ b = 0 ∧ H = fun _ s => zbd (zpop s) fun _ s => zbd (zput (zt 1008) s) fun _ s => Gt 4 s) ∨ (r = 9 ∧ b = 1 ∧ H = fun _ s => zbd (zcp e 2 s) fun _ s => zbd (z_sum e pr s) fun _ s => zbd (zpop s) fun _ s => zbd (zput (zt 1008) s) fun _ s => Gt 4 s)) : mto e Y K pr p1 P l0 c0 Gt v s' (fun o => qg L xs (d + 9) qm_161 63 [some (.ref 14), some (.int (nI P.length)), some (.int (nI k)), x3, some (.int (nI b))] [] h o) := by
  have hbd := mcs_bd hc
  rcases zbd_inv hz with ⟨z1, -⟩ | ⟨a1, s1, z1, hz⟩
  · obtain ⟨-, x, -⟩ := ztest_inv z1; cases x
  obtain ⟨hw, -, e1⟩ := ztest_inv z1
  obtain ⟨J, bg, en, md, hc0⟩ := id hc
  obtain ⟨h1, g1, hc1⟩ := m_tpark (L := L) (xs := xs) (d := d + 8) (r := r) hc0 (by omega) (by omega)
  rw [← e1] at hc1
  have road : ∀ o, qg L xs (d + 9) qm_161 71 [some (.ref 14), some (.int (nI P.length)), some (.int (nI k)), x3, some (.int (nI b))] [] h1 o → qg L xs (d + 9) qm_161 63 [some (.ref 14), some (.int (nI P.length)), some (.int (nI k)), x3, some (.int (nI b))] [] h o := by
    intro o hg
    refine qg_pls (n := 2) (k' := 65) (lo' := [some (.ref 14), some (.int (nI P.length)), some (.int (nI k)), x3, some (.int (nI b))]) (S' := [.int (nI b), .ref 14]) (h' := h) rfl ?_
    rcases hH with ⟨r4, b0, -⟩ | ⟨r9, b1, -⟩
    · subst r4 b0
      refine qg_if true rfl (rfl) rfl ?_
      refine qg_pls (n := 2) (k' := 70) (lo' := [some (.ref 14), some (.int (nI P.length)), some (.int (nI k)), x3, some (.int (nI 0))]) (S' := [.int (nI k), .int 4, .ref 14]) (h' := h) rfl ?_
      refine qg_call (v := none) (h' := h1) (as := [.ref 14, .int 4, .int (nI k)]) rfl rfl rfl rfl rfl rfl rfl (ai_rcv1 rfl rfl ((mcs_rcv hc).choose_spec)) (g1) ?_
      show qg L xs _ qm_161 71 [some (.ref 14), some (.int (nI P.length)), some (.int (nI k)), x3, some (.int (nI 0))] [] h1 _
      exact hg
    · subst r9 b1
      refine qg_if false rfl (rfl) rfl ?_
      refine qg_pls (n := 3) (k' := 70) (lo' := [some (.ref 14), some (.int (nI P.length)), some (.int (nI k)), x3, some (.int (nI 1))]) (S' := [.int (nI k), .int 9, .ref 14]) (h' := h) rfl ?_
      refine qg_call (v := none) (h' := h1) (as := [.ref 14, .int 9, .int (nI k)]) rfl rfl rfl rfl rfl rfl rfl (ai_rcv1 rfl rfl ((mcs_rcv hc).choose_spec)) (g1) ?_
      show qg L xs _ qm_161 71 [some (.ref 14), some (.int (nI P.length)), some (.int (nI k)), x3, some (.int (nI 1))] [] h1 _
      exact hg
  have hcl : c0 ≤ s1.2.2.2.2.length := (mcs0_lt hc1.choose_spec.choose_spec.choose_spec.choose_spec).1.1 (c0, r) (List.mem_cons_self ..)
  have hm1 : mso l0 s1.2.2.2.2.length ([] ++ (c0, r) :: p1) := ⟨hcl, hm⟩
  unfold z_sum at hz
  rw [zN_1, zops_succ, zbd_zbd] at hz
  simp only [zbd_zbd] at hz
  refine mto_mono ?_ road
  rcases m_prS (F := fun p st ma s4 => zbd (zaft e 88 8 zfamS pr 69999 s1 p st ma s4) H) (p := []) (R := (c0, r) :: p1) ht hod hc1 hm1 (Or.inr ⟨(c0, r), p1, rfl, by show 3 < r; omega⟩) hz with ⟨h2, g2, g3, g4⟩ | ⟨h2, p2, st, ma, s4, g2, g3, g4, g5, g6, g7⟩
  · refine Or.inl ⟨h2, ?_, g3, g4⟩
    refine qg_pls (n := 2) (k' := 73) (lo' := [some (.ref 14), some (.int (nI P.length)), some (.int (nI k)), x3, some (.int (nI b))]) (S' := [.int (nI P.length), .ref 14]) (h' := h1) rfl ?_
    exact qg_callT rfl rfl rfl rfl rfl rfl rfl (ai_rcv1 rfl rfl ((mcs_rcv hc1).choose_spec)) rfl (g2)
  · refine Or.inr (Or.inr ⟨h2, r, p2, st, ma, s4, s1, ?_, g3, g4, fun q hq => ?_, ?_⟩)
    · skip
      refine qg_pls (n := 2) (k' := 73) (lo' := [some (.ref 14), some (.int (nI P.length)), some (.int (nI k)), x3, some (.int (nI b))]) (S' := [.int (nI P.length), .ref 14]) (h' := h1) rfl ?_
      refine qg_call (v := none) (h' := h2) (as := [.ref 14, .int (nI P.length)]) rfl rfl rfl rfl rfl rfl rfl (ai_rcv1 rfl rfl ((mcs_rcv hc1).choose_spec)) (g2) ?_
      show qg L xs _ qm_161 74 [some (.ref 14), some (.int (nI P.length)), some (.int (nI k)), x3, some (.int (nI b))] [] h2 _
      refine qg_pls (n := 1) (k' := 75) (lo' := [some (.ref 14), some (.int (nI P.length)), some (.int (nI k)), x3, some (.int (nI b))]) (S' := [.int 9]) (h' := h2) rfl ?_
      exact qg_ret5 rfl rfl rfl
    · rcases g5 q hq with z | z
      · cases z
      · exact z
    · rcases hH with ⟨r4, -, rfl⟩ | ⟨r9, -, rfl⟩
      · exact Or.inl ⟨r4, g7⟩
      · exact Or.inr ⟨r9, g7⟩
/-- the test's bracket is closed -/
theorem t_wrap11 (ht : mtk e Y) {p1 : zK} {l0 c0 k : Nat} (hl : mle K (p1 ++ P) c0) {Gt : Nat → zS → zR Nat} {v : Option Nat} (hc : mcs e Y (mgh K c0 k) (p1 ++ P) s h) (hz : zbd (zput (zt 1008) s) (fun _ s => Gt 4 s) = some (v, s')) : mto e Y K pr p1 P l0 c0 Gt v s' (fun o => qg L xs (d + 9) qm_161 11 [some (.ref 14), some (.int (nI P.length)), some (.int (nI k)), x3, x4] [] h o) := by
  rcases zbd_inv hz with ⟨z1, -⟩ | ⟨a1, s1, z1, hz⟩
  · obtain ⟨-, x, -⟩ := zput_inv z1; cases x
  obtain ⟨-, -, e1⟩ := zput_inv z1
  obtain ⟨J, bg, en, md, hc0⟩ := id hc
  obtain ⟨h1, g1, hx1⟩ := m_gwrap (L := L) (xs := xs) (d := d + 8) ht hl hc0
  have e2 : s1 = (s.1, s.2.1, s.2.2.1, s.2.2.2.1, s.2.2.2.2 ++ [41, 32]) := by
    rw [e1, zt_cl]
    simp only [List.append_assoc, List.cons_append, List.nil_append]
  rw [← e2] at hx1
  refine Or.inr (Or.inl ⟨h1, s1, ?_, hx1, hz⟩)
  refine qg_pls (n := 3) (k' := 14) (lo' := [some (.ref 14), some (.int (nI P.length)), some (.int (nI k)), x3, x4]) (S' := [.int 4, .int (nI k), .ref 14]) (h' := h) rfl ?_
  refine qg_call (v := none) (h' := h1) (as := [.ref 14, .int (nI k), .int 4]) rfl rfl rfl rfl rfl rfl rfl (ai_rcv1 rfl rfl ((mcs_rcv hc).choose_spec)) (g1) ?_
  show qg L xs _ qm_161 15 [some (.ref 14), some (.int (nI P.length)), some (.int (nI k)), x3, x4] [] h1 _
  refine qg_pls (n := 1) (k' := 16) (lo' := [some (.ref 14), some (.int (nI P.length)), some (.int (nI k)), x3, x4]) (S' := [.int 4]) (h' := h1) rfl ?_
  exact qg_ret5 rfl rfl rfl
/-- the test's bracket is closed -/
theorem t_wrap38 (ht : mtk e Y) {p1 : zK} {l0 c0 k : Nat} (hl : mle K (p1 ++ P) c0) {Gt : Nat → zS → zR Nat} {v : Option Nat} (hc : mcs e Y (mgh K c0 k) (p1 ++ P) s h) (hz : zbd (zput (zt 1008) s) (fun _ s => Gt 4 s) = some (v, s')) : mto e Y K pr p1 P l0 c0 Gt v s' (fun o => qg L xs (d + 9) qm_161 38 [some (.ref 14), some (.int (nI P.length)), some (.int (nI k)), x3, x4] [] h o) := by
  rcases zbd_inv hz with ⟨z1, -⟩ | ⟨a1, s1, z1, hz⟩
  · obtain ⟨-, x, -⟩ := zput_inv z1; cases x
  obtain ⟨-, -, e1⟩ := zput_inv z1
  obtain ⟨J, bg, en, md, hc0⟩ := id hc
  obtain ⟨h1, g1, hx1⟩ := m_gwrap (L := L) (xs := xs) (d := d + 8) ht hl hc0
  have e2 : s1 = (s.1, s.2.1, s.2.2.1, s.2.2.2.1, s.2.2.2.2 ++ [41, 32]) := by
    rw [e1, zt_cl]
    simp only [List.append_assoc, List.cons_append, List.nil_append]
  rw [← e2] at hx1
  refine Or.inr (Or.inl ⟨h1, s1, ?_, hx1, hz⟩)
  refine qg_pls (n := 3) (k' := 41) (lo' := [some (.ref 14), some (.int (nI P.length)), some (.int (nI k)), x3, x4]) (S' := [.int 4, .int (nI k), .ref 14]) (h' := h) rfl ?_
  refine qg_call (v := none) (h' := h1) (as := [.ref 14, .int (nI k), .int 4]) rfl rfl rfl rfl rfl rfl rfl (ai_rcv1 rfl rfl ((mcs_rcv hc).choose_spec)) (g1) ?_
  show qg L xs _ qm_161 42 [some (.ref 14), some (.int (nI P.length)), some (.int (nI k)), x3, x4] [] h1 _
  refine qg_pls (n := 1) (k' := 43) (lo' := [some (.ref 14), some (.int (nI P.length)), some (.int (nI k)), x3, x4]) (S' := [.int 4]) (h' := h1) rfl ?_
  exact qg_ret5 rfl rfl rfl
/-- IS, behind it -/
theorem t_is (ht : mtk e Y) {p1 : zK} {l0 c0 k : Nat} (hl : mle K (p1 ++ P) c0) {Gt : Nat → zS → zR Nat} {v : Option Nat} (hc : mcs e Y (mgh K c0 k) (p1 ++ P) s h) (hz : zbd (zci e 49 s) (fun _ s => zbd (zcp e 50 s) fun _ s => zbd (zput (zt 1008) s) fun _ s => Gt 4 s) = some (v, s')) : mto e Y K pr p1 P l0 c0 Gt v s' (fun o => qg L xs (d + 9) qm_161 4 [some (.ref 14), some (.int (nI P.length)), some (.int (nI k)), x3, x4] [] h o) := by
  rcases zbd_inv hz with ⟨z1, -⟩ | ⟨a1, s1, z1, hz⟩
  · by_cases t : ztk e s.1 = 49
    · rw [zci_T t] at z1
      rcases zbd_inv z1 with ⟨z2, -⟩ | ⟨a, s2, -, z3⟩
      · unfold zcp zc at z2
        rw [if_pos t] at z2
        obtain ⟨x, -⟩ := zkp_inv t (by decide) z2; cases x
      · cases z3
    · rw [zci_F t] at z1; cases z1
  obtain ⟨h1, g1, hc1⟩ := mi_takes (L := L) (xs := xs) (d := d + 1) (K := mgh K c0 k) (k := 49) ht (by decide) (by decide) _ _ _ _ _ hc z1
  have hc1 : mcs e Y (mgh K c0 k) (p1 ++ P) s1 h1 := hc1
  have road : ∀ o, qg L xs (d + 9) qm_161 8 [some (.ref 14), some (.int (nI P.length)), some (.int (nI k)), x3, x4] [] h1 o → qg L xs (d + 9) qm_161 4 [some (.ref 14), some (.int (nI P.length)), some (.int (nI k)), x3, x4] [] h o := by
    intro o hg
    refine qg_pls (n := 2) (k' := 6) (lo' := [some (.ref 14), some (.int (nI P.length)), some (.int (nI k)), x3, x4]) (S' := [.retAddr 1064, .ref 14]) (h' := h) rfl ?_
    refine qg_call (v := some (.int (nI a1))) (h' := h1) (as := [.ref 14, .retAddr 1064]) rfl rfl rfl rfl rfl rfl rfl (ai_rcv1 rfl rfl ((mcs_rcv hc).choose_spec)) (g1) ?_
    show qg L xs _ qm_161 7 [some (.ref 14), some (.int (nI P.length)), some (.int (nI k)), x3, x4] [.int (nI a1)] h1 _
    refine qg_pls (n := 1) (k' := 8) (lo' := [some (.ref 14), some (.int (nI P.length)), some (.int (nI k)), x3, x4]) (S' := []) (h' := h1) rfl ?_
    exact hg
  refine mto_mono ?_ road
  rcases zbd_inv hz with ⟨z2, rfl⟩ | ⟨a2, s2, z2, hz⟩
  · obtain ⟨h2, g2, hb2⟩ := mi_word (L := L) (xs := xs) (d := d + 1) (K := mgh K c0 k) (k := 50) ht (by decide) (by decide) _ _ _ _ _ hc1 z2
    refine Or.inl ⟨h2, ?_, rfl, hb2⟩
    refine qg_pls (n := 2) (k' := 10) (lo' := [some (.ref 14), some (.int (nI P.length)), some (.int (nI k)), x3, x4]) (S' := [.retAddr 1065, .ref 14]) (h' := h1) rfl ?_
    exact qg_callT rfl rfl rfl rfl rfl rfl rfl (ai_rcv1 rfl rfl ((mcs_rcv hc1).choose_spec)) rfl (g2)
  · obtain ⟨h2, g2, hc2⟩ := mi_word (L := L) (xs := xs) (d := d + 1) (K := mgh K c0 k) (k := 50) ht (by decide) (by decide) _ _ _ _ _ hc1 z2
    have hc2 : mcs e Y (mgh K c0 k) (p1 ++ P) s2 h2 := hc2
    refine mto_mono (t_wrap11 (x3 := x3) (x4 := x4) (d := d) (L := L) (xs := xs) ht hl hc2 hz) (fun o hg => ?_)
    refine qg_pls (n := 2) (k' := 10) (lo' := [some (.ref 14), some (.int (nI P.length)), some (.int (nI k)), x3, x4]) (S' := [.retAddr 1065, .ref 14]) (h' := h1) rfl ?_
    refine qg_call (v := none) (h' := h2) (as := [.ref 14, .retAddr 1065]) rfl rfl rfl rfl rfl rfl rfl (ai_rcv1 rfl rfl ((mcs_rcv hc1).choose_spec)) (g2) ?_
    show qg L xs _ qm_161 11 [some (.ref 14), some (.int (nI P.length)), some (.int (nI k)), x3, x4] [] h2 _
    exact hg
/-- IN, behind it -/
theorem t_in (ht : mtk e Y) {p1 : zK} {l0 c0 k : Nat} (hl : mle K (p1 ++ P) c0) (hex : mim L xs e Y (mgh K c0 k) d 140 [.ref 14] 0 ex) (hqy : mim L xs e Y (mgh K c0 k) (d + 9) 133 [.ref 14] 0 qy) {Gt : Nat → zS → zR Nat} {v : Option Nat} (hc : mcs e Y (mgh K c0 k) (p1 ++ P) s h) (hz : zbd (z_members e ex qy s) (fun _ s => zbd (zput (zt 1008) s) fun _ s => Gt 4 s) = some (v, s')) : mto e Y K pr p1 P l0 c0 Gt v s' (fun o => qg L xs (d + 9) qm_161 25 [some (.ref 14), some (.int (nI P.length)), some (.int (nI k)), x3, x4] [] h o) := by
  unfold z_members zq zc at hz
  simp only [zbd_zbd] at hz
  rcases zbd_inv hz with ⟨z1, rfl⟩ | ⟨a1, s1, z1, hz⟩
  · obtain ⟨h2, g2, hb2⟩ := mi_open (L := L) (xs := xs) (d := d + 1) (K := mgh K c0 k) ht _ _ _ _ _ hc z1
    refine Or.inl ⟨h2, ?_, rfl, hb2⟩
    refine qg_pls (n := 1) (k' := 26) (lo' := [some (.ref 14), some (.int (nI P.length)), some (.int (nI k)), x3, x4]) (S' := [.ref 14]) (h' := h) rfl ?_
    exact qg_callT rfl rfl rfl rfl rfl rfl rfl (ai_rcv1 rfl rfl ((mcs_rcv hc).choose_spec)) rfl (g2)
  obtain ⟨h1, g1, hc1⟩ := mi_open (L := L) (xs := xs) (d := d + 1) (K := mgh K c0 k) ht _ _ _ _ _ hc z1
  have hc1 : mcs e Y (mgh K c0 k) (p1 ++ P) s1 h1 := hc1
  have road : ∀ o, qg L xs (d + 9) qm_161 27 [some (.ref 14), some (.int (nI P.length)), some (.int (nI k)), x3, x4] [] h1 o → qg L xs (d + 9) qm_161 25 [some (.ref 14), some (.int (nI P.length)), some (.int (nI k)), x3, x4] [] h o := by
    intro o hg
    refine qg_pls (n := 1) (k' := 26) (lo' := [some (.ref 14), some (.int (nI P.length)), some (.int (nI k)), x3, x4]) (S' := [.ref 14]) (h' := h) rfl ?_
    refine qg_call (v := none) (h' := h1) (as := [.ref 14]) rfl rfl rfl rfl rfl rfl rfl (ai_rcv1 rfl rfl ((mcs_rcv hc).choose_spec)) (g1) ?_
    show qg L xs _ qm_161 27 [some (.ref 14), some (.int (nI P.length)), some (.int (nI k)), x3, x4] [] h1 _
    exact hg
  refine mto_mono ?_ road
  -- behind the members
  have rest : ∀ s2 h2, mcs e Y (mgh K c0 k) (p1 ++ P) s2 h2 → zbd (zcp e 83 s2) (fun _ s => zbd (zput (zt 1008) s) fun _ s => Gt 4 s) = some (v, s') → mto e Y K pr p1 P l0 c0 Gt v s' (fun o => qg L xs (d + 9) qm_161 36 [some (.ref 14), some (.int (nI P.length)), some (.int (nI k)), x3, x4] [] h2 o) := by
    intro s2 h2 hc2 hz
    rcases zbd_inv hz with ⟨z3, rfl⟩ | ⟨a3, s3, z3, hz⟩
    · obtain ⟨h3, g3, hb3⟩ := mi_close (L := L) (xs := xs) (d := d) (K := mgh K c0 k) ht _ _ _ _ _ hc2 z3
      refine Or.inl ⟨h3, ?_, rfl, hb3⟩
      refine qg_pls (n := 1) (k' := 37) (lo' := [some (.ref 14), some (.int (nI P.length)), some (.int (nI k)), x3, x4]) (S' := [.ref 14]) (h' := h2) rfl ?_
      exact qg_callT rfl rfl rfl rfl rfl rfl rfl (ai_rcv1 rfl rfl ((mcs_rcv hc2).choose_spec)) rfl (g3)
    · obtain ⟨h3, g3, hc3⟩ := mi_close (L := L) (xs := xs) (d := d) (K := mgh K c0 k) ht _ _ _ _ _ hc2 z3
      have hc3 : mcs e Y (mgh K c0 k) (p1 ++ P) s3 h3 := hc3
      refine mto_mono (t_wrap38 (x3 := x3) (x4 := x4) (d := d) (L := L) (xs := xs) ht hl hc3 hz) (fun o hg => ?_)
      refine qg_pls (n := 1) (k' := 37) (lo' := [some (.ref 14), some (.int (nI P.length)), some (.int (nI k)), x3, x4]) (S' := [.ref 14]) (h' := h2) rfl ?_
      refine qg_call (v := none) (h' := h3) (as := [.ref 14]) rfl rfl rfl rfl rfl rfl rfl (ai_rcv1 rfl rfl ((mcs_rcv hc2).choose_spec)) (g3) ?_
      show qg L xs _ qm_161 38 [some (.ref 14), some (.int (nI P.length)), some (.int (nI k)), x3, x4] [] h3 _
      exact hg
  have his := m_isWord (L := L) (xs := xs) (d := d + 2) ht hc1 (k := 65) (by decide)
  by_cases t : ztk e s1.1 = 65
  · rw [if_pos t] at hz his
    rcases zbd_inv hz with ⟨z2, rfl⟩ | ⟨a2, s2, z2, hz⟩
    · obtain ⟨h2, g2, hb2⟩ := hqy _ _ _ _ _ hc1 z2
      refine Or.inl ⟨h2, ?_, rfl, hb2⟩
      refine qg_pls (n := 2) (k' := 29) (lo' := [some (.ref 14), some (.int (nI P.length)), some (.int (nI k)), x3, x4]) (S' := [.retAddr 1080, .ref 14]) (h' := h1) rfl ?_
      refine qg_call (v := some (.int 1)) (h' := h1) (as := [.ref 14, .retAddr 1080]) rfl rfl rfl rfl rfl rfl rfl (ai_rcv1 rfl rfl ((mcs_rcv hc1).choose_spec)) (his) ?_
      show qg L xs _ qm_161 30 [some (.ref 14), some (.int (nI P.length)), some (.int (nI k)), x3, x4] [.int 1] h1 _
      refine qg_if false rfl (rfl) rfl ?_
      refine qg_pls (n := 1) (k' := 32) (lo' := [some (.ref 14), some (.int (nI P.length)), some (.int (nI k)), x3, x4]) (S' := [.ref 14]) (h' := h1) rfl ?_
      exact qg_callT rfl rfl rfl rfl rfl rfl rfl (ai_rcv1 rfl rfl ((mcs_rcv hc1).choose_spec)) rfl (g2)
    · obtain ⟨h2, g2, hc2⟩ := hqy _ _ _ _ _ hc1 z2
      have hc2 : mcs e Y (mgh K c0 k) (p1 ++ P) s2 h2 := hc2
      refine mto_mono (rest s2 h2 hc2 hz) (fun o hg => ?_)
      refine qg_pls (n := 2) (k' := 29) (lo' := [some (.ref 14), some (.int (nI P.length)), some (.int (nI k)), x3, x4]) (S' := [.retAddr 1080, .ref 14]) (h' := h1) rfl ?_
      refine qg_call (v := some (.int 1)) (h' := h1) (as := [.ref 14, .retAddr 1080]) rfl rfl rfl rfl rfl rfl rfl (ai_rcv1 rfl rfl ((mcs_rcv hc1).choose_spec)) (his) ?_
      show qg L xs _ qm_161 30 [some (.ref 14), some (.int (nI P.length)), some (.int (nI k)), x3, x4] [.int 1] h1 _
      refine qg_if false rfl (rfl) rfl ?_
      refine qg_pls (n := 1) (k' := 32) (lo' := [some (.ref 14), some (.int (nI P.length)), some (.int (nI k)), x3, x4]) (S' := [.ref 14]) (h' := h1) rfl ?_
      refine qg_call (v := none) (h' := h2) (as := [.ref 14]) rfl rfl rfl rfl rfl rfl rfl (ai_rcv1 rfl rfl ((mcs_rcv hc1).choose_spec)) (g2) ?_
      show qg L xs _ qm_161 33 [some (.ref 14), some (.int (nI P.length)), some (.int (nI k)), x3, x4] [] h2 _
      refine qg_pls (n := 1) (k' := 36) (lo' := [some (.ref 14), some (.int (nI P.length)), some (.int (nI k)), x3, x4]) (S' := []) (h' := h2) rfl ?_
      exact hg
  · rw [if_neg t] at hz his
    rcases zbd_inv hz with ⟨z2, rfl⟩ | ⟨a2, s2, z2, hz⟩
    · obtain ⟨h2, g2, hb2⟩ := ms_list (K := mgh K c0 k) ht hex _ _ _ _ _ hc1 z2
      refine Or.inl ⟨h2, ?_, rfl, hb2⟩
      refine qg_pls (n := 2) (k' := 29) (lo' := [some (.ref 14), some (.int (nI P.length)), some (.int (nI k)), x3, x4]) (S' := [.retAddr 1080, .ref 14]) (h' := h1) rfl ?_
      refine qg_call (v := some (.int 0)) (h' := h1) (as := [.ref 14, .retAddr 1080]) rfl rfl rfl rfl rfl rfl rfl (ai_rcv1 rfl rfl ((mcs_rcv hc1).choose_spec)) (his) ?_
      show qg L xs _ qm_161 30 [some (.ref 14), some (.int (nI P.length)), some (.int (nI k)), x3, x4] [.int 0] h1 _
      refine qg_if true rfl (rfl) rfl ?_
      refine qg_pls (n := 1) (k' := 35) (lo' := [some (.ref 14), some (.int (nI P.length)), some (.int (nI k)), x3, x4]) (S' := [.ref 14]) (h' := h1) rfl ?_
      exact qg_callT rfl rfl rfl rfl rfl rfl rfl (ai_rcv1 rfl rfl ((mcs_rcv hc1).choose_spec)) rfl (g2)
    · obtain ⟨h2, g2, hc2⟩ := ms_list (K := mgh K c0 k) ht hex _ _ _ _ _ hc1 z2
      have hc2 : mcs e Y (mgh K c0 k) (p1 ++ P) s2 h2 := hc2
      refine mto_mono (rest s2 h2 hc2 hz) (fun o hg => ?_)
      refine qg_pls (n := 2) (k' := 29) (lo' := [some (.ref 14), some (.int (nI P.length)), some (.int (nI k)), x3, x4]) (S' := [.retAddr 1080, .ref 14]) (h' := h1) rfl ?_
      refine qg_call (v := some (.int 0)) (h' := h1) (as := [.ref 14, .retAddr 1080]) rfl rfl rfl rfl rfl rfl rfl (ai_rcv1 rfl rfl ((mcs_rcv hc1).choose_spec)) (his) ?_
      show qg L xs _ qm_161 30 [some (.ref 14), some (.int (nI P.length)), some (.int (nI k)), x3, x4] [.int 0] h1 _
      refine qg_if true rfl (rfl) rfl ?_
      refine qg_pls (n := 1) (k' := 35) (lo' := [some (.ref 14), some (.int (nI P.length)), some (.int (nI k)), x3, x4]) (S' := [.ref 14]) (h' := h1) rfl ?_
      refine qg_call (v := none) (h' := h2) (as := [.ref 14]) rfl rfl rfl rfl rfl rfl rfl (ai_rcv1 rfl rfl ((mcs_rcv hc1).choose_spec)) (g2) ?_
      show qg L xs _ qm_161 36 [some (.ref 14), some (.int (nI P.length)), some (.int (nI k)), x3, x4] [] h2 _
      exact hg
/-! words that aren't there -/
theorem t_noA (ht : mtk e Y) {base k : Nat} (hc : mcs e Y K W s h) (t : ¬ ztk e s.1 = 37) : ∀ o, qg L xs (d + 9) qm_161 17 [some (.ref 14), some (.int (nI base)), some (.int (nI k)), x3, x4] [] h o → qg L xs (d + 9) qm_161 0 [some (.ref 14), some (.int (nI base)), some (.int (nI k)), x3, x4] [] h o := by
  intro o hg
  refine qg_pls (n := 2) (k' := 2) (lo' := [some (.ref 14), some (.int (nI base)), some (.int (nI k)), x3, x4]) (S' := [.retAddr 1052, .ref 14]) (h' := h) rfl ?_
  refine qg_call (v := some (.int 0)) (h' := h) (as := [.ref 14, .retAddr 1052]) rfl rfl rfl rfl rfl rfl rfl (ai_rcv1 rfl rfl ((mcs_rcv hc).choose_spec)) (m_takes0 (d := d + 1) ht hc (k := 37) (by decide) t) ?_
  show qg L xs _ qm_161 3 [some (.ref 14), some (.int (nI base)), some (.int (nI k)), x3, x4] [.int 0] h _
  refine qg_if true rfl (rfl) rfl ?_
  exact hg
theorem t_noC (ht : mtk e Y) {base k : Nat} (hc : mcs e Y K W s h) (t : ¬ ztk e s.1 = 31) : ∀ o, qg L xs (d + 9) qm_161 44 [some (.ref 14), some (.int (nI base)), some (.int (nI k)), x3, x4] [] h o → qg L xs (d + 9) qm_161 21 [some (.ref 14), some (.int (nI base)), some (.int (nI k)), x3, x4] [] h o := by
  intro o hg
  refine qg_pls (n := 2) (k' := 23) (lo' := [some (.ref 14), some (.int (nI base)), some (.int (nI k)), x3, x4]) (S' := [.retAddr 1046, .ref 14]) (h' := h) rfl ?_
  refine qg_call (v := some (.int 0)) (h' := h) (as := [.ref 14, .retAddr 1046]) rfl rfl rfl rfl rfl rfl rfl (ai_rcv1 rfl rfl ((mcs_rcv hc).choose_spec)) (m_takes0 (d := d + 1) ht hc (k := 31) (by decide) t) ?_
  show qg L xs _ qm_161 24 [some (.ref 14), some (.int (nI base)), some (.int (nI k)), x3, x4] [.int 0] h _
  refine qg_if true rfl (rfl) rfl ?_
  exact hg
theorem t_noE (ht : mtk e Y) {base k : Nat} (hc : mcs e Y K W s h) (t : ¬ ztk e s.1 = 42) : ∀ o, qg L xs (d + 9) qm_161 54 [some (.ref 14), some (.int (nI base)), some (.int (nI k)), x3, x4] [] h o → qg L xs (d + 9) qm_161 50 [some (.ref 14), some (.int (nI base)), some (.int (nI k)), x3, x4] [] h o := by
  intro o hg
  refine qg_pls (n := 2) (k' := 52) (lo' := [some (.ref 14), some (.int (nI base)), some (.int (nI k)), x3, x4]) (S' := [.retAddr 1057, .ref 14]) (h' := h) rfl ?_
  refine qg_call (v := some (.int 0)) (h' := h) (as := [.ref 14, .retAddr 1057]) rfl rfl rfl rfl rfl rfl rfl (ai_rcv1 rfl rfl ((mcs_rcv hc).choose_spec)) (m_takes0 (d := d + 1) ht hc (k := 42) (by decide) t) ?_
  show qg L xs _ qm_161 53 [some (.ref 14), some (.int (nI base)), some (.int (nI k)), x3, x4] [.int 0] h _
  refine qg_if false rfl (rfl) rfl ?_
  exact hg
theorem t_noB (ht : mtk e Y) {base k : Nat} (hc : mcs e Y K W s h) (t : ¬ ztk e s.1 = 49) : ∀ o, qg L xs (d + 9) qm_161 21 [some (.ref 14), some (.int (nI base)), some (.int (nI k)), some (.int 0), x4] [] h o → qg L xs (d + 9) qm_161 17 [some (.ref 14), some (.int (nI base)), some (.int (nI k)), x3, x4] [] h o := by
  intro o hg
  refine qg_pls (n := 2) (k' := 19) (lo' := [some (.ref 14), some (.int (nI base)), some (.int (nI k)), x3, x4]) (S' := [.retAddr 1064, .ref 14]) (h' := h) rfl ?_
  refine qg_call (v := some (.int 0)) (h' := h) (as := [.ref 14, .retAddr 1064]) rfl rfl rfl rfl rfl rfl rfl (ai_rcv1 rfl rfl ((mcs_rcv hc).choose_spec)) (m_takes0 (d := d + 1) ht hc (k := 49) (by decide) t) ?_
  show qg L xs _ qm_161 20 [some (.ref 14), some (.int (nI base)), some (.int (nI k)), x3, x4] [.int 0] h _
  refine qg_pls (n := 1) (k' := 21) (lo' := [some (.ref 14), some (.int (nI base)), some (.int (nI k)), some (.int 0), x4]) (S' := []) (h' := h) rfl ?_
  exact hg
theorem t_noD (ht : mtk e Y) {base k : Nat} (hc : mcs e Y K W s h) (t : ¬ ztk e s.1 = 7) : ∀ o, qg L xs (d + 9) qm_161 50 [some (.ref 14), some (.int (nI base)), some (.int (nI k)), x3, some (.int 0)] [] h o → qg L xs (d + 9) qm_161 44 [some (.ref 14), some (.int (nI base)), some (.int (nI k)), x3, x4] [] h o := by
  intro o hg
  refine qg_pls (n := 2) (k' := 46) (lo' := [some (.ref 14), some (.int (nI base)), some (.int (nI k)), x3, x4]) (S' := [.retAddr 1022, .ref 14]) (h' := h) rfl ?_
  refine qg_call (v := some (.int 0)) (h' := h) (as := [.ref 14, .retAddr 1022]) rfl rfl rfl rfl rfl rfl rfl (ai_rcv1 rfl rfl ((mcs_rcv hc).choose_spec)) (m_takes0 (d := d + 1) ht hc (k := 7) (by decide) t) ?_
  show qg L xs _ qm_161 47 [some (.ref 14), some (.int (nI base)), some (.int (nI k)), x3, x4] [.int 0] h _
  refine qg_pls (n := 2) (k' := 49) (lo' := [some (.ref 14), some (.int (nI base)), some (.int (nI k)), x3, some (.int 0)]) (S' := [.int 0]) (h' := h) rfl ?_
  refine qg_if false rfl (rfl) rfl ?_
  exact hg
/-! words that are there -/
theorem t_yesA {base k : Nat} {fs : List Value} (hob : h.1[14]? = some (ai_obj 5 fs)) (g : qe L xs (d + 9) 137 [.ref 14, .retAddr (qr_en.getD 37 (0, 0)).1] h (.inl (some (.int 1)), h')) : ∀ o, qg L xs (d + 9) qm_161 4 [some (.ref 14), some (.int (nI base)), some (.int (nI k)), x3, x4] [] h' o → qg L xs (d + 9) qm_161 0 [some (.ref 14), some (.int (nI base)), some (.int (nI k)), x3, x4] [] h o := by
  intro o hg
  refine qg_pls (n := 2) (k' := 2) (lo' := [some (.ref 14), some (.int (nI base)), some (.int (nI k)), x3, x4]) (S' := [.retAddr 1052, .ref 14]) (h' := h) rfl ?_
  refine qg_call (v := some (.int 1)) (h' := h') (as := [.ref 14, .retAddr 1052]) rfl rfl rfl rfl rfl rfl rfl (ai_rcv1 rfl rfl hob) (g) ?_
  show qg L xs _ qm_161 3 [some (.ref 14), some (.int (nI base)), some (.int (nI k)), x3, x4] [.int 1] h' _
  refine qg_if false rfl (rfl) rfl ?_
  exact hg
theorem t_yesC {base k : Nat} {fs : List Value} (hob : h.1[14]? = some (ai_obj 5 fs)) (g : qe L xs (d + 9) 137 [.ref 14, .retAddr (qr_en.getD 31 (0, 0)).1] h (.inl (some (.int 1)), h')) : ∀ o, qg L xs (d + 9) qm_161 25 [some (.ref 14), some (.int (nI base)), some (.int (nI k)), x3, x4] [] h' o → qg L xs (d + 9) qm_161 21 [some (.ref 14), some (.int (nI base)), some (.int (nI k)), x3, x4] [] h o := by
  intro o hg
  refine qg_pls (n := 2) (k' := 23) (lo' := [some (.ref 14), some (.int (nI base)), some (.int (nI k)), x3, x4]) (S' := [.retAddr 1046, .ref 14]) (h' := h) rfl ?_
  refine qg_call (v := some (.int 1)) (h' := h') (as := [.ref 14, .retAddr 1046]) rfl rfl rfl rfl rfl rfl rfl (ai_rcv1 rfl rfl hob) (g) ?_
  show qg L xs _ qm_161 24 [some (.ref 14), some (.int (nI base)), some (.int (nI k)), x3, x4] [.int 1] h' _
  refine qg_if false rfl (rfl) rfl ?_
  exact hg
theorem t_yesE {base k : Nat} {fs : List Value} (hob : h.1[14]? = some (ai_obj 5 fs)) (g : qe L xs (d + 9) 137 [.ref 14, .retAddr (qr_en.getD 42 (0, 0)).1] h (.inl (some (.int 1)), h')) : ∀ o, qg L xs (d + 9) qm_161 63 [some (.ref 14), some (.int (nI base)), some (.int (nI k)), x3, x4] [] h' o → qg L xs (d + 9) qm_161 50 [some (.ref 14), some (.int (nI base)), some (.int (nI k)), x3, x4] [] h o := by
  intro o hg
  refine qg_pls (n := 2) (k' := 52) (lo' := [some (.ref 14), some (.int (nI base)), some (.int (nI k)), x3, x4]) (S' := [.retAddr 1057, .ref 14]) (h' := h) rfl ?_
  refine qg_call (v := some (.int 1)) (h' := h') (as := [.ref 14, .retAddr 1057]) rfl rfl rfl rfl rfl rfl rfl (ai_rcv1 rfl rfl hob) (g) ?_
  show qg L xs _ qm_161 53 [some (.ref 14), some (.int (nI base)), some (.int (nI k)), x3, x4] [.int 1] h' _
  refine qg_if true rfl (rfl) rfl ?_
  exact hg
theorem t_yesB {base k : Nat} {fs : List Value} (hob : h.1[14]? = some (ai_obj 5 fs)) (g : qe L xs (d + 9) 137 [.ref 14, .retAddr (qr_en.getD 49 (0, 0)).1] h (.inl (some (.int 1)), h')) : ∀ o, qg L xs (d + 9) qm_161 21 [some (.ref 14), some (.int (nI base)), some (.int (nI k)), some (.int 1), x4] [] h' o → qg L xs (d + 9) qm_161 17 [some (.ref 14), some (.int (nI base)), some (.int (nI k)), x3, x4] [] h o := by
  intro o hg
  refine qg_pls (n := 2) (k' := 19) (lo' := [some (.ref 14), some (.int (nI base)), some (.int (nI k)), x3, x4]) (S' := [.retAddr 1064, .ref 14]) (h' := h) rfl ?_
  refine qg_call (v := some (.int 1)) (h' := h') (as := [.ref 14, .retAddr 1064]) rfl rfl rfl rfl rfl rfl rfl (ai_rcv1 rfl rfl hob) (g) ?_
  show qg L xs _ qm_161 20 [some (.ref 14), some (.int (nI base)), some (.int (nI k)), x3, x4] [.int 1] h' _
  refine qg_pls (n := 1) (k' := 21) (lo' := [some (.ref 14), some (.int (nI base)), some (.int (nI k)), some (.int 1), x4]) (S' := []) (h' := h') rfl ?_
  exact hg
theorem t_yesD {base k : Nat} {fs : List Value} (hob : h.1[14]? = some (ai_obj 5 fs)) (g : qe L xs (d + 9) 137 [.ref 14, .retAddr (qr_en.getD 7 (0, 0)).1] h (.inl (some (.int 1)), h')) : ∀ o, qg L xs (d + 9) qm_161 63 [some (.ref 14), some (.int (nI base)), some (.int (nI k)), x3, some (.int 1)] [] h' o → qg L xs (d + 9) qm_161 44 [some (.ref 14), some (.int (nI base)), some (.int (nI k)), x3, x4] [] h o := by
  intro o hg
  refine qg_pls (n := 2) (k' := 46) (lo' := [some (.ref 14), some (.int (nI base)), some (.int (nI k)), x3, x4]) (S' := [.retAddr 1022, .ref 14]) (h' := h) rfl ?_
  refine qg_call (v := some (.int 1)) (h' := h') (as := [.ref 14, .retAddr 1022]) rfl rfl rfl rfl rfl rfl rfl (ai_rcv1 rfl rfl hob) (g) ?_
  show qg L xs _ qm_161 47 [some (.ref 14), some (.int (nI base)), some (.int (nI k)), x3, x4] [.int 1] h' _
  refine qg_pls (n := 2) (k' := 49) (lo' := [some (.ref 14), some (.int (nI base)), some (.int (nI k)), x3, some (.int 1)]) (S' := [.int 1]) (h' := h') rfl ?_
  refine qg_if true rfl (rfl) rfl ?_
  exact hg
/-- behind NOT, or where none stands: IN, BETWEEN, LIKE, once the bracket is to come -/
theorem t_not (ht : mtk e Y) (hod : mop L xs e Y K (d + 8) 144 pr) {p1 : zK} {l0 c0 k : Nat} (hl : mle K (p1 ++ P) c0) (hm : mso l0 c0 p1) (hex : mim L xs e Y (mgh K c0 k) d 140 [.ref 14] 0 ex) (hqy : mim L xs e Y (mgh K c0 k) (d + 9) 133 [.ref 14] 0 qy) {Gt : Nat → zS → zR Nat} {v : Option Nat} (hc : mcs e Y (mgh K c0 k) (p1 ++ P) s h) (hz : zbd (zci e 31 s) (fun v s => zbd (if v = 0 then zbd (zci e 7 s) (fun v s => if v = 0 then zbd (zcp e 42 s) (fun _ s => zbd (ztest s) fun _ s => zbd (z_sum e pr s) fun _ s => zpop s) else zbd (ztest s) fun _ s => zbd (z_sum e pr s) fun _ s => zbd (zcp e 2 s) fun _ s => zbd (z_sum e pr s) fun _ s => zpop s) else z_members e ex qy s) fun _ s => zbd (zput (zt 1008) s) fun _ s => Gt 4 s) = some (v, s')) : mto e Y K pr p1 P l0 c0 Gt v s' (fun o => qg L xs (d + 9) qm_161 21 [some (.ref 14), some (.int (nI P.length)), some (.int (nI k)), some (.int 1), x4] [] h o) := by
  by_cases t1 : ztk e s.1 = 31
  · rcases zbd_inv hz with ⟨z1, -⟩ | ⟨a1, s1, z1, hz⟩
    · rw [zci_T t1] at z1
      rcases zbd_inv z1 with ⟨z2, -⟩ | ⟨a, s2, -, z3⟩
      · unfold zcp zc at z2
        rw [if_pos t1] at z2
        obtain ⟨x, -⟩ := zkp_inv t1 (by decide) z2; cases x
      · cases z3
    obtain ⟨h1, g1, hc1⟩ := mi_takes (L := L) (xs := xs) (d := d + 1) (K := mgh K c0 k) (k := 31) ht (by decide) (by decide) _ _ _ _ _ hc z1
    have ha : a1 = 1 := by
      rw [zci_T t1] at z1
      rcases zbd_inv z1 with ⟨-, x⟩ | ⟨a, s2, -, z3⟩
      · cases x
      · cases z3; rfl
    subst ha
    rw [if_neg (by decide)] at hz
    have hc1 : mcs e Y (mgh K c0 k) (p1 ++ P) s1 h1 := hc1
    exact mto_mono (t_in ht hl hex hqy hc1 hz) (t_yesC ((mcs_rcv hc).choose_spec) g1)
  · rw [zci_F t1] at hz
    simp only [zbd_some, ↓reduceIte, zbd_zbd] at hz
    refine mto_mono ?_ (t_noC ht hc t1)
    by_cases t2 : ztk e s.1 = 7
    · rcases zbd_inv hz with ⟨z1, -⟩ | ⟨a1, s1, z1, hz⟩
      · rw [zci_T t2] at z1
        rcases zbd_inv z1 with ⟨z2, -⟩ | ⟨a, s2, -, z3⟩
        · unfold zcp zc at z2
          rw [if_pos t2] at z2
          obtain ⟨x, -⟩ := zkp_inv t2 (by decide) z2; cases x
        · cases z3
      obtain ⟨h1, g1, hc1⟩ := mi_takes (L := L) (xs := xs) (d := d + 1) (K := mgh K c0 k) (k := 7) ht (by decide) (by decide) _ _ _ _ _ hc z1
      have ha : a1 = 1 := by
        rw [zci_T t2] at z1
        rcases zbd_inv z1 with ⟨-, x⟩ | ⟨a, s2, -, z3⟩
        · cases x
        · cases z3; rfl
      subst ha
      rw [if_neg (by decide)] at hz
      simp only [zbd_zbd] at hz
      have hc1 : mcs e Y (mgh K c0 k) (p1 ++ P) s1 h1 := hc1
      exact mto_mono (t_park ht hod (r := 9) (b := 1) hc1 hm hz (Or.inr ⟨rfl, rfl, rfl⟩)) (t_yesD ((mcs_rcv hc).choose_spec) g1)
    · rw [zci_F t2] at hz
      simp only [zbd_some, ↓reduceIte, zbd_zbd] at hz
      refine mto_mono ?_ (t_noD ht hc t2)
      by_cases t3 : ztk e s.1 = 42
      · rcases zbd_inv hz with ⟨z1, -⟩ | ⟨a1, s1, z1, hz⟩
        · unfold zcp zc at z1
          rw [if_pos t3] at z1
          obtain ⟨x, -⟩ := zkp_inv t3 (by decide) z1; cases x
        obtain ⟨h1, g1, hc1⟩ := mi_takes (L := L) (xs := xs) (d := d + 1) (K := mgh K c0 k) (k := 42) ht (by decide) (by decide) _ _ _ _ _ hc (show zci e 42 s = some (some 1, s1) by rw [zci_T t3, z1]; rfl)
        have hc1 : mcs e Y (mgh K c0 k) (p1 ++ P) s1 h1 := hc1
        exact mto_mono (t_park ht hod (r := 4) (b := 0) hc1 hm hz (Or.inl ⟨rfl, rfl, rfl⟩)) (t_yesE ((mcs_rcv hc).choose_spec) g1)
      · rw [zcp_no t3] at hz
        simp only [zbd_fault] at hz
        cases hz
        refine mto_mono ?_ (t_noE ht hc t3)
        refine Or.inl ⟨_, ?_, rfl, (mcs_bad hc : mbad e Y (mgh K c0 k) s _)⟩
        refine qg_pls (n := 2) (k' := 56) (lo' := [some (.ref 14), some (.int (nI P.length)), some (.int (nI k)), some (.int 1), some (.int 0)]) (S' := [.int 1, .ref 14]) (h' := h) rfl ?_
        refine qg_if true rfl (rfl) rfl ?_
        refine qg_pls (n := 1) (k' := 60) (lo' := [some (.ref 14), some (.int (nI P.length)), some (.int (nI k)), some (.int 1), some (.int 0)]) (S' := [.int 0, .ref 14]) (h' := h) rfl ?_
        exact qg_callT rfl rfl rfl rfl rfl rfl rfl (ai_rcv1 rfl rfl ((mcs_rcv hc).choose_spec)) rfl (m_need0 (d := d + 8))
/-- QueryReaderModel.test -/
theorem m_test (ht : mtk e Y) (hod : mop L xs e Y K (d + 8) 144 pr) {p1 : zK} {l0 c0 k : Nat} (hl : mle K P l0) (hm : mso l0 c0 p1) (hU : K.2.2.1.length + 1 ≤ 95) (hex : mim L xs e Y (mgh K c0 k) d 140 [.ref 14] 0 ex) (hqy : mim L xs e Y (mgh K c0 k) (d + 9) 133 [.ref 14] 0 qy) {Gt : Nat → zS → zR Nat} {v : Option Nat} (hc0 : mcs0 e Y K (p1 ++ P) s h J bg en md) (hk : k < J.length) (hjo : jo J k = c0) (h4 : znk e s.1 = 4) (hz : zbd (z_test e pr ex qy c0 s) Gt = some (v, s')) : mto e Y K pr p1 P l0 c0 Gt v s' (fun o => qg L xs (d + 9) qm_161 0 [some (.ref 14), some (.int (nI P.length)), some (.int (nI k)), none, none] [] h o) := by
  have hc : mcs e Y K (p1 ++ P) s h := ⟨J, bg, en, md, hc0⟩
  have hl1 : mle K (p1 ++ P) c0 := mle_of hm hl
  have hl2 : mle K (p1 ++ P) (jo J k) := by rw [hjo]; exact hl1
  have hrcv := (mcs_rcv hc).choose_spec
  have hT := (znk_f ht s.1).2.2.2.2.mpr h4
  have hlt := mtk_lt ht s.1
  unfold z_test zq zi zv at hz
  simp only [zbd_zbd, zbd_some] at hz
  rcases zbd_inv hz with ⟨z0, -⟩ | ⟨a0, s0, z0, hz⟩
  · obtain ⟨-, -, x, -⟩ := zopen_inv z0; cases x
  obtain ⟨-, -, -, e0⟩ := zopen_inv z0
  have t0 : s0.1 = s.1 := by rw [e0]
  -- a first token that is a word, and the state behind it
  have first : ∀ kk s1 (w : Option Nat), kk < 82 → ztk e s.1 = kk → (¬ (kk = 82 ∨ kk = 10) ∧ ¬ (kk = 83 ∨ kk = 25)) → zcp e kk s0 = some (w, s1) → w = some 0 ∧ ∃ h1, qe L xs (d + 9) 137 [.ref 14, .retAddr (qr_en.getD kk (0, 0)).1] h (.inl (some (.int 1)), h1) ∧ mcs e Y (mgh K c0 k) (p1 ++ P) s1 h1 := by
    intro kk s1 w hkk t hno z1
    unfold zcp zc at z1
    rw [t0, if_pos t] at z1
    obtain ⟨x, e1⟩ := zkp_inv (by rw [t0]; exact t) hno z1
    obtain ⟨h1, g1, hc1⟩ := m_takes1 (L := L) (xs := xs) (d := d + 1) ht hc0 hk hl2 hU t hkk
    rw [hjo] at hc1
    refine ⟨x, h1, g1, ?_⟩
    rw [e1, e0]
    exact hc1
  have zciF : ∀ kk, ¬ ztk e s.1 = kk → zci e kk s0 = some (some 0, s0) := fun kk t => zci_F (by rw [t0]; exact t)
  have zciT : ∀ kk, ztk e s.1 = kk → zci e kk s0 = zbd (zcp e kk s0) (fun _ s1 => some (some 1, s1)) := fun kk t => zci_T (by rw [t0]; exact t)
  by_cases m4 : zmk e s.1 = 4
  · rw [t0, if_pos m4] at hz
    simp only [zbd_zbd] at hz
    have hn : ¬ (ztk e s.1 = 37 ∨ ztk e s.1 = 49 ∨ ztk e s.1 = 31 ∨ ztk e s.1 = 7 ∨ ztk e s.1 = 42) := by
      intro q
      have := (znk_of ht s.1).2.2.1
      rw [if_pos q] at this
      omega
    obtain ⟨k1, k2, k3, k4, k5⟩ := (znk_of ht s.1).2.2.2.1 (by omega)
    have hcp : ∃ s1, (∃ h1, qe L xs (d + 9) 136 [.ref 14] h (.inl none, h1) ∧ mcs e Y (mgh K c0 k) (p1 ++ P) s1 h1) ∧ zbd (ztest s1) (fun _ s => zbd (z_sum e pr s) fun _ s => zbd (zpop s) fun _ s => zbd (zput (zt 1008) s) fun _ s => Gt 4 s) = some (v, s') := by
      rcases zbd_inv hz with ⟨z1, -⟩ | ⟨a1, s1, z1, hz⟩
      · unfold zcp zc at z1
        rw [t0, if_pos rfl] at z1
        obtain ⟨x, -⟩ := zkp_inv (k := ztk e s.1) (by rw [t0]) ⟨by omega, by omega⟩ z1; cases x
      unfold zcp zc at z1
      rw [t0, if_pos rfl] at z1
      obtain ⟨-, e1⟩ := zkp_inv (k := ztk e s.1) (by rw [t0]) ⟨by omega, by omega⟩ z1
      obtain ⟨h1, g1, hc1⟩ := m_keep1 (L := L) (xs := xs) (d := d + 8) ht hc0 hk hl2 hU rfl k1
      rw [hjo] at hc1
      refine ⟨s1, ⟨h1, g1, ?_⟩, hz⟩
      rw [e1, e0]
      exact hc1
    obtain ⟨s1, ⟨h1, g1, hc1⟩, hz⟩ := hcp
    refine mto_mono (t_park (x3 := some (.int 0)) ht hod (r := 4) (b := 0) hc1 hm hz (Or.inl ⟨rfl, rfl, rfl⟩)) (fun o hg => ?_)
    refine t_noA ht hc (by omega) o (t_noB ht hc (by omega) o (t_noC ht hc (by omega) o (t_noD ht hc (by omega) o (t_noE ht hc (by omega) o ?_))))
    refine qg_pls (n := 2) (k' := 56) (lo' := [some (.ref 14), some (.int (nI P.length)), some (.int (nI k)), some (.int 0), some (.int 0)]) (S' := [.int 0, .ref 14]) (h' := h) rfl ?_
    refine qg_if false rfl (rfl) rfl ?_
    refine qg_pls (n := 2) (k' := 60) (lo' := [some (.ref 14), some (.int (nI P.length)), some (.int (nI k)), some (.int 0), some (.int 0)]) (S' := [.int 1, .ref 14]) (h' := h) rfl ?_
    refine qg_call (v := none) (h' := h) (as := [.ref 14, .int 1]) rfl rfl rfl rfl rfl rfl rfl (ai_rcv1 rfl rfl hrcv) (m_need1 (d := d + 8)) ?_
    show qg L xs _ qm_161 61 [some (.ref 14), some (.int (nI P.length)), some (.int (nI k)), some (.int 0), some (.int 0)] [] h _
    refine qg_pls (n := 1) (k' := 62) (lo' := [some (.ref 14), some (.int (nI P.length)), some (.int (nI k)), some (.int 0), some (.int 0)]) (S' := [.ref 14]) (h' := h) rfl ?_
    refine qg_call (v := none) (h' := h1) (as := [.ref 14]) rfl rfl rfl rfl rfl rfl rfl (ai_rcv1 rfl rfl hrcv) (g1) ?_
    show qg L xs _ qm_161 63 [some (.ref 14), some (.int (nI P.length)), some (.int (nI k)), some (.int 0), some (.int 0)] [] h1 _
    exact hg
  · rw [t0, if_neg m4] at hz
    by_cases t1 : ztk e s.1 = 37
    · rw [zciT 37 t1] at hz
      simp only [zbd_zbd, zbd_some, Nat.one_ne_zero, ↓reduceIte] at hz
      rcases zbd_inv hz with ⟨z1, -⟩ | ⟨a1, s1, z1, hz⟩
      · obtain ⟨x, -⟩ := first 37 s' none (by decide) t1 (by decide) z1; cases x
      obtain ⟨-, h1, g1, hc1⟩ := first 37 s1 _ (by decide) t1 (by decide) z1
      exact mto_mono (t_is ht hl1 hc1 hz) (t_yesA hrcv g1)
    rw [zciF 37 t1] at hz
    simp only [zbd_some, ↓reduceIte] at hz
    by_cases t2 : ztk e s.1 = 49
    · rw [zciT 49 t2] at hz
      simp only [zbd_zbd, zbd_some] at hz
      rcases zbd_inv hz with ⟨z1, -⟩ | ⟨a1, s1, z1, hz⟩
      · obtain ⟨x, -⟩ := first 49 s' none (by decide) t2 (by decide) z1; cases x
      obtain ⟨-, h1, g1, hc1⟩ := first 49 s1 _ (by decide) t2 (by decide) z1
      refine mto_mono (t_not (x4 := none) ht hod hl1 hm hex hqy hc1 ?_) (fun o hg => t_noA ht hc t1 o (t_yesB hrcv g1 o hg))
      try simp only [zbd_zbd]
      exact hz
    rw [zciF 49 t2] at hz
    simp only [zbd_some] at hz
    by_cases t3 : ztk e s.1 = 31
    · rw [zciT 31 t3] at hz
      simp only [zbd_zbd, zbd_some, Nat.one_ne_zero, ↓reduceIte] at hz
      rcases zbd_inv hz with ⟨z1, -⟩ | ⟨a1, s1, z1, hz⟩
      · obtain ⟨x, -⟩ := first 31 s' none (by decide) t3 (by decide) z1; cases x
      obtain ⟨-, h1, g1, hc1⟩ := first 31 s1 _ (by decide) t3 (by decide) z1
      exact mto_mono (t_in (x3 := some (.int 0)) (x4 := none) ht hl1 hex hqy hc1 hz) (fun o hg => t_noA ht hc t1 o (t_noB ht hc t2 o (t_yesC hrcv g1 o hg)))
    rw [zciF 31 t3] at hz
    simp only [zbd_some, ↓reduceIte] at hz
    by_cases t4 : ztk e s.1 = 7
    · rw [zciT 7 t4] at hz
      simp only [zbd_zbd, zbd_some, Nat.one_ne_zero, ↓reduceIte] at hz
      rcases zbd_inv hz with ⟨z1, -⟩ | ⟨a1, s1, z1, hz⟩
      · obtain ⟨x, -⟩ := first 7 s' none (by decide) t4 (by decide) z1; cases x
      obtain ⟨-, h1, g1, hc1⟩ := first 7 s1 _ (by decide) t4 (by decide) z1
      exact mto_mono (t_park (x3 := some (.int 0)) ht hod (r := 9) (b := 1) hc1 hm hz (Or.inr ⟨rfl, rfl, rfl⟩)) (fun o hg => t_noA ht hc t1 o (t_noB ht hc t2 o (t_noC ht hc t3 o (t_yesD hrcv g1 o hg))))
    rw [zciF 7 t4] at hz
    simp only [zbd_some, ↓reduceIte, zbd_zbd] at hz
    have t5 : ztk e s.1 = 42 := by omega
    rcases zbd_inv hz with ⟨z1, -⟩ | ⟨a1, s1, z1, hz⟩
    · obtain ⟨x, -⟩ := first 42 s' none (by decide) t5 (by decide) z1; cases x
    obtain ⟨-, h1, g1, hc1⟩ := first 42 s1 _ (by decide) t5 (by decide) z1
    exact mto_mono (t_park (x3 := some (.int 0)) ht hod (r := 4) (b := 0) hc1 hm hz (Or.inl ⟨rfl, rfl, rfl⟩)) (fun o hg => t_noA ht hc t1 o (t_noB ht hc t2 o (t_noC ht hc t3 o (t_noD ht hc t4 o (t_yesE hrcv g1 o hg)))))
end MTE
