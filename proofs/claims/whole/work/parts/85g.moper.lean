/-! THE MODEL: OPERANDS, EXPRESSIONS AND QUERIES OF ANY DEPTH. (Printed by wip/whole/pp.py from wip/whole/src.) -/
section MOD
variable {L : Nat} {xs : Nat → Int32} {d : Nat} {h h' : ai_H} {e : zE} {Y : Nat → Option ai_C} {K : mK} {W P : zK} {s s' : zS} {ex qy : zP}
/-- K with a mark more -/
abbrev mmk (K : mK) (l k : Nat) : mK := (K.1, K.2.1, K.2.2.1, K.2.2.2.1, K.2.2.2.2.1, (l, k) :: K.2.2.2.2.2)
/-- an atom ends -/
theorem m_atom {l k : Nat} (ht : mtk e Y) (hc : mcs e Y (mmk K l k) P s h) (hl : l < s.2.2.2.2.length) : ∃ h', qg L xs (d + 1) qm_144 89 [some (.ref 14), some (.int (nI k))] [] h (.inl none, h') ∧ mxp e Y K P s h' l 0 := by
  obtain ⟨J, bg, en, md, hc⟩ := hc
  have hfr := mtk_fr ht s.1
  obtain ⟨rf, bf, wr, wf, h5, c6, c7, c8, ⟨⟨cu, cv⟩, c9, c10, c11⟩, c14⟩ := mcs0_5 hc
  obtain ⟨k1, k2⟩ := cv (l, k) (List.mem_cons_self ..)
  have k1 : k ≤ J.length := k1
  have k2 : jo J k = l := k2
  have k3 : k < J.length := by
    rcases Nat.lt_or_ge k J.length with q | q
    · exact q
    · have : k = J.length := by omega
      rw [this, jo_len, ← c6] at k2
      omega
  have hJ : J.length + K.2.1 ≤ 2 * zfr e s.1 := c10.1
  have a5 := m5_14 (o' := mobj K.2.2.2.1 s.1 J.length s.2.1 s.2.2.1 (.int (nI k)) (.int (nI (J.length - 1))) (.int (nI 0)) P.length) h5
  have g : qe L xs (d + 1) 155 [.ref 14, .int (nI k)] h (.inl none, (h.1.set 14 (mobj K.2.2.2.1 s.1 J.length s.2.1 s.2.2.1 (.int (nI k)) (.int (nI (J.length - 1))) (.int (nI 0)) P.length), h.2)) := by
    refine qe_of (M := qm_155) rfl rfl ?_
    show qg L xs _ qm_155 0 [some (.ref 14), some (.int (nI k))] [] h _
    refine qg_pls (n := 2) (k' := 2) (lo' := [some (.ref 14), some (.int (nI k))]) (S' := [.int (nI k), .ref 14]) (h' := h) rfl ?_
    refine qg_putf rfl h5.1 rfl rfl (Nat.le_of_ble_eq_true rfl) rfl ?_
    refine qg_pls (n := 2) (k' := 5) (lo' := [some (.ref 14), some (.int (nI k))]) (S' := [.ref 14, .ref 14]) (h' := (h.1.set 14 (ai_obj 5 [.ref 15, K.2.2.2.1.1, .ref 16, K.2.2.2.1.2.1, .ref 17, K.2.2.2.1.2.2.1, K.2.2.2.1.2.2.2.1, .ref 18, .ref 19, .ref 20, .int (nI s.1), .int (nI J.length), .ref 21, .ref 22, .int (nI s.2.1), .int (nI s.2.2.1), K.2.2.2.1.2.2.2.2.1, K.2.2.2.1.2.2.2.2.2, .int (nI k), en, md, .int (nI P.length), .ref 23, .ref 24, .ref 25]), h.2)) rfl ?_
    refine qg_getf (v := .int (nI J.length)) rfl (q_set h5.1) rfl rfl rfl ?_
    refine qg_pls (n := 2) (k' := 8) (lo' := [some (.ref 14), some (.int (nI k))]) (S' := [.int ((nI J.length) - 1), .ref 14]) (h' := (h.1.set 14 (ai_obj 5 [.ref 15, K.2.2.2.1.1, .ref 16, K.2.2.2.1.2.1, .ref 17, K.2.2.2.1.2.2.1, K.2.2.2.1.2.2.2.1, .ref 18, .ref 19, .ref 20, .int (nI s.1), .int (nI J.length), .ref 21, .ref 22, .int (nI s.2.1), .int (nI s.2.2.1), K.2.2.2.1.2.2.2.2.1, K.2.2.2.1.2.2.2.2.2, .int (nI k), en, md, .int (nI P.length), .ref 23, .ref 24, .ref 25]), h.2)) rfl ?_
    rw [show nI J.length - 1 = nI (J.length - 1) from nI_sub (b := 1) (by omega)]
    refine qg_putf rfl (q_set h5.1) rfl rfl (Nat.le_of_ble_eq_true rfl) rfl ?_
    refine qg_pls (n := 2) (k' := 11) (lo' := [some (.ref 14), some (.int (nI k))]) (S' := [.int 0, .ref 14]) (h' := ((h.1.set 14 (ai_obj 5 [.ref 15, K.2.2.2.1.1, .ref 16, K.2.2.2.1.2.1, .ref 17, K.2.2.2.1.2.2.1, K.2.2.2.1.2.2.2.1, .ref 18, .ref 19, .ref 20, .int (nI s.1), .int (nI J.length), .ref 21, .ref 22, .int (nI s.2.1), .int (nI s.2.2.1), K.2.2.2.1.2.2.2.2.1, K.2.2.2.1.2.2.2.2.2, .int (nI k), en, md, .int (nI P.length), .ref 23, .ref 24, .ref 25])).set 14 (ai_obj 5 [.ref 15, K.2.2.2.1.1, .ref 16, K.2.2.2.1.2.1, .ref 17, K.2.2.2.1.2.2.1, K.2.2.2.1.2.2.2.1, .ref 18, .ref 19, .ref 20, .int (nI s.1), .int (nI J.length), .ref 21, .ref 22, .int (nI s.2.1), .int (nI s.2.2.1), K.2.2.2.1.2.2.2.2.1, K.2.2.2.1.2.2.2.2.2, .int (nI k), .int (nI (J.length - 1)), md, .int (nI P.length), .ref 23, .ref 24, .ref 25]), h.2)) rfl ?_
    refine qg_putf rfl (q_set (q_set h5.1)) rfl rfl (Nat.le_of_ble_eq_true rfl) rfl ?_
    rw [List.set_set, List.set_set]
    exact qg_ret7 rfl
  refine ⟨_, ?_, J, k, mcs0_of a5 c6 c7 c8 ⟨⟨cu, fun m hm => cv m (List.mem_cons_of_mem _ hm)⟩, c9, c10, c11⟩ c14, k3, k2, by decide, (fun q => by cases q)⟩
  refine qg_pls (n := 2) (k' := 91) (lo' := [some (.ref 14), some (.int (nI k))]) (S' := [.int (nI k), .ref 14]) (h' := h) rfl ?_
  refine qg_call (v := none) (h' := (h.1.set 14 (mobj K.2.2.2.1 s.1 J.length s.2.1 s.2.2.1 (.int (nI k)) (.int (nI (J.length - 1))) (.int (nI 0)) P.length), h.2)) (as := [.ref 14, .int (nI k)]) rfl rfl rfl rfl rfl rfl rfl (ai_rcv1 rfl rfl h5.1) (g) ?_
  show qg L xs _ qm_144 92 [some (.ref 14), some (.int (nI k))] [] (h.1.set 14 (mobj K.2.2.2.1 s.1 J.length s.2.1 s.2.2.1 (.int (nI k)) (.int (nI (J.length - 1))) (.int (nI 0)) P.length), h.2) _
  exact qg_ret7 rfl
/-- z_prim, otherwise -/
theorem z_prim_w (hn : ztk e s.1 ≠ 100 ∧ ztk e s.1 ≠ 101 ∧ ztk e s.1 ≠ 50 ∧ ztk e s.1 ≠ 99 ∧ ztk e s.1 ≠ 82) : z_prim e ex qy s = zbd (z_call e ex qy s) fun _ s => some (some 0, s) := by
  unfold z_prim z_call
  rw [if_neg hn.1, if_neg hn.2.1, if_neg hn.2.2.1, if_neg hn.2.2.2.1, if_neg hn.2.2.2.2]
  by_cases t1 : ztk e s.1 = 27
  · rw [if_pos t1, if_pos t1]
    simp only [zq, zv, zbd_zbd]
  · rw [if_neg t1, if_neg t1]
    by_cases t2 : ztk e s.1 = 10
    · rw [if_pos t2, if_pos t2]; rfl
    · rw [if_neg t2, if_neg t2]; rfl
theorem z_call_no (hn : 82 ≤ ztk e s.1) : z_call e ex qy s = some (none, s) := by
  unfold z_call z_fun
  (repeat rw [if_neg (by omega)])
  rfl
theorem zgw_call1 {v : Nat} (hlt : ∀ i, ztk e i < 104) (hex : zgw ex) (hqy : zgw qy) (hz : z_call e ex qy s = some (some v, s')) : s.2.2.2.2.length < s'.2.2.2.2.length := by
  unfold z_call at hz
  by_cases t1 : ztk e s.1 = 27
  · rw [if_pos t1] at hz
    exact zgw_1 (by decide) (zgw_q zgw_cp (zgw_q hqy zgw_cp)) hz
  · rw [if_neg t1] at hz
    by_cases t2 : ztk e s.1 = 10
    · rw [if_pos t2] at hz
      exact zgw_1 (by decide) (zgw_q (zgw_lp (zgw_q zgw_cp (zgw_q hex (zgw_q zgw_cp (zgw_q hex (zgw_c zgw_v zgw_v))))) _) (zgw_q (zgw_i zgw_ci hex zgw_v) zgw_cp)) hz
    · rw [if_neg t2] at hz
      exact zgw_fun1 hlt hex hz
/-- a bracket more is open; the next token -/
theorem mcs0_up (ht : mtk e Y) {J : List zJ} {bg en md : Value} (hc : mcs0 e Y K P s h J bg en md) (hk : ztk e s.1 < 102) {o' m' : Nat} (ho : o' ≤ 40) (hm : m' ≤ 40) : mcs0 e Y K P (s.1 + 1, o', m', s.2.2.2) ((h.1.set 14 (mobj K.2.2.2.1 s.1 J.length o' m' bg en md P.length)).set 14 (mobj K.2.2.2.1 (s.1 + 1) J.length o' m' bg en md P.length), h.2) J bg en md := by
  obtain ⟨n1, n2, n3⟩ := mtk_next ht hk
  have h1 := mcs0_open (o' := o') (m' := m') hc ho hm
  exact mcs0_next (K := K) (c' := K.1) (g' := K.2.1) ht h1 hk (by omega) (by omega)
theorem mcs0_dn (ht : mtk e Y) {J : List zJ} {bg en md : Value} (hc : mcs0 e Y K P s h J bg en md) (hk : ztk e s.1 < 102) {o' : Nat} (ho : o' ≤ 40) : mcs0 e Y K P (s.1 + 1, o', s.2.2) ((h.1.set 14 (mobj K.2.2.2.1 (s.1 + 1) J.length s.2.1 s.2.2.1 bg en md P.length)).set 14 (mobj K.2.2.2.1 (s.1 + 1) J.length o' s.2.2.1 bg en md P.length), h.2) J bg en md := by
  obtain ⟨n1, n2, n3⟩ := mtk_next ht hk
  have h1 := mcs0_next (K := K) (c' := K.1) (g' := K.2.1) ht hc hk (by omega) (by omega)
  have hm : s.2.2.1 ≤ 40 := (mcs_bd ⟨J, bg, en, md, hc⟩).2.2.1
  exact mcs0_open (s := (s.1 + 1, s.2)) (o' := o') (m' := s.2.2.1) h1 ho hm
/-- QueryReaderModel.operand -/
theorem m_operand (ht : mtk e Y) (hexg : zgw ex) (hqyg : zgw qy) (hex : mop L xs e Y K (d + 8) 140 ex) (hcall : ∀ l k, mim L xs e Y (mmk K l k) (d + 8) 146 [.ref 14] 0 (z_call e ex qy)) : mop L xs e Y K (d + 9) 144 (z_prim e ex qy) := by
  intro P s h v s' hc hz
  have hp := mcs_prot hc
  have hb := mcs_bd hc
  have hlt := mtk_lt ht s.1
  have hzc := zcode_cases hlt
  obtain ⟨fk, t7, t9, t10⟩ := mtk_so ht
  obtain ⟨J, bg, en, md, hc0⟩ := id hc
  have hob := mcs0_ob hc0
  have hls : s.2.2.2.2.length = jo J J.length := by
    obtain ⟨rf, bf, wr, wf, h5, c6, -⟩ := mcs0_5 hc0
    rw [jo_len, c6]
  have hc1 : mcs e Y (mmk K s.2.2.2.2.length J.length) P s h := by
    obtain ⟨rf, bf, wr, wf, h5, c6, c7, c8, ⟨⟨cu, cv⟩, c9, c10, c11⟩, c14⟩ := mcs0_5 hc0
    refine ⟨J, bg, en, md, mcs0_of h5 c6 c7 c8 ⟨⟨cu, fun m hm => ?_⟩, c9, c10, c11⟩ c14⟩
    rcases List.mem_cons.mp hm with rfl | hm
    · exact ⟨Nat.le_refl _, hls.symm⟩
    · exact cv m hm
  have his := m_isMark (L := L) (xs := xs) (d := d + 1) ht hc (k := 82) (by decide)
  by_cases tO : ztk e s.1 = 82
  · -- ( expression )
    rw [if_pos tO] at his
    have hz : zbd (zsk e 82 s) (fun _ s => zbd (ex s) fun ma s => zbd (zsk e 83 s) fun _ s => some (some ma, s)) = some (v, s') := by
      unfold z_prim at hz
      rw [if_neg (by omega), if_neg (by omega), if_neg (by omega), if_neg (by omega), if_pos tO] at hz
      exact hz
    have zs1 : zsk e 82 s = zbd (zrise s) fun _ s => znext s := by
      unfold zsk zc zstep
      rw [if_pos tO, if_pos (Or.inl tO)]; rfl
    rw [zs1, zbd_zbd] at hz
    rcases zbd_inv hz with ⟨z1, rfl⟩ | ⟨a1, s1, z1, hz⟩
    · rcases zrise_inv z1 with ⟨-, e1, h40⟩ | ⟨-, q, -⟩
      · refine ⟨_, ?_, by rw [e1]; exact mcs_bad hc⟩
        refine qe_of (M := qm_144) rfl rfl ?_
        show qg L xs _ qm_144 0 [some (.ref 14), none] [] h _
        refine qg_pls (n := 1) (k' := 1) (lo' := [some (.ref 14), none]) (S' := [.ref 14]) (h' := h) rfl ?_
        refine qg_getf (v := .int (nI J.length)) rfl hob rfl rfl rfl ?_
        refine qg_pls (n := 3) (k' := 5) (lo' := [some (.ref 14), some (.int (nI J.length))]) (S' := [.retAddr 1005, .ref 14]) (h' := h) rfl ?_
        refine qg_call (v := some (.int 1)) (h' := h) (as := [.ref 14, .retAddr 1005]) rfl rfl rfl rfl rfl rfl rfl (ai_rcv1 rfl rfl hob) (his) ?_
        show qg L xs _ qm_144 6 [some (.ref 14), some (.int (nI J.length))] [.int 1] h _
        refine qg_if false rfl (rfl) rfl ?_
        refine qg_pls (n := 1) (k' := 8) (lo' := [some (.ref 14), some (.int (nI J.length))]) (S' := [.ref 14]) (h' := h) rfl ?_
        exact qg_callT rfl rfl rfl rfl rfl rfl rfl (ai_rcv1 rfl rfl hob) rfl (m_opens0 (d := d + 6) hc0 h40)
      · cases q
    rcases zrise_inv z1 with ⟨q, -⟩ | ⟨h40, -, e1⟩
    · cases q
    rcases zbd_inv hz with ⟨z2, -⟩ | ⟨a2, s2, z2, hz⟩
    · obtain ⟨-, q, -⟩ := znext_inv z2; cases q
    obtain ⟨-, -, e2⟩ := znext_inv z2
    have e2 : s2 = (s.1 + 1, s.2.1 + 1, max s.2.2.1 (s.2.1 + 1), s.2.2.2) := by rw [e2, e1]
    have hc2 := mcs0_up ht hc0 (by omega) (o' := s.2.1 + 1) (m' := max s.2.2.1 (s.2.1 + 1)) (by omega) (by omega)
    have hc2' : mcs e Y K P s2 ((h.1.set 14 (mobj K.2.2.2.1 s.1 J.length (s.2.1 + 1) (max s.2.2.1 (s.2.1 + 1)) bg en md P.length)).set 14 (mobj K.2.2.2.1 (s.1 + 1) J.length (s.2.1 + 1) (max s.2.2.1 (s.2.1 + 1)) bg en md P.length), h.2) := by
      rw [e2]; exact ⟨J, bg, en, md, hc2⟩
    have road : ∀ o, qg L xs (d + 8) qm_144 15 [some (.ref 14), some (.int (nI J.length))] [] ((h.1.set 14 (mobj K.2.2.2.1 s.1 J.length (s.2.1 + 1) (max s.2.2.1 (s.2.1 + 1)) bg en md P.length)).set 14 (mobj K.2.2.2.1 (s.1 + 1) J.length (s.2.1 + 1) (max s.2.2.1 (s.2.1 + 1)) bg en md P.length), h.2) o → qe L xs (d + 9) 144 [.ref 14] h o := by
      intro o hg
      have o1 := mcs0_ob (mcs0_open (o' := s.2.1 + 1) (m' := max s.2.2.1 (s.2.1 + 1)) hc0 (by omega) (by omega))
      refine qe_of (M := qm_144) rfl rfl ?_
      show qg L xs _ qm_144 0 [some (.ref 14), none] [] h _
      refine qg_pls (n := 1) (k' := 1) (lo' := [some (.ref 14), none]) (S' := [.ref 14]) (h' := h) rfl ?_
      refine qg_getf (v := .int (nI J.length)) rfl hob rfl rfl rfl ?_
      refine qg_pls (n := 3) (k' := 5) (lo' := [some (.ref 14), some (.int (nI J.length))]) (S' := [.retAddr 1005, .ref 14]) (h' := h) rfl ?_
      refine qg_call (v := some (.int 1)) (h' := h) (as := [.ref 14, .retAddr 1005]) rfl rfl rfl rfl rfl rfl rfl (ai_rcv1 rfl rfl hob) (his) ?_
      show qg L xs _ qm_144 6 [some (.ref 14), some (.int (nI J.length))] [.int 1] h _
      refine qg_if false rfl (rfl) rfl ?_
      refine qg_pls (n := 1) (k' := 8) (lo' := [some (.ref 14), some (.int (nI J.length))]) (S' := [.ref 14]) (h' := h) rfl ?_
      refine qg_call (v := none) (h' := (h.1.set 14 (mobj K.2.2.2.1 s.1 J.length (s.2.1 + 1) (max s.2.2.1 (s.2.1 + 1)) bg en md P.length), h.2)) (as := [.ref 14]) rfl rfl rfl rfl rfl rfl rfl (ai_rcv1 rfl rfl hob) (m_opens (d := d + 6) hc0 h40) ?_
      show qg L xs _ qm_144 9 [some (.ref 14), some (.int (nI J.length))] [] (h.1.set 14 (mobj K.2.2.2.1 s.1 J.length (s.2.1 + 1) (max s.2.2.1 (s.2.1 + 1)) bg en md P.length), h.2) _
      refine qg_pls (n := 2) (k' := 11) (lo' := [some (.ref 14), some (.int (nI J.length))]) (S' := [.ref 14, .ref 14]) (h' := (h.1.set 14 (mobj K.2.2.2.1 s.1 J.length (s.2.1 + 1) (max s.2.2.1 (s.2.1 + 1)) bg en md P.length), h.2)) rfl ?_
      refine qg_getf (v := .int (nI (s.1, s.2.1 + 1, max s.2.2.1 (s.2.1 + 1), s.2.2.2).1)) rfl o1 rfl rfl rfl ?_
      refine qg_pls (n := 2) (k' := 14) (lo' := [some (.ref 14), some (.int (nI J.length))]) (S' := [.int ((nI (s.1, s.2.1 + 1, max s.2.2.1 (s.2.1 + 1), s.2.2.2).1) + 1), .ref 14]) (h' := (h.1.set 14 (mobj K.2.2.2.1 s.1 J.length (s.2.1 + 1) (max s.2.2.1 (s.2.1 + 1)) bg en md P.length), h.2)) rfl ?_
      rw [show nI s.1 + 1 = nI (s.1 + 1) from nI_1 _]
      refine qg_putf rfl o1 rfl rfl (Nat.le_of_ble_eq_true rfl) rfl ?_
      exact hg
    have hpl : s2.2.2.2.2.length = s.2.2.2.2.length := by rw [e2]
    rcases zbd_inv hz with ⟨z3, rfl⟩ | ⟨ma, s3, z3, hz⟩
    · obtain ⟨h3, g3, hb3⟩ := hex _ _ _ _ _ hc2' z3
      refine ⟨h3, road _ ?_, hb3⟩
      refine qg_pls (n := 1) (k' := 16) (lo' := [some (.ref 14), some (.int (nI J.length))]) (S' := [.ref 14]) (h' := ((h.1.set 14 (mobj K.2.2.2.1 s.1 J.length (s.2.1 + 1) (max s.2.2.1 (s.2.1 + 1)) bg en md P.length)).set 14 (mobj K.2.2.2.1 (s.1 + 1) J.length (s.2.1 + 1) (max s.2.2.1 (s.2.1 + 1)) bg en md P.length), h.2)) rfl ?_
      exact qg_callT rfl rfl rfl rfl rfl rfl rfl (ai_rcv1 rfl rfl (mcs0_ob hc2)) rfl (g3)
    obtain ⟨h3, g3, hx3⟩ := hex _ _ _ _ _ hc2' z3
    have hx3 : mxp e Y K P s3 h3 s2.2.2.2.2.length ma := hx3
    have hc3 := mxp_mcs hx3
    have hb3 := mcs_bd hc3
    have his3 := m_isMark (L := L) (xs := xs) (d := d + 1) ht hc3 (k := 83) (by decide)
    have road2 : ∀ o, qg L xs (d + 8) qm_144 17 [some (.ref 14), some (.int (nI J.length))] [] h3 o → qe L xs (d + 9) 144 [.ref 14] h o := by
      intro o hg
      refine road o ?_
      refine qg_pls (n := 1) (k' := 16) (lo' := [some (.ref 14), some (.int (nI J.length))]) (S' := [.ref 14]) (h' := ((h.1.set 14 (mobj K.2.2.2.1 s.1 J.length (s.2.1 + 1) (max s.2.2.1 (s.2.1 + 1)) bg en md P.length)).set 14 (mobj K.2.2.2.1 (s.1 + 1) J.length (s.2.1 + 1) (max s.2.2.1 (s.2.1 + 1)) bg en md P.length), h.2)) rfl ?_
      refine qg_call (v := none) (h' := h3) (as := [.ref 14]) rfl rfl rfl rfl rfl rfl rfl (ai_rcv1 rfl rfl (mcs0_ob hc2)) (g3) ?_
      show qg L xs _ qm_144 17 [some (.ref 14), some (.int (nI J.length))] [] h3 _
      exact hg
    by_cases tC : ztk e s3.1 = 83
    · rw [if_pos tC] at his3
      have zs2 : zsk e 83 s3 = zbd (zdown s3) fun _ s => znext s := by
        unfold zsk zc zstep
        rw [if_pos tC, if_neg (by omega), if_pos (Or.inl tC)]; rfl
      rw [zs2, zbd_zbd] at hz
      rcases zbd_inv hz with ⟨z4, -⟩ | ⟨a4, s4, z4, hz⟩
      · obtain ⟨-, q, -⟩ := zdown_inv z4; cases q
      obtain ⟨ho, -, e4⟩ := zdown_inv z4
      rcases zbd_inv hz with ⟨z5, -⟩ | ⟨a5, s5, z5, hz⟩
      · obtain ⟨-, q, -⟩ := znext_inv z5; cases q
      obtain ⟨-, -, e5⟩ := znext_inv z5
      cases hz
      have e5 : s' = (s3.1 + 1, s3.2.1 - 1, s3.2.2) := by rw [e5, e4]
      obtain ⟨J3, k3, hc30, hk3, hj3, hm3, hbr⟩ := hx3
      have hc5 := mcs0_dn ht hc30 (by omega) (o' := s3.2.1 - 1) (by omega)
      rw [← e5] at hc5
      have o3 := mcs0_ob hc30
      refine ⟨_, road2 _ ?_, J3, k3, hc5, hk3, by rw [hj3, hpl], hm3, by rw [← hpl]; exact hbr⟩
      refine qg_pls (n := 3) (k' := 20) (lo' := [some (.ref 14), some (.int (nI J.length))]) (S' := [.retAddr 1008, .ref 14, .ref 14]) (h' := h3) rfl ?_
      refine qg_call (v := some (.int 1)) (h' := h3) (as := [.ref 14, .retAddr 1008]) rfl rfl rfl rfl rfl rfl rfl (ai_rcv1 rfl rfl o3) (his3) ?_
      show qg L xs _ qm_144 21 [some (.ref 14), some (.int (nI J.length))] [.int 1, .ref 14] h3 _
      refine qg_call (v := none) (h' := h3) (as := [.ref 14, .int 1]) rfl rfl rfl rfl rfl rfl rfl (ai_rcv1 rfl rfl o3) (m_need1 (d := d + 7)) ?_
      show qg L xs _ qm_144 22 [some (.ref 14), some (.int (nI J.length))] [] h3 _
      refine qg_pls (n := 2) (k' := 24) (lo' := [some (.ref 14), some (.int (nI J.length))]) (S' := [.ref 14, .ref 14]) (h' := h3) rfl ?_
      refine qg_getf (v := .int (nI s3.1)) rfl o3 rfl rfl rfl ?_
      refine qg_pls (n := 2) (k' := 27) (lo' := [some (.ref 14), some (.int (nI J.length))]) (S' := [.int ((nI s3.1) + 1), .ref 14]) (h' := h3) rfl ?_
      rw [show nI s3.1 + 1 = nI (s3.1 + 1) from nI_1 _]
      refine qg_putf rfl o3 rfl rfl (Nat.le_of_ble_eq_true rfl) rfl ?_
      refine qg_pls (n := 2) (k' := 30) (lo' := [some (.ref 14), some (.int (nI J.length))]) (S' := [.ref 14, .ref 14]) (h' := (h3.1.set 14 (ai_obj 5 [.ref 15, K.2.2.2.1.1, .ref 16, K.2.2.2.1.2.1, .ref 17, K.2.2.2.1.2.2.1, K.2.2.2.1.2.2.2.1, .ref 18, .ref 19, .ref 20, .int (nI (s3.1 + 1)), .int (nI J3.length), .ref 21, .ref 22, .int (nI s3.2.1), .int (nI s3.2.2.1), K.2.2.2.1.2.2.2.2.1, K.2.2.2.1.2.2.2.2.2, .int (nI k3), .int (nI (J3.length - 1)), .int (nI ma), .int (nI P.length), .ref 23, .ref 24, .ref 25]), h3.2)) rfl ?_
      refine qg_getf (v := .int (nI s3.2.1)) rfl (q_set o3) rfl rfl rfl ?_
      refine qg_pls (n := 2) (k' := 33) (lo' := [some (.ref 14), some (.int (nI J.length))]) (S' := [.int ((nI s3.2.1) - 1), .ref 14]) (h' := (h3.1.set 14 (ai_obj 5 [.ref 15, K.2.2.2.1.1, .ref 16, K.2.2.2.1.2.1, .ref 17, K.2.2.2.1.2.2.1, K.2.2.2.1.2.2.2.1, .ref 18, .ref 19, .ref 20, .int (nI (s3.1 + 1)), .int (nI J3.length), .ref 21, .ref 22, .int (nI s3.2.1), .int (nI s3.2.2.1), K.2.2.2.1.2.2.2.2.1, K.2.2.2.1.2.2.2.2.2, .int (nI k3), .int (nI (J3.length - 1)), .int (nI ma), .int (nI P.length), .ref 23, .ref 24, .ref 25]), h3.2)) rfl ?_
      rw [show nI s3.2.1 - 1 = nI (s3.2.1 - 1) from nI_sub (b := 1) (by omega)]
      refine qg_putf rfl (q_set o3) rfl rfl (Nat.le_of_ble_eq_true rfl) rfl ?_
      exact qg_ret7 rfl
    · rw [if_neg tC] at his3
      have zs2 : zsk e 83 s3 = some (none, s3) := by
        unfold zsk zc
        rw [if_neg tC]; rfl
      rw [zs2] at hz
      cases hz
      refine ⟨_, road2 _ ?_, mcs_bad hc3⟩
      refine qg_pls (n := 3) (k' := 20) (lo' := [some (.ref 14), some (.int (nI J.length))]) (S' := [.retAddr 1008, .ref 14, .ref 14]) (h' := h3) rfl ?_
      refine qg_call (v := some (.int 0)) (h' := h3) (as := [.ref 14, .retAddr 1008]) rfl rfl rfl rfl rfl rfl rfl (ai_rcv1 rfl rfl ((mcs_rcv hc3).choose_spec)) (his3) ?_
      show qg L xs _ qm_144 21 [some (.ref 14), some (.int (nI J.length))] [.int 0, .ref 14] h3 _
      exact qg_callT rfl rfl rfl rfl rfl rfl rfl (ai_rcv1 rfl rfl ((mcs_rcv hc3).choose_spec)) rfl (m_need0 (d := d + 7))
  · rw [if_neg tO] at his
    have r35 : ∀ o, qg L xs (d + 8) qm_144 41 [some (.ref 14), some (.int (nI J.length))] [.int 2, .int (nI (zcode (ztk e s.1)))] h o → qe L xs (d + 9) 144 [.ref 14] h o := by
      intro o hg
      refine qe_of (M := qm_144) rfl rfl ?_
      show qg L xs _ qm_144 0 [some (.ref 14), none] [] h _
      refine qg_pls (n := 1) (k' := 1) (lo' := [some (.ref 14), none]) (S' := [.ref 14]) (h' := h) rfl ?_
      refine qg_getf (v := .int (nI J.length)) rfl hob rfl rfl rfl ?_
      refine qg_pls (n := 3) (k' := 5) (lo' := [some (.ref 14), some (.int (nI J.length))]) (S' := [.retAddr 1005, .ref 14]) (h' := h) rfl ?_
      refine qg_call (v := some (.int 0)) (h' := h) (as := [.ref 14, .retAddr 1005]) rfl rfl rfl rfl rfl rfl rfl (ai_rcv1 rfl rfl hob) (his) ?_
      show qg L xs _ qm_144 6 [some (.ref 14), some (.int (nI J.length))] [.int 0] h _
      refine qg_if true rfl (rfl) rfl ?_
      refine qg_pls (n := 1) (k' := 36) (lo' := [some (.ref 14), some (.int (nI J.length))]) (S' := [.ref 14]) (h' := h) rfl ?_
      refine qg_getf (v := .ref 19) rfl hob rfl rfl rfl ?_
      refine qg_pls (n := 1) (k' := 38) (lo' := [some (.ref 14), some (.int (nI J.length))]) (S' := [.ref 14, .ref 19]) (h' := h) rfl ?_
      refine qg_getf (v := .int (nI s.1)) rfl hob rfl rfl rfl ?_
      refine qg_ald rfl (fun _ _ _ => rfl) (hp _ _ t7) (by omega) (by decide) ?_
      rw [t9 _ hb.1]
      refine qg_pls (n := 1) (k' := 41) (lo' := [some (.ref 14), some (.int (nI J.length))]) (S' := [.int 2, .int (nI (zcode (ztk e s.1)))]) (h' := h) rfl ?_
      exact hg
    -- a token that is kept as it is, and the state behind it
    have kx : ztk e s.1 < 102 → ∃ h2, qe L xs (d + 8) 136 [.ref 14] h (.inl none, h2) ∧ mcs e Y (mmk K s.2.2.2.2.length J.length) P (s.1 + 1, s.2.1, s.2.2.1, s.2.2.2.1, s.2.2.2.2 ++ zit e s.1 ++ [32]) h2 := fun hk => m_keepx (L := L) (xs := xs) (d := d + 7) ht hc1 hk
    have grow : s.2.2.2.2.length < (s.2.2.2.2 ++ zit e s.1 ++ [32]).length := by
      rw [List.length_append, List.length_append]
      have : [(32 : Int32)].length = 1 := rfl
      omega
    by_cases tA : ztk e s.1 = 99
    · obtain ⟨h2, g2, hc2⟩ := kx (by omega)
      have hz : zbd (znm e s) (fun _ s => zbd (zci e 85 s) fun v s => if v = 0 then some (some 0, s) else zbd (znm e s) fun _ s => some (some 0, s)) = some (v, s') := by
        unfold z_prim at hz
        rw [if_neg (by omega), if_neg (by omega), if_neg (by omega), if_pos tA] at hz
        exact hz
      rcases zbd_inv hz with ⟨z1, -⟩ | ⟨a1, s1, z1, hz⟩
      · unfold znm zc at z1
        rw [if_pos tA] at z1
        obtain ⟨q, -⟩ := zkp_inv tA (by decide) z1; cases q
      unfold znm zc at z1
      rw [if_pos tA] at z1
      obtain ⟨-, e1⟩ := zkp_inv tA (by decide) z1
      have zn : zit e s.1 = (zsl e s.1).map zsm := by
        unfold zit
        rw [tA, if_neg (by decide), if_pos rfl]
      rw [zn] at hc2 grow
      rw [← e1] at hc2
      have grow : s.2.2.2.2.length < s1.2.2.2.2.length := by rw [e1]; exact grow
      have hisD := m_isMark (L := L) (xs := xs) (d := d + 1) ht hc2 (k := 85) (by decide)
      have r47 : ∀ (b : Nat) o, qe L xs (d + 8) 138 [.ref 14, .retAddr (qr_en.getD 85 (0, 0)).1] h2 (.inl (some (.int (nI b))), h2) → qg L xs (d + 8) qm_144 47 [some (.ref 14), some (.int (nI J.length))] [.int (nI b)] h2 o → qe L xs (d + 9) 144 [.ref 14] h o := by
        intro b o hq hg
        refine r35 o ?_
        refine qg_icmp false rfl (qc_neF (b := 2) (hzc.2.2.1.mpr tA)) rfl ?_
        refine qg_pls (n := 1) (k' := 43) (lo' := [some (.ref 14), some (.int (nI J.length))]) (S' := [.ref 14]) (h' := h) rfl ?_
        refine qg_call (v := none) (h' := h2) (as := [.ref 14]) rfl rfl rfl rfl rfl rfl rfl (ai_rcv1 rfl rfl hob) (g2) ?_
        show qg L xs _ qm_144 44 [some (.ref 14), some (.int (nI J.length))] [] h2 _
        refine qg_pls (n := 2) (k' := 46) (lo' := [some (.ref 14), some (.int (nI J.length))]) (S' := [.retAddr 1098, .ref 14]) (h' := h2) rfl ?_
        refine qg_call (v := some (.int (nI b))) (h' := h2) (as := [.ref 14, .retAddr 1098]) rfl rfl rfl rfl rfl rfl rfl (ai_rcv1 rfl rfl ((mcs_rcv hc2).choose_spec)) (hq) ?_
        show qg L xs _ qm_144 47 [some (.ref 14), some (.int (nI J.length))] [.int (nI b)] h2 _
        exact hg
      by_cases tD : ztk e s1.1 = 85
      · rw [if_pos tD] at hisD
        rw [zci_T tD] at hz
        simp only [zbd_zbd, zbd_some, Nat.one_ne_zero, ↓reduceIte] at hz
        rcases zbd_inv hz with ⟨z2, -⟩ | ⟨a2, s2, z2, hz⟩
        · unfold zcp zc at z2
          rw [if_pos tD] at z2
          obtain ⟨q, -⟩ := zkp_inv tD (by decide) z2; cases q
        unfold zcp zc at z2
        rw [if_pos tD] at z2
        obtain ⟨-, e2⟩ := zkp_inv tD (by decide) z2
        obtain ⟨h3, g3, hc3⟩ := m_keepw (L := L) (xs := xs) (d := d + 7) ht hc2 tD (by decide)
        rw [← e2] at hc3
        have road : ∀ o, qg L xs (d + 8) qm_144 50 [some (.ref 14), some (.int (nI J.length))] [] h3 o → qe L xs (d + 9) 144 [.ref 14] h o := by
          intro o hg
          refine r47 1 o hisD ?_
          refine qg_if false rfl (rfl) rfl ?_
          refine qg_pls (n := 1) (k' := 49) (lo' := [some (.ref 14), some (.int (nI J.length))]) (S' := [.ref 14]) (h' := h2) rfl ?_
          refine qg_call (v := none) (h' := h3) (as := [.ref 14]) rfl rfl rfl rfl rfl rfl rfl (ai_rcv1 rfl rfl ((mcs_rcv hc2).choose_spec)) (g3) ?_
          show qg L xs _ qm_144 50 [some (.ref 14), some (.int (nI J.length))] [] h3 _
          exact hg
        rcases zbd_inv hz with ⟨z3, rfl⟩ | ⟨a3, s3, z3, hz⟩
        · obtain ⟨h4, g4, hb4⟩ := mi_name (L := L) (xs := xs) (d := d + 6) ht _ _ _ _ _ hc3 z3
          refine ⟨h4, road _ ?_, hb4⟩
          refine qg_pls (n := 2) (k' := 52) (lo' := [some (.ref 14), some (.int (nI J.length))]) (S' := [.int 2, .ref 14]) (h' := h3) rfl ?_
          exact qg_callT rfl rfl rfl rfl rfl rfl rfl (ai_rcv1 rfl rfl ((mcs_rcv hc3).choose_spec)) rfl (g4)
        · obtain ⟨h4, g4, hc4⟩ := mi_name (L := L) (xs := xs) (d := d + 6) ht _ _ _ _ _ hc3 z3
          have hc4 : mcs e Y (mmk K s.2.2.2.2.length J.length) P s3 h4 := hc4
          cases hz
          have gz : s1.2.2.2.2.length ≤ s'.2.2.2.2.length := by
            have a := zgw_nm _ _ _ z3
            rw [e2] at a
            have a : (s1.2.2.2.2 ++ zw 85 ++ [32]).length ≤ s'.2.2.2.2.length := a
            rw [List.length_append, List.length_append] at a
            omega
          obtain ⟨h5, g5, hx5⟩ := m_atom (L := L) (xs := xs) (d := d + 7) ht hc4 (by omega)
          refine ⟨h5, road _ ?_, hx5⟩
          refine qg_pls (n := 2) (k' := 52) (lo' := [some (.ref 14), some (.int (nI J.length))]) (S' := [.int 2, .ref 14]) (h' := h3) rfl ?_
          refine qg_call (v := none) (h' := h4) (as := [.ref 14, .int 2]) rfl rfl rfl rfl rfl rfl rfl (ai_rcv1 rfl rfl ((mcs_rcv hc3).choose_spec)) (g4) ?_
          show qg L xs _ qm_144 53 [some (.ref 14), some (.int (nI J.length))] [] h4 _
          refine qg_pls (n := 1) (k' := 89) (lo' := [some (.ref 14), some (.int (nI J.length))]) (S' := []) (h' := h4) rfl ?_
          exact g5
      · rw [if_neg tD] at hisD
        rw [zci_F tD] at hz
        simp only [zbd_some, ↓reduceIte] at hz
        cases hz
        obtain ⟨h5, g5, hx5⟩ := m_atom (L := L) (xs := xs) (d := d + 7) ht hc2 grow
        refine ⟨h5, r47 0 _ hisD ?_, hx5⟩
        refine qg_if true rfl (rfl) rfl ?_
        exact g5
    have r54 : ∀ o, qg L xs (d + 8) qm_144 60 [some (.ref 14), some (.int (nI J.length))] [.int 3, .int (nI (zcode (ztk e s.1)))] h o → qe L xs (d + 9) 144 [.ref 14] h o := by
      intro o hg
      refine r35 o ?_
      refine qg_icmp true rfl (qc_neT (b := 2) (fun q => tA (hzc.2.2.1.mp q)) (by omega) (by decide)) rfl ?_
      refine qg_pls (n := 1) (k' := 55) (lo' := [some (.ref 14), some (.int (nI J.length))]) (S' := [.ref 14]) (h' := h) rfl ?_
      refine qg_getf (v := .ref 19) rfl hob rfl rfl rfl ?_
      refine qg_pls (n := 1) (k' := 57) (lo' := [some (.ref 14), some (.int (nI J.length))]) (S' := [.ref 14, .ref 19]) (h' := h) rfl ?_
      refine qg_getf (v := .int (nI s.1)) rfl hob rfl rfl rfl ?_
      refine qg_ald rfl (fun _ _ _ => rfl) (hp _ _ t7) (by omega) (by decide) ?_
      rw [t9 _ hb.1]
      refine qg_pls (n := 1) (k' := 60) (lo' := [some (.ref 14), some (.int (nI J.length))]) (S' := [.int 3, .int (nI (zcode (ztk e s.1)))]) (h' := h) rfl ?_
      exact hg
    have r61 : ¬ ztk e s.1 = 100 → ∀ o, qg L xs (d + 8) qm_144 67 [some (.ref 14), some (.int (nI J.length))] [.int 4, .int (nI (zcode (ztk e s.1)))] h o → qe L xs (d + 9) 144 [.ref 14] h o := by
      intro tn o hg
      refine r54 o ?_
      refine qg_icmp false rfl (qc_eqF (b := 3) (fun q => tn (hzc.2.2.2.1.mp q)) (by omega) (by decide)) rfl ?_
      refine qg_pls (n := 1) (k' := 62) (lo' := [some (.ref 14), some (.int (nI J.length))]) (S' := [.ref 14]) (h' := h) rfl ?_
      refine qg_getf (v := .ref 19) rfl hob rfl rfl rfl ?_
      refine qg_pls (n := 1) (k' := 64) (lo' := [some (.ref 14), some (.int (nI J.length))]) (S' := [.ref 14, .ref 19]) (h' := h) rfl ?_
      refine qg_getf (v := .int (nI s.1)) rfl hob rfl rfl rfl ?_
      refine qg_ald rfl (fun _ _ _ => rfl) (hp _ _ t7) (by omega) (by decide) ?_
      rw [t9 _ hb.1]
      refine qg_pls (n := 1) (k' := 67) (lo' := [some (.ref 14), some (.int (nI J.length))]) (S' := [.int 4, .int (nI (zcode (ztk e s.1)))]) (h' := h) rfl ?_
      exact hg
    by_cases tN : ztk e s.1 = 100
    · obtain ⟨h2, g2, hc2⟩ := kx (by omega)
      have hz : zbd (znu e s) (fun _ s => some (some 0, s)) = some (v, s') := by
        unfold z_prim at hz
        rw [if_pos tN] at hz
        exact hz
      rcases zbd_inv hz with ⟨z1, -⟩ | ⟨a1, s1, z1, hz⟩
      · unfold znu zc at z1
        rw [if_pos tN] at z1
        obtain ⟨q, -⟩ := zkp_inv tN (by decide) z1; cases q
      unfold znu zc at z1
      rw [if_pos tN] at z1
      obtain ⟨-, e1⟩ := zkp_inv tN (by decide) z1
      cases hz
      rw [zit_n tN] at hc2 grow
      rw [← e1] at hc2
      obtain ⟨h5, g5, hx5⟩ := m_atom (L := L) (xs := xs) (d := d + 7) ht hc2 (by rw [e1]; exact grow)
      refine ⟨h5, r54 _ ?_, hx5⟩
      refine qg_icmp true rfl (qc_eqT (b := 3) (hzc.2.2.2.1.mpr tN)) rfl ?_
      refine qg_pls (n := 1) (k' := 69) (lo' := [some (.ref 14), some (.int (nI J.length))]) (S' := [.ref 14]) (h' := h) rfl ?_
      refine qg_call (v := none) (h' := h2) (as := [.ref 14]) rfl rfl rfl rfl rfl rfl rfl (ai_rcv1 rfl rfl hob) (g2) ?_
      show qg L xs _ qm_144 70 [some (.ref 14), some (.int (nI J.length))] [] h2 _
      refine qg_pls (n := 1) (k' := 89) (lo' := [some (.ref 14), some (.int (nI J.length))]) (S' := []) (h' := h2) rfl ?_
      exact g5
    by_cases tS : ztk e s.1 = 101
    · obtain ⟨h2, g2, hc2⟩ := kx (by omega)
      have hz : zbd (zst e s) (fun _ s => some (some 0, s)) = some (v, s') := by
        unfold z_prim at hz
        rw [if_neg tN, if_pos tS] at hz
        exact hz
      rcases zbd_inv hz with ⟨z1, -⟩ | ⟨a1, s1, z1, hz⟩
      · obtain ⟨q, -⟩ := zkp_inv tS (by decide) z1; cases q
      obtain ⟨-, e1⟩ := zkp_inv tS (by decide) z1
      cases hz
      rw [zit_s tS] at hc2 grow
      rw [← e1] at hc2
      obtain ⟨h5, g5, hx5⟩ := m_atom (L := L) (xs := xs) (d := d + 7) ht hc2 (by rw [e1]; exact grow)
      refine ⟨h5, r61 tN _ ?_, hx5⟩
      refine qg_icmp false rfl (qc_neF (b := 4) (hzc.2.2.2.2.1.mpr tS)) rfl ?_
      refine qg_pls (n := 1) (k' := 69) (lo' := [some (.ref 14), some (.int (nI J.length))]) (S' := [.ref 14]) (h' := h) rfl ?_
      refine qg_call (v := none) (h' := h2) (as := [.ref 14]) rfl rfl rfl rfl rfl rfl rfl (ai_rcv1 rfl rfl hob) (g2) ?_
      show qg L xs _ qm_144 70 [some (.ref 14), some (.int (nI J.length))] [] h2 _
      refine qg_pls (n := 1) (k' := 89) (lo' := [some (.ref 14), some (.int (nI J.length))]) (S' := []) (h' := h2) rfl ?_
      exact g5
    have r71 : ∀ o, qg L xs (d + 8) qm_144 71 [some (.ref 14), some (.int (nI J.length))] [] h o → qe L xs (d + 9) 144 [.ref 14] h o := by
      intro o hg
      refine r61 tN o ?_
      refine qg_icmp true rfl (qc_neT (b := 4) (fun q => tS (hzc.2.2.2.2.1.mp q)) (by omega) (by decide)) rfl ?_
      exact hg
    by_cases tU : ztk e s.1 = 50
    · have hz : zbd (zcp e 50 s) (fun _ s => some (some 0, s)) = some (v, s') := by
        unfold z_prim at hz
        rw [if_neg tN, if_neg tS, if_pos tU] at hz
        exact hz
      rcases zbd_inv hz with ⟨z1, -⟩ | ⟨a1, s1, z1, hz⟩
      · unfold zcp zc at z1
        rw [if_pos tU] at z1
        obtain ⟨q, -⟩ := zkp_inv tU (by decide) z1; cases q
      have gr := zcp_g (zw_pos (by decide)) z1
      obtain ⟨h2, g2, hc2⟩ := mi_takes (L := L) (xs := xs) (d := d) (k := 50) ht (by decide) (by decide) _ _ _ _ _ hc1 (show zci e 50 s = some (some 1, s1) by rw [zci_T tU, z1]; rfl)
      have hc2 : mcs e Y (mmk K s.2.2.2.2.length J.length) P s1 h2 := hc2
      cases hz
      obtain ⟨h5, g5, hx5⟩ := m_atom (L := L) (xs := xs) (d := d + 7) ht hc2 (by omega)
      refine ⟨h5, r71 _ ?_, hx5⟩
      refine qg_pls (n := 2) (k' := 73) (lo' := [some (.ref 14), some (.int (nI J.length))]) (S' := [.retAddr 1065, .ref 14]) (h' := h) rfl ?_
      refine qg_call (v := some (.int 1)) (h' := h2) (as := [.ref 14, .retAddr 1065]) rfl rfl rfl rfl rfl rfl rfl (ai_rcv1 rfl rfl hob) (g2) ?_
      show qg L xs _ qm_144 74 [some (.ref 14), some (.int (nI J.length))] [.int 1] h2 _
      refine qg_if true rfl (rfl) rfl ?_
      exact g5
    have tk0 := m_takes0 (L := L) (xs := xs) (d := d) ht hc (k := 50) (by decide) tU
    have r82 : ∀ o, qg L xs (d + 8) qm_144 82 [some (.ref 14), some (.int (nI J.length))] [.int 1, .int (nI (zcode (ztk e s.1))), .ref 14] h o → qe L xs (d + 9) 144 [.ref 14] h o := by
      intro o hg
      refine r71 o ?_
      refine qg_pls (n := 2) (k' := 73) (lo' := [some (.ref 14), some (.int (nI J.length))]) (S' := [.retAddr 1065, .ref 14]) (h' := h) rfl ?_
      refine qg_call (v := some (.int 0)) (h' := h) (as := [.ref 14, .retAddr 1065]) rfl rfl rfl rfl rfl rfl rfl (ai_rcv1 rfl rfl hob) (tk0) ?_
      show qg L xs _ qm_144 74 [some (.ref 14), some (.int (nI J.length))] [.int 0] h _
      refine qg_if false rfl (rfl) rfl ?_
      refine qg_pls (n := 2) (k' := 77) (lo' := [some (.ref 14), some (.int (nI J.length))]) (S' := [.ref 14, .ref 14]) (h' := h) rfl ?_
      refine qg_getf (v := .ref 19) rfl hob rfl rfl rfl ?_
      refine qg_pls (n := 1) (k' := 79) (lo' := [some (.ref 14), some (.int (nI J.length))]) (S' := [.ref 14, .ref 19, .ref 14]) (h' := h) rfl ?_
      refine qg_getf (v := .int (nI s.1)) rfl hob rfl rfl rfl ?_
      refine qg_ald rfl (fun _ _ _ => rfl) (hp _ _ t7) (by omega) (by decide) ?_
      rw [t9 _ hb.1]
      refine qg_pls (n := 1) (k' := 82) (lo' := [some (.ref 14), some (.int (nI J.length))]) (S' := [.int 1, .int (nI (zcode (ztk e s.1))), .ref 14]) (h' := h) rfl ?_
      exact hg
    rw [z_prim_w ⟨tN, tS, tU, tA, tO⟩] at hz
    by_cases tW : ztk e s.1 < 82
    · have road : ∀ o, qg L xs (d + 8) qm_144 88 [some (.ref 14), some (.int (nI J.length))] [.ref 14] h o → qe L xs (d + 9) 144 [.ref 14] h o := by
        intro o hg
        refine r82 o ?_
        refine qg_icmp false rfl (qc_neF (b := 1) (hzc.1.mpr tW)) rfl ?_
        refine qg_pls (n := 2) (k' := 86) (lo' := [some (.ref 14), some (.int (nI J.length))]) (S' := [.int 1, .ref 14]) (h' := h) rfl ?_
        refine qg_call (v := none) (h' := h) (as := [.ref 14, .int 1]) rfl rfl rfl rfl rfl rfl rfl (ai_rcv1 rfl rfl hob) (m_need1 (d := d + 7)) ?_
        show qg L xs _ qm_144 87 [some (.ref 14), some (.int (nI J.length))] [] h _
        refine qg_pls (n := 1) (k' := 88) (lo' := [some (.ref 14), some (.int (nI J.length))]) (S' := [.ref 14]) (h' := h) rfl ?_
        exact hg
      rcases zbd_inv hz with ⟨z1, rfl⟩ | ⟨a1, s1, z1, hz⟩
      · obtain ⟨h2, g2, hb2⟩ := hcall _ _ _ _ _ _ _ hc1 z1
        refine ⟨h2, road _ ?_, hb2⟩
        exact qg_callT rfl rfl rfl rfl rfl rfl rfl (ai_rcv1 rfl rfl hob) rfl (g2)
      · obtain ⟨h2, g2, hc2⟩ := hcall _ _ _ _ _ _ _ hc1 z1
        have hc2 : mcs e Y (mmk K s.2.2.2.2.length J.length) P s1 h2 := hc2
        have gr := zgw_call1 (fun i => mtk_lt ht i) hexg hqyg z1
        cases hz
        obtain ⟨h5, g5, hx5⟩ := m_atom (L := L) (xs := xs) (d := d + 7) ht hc2 gr
        refine ⟨h5, road _ ?_, hx5⟩
        refine qg_call (v := none) (h' := h2) (as := [.ref 14]) rfl rfl rfl rfl rfl rfl rfl (ai_rcv1 rfl rfl hob) (g2) ?_
        show qg L xs _ qm_144 89 [some (.ref 14), some (.int (nI J.length))] [] h2 _
        exact g5
    · rw [z_call_no (by omega)] at hz
      cases hz
      refine ⟨_, r82 _ ?_, mcs_bad hc⟩
      refine qg_icmp true rfl (qc_neT (b := 1) (fun q => tW (hzc.1.mp q)) (by omega) (by decide)) rfl ?_
      refine qg_pls (n := 1) (k' := 86) (lo' := [some (.ref 14), some (.int (nI J.length))]) (S' := [.int 0, .ref 14]) (h' := h) rfl ?_
      exact qg_callT rfl rfl rfl rfl rfl rfl rfl (ai_rcv1 rfl rfl hob) rfl (m_need0 (d := d + 7))
/-- expressions and queries, in each other at most n deep, ghosts U -/
theorem m_sp (ht : mtk e Y) : ∀ n (K : mK), K.2.2.1.length + n ≤ 91 → (mop L xs e Y K (d + 16 * n) 140 (zsp e n true)) ∧ mim L xs e Y K (d + 16 * n) 133 [.ref 14] 0 (zsp e n false) := by
  intro n
  induction n with
  | zero => intro K hK; exact ⟨(fun P s h v s' hc hz => by cases hz), (fun P s h v s' hc hz => by cases hz)⟩
  | succ n ih =>
    intro K hK
    have hlt : ∀ i, ztk e i < 104 := fun i => mtk_lt ht i
    have i1 := fun K' (hK' : K'.2.2.1.length + n ≤ 91) => (ih K' hK').1
    have i2 := fun K' (hK' : K'.2.2.1.length + n ≤ 91) => (ih K' hK').2
    have hcall : ∀ l k, mim L xs e Y (mmk K l k) (d + 16 * n + 11) 146 [.ref 14] 0 (z_call e (zsp e n true) (zsp e n false)) := fun l k => ms_call ht (mop_mim (i1 (mmk K l k) (by show K.2.2.1.length + n ≤ 91; omega))) (mim_up (i2 (mmk K l k) (by show K.2.2.1.length + n ≤ 91; omega)) (by omega))
    have hod : mop L xs e Y K (d + 16 * n + 4 + 8) 144 (z_prim e (zsp e n true) (zsp e n false)) := m_operand (d := d + 16 * n + 3) ht (zsp_g hlt n true) (zsp_g hlt n false) (mop_up (i1 K (by omega)) (by omega)) (fun l k => mim_up (hcall l k) (by omega))
    refine ⟨?_, ?_⟩
    · exact mop_up (m_expr (d := d + 16 * n + 4) ht hod (by omega) (fun c k => mim_up (mop_mim (i1 (mgh K c k) (by show K.2.2.1.length + 1 + n ≤ 91; omega))) (by omega)) (fun c k => mim_up (i2 (mgh K c k) (by show K.2.2.1.length + 1 + n ≤ 91; omega)) (by omega))) (by omega)
    · exact mim_up (ms_query (d := d + 16 * n) ht (mop_mim (i1 K (by omega))) (ms_item (d := d + 16 * n) ht (mop_mim (i1 K (by omega))))) (by omega)
end MOD
