/-! THE MODEL: ITEMS OF A QUERY. (Printed by wip/whole/pp.py from wip/whole/src.) -/
section MIT
variable {L : Nat} {xs : Nat → Int32} {d : Nat} {h h' : ai_H} {e : zE} {Y : Nat → Option ai_C} {K : mK} {W P : zK} {s s' : zS} {ex qy : zP}
theorem zfst0 : (List.range 99).all (fun k => decide (k < 82 ∨ ∃ a : Fin 128, (a.1 < 65 ∨ 90 < a.1) ∧ (a.1 < 97 ∨ 122 < a.1) ∧ (zw k).getD 0 0 = nI a.1 ∧ (a.1 = 46 ↔ k = 85) ∧ (a.1 = 42 ↔ k = 89) ∧ 0 < (zw k).length)) = true := by decide +kernel
/-- the first byte of a mark -/
theorem m_first (ht : mtk e Y) {i : Nat} (h1 : 82 ≤ ztk e i) (h2 : ztk e i < 99) : ∃ ft f1 a, Y 17 = some (ai_num .byte 65536 ft) ∧ Y 18 = some (ai_num .int 65538 f1) ∧ f1 i = nI (zfr e i) ∧ zfr e i < 65536 ∧ ft (zfr e i) = nI a ∧ a < 128 ∧ (a = 46 ↔ ztk e i = 85) ∧ (a = 42 ↔ ztk e i = 89) := by
  obtain ⟨n1, n2, n3⟩ := mtk_next ht (show ztk e i < 102 by omega)
  obtain ⟨gw, ft, f1, fk, fz, t1, t2, t3, t4, t5, t6, t7, t8, t9, t10, t11⟩ := ht
  have hup : zup e.2 (zfr e i) (zto e i) = zw (ztk e i) := by
    have := zen_up (t := e.2) (i := i) (by rw [← t11]; exact h2)
    rw [← t11] at this
    exact this
  have hto : zto e i ≤ e.2.length := by
    have := (zen_ft (t := e.2) i).2
    rw [← t11] at this
    exact this
  rcases of_decide_eq_true (List.all_eq_true.mp zfst0 (ztk e i) (List.mem_range.mpr h2)) with q | ⟨⟨a, ha⟩, q1, q2, q3, q4, q5, q6⟩
  · omega
  dsimp only at q1 q2 q3 q4 q5
  have hg : zgreat (e.2.getD (zfr e i) 0 &&& 255) = nI a := by
    have u0 := zup_at (t := e.2) (f := zfr e i) (z := zto e i) (i := 0) hto (by omega)
    rw [hup, drop_cons (x := 0) q6] at u0
    simp only [Nat.add_zero] at u0
    rw [← q3, (List.cons.inj u0).1, zat_lt (by omega)]
  have hb : zb (e.2.getD (zfr e i) 0) = e.2.getD (zfr e i) 0 := t10 _ (by
    rw [List.getD_eq_getElem?_getD, List.getElem?_eq_getElem (by omega)]
    exact List.getElem_mem (by omega))
  obtain ⟨m, hm, em⟩ := z255a (e.2.getD (zfr e i) 0)
  rw [em, of_decide_eq_true (List.all_eq_true.mp zgr0 m (List.mem_range.mpr hm))] at hg
  have g1 : (if 97 ≤ m ∧ m ≤ 122 then m - 32 else m) = a := (nI_eq (by split <;> omega) (by omega)).mp hg
  have ma : m = a := by
    split at g1 <;> omega
  have eb : e.2.getD (zfr e i) 0 = nI a := by
    rcases (zsmall_n hm).2 with q | q
    · omega
    · rw [← zb_and hb, em, q, ma]
  exact ⟨ft, f1, a, t3, t6, (t9 i (by omega)).1, by omega, by rw [t5 _ (by omega)]; exact eb, ha, q4, q5⟩
theorem ms_item (ht : mtk e Y) (hex : mim L xs e Y K d 140 [.ref 14] 0 ex) : mim L xs e Y K (d + 10) 139 [.ref 14] 0 (z_item e ex) := by
  intro P s h v s' hc hf
  have hp := mcs_prot hc
  have hb := mcs_bd hc
  obtain ⟨kept, bg, en, md, hob⟩ := mcs_obj hc
  obtain ⟨fk, t7, t9, t10⟩ := mtk_so ht
  have hzc := fun i => zcode_cases (mtk_lt ht i)
  have rest : msm L xs e Y K (d + 9) qm_139 51 [some (.ref 14), none] [] h 0 P (zbd (ex s) fun _ s => z_alias e s) := by
    refine msm_pls (n := 3) (k' := 54) (lo' := [some (.ref 14), some (.int 0)]) (S' := [.int 0]) (h' := h) rfl ?_
    refine msm_if true rfl (rfl) rfl ?_
    refine msm_pls (n := 1) (k' := 63) (lo' := [some (.ref 14), some (.int 0)]) (S' := [.ref 14]) (h' := h) rfl ?_
    first
      | refine msm_call hc (mim_up (hex) (by omega)) rfl rfl rfl rfl rfl rfl rfl rfl (ai_rcv1 rfl rfl (mcs_rcv hc).choose_spec) (fun v1 s1 h1 f1 hc1 => ?_)
      | refine msm_callL hc (mim_up (hex) (by omega)) rfl rfl rfl rfl rfl rfl rfl rfl (ai_rcv1 rfl rfl (mcs_rcv hc).choose_spec) (fun v1 s1 h1 f1 hc1 => ?_)
    show msm L xs e Y K _ qm_139 64 [some (.ref 14), some (.int 0)] [] h1 _ _ _
    try simp only [zq, zi, zc, zv, zf, zci_eq, zsi_eq, zsk_eq, zbd_zbd, zbd_some, zbd_fault, zbd_none, zite0, zite1, ↓reduceIte, Nat.one_ne_zero, Nat.reduceEqDiff]
    refine msm_pls (n := 1) (k' := 65) (lo' := [some (.ref 14), some (.int 0)]) (S' := [.ref 14]) (h' := h1) rfl ?_
    first
      | refine msm_call hc1 (mim_up (ms_alias (d := d) ht) (by omega)) rfl rfl rfl rfl rfl rfl rfl rfl (ai_rcv1 rfl rfl (mcs_rcv hc1).choose_spec) (fun v2 s2 h2 f2 hc2 => ?_)
      | refine msm_callL hc1 (mim_up (ms_alias (d := d) ht) (by omega)) rfl rfl rfl rfl rfl rfl rfl rfl (ai_rcv1 rfl rfl (mcs_rcv hc1).choose_spec) (fun v2 s2 h2 f2 hc2 => ?_)
    show msm L xs e Y K _ qm_139 66 [some (.ref 14), some (.int 0)] [] h2 _ _ _
    try simp only [zq, zi, zc, zv, zf, zci_eq, zsi_eq, zsk_eq, zbd_zbd, zbd_some, zbd_fault, zbd_none, zite0, zite1, ↓reduceIte, Nat.one_ne_zero, Nat.reduceEqDiff]
    exact msm_ret7 hc2 rfl
  have no : zq ex (z_alias e) s = some (v, s') → (∀ o, qg L xs (d + 9) qm_139 51 [some (.ref 14), none] [] h o → qg L xs (d + 9) qm_139 0 [some (.ref 14), none] [] h o) → ∃ h', qe L xs (d + 10) 139 [.ref 14] h (qout 0 v, h') ∧ mpost e Y K P v s' h' := by
    intro hz road
    obtain ⟨h1, g1, g2⟩ := rest v s' hz
    exact ⟨h1, qe_of (M := qm_139) rfl rfl (road _ g1), g2⟩
  have r0 : ∀ o, qg L xs (d + 9) qm_139 6 [some (.ref 14), none] [.int 2, .int (nI (zcode (ztk e s.1)))] h o → qg L xs (d + 9) qm_139 0 [some (.ref 14), none] [] h o := by
    intro o hg
    refine qg_pls (n := 1) (k' := 1) (lo' := [some (.ref 14), none]) (S' := [.ref 14]) (h' := h) rfl ?_
    refine qg_getf (v := .ref 19) rfl hob rfl rfl rfl ?_
    refine qg_pls (n := 1) (k' := 3) (lo' := [some (.ref 14), none]) (S' := [.ref 14, .ref 19]) (h' := h) rfl ?_
    refine qg_getf (v := .int (nI s.1)) rfl hob rfl rfl rfl ?_
    refine qg_ald rfl (fun _ _ _ => rfl) (hp _ _ t7) (by omega) (by decide) ?_
    rw [t9 _ hb.1]
    refine qg_pls (n := 1) (k' := 6) (lo' := [some (.ref 14), none]) (S' := [.int 2, .int (nI (zcode (ztk e s.1)))]) (h' := h) rfl ?_
    exact hg
  unfold z_item at hf
  by_cases tA : ztk e s.1 = 99
  · rw [if_pos tA] at hf
    obtain ⟨n1, -, -⟩ := mtk_next ht (show ztk e s.1 < 102 by omega)
    have z1 := hzc (s.1 + 1)
    have r1 : ∀ o, qg L xs (d + 9) qm_139 15 [some (.ref 14), none] [.int 5, .int (nI (zcode (ztk e (s.1 + 1))))] h o → qg L xs (d + 9) qm_139 0 [some (.ref 14), none] [] h o := by
      intro o hg
      refine r0 o ?_
      refine qg_icmp false rfl (qc_neF (b := 2) ((hzc s.1).2.2.1.mpr tA)) rfl ?_
      refine qg_pls (n := 1) (k' := 8) (lo' := [some (.ref 14), none]) (S' := [.ref 14]) (h' := h) rfl ?_
      refine qg_getf (v := .ref 19) rfl hob rfl rfl rfl ?_
      refine qg_pls (n := 1) (k' := 10) (lo' := [some (.ref 14), none]) (S' := [.ref 14, .ref 19]) (h' := h) rfl ?_
      refine qg_getf (v := .int (nI s.1)) rfl hob rfl rfl rfl ?_
      refine qg_pls (n := 2) (k' := 13) (lo' := [some (.ref 14), none]) (S' := [.int ((nI s.1) + 1), .ref 19]) (h' := h) rfl ?_
      rw [show nI s.1 + 1 = nI (s.1 + 1) from nI_1 _]
      refine qg_ald rfl (fun _ _ _ => rfl) (hp _ _ t7) (by omega) (by decide) ?_
      rw [t9 _ n1]
      refine qg_pls (n := 1) (k' := 15) (lo' := [some (.ref 14), none]) (S' := [.int 5, .int (nI (zcode (ztk e (s.1 + 1))))]) (h' := h) rfl ?_
      exact hg
    by_cases tM : 82 ≤ ztk e (s.1 + 1) ∧ ztk e (s.1 + 1) < 99
    · obtain ⟨ft, f1, a, y17, y18, w1, w2, w3, w4, w5, w6⟩ := m_first ht tM.1 tM.2
      have r2 : ∀ o, qg L xs (d + 9) qm_139 27 [some (.ref 14), none] [.int 46, .int (nI a)] h o → qg L xs (d + 9) qm_139 0 [some (.ref 14), none] [] h o := by
        intro o hg
        refine r1 o ?_
        refine qg_icmp false rfl (qc_neF (b := 5) (z1.2.1.mpr tM)) rfl ?_
        refine qg_pls (n := 1) (k' := 17) (lo' := [some (.ref 14), none]) (S' := [.ref 14]) (h' := h) rfl ?_
        refine qg_getf (v := .ref 17) rfl hob rfl rfl rfl ?_
        refine qg_pls (n := 1) (k' := 19) (lo' := [some (.ref 14), none]) (S' := [.ref 14, .ref 17]) (h' := h) rfl ?_
        refine qg_getf (v := .ref 18) rfl hob rfl rfl rfl ?_
        refine qg_pls (n := 1) (k' := 21) (lo' := [some (.ref 14), none]) (S' := [.ref 14, .ref 18, .ref 17]) (h' := h) rfl ?_
        refine qg_getf (v := .int (nI s.1)) rfl hob rfl rfl rfl ?_
        refine qg_pls (n := 2) (k' := 24) (lo' := [some (.ref 14), none]) (S' := [.int ((nI s.1) + 1), .ref 18, .ref 17]) (h' := h) rfl ?_
        rw [show nI s.1 + 1 = nI (s.1 + 1) from nI_1 _]
        refine qg_ald rfl (fun _ _ _ => rfl) (hp _ _ y18) (by omega) (by decide) ?_
        rw [w1]
        refine qg_ald rfl (fun _ _ _ => rfl) (hp _ _ y17) (by omega) (by decide) ?_
        rw [w3]
        refine qg_pls (n := 1) (k' := 27) (lo' := [some (.ref 14), none]) (S' := [.int 46, .int (nI a)]) (h' := h) rfl ?_
        exact hg
      by_cases tB : ztk e (s.1 + 1) = 85
      · rw [if_pos tB] at hf
        obtain ⟨n2, -, -⟩ := mtk_next ht (show ztk e (s.1 + 1) < 102 by omega)
        have z2 := hzc (s.1 + 2)
        have r3 : ∀ o, qg L xs (d + 9) qm_139 36 [some (.ref 14), none] [.int 5, .int (nI (zcode (ztk e (s.1 + 2))))] h o → qg L xs (d + 9) qm_139 0 [some (.ref 14), none] [] h o := by
          intro o hg
          refine r2 o ?_
          refine qg_icmp false rfl (qc_neF (b := 46) (w5.mpr tB)) rfl ?_
          refine qg_pls (n := 1) (k' := 29) (lo' := [some (.ref 14), none]) (S' := [.ref 14]) (h' := h) rfl ?_
          refine qg_getf (v := .ref 19) rfl hob rfl rfl rfl ?_
          refine qg_pls (n := 1) (k' := 31) (lo' := [some (.ref 14), none]) (S' := [.ref 14, .ref 19]) (h' := h) rfl ?_
          refine qg_getf (v := .int (nI s.1)) rfl hob rfl rfl rfl ?_
          refine qg_pls (n := 2) (k' := 34) (lo' := [some (.ref 14), none]) (S' := [.int ((nI s.1) + 2), .ref 19]) (h' := h) rfl ?_
          rw [show nI s.1 + 2 = nI (s.1 + 2) from nI_add _ 2]
          refine qg_ald rfl (fun _ _ _ => rfl) (hp _ _ t7) (by omega) (by decide) ?_
          rw [t9 _ n2]
          refine qg_pls (n := 1) (k' := 36) (lo' := [some (.ref 14), none]) (S' := [.int 5, .int (nI (zcode (ztk e (s.1 + 2))))]) (h' := h) rfl ?_
          exact hg
        by_cases tN : 82 ≤ ztk e (s.1 + 2) ∧ ztk e (s.1 + 2) < 99
        · obtain ⟨ft2, f2, a2, x17, x18, v1, v2, v3, v4, v5, v6⟩ := m_first ht tN.1 tN.2
          have r4 : ∀ o, qg L xs (d + 9) qm_139 48 [some (.ref 14), none] [.int 42, .int (nI a2)] h o → qg L xs (d + 9) qm_139 0 [some (.ref 14), none] [] h o := by
            intro o hg
            refine r3 o ?_
            refine qg_icmp false rfl (qc_neF (b := 5) (z2.2.1.mpr tN)) rfl ?_
            refine qg_pls (n := 1) (k' := 38) (lo' := [some (.ref 14), none]) (S' := [.ref 14]) (h' := h) rfl ?_
            refine qg_getf (v := .ref 17) rfl hob rfl rfl rfl ?_
            refine qg_pls (n := 1) (k' := 40) (lo' := [some (.ref 14), none]) (S' := [.ref 14, .ref 17]) (h' := h) rfl ?_
            refine qg_getf (v := .ref 18) rfl hob rfl rfl rfl ?_
            refine qg_pls (n := 1) (k' := 42) (lo' := [some (.ref 14), none]) (S' := [.ref 14, .ref 18, .ref 17]) (h' := h) rfl ?_
            refine qg_getf (v := .int (nI s.1)) rfl hob rfl rfl rfl ?_
            refine qg_pls (n := 2) (k' := 45) (lo' := [some (.ref 14), none]) (S' := [.int ((nI s.1) + 2), .ref 18, .ref 17]) (h' := h) rfl ?_
            rw [show nI s.1 + 2 = nI (s.1 + 2) from nI_add _ 2]
            refine qg_ald rfl (fun _ _ _ => rfl) (hp _ _ x18) (by omega) (by decide) ?_
            rw [v1]
            refine qg_ald rfl (fun _ _ _ => rfl) (hp _ _ x17) (by omega) (by decide) ?_
            rw [v3]
            refine qg_pls (n := 1) (k' := 48) (lo' := [some (.ref 14), none]) (S' := [.int 42, .int (nI a2)]) (h' := h) rfl ?_
            exact hg
          by_cases tC : ztk e (s.1 + 2) = 89
          · rw [if_pos tC] at hf
            obtain ⟨ha, ga, hca⟩ := m_keepx (L := L) (xs := xs) (d := d + 8) ht hc (by omega)
            obtain ⟨hb', gb, hcb⟩ := m_keepw (L := L) (xs := xs) (d := d + 8) ht hca (k := 85) tB (by decide)
            obtain ⟨hc', gc, hcc⟩ := m_keepw (L := L) (xs := xs) (d := d + 8) ht hcb (k := 89) tC (by decide)
            have zn : zit e s.1 = (zsl e s.1).map zsm := by
              unfold zit
              rw [tA, if_neg (by decide), if_pos rfl]
            rcases zbd_inv hf with ⟨q1, -⟩ | ⟨b1, s1, q1, hf⟩
            · unfold znm zc at q1
              rw [if_pos tA] at q1
              obtain ⟨q, -⟩ := zkp_inv tA (by decide) q1; cases q
            unfold znm zc at q1
            rw [if_pos tA] at q1
            obtain ⟨-, e1⟩ := zkp_inv tA (by decide) q1
            have tB1 : ztk e s1.1 = 85 := by rw [e1]; exact tB
            rcases zbd_inv hf with ⟨q2, -⟩ | ⟨b2, s2, q2, hf⟩
            · unfold zcp zc at q2
              rw [if_pos tB1] at q2
              obtain ⟨q, -⟩ := zkp_inv tB1 (by decide) q2; cases q
            unfold zcp zc at q2
            rw [if_pos tB1] at q2
            obtain ⟨-, e2⟩ := zkp_inv tB1 (by decide) q2
            have tC2 : ztk e s2.1 = 89 := by rw [e2, e1]; exact tC
            unfold zcp zc at hf
            rw [if_pos tC2] at hf
            obtain ⟨rfl, e3⟩ := zkp_inv tC2 (by decide) hf
            refine ⟨hc', ?_, ?_⟩
            · refine qe_of (M := qm_139) rfl rfl (r4 _ ?_)
              refine qg_icmp false rfl (qc_neF (b := 42) (v6.mpr tC)) rfl ?_
              refine qg_pls (n := 4) (k' := 54) (lo' := [some (.ref 14), some (.int 1)]) (S' := [.int 1]) (h' := h) rfl ?_
              refine qg_if false rfl (rfl) rfl ?_
              refine qg_pls (n := 1) (k' := 56) (lo' := [some (.ref 14), some (.int 1)]) (S' := [.ref 14]) (h' := h) rfl ?_
              refine qg_call (v := none) (h' := ha) (as := [.ref 14]) rfl rfl rfl rfl rfl rfl rfl (ai_rcv1 rfl rfl hob) (ga) ?_
              show qg L xs _ qm_139 57 [some (.ref 14), some (.int 1)] [] ha _
              refine qg_pls (n := 1) (k' := 58) (lo' := [some (.ref 14), some (.int 1)]) (S' := [.ref 14]) (h' := ha) rfl ?_
              refine qg_call (v := none) (h' := hb') (as := [.ref 14]) rfl rfl rfl rfl rfl rfl rfl (ai_rcv1 rfl rfl ((mcs_rcv hca).choose_spec)) (gb) ?_
              show qg L xs _ qm_139 59 [some (.ref 14), some (.int 1)] [] hb' _
              refine qg_pls (n := 1) (k' := 60) (lo' := [some (.ref 14), some (.int 1)]) (S' := [.ref 14]) (h' := hb') rfl ?_
              refine qg_call (v := none) (h' := hc') (as := [.ref 14]) rfl rfl rfl rfl rfl rfl rfl (ai_rcv1 rfl rfl ((mcs_rcv hcb).choose_spec)) (gc) ?_
              show qg L xs _ qm_139 61 [some (.ref 14), some (.int 1)] [] hc' _
              exact qg_ret7 rfl
            · rw [e3, e2, e1, ← zn]
              exact hcc
          · rw [if_neg tC] at hf
            refine no hf (fun o hg => r4 o ?_)
            refine qg_icmp true rfl (qc_neT (b := 42) (fun q => tC (v6.mp q)) (by omega) (by decide)) rfl ?_
            exact hg
        · rw [if_neg (by omega)] at hf
          refine no hf (fun o hg => r3 o ?_)
          refine qg_icmp true rfl (qc_neT (b := 5) (fun q => tN (z2.2.1.mp q)) (by omega) (by decide)) rfl ?_
          exact hg
      · rw [if_neg tB] at hf
        refine no hf (fun o hg => r2 o ?_)
        refine qg_icmp true rfl (qc_neT (b := 46) (fun q => tB (w5.mp q)) (by omega) (by decide)) rfl ?_
        exact hg
    · rw [if_neg (by omega)] at hf
      refine no hf (fun o hg => r1 o ?_)
      refine qg_icmp true rfl (qc_neT (b := 5) (fun q => tM (z1.2.1.mp q)) (by omega) (by decide)) rfl ?_
      exact hg
  · rw [if_neg tA] at hf
    refine no hf (fun o hg => r0 o ?_)
    refine qg_icmp true rfl (qc_neT (b := 2) (fun q => tA ((hzc s.1).2.2.1.mp q)) (by have := (hzc s.1).2.2.2.2.2.2; omega) (by decide)) rfl ?_
    exact hg
end MIT
