/-! THE MODEL: OPERANDS. (Printed by wip/whole/pp.py from wip/whole/src.) -/
section MCA
variable {L : Nat} {xs : Nat → Int32} {d : Nat} {h h' : ai_H} {e : zE} {Y : Nat → Option ai_C} {K : mK} {W P : zK} {s s' : zS} {ex qy : zP}
section NEED
variable {M : ai_M} {k : Nat} {lo : ai_L} {S0 : List Value}
theorem msm_need1 {md : Nat} {r : zR Nat} {pc ln : Nat} {i : Instr} {rs : List Int} {nm : String} (hk : (ai_Mc M)[k]? = some (pc, i, ln, 1, rs, nm)) (hmi : (ai_nth (1, rs, nm) 0).toNat = 135) (hn : (ai_nth (1, rs, nm) 1).toNat = 2) (has : ((.int 1 :: .ref 14 :: S0).take 2).reverse = [.ref 14, .int 1]) (hS0 : (.int 1 :: .ref 14 :: S0).drop 2 = S0) (hw : Nat.ble (ai_wt S0) 8 = true) (hle : Nat.ble 2 (.int 1 :: .ref 14 :: S0).length = true) (hrc : ai_rcv (qr_Z L xs) (1, rs, nm) [Value.ref 14, .int 1].head? h = true) (hs : msm L xs e Y K (d + 1) M (k + 1) lo S0 h md P r) : msm L xs e Y K (d + 1) M k lo (.int 1 :: .ref 14 :: S0) h md P r := msm_st (fun _ hg => qg_call hk hmi hn has hS0 hw hle hrc (m_need1 (d := d)) hg) hs
theorem msm_need0 {md : Nat} {pc ln : Nat} {i : Instr} {rs : List Int} {nm : String} (hc : mcs e Y K P s h) (hk : (ai_Mc M)[k]? = some (pc, i, ln, 1, rs, nm)) (hmi : (ai_nth (1, rs, nm) 0).toNat = 135) (hn : (ai_nth (1, rs, nm) 1).toNat = 2) (has : ((.int 0 :: .ref 14 :: S0).take 2).reverse = [.ref 14, .int 0]) (hS0 : (.int 0 :: .ref 14 :: S0).drop 2 = S0) (hw : Nat.ble (ai_wt S0) 8 = true) (hle : Nat.ble 2 (.int 0 :: .ref 14 :: S0).length = true) (hx : ai_catch (ai_Mh M) k = none) (hrc : ai_rcv (qr_Z L xs) (1, rs, nm) [Value.ref 14, .int 0].head? h = true) : msm L xs e Y K (d + 1) M k lo (.int 0 :: .ref 14 :: S0) h md P (some (none, s)) := by
  intro v s' hr
  cases hr
  exact ⟨_, qg_callT hk hmi hn has hS0 hw hle hrc hx (m_need0 (d := d)), mcs_bad hc⟩
end NEED
/-- word END, and one less is open -/
theorem m_end (ht : mtk e Y) {v : Option Nat} (hc : mcs e Y K P s h) (hf : zcp e 25 s = some (v, s')) : ∃ h', qg L xs (d + 8) qm_150 24 [some (.ref 14)] [] h (qout 0 v, h') ∧ mpost e Y K P v s' h' := by
  obtain ⟨kept, bg, en, md, hob⟩ := mcs_obj hc
  have hb := mcs_bd hc
  rcases zcl_inv (Or.inr rfl) hf with ⟨h1, rfl, rfl⟩ | ⟨h1, ho, rfl, rfl⟩
  · refine ⟨_, ?_, mcs_bad hc⟩
    refine qg_pls (n := 2) (k' := 26) (lo' := [some (.ref 14)]) (S' := [.retAddr 1040, .ref 14]) (h' := h) rfl ?_
    exact qg_callT rfl rfl rfl rfl rfl rfl rfl (ai_rcv1 rfl rfl hob) rfl (m_word0 (d := d) ht hc (k := 25) (by decide) h1)
  · obtain ⟨h1', g1, ⟨J1, bg1, en1, md1, hc1⟩⟩ := m_word1 (L := L) (xs := xs) (d := d) ht hc (k := 25) (by decide) h1
    have hc2 := mcs0_open (o' := s.2.1 - 1) (m' := s.2.2.1) hc1 (by omega) (by omega)
    refine ⟨_, ?_, J1, bg1, en1, md1, hc2⟩
    refine qg_pls (n := 2) (k' := 26) (lo' := [some (.ref 14)]) (S' := [.retAddr 1040, .ref 14]) (h' := h) rfl ?_
    refine qg_call (v := none) (h' := h1') (as := [.ref 14, .retAddr 1040]) rfl rfl rfl rfl rfl rfl rfl (ai_rcv1 rfl rfl hob) (g1) ?_
    show qg L xs _ qm_150 27 [some (.ref 14)] [] h1' _
    refine qg_pls (n := 2) (k' := 29) (lo' := [some (.ref 14)]) (S' := [.ref 14, .ref 14]) (h' := h1') rfl ?_
    refine qg_getf (v := .int (nI (s.1 + 1, s.2.1, s.2.2.1, s.2.2.2.1, s.2.2.2.2 ++ zw 25 ++ [32]).2.1)) rfl (mcs0_ob hc1) rfl rfl rfl ?_
    refine qg_pls (n := 2) (k' := 32) (lo' := [some (.ref 14)]) (S' := [.int ((nI (s.1 + 1, s.2.1, s.2.2.1, s.2.2.2.1, s.2.2.2.2 ++ zw 25 ++ [32]).2.1) - 1), .ref 14]) (h' := h1') rfl ?_
    rw [show nI s.2.1 - 1 = nI (s.2.1 - 1) from nI_sub (b := 1) (by omega)]
    refine qg_putf rfl (mcs0_ob hc1) rfl rfl (Nat.le_of_ble_eq_true rfl) rfl ?_
    exact qg_ret7 rfl
/-- opens, and CASE is kept -/
theorem m_case (ht : mtk e Y) {v : Option Nat} (hc : mcs e Y K P s h) (t : ztk e s.1 = 10) (hf : zcp e 10 s = some (v, s')) : (∃ h', qg L xs (d + 8) qm_150 0 [some (.ref 14)] [] h (.inr "java/lang/IllegalArgumentException", h') ∧ v = none ∧ mbad e Y K s' h') ∨ (∃ h', (∀ o, qg L xs (d + 8) qm_150 4 [some (.ref 14)] [] h' o → qg L xs (d + 8) qm_150 0 [some (.ref 14)] [] h o) ∧ v = some 0 ∧ mcs e Y K P s' h') := by
  obtain ⟨J, bg, en, md, hc0⟩ := id hc
  have hob := mcs0_ob hc0
  have hb := mcs_bd hc
  unfold zcp zc at hf
  rw [if_pos t] at hf
  rcases zbd_inv hf with ⟨h2, -⟩ | ⟨a, s1, h2, h3⟩
  · obtain ⟨-, q, -⟩ := zput_inv h2; cases q
  obtain ⟨-, -, e1⟩ := zput_inv h2
  have e2 : ztk e s1.1 = 10 := by rw [e1]; exact t
  have h3 : zstep e s1 = some (v, s') := h3
  unfold zstep at h3
  rw [e2, if_pos (Or.inr rfl)] at h3
  rcases zbd_inv h3 with ⟨h4, rfl⟩ | ⟨a4, s4, h4, h5⟩
  · left
    rcases zrise_inv h4 with ⟨-, e3, h40⟩ | ⟨-, q, -⟩
    · have hs : s'.1 = s.1 ∧ s'.2.2.1 = s.2.2.1 := by rw [e3, e1]; exact ⟨rfl, rfl⟩
      have h40 : 40 ≤ s.2.1 := by rw [e1] at h40; exact h40
      have hbad := mcs_bad hc
      refine ⟨(h.1, h.2.1 + 1, h.2.2 + 6), ?_, rfl, ?_⟩
      · skip
        refine qg_pls (n := 1) (k' := 1) (lo' := [some (.ref 14)]) (S' := [.ref 14]) (h' := h) rfl ?_
        exact qg_callT rfl rfl rfl rfl rfl rfl rfl (ai_rcv1 rfl rfl hob) rfl (m_opens0 (d := d + 6) hc0 h40)
      · obtain ⟨rf, bf, wr, wf, k1, k2, k3, k4, k5, k6, b1, b2, b3, b4, b5, b6, b7⟩ := hbad
        refine ⟨rf, bf, wr, wf, k1, k2, k3, k4, k5, k6, ?_⟩
        rw [hs.1, hs.2]
        exact ⟨b1, b2, b3, b4, b5, b6, b7⟩
    · cases q
  · right
    rcases zrise_inv h4 with ⟨q, -⟩ | ⟨ho, -, e3⟩
    · cases q
    obtain ⟨-, rfl, e5⟩ := znext_inv h5
    have ho : s.2.1 < 40 := by rw [e1] at ho; exact ho
    have hc1 := mcs0_open (o' := s.2.1 + 1) (m' := max s.2.2.1 (s.2.1 + 1)) hc0 (by omega) (by omega)
    obtain ⟨h', g1, g2⟩ := m_keepw (L := L) (xs := xs) (d := d + 7) (s := (s.1, s.2.1 + 1, max s.2.2.1 (s.2.1 + 1), s.2.2.2)) ht ⟨J, bg, en, md, hc1⟩ (k := 10) t (by decide)
    refine ⟨h', ?_, rfl, ?_⟩
    · intro o hg
      refine qg_pls (n := 1) (k' := 1) (lo' := [some (.ref 14)]) (S' := [.ref 14]) (h' := h) rfl ?_
      refine qg_call (v := none) (h' := (h.1.set 14 (mobj K.2.2.2.1 s.1 J.length (s.2.1 + 1) (max s.2.2.1 (s.2.1 + 1)) bg en md P.length), h.2)) (as := [.ref 14]) rfl rfl rfl rfl rfl rfl rfl (ai_rcv1 rfl rfl hob) (m_opens (d := d + 6) hc0 ho) ?_
      show qg L xs _ qm_150 2 [some (.ref 14)] [] (h.1.set 14 (mobj K.2.2.2.1 s.1 J.length (s.2.1 + 1) (max s.2.2.1 (s.2.1 + 1)) bg en md P.length), h.2) _
      refine qg_pls (n := 1) (k' := 3) (lo' := [some (.ref 14)]) (S' := [.ref 14]) (h' := (h.1.set 14 (mobj K.2.2.2.1 s.1 J.length (s.2.1 + 1) (max s.2.2.1 (s.2.1 + 1)) bg en md P.length), h.2)) rfl ?_
      refine qg_call (v := none) (h' := h') (as := [.ref 14]) rfl rfl rfl rfl rfl rfl rfl (ai_rcv1 rfl rfl (mcs0_ob hc1)) (g1) ?_
      show qg L xs _ qm_150 4 [some (.ref 14)] [] h' _
      exact hg
    · rw [e5, e3, e1]
      exact g2
def zd_cases (e : zE) (ex : zP) : zP := zq (zlp (zl_whens e ex) zN) (zq (zi (zci e 24) ex (zv 0)) (zcp e 25))
theorem m_cases4 (ht : mtk e Y) (hex : mim L xs e Y K d 140 [.ref 14] 0 ex) (hc : mcs e Y K P s h) : msm L xs e Y K (d + 8) qm_150 4 [some (.ref 14)] [] h 0 P (zd_cases e ex s) := by
  have loop : ∀ (G : Nat → zS → zR Nat), (∀ (s : zS) (h : ai_H), mcs e Y K P s h → msm L xs e Y K (d + 8) qm_150 18 [some (.ref 14)] [] h 0 P (G 0 s)) → ∀ (n : Nat) (s : zS) (h : ai_H), mcs e Y K P s h → msm L xs e Y K (d + 8) qm_150 4 [some (.ref 14)] [] h 0 P (zbd (zlp (zl_whens e ex) n s) G) := by
    intro G tail n
    induction n with
    | zero => intro s h hc; exact msm_none
    | succ n ih =>
      intro s h hc
      rw [zlp_succ]
      generalize zlp (zl_whens e ex) n = W at ih ⊢
      simp only [zl_whens, zq, zi, zc, zv, zf, zci_eq, zsi_eq, zsk_eq, zbd_zbd, zbd_some, zbd_fault, zbd_none, zite0, zite1, ↓reduceIte, Nat.one_ne_zero, Nat.reduceEqDiff]
      refine msm_pls (n := 2) (k' := 6) (lo' := [some (.ref 14)]) (S' := [.retAddr 1094, .ref 14]) (h' := h) rfl ?_
      first
        | refine msm_call hc (mim_up (mi_word (d := d) (k := 80) ht (by decide) (by decide)) (by omega)) rfl rfl rfl rfl rfl rfl rfl rfl (ai_rcv1 rfl rfl (mcs_rcv hc).choose_spec) (fun v1 s1 h1 f1 hc1 => ?_)
        | refine msm_callL hc (mim_up (mi_word (d := d) (k := 80) ht (by decide) (by decide)) (by omega)) rfl rfl rfl rfl rfl rfl rfl rfl (ai_rcv1 rfl rfl (mcs_rcv hc).choose_spec) (fun v1 s1 h1 f1 hc1 => ?_)
      show msm L xs e Y K _ qm_150 7 [some (.ref 14)] [] h1 _ _ _
      try simp only [zq, zi, zc, zv, zf, zci_eq, zsi_eq, zsk_eq, zbd_zbd, zbd_some, zbd_fault, zbd_none, zite0, zite1, ↓reduceIte, Nat.one_ne_zero, Nat.reduceEqDiff]
      refine msm_pls (n := 1) (k' := 8) (lo' := [some (.ref 14)]) (S' := [.ref 14]) (h' := h1) rfl ?_
      first
        | refine msm_call hc1 (mim_up (hex) (by omega)) rfl rfl rfl rfl rfl rfl rfl rfl (ai_rcv1 rfl rfl (mcs_rcv hc1).choose_spec) (fun v2 s2 h2 f2 hc2 => ?_)
        | refine msm_callL hc1 (mim_up (hex) (by omega)) rfl rfl rfl rfl rfl rfl rfl rfl (ai_rcv1 rfl rfl (mcs_rcv hc1).choose_spec) (fun v2 s2 h2 f2 hc2 => ?_)
      show msm L xs e Y K _ qm_150 9 [some (.ref 14)] [] h2 _ _ _
      try simp only [zq, zi, zc, zv, zf, zci_eq, zsi_eq, zsk_eq, zbd_zbd, zbd_some, zbd_fault, zbd_none, zite0, zite1, ↓reduceIte, Nat.one_ne_zero, Nat.reduceEqDiff]
      refine msm_pls (n := 2) (k' := 11) (lo' := [some (.ref 14)]) (S' := [.retAddr 1087, .ref 14]) (h' := h2) rfl ?_
      first
        | refine msm_call hc2 (mim_up (mi_word (d := d) (k := 73) ht (by decide) (by decide)) (by omega)) rfl rfl rfl rfl rfl rfl rfl rfl (ai_rcv1 rfl rfl (mcs_rcv hc2).choose_spec) (fun v3 s3 h3 f3 hc3 => ?_)
        | refine msm_callL hc2 (mim_up (mi_word (d := d) (k := 73) ht (by decide) (by decide)) (by omega)) rfl rfl rfl rfl rfl rfl rfl rfl (ai_rcv1 rfl rfl (mcs_rcv hc2).choose_spec) (fun v3 s3 h3 f3 hc3 => ?_)
      show msm L xs e Y K _ qm_150 12 [some (.ref 14)] [] h3 _ _ _
      try simp only [zq, zi, zc, zv, zf, zci_eq, zsi_eq, zsk_eq, zbd_zbd, zbd_some, zbd_fault, zbd_none, zite0, zite1, ↓reduceIte, Nat.one_ne_zero, Nat.reduceEqDiff]
      refine msm_pls (n := 1) (k' := 13) (lo' := [some (.ref 14)]) (S' := [.ref 14]) (h' := h3) rfl ?_
      first
        | refine msm_call hc3 (mim_up (hex) (by omega)) rfl rfl rfl rfl rfl rfl rfl rfl (ai_rcv1 rfl rfl (mcs_rcv hc3).choose_spec) (fun v4 s4 h4 f4 hc4 => ?_)
        | refine msm_callL hc3 (mim_up (hex) (by omega)) rfl rfl rfl rfl rfl rfl rfl rfl (ai_rcv1 rfl rfl (mcs_rcv hc3).choose_spec) (fun v4 s4 h4 f4 hc4 => ?_)
      show msm L xs e Y K _ qm_150 14 [some (.ref 14)] [] h4 _ _ _
      try simp only [zq, zi, zc, zv, zf, zci_eq, zsi_eq, zsk_eq, zbd_zbd, zbd_some, zbd_fault, zbd_none, zite0, zite1, ↓reduceIte, Nat.one_ne_zero, Nat.reduceEqDiff]
      refine msm_pls (n := 2) (k' := 16) (lo' := [some (.ref 14)]) (S' := [.retAddr 1094, .ref 14]) (h' := h4) rfl ?_
      by_cases t5 : ztk e s4.1 = 80
      · skip
        try simp only [zq, zi, zc, zv, zf, zci_eq, zsi_eq, zsk_eq, zbd_zbd, zbd_some, zbd_fault, zbd_none, zite0, zite1, ↓reduceIte, Nat.one_ne_zero, Nat.reduceEqDiff, t5]
        refine msm_ask (by have hh := m_isWord (L := L) (xs := xs) (d := d) ht hc4 (k := 80) (by decide); rw [if_pos t5] at hh; exact qe_up (by omega) hh) rfl rfl rfl rfl rfl rfl rfl (ai_rcv1 rfl rfl (mcs_rcv hc4).choose_spec) ?_
        show msm L xs e Y K _ qm_150 17 [some (.ref 14)] [.int 1] h4 _ _ _
        refine msm_if true rfl (rfl) rfl ?_
        by_cases g6 : s4.1 ≤ s.1
        · rw [if_pos g6]; exact msm_none
        · rw [if_neg g6]; exact ih _ _ hc4
      · skip
        try simp only [zq, zi, zc, zv, zf, zci_eq, zsi_eq, zsk_eq, zbd_zbd, zbd_some, zbd_fault, zbd_none, zite0, zite1, ↓reduceIte, Nat.one_ne_zero, Nat.reduceEqDiff, t5]
        refine msm_ask (by have hh := m_isWord (L := L) (xs := xs) (d := d) ht hc4 (k := 80) (by decide); rw [if_neg t5] at hh; exact qe_up (by omega) hh) rfl rfl rfl rfl rfl rfl rfl (ai_rcv1 rfl rfl (mcs_rcv hc4).choose_spec) ?_
        show msm L xs e Y K _ qm_150 17 [some (.ref 14)] [.int 0] h4 _ _ _
        refine msm_if false rfl (rfl) rfl ?_
        exact tail _ _ hc4
  simp only [zd_cases, zq, zi, zc, zv, zf, zci_eq, zsi_eq, zsk_eq, zbd_zbd, zbd_some, zbd_fault, zbd_none, zite0, zite1, ↓reduceIte, Nat.one_ne_zero, Nat.reduceEqDiff]
  first
    | refine loop _ (fun s7 h7 hc7 => ?_) zN _ _ hc
    | (rw [← zbd_id (zlp (zl_whens e ex) zN _)]; refine loop _ (fun s7 h7 hc7 => ?_) zN _ _ hc)
  show msm L xs e Y K _ qm_150 18 [some (.ref 14)] [] h7 _ _ _
  try simp only [zq, zi, zc, zv, zf, zci_eq, zsi_eq, zsk_eq, zbd_zbd, zbd_some, zbd_fault, zbd_none, zite0, zite1, ↓reduceIte, Nat.one_ne_zero, Nat.reduceEqDiff]
  refine msm_pls (n := 2) (k' := 20) (lo' := [some (.ref 14)]) (S' := [.retAddr 1039, .ref 14]) (h' := h7) rfl ?_
  by_cases t8 : ztk e s7.1 = 24
  · skip
    try simp only [zq, zi, zc, zv, zf, zci_eq, zsi_eq, zsk_eq, zbd_zbd, zbd_some, zbd_fault, zbd_none, zite0, zite1, ↓reduceIte, Nat.one_ne_zero, Nat.reduceEqDiff, t8]
    refine msm_took hc7 (mim_up (mi_takes (d := d) (k := 24) ht (by decide) (by decide)) (by omega)) t8 rfl rfl rfl rfl rfl rfl rfl rfl (ai_rcv1 rfl rfl (mcs_rcv hc7).choose_spec) (fun v9 s9 h9 f9 hc9 => ?_)
    show msm L xs e Y K _ qm_150 21 [some (.ref 14)] [.int 1] h9 _ _ _
    try simp only [zq, zi, zc, zv, zf, zci_eq, zsi_eq, zsk_eq, zbd_zbd, zbd_some, zbd_fault, zbd_none, zite0, zite1, ↓reduceIte, Nat.one_ne_zero, Nat.reduceEqDiff]
    refine msm_if false rfl (rfl) rfl ?_
    refine msm_pls (n := 1) (k' := 23) (lo' := [some (.ref 14)]) (S' := [.ref 14]) (h' := h9) rfl ?_
    first
      | refine msm_call hc9 (mim_up (hex) (by omega)) rfl rfl rfl rfl rfl rfl rfl rfl (ai_rcv1 rfl rfl (mcs_rcv hc9).choose_spec) (fun v10 s10 h10 f10 hc10 => ?_)
      | refine msm_callL hc9 (mim_up (hex) (by omega)) rfl rfl rfl rfl rfl rfl rfl rfl (ai_rcv1 rfl rfl (mcs_rcv hc9).choose_spec) (fun v10 s10 h10 f10 hc10 => ?_)
    show msm L xs e Y K _ qm_150 24 [some (.ref 14)] [] h10 _ _ _
    try simp only [zq, zi, zc, zv, zf, zci_eq, zsi_eq, zsk_eq, zbd_zbd, zbd_some, zbd_fault, zbd_none, zite0, zite1, ↓reduceIte, Nat.one_ne_zero, Nat.reduceEqDiff]
    show msm L xs e Y K _ qm_150 24 [some (.ref 14)] [] h10 _ _ _
    exact fun v s1 hr => m_end ht hc10 hr
  · skip
    try simp only [zq, zi, zc, zv, zf, zci_eq, zsi_eq, zsk_eq, zbd_zbd, zbd_some, zbd_fault, zbd_none, zite0, zite1, ↓reduceIte, Nat.one_ne_zero, Nat.reduceEqDiff, t8]
    refine msm_left hc7 (mim_up (mi_takes (d := d) (k := 24) ht (by decide) (by decide)) (by omega)) t8 rfl rfl rfl rfl rfl rfl rfl rfl (ai_rcv1 rfl rfl (mcs_rcv hc7).choose_spec) (fun h12 hc12 => ?_)
    show msm L xs e Y K _ qm_150 21 [some (.ref 14)] [.int 0] h12 _ _ _
    refine msm_if true rfl (rfl) rfl ?_
    show msm L xs e Y K _ qm_150 24 [some (.ref 14)] [] h12 _ _ _
    exact fun v s1 hr => m_end ht hc12 hr
/-- QueryReaderModel.cases -/
theorem ms_cases (ht : mtk e Y) (hex : mim L xs e Y K d 140 [.ref 14] 0 ex) : mim L xs e Y K (d + 9) 150 [.ref 14] 0 (zc e 10 (z_cases e ex) (fun _ => none)) := by
  intro P s h v s' hc hf
  unfold zc at hf
  by_cases t : ztk e s.1 = 10
  · rw [if_pos t] at hf
    rcases zbd_inv hf with ⟨z1, rfl⟩ | ⟨a1, s1, z1, hf⟩
    · rcases m_case (L := L) (xs := xs) (d := d) ht hc t z1 with ⟨h1, g1, -, g2⟩ | ⟨h1, -, x, -⟩
      · exact ⟨h1, qe_of (M := qm_150) rfl rfl g1, g2⟩
      · cases x
    · rcases m_case (L := L) (xs := xs) (d := d) ht hc t z1 with ⟨h1, -, x, -⟩ | ⟨h1, g1, -, g2⟩
      · cases x
      · obtain ⟨h2, y1, y2⟩ := m_cases4 ht hex g2 v s' hf
        exact ⟨h2, qe_of (M := qm_150) rfl rfl (g1 _ y1), y2⟩
  · rw [if_neg t] at hf
    cases hf
def zag (e : zE) (ex : zP) : zP := fun s => if ztk e s.1 = 16 ∨ ztk e s.1 = 70 ∨ ztk e s.1 = 47 ∨ ztk e s.1 = 46 ∨ ztk e s.1 = 5 then z_agg e ex s else none
theorem m_agg16 (ht : mtk e Y) (hex : mim L xs e Y K d 140 [.ref 14] 0 ex) (hc : mcs e Y K P s h) (t : ztk e s.1 = 16) : msm L xs e Y K (d + 9) qm_154 0 [some (.ref 14), none] [] h 0 P (z_agg e ex s) := by
  simp only [z_agg, zq, zi, zc, zv, zf, zci_eq, t, zbd_zbd, zbd_some, zbd_fault, zbd_none, ↓reduceIte, Nat.one_ne_zero, Nat.reduceEqDiff]
  refine msm_pls (n := 2) (k' := 2) (lo' := [some (.ref 14), none]) (S' := [.retAddr 1031, .ref 14]) (h' := h) rfl ?_
  refine msm_ask (by have hh := m_isWord (L := L) (xs := xs) (d := d) ht hc (k := 16) (by decide); rw [if_pos t] at hh; exact qe_up (by omega) hh) rfl rfl rfl rfl rfl rfl rfl (ai_rcv1 rfl rfl (mcs_rcv hc).choose_spec) ?_
  show msm L xs e Y K _ qm_154 3 [some (.ref 14), none] [.int 1] h _ _ _
  refine msm_pls (n := 2) (k' := 5) (lo' := [some (.ref 14), some (.int 1)]) (S' := [.ref 14]) (h' := h) rfl ?_
  first
    | refine msm_keep ht hc (kk := 16) (by decide) (by decide) t rfl rfl rfl rfl rfl rfl rfl rfl (ai_rcv1 rfl rfl (mcs_rcv hc).choose_spec) (fun s14 h14 hc14 => ?_)
  show msm L xs e Y K _ qm_154 6 [some (.ref 14), some (.int 1)] [] h14 _ _ _
  try simp only [zq, zi, zc, zv, zf, zci_eq, zsi_eq, zsk_eq, zbd_zbd, zbd_some, zbd_fault, zbd_none, zite0, zite1, ↓reduceIte, Nat.one_ne_zero, Nat.reduceEqDiff]
  refine msm_pls (n := 1) (k' := 7) (lo' := [some (.ref 14), some (.int 1)]) (S' := [.ref 14]) (h' := h14) rfl ?_
  first
    | refine msm_call hc14 (mim_up (mi_open (d := d) ht) (by omega)) rfl rfl rfl rfl rfl rfl rfl rfl (ai_rcv1 rfl rfl (mcs_rcv hc14).choose_spec) (fun v15 s15 h15 f15 hc15 => ?_)
    | refine msm_callL hc14 (mim_up (mi_open (d := d) ht) (by omega)) rfl rfl rfl rfl rfl rfl rfl rfl (ai_rcv1 rfl rfl (mcs_rcv hc14).choose_spec) (fun v15 s15 h15 f15 hc15 => ?_)
  show msm L xs e Y K _ qm_154 8 [some (.ref 14), some (.int 1)] [] h15 _ _ _
  try simp only [zq, zi, zc, zv, zf, zci_eq, zsi_eq, zsk_eq, zbd_zbd, zbd_some, zbd_fault, zbd_none, zite0, zite1, ↓reduceIte, Nat.one_ne_zero, Nat.reduceEqDiff]
  refine msm_pls (n := 1) (k' := 9) (lo' := [some (.ref 14), some (.int 1)]) (S' := [.int 1]) (h' := h15) rfl ?_
  refine msm_if false rfl (rfl) rfl ?_
  refine msm_pls (n := 2) (k' := 12) (lo' := [some (.ref 14), some (.int 1)]) (S' := [.retAddr 1096, .ref 14]) (h' := h15) rfl ?_
  by_cases t16 : ztk e s15.1 = 89
  · skip
    try simp only [zq, zi, zc, zv, zf, zci_eq, zsi_eq, zsk_eq, zbd_zbd, zbd_some, zbd_fault, zbd_none, zite0, zite1, ↓reduceIte, Nat.one_ne_zero, Nat.reduceEqDiff, t16]
    refine msm_ask (by have hh := m_isMark (L := L) (xs := xs) (d := d) ht hc15 (k := 89) (by decide); rw [if_pos t16] at hh; exact qe_up (by omega) hh) rfl rfl rfl rfl rfl rfl rfl (ai_rcv1 rfl rfl (mcs_rcv hc15).choose_spec) ?_
    show msm L xs e Y K _ qm_154 13 [some (.ref 14), some (.int 1)] [.int 1] h15 _ _ _
    refine msm_if false rfl (rfl) rfl ?_
    refine msm_pls (n := 1) (k' := 15) (lo' := [some (.ref 14), some (.int 1)]) (S' := [.ref 14]) (h' := h15) rfl ?_
    first
      | refine msm_keep ht hc15 (kk := 89) (by decide) (by decide) t16 rfl rfl rfl rfl rfl rfl rfl rfl (ai_rcv1 rfl rfl (mcs_rcv hc15).choose_spec) (fun s17 h17 hc17 => ?_)
    show msm L xs e Y K _ qm_154 16 [some (.ref 14), some (.int 1)] [] h17 _ _ _
    try simp only [zq, zi, zc, zv, zf, zci_eq, zsi_eq, zsk_eq, zbd_zbd, zbd_some, zbd_fault, zbd_none, zite0, zite1, ↓reduceIte, Nat.one_ne_zero, Nat.reduceEqDiff]
    refine msm_pls (n := 2) (k' := 24) (lo' := [some (.ref 14), some (.int 1)]) (S' := [.ref 14]) (h' := h17) rfl ?_
    first
      | refine msm_call hc17 (mim_up (mi_close (d := d) ht) (by omega)) rfl rfl rfl rfl rfl rfl rfl rfl (ai_rcv1 rfl rfl (mcs_rcv hc17).choose_spec) (fun v18 s18 h18 f18 hc18 => ?_)
      | refine msm_callL hc17 (mim_up (mi_close (d := d) ht) (by omega)) rfl rfl rfl rfl rfl rfl rfl rfl (ai_rcv1 rfl rfl (mcs_rcv hc17).choose_spec) (fun v18 s18 h18 f18 hc18 => ?_)
    show msm L xs e Y K _ qm_154 25 [some (.ref 14), some (.int 1)] [] h18 _ _ _
    try simp only [zq, zi, zc, zv, zf, zci_eq, zsi_eq, zsk_eq, zbd_zbd, zbd_some, zbd_fault, zbd_none, zite0, zite1, ↓reduceIte, Nat.one_ne_zero, Nat.reduceEqDiff]
    exact msm_ret7 hc18 rfl
  · skip
    try simp only [zq, zi, zc, zv, zf, zci_eq, zsi_eq, zsk_eq, zbd_zbd, zbd_some, zbd_fault, zbd_none, zite0, zite1, ↓reduceIte, Nat.one_ne_zero, Nat.reduceEqDiff, t16]
    refine msm_ask (by have hh := m_isMark (L := L) (xs := xs) (d := d) ht hc15 (k := 89) (by decide); rw [if_neg t16] at hh; exact qe_up (by omega) hh) rfl rfl rfl rfl rfl rfl rfl (ai_rcv1 rfl rfl (mcs_rcv hc15).choose_spec) ?_
    show msm L xs e Y K _ qm_154 13 [some (.ref 14), some (.int 1)] [.int 0] h15 _ _ _
    refine msm_if true rfl (rfl) rfl ?_
    refine msm_pls (n := 2) (k' := 19) (lo' := [some (.ref 14), some (.int 1)]) (S' := [.retAddr 1037, .ref 14]) (h' := h15) rfl ?_
    by_cases t19 : ztk e s15.1 = 22
    · skip
      try simp only [zq, zi, zc, zv, zf, zci_eq, zsi_eq, zsk_eq, zbd_zbd, zbd_some, zbd_fault, zbd_none, zite0, zite1, ↓reduceIte, Nat.one_ne_zero, Nat.reduceEqDiff, t16, t19]
      refine msm_took hc15 (mim_up (mi_takes (d := d) (k := 22) ht (by decide) (by decide)) (by omega)) t19 rfl rfl rfl rfl rfl rfl rfl rfl (ai_rcv1 rfl rfl (mcs_rcv hc15).choose_spec) (fun v20 s20 h20 f20 hc20 => ?_)
      show msm L xs e Y K _ qm_154 20 [some (.ref 14), some (.int 1)] [.int 1] h20 _ _ _
      try simp only [zq, zi, zc, zv, zf, zci_eq, zsi_eq, zsk_eq, zbd_zbd, zbd_some, zbd_fault, zbd_none, zite0, zite1, ↓reduceIte, Nat.one_ne_zero, Nat.reduceEqDiff]
      refine msm_pls (n := 2) (k' := 22) (lo' := [some (.ref 14), some (.int 1)]) (S' := [.ref 14]) (h' := h20) rfl ?_
      first
        | refine msm_call hc20 (mim_up (hex) (by omega)) rfl rfl rfl rfl rfl rfl rfl rfl (ai_rcv1 rfl rfl (mcs_rcv hc20).choose_spec) (fun v21 s21 h21 f21 hc21 => ?_)
        | refine msm_callL hc20 (mim_up (hex) (by omega)) rfl rfl rfl rfl rfl rfl rfl rfl (ai_rcv1 rfl rfl (mcs_rcv hc20).choose_spec) (fun v21 s21 h21 f21 hc21 => ?_)
      show msm L xs e Y K _ qm_154 23 [some (.ref 14), some (.int 1)] [] h21 _ _ _
      try simp only [zq, zi, zc, zv, zf, zci_eq, zsi_eq, zsk_eq, zbd_zbd, zbd_some, zbd_fault, zbd_none, zite0, zite1, ↓reduceIte, Nat.one_ne_zero, Nat.reduceEqDiff]
      refine msm_pls (n := 1) (k' := 24) (lo' := [some (.ref 14), some (.int 1)]) (S' := [.ref 14]) (h' := h21) rfl ?_
      first
        | refine msm_call hc21 (mim_up (mi_close (d := d) ht) (by omega)) rfl rfl rfl rfl rfl rfl rfl rfl (ai_rcv1 rfl rfl (mcs_rcv hc21).choose_spec) (fun v22 s22 h22 f22 hc22 => ?_)
        | refine msm_callL hc21 (mim_up (mi_close (d := d) ht) (by omega)) rfl rfl rfl rfl rfl rfl rfl rfl (ai_rcv1 rfl rfl (mcs_rcv hc21).choose_spec) (fun v22 s22 h22 f22 hc22 => ?_)
      show msm L xs e Y K _ qm_154 25 [some (.ref 14), some (.int 1)] [] h22 _ _ _
      try simp only [zq, zi, zc, zv, zf, zci_eq, zsi_eq, zsk_eq, zbd_zbd, zbd_some, zbd_fault, zbd_none, zite0, zite1, ↓reduceIte, Nat.one_ne_zero, Nat.reduceEqDiff]
      exact msm_ret7 hc22 rfl
    · skip
      try simp only [zq, zi, zc, zv, zf, zci_eq, zsi_eq, zsk_eq, zbd_zbd, zbd_some, zbd_fault, zbd_none, zite0, zite1, ↓reduceIte, Nat.one_ne_zero, Nat.reduceEqDiff, t16, t19]
      refine msm_left hc15 (mim_up (mi_takes (d := d) (k := 22) ht (by decide) (by decide)) (by omega)) t19 rfl rfl rfl rfl rfl rfl rfl rfl (ai_rcv1 rfl rfl (mcs_rcv hc15).choose_spec) (fun h23 hc23 => ?_)
      show msm L xs e Y K _ qm_154 20 [some (.ref 14), some (.int 1)] [.int 0] h23 _ _ _
      refine msm_pls (n := 2) (k' := 22) (lo' := [some (.ref 14), some (.int 1)]) (S' := [.ref 14]) (h' := h23) rfl ?_
      first
        | refine msm_call hc23 (mim_up (hex) (by omega)) rfl rfl rfl rfl rfl rfl rfl rfl (ai_rcv1 rfl rfl (mcs_rcv hc23).choose_spec) (fun v24 s24 h24 f24 hc24 => ?_)
        | refine msm_callL hc23 (mim_up (hex) (by omega)) rfl rfl rfl rfl rfl rfl rfl rfl (ai_rcv1 rfl rfl (mcs_rcv hc23).choose_spec) (fun v24 s24 h24 f24 hc24 => ?_)
      show msm L xs e Y K _ qm_154 23 [some (.ref 14), some (.int 1)] [] h24 _ _ _
      try simp only [zq, zi, zc, zv, zf, zci_eq, zsi_eq, zsk_eq, zbd_zbd, zbd_some, zbd_fault, zbd_none, zite0, zite1, ↓reduceIte, Nat.one_ne_zero, Nat.reduceEqDiff]
      refine msm_pls (n := 1) (k' := 24) (lo' := [some (.ref 14), some (.int 1)]) (S' := [.ref 14]) (h' := h24) rfl ?_
      first
        | refine msm_call hc24 (mim_up (mi_close (d := d) ht) (by omega)) rfl rfl rfl rfl rfl rfl rfl rfl (ai_rcv1 rfl rfl (mcs_rcv hc24).choose_spec) (fun v25 s25 h25 f25 hc25 => ?_)
        | refine msm_callL hc24 (mim_up (mi_close (d := d) ht) (by omega)) rfl rfl rfl rfl rfl rfl rfl rfl (ai_rcv1 rfl rfl (mcs_rcv hc24).choose_spec) (fun v25 s25 h25 f25 hc25 => ?_)
      show msm L xs e Y K _ qm_154 25 [some (.ref 14), some (.int 1)] [] h25 _ _ _
      try simp only [zq, zi, zc, zv, zf, zci_eq, zsi_eq, zsk_eq, zbd_zbd, zbd_some, zbd_fault, zbd_none, zite0, zite1, ↓reduceIte, Nat.one_ne_zero, Nat.reduceEqDiff]
      exact msm_ret7 hc25 rfl
theorem m_agg70 (ht : mtk e Y) (hex : mim L xs e Y K d 140 [.ref 14] 0 ex) (hc : mcs e Y K P s h) (t : ztk e s.1 = 70) : msm L xs e Y K (d + 9) qm_154 0 [some (.ref 14), none] [] h 0 P (z_agg e ex s) := by
  simp only [z_agg, zq, zi, zc, zv, zf, zci_eq, t, zbd_zbd, zbd_some, zbd_fault, zbd_none, ↓reduceIte, Nat.one_ne_zero, Nat.reduceEqDiff]
  refine msm_pls (n := 2) (k' := 2) (lo' := [some (.ref 14), none]) (S' := [.retAddr 1031, .ref 14]) (h' := h) rfl ?_
  refine msm_ask (by have hh := m_isWord (L := L) (xs := xs) (d := d) ht hc (k := 16) (by decide); rw [if_neg (show ¬ ztk e s.1 = 16 from fun q => absurd (t.symm.trans q) (by decide))] at hh; exact qe_up (by omega) hh) rfl rfl rfl rfl rfl rfl rfl (ai_rcv1 rfl rfl (mcs_rcv hc).choose_spec) ?_
  show msm L xs e Y K _ qm_154 3 [some (.ref 14), none] [.int 0] h _ _ _
  refine msm_pls (n := 2) (k' := 5) (lo' := [some (.ref 14), some (.int 0)]) (S' := [.ref 14]) (h' := h) rfl ?_
  first
    | refine msm_keep ht hc (kk := 70) (by decide) (by decide) t rfl rfl rfl rfl rfl rfl rfl rfl (ai_rcv1 rfl rfl (mcs_rcv hc).choose_spec) (fun s26 h26 hc26 => ?_)
  show msm L xs e Y K _ qm_154 6 [some (.ref 14), some (.int 0)] [] h26 _ _ _
  try simp only [zq, zi, zc, zv, zf, zci_eq, zsi_eq, zsk_eq, zbd_zbd, zbd_some, zbd_fault, zbd_none, zite0, zite1, ↓reduceIte, Nat.one_ne_zero, Nat.reduceEqDiff]
  refine msm_pls (n := 1) (k' := 7) (lo' := [some (.ref 14), some (.int 0)]) (S' := [.ref 14]) (h' := h26) rfl ?_
  first
    | refine msm_call hc26 (mim_up (mi_open (d := d) ht) (by omega)) rfl rfl rfl rfl rfl rfl rfl rfl (ai_rcv1 rfl rfl (mcs_rcv hc26).choose_spec) (fun v27 s27 h27 f27 hc27 => ?_)
    | refine msm_callL hc26 (mim_up (mi_open (d := d) ht) (by omega)) rfl rfl rfl rfl rfl rfl rfl rfl (ai_rcv1 rfl rfl (mcs_rcv hc26).choose_spec) (fun v27 s27 h27 f27 hc27 => ?_)
  show msm L xs e Y K _ qm_154 8 [some (.ref 14), some (.int 0)] [] h27 _ _ _
  try simp only [zq, zi, zc, zv, zf, zci_eq, zsi_eq, zsk_eq, zbd_zbd, zbd_some, zbd_fault, zbd_none, zite0, zite1, ↓reduceIte, Nat.one_ne_zero, Nat.reduceEqDiff]
  refine msm_pls (n := 1) (k' := 9) (lo' := [some (.ref 14), some (.int 0)]) (S' := [.int 0]) (h' := h27) rfl ?_
  refine msm_if true rfl (rfl) rfl ?_
  refine msm_pls (n := 2) (k' := 19) (lo' := [some (.ref 14), some (.int 0)]) (S' := [.retAddr 1037, .ref 14]) (h' := h27) rfl ?_
  by_cases t28 : ztk e s27.1 = 22
  · skip
    try simp only [zq, zi, zc, zv, zf, zci_eq, zsi_eq, zsk_eq, zbd_zbd, zbd_some, zbd_fault, zbd_none, zite0, zite1, ↓reduceIte, Nat.one_ne_zero, Nat.reduceEqDiff, t28]
    refine msm_took hc27 (mim_up (mi_takes (d := d) (k := 22) ht (by decide) (by decide)) (by omega)) t28 rfl rfl rfl rfl rfl rfl rfl rfl (ai_rcv1 rfl rfl (mcs_rcv hc27).choose_spec) (fun v29 s29 h29 f29 hc29 => ?_)
    show msm L xs e Y K _ qm_154 20 [some (.ref 14), some (.int 0)] [.int 1] h29 _ _ _
    try simp only [zq, zi, zc, zv, zf, zci_eq, zsi_eq, zsk_eq, zbd_zbd, zbd_some, zbd_fault, zbd_none, zite0, zite1, ↓reduceIte, Nat.one_ne_zero, Nat.reduceEqDiff]
    refine msm_pls (n := 2) (k' := 22) (lo' := [some (.ref 14), some (.int 0)]) (S' := [.ref 14]) (h' := h29) rfl ?_
    first
      | refine msm_call hc29 (mim_up (hex) (by omega)) rfl rfl rfl rfl rfl rfl rfl rfl (ai_rcv1 rfl rfl (mcs_rcv hc29).choose_spec) (fun v30 s30 h30 f30 hc30 => ?_)
      | refine msm_callL hc29 (mim_up (hex) (by omega)) rfl rfl rfl rfl rfl rfl rfl rfl (ai_rcv1 rfl rfl (mcs_rcv hc29).choose_spec) (fun v30 s30 h30 f30 hc30 => ?_)
    show msm L xs e Y K _ qm_154 23 [some (.ref 14), some (.int 0)] [] h30 _ _ _
    try simp only [zq, zi, zc, zv, zf, zci_eq, zsi_eq, zsk_eq, zbd_zbd, zbd_some, zbd_fault, zbd_none, zite0, zite1, ↓reduceIte, Nat.one_ne_zero, Nat.reduceEqDiff]
    refine msm_pls (n := 1) (k' := 24) (lo' := [some (.ref 14), some (.int 0)]) (S' := [.ref 14]) (h' := h30) rfl ?_
    first
      | refine msm_call hc30 (mim_up (mi_close (d := d) ht) (by omega)) rfl rfl rfl rfl rfl rfl rfl rfl (ai_rcv1 rfl rfl (mcs_rcv hc30).choose_spec) (fun v31 s31 h31 f31 hc31 => ?_)
      | refine msm_callL hc30 (mim_up (mi_close (d := d) ht) (by omega)) rfl rfl rfl rfl rfl rfl rfl rfl (ai_rcv1 rfl rfl (mcs_rcv hc30).choose_spec) (fun v31 s31 h31 f31 hc31 => ?_)
    show msm L xs e Y K _ qm_154 25 [some (.ref 14), some (.int 0)] [] h31 _ _ _
    try simp only [zq, zi, zc, zv, zf, zci_eq, zsi_eq, zsk_eq, zbd_zbd, zbd_some, zbd_fault, zbd_none, zite0, zite1, ↓reduceIte, Nat.one_ne_zero, Nat.reduceEqDiff]
    exact msm_ret7 hc31 rfl
  · skip
    try simp only [zq, zi, zc, zv, zf, zci_eq, zsi_eq, zsk_eq, zbd_zbd, zbd_some, zbd_fault, zbd_none, zite0, zite1, ↓reduceIte, Nat.one_ne_zero, Nat.reduceEqDiff, t28]
    refine msm_left hc27 (mim_up (mi_takes (d := d) (k := 22) ht (by decide) (by decide)) (by omega)) t28 rfl rfl rfl rfl rfl rfl rfl rfl (ai_rcv1 rfl rfl (mcs_rcv hc27).choose_spec) (fun h32 hc32 => ?_)
    show msm L xs e Y K _ qm_154 20 [some (.ref 14), some (.int 0)] [.int 0] h32 _ _ _
    refine msm_pls (n := 2) (k' := 22) (lo' := [some (.ref 14), some (.int 0)]) (S' := [.ref 14]) (h' := h32) rfl ?_
    first
      | refine msm_call hc32 (mim_up (hex) (by omega)) rfl rfl rfl rfl rfl rfl rfl rfl (ai_rcv1 rfl rfl (mcs_rcv hc32).choose_spec) (fun v33 s33 h33 f33 hc33 => ?_)
      | refine msm_callL hc32 (mim_up (hex) (by omega)) rfl rfl rfl rfl rfl rfl rfl rfl (ai_rcv1 rfl rfl (mcs_rcv hc32).choose_spec) (fun v33 s33 h33 f33 hc33 => ?_)
    show msm L xs e Y K _ qm_154 23 [some (.ref 14), some (.int 0)] [] h33 _ _ _
    try simp only [zq, zi, zc, zv, zf, zci_eq, zsi_eq, zsk_eq, zbd_zbd, zbd_some, zbd_fault, zbd_none, zite0, zite1, ↓reduceIte, Nat.one_ne_zero, Nat.reduceEqDiff]
    refine msm_pls (n := 1) (k' := 24) (lo' := [some (.ref 14), some (.int 0)]) (S' := [.ref 14]) (h' := h33) rfl ?_
    first
      | refine msm_call hc33 (mim_up (mi_close (d := d) ht) (by omega)) rfl rfl rfl rfl rfl rfl rfl rfl (ai_rcv1 rfl rfl (mcs_rcv hc33).choose_spec) (fun v34 s34 h34 f34 hc34 => ?_)
      | refine msm_callL hc33 (mim_up (mi_close (d := d) ht) (by omega)) rfl rfl rfl rfl rfl rfl rfl rfl (ai_rcv1 rfl rfl (mcs_rcv hc33).choose_spec) (fun v34 s34 h34 f34 hc34 => ?_)
    show msm L xs e Y K _ qm_154 25 [some (.ref 14), some (.int 0)] [] h34 _ _ _
    try simp only [zq, zi, zc, zv, zf, zci_eq, zsi_eq, zsk_eq, zbd_zbd, zbd_some, zbd_fault, zbd_none, zite0, zite1, ↓reduceIte, Nat.one_ne_zero, Nat.reduceEqDiff]
    exact msm_ret7 hc34 rfl
theorem m_agg47 (ht : mtk e Y) (hex : mim L xs e Y K d 140 [.ref 14] 0 ex) (hc : mcs e Y K P s h) (t : ztk e s.1 = 47) : msm L xs e Y K (d + 9) qm_154 0 [some (.ref 14), none] [] h 0 P (z_agg e ex s) := by
  simp only [z_agg, zq, zi, zc, zv, zf, zci_eq, t, zbd_zbd, zbd_some, zbd_fault, zbd_none, ↓reduceIte, Nat.one_ne_zero, Nat.reduceEqDiff]
  refine msm_pls (n := 2) (k' := 2) (lo' := [some (.ref 14), none]) (S' := [.retAddr 1031, .ref 14]) (h' := h) rfl ?_
  refine msm_ask (by have hh := m_isWord (L := L) (xs := xs) (d := d) ht hc (k := 16) (by decide); rw [if_neg (show ¬ ztk e s.1 = 16 from fun q => absurd (t.symm.trans q) (by decide))] at hh; exact qe_up (by omega) hh) rfl rfl rfl rfl rfl rfl rfl (ai_rcv1 rfl rfl (mcs_rcv hc).choose_spec) ?_
  show msm L xs e Y K _ qm_154 3 [some (.ref 14), none] [.int 0] h _ _ _
  refine msm_pls (n := 2) (k' := 5) (lo' := [some (.ref 14), some (.int 0)]) (S' := [.ref 14]) (h' := h) rfl ?_
  first
    | refine msm_keep ht hc (kk := 47) (by decide) (by decide) t rfl rfl rfl rfl rfl rfl rfl rfl (ai_rcv1 rfl rfl (mcs_rcv hc).choose_spec) (fun s35 h35 hc35 => ?_)
  show msm L xs e Y K _ qm_154 6 [some (.ref 14), some (.int 0)] [] h35 _ _ _
  try simp only [zq, zi, zc, zv, zf, zci_eq, zsi_eq, zsk_eq, zbd_zbd, zbd_some, zbd_fault, zbd_none, zite0, zite1, ↓reduceIte, Nat.one_ne_zero, Nat.reduceEqDiff]
  refine msm_pls (n := 1) (k' := 7) (lo' := [some (.ref 14), some (.int 0)]) (S' := [.ref 14]) (h' := h35) rfl ?_
  first
    | refine msm_call hc35 (mim_up (mi_open (d := d) ht) (by omega)) rfl rfl rfl rfl rfl rfl rfl rfl (ai_rcv1 rfl rfl (mcs_rcv hc35).choose_spec) (fun v36 s36 h36 f36 hc36 => ?_)
    | refine msm_callL hc35 (mim_up (mi_open (d := d) ht) (by omega)) rfl rfl rfl rfl rfl rfl rfl rfl (ai_rcv1 rfl rfl (mcs_rcv hc35).choose_spec) (fun v36 s36 h36 f36 hc36 => ?_)
  show msm L xs e Y K _ qm_154 8 [some (.ref 14), some (.int 0)] [] h36 _ _ _
  try simp only [zq, zi, zc, zv, zf, zci_eq, zsi_eq, zsk_eq, zbd_zbd, zbd_some, zbd_fault, zbd_none, zite0, zite1, ↓reduceIte, Nat.one_ne_zero, Nat.reduceEqDiff]
  refine msm_pls (n := 1) (k' := 9) (lo' := [some (.ref 14), some (.int 0)]) (S' := [.int 0]) (h' := h36) rfl ?_
  refine msm_if true rfl (rfl) rfl ?_
  refine msm_pls (n := 2) (k' := 19) (lo' := [some (.ref 14), some (.int 0)]) (S' := [.retAddr 1037, .ref 14]) (h' := h36) rfl ?_
  by_cases t37 : ztk e s36.1 = 22
  · skip
    try simp only [zq, zi, zc, zv, zf, zci_eq, zsi_eq, zsk_eq, zbd_zbd, zbd_some, zbd_fault, zbd_none, zite0, zite1, ↓reduceIte, Nat.one_ne_zero, Nat.reduceEqDiff, t37]
    refine msm_took hc36 (mim_up (mi_takes (d := d) (k := 22) ht (by decide) (by decide)) (by omega)) t37 rfl rfl rfl rfl rfl rfl rfl rfl (ai_rcv1 rfl rfl (mcs_rcv hc36).choose_spec) (fun v38 s38 h38 f38 hc38 => ?_)
    show msm L xs e Y K _ qm_154 20 [some (.ref 14), some (.int 0)] [.int 1] h38 _ _ _
    try simp only [zq, zi, zc, zv, zf, zci_eq, zsi_eq, zsk_eq, zbd_zbd, zbd_some, zbd_fault, zbd_none, zite0, zite1, ↓reduceIte, Nat.one_ne_zero, Nat.reduceEqDiff]
    refine msm_pls (n := 2) (k' := 22) (lo' := [some (.ref 14), some (.int 0)]) (S' := [.ref 14]) (h' := h38) rfl ?_
    first
      | refine msm_call hc38 (mim_up (hex) (by omega)) rfl rfl rfl rfl rfl rfl rfl rfl (ai_rcv1 rfl rfl (mcs_rcv hc38).choose_spec) (fun v39 s39 h39 f39 hc39 => ?_)
      | refine msm_callL hc38 (mim_up (hex) (by omega)) rfl rfl rfl rfl rfl rfl rfl rfl (ai_rcv1 rfl rfl (mcs_rcv hc38).choose_spec) (fun v39 s39 h39 f39 hc39 => ?_)
    show msm L xs e Y K _ qm_154 23 [some (.ref 14), some (.int 0)] [] h39 _ _ _
    try simp only [zq, zi, zc, zv, zf, zci_eq, zsi_eq, zsk_eq, zbd_zbd, zbd_some, zbd_fault, zbd_none, zite0, zite1, ↓reduceIte, Nat.one_ne_zero, Nat.reduceEqDiff]
    refine msm_pls (n := 1) (k' := 24) (lo' := [some (.ref 14), some (.int 0)]) (S' := [.ref 14]) (h' := h39) rfl ?_
    first
      | refine msm_call hc39 (mim_up (mi_close (d := d) ht) (by omega)) rfl rfl rfl rfl rfl rfl rfl rfl (ai_rcv1 rfl rfl (mcs_rcv hc39).choose_spec) (fun v40 s40 h40 f40 hc40 => ?_)
      | refine msm_callL hc39 (mim_up (mi_close (d := d) ht) (by omega)) rfl rfl rfl rfl rfl rfl rfl rfl (ai_rcv1 rfl rfl (mcs_rcv hc39).choose_spec) (fun v40 s40 h40 f40 hc40 => ?_)
    show msm L xs e Y K _ qm_154 25 [some (.ref 14), some (.int 0)] [] h40 _ _ _
    try simp only [zq, zi, zc, zv, zf, zci_eq, zsi_eq, zsk_eq, zbd_zbd, zbd_some, zbd_fault, zbd_none, zite0, zite1, ↓reduceIte, Nat.one_ne_zero, Nat.reduceEqDiff]
    exact msm_ret7 hc40 rfl
  · skip
    try simp only [zq, zi, zc, zv, zf, zci_eq, zsi_eq, zsk_eq, zbd_zbd, zbd_some, zbd_fault, zbd_none, zite0, zite1, ↓reduceIte, Nat.one_ne_zero, Nat.reduceEqDiff, t37]
    refine msm_left hc36 (mim_up (mi_takes (d := d) (k := 22) ht (by decide) (by decide)) (by omega)) t37 rfl rfl rfl rfl rfl rfl rfl rfl (ai_rcv1 rfl rfl (mcs_rcv hc36).choose_spec) (fun h41 hc41 => ?_)
    show msm L xs e Y K _ qm_154 20 [some (.ref 14), some (.int 0)] [.int 0] h41 _ _ _
    refine msm_pls (n := 2) (k' := 22) (lo' := [some (.ref 14), some (.int 0)]) (S' := [.ref 14]) (h' := h41) rfl ?_
    first
      | refine msm_call hc41 (mim_up (hex) (by omega)) rfl rfl rfl rfl rfl rfl rfl rfl (ai_rcv1 rfl rfl (mcs_rcv hc41).choose_spec) (fun v42 s42 h42 f42 hc42 => ?_)
      | refine msm_callL hc41 (mim_up (hex) (by omega)) rfl rfl rfl rfl rfl rfl rfl rfl (ai_rcv1 rfl rfl (mcs_rcv hc41).choose_spec) (fun v42 s42 h42 f42 hc42 => ?_)
    show msm L xs e Y K _ qm_154 23 [some (.ref 14), some (.int 0)] [] h42 _ _ _
    try simp only [zq, zi, zc, zv, zf, zci_eq, zsi_eq, zsk_eq, zbd_zbd, zbd_some, zbd_fault, zbd_none, zite0, zite1, ↓reduceIte, Nat.one_ne_zero, Nat.reduceEqDiff]
    refine msm_pls (n := 1) (k' := 24) (lo' := [some (.ref 14), some (.int 0)]) (S' := [.ref 14]) (h' := h42) rfl ?_
    first
      | refine msm_call hc42 (mim_up (mi_close (d := d) ht) (by omega)) rfl rfl rfl rfl rfl rfl rfl rfl (ai_rcv1 rfl rfl (mcs_rcv hc42).choose_spec) (fun v43 s43 h43 f43 hc43 => ?_)
      | refine msm_callL hc42 (mim_up (mi_close (d := d) ht) (by omega)) rfl rfl rfl rfl rfl rfl rfl rfl (ai_rcv1 rfl rfl (mcs_rcv hc42).choose_spec) (fun v43 s43 h43 f43 hc43 => ?_)
    show msm L xs e Y K _ qm_154 25 [some (.ref 14), some (.int 0)] [] h43 _ _ _
    try simp only [zq, zi, zc, zv, zf, zci_eq, zsi_eq, zsk_eq, zbd_zbd, zbd_some, zbd_fault, zbd_none, zite0, zite1, ↓reduceIte, Nat.one_ne_zero, Nat.reduceEqDiff]
    exact msm_ret7 hc43 rfl
theorem m_agg46 (ht : mtk e Y) (hex : mim L xs e Y K d 140 [.ref 14] 0 ex) (hc : mcs e Y K P s h) (t : ztk e s.1 = 46) : msm L xs e Y K (d + 9) qm_154 0 [some (.ref 14), none] [] h 0 P (z_agg e ex s) := by
  simp only [z_agg, zq, zi, zc, zv, zf, zci_eq, t, zbd_zbd, zbd_some, zbd_fault, zbd_none, ↓reduceIte, Nat.one_ne_zero, Nat.reduceEqDiff]
  refine msm_pls (n := 2) (k' := 2) (lo' := [some (.ref 14), none]) (S' := [.retAddr 1031, .ref 14]) (h' := h) rfl ?_
  refine msm_ask (by have hh := m_isWord (L := L) (xs := xs) (d := d) ht hc (k := 16) (by decide); rw [if_neg (show ¬ ztk e s.1 = 16 from fun q => absurd (t.symm.trans q) (by decide))] at hh; exact qe_up (by omega) hh) rfl rfl rfl rfl rfl rfl rfl (ai_rcv1 rfl rfl (mcs_rcv hc).choose_spec) ?_
  show msm L xs e Y K _ qm_154 3 [some (.ref 14), none] [.int 0] h _ _ _
  refine msm_pls (n := 2) (k' := 5) (lo' := [some (.ref 14), some (.int 0)]) (S' := [.ref 14]) (h' := h) rfl ?_
  first
    | refine msm_keep ht hc (kk := 46) (by decide) (by decide) t rfl rfl rfl rfl rfl rfl rfl rfl (ai_rcv1 rfl rfl (mcs_rcv hc).choose_spec) (fun s44 h44 hc44 => ?_)
  show msm L xs e Y K _ qm_154 6 [some (.ref 14), some (.int 0)] [] h44 _ _ _
  try simp only [zq, zi, zc, zv, zf, zci_eq, zsi_eq, zsk_eq, zbd_zbd, zbd_some, zbd_fault, zbd_none, zite0, zite1, ↓reduceIte, Nat.one_ne_zero, Nat.reduceEqDiff]
  refine msm_pls (n := 1) (k' := 7) (lo' := [some (.ref 14), some (.int 0)]) (S' := [.ref 14]) (h' := h44) rfl ?_
  first
    | refine msm_call hc44 (mim_up (mi_open (d := d) ht) (by omega)) rfl rfl rfl rfl rfl rfl rfl rfl (ai_rcv1 rfl rfl (mcs_rcv hc44).choose_spec) (fun v45 s45 h45 f45 hc45 => ?_)
    | refine msm_callL hc44 (mim_up (mi_open (d := d) ht) (by omega)) rfl rfl rfl rfl rfl rfl rfl rfl (ai_rcv1 rfl rfl (mcs_rcv hc44).choose_spec) (fun v45 s45 h45 f45 hc45 => ?_)
  show msm L xs e Y K _ qm_154 8 [some (.ref 14), some (.int 0)] [] h45 _ _ _
  try simp only [zq, zi, zc, zv, zf, zci_eq, zsi_eq, zsk_eq, zbd_zbd, zbd_some, zbd_fault, zbd_none, zite0, zite1, ↓reduceIte, Nat.one_ne_zero, Nat.reduceEqDiff]
  refine msm_pls (n := 1) (k' := 9) (lo' := [some (.ref 14), some (.int 0)]) (S' := [.int 0]) (h' := h45) rfl ?_
  refine msm_if true rfl (rfl) rfl ?_
  refine msm_pls (n := 2) (k' := 19) (lo' := [some (.ref 14), some (.int 0)]) (S' := [.retAddr 1037, .ref 14]) (h' := h45) rfl ?_
  by_cases t46 : ztk e s45.1 = 22
  · skip
    try simp only [zq, zi, zc, zv, zf, zci_eq, zsi_eq, zsk_eq, zbd_zbd, zbd_some, zbd_fault, zbd_none, zite0, zite1, ↓reduceIte, Nat.one_ne_zero, Nat.reduceEqDiff, t46]
    refine msm_took hc45 (mim_up (mi_takes (d := d) (k := 22) ht (by decide) (by decide)) (by omega)) t46 rfl rfl rfl rfl rfl rfl rfl rfl (ai_rcv1 rfl rfl (mcs_rcv hc45).choose_spec) (fun v47 s47 h47 f47 hc47 => ?_)
    show msm L xs e Y K _ qm_154 20 [some (.ref 14), some (.int 0)] [.int 1] h47 _ _ _
    try simp only [zq, zi, zc, zv, zf, zci_eq, zsi_eq, zsk_eq, zbd_zbd, zbd_some, zbd_fault, zbd_none, zite0, zite1, ↓reduceIte, Nat.one_ne_zero, Nat.reduceEqDiff]
    refine msm_pls (n := 2) (k' := 22) (lo' := [some (.ref 14), some (.int 0)]) (S' := [.ref 14]) (h' := h47) rfl ?_
    first
      | refine msm_call hc47 (mim_up (hex) (by omega)) rfl rfl rfl rfl rfl rfl rfl rfl (ai_rcv1 rfl rfl (mcs_rcv hc47).choose_spec) (fun v48 s48 h48 f48 hc48 => ?_)
      | refine msm_callL hc47 (mim_up (hex) (by omega)) rfl rfl rfl rfl rfl rfl rfl rfl (ai_rcv1 rfl rfl (mcs_rcv hc47).choose_spec) (fun v48 s48 h48 f48 hc48 => ?_)
    show msm L xs e Y K _ qm_154 23 [some (.ref 14), some (.int 0)] [] h48 _ _ _
    try simp only [zq, zi, zc, zv, zf, zci_eq, zsi_eq, zsk_eq, zbd_zbd, zbd_some, zbd_fault, zbd_none, zite0, zite1, ↓reduceIte, Nat.one_ne_zero, Nat.reduceEqDiff]
    refine msm_pls (n := 1) (k' := 24) (lo' := [some (.ref 14), some (.int 0)]) (S' := [.ref 14]) (h' := h48) rfl ?_
    first
      | refine msm_call hc48 (mim_up (mi_close (d := d) ht) (by omega)) rfl rfl rfl rfl rfl rfl rfl rfl (ai_rcv1 rfl rfl (mcs_rcv hc48).choose_spec) (fun v49 s49 h49 f49 hc49 => ?_)
      | refine msm_callL hc48 (mim_up (mi_close (d := d) ht) (by omega)) rfl rfl rfl rfl rfl rfl rfl rfl (ai_rcv1 rfl rfl (mcs_rcv hc48).choose_spec) (fun v49 s49 h49 f49 hc49 => ?_)
    show msm L xs e Y K _ qm_154 25 [some (.ref 14), some (.int 0)] [] h49 _ _ _
    try simp only [zq, zi, zc, zv, zf, zci_eq, zsi_eq, zsk_eq, zbd_zbd, zbd_some, zbd_fault, zbd_none, zite0, zite1, ↓reduceIte, Nat.one_ne_zero, Nat.reduceEqDiff]
    exact msm_ret7 hc49 rfl
  · skip
    try simp only [zq, zi, zc, zv, zf, zci_eq, zsi_eq, zsk_eq, zbd_zbd, zbd_some, zbd_fault, zbd_none, zite0, zite1, ↓reduceIte, Nat.one_ne_zero, Nat.reduceEqDiff, t46]
    refine msm_left hc45 (mim_up (mi_takes (d := d) (k := 22) ht (by decide) (by decide)) (by omega)) t46 rfl rfl rfl rfl rfl rfl rfl rfl (ai_rcv1 rfl rfl (mcs_rcv hc45).choose_spec) (fun h50 hc50 => ?_)
    show msm L xs e Y K _ qm_154 20 [some (.ref 14), some (.int 0)] [.int 0] h50 _ _ _
    refine msm_pls (n := 2) (k' := 22) (lo' := [some (.ref 14), some (.int 0)]) (S' := [.ref 14]) (h' := h50) rfl ?_
    first
      | refine msm_call hc50 (mim_up (hex) (by omega)) rfl rfl rfl rfl rfl rfl rfl rfl (ai_rcv1 rfl rfl (mcs_rcv hc50).choose_spec) (fun v51 s51 h51 f51 hc51 => ?_)
      | refine msm_callL hc50 (mim_up (hex) (by omega)) rfl rfl rfl rfl rfl rfl rfl rfl (ai_rcv1 rfl rfl (mcs_rcv hc50).choose_spec) (fun v51 s51 h51 f51 hc51 => ?_)
    show msm L xs e Y K _ qm_154 23 [some (.ref 14), some (.int 0)] [] h51 _ _ _
    try simp only [zq, zi, zc, zv, zf, zci_eq, zsi_eq, zsk_eq, zbd_zbd, zbd_some, zbd_fault, zbd_none, zite0, zite1, ↓reduceIte, Nat.one_ne_zero, Nat.reduceEqDiff]
    refine msm_pls (n := 1) (k' := 24) (lo' := [some (.ref 14), some (.int 0)]) (S' := [.ref 14]) (h' := h51) rfl ?_
    first
      | refine msm_call hc51 (mim_up (mi_close (d := d) ht) (by omega)) rfl rfl rfl rfl rfl rfl rfl rfl (ai_rcv1 rfl rfl (mcs_rcv hc51).choose_spec) (fun v52 s52 h52 f52 hc52 => ?_)
      | refine msm_callL hc51 (mim_up (mi_close (d := d) ht) (by omega)) rfl rfl rfl rfl rfl rfl rfl rfl (ai_rcv1 rfl rfl (mcs_rcv hc51).choose_spec) (fun v52 s52 h52 f52 hc52 => ?_)
    show msm L xs e Y K _ qm_154 25 [some (.ref 14), some (.int 0)] [] h52 _ _ _
    try simp only [zq, zi, zc, zv, zf, zci_eq, zsi_eq, zsk_eq, zbd_zbd, zbd_some, zbd_fault, zbd_none, zite0, zite1, ↓reduceIte, Nat.one_ne_zero, Nat.reduceEqDiff]
    exact msm_ret7 hc52 rfl
theorem m_agg5 (ht : mtk e Y) (hex : mim L xs e Y K d 140 [.ref 14] 0 ex) (hc : mcs e Y K P s h) (t : ztk e s.1 = 5) : msm L xs e Y K (d + 9) qm_154 0 [some (.ref 14), none] [] h 0 P (z_agg e ex s) := by
  simp only [z_agg, zq, zi, zc, zv, zf, zci_eq, t, zbd_zbd, zbd_some, zbd_fault, zbd_none, ↓reduceIte, Nat.one_ne_zero, Nat.reduceEqDiff]
  refine msm_pls (n := 2) (k' := 2) (lo' := [some (.ref 14), none]) (S' := [.retAddr 1031, .ref 14]) (h' := h) rfl ?_
  refine msm_ask (by have hh := m_isWord (L := L) (xs := xs) (d := d) ht hc (k := 16) (by decide); rw [if_neg (show ¬ ztk e s.1 = 16 from fun q => absurd (t.symm.trans q) (by decide))] at hh; exact qe_up (by omega) hh) rfl rfl rfl rfl rfl rfl rfl (ai_rcv1 rfl rfl (mcs_rcv hc).choose_spec) ?_
  show msm L xs e Y K _ qm_154 3 [some (.ref 14), none] [.int 0] h _ _ _
  refine msm_pls (n := 2) (k' := 5) (lo' := [some (.ref 14), some (.int 0)]) (S' := [.ref 14]) (h' := h) rfl ?_
  first
    | refine msm_keep ht hc (kk := 5) (by decide) (by decide) t rfl rfl rfl rfl rfl rfl rfl rfl (ai_rcv1 rfl rfl (mcs_rcv hc).choose_spec) (fun s53 h53 hc53 => ?_)
  show msm L xs e Y K _ qm_154 6 [some (.ref 14), some (.int 0)] [] h53 _ _ _
  try simp only [zq, zi, zc, zv, zf, zci_eq, zsi_eq, zsk_eq, zbd_zbd, zbd_some, zbd_fault, zbd_none, zite0, zite1, ↓reduceIte, Nat.one_ne_zero, Nat.reduceEqDiff]
  refine msm_pls (n := 1) (k' := 7) (lo' := [some (.ref 14), some (.int 0)]) (S' := [.ref 14]) (h' := h53) rfl ?_
  first
    | refine msm_call hc53 (mim_up (mi_open (d := d) ht) (by omega)) rfl rfl rfl rfl rfl rfl rfl rfl (ai_rcv1 rfl rfl (mcs_rcv hc53).choose_spec) (fun v54 s54 h54 f54 hc54 => ?_)
    | refine msm_callL hc53 (mim_up (mi_open (d := d) ht) (by omega)) rfl rfl rfl rfl rfl rfl rfl rfl (ai_rcv1 rfl rfl (mcs_rcv hc53).choose_spec) (fun v54 s54 h54 f54 hc54 => ?_)
  show msm L xs e Y K _ qm_154 8 [some (.ref 14), some (.int 0)] [] h54 _ _ _
  try simp only [zq, zi, zc, zv, zf, zci_eq, zsi_eq, zsk_eq, zbd_zbd, zbd_some, zbd_fault, zbd_none, zite0, zite1, ↓reduceIte, Nat.one_ne_zero, Nat.reduceEqDiff]
  refine msm_pls (n := 1) (k' := 9) (lo' := [some (.ref 14), some (.int 0)]) (S' := [.int 0]) (h' := h54) rfl ?_
  refine msm_if true rfl (rfl) rfl ?_
  refine msm_pls (n := 2) (k' := 19) (lo' := [some (.ref 14), some (.int 0)]) (S' := [.retAddr 1037, .ref 14]) (h' := h54) rfl ?_
  by_cases t55 : ztk e s54.1 = 22
  · skip
    try simp only [zq, zi, zc, zv, zf, zci_eq, zsi_eq, zsk_eq, zbd_zbd, zbd_some, zbd_fault, zbd_none, zite0, zite1, ↓reduceIte, Nat.one_ne_zero, Nat.reduceEqDiff, t55]
    refine msm_took hc54 (mim_up (mi_takes (d := d) (k := 22) ht (by decide) (by decide)) (by omega)) t55 rfl rfl rfl rfl rfl rfl rfl rfl (ai_rcv1 rfl rfl (mcs_rcv hc54).choose_spec) (fun v56 s56 h56 f56 hc56 => ?_)
    show msm L xs e Y K _ qm_154 20 [some (.ref 14), some (.int 0)] [.int 1] h56 _ _ _
    try simp only [zq, zi, zc, zv, zf, zci_eq, zsi_eq, zsk_eq, zbd_zbd, zbd_some, zbd_fault, zbd_none, zite0, zite1, ↓reduceIte, Nat.one_ne_zero, Nat.reduceEqDiff]
    refine msm_pls (n := 2) (k' := 22) (lo' := [some (.ref 14), some (.int 0)]) (S' := [.ref 14]) (h' := h56) rfl ?_
    first
      | refine msm_call hc56 (mim_up (hex) (by omega)) rfl rfl rfl rfl rfl rfl rfl rfl (ai_rcv1 rfl rfl (mcs_rcv hc56).choose_spec) (fun v57 s57 h57 f57 hc57 => ?_)
      | refine msm_callL hc56 (mim_up (hex) (by omega)) rfl rfl rfl rfl rfl rfl rfl rfl (ai_rcv1 rfl rfl (mcs_rcv hc56).choose_spec) (fun v57 s57 h57 f57 hc57 => ?_)
    show msm L xs e Y K _ qm_154 23 [some (.ref 14), some (.int 0)] [] h57 _ _ _
    try simp only [zq, zi, zc, zv, zf, zci_eq, zsi_eq, zsk_eq, zbd_zbd, zbd_some, zbd_fault, zbd_none, zite0, zite1, ↓reduceIte, Nat.one_ne_zero, Nat.reduceEqDiff]
    refine msm_pls (n := 1) (k' := 24) (lo' := [some (.ref 14), some (.int 0)]) (S' := [.ref 14]) (h' := h57) rfl ?_
    first
      | refine msm_call hc57 (mim_up (mi_close (d := d) ht) (by omega)) rfl rfl rfl rfl rfl rfl rfl rfl (ai_rcv1 rfl rfl (mcs_rcv hc57).choose_spec) (fun v58 s58 h58 f58 hc58 => ?_)
      | refine msm_callL hc57 (mim_up (mi_close (d := d) ht) (by omega)) rfl rfl rfl rfl rfl rfl rfl rfl (ai_rcv1 rfl rfl (mcs_rcv hc57).choose_spec) (fun v58 s58 h58 f58 hc58 => ?_)
    show msm L xs e Y K _ qm_154 25 [some (.ref 14), some (.int 0)] [] h58 _ _ _
    try simp only [zq, zi, zc, zv, zf, zci_eq, zsi_eq, zsk_eq, zbd_zbd, zbd_some, zbd_fault, zbd_none, zite0, zite1, ↓reduceIte, Nat.one_ne_zero, Nat.reduceEqDiff]
    exact msm_ret7 hc58 rfl
  · skip
    try simp only [zq, zi, zc, zv, zf, zci_eq, zsi_eq, zsk_eq, zbd_zbd, zbd_some, zbd_fault, zbd_none, zite0, zite1, ↓reduceIte, Nat.one_ne_zero, Nat.reduceEqDiff, t55]
    refine msm_left hc54 (mim_up (mi_takes (d := d) (k := 22) ht (by decide) (by decide)) (by omega)) t55 rfl rfl rfl rfl rfl rfl rfl rfl (ai_rcv1 rfl rfl (mcs_rcv hc54).choose_spec) (fun h59 hc59 => ?_)
    show msm L xs e Y K _ qm_154 20 [some (.ref 14), some (.int 0)] [.int 0] h59 _ _ _
    refine msm_pls (n := 2) (k' := 22) (lo' := [some (.ref 14), some (.int 0)]) (S' := [.ref 14]) (h' := h59) rfl ?_
    first
      | refine msm_call hc59 (mim_up (hex) (by omega)) rfl rfl rfl rfl rfl rfl rfl rfl (ai_rcv1 rfl rfl (mcs_rcv hc59).choose_spec) (fun v60 s60 h60 f60 hc60 => ?_)
      | refine msm_callL hc59 (mim_up (hex) (by omega)) rfl rfl rfl rfl rfl rfl rfl rfl (ai_rcv1 rfl rfl (mcs_rcv hc59).choose_spec) (fun v60 s60 h60 f60 hc60 => ?_)
    show msm L xs e Y K _ qm_154 23 [some (.ref 14), some (.int 0)] [] h60 _ _ _
    try simp only [zq, zi, zc, zv, zf, zci_eq, zsi_eq, zsk_eq, zbd_zbd, zbd_some, zbd_fault, zbd_none, zite0, zite1, ↓reduceIte, Nat.one_ne_zero, Nat.reduceEqDiff]
    refine msm_pls (n := 1) (k' := 24) (lo' := [some (.ref 14), some (.int 0)]) (S' := [.ref 14]) (h' := h60) rfl ?_
    first
      | refine msm_call hc60 (mim_up (mi_close (d := d) ht) (by omega)) rfl rfl rfl rfl rfl rfl rfl rfl (ai_rcv1 rfl rfl (mcs_rcv hc60).choose_spec) (fun v61 s61 h61 f61 hc61 => ?_)
      | refine msm_callL hc60 (mim_up (mi_close (d := d) ht) (by omega)) rfl rfl rfl rfl rfl rfl rfl rfl (ai_rcv1 rfl rfl (mcs_rcv hc60).choose_spec) (fun v61 s61 h61 f61 hc61 => ?_)
    show msm L xs e Y K _ qm_154 25 [some (.ref 14), some (.int 0)] [] h61 _ _ _
    try simp only [zq, zi, zc, zv, zf, zci_eq, zsi_eq, zsk_eq, zbd_zbd, zbd_some, zbd_fault, zbd_none, zite0, zite1, ↓reduceIte, Nat.one_ne_zero, Nat.reduceEqDiff]
    exact msm_ret7 hc61 rfl
/-- QueryReaderModel.aggregate -/
theorem ms_agg (ht : mtk e Y) (hex : mim L xs e Y K d 140 [.ref 14] 0 ex) : mim L xs e Y K (d + 10) 154 [.ref 14] 0 (zag e ex) := by
  refine mim_of (M := qm_154) rfl rfl (fun P s h hc => ?_)
  show msm L xs e Y K _ qm_154 0 [some (.ref 14), none] [] h _ _ _
  unfold zag
  by_cases t : ztk e s.1 = 16 ∨ ztk e s.1 = 70 ∨ ztk e s.1 = 47 ∨ ztk e s.1 = 46 ∨ ztk e s.1 = 5
  · rw [if_pos t]
    rcases t with t | t | t | t | t
    · exact m_agg16 ht hex hc t
    · exact m_agg70 ht hex hc t
    · exact m_agg47 ht hex hc t
    · exact m_agg46 ht hex hc t
    · exact m_agg5 ht hex hc t
  · rw [if_neg t]; exact msm_none
def z_call (e : zE) (ex qy : zP) : zP := fun s => if ztk e s.1 = 27 then zq (zcp e 27) (zq (zcp e 82) (zq qy (zcp e 83))) s else if ztk e s.1 = 10 then z_cases e ex s else z_fun e ex s
/-- QueryReaderModel.call -/
theorem ms_call (ht : mtk e Y) (hex : mim L xs e Y K d 140 [.ref 14] 0 ex) (hqy : mim L xs e Y K (d + 10) 133 [.ref 14] 0 qy) : mim L xs e Y K (d + 11) 146 [.ref 14] 0 (z_call e ex qy) := by
  refine mim_of (M := qm_146) rfl rfl (fun P s h hc => ?_)
  show msm L xs e Y K _ qm_146 0 [some (.ref 14), none, none, none] [] h _ _ _
  simp only [z_call, z_fun, z_args, z_a23, z_a22, z_cast, zq, zi, zc, zv, zf, zci_eq, zsi_eq, zsk_eq, zbd_zbd, zbd_some, zbd_fault, zbd_none, zite0, zite1, ↓reduceIte, Nat.one_ne_zero, Nat.reduceEqDiff]
  refine msm_pls (n := 2) (k' := 2) (lo' := [some (.ref 14), none, none, none]) (S' := [.retAddr 1042, .ref 14]) (h' := h) rfl ?_
  by_cases t62 : ztk e s.1 = 27
  · skip
    try simp only [zq, zi, zc, zv, zf, zci_eq, zsi_eq, zsk_eq, zbd_zbd, zbd_some, zbd_fault, zbd_none, zite0, zite1, ↓reduceIte, Nat.one_ne_zero, Nat.reduceEqDiff, t62]
    refine msm_took hc (mim_up (mi_takes (d := d) (k := 27) ht (by decide) (by decide)) (by omega)) t62 rfl rfl rfl rfl rfl rfl rfl rfl (ai_rcv1 rfl rfl (mcs_rcv hc).choose_spec) (fun v63 s63 h63 f63 hc63 => ?_)
    show msm L xs e Y K _ qm_146 3 [some (.ref 14), none, none, none] [.int 1] h63 _ _ _
    try simp only [zq, zi, zc, zv, zf, zci_eq, zsi_eq, zsk_eq, zbd_zbd, zbd_some, zbd_fault, zbd_none, zite0, zite1, ↓reduceIte, Nat.one_ne_zero, Nat.reduceEqDiff]
    refine msm_if false rfl (rfl) rfl ?_
    refine msm_pls (n := 1) (k' := 5) (lo' := [some (.ref 14), none, none, none]) (S' := [.ref 14]) (h' := h63) rfl ?_
    first
      | refine msm_call hc63 (mim_up (mi_open (d := d) ht) (by omega)) rfl rfl rfl rfl rfl rfl rfl rfl (ai_rcv1 rfl rfl (mcs_rcv hc63).choose_spec) (fun v64 s64 h64 f64 hc64 => ?_)
      | refine msm_callL hc63 (mim_up (mi_open (d := d) ht) (by omega)) rfl rfl rfl rfl rfl rfl rfl rfl (ai_rcv1 rfl rfl (mcs_rcv hc63).choose_spec) (fun v64 s64 h64 f64 hc64 => ?_)
    show msm L xs e Y K _ qm_146 6 [some (.ref 14), none, none, none] [] h64 _ _ _
    try simp only [zq, zi, zc, zv, zf, zci_eq, zsi_eq, zsk_eq, zbd_zbd, zbd_some, zbd_fault, zbd_none, zite0, zite1, ↓reduceIte, Nat.one_ne_zero, Nat.reduceEqDiff]
    refine msm_pls (n := 1) (k' := 7) (lo' := [some (.ref 14), none, none, none]) (S' := [.ref 14]) (h' := h64) rfl ?_
    first
      | refine msm_call hc64 (mim_up (hqy) (by omega)) rfl rfl rfl rfl rfl rfl rfl rfl (ai_rcv1 rfl rfl (mcs_rcv hc64).choose_spec) (fun v65 s65 h65 f65 hc65 => ?_)
      | refine msm_callL hc64 (mim_up (hqy) (by omega)) rfl rfl rfl rfl rfl rfl rfl rfl (ai_rcv1 rfl rfl (mcs_rcv hc64).choose_spec) (fun v65 s65 h65 f65 hc65 => ?_)
    show msm L xs e Y K _ qm_146 8 [some (.ref 14), none, none, none] [] h65 _ _ _
    try simp only [zq, zi, zc, zv, zf, zci_eq, zsi_eq, zsk_eq, zbd_zbd, zbd_some, zbd_fault, zbd_none, zite0, zite1, ↓reduceIte, Nat.one_ne_zero, Nat.reduceEqDiff]
    refine msm_pls (n := 1) (k' := 9) (lo' := [some (.ref 14), none, none, none]) (S' := [.ref 14]) (h' := h65) rfl ?_
    first
      | refine msm_call hc65 (mim_up (mi_close (d := d) ht) (by omega)) rfl rfl rfl rfl rfl rfl rfl rfl (ai_rcv1 rfl rfl (mcs_rcv hc65).choose_spec) (fun v66 s66 h66 f66 hc66 => ?_)
      | refine msm_callL hc65 (mim_up (mi_close (d := d) ht) (by omega)) rfl rfl rfl rfl rfl rfl rfl rfl (ai_rcv1 rfl rfl (mcs_rcv hc65).choose_spec) (fun v66 s66 h66 f66 hc66 => ?_)
    show msm L xs e Y K _ qm_146 10 [some (.ref 14), none, none, none] [] h66 _ _ _
    try simp only [zq, zi, zc, zv, zf, zci_eq, zsi_eq, zsk_eq, zbd_zbd, zbd_some, zbd_fault, zbd_none, zite0, zite1, ↓reduceIte, Nat.one_ne_zero, Nat.reduceEqDiff]
    refine msm_pls (n := 1) (k' := 141) (lo' := [some (.ref 14), none, none, none]) (S' := []) (h' := h66) rfl ?_
    exact msm_ret7 hc66 rfl
  · skip
    try simp only [zq, zi, zc, zv, zf, zci_eq, zsi_eq, zsk_eq, zbd_zbd, zbd_some, zbd_fault, zbd_none, zite0, zite1, ↓reduceIte, Nat.one_ne_zero, Nat.reduceEqDiff, t62]
    refine msm_left hc (mim_up (mi_takes (d := d) (k := 27) ht (by decide) (by decide)) (by omega)) t62 rfl rfl rfl rfl rfl rfl rfl rfl (ai_rcv1 rfl rfl (mcs_rcv hc).choose_spec) (fun h67 hc67 => ?_)
    show msm L xs e Y K _ qm_146 3 [some (.ref 14), none, none, none] [.int 0] h67 _ _ _
    refine msm_if true rfl (rfl) rfl ?_
    refine msm_pls (n := 2) (k' := 13) (lo' := [some (.ref 14), none, none, none]) (S' := [.retAddr 1025, .ref 14]) (h' := h67) rfl ?_
    by_cases t68 : ztk e s.1 = 10
    · skip
      try simp only [zq, zi, zc, zv, zf, zci_eq, zsi_eq, zsk_eq, zbd_zbd, zbd_some, zbd_fault, zbd_none, zite0, zite1, ↓reduceIte, Nat.one_ne_zero, Nat.reduceEqDiff, t62, t68]
      refine msm_ask (by have hh := m_isWord (L := L) (xs := xs) (d := d) ht hc67 (k := 10) (by decide); rw [if_pos t68] at hh; exact qe_up (by omega) hh) rfl rfl rfl rfl rfl rfl rfl (ai_rcv1 rfl rfl (mcs_rcv hc67).choose_spec) ?_
      show msm L xs e Y K _ qm_146 14 [some (.ref 14), none, none, none] [.int 1] h67 _ _ _
      refine msm_if false rfl (rfl) rfl ?_
      show msm L xs e Y K _ qm_146 15 [some (.ref 14), none, none, none] [] h67 _ _ _
      rw [show z_cases e ex s = zc e 10 (z_cases e ex) (fun _ => none) s from (if_pos t68).symm]
      refine msm_pls (n := 1) (k' := 16) (lo' := [some (.ref 14), none, none, none]) (S' := [.ref 14]) (h' := h67) rfl ?_
      first
        | refine msm_call hc67 (mim_up (ms_cases (d := d) ht hex) (by omega)) rfl rfl rfl rfl rfl rfl rfl rfl (ai_rcv1 rfl rfl (mcs_rcv hc67).choose_spec) (fun v70 s70 h70 f70 hc70 => ?_)
        | refine msm_callL hc67 (mim_up (ms_cases (d := d) ht hex) (by omega)) rfl rfl rfl rfl rfl rfl rfl rfl (ai_rcv1 rfl rfl (mcs_rcv hc67).choose_spec) (fun v70 s70 h70 f70 hc70 => ?_)
      show msm L xs e Y K _ qm_146 17 [some (.ref 14), none, none, none] [] h70 _ _ _
      try simp only [zq, zi, zc, zv, zf, zci_eq, zsi_eq, zsk_eq, zbd_zbd, zbd_some, zbd_fault, zbd_none, zite0, zite1, ↓reduceIte, Nat.one_ne_zero, Nat.reduceEqDiff]
      refine msm_pls (n := 1) (k' := 141) (lo' := [some (.ref 14), none, none, none]) (S' := []) (h' := h70) rfl ?_
      exact msm_ret7 hc70 rfl
    · skip
      try simp only [zq, zi, zc, zv, zf, zci_eq, zsi_eq, zsk_eq, zbd_zbd, zbd_some, zbd_fault, zbd_none, zite0, zite1, ↓reduceIte, Nat.one_ne_zero, Nat.reduceEqDiff, t62, t68]
      refine msm_ask (by have hh := m_isWord (L := L) (xs := xs) (d := d) ht hc67 (k := 10) (by decide); rw [if_neg t68] at hh; exact qe_up (by omega) hh) rfl rfl rfl rfl rfl rfl rfl (ai_rcv1 rfl rfl (mcs_rcv hc67).choose_spec) ?_
      show msm L xs e Y K _ qm_146 14 [some (.ref 14), none, none, none] [.int 0] h67 _ _ _
      refine msm_if true rfl (rfl) rfl ?_
      refine msm_pls (n := 2) (k' := 20) (lo' := [some (.ref 14), none, none, none]) (S' := [.retAddr 1026, .ref 14]) (h' := h67) rfl ?_
      by_cases t71 : ztk e s.1 = 11
      · skip
        try simp only [zq, zi, zc, zv, zf, zci_eq, zsi_eq, zsk_eq, zbd_zbd, zbd_some, zbd_fault, zbd_none, zite0, zite1, ↓reduceIte, Nat.one_ne_zero, Nat.reduceEqDiff, t62, t68, t71]
        refine msm_took hc67 (mim_up (mi_takes (d := d) (k := 11) ht (by decide) (by decide)) (by omega)) t71 rfl rfl rfl rfl rfl rfl rfl rfl (ai_rcv1 rfl rfl (mcs_rcv hc67).choose_spec) (fun v72 s72 h72 f72 hc72 => ?_)
        show msm L xs e Y K _ qm_146 21 [some (.ref 14), none, none, none] [.int 1] h72 _ _ _
        try simp only [zq, zi, zc, zv, zf, zci_eq, zsi_eq, zsk_eq, zbd_zbd, zbd_some, zbd_fault, zbd_none, zite0, zite1, ↓reduceIte, Nat.one_ne_zero, Nat.reduceEqDiff]
        refine msm_if false rfl (rfl) rfl ?_
        refine msm_pls (n := 1) (k' := 23) (lo' := [some (.ref 14), none, none, none]) (S' := [.ref 14]) (h' := h72) rfl ?_
        first
          | refine msm_call hc72 (mim_up (mi_open (d := d) ht) (by omega)) rfl rfl rfl rfl rfl rfl rfl rfl (ai_rcv1 rfl rfl (mcs_rcv hc72).choose_spec) (fun v73 s73 h73 f73 hc73 => ?_)
          | refine msm_callL hc72 (mim_up (mi_open (d := d) ht) (by omega)) rfl rfl rfl rfl rfl rfl rfl rfl (ai_rcv1 rfl rfl (mcs_rcv hc72).choose_spec) (fun v73 s73 h73 f73 hc73 => ?_)
        show msm L xs e Y K _ qm_146 24 [some (.ref 14), none, none, none] [] h73 _ _ _
        try simp only [zq, zi, zc, zv, zf, zci_eq, zsi_eq, zsk_eq, zbd_zbd, zbd_some, zbd_fault, zbd_none, zite0, zite1, ↓reduceIte, Nat.one_ne_zero, Nat.reduceEqDiff]
        refine msm_pls (n := 1) (k' := 25) (lo' := [some (.ref 14), none, none, none]) (S' := [.ref 14]) (h' := h73) rfl ?_
        first
          | refine msm_call hc73 (mim_up (hex) (by omega)) rfl rfl rfl rfl rfl rfl rfl rfl (ai_rcv1 rfl rfl (mcs_rcv hc73).choose_spec) (fun v74 s74 h74 f74 hc74 => ?_)
          | refine msm_callL hc73 (mim_up (hex) (by omega)) rfl rfl rfl rfl rfl rfl rfl rfl (ai_rcv1 rfl rfl (mcs_rcv hc73).choose_spec) (fun v74 s74 h74 f74 hc74 => ?_)
        show msm L xs e Y K _ qm_146 26 [some (.ref 14), none, none, none] [] h74 _ _ _
        try simp only [zq, zi, zc, zv, zf, zci_eq, zsi_eq, zsk_eq, zbd_zbd, zbd_some, zbd_fault, zbd_none, zite0, zite1, ↓reduceIte, Nat.one_ne_zero, Nat.reduceEqDiff]
        refine msm_pls (n := 2) (k' := 28) (lo' := [some (.ref 14), none, none, none]) (S' := [.retAddr 1018, .ref 14]) (h' := h74) rfl ?_
        first
          | refine msm_call hc74 (mim_up (mi_word (d := d) (k := 3) ht (by decide) (by decide)) (by omega)) rfl rfl rfl rfl rfl rfl rfl rfl (ai_rcv1 rfl rfl (mcs_rcv hc74).choose_spec) (fun v75 s75 h75 f75 hc75 => ?_)
          | refine msm_callL hc74 (mim_up (mi_word (d := d) (k := 3) ht (by decide) (by decide)) (by omega)) rfl rfl rfl rfl rfl rfl rfl rfl (ai_rcv1 rfl rfl (mcs_rcv hc74).choose_spec) (fun v75 s75 h75 f75 hc75 => ?_)
        show msm L xs e Y K _ qm_146 29 [some (.ref 14), none, none, none] [] h75 _ _ _
        try simp only [zq, zi, zc, zv, zf, zci_eq, zsi_eq, zsk_eq, zbd_zbd, zbd_some, zbd_fault, zbd_none, zite0, zite1, ↓reduceIte, Nat.one_ne_zero, Nat.reduceEqDiff]
        refine msm_pls (n := 1) (k' := 30) (lo' := [some (.ref 14), none, none, none]) (S' := [.ref 14]) (h' := h75) rfl ?_
        first
          | refine msm_call hc75 (mim_up (ms_type (d := d) ht) (by omega)) rfl rfl rfl rfl rfl rfl rfl rfl (ai_rcv1 rfl rfl (mcs_rcv hc75).choose_spec) (fun v76 s76 h76 f76 hc76 => ?_)
          | refine msm_callL hc75 (mim_up (ms_type (d := d) ht) (by omega)) rfl rfl rfl rfl rfl rfl rfl rfl (ai_rcv1 rfl rfl (mcs_rcv hc75).choose_spec) (fun v76 s76 h76 f76 hc76 => ?_)
        show msm L xs e Y K _ qm_146 31 [some (.ref 14), none, none, none] [] h76 _ _ _
        try simp only [zq, zi, zc, zv, zf, zci_eq, zsi_eq, zsk_eq, zbd_zbd, zbd_some, zbd_fault, zbd_none, zite0, zite1, ↓reduceIte, Nat.one_ne_zero, Nat.reduceEqDiff]
        refine msm_pls (n := 1) (k' := 32) (lo' := [some (.ref 14), none, none, none]) (S' := [.ref 14]) (h' := h76) rfl ?_
        first
          | refine msm_call hc76 (mim_up (mi_close (d := d) ht) (by omega)) rfl rfl rfl rfl rfl rfl rfl rfl (ai_rcv1 rfl rfl (mcs_rcv hc76).choose_spec) (fun v77 s77 h77 f77 hc77 => ?_)
          | refine msm_callL hc76 (mim_up (mi_close (d := d) ht) (by omega)) rfl rfl rfl rfl rfl rfl rfl rfl (ai_rcv1 rfl rfl (mcs_rcv hc76).choose_spec) (fun v77 s77 h77 f77 hc77 => ?_)
        show msm L xs e Y K _ qm_146 33 [some (.ref 14), none, none, none] [] h77 _ _ _
        try simp only [zq, zi, zc, zv, zf, zci_eq, zsi_eq, zsk_eq, zbd_zbd, zbd_some, zbd_fault, zbd_none, zite0, zite1, ↓reduceIte, Nat.one_ne_zero, Nat.reduceEqDiff]
        refine msm_pls (n := 1) (k' := 141) (lo' := [some (.ref 14), none, none, none]) (S' := []) (h' := h77) rfl ?_
        exact msm_ret7 hc77 rfl
      · skip
        try simp only [zq, zi, zc, zv, zf, zci_eq, zsi_eq, zsk_eq, zbd_zbd, zbd_some, zbd_fault, zbd_none, zite0, zite1, ↓reduceIte, Nat.one_ne_zero, Nat.reduceEqDiff, t62, t68, t71]
        refine msm_left hc67 (mim_up (mi_takes (d := d) (k := 11) ht (by decide) (by decide)) (by omega)) t71 rfl rfl rfl rfl rfl rfl rfl rfl (ai_rcv1 rfl rfl (mcs_rcv hc67).choose_spec) (fun h78 hc78 => ?_)
        show msm L xs e Y K _ qm_146 21 [some (.ref 14), none, none, none] [.int 0] h78 _ _ _
        refine msm_if true rfl (rfl) rfl ?_
        refine msm_pls (n := 2) (k' := 36) (lo' := [some (.ref 14), none, none, none]) (S' := [.retAddr 1028, .ref 14]) (h' := h78) rfl ?_
        by_cases t79 : ztk e s.1 = 13
        · skip
          try simp only [zq, zi, zc, zv, zf, zci_eq, zsi_eq, zsk_eq, zbd_zbd, zbd_some, zbd_fault, zbd_none, zite0, zite1, ↓reduceIte, Nat.one_ne_zero, Nat.reduceEqDiff, t62, t68, t71, t79]
          refine msm_took hc78 (mim_up (mi_takes (d := d) (k := 13) ht (by decide) (by decide)) (by omega)) t79 rfl rfl rfl rfl rfl rfl rfl rfl (ai_rcv1 rfl rfl (mcs_rcv hc78).choose_spec) (fun v80 s80 h80 f80 hc80 => ?_)
          show msm L xs e Y K _ qm_146 37 [some (.ref 14), none, none, none] [.int 1] h80 _ _ _
          try simp only [zq, zi, zc, zv, zf, zci_eq, zsi_eq, zsk_eq, zbd_zbd, zbd_some, zbd_fault, zbd_none, zite0, zite1, ↓reduceIte, Nat.one_ne_zero, Nat.reduceEqDiff]
          refine msm_if false rfl (rfl) rfl ?_
          refine msm_pls (n := 1) (k' := 39) (lo' := [some (.ref 14), none, none, none]) (S' := [.ref 14]) (h' := h80) rfl ?_
          first
            | refine msm_call hc80 (mim_up (mi_open (d := d) ht) (by omega)) rfl rfl rfl rfl rfl rfl rfl rfl (ai_rcv1 rfl rfl (mcs_rcv hc80).choose_spec) (fun v81 s81 h81 f81 hc81 => ?_)
            | refine msm_callL hc80 (mim_up (mi_open (d := d) ht) (by omega)) rfl rfl rfl rfl rfl rfl rfl rfl (ai_rcv1 rfl rfl (mcs_rcv hc80).choose_spec) (fun v81 s81 h81 f81 hc81 => ?_)
          show msm L xs e Y K _ qm_146 40 [some (.ref 14), none, none, none] [] h81 _ _ _
          try simp only [zq, zi, zc, zv, zf, zci_eq, zsi_eq, zsk_eq, zbd_zbd, zbd_some, zbd_fault, zbd_none, zite0, zite1, ↓reduceIte, Nat.one_ne_zero, Nat.reduceEqDiff]
          refine msm_pls (n := 1) (k' := 41) (lo' := [some (.ref 14), none, none, none]) (S' := [.ref 14]) (h' := h81) rfl ?_
          first
            | refine msm_call hc81 (mim_up (ms_list (d := d) ht hex) (by omega)) rfl rfl rfl rfl rfl rfl rfl rfl (ai_rcv1 rfl rfl (mcs_rcv hc81).choose_spec) (fun v82 s82 h82 f82 hc82 => ?_)
            | refine msm_callL hc81 (mim_up (ms_list (d := d) ht hex) (by omega)) rfl rfl rfl rfl rfl rfl rfl rfl (ai_rcv1 rfl rfl (mcs_rcv hc81).choose_spec) (fun v82 s82 h82 f82 hc82 => ?_)
          show msm L xs e Y K _ qm_146 42 [some (.ref 14), none, none, none] [] h82 _ _ _
          try simp only [zq, zi, zc, zv, zf, zci_eq, zsi_eq, zsk_eq, zbd_zbd, zbd_some, zbd_fault, zbd_none, zite0, zite1, ↓reduceIte, Nat.one_ne_zero, Nat.reduceEqDiff]
          refine msm_pls (n := 1) (k' := 43) (lo' := [some (.ref 14), none, none, none]) (S' := [.ref 14]) (h' := h82) rfl ?_
          first
            | refine msm_call hc82 (mim_up (mi_close (d := d) ht) (by omega)) rfl rfl rfl rfl rfl rfl rfl rfl (ai_rcv1 rfl rfl (mcs_rcv hc82).choose_spec) (fun v83 s83 h83 f83 hc83 => ?_)
            | refine msm_callL hc82 (mim_up (mi_close (d := d) ht) (by omega)) rfl rfl rfl rfl rfl rfl rfl rfl (ai_rcv1 rfl rfl (mcs_rcv hc82).choose_spec) (fun v83 s83 h83 f83 hc83 => ?_)
          show msm L xs e Y K _ qm_146 44 [some (.ref 14), none, none, none] [] h83 _ _ _
          try simp only [zq, zi, zc, zv, zf, zci_eq, zsi_eq, zsk_eq, zbd_zbd, zbd_some, zbd_fault, zbd_none, zite0, zite1, ↓reduceIte, Nat.one_ne_zero, Nat.reduceEqDiff]
          refine msm_pls (n := 1) (k' := 141) (lo' := [some (.ref 14), none, none, none]) (S' := []) (h' := h83) rfl ?_
          exact msm_ret7 hc83 rfl
        · skip
          try simp only [zq, zi, zc, zv, zf, zci_eq, zsi_eq, zsk_eq, zbd_zbd, zbd_some, zbd_fault, zbd_none, zite0, zite1, ↓reduceIte, Nat.one_ne_zero, Nat.reduceEqDiff, t62, t68, t71, t79]
          refine msm_left hc78 (mim_up (mi_takes (d := d) (k := 13) ht (by decide) (by decide)) (by omega)) t79 rfl rfl rfl rfl rfl rfl rfl rfl (ai_rcv1 rfl rfl (mcs_rcv hc78).choose_spec) (fun h84 hc84 => ?_)
          show msm L xs e Y K _ qm_146 37 [some (.ref 14), none, none, none] [.int 0] h84 _ _ _
          refine msm_if true rfl (rfl) rfl ?_
          refine msm_pls (n := 2) (k' := 47) (lo' := [some (.ref 14), none, none, none]) (S' := [.retAddr 1031, .ref 14]) (h' := h84) rfl ?_
          by_cases t85 : ztk e s.1 = 16
          · skip
            try simp only [zq, zi, zc, zv, zf, zci_eq, zsi_eq, zsk_eq, zbd_zbd, zbd_some, zbd_fault, zbd_none, zite0, zite1, ↓reduceIte, Nat.one_ne_zero, Nat.reduceEqDiff, t62, t68, t71, t79, t85]
            refine msm_ask (by have hh := m_isWord (L := L) (xs := xs) (d := d) ht hc84 (k := 16) (by decide); rw [if_pos t85] at hh; exact qe_up (by omega) hh) rfl rfl rfl rfl rfl rfl rfl (ai_rcv1 rfl rfl (mcs_rcv hc84).choose_spec) ?_
            show msm L xs e Y K _ qm_146 48 [some (.ref 14), none, none, none] [.int 1] h84 _ _ _
            refine msm_if true rfl (rfl) rfl ?_
            show msm L xs e Y K _ qm_146 65 [some (.ref 14), none, none, none] [] h84 _ _ _
            rw [show z_agg e ex s = zag e ex s from (if_pos (by omega)).symm]
            refine msm_pls (n := 1) (k' := 66) (lo' := [some (.ref 14), none, none, none]) (S' := [.ref 14]) (h' := h84) rfl ?_
            first
              | refine msm_call hc84 (mim_up (ms_agg (d := d) ht hex) (by omega)) rfl rfl rfl rfl rfl rfl rfl rfl (ai_rcv1 rfl rfl (mcs_rcv hc84).choose_spec) (fun v87 s87 h87 f87 hc87 => ?_)
              | refine msm_callL hc84 (mim_up (ms_agg (d := d) ht hex) (by omega)) rfl rfl rfl rfl rfl rfl rfl rfl (ai_rcv1 rfl rfl (mcs_rcv hc84).choose_spec) (fun v87 s87 h87 f87 hc87 => ?_)
            show msm L xs e Y K _ qm_146 67 [some (.ref 14), none, none, none] [] h87 _ _ _
            try simp only [zq, zi, zc, zv, zf, zci_eq, zsi_eq, zsk_eq, zbd_zbd, zbd_some, zbd_fault, zbd_none, zite0, zite1, ↓reduceIte, Nat.one_ne_zero, Nat.reduceEqDiff]
            refine msm_pls (n := 1) (k' := 141) (lo' := [some (.ref 14), none, none, none]) (S' := []) (h' := h87) rfl ?_
            exact msm_ret7 hc87 rfl
          · skip
            try simp only [zq, zi, zc, zv, zf, zci_eq, zsi_eq, zsk_eq, zbd_zbd, zbd_some, zbd_fault, zbd_none, zite0, zite1, ↓reduceIte, Nat.one_ne_zero, Nat.reduceEqDiff, t62, t68, t71, t79, t85]
            refine msm_ask (by have hh := m_isWord (L := L) (xs := xs) (d := d) ht hc84 (k := 16) (by decide); rw [if_neg t85] at hh; exact qe_up (by omega) hh) rfl rfl rfl rfl rfl rfl rfl (ai_rcv1 rfl rfl (mcs_rcv hc84).choose_spec) ?_
            show msm L xs e Y K _ qm_146 48 [some (.ref 14), none, none, none] [.int 0] h84 _ _ _
            refine msm_if false rfl (rfl) rfl ?_
            refine msm_pls (n := 2) (k' := 51) (lo' := [some (.ref 14), none, none, none]) (S' := [.retAddr 1084, .ref 14]) (h' := h84) rfl ?_
            by_cases t88 : ztk e s.1 = 70
            · skip
              try simp only [zq, zi, zc, zv, zf, zci_eq, zsi_eq, zsk_eq, zbd_zbd, zbd_some, zbd_fault, zbd_none, zite0, zite1, ↓reduceIte, Nat.one_ne_zero, Nat.reduceEqDiff, t62, t68, t71, t79, t85, t88]
              refine msm_ask (by have hh := m_isWord (L := L) (xs := xs) (d := d) ht hc84 (k := 70) (by decide); rw [if_pos t88] at hh; exact qe_up (by omega) hh) rfl rfl rfl rfl rfl rfl rfl (ai_rcv1 rfl rfl (mcs_rcv hc84).choose_spec) ?_
              show msm L xs e Y K _ qm_146 52 [some (.ref 14), none, none, none] [.int 1] h84 _ _ _
              refine msm_if true rfl (rfl) rfl ?_
              show msm L xs e Y K _ qm_146 65 [some (.ref 14), none, none, none] [] h84 _ _ _
              rw [show z_agg e ex s = zag e ex s from (if_pos (by omega)).symm]
              refine msm_pls (n := 1) (k' := 66) (lo' := [some (.ref 14), none, none, none]) (S' := [.ref 14]) (h' := h84) rfl ?_
              first
                | refine msm_call hc84 (mim_up (ms_agg (d := d) ht hex) (by omega)) rfl rfl rfl rfl rfl rfl rfl rfl (ai_rcv1 rfl rfl (mcs_rcv hc84).choose_spec) (fun v90 s90 h90 f90 hc90 => ?_)
                | refine msm_callL hc84 (mim_up (ms_agg (d := d) ht hex) (by omega)) rfl rfl rfl rfl rfl rfl rfl rfl (ai_rcv1 rfl rfl (mcs_rcv hc84).choose_spec) (fun v90 s90 h90 f90 hc90 => ?_)
              show msm L xs e Y K _ qm_146 67 [some (.ref 14), none, none, none] [] h90 _ _ _
              try simp only [zq, zi, zc, zv, zf, zci_eq, zsi_eq, zsk_eq, zbd_zbd, zbd_some, zbd_fault, zbd_none, zite0, zite1, ↓reduceIte, Nat.one_ne_zero, Nat.reduceEqDiff]
              refine msm_pls (n := 1) (k' := 141) (lo' := [some (.ref 14), none, none, none]) (S' := []) (h' := h90) rfl ?_
              exact msm_ret7 hc90 rfl
            · skip
              try simp only [zq, zi, zc, zv, zf, zci_eq, zsi_eq, zsk_eq, zbd_zbd, zbd_some, zbd_fault, zbd_none, zite0, zite1, ↓reduceIte, Nat.one_ne_zero, Nat.reduceEqDiff, t62, t68, t71, t79, t85, t88]
              refine msm_ask (by have hh := m_isWord (L := L) (xs := xs) (d := d) ht hc84 (k := 70) (by decide); rw [if_neg t88] at hh; exact qe_up (by omega) hh) rfl rfl rfl rfl rfl rfl rfl (ai_rcv1 rfl rfl (mcs_rcv hc84).choose_spec) ?_
              show msm L xs e Y K _ qm_146 52 [some (.ref 14), none, none, none] [.int 0] h84 _ _ _
              refine msm_if false rfl (rfl) rfl ?_
              refine msm_pls (n := 2) (k' := 55) (lo' := [some (.ref 14), none, none, none]) (S' := [.retAddr 1062, .ref 14]) (h' := h84) rfl ?_
              by_cases t91 : ztk e s.1 = 47
              · skip
                try simp only [zq, zi, zc, zv, zf, zci_eq, zsi_eq, zsk_eq, zbd_zbd, zbd_some, zbd_fault, zbd_none, zite0, zite1, ↓reduceIte, Nat.one_ne_zero, Nat.reduceEqDiff, t62, t68, t71, t79, t85, t88, t91]
                refine msm_ask (by have hh := m_isWord (L := L) (xs := xs) (d := d) ht hc84 (k := 47) (by decide); rw [if_pos t91] at hh; exact qe_up (by omega) hh) rfl rfl rfl rfl rfl rfl rfl (ai_rcv1 rfl rfl (mcs_rcv hc84).choose_spec) ?_
                show msm L xs e Y K _ qm_146 56 [some (.ref 14), none, none, none] [.int 1] h84 _ _ _
                refine msm_if true rfl (rfl) rfl ?_
                show msm L xs e Y K _ qm_146 65 [some (.ref 14), none, none, none] [] h84 _ _ _
                rw [show z_agg e ex s = zag e ex s from (if_pos (by omega)).symm]
                refine msm_pls (n := 1) (k' := 66) (lo' := [some (.ref 14), none, none, none]) (S' := [.ref 14]) (h' := h84) rfl ?_
                first
                  | refine msm_call hc84 (mim_up (ms_agg (d := d) ht hex) (by omega)) rfl rfl rfl rfl rfl rfl rfl rfl (ai_rcv1 rfl rfl (mcs_rcv hc84).choose_spec) (fun v93 s93 h93 f93 hc93 => ?_)
                  | refine msm_callL hc84 (mim_up (ms_agg (d := d) ht hex) (by omega)) rfl rfl rfl rfl rfl rfl rfl rfl (ai_rcv1 rfl rfl (mcs_rcv hc84).choose_spec) (fun v93 s93 h93 f93 hc93 => ?_)
                show msm L xs e Y K _ qm_146 67 [some (.ref 14), none, none, none] [] h93 _ _ _
                try simp only [zq, zi, zc, zv, zf, zci_eq, zsi_eq, zsk_eq, zbd_zbd, zbd_some, zbd_fault, zbd_none, zite0, zite1, ↓reduceIte, Nat.one_ne_zero, Nat.reduceEqDiff]
                refine msm_pls (n := 1) (k' := 141) (lo' := [some (.ref 14), none, none, none]) (S' := []) (h' := h93) rfl ?_
                exact msm_ret7 hc93 rfl
              · skip
                try simp only [zq, zi, zc, zv, zf, zci_eq, zsi_eq, zsk_eq, zbd_zbd, zbd_some, zbd_fault, zbd_none, zite0, zite1, ↓reduceIte, Nat.one_ne_zero, Nat.reduceEqDiff, t62, t68, t71, t79, t85, t88, t91]
                refine msm_ask (by have hh := m_isWord (L := L) (xs := xs) (d := d) ht hc84 (k := 47) (by decide); rw [if_neg t91] at hh; exact qe_up (by omega) hh) rfl rfl rfl rfl rfl rfl rfl (ai_rcv1 rfl rfl (mcs_rcv hc84).choose_spec) ?_
                show msm L xs e Y K _ qm_146 56 [some (.ref 14), none, none, none] [.int 0] h84 _ _ _
                refine msm_if false rfl (rfl) rfl ?_
                refine msm_pls (n := 2) (k' := 59) (lo' := [some (.ref 14), none, none, none]) (S' := [.retAddr 1061, .ref 14]) (h' := h84) rfl ?_
                by_cases t94 : ztk e s.1 = 46
                · skip
                  try simp only [zq, zi, zc, zv, zf, zci_eq, zsi_eq, zsk_eq, zbd_zbd, zbd_some, zbd_fault, zbd_none, zite0, zite1, ↓reduceIte, Nat.one_ne_zero, Nat.reduceEqDiff, t62, t68, t71, t79, t85, t88, t91, t94]
                  refine msm_ask (by have hh := m_isWord (L := L) (xs := xs) (d := d) ht hc84 (k := 46) (by decide); rw [if_pos t94] at hh; exact qe_up (by omega) hh) rfl rfl rfl rfl rfl rfl rfl (ai_rcv1 rfl rfl (mcs_rcv hc84).choose_spec) ?_
                  show msm L xs e Y K _ qm_146 60 [some (.ref 14), none, none, none] [.int 1] h84 _ _ _
                  refine msm_if true rfl (rfl) rfl ?_
                  show msm L xs e Y K _ qm_146 65 [some (.ref 14), none, none, none] [] h84 _ _ _
                  rw [show z_agg e ex s = zag e ex s from (if_pos (by omega)).symm]
                  refine msm_pls (n := 1) (k' := 66) (lo' := [some (.ref 14), none, none, none]) (S' := [.ref 14]) (h' := h84) rfl ?_
                  first
                    | refine msm_call hc84 (mim_up (ms_agg (d := d) ht hex) (by omega)) rfl rfl rfl rfl rfl rfl rfl rfl (ai_rcv1 rfl rfl (mcs_rcv hc84).choose_spec) (fun v96 s96 h96 f96 hc96 => ?_)
                    | refine msm_callL hc84 (mim_up (ms_agg (d := d) ht hex) (by omega)) rfl rfl rfl rfl rfl rfl rfl rfl (ai_rcv1 rfl rfl (mcs_rcv hc84).choose_spec) (fun v96 s96 h96 f96 hc96 => ?_)
                  show msm L xs e Y K _ qm_146 67 [some (.ref 14), none, none, none] [] h96 _ _ _
                  try simp only [zq, zi, zc, zv, zf, zci_eq, zsi_eq, zsk_eq, zbd_zbd, zbd_some, zbd_fault, zbd_none, zite0, zite1, ↓reduceIte, Nat.one_ne_zero, Nat.reduceEqDiff]
                  refine msm_pls (n := 1) (k' := 141) (lo' := [some (.ref 14), none, none, none]) (S' := []) (h' := h96) rfl ?_
                  exact msm_ret7 hc96 rfl
                · skip
                  try simp only [zq, zi, zc, zv, zf, zci_eq, zsi_eq, zsk_eq, zbd_zbd, zbd_some, zbd_fault, zbd_none, zite0, zite1, ↓reduceIte, Nat.one_ne_zero, Nat.reduceEqDiff, t62, t68, t71, t79, t85, t88, t91, t94]
                  refine msm_ask (by have hh := m_isWord (L := L) (xs := xs) (d := d) ht hc84 (k := 46) (by decide); rw [if_neg t94] at hh; exact qe_up (by omega) hh) rfl rfl rfl rfl rfl rfl rfl (ai_rcv1 rfl rfl (mcs_rcv hc84).choose_spec) ?_
                  show msm L xs e Y K _ qm_146 60 [some (.ref 14), none, none, none] [.int 0] h84 _ _ _
                  refine msm_if false rfl (rfl) rfl ?_
                  refine msm_pls (n := 2) (k' := 63) (lo' := [some (.ref 14), none, none, none]) (S' := [.retAddr 1020, .ref 14]) (h' := h84) rfl ?_
                  by_cases t97 : ztk e s.1 = 5
                  · skip
                    try simp only [zq, zi, zc, zv, zf, zci_eq, zsi_eq, zsk_eq, zbd_zbd, zbd_some, zbd_fault, zbd_none, zite0, zite1, ↓reduceIte, Nat.one_ne_zero, Nat.reduceEqDiff, t62, t68, t71, t79, t85, t88, t91, t94, t97]
                    refine msm_ask (by have hh := m_isWord (L := L) (xs := xs) (d := d) ht hc84 (k := 5) (by decide); rw [if_pos t97] at hh; exact qe_up (by omega) hh) rfl rfl rfl rfl rfl rfl rfl (ai_rcv1 rfl rfl (mcs_rcv hc84).choose_spec) ?_
                    show msm L xs e Y K _ qm_146 64 [some (.ref 14), none, none, none] [.int 1] h84 _ _ _
                    refine msm_if false rfl (rfl) rfl ?_
                    show msm L xs e Y K _ qm_146 65 [some (.ref 14), none, none, none] [] h84 _ _ _
                    rw [show z_agg e ex s = zag e ex s from (if_pos (by omega)).symm]
                    refine msm_pls (n := 1) (k' := 66) (lo' := [some (.ref 14), none, none, none]) (S' := [.ref 14]) (h' := h84) rfl ?_
                    first
                      | refine msm_call hc84 (mim_up (ms_agg (d := d) ht hex) (by omega)) rfl rfl rfl rfl rfl rfl rfl rfl (ai_rcv1 rfl rfl (mcs_rcv hc84).choose_spec) (fun v99 s99 h99 f99 hc99 => ?_)
                      | refine msm_callL hc84 (mim_up (ms_agg (d := d) ht hex) (by omega)) rfl rfl rfl rfl rfl rfl rfl rfl (ai_rcv1 rfl rfl (mcs_rcv hc84).choose_spec) (fun v99 s99 h99 f99 hc99 => ?_)
                    show msm L xs e Y K _ qm_146 67 [some (.ref 14), none, none, none] [] h99 _ _ _
                    try simp only [zq, zi, zc, zv, zf, zci_eq, zsi_eq, zsk_eq, zbd_zbd, zbd_some, zbd_fault, zbd_none, zite0, zite1, ↓reduceIte, Nat.one_ne_zero, Nat.reduceEqDiff]
                    refine msm_pls (n := 1) (k' := 141) (lo' := [some (.ref 14), none, none, none]) (S' := []) (h' := h99) rfl ?_
                    exact msm_ret7 hc99 rfl
                  · skip
                    try simp only [zq, zi, zc, zv, zf, zci_eq, zsi_eq, zsk_eq, zbd_zbd, zbd_some, zbd_fault, zbd_none, zite0, zite1, ↓reduceIte, Nat.one_ne_zero, Nat.reduceEqDiff, t62, t68, t71, t79, t85, t88, t91, t94, t97]
                    refine msm_ask (by have hh := m_isWord (L := L) (xs := xs) (d := d) ht hc84 (k := 5) (by decide); rw [if_neg t97] at hh; exact qe_up (by omega) hh) rfl rfl rfl rfl rfl rfl rfl (ai_rcv1 rfl rfl (mcs_rcv hc84).choose_spec) ?_
                    show msm L xs e Y K _ qm_146 64 [some (.ref 14), none, none, none] [.int 0] h84 _ _ _
                    refine msm_if true rfl (rfl) rfl ?_
                    refine msm_pls (n := 2) (k' := 70) (lo' := [some (.ref 14), none, none, none]) (S' := [.retAddr 1083, .ref 14]) (h' := h84) rfl ?_
                    by_cases t100 : ztk e s.1 = 69
                    · skip
                      try simp only [zq, zi, zc, zv, zf, zci_eq, zsi_eq, zsk_eq, zbd_zbd, zbd_some, zbd_fault, zbd_none, zite0, zite1, ↓reduceIte, Nat.one_ne_zero, Nat.reduceEqDiff, t62, t68, t71, t79, t85, t88, t91, t94, t97, t100]
                      refine msm_ask (by have hh := m_isWord (L := L) (xs := xs) (d := d) ht hc84 (k := 69) (by decide); rw [if_pos t100] at hh; exact qe_up (by omega) hh) rfl rfl rfl rfl rfl rfl rfl (ai_rcv1 rfl rfl (mcs_rcv hc84).choose_spec) ?_
                      show msm L xs e Y K _ qm_146 71 [some (.ref 14), none, none, none] [.int 1] h84 _ _ _
                      refine msm_if false rfl (rfl) rfl ?_
                      refine msm_pls (n := 5) (k' := 84) (lo' := [some (.ref 14), some (.int 3), none, none]) (S' := [.retAddr 1083, .ref 14]) (h' := h84) rfl ?_
                      refine msm_ask (by have hh := m_isWord (L := L) (xs := xs) (d := d) ht hc84 (k := 69) (by decide); rw [if_pos t100] at hh; exact qe_up (by omega) hh) rfl rfl rfl rfl rfl rfl rfl (ai_rcv1 rfl rfl (mcs_rcv hc84).choose_spec) ?_
                      show msm L xs e Y K _ qm_146 85 [some (.ref 14), some (.int 3), none, none] [.int 1] h84 _ _ _
                      refine msm_if false rfl (rfl) rfl ?_
                      refine msm_pls (n := 6) (k' := 93) (lo' := [some (.ref 14), some (.int 3), some (.int 2), none]) (S' := [.int 1, .int 3, .ref 14]) (h' := h84) rfl ?_
                      refine msm_icmp true rfl (rfl) rfl ?_
                      refine msm_pls (n := 2) (k' := 113) (lo' := [some (.ref 14), some (.int 3), some (.int 2), none]) (S' := [.int 1, .ref 14]) (h' := h84) rfl ?_
                      refine msm_need1 rfl rfl rfl rfl rfl rfl rfl (ai_rcv1 rfl rfl (mcs_rcv hc84).choose_spec) ?_
                      show msm L xs e Y K _ qm_146 114 [some (.ref 14), some (.int 3), some (.int 2), none] [] h84 _ _ _
                      refine msm_pls (n := 1) (k' := 115) (lo' := [some (.ref 14), some (.int 3), some (.int 2), none]) (S' := [.ref 14]) (h' := h84) rfl ?_
                      first
                        | refine msm_keep ht hc84 (kk := 69) (by decide) (by decide) t100 rfl rfl rfl rfl rfl rfl rfl rfl (ai_rcv1 rfl rfl (mcs_rcv hc84).choose_spec) (fun s101 h101 hc101 => ?_)
                      show msm L xs e Y K _ qm_146 116 [some (.ref 14), some (.int 3), some (.int 2), none] [] h101 _ _ _
                      try simp only [zq, zi, zc, zv, zf, zci_eq, zsi_eq, zsk_eq, zbd_zbd, zbd_some, zbd_fault, zbd_none, zite0, zite1, ↓reduceIte, Nat.one_ne_zero, Nat.reduceEqDiff]
                      refine msm_pls (n := 1) (k' := 117) (lo' := [some (.ref 14), some (.int 3), some (.int 2), none]) (S' := [.ref 14]) (h' := h101) rfl ?_
                      first
                        | refine msm_call hc101 (mim_up (mi_open (d := d) ht) (by omega)) rfl rfl rfl rfl rfl rfl rfl rfl (ai_rcv1 rfl rfl (mcs_rcv hc101).choose_spec) (fun v102 s102 h102 f102 hc102 => ?_)
                        | refine msm_callL hc101 (mim_up (mi_open (d := d) ht) (by omega)) rfl rfl rfl rfl rfl rfl rfl rfl (ai_rcv1 rfl rfl (mcs_rcv hc101).choose_spec) (fun v102 s102 h102 f102 hc102 => ?_)
                      show msm L xs e Y K _ qm_146 118 [some (.ref 14), some (.int 3), some (.int 2), none] [] h102 _ _ _
                      try simp only [zq, zi, zc, zv, zf, zci_eq, zsi_eq, zsk_eq, zbd_zbd, zbd_some, zbd_fault, zbd_none, zite0, zite1, ↓reduceIte, Nat.one_ne_zero, Nat.reduceEqDiff]
                      refine msm_pls (n := 1) (k' := 119) (lo' := [some (.ref 14), some (.int 3), some (.int 2), none]) (S' := [.ref 14]) (h' := h102) rfl ?_
                      first
                        | refine msm_call hc102 (mim_up (hex) (by omega)) rfl rfl rfl rfl rfl rfl rfl rfl (ai_rcv1 rfl rfl (mcs_rcv hc102).choose_spec) (fun v103 s103 h103 f103 hc103 => ?_)
                        | refine msm_callL hc102 (mim_up (hex) (by omega)) rfl rfl rfl rfl rfl rfl rfl rfl (ai_rcv1 rfl rfl (mcs_rcv hc102).choose_spec) (fun v103 s103 h103 f103 hc103 => ?_)
                      show msm L xs e Y K _ qm_146 120 [some (.ref 14), some (.int 3), some (.int 2), none] [] h103 _ _ _
                      try simp only [zq, zi, zc, zv, zf, zci_eq, zsi_eq, zsk_eq, zbd_zbd, zbd_some, zbd_fault, zbd_none, zite0, zite1, ↓reduceIte, Nat.one_ne_zero, Nat.reduceEqDiff]
                      refine msm_pls (n := 4) (k' := 124) (lo' := [some (.ref 14), some (.int 3), some (.int 2), some (.int 1)]) (S' := [.int 3, .int 1]) (h' := h103) rfl ?_
                      refine msm_icmp false rfl (rfl) rfl ?_
                      refine msm_pls (n := 2) (k' := 127) (lo' := [some (.ref 14), some (.int 3), some (.int 2), some (.int 1)]) (S' := [.int 2, .int 1]) (h' := h103) rfl ?_
                      refine msm_icmp true rfl (rfl) rfl ?_
                      refine msm_pls (n := 2) (k' := 134) (lo' := [some (.ref 14), some (.int 3), some (.int 2), some (.int 1)]) (S' := [.retAddr 1099, .ref 14]) (h' := h103) rfl ?_
                      first
                        | refine msm_call hc103 (mim_up (mi_sign (d := d) (k := 84) ht (by decide) (by decide)) (by omega)) rfl rfl rfl rfl rfl rfl rfl rfl (ai_rcv1 rfl rfl (mcs_rcv hc103).choose_spec) (fun v104 s104 h104 f104 hc104 => ?_)
                        | refine msm_callL hc103 (mim_up (mi_sign (d := d) (k := 84) ht (by decide) (by decide)) (by omega)) rfl rfl rfl rfl rfl rfl rfl rfl (ai_rcv1 rfl rfl (mcs_rcv hc103).choose_spec) (fun v104 s104 h104 f104 hc104 => ?_)
                      show msm L xs e Y K _ qm_146 135 [some (.ref 14), some (.int 3), some (.int 2), some (.int 1)] [] h104 _ _ _
                      try simp only [zq, zi, zc, zv, zf, zci_eq, zsi_eq, zsk_eq, zbd_zbd, zbd_some, zbd_fault, zbd_none, zite0, zite1, ↓reduceIte, Nat.one_ne_zero, Nat.reduceEqDiff]
                      refine msm_pls (n := 1) (k' := 136) (lo' := [some (.ref 14), some (.int 3), some (.int 2), some (.int 1)]) (S' := [.ref 14]) (h' := h104) rfl ?_
                      first
                        | refine msm_call hc104 (mim_up (hex) (by omega)) rfl rfl rfl rfl rfl rfl rfl rfl (ai_rcv1 rfl rfl (mcs_rcv hc104).choose_spec) (fun v105 s105 h105 f105 hc105 => ?_)
                        | refine msm_callL hc104 (mim_up (hex) (by omega)) rfl rfl rfl rfl rfl rfl rfl rfl (ai_rcv1 rfl rfl (mcs_rcv hc104).choose_spec) (fun v105 s105 h105 f105 hc105 => ?_)
                      show msm L xs e Y K _ qm_146 137 [some (.ref 14), some (.int 3), some (.int 2), some (.int 1)] [] h105 _ _ _
                      try simp only [zq, zi, zc, zv, zf, zci_eq, zsi_eq, zsk_eq, zbd_zbd, zbd_some, zbd_fault, zbd_none, zite0, zite1, ↓reduceIte, Nat.one_ne_zero, Nat.reduceEqDiff]
                      refine msm_pls (n := 4) (k' := 124) (lo' := [some (.ref 14), some (.int 3), some (.int 2), some (.int 2)]) (S' := [.int 3, .int 2]) (h' := h105) rfl ?_
                      refine msm_icmp false rfl (rfl) rfl ?_
                      refine msm_pls (n := 2) (k' := 127) (lo' := [some (.ref 14), some (.int 3), some (.int 2), some (.int 2)]) (S' := [.int 2, .int 2]) (h' := h105) rfl ?_
                      refine msm_icmp false rfl (rfl) rfl ?_
                      refine msm_pls (n := 2) (k' := 130) (lo' := [some (.ref 14), some (.int 3), some (.int 2), some (.int 2)]) (S' := [.retAddr 1099, .ref 14]) (h' := h105) rfl ?_
                      by_cases t106 : ztk e s105.1 = 84
                      · skip
                        try simp only [zq, zi, zc, zv, zf, zci_eq, zsi_eq, zsk_eq, zbd_zbd, zbd_some, zbd_fault, zbd_none, zite0, zite1, ↓reduceIte, Nat.one_ne_zero, Nat.reduceEqDiff, t106]
                        refine msm_ask (by have hh := m_isMark (L := L) (xs := xs) (d := d) ht hc105 (k := 84) (by decide); rw [if_pos t106] at hh; exact qe_up (by omega) hh) rfl rfl rfl rfl rfl rfl rfl (ai_rcv1 rfl rfl (mcs_rcv hc105).choose_spec) ?_
                        show msm L xs e Y K _ qm_146 131 [some (.ref 14), some (.int 3), some (.int 2), some (.int 2)] [.int 1] h105 _ _ _
                        refine msm_if false rfl (rfl) rfl ?_
                        refine msm_pls (n := 2) (k' := 134) (lo' := [some (.ref 14), some (.int 3), some (.int 2), some (.int 2)]) (S' := [.retAddr 1099, .ref 14]) (h' := h105) rfl ?_
                        first
                          | refine msm_call hc105 (mim_up (mi_sign (d := d) (k := 84) ht (by decide) (by decide)) (by omega)) rfl rfl rfl rfl rfl rfl rfl rfl (ai_rcv1 rfl rfl (mcs_rcv hc105).choose_spec) (fun v107 s107 h107 f107 hc107 => ?_)
                          | refine msm_callL hc105 (mim_up (mi_sign (d := d) (k := 84) ht (by decide) (by decide)) (by omega)) rfl rfl rfl rfl rfl rfl rfl rfl (ai_rcv1 rfl rfl (mcs_rcv hc105).choose_spec) (fun v107 s107 h107 f107 hc107 => ?_)
                        show msm L xs e Y K _ qm_146 135 [some (.ref 14), some (.int 3), some (.int 2), some (.int 2)] [] h107 _ _ _
                        try simp only [zq, zi, zc, zv, zf, zci_eq, zsi_eq, zsk_eq, zbd_zbd, zbd_some, zbd_fault, zbd_none, zite0, zite1, ↓reduceIte, Nat.one_ne_zero, Nat.reduceEqDiff]
                        refine msm_pls (n := 1) (k' := 136) (lo' := [some (.ref 14), some (.int 3), some (.int 2), some (.int 2)]) (S' := [.ref 14]) (h' := h107) rfl ?_
                        first
                          | refine msm_call hc107 (mim_up (hex) (by omega)) rfl rfl rfl rfl rfl rfl rfl rfl (ai_rcv1 rfl rfl (mcs_rcv hc107).choose_spec) (fun v108 s108 h108 f108 hc108 => ?_)
                          | refine msm_callL hc107 (mim_up (hex) (by omega)) rfl rfl rfl rfl rfl rfl rfl rfl (ai_rcv1 rfl rfl (mcs_rcv hc107).choose_spec) (fun v108 s108 h108 f108 hc108 => ?_)
                        show msm L xs e Y K _ qm_146 137 [some (.ref 14), some (.int 3), some (.int 2), some (.int 2)] [] h108 _ _ _
                        try simp only [zq, zi, zc, zv, zf, zci_eq, zsi_eq, zsk_eq, zbd_zbd, zbd_some, zbd_fault, zbd_none, zite0, zite1, ↓reduceIte, Nat.one_ne_zero, Nat.reduceEqDiff]
                        refine msm_pls (n := 4) (k' := 124) (lo' := [some (.ref 14), some (.int 3), some (.int 2), some (.int 3)]) (S' := [.int 3, .int 3]) (h' := h108) rfl ?_
                        refine msm_icmp true rfl (rfl) rfl ?_
                        refine msm_pls (n := 1) (k' := 140) (lo' := [some (.ref 14), some (.int 3), some (.int 2), some (.int 3)]) (S' := [.ref 14]) (h' := h108) rfl ?_
                        first
                          | refine msm_call hc108 (mim_up (mi_close (d := d) ht) (by omega)) rfl rfl rfl rfl rfl rfl rfl rfl (ai_rcv1 rfl rfl (mcs_rcv hc108).choose_spec) (fun v109 s109 h109 f109 hc109 => ?_)
                          | refine msm_callL hc108 (mim_up (mi_close (d := d) ht) (by omega)) rfl rfl rfl rfl rfl rfl rfl rfl (ai_rcv1 rfl rfl (mcs_rcv hc108).choose_spec) (fun v109 s109 h109 f109 hc109 => ?_)
                        show msm L xs e Y K _ qm_146 141 [some (.ref 14), some (.int 3), some (.int 2), some (.int 3)] [] h109 _ _ _
                        try simp only [zq, zi, zc, zv, zf, zci_eq, zsi_eq, zsk_eq, zbd_zbd, zbd_some, zbd_fault, zbd_none, zite0, zite1, ↓reduceIte, Nat.one_ne_zero, Nat.reduceEqDiff]
                        exact msm_ret7 hc109 rfl
                      · skip
                        try simp only [zq, zi, zc, zv, zf, zci_eq, zsi_eq, zsk_eq, zbd_zbd, zbd_some, zbd_fault, zbd_none, zite0, zite1, ↓reduceIte, Nat.one_ne_zero, Nat.reduceEqDiff, t106]
                        refine msm_ask (by have hh := m_isMark (L := L) (xs := xs) (d := d) ht hc105 (k := 84) (by decide); rw [if_neg t106] at hh; exact qe_up (by omega) hh) rfl rfl rfl rfl rfl rfl rfl (ai_rcv1 rfl rfl (mcs_rcv hc105).choose_spec) ?_
                        show msm L xs e Y K _ qm_146 131 [some (.ref 14), some (.int 3), some (.int 2), some (.int 2)] [.int 0] h105 _ _ _
                        refine msm_if true rfl (rfl) rfl ?_
                        refine msm_pls (n := 1) (k' := 140) (lo' := [some (.ref 14), some (.int 3), some (.int 2), some (.int 2)]) (S' := [.ref 14]) (h' := h105) rfl ?_
                        first
                          | refine msm_call hc105 (mim_up (mi_close (d := d) ht) (by omega)) rfl rfl rfl rfl rfl rfl rfl rfl (ai_rcv1 rfl rfl (mcs_rcv hc105).choose_spec) (fun v110 s110 h110 f110 hc110 => ?_)
                          | refine msm_callL hc105 (mim_up (mi_close (d := d) ht) (by omega)) rfl rfl rfl rfl rfl rfl rfl rfl (ai_rcv1 rfl rfl (mcs_rcv hc105).choose_spec) (fun v110 s110 h110 f110 hc110 => ?_)
                        show msm L xs e Y K _ qm_146 141 [some (.ref 14), some (.int 3), some (.int 2), some (.int 2)] [] h110 _ _ _
                        try simp only [zq, zi, zc, zv, zf, zci_eq, zsi_eq, zsk_eq, zbd_zbd, zbd_some, zbd_fault, zbd_none, zite0, zite1, ↓reduceIte, Nat.one_ne_zero, Nat.reduceEqDiff]
                        exact msm_ret7 hc110 rfl
                    · skip
                      try simp only [zq, zi, zc, zv, zf, zci_eq, zsi_eq, zsk_eq, zbd_zbd, zbd_some, zbd_fault, zbd_none, zite0, zite1, ↓reduceIte, Nat.one_ne_zero, Nat.reduceEqDiff, t62, t68, t71, t79, t85, t88, t91, t94, t97, t100]
                      refine msm_ask (by have hh := m_isWord (L := L) (xs := xs) (d := d) ht hc84 (k := 69) (by decide); rw [if_neg t100] at hh; exact qe_up (by omega) hh) rfl rfl rfl rfl rfl rfl rfl (ai_rcv1 rfl rfl (mcs_rcv hc84).choose_spec) ?_
                      show msm L xs e Y K _ qm_146 71 [some (.ref 14), none, none, none] [.int 0] h84 _ _ _
                      refine msm_if true rfl (rfl) rfl ?_
                      refine msm_pls (n := 2) (k' := 76) (lo' := [some (.ref 14), none, none, none]) (S' := [.retAddr 1066, .ref 14]) (h' := h84) rfl ?_
                      by_cases t111 : ztk e s.1 = 51
                      · skip
                        try simp only [zq, zi, zc, zv, zf, zci_eq, zsi_eq, zsk_eq, zbd_zbd, zbd_some, zbd_fault, zbd_none, zite0, zite1, ↓reduceIte, Nat.one_ne_zero, Nat.reduceEqDiff, t62, t68, t71, t79, t85, t88, t91, t94, t97, t100, t111]
                        refine msm_ask (by have hh := m_isWord (L := L) (xs := xs) (d := d) ht hc84 (k := 51) (by decide); rw [if_pos t111] at hh; exact qe_up (by omega) hh) rfl rfl rfl rfl rfl rfl rfl (ai_rcv1 rfl rfl (mcs_rcv hc84).choose_spec) ?_
                        show msm L xs e Y K _ qm_146 77 [some (.ref 14), none, none, none] [.int 1] h84 _ _ _
                        refine msm_if false rfl (rfl) rfl ?_
                        refine msm_pls (n := 5) (k' := 84) (lo' := [some (.ref 14), some (.int 2), none, none]) (S' := [.retAddr 1083, .ref 14]) (h' := h84) rfl ?_
                        refine msm_ask (by have hh := m_isWord (L := L) (xs := xs) (d := d) ht hc84 (k := 69) (by decide); rw [if_neg (show ¬ ztk e s.1 = 69 from fun q => absurd (t111.symm.trans q) (by decide))] at hh; exact qe_up (by omega) hh) rfl rfl rfl rfl rfl rfl rfl (ai_rcv1 rfl rfl (mcs_rcv hc84).choose_spec) ?_
                        show msm L xs e Y K _ qm_146 85 [some (.ref 14), some (.int 2), none, none] [.int 0] h84 _ _ _
                        refine msm_if true rfl (rfl) rfl ?_
                        refine msm_pls (n := 5) (k' := 93) (lo' := [some (.ref 14), some (.int 2), some (.int 2), none]) (S' := [.int 1, .int 2, .ref 14]) (h' := h84) rfl ?_
                        refine msm_icmp true rfl (rfl) rfl ?_
                        refine msm_pls (n := 2) (k' := 113) (lo' := [some (.ref 14), some (.int 2), some (.int 2), none]) (S' := [.int 1, .ref 14]) (h' := h84) rfl ?_
                        refine msm_need1 rfl rfl rfl rfl rfl rfl rfl (ai_rcv1 rfl rfl (mcs_rcv hc84).choose_spec) ?_
                        show msm L xs e Y K _ qm_146 114 [some (.ref 14), some (.int 2), some (.int 2), none] [] h84 _ _ _
                        refine msm_pls (n := 1) (k' := 115) (lo' := [some (.ref 14), some (.int 2), some (.int 2), none]) (S' := [.ref 14]) (h' := h84) rfl ?_
                        first
                          | refine msm_keep ht hc84 (kk := 51) (by decide) (by decide) t111 rfl rfl rfl rfl rfl rfl rfl rfl (ai_rcv1 rfl rfl (mcs_rcv hc84).choose_spec) (fun s112 h112 hc112 => ?_)
                        show msm L xs e Y K _ qm_146 116 [some (.ref 14), some (.int 2), some (.int 2), none] [] h112 _ _ _
                        try simp only [zq, zi, zc, zv, zf, zci_eq, zsi_eq, zsk_eq, zbd_zbd, zbd_some, zbd_fault, zbd_none, zite0, zite1, ↓reduceIte, Nat.one_ne_zero, Nat.reduceEqDiff]
                        refine msm_pls (n := 1) (k' := 117) (lo' := [some (.ref 14), some (.int 2), some (.int 2), none]) (S' := [.ref 14]) (h' := h112) rfl ?_
                        first
                          | refine msm_call hc112 (mim_up (mi_open (d := d) ht) (by omega)) rfl rfl rfl rfl rfl rfl rfl rfl (ai_rcv1 rfl rfl (mcs_rcv hc112).choose_spec) (fun v113 s113 h113 f113 hc113 => ?_)
                          | refine msm_callL hc112 (mim_up (mi_open (d := d) ht) (by omega)) rfl rfl rfl rfl rfl rfl rfl rfl (ai_rcv1 rfl rfl (mcs_rcv hc112).choose_spec) (fun v113 s113 h113 f113 hc113 => ?_)
                        show msm L xs e Y K _ qm_146 118 [some (.ref 14), some (.int 2), some (.int 2), none] [] h113 _ _ _
                        try simp only [zq, zi, zc, zv, zf, zci_eq, zsi_eq, zsk_eq, zbd_zbd, zbd_some, zbd_fault, zbd_none, zite0, zite1, ↓reduceIte, Nat.one_ne_zero, Nat.reduceEqDiff]
                        refine msm_pls (n := 1) (k' := 119) (lo' := [some (.ref 14), some (.int 2), some (.int 2), none]) (S' := [.ref 14]) (h' := h113) rfl ?_
                        first
                          | refine msm_call hc113 (mim_up (hex) (by omega)) rfl rfl rfl rfl rfl rfl rfl rfl (ai_rcv1 rfl rfl (mcs_rcv hc113).choose_spec) (fun v114 s114 h114 f114 hc114 => ?_)
                          | refine msm_callL hc113 (mim_up (hex) (by omega)) rfl rfl rfl rfl rfl rfl rfl rfl (ai_rcv1 rfl rfl (mcs_rcv hc113).choose_spec) (fun v114 s114 h114 f114 hc114 => ?_)
                        show msm L xs e Y K _ qm_146 120 [some (.ref 14), some (.int 2), some (.int 2), none] [] h114 _ _ _
                        try simp only [zq, zi, zc, zv, zf, zci_eq, zsi_eq, zsk_eq, zbd_zbd, zbd_some, zbd_fault, zbd_none, zite0, zite1, ↓reduceIte, Nat.one_ne_zero, Nat.reduceEqDiff]
                        refine msm_pls (n := 4) (k' := 124) (lo' := [some (.ref 14), some (.int 2), some (.int 2), some (.int 1)]) (S' := [.int 2, .int 1]) (h' := h114) rfl ?_
                        refine msm_icmp false rfl (rfl) rfl ?_
                        refine msm_pls (n := 2) (k' := 127) (lo' := [some (.ref 14), some (.int 2), some (.int 2), some (.int 1)]) (S' := [.int 2, .int 1]) (h' := h114) rfl ?_
                        refine msm_icmp true rfl (rfl) rfl ?_
                        refine msm_pls (n := 2) (k' := 134) (lo' := [some (.ref 14), some (.int 2), some (.int 2), some (.int 1)]) (S' := [.retAddr 1099, .ref 14]) (h' := h114) rfl ?_
                        first
                          | refine msm_call hc114 (mim_up (mi_sign (d := d) (k := 84) ht (by decide) (by decide)) (by omega)) rfl rfl rfl rfl rfl rfl rfl rfl (ai_rcv1 rfl rfl (mcs_rcv hc114).choose_spec) (fun v115 s115 h115 f115 hc115 => ?_)
                          | refine msm_callL hc114 (mim_up (mi_sign (d := d) (k := 84) ht (by decide) (by decide)) (by omega)) rfl rfl rfl rfl rfl rfl rfl rfl (ai_rcv1 rfl rfl (mcs_rcv hc114).choose_spec) (fun v115 s115 h115 f115 hc115 => ?_)
                        show msm L xs e Y K _ qm_146 135 [some (.ref 14), some (.int 2), some (.int 2), some (.int 1)] [] h115 _ _ _
                        try simp only [zq, zi, zc, zv, zf, zci_eq, zsi_eq, zsk_eq, zbd_zbd, zbd_some, zbd_fault, zbd_none, zite0, zite1, ↓reduceIte, Nat.one_ne_zero, Nat.reduceEqDiff]
                        refine msm_pls (n := 1) (k' := 136) (lo' := [some (.ref 14), some (.int 2), some (.int 2), some (.int 1)]) (S' := [.ref 14]) (h' := h115) rfl ?_
                        first
                          | refine msm_call hc115 (mim_up (hex) (by omega)) rfl rfl rfl rfl rfl rfl rfl rfl (ai_rcv1 rfl rfl (mcs_rcv hc115).choose_spec) (fun v116 s116 h116 f116 hc116 => ?_)
                          | refine msm_callL hc115 (mim_up (hex) (by omega)) rfl rfl rfl rfl rfl rfl rfl rfl (ai_rcv1 rfl rfl (mcs_rcv hc115).choose_spec) (fun v116 s116 h116 f116 hc116 => ?_)
                        show msm L xs e Y K _ qm_146 137 [some (.ref 14), some (.int 2), some (.int 2), some (.int 1)] [] h116 _ _ _
                        try simp only [zq, zi, zc, zv, zf, zci_eq, zsi_eq, zsk_eq, zbd_zbd, zbd_some, zbd_fault, zbd_none, zite0, zite1, ↓reduceIte, Nat.one_ne_zero, Nat.reduceEqDiff]
                        refine msm_pls (n := 4) (k' := 124) (lo' := [some (.ref 14), some (.int 2), some (.int 2), some (.int 2)]) (S' := [.int 2, .int 2]) (h' := h116) rfl ?_
                        refine msm_icmp true rfl (rfl) rfl ?_
                        refine msm_pls (n := 1) (k' := 140) (lo' := [some (.ref 14), some (.int 2), some (.int 2), some (.int 2)]) (S' := [.ref 14]) (h' := h116) rfl ?_
                        first
                          | refine msm_call hc116 (mim_up (mi_close (d := d) ht) (by omega)) rfl rfl rfl rfl rfl rfl rfl rfl (ai_rcv1 rfl rfl (mcs_rcv hc116).choose_spec) (fun v117 s117 h117 f117 hc117 => ?_)
                          | refine msm_callL hc116 (mim_up (mi_close (d := d) ht) (by omega)) rfl rfl rfl rfl rfl rfl rfl rfl (ai_rcv1 rfl rfl (mcs_rcv hc116).choose_spec) (fun v117 s117 h117 f117 hc117 => ?_)
                        show msm L xs e Y K _ qm_146 141 [some (.ref 14), some (.int 2), some (.int 2), some (.int 2)] [] h117 _ _ _
                        try simp only [zq, zi, zc, zv, zf, zci_eq, zsi_eq, zsk_eq, zbd_zbd, zbd_some, zbd_fault, zbd_none, zite0, zite1, ↓reduceIte, Nat.one_ne_zero, Nat.reduceEqDiff]
                        exact msm_ret7 hc117 rfl
                      · skip
                        try simp only [zq, zi, zc, zv, zf, zci_eq, zsi_eq, zsk_eq, zbd_zbd, zbd_some, zbd_fault, zbd_none, zite0, zite1, ↓reduceIte, Nat.one_ne_zero, Nat.reduceEqDiff, t62, t68, t71, t79, t85, t88, t91, t94, t97, t100, t111]
                        refine msm_ask (by have hh := m_isWord (L := L) (xs := xs) (d := d) ht hc84 (k := 51) (by decide); rw [if_neg t111] at hh; exact qe_up (by omega) hh) rfl rfl rfl rfl rfl rfl rfl (ai_rcv1 rfl rfl (mcs_rcv hc84).choose_spec) ?_
                        show msm L xs e Y K _ qm_146 77 [some (.ref 14), none, none, none] [.int 0] h84 _ _ _
                        refine msm_if true rfl (rfl) rfl ?_
                        refine msm_pls (n := 4) (k' := 84) (lo' := [some (.ref 14), some (.int 1), none, none]) (S' := [.retAddr 1083, .ref 14]) (h' := h84) rfl ?_
                        refine msm_ask (by have hh := m_isWord (L := L) (xs := xs) (d := d) ht hc84 (k := 69) (by decide); rw [if_neg t100] at hh; exact qe_up (by omega) hh) rfl rfl rfl rfl rfl rfl rfl (ai_rcv1 rfl rfl (mcs_rcv hc84).choose_spec) ?_
                        show msm L xs e Y K _ qm_146 85 [some (.ref 14), some (.int 1), none, none] [.int 0] h84 _ _ _
                        refine msm_if true rfl (rfl) rfl ?_
                        refine msm_pls (n := 5) (k' := 93) (lo' := [some (.ref 14), some (.int 1), some (.int 1), none]) (S' := [.int 1, .int 1, .ref 14]) (h' := h84) rfl ?_
                        refine msm_icmp false rfl (rfl) rfl ?_
                        refine msm_pls (n := 2) (k' := 96) (lo' := [some (.ref 14), some (.int 1), some (.int 1), none]) (S' := [.retAddr 1015, .ref 14, .ref 14]) (h' := h84) rfl ?_
                        by_cases t118 : ztk e s.1 = 0
                        · skip
                          try simp only [zq, zi, zc, zv, zf, zci_eq, zsi_eq, zsk_eq, zbd_zbd, zbd_some, zbd_fault, zbd_none, zite0, zite1, ↓reduceIte, Nat.one_ne_zero, Nat.reduceEqDiff, t62, t68, t71, t79, t85, t88, t91, t94, t97, t100, t111, t118]
                          refine msm_ask (by have hh := m_isWord (L := L) (xs := xs) (d := d) ht hc84 (k := 0) (by decide); rw [if_pos t118] at hh; exact qe_up (by omega) hh) rfl rfl rfl rfl rfl rfl rfl (ai_rcv1 rfl rfl (mcs_rcv hc84).choose_spec) ?_
                          show msm L xs e Y K _ qm_146 97 [some (.ref 14), some (.int 1), some (.int 1), none] [.int 1, .ref 14] h84 _ _ _
                          refine msm_if true rfl (rfl) rfl ?_
                          refine msm_pls (n := 2) (k' := 113) (lo' := [some (.ref 14), some (.int 1), some (.int 1), none]) (S' := [.int 1, .ref 14]) (h' := h84) rfl ?_
                          refine msm_need1 rfl rfl rfl rfl rfl rfl rfl (ai_rcv1 rfl rfl (mcs_rcv hc84).choose_spec) ?_
                          show msm L xs e Y K _ qm_146 114 [some (.ref 14), some (.int 1), some (.int 1), none] [] h84 _ _ _
                          refine msm_pls (n := 1) (k' := 115) (lo' := [some (.ref 14), some (.int 1), some (.int 1), none]) (S' := [.ref 14]) (h' := h84) rfl ?_
                          first
                            | refine msm_keep ht hc84 (kk := 0) (by decide) (by decide) t118 rfl rfl rfl rfl rfl rfl rfl rfl (ai_rcv1 rfl rfl (mcs_rcv hc84).choose_spec) (fun s119 h119 hc119 => ?_)
                          show msm L xs e Y K _ qm_146 116 [some (.ref 14), some (.int 1), some (.int 1), none] [] h119 _ _ _
                          try simp only [zq, zi, zc, zv, zf, zci_eq, zsi_eq, zsk_eq, zbd_zbd, zbd_some, zbd_fault, zbd_none, zite0, zite1, ↓reduceIte, Nat.one_ne_zero, Nat.reduceEqDiff]
                          refine msm_pls (n := 1) (k' := 117) (lo' := [some (.ref 14), some (.int 1), some (.int 1), none]) (S' := [.ref 14]) (h' := h119) rfl ?_
                          first
                            | refine msm_call hc119 (mim_up (mi_open (d := d) ht) (by omega)) rfl rfl rfl rfl rfl rfl rfl rfl (ai_rcv1 rfl rfl (mcs_rcv hc119).choose_spec) (fun v120 s120 h120 f120 hc120 => ?_)
                            | refine msm_callL hc119 (mim_up (mi_open (d := d) ht) (by omega)) rfl rfl rfl rfl rfl rfl rfl rfl (ai_rcv1 rfl rfl (mcs_rcv hc119).choose_spec) (fun v120 s120 h120 f120 hc120 => ?_)
                          show msm L xs e Y K _ qm_146 118 [some (.ref 14), some (.int 1), some (.int 1), none] [] h120 _ _ _
                          try simp only [zq, zi, zc, zv, zf, zci_eq, zsi_eq, zsk_eq, zbd_zbd, zbd_some, zbd_fault, zbd_none, zite0, zite1, ↓reduceIte, Nat.one_ne_zero, Nat.reduceEqDiff]
                          refine msm_pls (n := 1) (k' := 119) (lo' := [some (.ref 14), some (.int 1), some (.int 1), none]) (S' := [.ref 14]) (h' := h120) rfl ?_
                          first
                            | refine msm_call hc120 (mim_up (hex) (by omega)) rfl rfl rfl rfl rfl rfl rfl rfl (ai_rcv1 rfl rfl (mcs_rcv hc120).choose_spec) (fun v121 s121 h121 f121 hc121 => ?_)
                            | refine msm_callL hc120 (mim_up (hex) (by omega)) rfl rfl rfl rfl rfl rfl rfl rfl (ai_rcv1 rfl rfl (mcs_rcv hc120).choose_spec) (fun v121 s121 h121 f121 hc121 => ?_)
                          show msm L xs e Y K _ qm_146 120 [some (.ref 14), some (.int 1), some (.int 1), none] [] h121 _ _ _
                          try simp only [zq, zi, zc, zv, zf, zci_eq, zsi_eq, zsk_eq, zbd_zbd, zbd_some, zbd_fault, zbd_none, zite0, zite1, ↓reduceIte, Nat.one_ne_zero, Nat.reduceEqDiff]
                          refine msm_pls (n := 4) (k' := 124) (lo' := [some (.ref 14), some (.int 1), some (.int 1), some (.int 1)]) (S' := [.int 1, .int 1]) (h' := h121) rfl ?_
                          refine msm_icmp true rfl (rfl) rfl ?_
                          refine msm_pls (n := 1) (k' := 140) (lo' := [some (.ref 14), some (.int 1), some (.int 1), some (.int 1)]) (S' := [.ref 14]) (h' := h121) rfl ?_
                          first
                            | refine msm_call hc121 (mim_up (mi_close (d := d) ht) (by omega)) rfl rfl rfl rfl rfl rfl rfl rfl (ai_rcv1 rfl rfl (mcs_rcv hc121).choose_spec) (fun v122 s122 h122 f122 hc122 => ?_)
                            | refine msm_callL hc121 (mim_up (mi_close (d := d) ht) (by omega)) rfl rfl rfl rfl rfl rfl rfl rfl (ai_rcv1 rfl rfl (mcs_rcv hc121).choose_spec) (fun v122 s122 h122 f122 hc122 => ?_)
                          show msm L xs e Y K _ qm_146 141 [some (.ref 14), some (.int 1), some (.int 1), some (.int 1)] [] h122 _ _ _
                          try simp only [zq, zi, zc, zv, zf, zci_eq, zsi_eq, zsk_eq, zbd_zbd, zbd_some, zbd_fault, zbd_none, zite0, zite1, ↓reduceIte, Nat.one_ne_zero, Nat.reduceEqDiff]
                          exact msm_ret7 hc122 rfl
                        · skip
                          try simp only [zq, zi, zc, zv, zf, zci_eq, zsi_eq, zsk_eq, zbd_zbd, zbd_some, zbd_fault, zbd_none, zite0, zite1, ↓reduceIte, Nat.one_ne_zero, Nat.reduceEqDiff, t62, t68, t71, t79, t85, t88, t91, t94, t97, t100, t111, t118]
                          refine msm_ask (by have hh := m_isWord (L := L) (xs := xs) (d := d) ht hc84 (k := 0) (by decide); rw [if_neg t118] at hh; exact qe_up (by omega) hh) rfl rfl rfl rfl rfl rfl rfl (ai_rcv1 rfl rfl (mcs_rcv hc84).choose_spec) ?_
                          show msm L xs e Y K _ qm_146 97 [some (.ref 14), some (.int 1), some (.int 1), none] [.int 0, .ref 14] h84 _ _ _
                          refine msm_if false rfl (rfl) rfl ?_
                          refine msm_pls (n := 2) (k' := 100) (lo' := [some (.ref 14), some (.int 1), some (.int 1), none]) (S' := [.retAddr 1056, .ref 14, .ref 14]) (h' := h84) rfl ?_
                          by_cases t123 : ztk e s.1 = 41
                          · skip
                            try simp only [zq, zi, zc, zv, zf, zci_eq, zsi_eq, zsk_eq, zbd_zbd, zbd_some, zbd_fault, zbd_none, zite0, zite1, ↓reduceIte, Nat.one_ne_zero, Nat.reduceEqDiff, t62, t68, t71, t79, t85, t88, t91, t94, t97, t100, t111, t118, t123]
                            refine msm_ask (by have hh := m_isWord (L := L) (xs := xs) (d := d) ht hc84 (k := 41) (by decide); rw [if_pos t123] at hh; exact qe_up (by omega) hh) rfl rfl rfl rfl rfl rfl rfl (ai_rcv1 rfl rfl (mcs_rcv hc84).choose_spec) ?_
                            show msm L xs e Y K _ qm_146 101 [some (.ref 14), some (.int 1), some (.int 1), none] [.int 1, .ref 14] h84 _ _ _
                            refine msm_if true rfl (rfl) rfl ?_
                            refine msm_pls (n := 2) (k' := 113) (lo' := [some (.ref 14), some (.int 1), some (.int 1), none]) (S' := [.int 1, .ref 14]) (h' := h84) rfl ?_
                            refine msm_need1 rfl rfl rfl rfl rfl rfl rfl (ai_rcv1 rfl rfl (mcs_rcv hc84).choose_spec) ?_
                            show msm L xs e Y K _ qm_146 114 [some (.ref 14), some (.int 1), some (.int 1), none] [] h84 _ _ _
                            refine msm_pls (n := 1) (k' := 115) (lo' := [some (.ref 14), some (.int 1), some (.int 1), none]) (S' := [.ref 14]) (h' := h84) rfl ?_
                            first
                              | refine msm_keep ht hc84 (kk := 41) (by decide) (by decide) t123 rfl rfl rfl rfl rfl rfl rfl rfl (ai_rcv1 rfl rfl (mcs_rcv hc84).choose_spec) (fun s124 h124 hc124 => ?_)
                            show msm L xs e Y K _ qm_146 116 [some (.ref 14), some (.int 1), some (.int 1), none] [] h124 _ _ _
                            try simp only [zq, zi, zc, zv, zf, zci_eq, zsi_eq, zsk_eq, zbd_zbd, zbd_some, zbd_fault, zbd_none, zite0, zite1, ↓reduceIte, Nat.one_ne_zero, Nat.reduceEqDiff]
                            refine msm_pls (n := 1) (k' := 117) (lo' := [some (.ref 14), some (.int 1), some (.int 1), none]) (S' := [.ref 14]) (h' := h124) rfl ?_
                            first
                              | refine msm_call hc124 (mim_up (mi_open (d := d) ht) (by omega)) rfl rfl rfl rfl rfl rfl rfl rfl (ai_rcv1 rfl rfl (mcs_rcv hc124).choose_spec) (fun v125 s125 h125 f125 hc125 => ?_)
                              | refine msm_callL hc124 (mim_up (mi_open (d := d) ht) (by omega)) rfl rfl rfl rfl rfl rfl rfl rfl (ai_rcv1 rfl rfl (mcs_rcv hc124).choose_spec) (fun v125 s125 h125 f125 hc125 => ?_)
                            show msm L xs e Y K _ qm_146 118 [some (.ref 14), some (.int 1), some (.int 1), none] [] h125 _ _ _
                            try simp only [zq, zi, zc, zv, zf, zci_eq, zsi_eq, zsk_eq, zbd_zbd, zbd_some, zbd_fault, zbd_none, zite0, zite1, ↓reduceIte, Nat.one_ne_zero, Nat.reduceEqDiff]
                            refine msm_pls (n := 1) (k' := 119) (lo' := [some (.ref 14), some (.int 1), some (.int 1), none]) (S' := [.ref 14]) (h' := h125) rfl ?_
                            first
                              | refine msm_call hc125 (mim_up (hex) (by omega)) rfl rfl rfl rfl rfl rfl rfl rfl (ai_rcv1 rfl rfl (mcs_rcv hc125).choose_spec) (fun v126 s126 h126 f126 hc126 => ?_)
                              | refine msm_callL hc125 (mim_up (hex) (by omega)) rfl rfl rfl rfl rfl rfl rfl rfl (ai_rcv1 rfl rfl (mcs_rcv hc125).choose_spec) (fun v126 s126 h126 f126 hc126 => ?_)
                            show msm L xs e Y K _ qm_146 120 [some (.ref 14), some (.int 1), some (.int 1), none] [] h126 _ _ _
                            try simp only [zq, zi, zc, zv, zf, zci_eq, zsi_eq, zsk_eq, zbd_zbd, zbd_some, zbd_fault, zbd_none, zite0, zite1, ↓reduceIte, Nat.one_ne_zero, Nat.reduceEqDiff]
                            refine msm_pls (n := 4) (k' := 124) (lo' := [some (.ref 14), some (.int 1), some (.int 1), some (.int 1)]) (S' := [.int 1, .int 1]) (h' := h126) rfl ?_
                            refine msm_icmp true rfl (rfl) rfl ?_
                            refine msm_pls (n := 1) (k' := 140) (lo' := [some (.ref 14), some (.int 1), some (.int 1), some (.int 1)]) (S' := [.ref 14]) (h' := h126) rfl ?_
                            first
                              | refine msm_call hc126 (mim_up (mi_close (d := d) ht) (by omega)) rfl rfl rfl rfl rfl rfl rfl rfl (ai_rcv1 rfl rfl (mcs_rcv hc126).choose_spec) (fun v127 s127 h127 f127 hc127 => ?_)
                              | refine msm_callL hc126 (mim_up (mi_close (d := d) ht) (by omega)) rfl rfl rfl rfl rfl rfl rfl rfl (ai_rcv1 rfl rfl (mcs_rcv hc126).choose_spec) (fun v127 s127 h127 f127 hc127 => ?_)
                            show msm L xs e Y K _ qm_146 141 [some (.ref 14), some (.int 1), some (.int 1), some (.int 1)] [] h127 _ _ _
                            try simp only [zq, zi, zc, zv, zf, zci_eq, zsi_eq, zsk_eq, zbd_zbd, zbd_some, zbd_fault, zbd_none, zite0, zite1, ↓reduceIte, Nat.one_ne_zero, Nat.reduceEqDiff]
                            exact msm_ret7 hc127 rfl
                          · skip
                            try simp only [zq, zi, zc, zv, zf, zci_eq, zsi_eq, zsk_eq, zbd_zbd, zbd_some, zbd_fault, zbd_none, zite0, zite1, ↓reduceIte, Nat.one_ne_zero, Nat.reduceEqDiff, t62, t68, t71, t79, t85, t88, t91, t94, t97, t100, t111, t118, t123]
                            refine msm_ask (by have hh := m_isWord (L := L) (xs := xs) (d := d) ht hc84 (k := 41) (by decide); rw [if_neg t123] at hh; exact qe_up (by omega) hh) rfl rfl rfl rfl rfl rfl rfl (ai_rcv1 rfl rfl (mcs_rcv hc84).choose_spec) ?_
                            show msm L xs e Y K _ qm_146 101 [some (.ref 14), some (.int 1), some (.int 1), none] [.int 0, .ref 14] h84 _ _ _
                            refine msm_if false rfl (rfl) rfl ?_
                            refine msm_pls (n := 2) (k' := 104) (lo' := [some (.ref 14), some (.int 1), some (.int 1), none]) (S' := [.retAddr 1092, .ref 14, .ref 14]) (h' := h84) rfl ?_
                            by_cases t128 : ztk e s.1 = 78
                            · skip
                              try simp only [zq, zi, zc, zv, zf, zci_eq, zsi_eq, zsk_eq, zbd_zbd, zbd_some, zbd_fault, zbd_none, zite0, zite1, ↓reduceIte, Nat.one_ne_zero, Nat.reduceEqDiff, t62, t68, t71, t79, t85, t88, t91, t94, t97, t100, t111, t118, t123, t128]
                              refine msm_ask (by have hh := m_isWord (L := L) (xs := xs) (d := d) ht hc84 (k := 78) (by decide); rw [if_pos t128] at hh; exact qe_up (by omega) hh) rfl rfl rfl rfl rfl rfl rfl (ai_rcv1 rfl rfl (mcs_rcv hc84).choose_spec) ?_
                              show msm L xs e Y K _ qm_146 105 [some (.ref 14), some (.int 1), some (.int 1), none] [.int 1, .ref 14] h84 _ _ _
                              refine msm_if true rfl (rfl) rfl ?_
                              refine msm_pls (n := 2) (k' := 113) (lo' := [some (.ref 14), some (.int 1), some (.int 1), none]) (S' := [.int 1, .ref 14]) (h' := h84) rfl ?_
                              refine msm_need1 rfl rfl rfl rfl rfl rfl rfl (ai_rcv1 rfl rfl (mcs_rcv hc84).choose_spec) ?_
                              show msm L xs e Y K _ qm_146 114 [some (.ref 14), some (.int 1), some (.int 1), none] [] h84 _ _ _
                              refine msm_pls (n := 1) (k' := 115) (lo' := [some (.ref 14), some (.int 1), some (.int 1), none]) (S' := [.ref 14]) (h' := h84) rfl ?_
                              first
                                | refine msm_keep ht hc84 (kk := 78) (by decide) (by decide) t128 rfl rfl rfl rfl rfl rfl rfl rfl (ai_rcv1 rfl rfl (mcs_rcv hc84).choose_spec) (fun s129 h129 hc129 => ?_)
                              show msm L xs e Y K _ qm_146 116 [some (.ref 14), some (.int 1), some (.int 1), none] [] h129 _ _ _
                              try simp only [zq, zi, zc, zv, zf, zci_eq, zsi_eq, zsk_eq, zbd_zbd, zbd_some, zbd_fault, zbd_none, zite0, zite1, ↓reduceIte, Nat.one_ne_zero, Nat.reduceEqDiff]
                              refine msm_pls (n := 1) (k' := 117) (lo' := [some (.ref 14), some (.int 1), some (.int 1), none]) (S' := [.ref 14]) (h' := h129) rfl ?_
                              first
                                | refine msm_call hc129 (mim_up (mi_open (d := d) ht) (by omega)) rfl rfl rfl rfl rfl rfl rfl rfl (ai_rcv1 rfl rfl (mcs_rcv hc129).choose_spec) (fun v130 s130 h130 f130 hc130 => ?_)
                                | refine msm_callL hc129 (mim_up (mi_open (d := d) ht) (by omega)) rfl rfl rfl rfl rfl rfl rfl rfl (ai_rcv1 rfl rfl (mcs_rcv hc129).choose_spec) (fun v130 s130 h130 f130 hc130 => ?_)
                              show msm L xs e Y K _ qm_146 118 [some (.ref 14), some (.int 1), some (.int 1), none] [] h130 _ _ _
                              try simp only [zq, zi, zc, zv, zf, zci_eq, zsi_eq, zsk_eq, zbd_zbd, zbd_some, zbd_fault, zbd_none, zite0, zite1, ↓reduceIte, Nat.one_ne_zero, Nat.reduceEqDiff]
                              refine msm_pls (n := 1) (k' := 119) (lo' := [some (.ref 14), some (.int 1), some (.int 1), none]) (S' := [.ref 14]) (h' := h130) rfl ?_
                              first
                                | refine msm_call hc130 (mim_up (hex) (by omega)) rfl rfl rfl rfl rfl rfl rfl rfl (ai_rcv1 rfl rfl (mcs_rcv hc130).choose_spec) (fun v131 s131 h131 f131 hc131 => ?_)
                                | refine msm_callL hc130 (mim_up (hex) (by omega)) rfl rfl rfl rfl rfl rfl rfl rfl (ai_rcv1 rfl rfl (mcs_rcv hc130).choose_spec) (fun v131 s131 h131 f131 hc131 => ?_)
                              show msm L xs e Y K _ qm_146 120 [some (.ref 14), some (.int 1), some (.int 1), none] [] h131 _ _ _
                              try simp only [zq, zi, zc, zv, zf, zci_eq, zsi_eq, zsk_eq, zbd_zbd, zbd_some, zbd_fault, zbd_none, zite0, zite1, ↓reduceIte, Nat.one_ne_zero, Nat.reduceEqDiff]
                              refine msm_pls (n := 4) (k' := 124) (lo' := [some (.ref 14), some (.int 1), some (.int 1), some (.int 1)]) (S' := [.int 1, .int 1]) (h' := h131) rfl ?_
                              refine msm_icmp true rfl (rfl) rfl ?_
                              refine msm_pls (n := 1) (k' := 140) (lo' := [some (.ref 14), some (.int 1), some (.int 1), some (.int 1)]) (S' := [.ref 14]) (h' := h131) rfl ?_
                              first
                                | refine msm_call hc131 (mim_up (mi_close (d := d) ht) (by omega)) rfl rfl rfl rfl rfl rfl rfl rfl (ai_rcv1 rfl rfl (mcs_rcv hc131).choose_spec) (fun v132 s132 h132 f132 hc132 => ?_)
                                | refine msm_callL hc131 (mim_up (mi_close (d := d) ht) (by omega)) rfl rfl rfl rfl rfl rfl rfl rfl (ai_rcv1 rfl rfl (mcs_rcv hc131).choose_spec) (fun v132 s132 h132 f132 hc132 => ?_)
                              show msm L xs e Y K _ qm_146 141 [some (.ref 14), some (.int 1), some (.int 1), some (.int 1)] [] h132 _ _ _
                              try simp only [zq, zi, zc, zv, zf, zci_eq, zsi_eq, zsk_eq, zbd_zbd, zbd_some, zbd_fault, zbd_none, zite0, zite1, ↓reduceIte, Nat.one_ne_zero, Nat.reduceEqDiff]
                              exact msm_ret7 hc132 rfl
                            · skip
                              try simp only [zq, zi, zc, zv, zf, zci_eq, zsi_eq, zsk_eq, zbd_zbd, zbd_some, zbd_fault, zbd_none, zite0, zite1, ↓reduceIte, Nat.one_ne_zero, Nat.reduceEqDiff, t62, t68, t71, t79, t85, t88, t91, t94, t97, t100, t111, t118, t123, t128]
                              refine msm_ask (by have hh := m_isWord (L := L) (xs := xs) (d := d) ht hc84 (k := 78) (by decide); rw [if_neg t128] at hh; exact qe_up (by omega) hh) rfl rfl rfl rfl rfl rfl rfl (ai_rcv1 rfl rfl (mcs_rcv hc84).choose_spec) ?_
                              show msm L xs e Y K _ qm_146 105 [some (.ref 14), some (.int 1), some (.int 1), none] [.int 0, .ref 14] h84 _ _ _
                              refine msm_if false rfl (rfl) rfl ?_
                              refine msm_pls (n := 2) (k' := 108) (lo' := [some (.ref 14), some (.int 1), some (.int 1), none]) (S' := [.retAddr 1060, .ref 14, .ref 14]) (h' := h84) rfl ?_
                              by_cases t133 : ztk e s.1 = 45
                              · skip
                                try simp only [zq, zi, zc, zv, zf, zci_eq, zsi_eq, zsk_eq, zbd_zbd, zbd_some, zbd_fault, zbd_none, zite0, zite1, ↓reduceIte, Nat.one_ne_zero, Nat.reduceEqDiff, t62, t68, t71, t79, t85, t88, t91, t94, t97, t100, t111, t118, t123, t128, t133]
                                refine msm_ask (by have hh := m_isWord (L := L) (xs := xs) (d := d) ht hc84 (k := 45) (by decide); rw [if_pos t133] at hh; exact qe_up (by omega) hh) rfl rfl rfl rfl rfl rfl rfl (ai_rcv1 rfl rfl (mcs_rcv hc84).choose_spec) ?_
                                show msm L xs e Y K _ qm_146 109 [some (.ref 14), some (.int 1), some (.int 1), none] [.int 1, .ref 14] h84 _ _ _
                                refine msm_if false rfl (rfl) rfl ?_
                                refine msm_pls (n := 2) (k' := 113) (lo' := [some (.ref 14), some (.int 1), some (.int 1), none]) (S' := [.int 1, .ref 14]) (h' := h84) rfl ?_
                                refine msm_need1 rfl rfl rfl rfl rfl rfl rfl (ai_rcv1 rfl rfl (mcs_rcv hc84).choose_spec) ?_
                                show msm L xs e Y K _ qm_146 114 [some (.ref 14), some (.int 1), some (.int 1), none] [] h84 _ _ _
                                refine msm_pls (n := 1) (k' := 115) (lo' := [some (.ref 14), some (.int 1), some (.int 1), none]) (S' := [.ref 14]) (h' := h84) rfl ?_
                                first
                                  | refine msm_keep ht hc84 (kk := 45) (by decide) (by decide) t133 rfl rfl rfl rfl rfl rfl rfl rfl (ai_rcv1 rfl rfl (mcs_rcv hc84).choose_spec) (fun s134 h134 hc134 => ?_)
                                show msm L xs e Y K _ qm_146 116 [some (.ref 14), some (.int 1), some (.int 1), none] [] h134 _ _ _
                                try simp only [zq, zi, zc, zv, zf, zci_eq, zsi_eq, zsk_eq, zbd_zbd, zbd_some, zbd_fault, zbd_none, zite0, zite1, ↓reduceIte, Nat.one_ne_zero, Nat.reduceEqDiff]
                                refine msm_pls (n := 1) (k' := 117) (lo' := [some (.ref 14), some (.int 1), some (.int 1), none]) (S' := [.ref 14]) (h' := h134) rfl ?_
                                first
                                  | refine msm_call hc134 (mim_up (mi_open (d := d) ht) (by omega)) rfl rfl rfl rfl rfl rfl rfl rfl (ai_rcv1 rfl rfl (mcs_rcv hc134).choose_spec) (fun v135 s135 h135 f135 hc135 => ?_)
                                  | refine msm_callL hc134 (mim_up (mi_open (d := d) ht) (by omega)) rfl rfl rfl rfl rfl rfl rfl rfl (ai_rcv1 rfl rfl (mcs_rcv hc134).choose_spec) (fun v135 s135 h135 f135 hc135 => ?_)
                                show msm L xs e Y K _ qm_146 118 [some (.ref 14), some (.int 1), some (.int 1), none] [] h135 _ _ _
                                try simp only [zq, zi, zc, zv, zf, zci_eq, zsi_eq, zsk_eq, zbd_zbd, zbd_some, zbd_fault, zbd_none, zite0, zite1, ↓reduceIte, Nat.one_ne_zero, Nat.reduceEqDiff]
                                refine msm_pls (n := 1) (k' := 119) (lo' := [some (.ref 14), some (.int 1), some (.int 1), none]) (S' := [.ref 14]) (h' := h135) rfl ?_
                                first
                                  | refine msm_call hc135 (mim_up (hex) (by omega)) rfl rfl rfl rfl rfl rfl rfl rfl (ai_rcv1 rfl rfl (mcs_rcv hc135).choose_spec) (fun v136 s136 h136 f136 hc136 => ?_)
                                  | refine msm_callL hc135 (mim_up (hex) (by omega)) rfl rfl rfl rfl rfl rfl rfl rfl (ai_rcv1 rfl rfl (mcs_rcv hc135).choose_spec) (fun v136 s136 h136 f136 hc136 => ?_)
                                show msm L xs e Y K _ qm_146 120 [some (.ref 14), some (.int 1), some (.int 1), none] [] h136 _ _ _
                                try simp only [zq, zi, zc, zv, zf, zci_eq, zsi_eq, zsk_eq, zbd_zbd, zbd_some, zbd_fault, zbd_none, zite0, zite1, ↓reduceIte, Nat.one_ne_zero, Nat.reduceEqDiff]
                                refine msm_pls (n := 4) (k' := 124) (lo' := [some (.ref 14), some (.int 1), some (.int 1), some (.int 1)]) (S' := [.int 1, .int 1]) (h' := h136) rfl ?_
                                refine msm_icmp true rfl (rfl) rfl ?_
                                refine msm_pls (n := 1) (k' := 140) (lo' := [some (.ref 14), some (.int 1), some (.int 1), some (.int 1)]) (S' := [.ref 14]) (h' := h136) rfl ?_
                                first
                                  | refine msm_call hc136 (mim_up (mi_close (d := d) ht) (by omega)) rfl rfl rfl rfl rfl rfl rfl rfl (ai_rcv1 rfl rfl (mcs_rcv hc136).choose_spec) (fun v137 s137 h137 f137 hc137 => ?_)
                                  | refine msm_callL hc136 (mim_up (mi_close (d := d) ht) (by omega)) rfl rfl rfl rfl rfl rfl rfl rfl (ai_rcv1 rfl rfl (mcs_rcv hc136).choose_spec) (fun v137 s137 h137 f137 hc137 => ?_)
                                show msm L xs e Y K _ qm_146 141 [some (.ref 14), some (.int 1), some (.int 1), some (.int 1)] [] h137 _ _ _
                                try simp only [zq, zi, zc, zv, zf, zci_eq, zsi_eq, zsk_eq, zbd_zbd, zbd_some, zbd_fault, zbd_none, zite0, zite1, ↓reduceIte, Nat.one_ne_zero, Nat.reduceEqDiff]
                                exact msm_ret7 hc137 rfl
                              · skip
                                try simp only [zq, zi, zc, zv, zf, zci_eq, zsi_eq, zsk_eq, zbd_zbd, zbd_some, zbd_fault, zbd_none, zite0, zite1, ↓reduceIte, Nat.one_ne_zero, Nat.reduceEqDiff, t62, t68, t71, t79, t85, t88, t91, t94, t97, t100, t111, t118, t123, t128, t133]
                                refine msm_ask (by have hh := m_isWord (L := L) (xs := xs) (d := d) ht hc84 (k := 45) (by decide); rw [if_neg t133] at hh; exact qe_up (by omega) hh) rfl rfl rfl rfl rfl rfl rfl (ai_rcv1 rfl rfl (mcs_rcv hc84).choose_spec) ?_
                                show msm L xs e Y K _ qm_146 109 [some (.ref 14), some (.int 1), some (.int 1), none] [.int 0, .ref 14] h84 _ _ _
                                refine msm_if true rfl (rfl) rfl ?_
                                refine msm_pls (n := 1) (k' := 113) (lo' := [some (.ref 14), some (.int 1), some (.int 1), none]) (S' := [.int 0, .ref 14]) (h' := h84) rfl ?_
                                exact msm_need0 hc84 rfl rfl rfl rfl rfl rfl rfl rfl (ai_rcv1 rfl rfl (mcs_rcv hc84).choose_spec)
end MCA
