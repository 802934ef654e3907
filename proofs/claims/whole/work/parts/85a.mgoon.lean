/-! THE MODEL: PREFIXES AND GOON AS CALLS. (Printed by wip/whole/pp.py from wip/whole/src.) -/
section MGO
variable {L : Nat} {xs : Nat → Int32} {d : Nat} {h h' : ai_H} {e : zE} {Y : Nat → Option ai_C} {K : mK} {W P Q : zK} {s s' : zS} {pr : zP} {β : Type}
/-- prefixes where no NOT may stand, or none stands; then an operand -/
theorem m_prS0 {l0 : Nat} {R p : zK} {F : zK → Nat → Nat → zS → zR β} {v : Option β} {x3 : Option Value} (ht : mtk e Y) (hod : mop L xs e Y K (d + 8) 144 pr) (hc : mcs e Y K (p ++ R ++ P) s h) (hm : mso l0 s.2.2.2.2.length (p ++ R)) (hn : ztk e s.1 ≠ 49 ∨ ∃ q Q', p ++ R = q :: Q' ∧ 3 < q.2) (hz : zbd (zpre e 88 8 42 p s) (fun p s1 => zbd (pr s1) fun ma s4 => F p s1.2.2.2.2.length ma s4) = some (v, s')) :
    (∃ h2, qg L xs (d + 8) qm_141 2 [some (.ref 14), some (.int (nI P.length)), some (.int 1), x3] [] h (.inr "java/lang/IllegalArgumentException", h2) ∧ v = none ∧ mbad e Y K s' h2) ∨ (∃ h2 p' st ma s4, qg L xs (d + 8) qm_141 2 [some (.ref 14), some (.int (nI P.length)), some (.int 1), x3] [] h (.inl none, h2) ∧ mxp e Y K (p' ++ R ++ P) s4 h2 st ma ∧ mso l0 st (p' ++ R) ∧ (∀ q ∈ p', q ∈ p ∨ q.2 = 8) ∧ zbot p' st = zbot p s.2.2.2.2.length ∧ F p' st ma s4 = some (v, s')) := by
  rcases zbd_inv hz with ⟨z1, rfl⟩ | ⟨p1, s1, z1, hz⟩
  · left
    obtain ⟨h', g1, g2⟩ := m_preM (L := L) (xs := xs) (d := d) (l0 := l0) (R := R) (P := P) ht 42 p s s' h none x3 hc hm hn z1
    exact ⟨h', g1, rfl, g2⟩
  obtain ⟨h1, x3', g1, hc1, hm1, hq1, hb1⟩ := m_preM (L := L) (xs := xs) (d := d) (l0 := l0) (R := R) (P := P) ht 42 p s s1 h (some p1) x3 hc hm hn z1
  rcases zbd_inv hz with ⟨z2, rfl⟩ | ⟨ma, s4, z2, hz⟩
  · left
    obtain ⟨h2, g2, hb2⟩ := hod _ _ _ _ _ hc1 z2
    refine ⟨h2, g1 _ ?_, rfl, hb2⟩
    refine qg_pls (n := 1) (k' := 55) (lo' := [some (.ref 14), some (.int (nI P.length)), some (.int 0), x3']) (S' := [.ref 14]) (h' := h1) rfl ?_
    exact qg_callT rfl rfl rfl rfl rfl rfl rfl (ai_rcv1 rfl rfl ((mcs_rcv hc1).choose_spec)) rfl (g2)
  · right
    obtain ⟨h2, g2, hx2⟩ := hod _ _ _ _ _ hc1 z2
    refine ⟨h2, p1, s1.2.2.2.2.length, ma, s4, g1 _ ?_, hx2, hm1, hq1, hb1, hz⟩
    refine qg_pls (n := 1) (k' := 55) (lo' := [some (.ref 14), some (.int (nI P.length)), some (.int 0), x3']) (S' := [.ref 14]) (h' := h1) rfl ?_
    refine qg_call (v := none) (h' := h2) (as := [.ref 14]) rfl rfl rfl rfl rfl rfl rfl (ai_rcv1 rfl rfl ((mcs_rcv hc1).choose_spec)) (g2) ?_
    show qg L xs _ qm_141 56 [some (.ref 14), some (.int (nI P.length)), some (.int 0), x3'] [] h2 _
    exact qg_ret7 rfl
theorem m_prS {l0 : Nat} {R p : zK} {F : zK → Nat → Nat → zS → zR β} {v : Option β} (ht : mtk e Y) (hod : mop L xs e Y K (d + 8) 144 pr) (hc : mcs e Y K (p ++ R ++ P) s h) (hm : mso l0 s.2.2.2.2.length (p ++ R)) (hn : ztk e s.1 ≠ 49 ∨ ∃ q Q', p ++ R = q :: Q' ∧ 3 < q.2) (hz : zbd (zpre e 88 8 42 p s) (fun p s1 => zbd (pr s1) fun ma s4 => F p s1.2.2.2.2.length ma s4) = some (v, s')) :
    (∃ h2, qe L xs (d + 9) 141 [.ref 14, .int (nI P.length)] h (.inr "java/lang/IllegalArgumentException", h2) ∧ v = none ∧ mbad e Y K s' h2) ∨ (∃ h2 p' st ma s4, qe L xs (d + 9) 141 [.ref 14, .int (nI P.length)] h (.inl none, h2) ∧ mxp e Y K (p' ++ R ++ P) s4 h2 st ma ∧ mso l0 st (p' ++ R) ∧ (∀ q ∈ p', q ∈ p ∨ q.2 = 8) ∧ zbot p' st = zbot p s.2.2.2.2.length ∧ F p' st ma s4 = some (v, s')) := by
  rcases m_prS0 (x3 := none) ht hod hc hm hn hz with ⟨h2, g1, g2⟩ | ⟨h2, p', st, ma, s4, g1, g2⟩
  · left
    refine ⟨h2, ?_, g2⟩
    refine qe_of (M := qm_141) rfl rfl ?_
    show qg L xs _ qm_141 0 [some (.ref 14), some (.int (nI P.length)), none, none] [] h _
    refine qg_pls (n := 2) (k' := 2) (lo' := [some (.ref 14), some (.int (nI P.length)), some (.int 1), none]) (S' := []) (h' := h) rfl ?_
    exact g1
  · right
    refine ⟨h2, p', st, ma, s4, ?_, g2⟩
    refine qe_of (M := qm_141) rfl rfl ?_
    show qg L xs _ qm_141 0 [some (.ref 14), some (.int (nI P.length)), none, none] [] h _
    refine qg_pls (n := 2) (k' := 2) (lo' := [some (.ref 14), some (.int (nI P.length)), some (.int 1), none]) (S' := []) (h' := h) rfl ?_
    exact g1
/-- prefixes where NOT may stand -/
theorem m_prE {l0 : Nat} {p : zK} {F : zK → zS → zK → Nat → Nat → zS → zR β} {v : Option β} (ht : mtk e Y) (hod : mop L xs e Y K (d + 8) 144 pr) (hc : mcs e Y K (p ++ P) s h) (hm : mso l0 s.2.2.2.2.length p) (hp : ∀ q ∈ p, q.2 ≤ 3) (hz : zbd (zpre e 49 3 42 p s) (fun p1 s1 => zbd (zpre e 88 8 42 [] s1) fun p2 s2 => zbd (pr s2) fun ma s4 => F p1 s1 p2 s2.2.2.2.2.length ma s4) = some (v, s')) :
    (∃ h2, qe L xs (d + 9) 141 [.ref 14, .int (nI P.length)] h (.inr "java/lang/IllegalArgumentException", h2) ∧ v = none ∧ mbad e Y K s' h2) ∨ (∃ h2 p1 s1 p2 st ma s4, qe L xs (d + 9) 141 [.ref 14, .int (nI P.length)] h (.inl none, h2) ∧ mxp e Y K (p2 ++ p1 ++ P) s4 h2 st ma ∧ mso l0 st (p2 ++ p1) ∧ (∀ q ∈ p1, q ∈ p ∨ q.2 = 3) ∧ (∀ q ∈ p2, q.2 = 8) ∧ zbot p1 s1.2.2.2.2.length = zbot p s.2.2.2.2.length ∧ zbot p2 st = s1.2.2.2.2.length ∧ mso l0 s1.2.2.2.2.length p1 ∧ F p1 s1 p2 st ma s4 = some (v, s')) := by
  rcases zbd_inv hz with ⟨z1, rfl⟩ | ⟨p1, s1, z1, hz⟩
  · left
    obtain ⟨h', g1, g2⟩ := m_preN (L := L) (xs := xs) (d := d) (l0 := l0) (P := P) ht 42 p s s' h none none hc hm hp z1
    refine ⟨h', ?_, rfl, g2⟩
    refine qe_of (M := qm_141) rfl rfl ?_
    show qg L xs _ qm_141 0 [some (.ref 14), some (.int (nI P.length)), none, none] [] h _
    refine qg_pls (n := 2) (k' := 2) (lo' := [some (.ref 14), some (.int (nI P.length)), some (.int 1), none]) (S' := []) (h' := h) rfl ?_
    exact g1
  obtain ⟨h1, x3', g1, hc1, hm1, hq1, hb1, hn1⟩ := m_preN (L := L) (xs := xs) (d := d) (l0 := l0) (P := P) ht 42 p s s1 h (some p1) none hc hm hp z1
  rcases m_prS0 (x3 := x3') (R := p1) (p := []) (F := fun p2 st ma s4 => F p1 s1 p2 st ma s4) ht hod hc1 hm1 (Or.inl hn1) hz with ⟨h2, g2, g3⟩ | ⟨h2, p2, st, ma, s4, g2, g3, g4, g5, g6, g7⟩
  · left
    refine ⟨h2, ?_, g3⟩
    refine qe_of (M := qm_141) rfl rfl ?_
    show qg L xs _ qm_141 0 [some (.ref 14), some (.int (nI P.length)), none, none] [] h _
    refine qg_pls (n := 2) (k' := 2) (lo' := [some (.ref 14), some (.int (nI P.length)), some (.int 1), none]) (S' := []) (h' := h) rfl ?_
    exact g1 _ g2
  · right
    refine ⟨h2, p1, s1, p2, st, ma, s4, ?_, g3, g4, hq1, fun q hq => ?_, hb1, g6, hm1, g7⟩
    · skip
      refine qe_of (M := qm_141) rfl rfl ?_
      show qg L xs _ qm_141 0 [some (.ref 14), some (.int (nI P.length)), none, none] [] h _
      refine qg_pls (n := 2) (k' := 2) (lo' := [some (.ref 14), some (.int (nI P.length)), some (.int 1), none]) (S' := []) (h' := h) rfl ?_
      exact g1 _ g2
    · rcases g5 q hq with z | z
      · cases z
      · exact z
/-- QueryReaderModel.goOn -/
theorem m_goOn (ht : mtk e Y) {st ma by' base : Nat} {good bad : ai_H → Prop} (hx : mxp e Y K W s h st ma) (hl : mle K W st) (hk : ztk e s.1 < 102) (hw : W.length < 300) (hby : by' ≤ 8) (h4 : by' ≠ 4) (hb0 : 1 ≤ by') (hpr : ∀ h1, mcs e Y K ((st, by') :: W) (s.1 + 1, s.2.1, s.2.2.1, s.2.2.2.1 + 1, (if ma = by' then s.2.2.2.2.take (s.2.2.2.2.length - 2) else s.2.2.2.2.take st ++ [40, 32] ++ s.2.2.2.2.drop st) ++ zit e s.1 ++ [32]) h1 → ∃ h2, (qe L xs (d + 9) 141 [.ref 14, .int (nI base)] h1 (.inl none, h2) ∧ good h2) ∨ (qe L xs (d + 9) 141 [.ref 14, .int (nI base)] h1 (.inr "java/lang/IllegalArgumentException", h2) ∧ bad h2)) :
    ∃ h2, (qe L xs (d + 10) 160 [.ref 14, .int (nI base), .int (nI by')] h (.inl (some (.int (nI 9))), h2) ∧ good h2) ∨ (qe L xs (d + 10) 160 [.ref 14, .int (nI base), .int (nI by')] h (.inr "java/lang/IllegalArgumentException", h2) ∧ bad h2) := by
  obtain ⟨h1, k, g1, hc1⟩ := m_go1 (L := L) (xs := xs) (d := d + 8) ht hx hl hk hw hby h4 hb0
  obtain ⟨h2, hh⟩ := hpr h1 hc1
  refine ⟨h2, ?_⟩
  rcases hh with ⟨g2, g3⟩ | ⟨g2, g3⟩
  · left
    refine ⟨?_, g3⟩
    refine qe_of (M := qm_160) rfl rfl (g1 base _ ?_)
    refine qg_pls (n := 2) (k' := 41) (lo' := [some (.ref 14), some (.int (nI base)), some (.int (nI by')), some (.int (nI k))]) (S' := [.int (nI base), .ref 14]) (h' := h1) rfl ?_
    refine qg_call (v := none) (h' := h2) (as := [.ref 14, .int (nI base)]) rfl rfl rfl rfl rfl rfl rfl (ai_rcv1 rfl rfl ((mcs_rcv hc1).choose_spec)) (g2) ?_
    show qg L xs _ qm_160 42 [some (.ref 14), some (.int (nI base)), some (.int (nI by')), some (.int (nI k))] [] h2 _
    refine qg_pls (n := 1) (k' := 43) (lo' := [some (.ref 14), some (.int (nI base)), some (.int (nI by')), some (.int (nI k))]) (S' := [.int 9]) (h' := h2) rfl ?_
    exact qg_ret5 rfl rfl rfl
  · right
    refine ⟨?_, g3⟩
    refine qe_of (M := qm_160) rfl rfl (g1 base _ ?_)
    refine qg_pls (n := 2) (k' := 41) (lo' := [some (.ref 14), some (.int (nI base)), some (.int (nI by')), some (.int (nI k))]) (S' := [.int (nI base), .ref 14]) (h' := h1) rfl ?_
    exact qg_callT rfl rfl rfl rfl rfl rfl rfl (ai_rcv1 rfl rfl ((mcs_rcv hc1).choose_spec)) rfl (g2)
end MGO
