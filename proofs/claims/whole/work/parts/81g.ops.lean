/-! OPERATORS: sum and expression. (Printed by wip/whole/pp.py from wip/whole/src, where a block stands for both.) -/
section QOP
variable {L : Nat} {xs : Nat → Int32} {d : Nat} {h h' : ai_H} {e : zE} {Y : Nat → Option ai_C} {bc bs : Int} {P P0 : zK} {s s' : zS} {ex qy : zP}
theorem zdown0_at {b : Prop} [Decidable b] {v : Option Nat} (h : (if b then zdown else zv 0) s = some (v, s')) : s'.1 = s.1 ∧ v = some 0 := by
  by_cases hb : b
  · rw [if_pos hb] at h
    obtain ⟨-, q, r⟩ := zdown_inv h
    rw [r]; exact ⟨rfl, q⟩
  · rw [if_neg hb] at h
    cases h; exact ⟨rfl, rfl⟩
/-- what waits is made by 8 at most; nothing is left of it where nothing follows -/
theorem zcb_all {nx : Nat} : ∀ (p : zK) (st ma : Nat) (s : zS) (v : Option (zK × Nat × Nat)) (s' : zS), ma ≤ 8 → (∀ q ∈ p, q.2 ≤ 8) → zcb nx p st ma s = some (v, s') → s'.1 = s.1 ∧ ∃ r, v = some r ∧ r.2.2 ≤ 8 ∧ (∀ q ∈ r.1, q.2 ≤ 8) ∧ (nx = 0 → r.1 = []) := by
  intro p
  induction p with
  | nil =>
    intro st ma s v s' hm _ h
    cases h
    exact ⟨rfl, _, rfl, hm, (fun q hq => by cases hq), fun _ => rfl⟩
  | cons q p ih =>
    intro st ma s v s' hm hp h
    simp only [zcb] at h
    by_cases hq : nx ≤ q.2
    · rw [if_pos hq] at h
      rcases zbd_inv h with ⟨h1, -⟩ | ⟨a1, s1, h1, h⟩
      · obtain ⟨-, q, -⟩ := zpop_inv h1; cases q
      obtain ⟨-, -, e1⟩ := zpop_inv h1
      rcases zbd_inv h with ⟨h2, -⟩ | ⟨a2, s2, h2, h⟩
      · obtain ⟨-, q, -⟩ := zput_inv h2; cases q
      obtain ⟨-, -, e2⟩ := zput_inv h2
      rcases zbd_inv h with ⟨h3, -⟩ | ⟨a3, s3, h3, h⟩
      · obtain ⟨-, q⟩ := zdown0_at h3; cases q
      obtain ⟨e3, -⟩ := zdown0_at h3
      obtain ⟨e4, k⟩ := ih q.1 q.2 s3 v s' (hp q (List.mem_cons_self ..)) (fun x hx => hp x (List.mem_cons_of_mem _ hx)) h
      refine ⟨?_, k⟩
      rw [e4, e3, e2, e1]
    · rw [if_neg hq] at h
      cases h
      exact ⟨rfl, _, rfl, hm, hp, fun h0 => absurd (Nat.zero_le _) (h0 ▸ hq)⟩
theorem zcomb_all {nx st ma : Nat} {p : zK} {v : Option (zK × Nat)} (hn : nx ≤ 8) (hm : ma ≤ 8) (hp : ∀ q ∈ p, q.2 ≤ 8) (h : zcomb nx st ma p s = some (v, s')) : s'.1 = s.1 ∧ ∃ r, v = some r ∧ r.2 ≤ 8 ∧ (∀ q ∈ r.1, q.2 ≤ 8) ∧ (nx = 0 → r.1 = []) := by
  unfold zcomb at h
  rcases zbd_inv h with ⟨h1, -⟩ | ⟨a1, s1, h1, h⟩
  · obtain ⟨-, r, q, -⟩ := zcb_all p st ma s _ _ hm hp h1; cases q
  obtain ⟨e1, r, q, k1, k2, k3⟩ := zcb_all p st ma s _ _ hm hp h1
  cases q
  by_cases h0 : nx = 0
  · rw [if_pos h0] at h
    cases h
    exact ⟨e1, _, rfl, k1, k2, k3⟩
  · rw [if_neg h0] at h
    rcases zbd_inv h with ⟨h2, -⟩ | ⟨a2, s2, h2, h⟩
    · obtain ⟨-, q, -⟩ := zpush_inv h2; cases q
    obtain ⟨-, q, e2⟩ := zpush_inv h2
    cases q
    rcases zbd_inv h with ⟨h3, -⟩ | ⟨a3, s3, h3, h⟩
    · split at h3
      · obtain ⟨-, q, -⟩ := zreopen_inv h3; cases q
      · obtain ⟨-, -, q, -⟩ := zopen_inv h3; cases q
    cases h
    have e3 : s'.1 = s2.1 := by
      split at h3
      · obtain ⟨-, -, e⟩ := zreopen_inv h3; rw [e]
      · obtain ⟨-, -, -, e⟩ := zopen_inv h3; rw [e]
    refine ⟨by rw [e3, e2, ← e1], _, rfl, k1, fun q hq => ?_, fun q => absurd q h0⟩
    rcases List.mem_cons.mp hq with rfl | hq
    · exact hn
    · exact k2 q hq
theorem zpre_all {k ma : Nat} (hm : ma ≤ 8) : ∀ (n : Nat) (p : zK) (s : zS) (r : zK) (s' : zS), (∀ q ∈ p, q.2 ≤ 8) → zpre e k ma n p s = some (some r, s') → ∀ q ∈ r, q.2 ≤ 8 := by
  intro n
  induction n with
  | zero => intro p s r s' _ h; cases h
  | succ n ih =>
    intro p s r s' hp h
    simp only [zpre] at h
    by_cases h1 : ztk e s.1 = k
    · rw [if_pos h1] at h
      rcases zbd_inv h with ⟨-, q⟩ | ⟨a1, s1, h1, h⟩
      · cases q
      rcases zbd_inv h with ⟨-, q⟩ | ⟨a2, s2, h2, h⟩
      · cases q
      obtain ⟨-, q, -⟩ := zpush_inv h2
      cases q
      rcases zbd_inv h with ⟨-, q⟩ | ⟨a3, s3, h3, h⟩
      · cases q
      rcases zbd_inv h with ⟨-, q⟩ | ⟨a4, s4, h4, h⟩
      · cases q
      rcases zbd_inv h with ⟨-, q⟩ | ⟨a5, s5, h5, h⟩
      · cases q
      refine ih _ s5 r s' (fun q hq => ?_) h
      rcases List.mem_cons.mp hq with rfl | hq
      · exact hm
      · exact hp q hq
    · rw [if_neg h1] at h
      cases h; exact hp
theorem zmk_le (hlt : ∀ i, ztk e i < 104) (i : Nat) : zmk e i ≤ 8 := (q_enr (hlt i)).2.2.2
theorem zops_8 {kp mp : Nat} {fam : Nat → Bool} {od : zP} (hlt : ∀ i, ztk e i < 104) (hmp : mp ≤ 8) (h8 : ∀ s v s', od s = some (some v, s') → v ≤ 8) : ∀ (n : Nat) (p : zK) (s : zS) (v : Nat) (s' : zS), (∀ q ∈ p, q.2 ≤ 8) → zops e kp mp fam od n p s = some (some v, s') → v ≤ 8 := by
  intro n
  induction n with
  | zero => intro p s v s' _ h; cases h
  | succ n ih =>
    intro p s v s' hp h
    simp only [zops] at h
    rcases zbd_inv h with ⟨-, q⟩ | ⟨p1, s1, h1, h⟩
    · cases q
    have hp1 := zpre_all hmp 42 p s p1 s1 hp h1
    rcases zbd_inv h with ⟨-, q⟩ | ⟨ma, s4, h2, h⟩
    · cases q
    have hma := h8 _ _ _ h2
    rcases zbd_inv h with ⟨-, q⟩ | ⟨q, s2, h3, h⟩
    · cases q
    have hnx : (if fam (zmk e s4.1) = true then zmk e s4.1 else 0) ≤ 8 := by
      split
      · exact zmk_le hlt _
      · decide
    obtain ⟨-, r, qe, k1, k2, -⟩ := zcomb_all hnx hma hp1 h3
    cases qe
    split at h
    · rcases zbd_inv h with ⟨-, q⟩ | ⟨a3, s3, h4, h⟩
      · cases q
      split at h
      · cases h
      · exact ih _ s3 v s' k2 h
    · cases h; exact k1
theorem q_mkob (hlt : ∀ i, ztk e i < 104) (i : Nat) : ai_look (qr_Z L xs) h.1 (.retAddr (ztk e i)) = some (ai_obj 6 [.int (Int32.ofNat (ztk e i)), .retAddr (qr_en.getD (ztk e i) (0, 0)).1, .int (nI (zmk e i))]) := by
  have h1 : qr_Z L xs (ztk e i) = _ := qZ_en (hlt i)
  show qr_Z L xs (ztk e i) = _
  rw [h1, show nI (zmk e i) = (qr_en.getD (ztk e i) (0, 0)).2 from (q_enr (hlt i)).2.2.1]
theorem q_suml {od : zP} (ht : qtk e Y) (hod : qim L xs e Y bc bs (d + 9) 60 [.ref 1] 1 od) (h8 : ∀ s v s', od s = some (some v, s') → v ≤ 8) : ∀ (n i : Nat) (p : zK) (s : zS) (h : ai_H) (v : Option Nat) (s' : zS) (x2 : Value) (x5 x6 : Option Value), i ≤ s.1 → (∀ q ∈ p, q.2 ≤ 8) → qcs e Y bc bs (p ++ P0) s h → zops e 88 8 zfamS od n p s = some (v, s') → ∃ h', qg L xs (d + 9) qm_59 9 [some (.ref 1), some (.int (nI P0.length)), some x2, some (.int 1), some (.int (nI i)), x5, x6] [] h (qout 1 v, h') ∧ qpost e Y bc bs P0 v s' h' := by
  have hlt := qtk_lt ht
  intro n
  induction n with
  | zero => intro i p s h v s' x2 x5 x6 _ _ _ hz; cases hz
  | succ n ih =>
    intro i p s h v s' x2 x5 x6 hi hp hc hz
    have hb := qcs_bd hc
    simp only [zops] at hz
    rcases zbd_inv hz with ⟨hz1, rfl⟩ | ⟨p1, s1, hz1, hz⟩
    · obtain ⟨h1, g1, g2⟩ := q_pre (L := L) (xs := xs) (d := d + 3) (P0 := P0) ht (by decide) (by decide) (by decide) hc hz1
      refine ⟨h1, ?_, g2⟩
      refine qg_pls (n := 2) (k' := 11) (lo' := [some (.ref 1), some (.int (nI P0.length)), some (x2), some (.int 1), some (.int (nI i)), x5, x6]) (S' := [.int 1000000, .int (nI i)]) (h' := h) rfl ?_
      refine qg_icmp false rfl (qc_geF (b := 1000000) (by omega) (by decide)) rfl ?_
      refine qg_pls (n := 1) (k' := 13) (lo' := [some (.ref 1), some (.int (nI P0.length)), some (x2), some (.int 1), some (.int (nI i)), x5, x6]) (S' := [.int 1]) (h' := h) rfl ?_
      refine qg_if false rfl (rfl) rfl ?_
      refine qg_pls (n := 3) (k' := 17) (lo' := [some (.ref 1), some (.int (nI P0.length)), some (x2), some (.int 1), some (.int (nI i)), x5, x6]) (S' := [.int 8, .retAddr 88, .ref 1]) (h' := h) rfl ?_
      exact qg_callT rfl rfl rfl rfl rfl rfl rfl (ai_rcv1 rfl rfl (qcs_obj hc)) rfl (g1)
    obtain ⟨h1, g1, hc1⟩ := q_pre (L := L) (xs := xs) (d := d + 3) (P0 := P0) ht (by decide) (by decide) (by decide) hc hz1
    have hc1 : qcs e Y bc bs (p1 ++ P0) s1 h1 := hc1
    have hp1 := zpre_all (by decide) 42 p s p1 s1 hp hz1
    obtain ⟨fs1, b1⟩ := qcs_plain hc1
    have hl1 : s1.2.2.2.2.length < 2 ^ 31 := by
      obtain ⟨pb, len, hr⟩ := qcs_row hc1
      have := qrow_le hr
      omega
    rcases zbd_inv hz with ⟨hz2, rfl⟩ | ⟨ma, s4, hz2, hz⟩
    · obtain ⟨h2, g2, ⟨P', hc2⟩⟩ := hod _ _ _ _ _ hc1 hz2
      refine ⟨h2, ?_, ⟨P', hc2⟩⟩
      refine qg_pls (n := 2) (k' := 11) (lo' := [some (.ref 1), some (.int (nI P0.length)), some (x2), some (.int 1), some (.int (nI i)), x5, x6]) (S' := [.int 1000000, .int (nI i)]) (h' := h) rfl ?_
      refine qg_icmp false rfl (qc_geF (b := 1000000) (by omega) (by decide)) rfl ?_
      refine qg_pls (n := 1) (k' := 13) (lo' := [some (.ref 1), some (.int (nI P0.length)), some (x2), some (.int 1), some (.int (nI i)), x5, x6]) (S' := [.int 1]) (h' := h) rfl ?_
      refine qg_if false rfl (rfl) rfl ?_
      refine qg_pls (n := 3) (k' := 17) (lo' := [some (.ref 1), some (.int (nI P0.length)), some (x2), some (.int 1), some (.int (nI i)), x5, x6]) (S' := [.int 8, .retAddr 88, .ref 1]) (h' := h) rfl ?_
      refine qg_call (v := none) (h' := h1) (as := [.ref 1, .retAddr 88, .int 8]) rfl rfl rfl rfl rfl rfl rfl (ai_rcv1 rfl rfl (qcs_obj hc)) (g1) ?_
      show qg L xs _ qm_59 18 [some (.ref 1), some (.int (nI P0.length)), some (x2), some (.int 1), some (.int (nI i)), x5, x6] [] h1 _
      refine qg_pls (n := 1) (k' := 19) (lo' := [some (.ref 1), some (.int (nI P0.length)), some (x2), some (.int 1), some (.int (nI i)), x5, x6]) (S' := [.ref 1]) (h' := h1) rfl ?_
      refine qg_getf (v := .ref 4) rfl (qcs_obj hc1) rfl rfl rfl ?_
      refine qg_call (v := some (.int (nI s1.2.2.2.2.length))) (h' := h1) (as := [.ref 4]) rfl rfl rfl rfl rfl rfl rfl (ai_rcv1 rfl rfl b1) (q_psize hc1) ?_
      show qg L xs _ qm_59 21 [some (.ref 1), some (.int (nI P0.length)), some (x2), some (.int 1), some (.int (nI i)), x5, x6] [.int (nI s1.2.2.2.2.length)] h1 _
      refine qg_pls (n := 2) (k' := 23) (lo' := [some (.ref 1), some (.int (nI P0.length)), some (x2), some (.int 1), some (.int (nI i)), some (.int (nI s1.2.2.2.2.length)), x6]) (S' := [.ref 1]) (h' := h1) rfl ?_
      exact qg_callT rfl rfl rfl rfl rfl rfl rfl (ai_rcv1 rfl rfl (qcs_obj hc1)) rfl (g2)
    obtain ⟨h2, g2, hc2⟩ := hod _ _ _ _ _ hc1 hz2
    have hc2 : qcs e Y bc bs (p1 ++ P0) s4 h2 := hc2
    have hma := h8 _ _ _ hz2
    have hmk := zmk_le hlt s4.1
    have hob := q_mkob (L := L) (xs := xs) (h := h2) hlt s4.1
    by_cases hf : zfamS (zmk e s4.1) = true
    · rw [if_pos hf] at hz
      have hf' : 5 ≤ zmk e s4.1 := of_decide_eq_true hf
      rcases zbd_inv hz with ⟨hz3, -⟩ | ⟨q, s2, hz3, hz⟩
      · obtain ⟨-, r, q, -⟩ := zcomb_all hmk hma hp1 hz3; cases q
      obtain ⟨p', ma', h3, e3, g3, hc3, m3⟩ := q_comb (L := L) (xs := xs) (d := d + 3) (P0 := P0) ht hmk hl1 hma hc2 hz3
      cases e3
      obtain ⟨at3, r, e3, -, hp3, -⟩ := zcomb_all hmk hma hp1 hz3
      cases e3
      rw [if_pos (show zfamS (zmk e s2.1) = true by unfold zmk; rw [at3]; exact hf)] at hz
      have road : ∀ o, qg L xs (d + 9) qm_59 45 [some (.ref 1), some (.int (nI P0.length)), some (.int (nI ma')), some (.int 1), some (.int (nI i)), some (.int (nI s1.2.2.2.2.length)), some (.int (nI (zmk e s4.1)))] [] h3 o → qg L xs (d + 9) qm_59 9 [some (.ref 1), some (.int (nI P0.length)), some x2, some (.int 1), some (.int (nI i)), x5, x6] [] h o := by
        intro o hg
        refine qg_pls (n := 2) (k' := 11) (lo' := [some (.ref 1), some (.int (nI P0.length)), some (x2), some (.int 1), some (.int (nI i)), x5, x6]) (S' := [.int 1000000, .int (nI i)]) (h' := h) rfl ?_
        refine qg_icmp false rfl (qc_geF (b := 1000000) (by omega) (by decide)) rfl ?_
        refine qg_pls (n := 1) (k' := 13) (lo' := [some (.ref 1), some (.int (nI P0.length)), some (x2), some (.int 1), some (.int (nI i)), x5, x6]) (S' := [.int 1]) (h' := h) rfl ?_
        refine qg_if false rfl (rfl) rfl ?_
        refine qg_pls (n := 3) (k' := 17) (lo' := [some (.ref 1), some (.int (nI P0.length)), some (x2), some (.int 1), some (.int (nI i)), x5, x6]) (S' := [.int 8, .retAddr 88, .ref 1]) (h' := h) rfl ?_
        refine qg_call (v := none) (h' := h1) (as := [.ref 1, .retAddr 88, .int 8]) rfl rfl rfl rfl rfl rfl rfl (ai_rcv1 rfl rfl (qcs_obj hc)) (g1) ?_
        show qg L xs _ qm_59 18 [some (.ref 1), some (.int (nI P0.length)), some (x2), some (.int 1), some (.int (nI i)), x5, x6] [] h1 _
        refine qg_pls (n := 1) (k' := 19) (lo' := [some (.ref 1), some (.int (nI P0.length)), some (x2), some (.int 1), some (.int (nI i)), x5, x6]) (S' := [.ref 1]) (h' := h1) rfl ?_
        refine qg_getf (v := .ref 4) rfl (qcs_obj hc1) rfl rfl rfl ?_
        refine qg_call (v := some (.int (nI s1.2.2.2.2.length))) (h' := h1) (as := [.ref 4]) rfl rfl rfl rfl rfl rfl rfl (ai_rcv1 rfl rfl b1) (q_psize hc1) ?_
        show qg L xs _ qm_59 21 [some (.ref 1), some (.int (nI P0.length)), some (x2), some (.int 1), some (.int (nI i)), x5, x6] [.int (nI s1.2.2.2.2.length)] h1 _
        refine qg_pls (n := 2) (k' := 23) (lo' := [some (.ref 1), some (.int (nI P0.length)), some (x2), some (.int 1), some (.int (nI i)), some (.int (nI s1.2.2.2.2.length)), x6]) (S' := [.ref 1]) (h' := h1) rfl ?_
        refine qg_call (v := some (.int (nI ma))) (h' := h2) (as := [.ref 1]) rfl rfl rfl rfl rfl rfl rfl (ai_rcv1 rfl rfl (qcs_obj hc1)) (g2) ?_
        show qg L xs _ qm_59 24 [some (.ref 1), some (.int (nI P0.length)), some (x2), some (.int 1), some (.int (nI i)), some (.int (nI s1.2.2.2.2.length)), x6] [.int (nI ma)] h2 _
        refine qg_pls (n := 2) (k' := 26) (lo' := [some (.ref 1), some (.int (nI P0.length)), some (.int (nI ma)), some (.int 1), some (.int (nI i)), some (.int (nI s1.2.2.2.2.length)), x6]) (S' := [.ref 1]) (h' := h2) rfl ?_
        refine qg_getf (v := .retAddr (ztk e s4.1)) rfl (qcs_obj hc2) rfl rfl rfl ?_
        refine qg_getf (v := .int (nI (zmk e s4.1))) rfl hob rfl rfl rfl ?_
        refine qg_pls (n := 1) (k' := 29) (lo' := [some (.ref 1), some (.int (nI P0.length)), some (.int (nI ma)), some (.int 1), some (.int (nI i)), some (.int (nI s1.2.2.2.2.length)), x6]) (S' := [.int 5, .int (nI (zmk e s4.1))]) (h' := h2) rfl ?_
        refine qg_icmp false rfl (qc_ltF (b := 5) hf' (by omega)) rfl ?_
        refine qg_pls (n := 1) (k' := 31) (lo' := [some (.ref 1), some (.int (nI P0.length)), some (.int (nI ma)), some (.int 1), some (.int (nI i)), some (.int (nI s1.2.2.2.2.length)), x6]) (S' := [.ref 1]) (h' := h2) rfl ?_
        refine qg_getf (v := .retAddr (ztk e s4.1)) rfl (qcs_obj hc2) rfl rfl rfl ?_
        refine qg_getf (v := .int (nI (zmk e s4.1))) rfl hob rfl rfl rfl ?_
        refine qg_pls (n := 7) (k' := 41) (lo' := [some (.ref 1), some (.int (nI P0.length)), some (.int (nI ma)), some (.int 1), some (.int (nI i)), some (.int (nI s1.2.2.2.2.length)), some (.int (nI (zmk e s4.1)))]) (S' := [.int (nI (zmk e s4.1)), .int (nI ma), .int (nI s1.2.2.2.2.length), .int (nI P0.length), .ref 1]) (h' := h2) rfl ?_
        refine qg_call (v := some (.int (nI ma'))) (h' := h3) (as := [.ref 1, .int (nI P0.length), .int (nI s1.2.2.2.2.length), .int (nI ma), .int (nI (zmk e s4.1))]) rfl rfl rfl rfl rfl rfl rfl (ai_rcv1 rfl rfl (qcs_obj hc2)) (g3) ?_
        show qg L xs _ qm_59 42 [some (.ref 1), some (.int (nI P0.length)), some (.int (nI ma)), some (.int 1), some (.int (nI i)), some (.int (nI s1.2.2.2.2.length)), some (.int (nI (zmk e s4.1)))] [.int (nI ma')] h3 _
        refine qg_pls (n := 2) (k' := 44) (lo' := [some (.ref 1), some (.int (nI P0.length)), some (.int (nI ma')), some (.int 1), some (.int (nI i)), some (.int (nI s1.2.2.2.2.length)), some (.int (nI (zmk e s4.1)))]) (S' := [.int (nI (zmk e s4.1))]) (h' := h3) rfl ?_
        refine qg_if false rfl (qc_eqF (b := 0) (by omega) (by omega) (by decide)) rfl ?_
        exact hg
      rcases zbd_inv hz with ⟨hz4, rfl⟩ | ⟨a4, s3, hz4, hz⟩
      · have hci : zci e (ztk e s2.1) s2 = some (none, s') := by rw [zci_T rfl, hz4]; rfl
        obtain ⟨h4, g4, ⟨P', hc4⟩⟩ := qi_copyIf (L := L) (xs := xs) (d := d + 3) ht (hlt _) _ _ _ _ _ hc3 hci
        refine ⟨h4, road _ ?_, ⟨P', hc4⟩⟩
        refine qg_pls (n := 2) (k' := 47) (lo' := [some (.ref 1), some (.int (nI P0.length)), some (.int (nI ma')), some (.int 1), some (.int (nI i)), some (.int (nI s1.2.2.2.2.length)), some (.int (nI (zmk e s4.1)))]) (S' := [.ref 1, .ref 1]) (h' := h3) rfl ?_
        refine qg_getf (v := .retAddr (ztk e s2.1)) rfl (qcs_obj hc3) rfl rfl rfl ?_
        exact qg_callT rfl rfl rfl rfl rfl rfl rfl (ai_rcv1 rfl rfl (qcs_obj hc3)) rfl (g4)
      have hci : zci e (ztk e s2.1) s2 = some (some 1, s3) := by rw [zci_T rfl, hz4]; rfl
      obtain ⟨h4, g4, hc4⟩ := qi_copyIf (L := L) (xs := xs) (d := d + 3) ht (hlt _) _ _ _ _ _ hc3 hci
      have hc4 : qcs e Y bc bs (p' ++ P0) s3 h4 := hc4
      by_cases hg : s3.1 ≤ s.1
      · rw [if_pos hg] at hz; cases hz
      rw [if_neg hg] at hz
      obtain ⟨h5, g5, k5⟩ := ih (i + 1) p' s3 h4 v s' (.int (nI ma')) (some (.int (nI s1.2.2.2.2.length))) (some (.int (nI (zmk e s4.1)))) (by omega) hp3 hc4 hz
      refine ⟨h5, road _ ?_, k5⟩
      refine qg_pls (n := 2) (k' := 47) (lo' := [some (.ref 1), some (.int (nI P0.length)), some (.int (nI ma')), some (.int 1), some (.int (nI i)), some (.int (nI s1.2.2.2.2.length)), some (.int (nI (zmk e s4.1)))]) (S' := [.ref 1, .ref 1]) (h' := h3) rfl ?_
      refine qg_getf (v := .retAddr (ztk e s2.1)) rfl (qcs_obj hc3) rfl rfl rfl ?_
      refine qg_call (v := some (.int (nI 1))) (h' := h4) (as := [.ref 1, .retAddr (ztk e s2.1)]) rfl rfl rfl rfl rfl rfl rfl (ai_rcv1 rfl rfl (qcs_obj hc3)) (g4) ?_
      show qg L xs _ qm_59 49 [some (.ref 1), some (.int (nI P0.length)), some (.int (nI ma')), some (.int 1), some (.int (nI i)), some (.int (nI s1.2.2.2.2.length)), some (.int (nI (zmk e s4.1)))] [.int (nI 1)] h4 _
      refine qg_if false rfl (rfl) rfl ?_
      refine qg_pls (n := 5) (k' := 9) (lo' := [some (.ref 1), some (.int (nI P0.length)), some (.int (nI ma')), some (.int 1), some (.int ((nI i) + 1)), some (.int (nI s1.2.2.2.2.length)), some (.int (nI (zmk e s4.1)))]) (S' := []) (h' := h4) rfl ?_
      rw [nI_1]
      exact g5
    · rw [if_neg hf] at hz
      have hf' : ¬ (5 ≤ zmk e s4.1) := of_decide_eq_false (Bool.eq_false_iff.mpr hf)
      rcases zbd_inv hz with ⟨hz3, -⟩ | ⟨q, s2, hz3, hz⟩
      · obtain ⟨-, r, q, -⟩ := zcomb_all (by decide) hma hp1 hz3; cases q
      obtain ⟨p', ma', h3, e3, g3, hc3, m3⟩ := q_comb (L := L) (xs := xs) (d := d + 3) (P0 := P0) (nx := 0) ht (by decide) hl1 hma hc2 hz3
      cases e3
      obtain ⟨at3, r, e3, -, -, hp3⟩ := zcomb_all (by decide) hma hp1 hz3
      cases e3
      have hp3 : p' = [] := hp3 rfl
      subst hp3
      rw [if_neg (show ¬ zfamS (zmk e s2.1) = true by unfold zmk; rw [at3]; exact hf)] at hz
      cases hz
      refine ⟨h3, ?_, hc3⟩
      have rest : qg L xs (d + 9) qm_59 52 [some (.ref 1), some (.int (nI P0.length)), some (.int (nI ma')), some (.int 1), some (.int (nI i)), some (.int (nI s1.2.2.2.2.length)), some (.int (nI 0))] [] h3 (qout 1 (some ma'), h3) := by
        refine qg_pls (n := 4) (k' := 9) (lo' := [some (.ref 1), some (.int (nI P0.length)), some (.int (nI ma')), some (.int 0), some (.int ((nI i) + 1)), some (.int (nI s1.2.2.2.2.length)), some (.int (nI 0))]) (S' := []) (h' := h3) rfl ?_
        rw [nI_1]
        refine qg_pls (n := 2) (k' := 11) (lo' := [some (.ref 1), some (.int (nI P0.length)), some (.int (nI ma')), some (.int 0), some (.int (nI (i + 1))), some (.int (nI s1.2.2.2.2.length)), some (.int (nI 0))]) (S' := [.int 1000000, .int (nI (i + 1))]) (h' := h3) rfl ?_
        refine qg_icmp false rfl (qc_geF (b := 1000000) (by omega) (by decide)) rfl ?_
        refine qg_pls (n := 1) (k' := 13) (lo' := [some (.ref 1), some (.int (nI P0.length)), some (.int (nI ma')), some (.int 0), some (.int (nI (i + 1))), some (.int (nI s1.2.2.2.2.length)), some (.int (nI 0))]) (S' := [.int 0]) (h' := h3) rfl ?_
        refine qg_if true rfl (rfl) rfl ?_
        refine qg_pls (n := 1) (k' := 57) (lo' := [some (.ref 1), some (.int (nI P0.length)), some (.int (nI ma')), some (.int 0), some (.int (nI (i + 1))), some (.int (nI s1.2.2.2.2.length)), some (.int (nI 0))]) (S' := [.int (nI ma')]) (h' := h3) rfl ?_
        exact qg_ret5 rfl rfl rfl
      refine qg_pls (n := 2) (k' := 11) (lo' := [some (.ref 1), some (.int (nI P0.length)), some (x2), some (.int 1), some (.int (nI i)), x5, x6]) (S' := [.int 1000000, .int (nI i)]) (h' := h) rfl ?_
      refine qg_icmp false rfl (qc_geF (b := 1000000) (by omega) (by decide)) rfl ?_
      refine qg_pls (n := 1) (k' := 13) (lo' := [some (.ref 1), some (.int (nI P0.length)), some (x2), some (.int 1), some (.int (nI i)), x5, x6]) (S' := [.int 1]) (h' := h) rfl ?_
      refine qg_if false rfl (rfl) rfl ?_
      refine qg_pls (n := 3) (k' := 17) (lo' := [some (.ref 1), some (.int (nI P0.length)), some (x2), some (.int 1), some (.int (nI i)), x5, x6]) (S' := [.int 8, .retAddr 88, .ref 1]) (h' := h) rfl ?_
      refine qg_call (v := none) (h' := h1) (as := [.ref 1, .retAddr 88, .int 8]) rfl rfl rfl rfl rfl rfl rfl (ai_rcv1 rfl rfl (qcs_obj hc)) (g1) ?_
      show qg L xs _ qm_59 18 [some (.ref 1), some (.int (nI P0.length)), some (x2), some (.int 1), some (.int (nI i)), x5, x6] [] h1 _
      refine qg_pls (n := 1) (k' := 19) (lo' := [some (.ref 1), some (.int (nI P0.length)), some (x2), some (.int 1), some (.int (nI i)), x5, x6]) (S' := [.ref 1]) (h' := h1) rfl ?_
      refine qg_getf (v := .ref 4) rfl (qcs_obj hc1) rfl rfl rfl ?_
      refine qg_call (v := some (.int (nI s1.2.2.2.2.length))) (h' := h1) (as := [.ref 4]) rfl rfl rfl rfl rfl rfl rfl (ai_rcv1 rfl rfl b1) (q_psize hc1) ?_
      show qg L xs _ qm_59 21 [some (.ref 1), some (.int (nI P0.length)), some (x2), some (.int 1), some (.int (nI i)), x5, x6] [.int (nI s1.2.2.2.2.length)] h1 _
      refine qg_pls (n := 2) (k' := 23) (lo' := [some (.ref 1), some (.int (nI P0.length)), some (x2), some (.int 1), some (.int (nI i)), some (.int (nI s1.2.2.2.2.length)), x6]) (S' := [.ref 1]) (h' := h1) rfl ?_
      refine qg_call (v := some (.int (nI ma))) (h' := h2) (as := [.ref 1]) rfl rfl rfl rfl rfl rfl rfl (ai_rcv1 rfl rfl (qcs_obj hc1)) (g2) ?_
      show qg L xs _ qm_59 24 [some (.ref 1), some (.int (nI P0.length)), some (x2), some (.int 1), some (.int (nI i)), some (.int (nI s1.2.2.2.2.length)), x6] [.int (nI ma)] h2 _
      refine qg_pls (n := 2) (k' := 26) (lo' := [some (.ref 1), some (.int (nI P0.length)), some (.int (nI ma)), some (.int 1), some (.int (nI i)), some (.int (nI s1.2.2.2.2.length)), x6]) (S' := [.ref 1]) (h' := h2) rfl ?_
      refine qg_getf (v := .retAddr (ztk e s4.1)) rfl (qcs_obj hc2) rfl rfl rfl ?_
      refine qg_getf (v := .int (nI (zmk e s4.1))) rfl hob rfl rfl rfl ?_
      refine qg_pls (n := 1) (k' := 29) (lo' := [some (.ref 1), some (.int (nI P0.length)), some (.int (nI ma)), some (.int 1), some (.int (nI i)), some (.int (nI s1.2.2.2.2.length)), x6]) (S' := [.int 5, .int (nI (zmk e s4.1))]) (h' := h2) rfl ?_
      refine qg_icmp true rfl (qc_ltT (b := 5) (by omega) (by decide)) rfl ?_
      refine qg_pls (n := 7) (k' := 41) (lo' := [some (.ref 1), some (.int (nI P0.length)), some (.int (nI ma)), some (.int 1), some (.int (nI i)), some (.int (nI s1.2.2.2.2.length)), some (.int 0)]) (S' := [.int 0, .int (nI ma), .int (nI s1.2.2.2.2.length), .int (nI P0.length), .ref 1]) (h' := h2) rfl ?_
      refine qg_call (v := some (.int (nI ma'))) (h' := h3) (as := [.ref 1, .int (nI P0.length), .int (nI s1.2.2.2.2.length), .int (nI ma), .int 0]) rfl rfl rfl rfl rfl rfl rfl (ai_rcv1 rfl rfl (qcs_obj hc2)) (g3) ?_
      show qg L xs _ qm_59 42 [some (.ref 1), some (.int (nI P0.length)), some (.int (nI ma)), some (.int 1), some (.int (nI i)), some (.int (nI s1.2.2.2.2.length)), some (.int 0)] [.int (nI ma')] h3 _
      refine qg_pls (n := 2) (k' := 44) (lo' := [some (.ref 1), some (.int (nI P0.length)), some (.int (nI ma')), some (.int 1), some (.int (nI i)), some (.int (nI s1.2.2.2.2.length)), some (.int 0)]) (S' := [.int 0]) (h' := h3) rfl ?_
      refine qg_if true rfl (rfl) rfl ?_
      exact rest
/-- Grammar.sum() -/
theorem q_sum {od : zP} (ht : qtk e Y) (hod : qim L xs e Y bc bs (d + 9) 60 [.ref 1] 1 od) (h8 : ∀ s v s', od s = some (some v, s') → v ≤ 8) : qim L xs e Y bc bs (d + 10) 59 [.ref 1] 1 (zops e 88 8 zfamS od zN []) := by
  intro P s h v s' hc hz
  obtain ⟨h1, g1, g2⟩ := q_suml (L := L) (xs := xs) (P0 := P) ht hod h8 zN 0 [] s h v s' (.int 0) none none (Nat.zero_le _) (fun q hq => by cases hq) hc hz
  refine ⟨h1, ?_, g2⟩
  refine qe_of (M := qm_59) rfl rfl ?_
  show qg L xs _ qm_59 0 [some (.ref 1), none, none, none, none, none, none] [] h _
  refine qg_pls (n := 1) (k' := 1) (lo' := [some (.ref 1), none, none, none, none, none, none]) (S' := [.ref 1]) (h' := h) rfl ?_
  refine qg_getf (v := .int (nI P.length)) rfl (qcs_obj hc) rfl rfl rfl ?_
  refine qg_pls (n := 7) (k' := 9) (lo' := [some (.ref 1), some (.int (nI P.length)), some (.int 0), some (.int 1), some (.int 0), none, none]) (S' := []) (h' := h) rfl ?_
  exact g1
theorem q_exl {od : zP} (ht : qtk e Y) (hod : qim L xs e Y bc bs (d + 9) 58 [.ref 1] 1 od) (h8 : ∀ s v s', od s = some (some v, s') → v ≤ 8) : ∀ (n i : Nat) (p : zK) (s : zS) (h : ai_H) (v : Option Nat) (s' : zS) (x2 : Value) (x5 x6 : Option Value), i ≤ s.1 → (∀ q ∈ p, q.2 ≤ 8) → qcs e Y bc bs (p ++ P0) s h → zops e 49 3 zfamE od n p s = some (v, s') → ∃ h', qg L xs (d + 9) qm_55 9 [some (.ref 1), some (.int (nI P0.length)), some x2, some (.int 1), some (.int (nI i)), x5, x6] [] h (qout 1 v, h') ∧ qpost e Y bc bs P0 v s' h' := by
  have hlt := qtk_lt ht
  intro n
  induction n with
  | zero => intro i p s h v s' x2 x5 x6 _ _ _ hz; cases hz
  | succ n ih =>
    intro i p s h v s' x2 x5 x6 hi hp hc hz
    have hb := qcs_bd hc
    simp only [zops] at hz
    rcases zbd_inv hz with ⟨hz1, rfl⟩ | ⟨p1, s1, hz1, hz⟩
    · obtain ⟨h1, g1, g2⟩ := q_pre (L := L) (xs := xs) (d := d + 3) (P0 := P0) ht (by decide) (by decide) (by decide) hc hz1
      refine ⟨h1, ?_, g2⟩
      refine qg_pls (n := 2) (k' := 11) (lo' := [some (.ref 1), some (.int (nI P0.length)), some (x2), some (.int 1), some (.int (nI i)), x5, x6]) (S' := [.int 1000000, .int (nI i)]) (h' := h) rfl ?_
      refine qg_icmp false rfl (qc_geF (b := 1000000) (by omega) (by decide)) rfl ?_
      refine qg_pls (n := 1) (k' := 13) (lo' := [some (.ref 1), some (.int (nI P0.length)), some (x2), some (.int 1), some (.int (nI i)), x5, x6]) (S' := [.int 1]) (h' := h) rfl ?_
      refine qg_if false rfl (rfl) rfl ?_
      refine qg_pls (n := 3) (k' := 17) (lo' := [some (.ref 1), some (.int (nI P0.length)), some (x2), some (.int 1), some (.int (nI i)), x5, x6]) (S' := [.int 3, .retAddr 49, .ref 1]) (h' := h) rfl ?_
      exact qg_callT rfl rfl rfl rfl rfl rfl rfl (ai_rcv1 rfl rfl (qcs_obj hc)) rfl (g1)
    obtain ⟨h1, g1, hc1⟩ := q_pre (L := L) (xs := xs) (d := d + 3) (P0 := P0) ht (by decide) (by decide) (by decide) hc hz1
    have hc1 : qcs e Y bc bs (p1 ++ P0) s1 h1 := hc1
    have hp1 := zpre_all (by decide) 42 p s p1 s1 hp hz1
    obtain ⟨fs1, b1⟩ := qcs_plain hc1
    have hl1 : s1.2.2.2.2.length < 2 ^ 31 := by
      obtain ⟨pb, len, hr⟩ := qcs_row hc1
      have := qrow_le hr
      omega
    rcases zbd_inv hz with ⟨hz2, rfl⟩ | ⟨ma, s4, hz2, hz⟩
    · obtain ⟨h2, g2, ⟨P', hc2⟩⟩ := hod _ _ _ _ _ hc1 hz2
      refine ⟨h2, ?_, ⟨P', hc2⟩⟩
      refine qg_pls (n := 2) (k' := 11) (lo' := [some (.ref 1), some (.int (nI P0.length)), some (x2), some (.int 1), some (.int (nI i)), x5, x6]) (S' := [.int 1000000, .int (nI i)]) (h' := h) rfl ?_
      refine qg_icmp false rfl (qc_geF (b := 1000000) (by omega) (by decide)) rfl ?_
      refine qg_pls (n := 1) (k' := 13) (lo' := [some (.ref 1), some (.int (nI P0.length)), some (x2), some (.int 1), some (.int (nI i)), x5, x6]) (S' := [.int 1]) (h' := h) rfl ?_
      refine qg_if false rfl (rfl) rfl ?_
      refine qg_pls (n := 3) (k' := 17) (lo' := [some (.ref 1), some (.int (nI P0.length)), some (x2), some (.int 1), some (.int (nI i)), x5, x6]) (S' := [.int 3, .retAddr 49, .ref 1]) (h' := h) rfl ?_
      refine qg_call (v := none) (h' := h1) (as := [.ref 1, .retAddr 49, .int 3]) rfl rfl rfl rfl rfl rfl rfl (ai_rcv1 rfl rfl (qcs_obj hc)) (g1) ?_
      show qg L xs _ qm_55 18 [some (.ref 1), some (.int (nI P0.length)), some (x2), some (.int 1), some (.int (nI i)), x5, x6] [] h1 _
      refine qg_pls (n := 1) (k' := 19) (lo' := [some (.ref 1), some (.int (nI P0.length)), some (x2), some (.int 1), some (.int (nI i)), x5, x6]) (S' := [.ref 1]) (h' := h1) rfl ?_
      refine qg_getf (v := .ref 4) rfl (qcs_obj hc1) rfl rfl rfl ?_
      refine qg_call (v := some (.int (nI s1.2.2.2.2.length))) (h' := h1) (as := [.ref 4]) rfl rfl rfl rfl rfl rfl rfl (ai_rcv1 rfl rfl b1) (q_psize hc1) ?_
      show qg L xs _ qm_55 21 [some (.ref 1), some (.int (nI P0.length)), some (x2), some (.int 1), some (.int (nI i)), x5, x6] [.int (nI s1.2.2.2.2.length)] h1 _
      refine qg_pls (n := 2) (k' := 23) (lo' := [some (.ref 1), some (.int (nI P0.length)), some (x2), some (.int 1), some (.int (nI i)), some (.int (nI s1.2.2.2.2.length)), x6]) (S' := [.ref 1]) (h' := h1) rfl ?_
      exact qg_callT rfl rfl rfl rfl rfl rfl rfl (ai_rcv1 rfl rfl (qcs_obj hc1)) rfl (g2)
    obtain ⟨h2, g2, hc2⟩ := hod _ _ _ _ _ hc1 hz2
    have hc2 : qcs e Y bc bs (p1 ++ P0) s4 h2 := hc2
    have hma := h8 _ _ _ hz2
    have hmk := zmk_le hlt s4.1
    have hob := q_mkob (L := L) (xs := xs) (h := h2) hlt s4.1
    by_cases hf : zfamE (zmk e s4.1) = true
    · rw [if_pos hf] at hz
      have hf' : zmk e s4.1 = 1 ∨ zmk e s4.1 = 2 := of_decide_eq_true hf
      rcases zbd_inv hz with ⟨hz3, -⟩ | ⟨q, s2, hz3, hz⟩
      · obtain ⟨-, r, q, -⟩ := zcomb_all hmk hma hp1 hz3; cases q
      obtain ⟨p', ma', h3, e3, g3, hc3, m3⟩ := q_comb (L := L) (xs := xs) (d := d + 3) (P0 := P0) ht hmk hl1 hma hc2 hz3
      cases e3
      obtain ⟨at3, r, e3, -, hp3, -⟩ := zcomb_all hmk hma hp1 hz3
      cases e3
      rw [if_pos (show zfamE (zmk e s2.1) = true by unfold zmk; rw [at3]; exact hf)] at hz
      have road : ∀ o, qg L xs (d + 9) qm_55 45 [some (.ref 1), some (.int (nI P0.length)), some (.int (nI ma')), some (.int 1), some (.int (nI i)), some (.int (nI s1.2.2.2.2.length)), some (.int (nI (zmk e s4.1)))] [] h3 o → qg L xs (d + 9) qm_55 9 [some (.ref 1), some (.int (nI P0.length)), some x2, some (.int 1), some (.int (nI i)), x5, x6] [] h o := by
        intro o hg
        refine qg_pls (n := 2) (k' := 11) (lo' := [some (.ref 1), some (.int (nI P0.length)), some (x2), some (.int 1), some (.int (nI i)), x5, x6]) (S' := [.int 1000000, .int (nI i)]) (h' := h) rfl ?_
        refine qg_icmp false rfl (qc_geF (b := 1000000) (by omega) (by decide)) rfl ?_
        refine qg_pls (n := 1) (k' := 13) (lo' := [some (.ref 1), some (.int (nI P0.length)), some (x2), some (.int 1), some (.int (nI i)), x5, x6]) (S' := [.int 1]) (h' := h) rfl ?_
        refine qg_if false rfl (rfl) rfl ?_
        refine qg_pls (n := 3) (k' := 17) (lo' := [some (.ref 1), some (.int (nI P0.length)), some (x2), some (.int 1), some (.int (nI i)), x5, x6]) (S' := [.int 3, .retAddr 49, .ref 1]) (h' := h) rfl ?_
        refine qg_call (v := none) (h' := h1) (as := [.ref 1, .retAddr 49, .int 3]) rfl rfl rfl rfl rfl rfl rfl (ai_rcv1 rfl rfl (qcs_obj hc)) (g1) ?_
        show qg L xs _ qm_55 18 [some (.ref 1), some (.int (nI P0.length)), some (x2), some (.int 1), some (.int (nI i)), x5, x6] [] h1 _
        refine qg_pls (n := 1) (k' := 19) (lo' := [some (.ref 1), some (.int (nI P0.length)), some (x2), some (.int 1), some (.int (nI i)), x5, x6]) (S' := [.ref 1]) (h' := h1) rfl ?_
        refine qg_getf (v := .ref 4) rfl (qcs_obj hc1) rfl rfl rfl ?_
        refine qg_call (v := some (.int (nI s1.2.2.2.2.length))) (h' := h1) (as := [.ref 4]) rfl rfl rfl rfl rfl rfl rfl (ai_rcv1 rfl rfl b1) (q_psize hc1) ?_
        show qg L xs _ qm_55 21 [some (.ref 1), some (.int (nI P0.length)), some (x2), some (.int 1), some (.int (nI i)), x5, x6] [.int (nI s1.2.2.2.2.length)] h1 _
        refine qg_pls (n := 2) (k' := 23) (lo' := [some (.ref 1), some (.int (nI P0.length)), some (x2), some (.int 1), some (.int (nI i)), some (.int (nI s1.2.2.2.2.length)), x6]) (S' := [.ref 1]) (h' := h1) rfl ?_
        refine qg_call (v := some (.int (nI ma))) (h' := h2) (as := [.ref 1]) rfl rfl rfl rfl rfl rfl rfl (ai_rcv1 rfl rfl (qcs_obj hc1)) (g2) ?_
        show qg L xs _ qm_55 24 [some (.ref 1), some (.int (nI P0.length)), some (x2), some (.int 1), some (.int (nI i)), some (.int (nI s1.2.2.2.2.length)), x6] [.int (nI ma)] h2 _
        refine qg_pls (n := 2) (k' := 26) (lo' := [some (.ref 1), some (.int (nI P0.length)), some (.int (nI ma)), some (.int 1), some (.int (nI i)), some (.int (nI s1.2.2.2.2.length)), x6]) (S' := [.ref 1]) (h' := h2) rfl ?_
        refine qg_getf (v := .retAddr (ztk e s4.1)) rfl (qcs_obj hc2) rfl rfl rfl ?_
        refine qg_getf (v := .int (nI (zmk e s4.1))) rfl hob rfl rfl rfl ?_
        refine qg_pls (n := 1) (k' := 29) (lo' := [some (.ref 1), some (.int (nI P0.length)), some (.int (nI ma)), some (.int 1), some (.int (nI i)), some (.int (nI s1.2.2.2.2.length)), x6]) (S' := [.int 2, .int (nI (zmk e s4.1))]) (h' := h2) rfl ?_
        refine qg_icmp false rfl (qc_gtF (b := 2) (by omega) (by decide)) rfl ?_
        refine qg_pls (n := 1) (k' := 31) (lo' := [some (.ref 1), some (.int (nI P0.length)), some (.int (nI ma)), some (.int 1), some (.int (nI i)), some (.int (nI s1.2.2.2.2.length)), x6]) (S' := [.ref 1]) (h' := h2) rfl ?_
        refine qg_getf (v := .retAddr (ztk e s4.1)) rfl (qcs_obj hc2) rfl rfl rfl ?_
        refine qg_getf (v := .int (nI (zmk e s4.1))) rfl hob rfl rfl rfl ?_
        refine qg_pls (n := 7) (k' := 41) (lo' := [some (.ref 1), some (.int (nI P0.length)), some (.int (nI ma)), some (.int 1), some (.int (nI i)), some (.int (nI s1.2.2.2.2.length)), some (.int (nI (zmk e s4.1)))]) (S' := [.int (nI (zmk e s4.1)), .int (nI ma), .int (nI s1.2.2.2.2.length), .int (nI P0.length), .ref 1]) (h' := h2) rfl ?_
        refine qg_call (v := some (.int (nI ma'))) (h' := h3) (as := [.ref 1, .int (nI P0.length), .int (nI s1.2.2.2.2.length), .int (nI ma), .int (nI (zmk e s4.1))]) rfl rfl rfl rfl rfl rfl rfl (ai_rcv1 rfl rfl (qcs_obj hc2)) (g3) ?_
        show qg L xs _ qm_55 42 [some (.ref 1), some (.int (nI P0.length)), some (.int (nI ma)), some (.int 1), some (.int (nI i)), some (.int (nI s1.2.2.2.2.length)), some (.int (nI (zmk e s4.1)))] [.int (nI ma')] h3 _
        refine qg_pls (n := 2) (k' := 44) (lo' := [some (.ref 1), some (.int (nI P0.length)), some (.int (nI ma')), some (.int 1), some (.int (nI i)), some (.int (nI s1.2.2.2.2.length)), some (.int (nI (zmk e s4.1)))]) (S' := [.int (nI (zmk e s4.1))]) (h' := h3) rfl ?_
        refine qg_if false rfl (qc_eqF (b := 0) (by omega) (by omega) (by decide)) rfl ?_
        exact hg
      rcases zbd_inv hz with ⟨hz4, rfl⟩ | ⟨a4, s3, hz4, hz⟩
      · have hci : zci e (ztk e s2.1) s2 = some (none, s') := by rw [zci_T rfl, hz4]; rfl
        obtain ⟨h4, g4, ⟨P', hc4⟩⟩ := qi_copyIf (L := L) (xs := xs) (d := d + 3) ht (hlt _) _ _ _ _ _ hc3 hci
        refine ⟨h4, road _ ?_, ⟨P', hc4⟩⟩
        refine qg_pls (n := 2) (k' := 47) (lo' := [some (.ref 1), some (.int (nI P0.length)), some (.int (nI ma')), some (.int 1), some (.int (nI i)), some (.int (nI s1.2.2.2.2.length)), some (.int (nI (zmk e s4.1)))]) (S' := [.ref 1, .ref 1]) (h' := h3) rfl ?_
        refine qg_getf (v := .retAddr (ztk e s2.1)) rfl (qcs_obj hc3) rfl rfl rfl ?_
        exact qg_callT rfl rfl rfl rfl rfl rfl rfl (ai_rcv1 rfl rfl (qcs_obj hc3)) rfl (g4)
      have hci : zci e (ztk e s2.1) s2 = some (some 1, s3) := by rw [zci_T rfl, hz4]; rfl
      obtain ⟨h4, g4, hc4⟩ := qi_copyIf (L := L) (xs := xs) (d := d + 3) ht (hlt _) _ _ _ _ _ hc3 hci
      have hc4 : qcs e Y bc bs (p' ++ P0) s3 h4 := hc4
      by_cases hg : s3.1 ≤ s.1
      · rw [if_pos hg] at hz; cases hz
      rw [if_neg hg] at hz
      obtain ⟨h5, g5, k5⟩ := ih (i + 1) p' s3 h4 v s' (.int (nI ma')) (some (.int (nI s1.2.2.2.2.length))) (some (.int (nI (zmk e s4.1)))) (by omega) hp3 hc4 hz
      refine ⟨h5, road _ ?_, k5⟩
      refine qg_pls (n := 2) (k' := 47) (lo' := [some (.ref 1), some (.int (nI P0.length)), some (.int (nI ma')), some (.int 1), some (.int (nI i)), some (.int (nI s1.2.2.2.2.length)), some (.int (nI (zmk e s4.1)))]) (S' := [.ref 1, .ref 1]) (h' := h3) rfl ?_
      refine qg_getf (v := .retAddr (ztk e s2.1)) rfl (qcs_obj hc3) rfl rfl rfl ?_
      refine qg_call (v := some (.int (nI 1))) (h' := h4) (as := [.ref 1, .retAddr (ztk e s2.1)]) rfl rfl rfl rfl rfl rfl rfl (ai_rcv1 rfl rfl (qcs_obj hc3)) (g4) ?_
      show qg L xs _ qm_55 49 [some (.ref 1), some (.int (nI P0.length)), some (.int (nI ma')), some (.int 1), some (.int (nI i)), some (.int (nI s1.2.2.2.2.length)), some (.int (nI (zmk e s4.1)))] [.int (nI 1)] h4 _
      refine qg_if false rfl (rfl) rfl ?_
      refine qg_pls (n := 5) (k' := 9) (lo' := [some (.ref 1), some (.int (nI P0.length)), some (.int (nI ma')), some (.int 1), some (.int ((nI i) + 1)), some (.int (nI s1.2.2.2.2.length)), some (.int (nI (zmk e s4.1)))]) (S' := []) (h' := h4) rfl ?_
      rw [nI_1]
      exact g5
    · rw [if_neg hf] at hz
      have hf' : ¬ (zmk e s4.1 = 1 ∨ zmk e s4.1 = 2) := of_decide_eq_false (Bool.eq_false_iff.mpr hf)
      rcases zbd_inv hz with ⟨hz3, -⟩ | ⟨q, s2, hz3, hz⟩
      · obtain ⟨-, r, q, -⟩ := zcomb_all (by decide) hma hp1 hz3; cases q
      obtain ⟨p', ma', h3, e3, g3, hc3, m3⟩ := q_comb (L := L) (xs := xs) (d := d + 3) (P0 := P0) (nx := 0) ht (by decide) hl1 hma hc2 hz3
      cases e3
      obtain ⟨at3, r, e3, -, -, hp3⟩ := zcomb_all (by decide) hma hp1 hz3
      cases e3
      have hp3 : p' = [] := hp3 rfl
      subst hp3
      rw [if_neg (show ¬ zfamE (zmk e s2.1) = true by unfold zmk; rw [at3]; exact hf)] at hz
      cases hz
      refine ⟨h3, ?_, hc3⟩
      have rest : qg L xs (d + 9) qm_55 52 [some (.ref 1), some (.int (nI P0.length)), some (.int (nI ma')), some (.int 1), some (.int (nI i)), some (.int (nI s1.2.2.2.2.length)), some (.int (nI 0))] [] h3 (qout 1 (some ma'), h3) := by
        refine qg_pls (n := 4) (k' := 9) (lo' := [some (.ref 1), some (.int (nI P0.length)), some (.int (nI ma')), some (.int 0), some (.int ((nI i) + 1)), some (.int (nI s1.2.2.2.2.length)), some (.int (nI 0))]) (S' := []) (h' := h3) rfl ?_
        rw [nI_1]
        refine qg_pls (n := 2) (k' := 11) (lo' := [some (.ref 1), some (.int (nI P0.length)), some (.int (nI ma')), some (.int 0), some (.int (nI (i + 1))), some (.int (nI s1.2.2.2.2.length)), some (.int (nI 0))]) (S' := [.int 1000000, .int (nI (i + 1))]) (h' := h3) rfl ?_
        refine qg_icmp false rfl (qc_geF (b := 1000000) (by omega) (by decide)) rfl ?_
        refine qg_pls (n := 1) (k' := 13) (lo' := [some (.ref 1), some (.int (nI P0.length)), some (.int (nI ma')), some (.int 0), some (.int (nI (i + 1))), some (.int (nI s1.2.2.2.2.length)), some (.int (nI 0))]) (S' := [.int 0]) (h' := h3) rfl ?_
        refine qg_if true rfl (rfl) rfl ?_
        refine qg_pls (n := 1) (k' := 57) (lo' := [some (.ref 1), some (.int (nI P0.length)), some (.int (nI ma')), some (.int 0), some (.int (nI (i + 1))), some (.int (nI s1.2.2.2.2.length)), some (.int (nI 0))]) (S' := [.int (nI ma')]) (h' := h3) rfl ?_
        exact qg_ret5 rfl rfl rfl
      refine qg_pls (n := 2) (k' := 11) (lo' := [some (.ref 1), some (.int (nI P0.length)), some (x2), some (.int 1), some (.int (nI i)), x5, x6]) (S' := [.int 1000000, .int (nI i)]) (h' := h) rfl ?_
      refine qg_icmp false rfl (qc_geF (b := 1000000) (by omega) (by decide)) rfl ?_
      refine qg_pls (n := 1) (k' := 13) (lo' := [some (.ref 1), some (.int (nI P0.length)), some (x2), some (.int 1), some (.int (nI i)), x5, x6]) (S' := [.int 1]) (h' := h) rfl ?_
      refine qg_if false rfl (rfl) rfl ?_
      refine qg_pls (n := 3) (k' := 17) (lo' := [some (.ref 1), some (.int (nI P0.length)), some (x2), some (.int 1), some (.int (nI i)), x5, x6]) (S' := [.int 3, .retAddr 49, .ref 1]) (h' := h) rfl ?_
      refine qg_call (v := none) (h' := h1) (as := [.ref 1, .retAddr 49, .int 3]) rfl rfl rfl rfl rfl rfl rfl (ai_rcv1 rfl rfl (qcs_obj hc)) (g1) ?_
      show qg L xs _ qm_55 18 [some (.ref 1), some (.int (nI P0.length)), some (x2), some (.int 1), some (.int (nI i)), x5, x6] [] h1 _
      refine qg_pls (n := 1) (k' := 19) (lo' := [some (.ref 1), some (.int (nI P0.length)), some (x2), some (.int 1), some (.int (nI i)), x5, x6]) (S' := [.ref 1]) (h' := h1) rfl ?_
      refine qg_getf (v := .ref 4) rfl (qcs_obj hc1) rfl rfl rfl ?_
      refine qg_call (v := some (.int (nI s1.2.2.2.2.length))) (h' := h1) (as := [.ref 4]) rfl rfl rfl rfl rfl rfl rfl (ai_rcv1 rfl rfl b1) (q_psize hc1) ?_
      show qg L xs _ qm_55 21 [some (.ref 1), some (.int (nI P0.length)), some (x2), some (.int 1), some (.int (nI i)), x5, x6] [.int (nI s1.2.2.2.2.length)] h1 _
      refine qg_pls (n := 2) (k' := 23) (lo' := [some (.ref 1), some (.int (nI P0.length)), some (x2), some (.int 1), some (.int (nI i)), some (.int (nI s1.2.2.2.2.length)), x6]) (S' := [.ref 1]) (h' := h1) rfl ?_
      refine qg_call (v := some (.int (nI ma))) (h' := h2) (as := [.ref 1]) rfl rfl rfl rfl rfl rfl rfl (ai_rcv1 rfl rfl (qcs_obj hc1)) (g2) ?_
      show qg L xs _ qm_55 24 [some (.ref 1), some (.int (nI P0.length)), some (x2), some (.int 1), some (.int (nI i)), some (.int (nI s1.2.2.2.2.length)), x6] [.int (nI ma)] h2 _
      refine qg_pls (n := 2) (k' := 26) (lo' := [some (.ref 1), some (.int (nI P0.length)), some (.int (nI ma)), some (.int 1), some (.int (nI i)), some (.int (nI s1.2.2.2.2.length)), x6]) (S' := [.ref 1]) (h' := h2) rfl ?_
      refine qg_getf (v := .retAddr (ztk e s4.1)) rfl (qcs_obj hc2) rfl rfl rfl ?_
      refine qg_getf (v := .int (nI (zmk e s4.1))) rfl hob rfl rfl rfl ?_
      refine qg_pls (n := 1) (k' := 29) (lo' := [some (.ref 1), some (.int (nI P0.length)), some (.int (nI ma)), some (.int 1), some (.int (nI i)), some (.int (nI s1.2.2.2.2.length)), x6]) (S' := [.int 2, .int (nI (zmk e s4.1))]) (h' := h2) rfl ?_
      by_cases hm2 : 2 < zmk e s4.1
      · skip
        refine qg_icmp true rfl (qc_gtT (b := 2) hm2 (by omega)) rfl ?_
        refine qg_pls (n := 7) (k' := 41) (lo' := [some (.ref 1), some (.int (nI P0.length)), some (.int (nI ma)), some (.int 1), some (.int (nI i)), some (.int (nI s1.2.2.2.2.length)), some (.int 0)]) (S' := [.int 0, .int (nI ma), .int (nI s1.2.2.2.2.length), .int (nI P0.length), .ref 1]) (h' := h2) rfl ?_
        refine qg_call (v := some (.int (nI ma'))) (h' := h3) (as := [.ref 1, .int (nI P0.length), .int (nI s1.2.2.2.2.length), .int (nI ma), .int 0]) rfl rfl rfl rfl rfl rfl rfl (ai_rcv1 rfl rfl (qcs_obj hc2)) (g3) ?_
        show qg L xs _ qm_55 42 [some (.ref 1), some (.int (nI P0.length)), some (.int (nI ma)), some (.int 1), some (.int (nI i)), some (.int (nI s1.2.2.2.2.length)), some (.int 0)] [.int (nI ma')] h3 _
        refine qg_pls (n := 2) (k' := 44) (lo' := [some (.ref 1), some (.int (nI P0.length)), some (.int (nI ma')), some (.int 1), some (.int (nI i)), some (.int (nI s1.2.2.2.2.length)), some (.int 0)]) (S' := [.int 0]) (h' := h3) rfl ?_
        refine qg_if true rfl (rfl) rfl ?_
        exact rest
      · have h0 : zmk e s4.1 = 0 := by omega
        refine qg_icmp false rfl (qc_gtF (b := 2) (by omega) (by decide)) rfl ?_
        refine qg_pls (n := 1) (k' := 31) (lo' := [some (.ref 1), some (.int (nI P0.length)), some (.int (nI ma)), some (.int 1), some (.int (nI i)), some (.int (nI s1.2.2.2.2.length)), x6]) (S' := [.ref 1]) (h' := h2) rfl ?_
        refine qg_getf (v := .retAddr (ztk e s4.1)) rfl (qcs_obj hc2) rfl rfl rfl ?_
        refine qg_getf (v := .int (nI (zmk e s4.1))) rfl hob rfl rfl rfl ?_
        refine qg_pls (n := 7) (k' := 41) (lo' := [some (.ref 1), some (.int (nI P0.length)), some (.int (nI ma)), some (.int 1), some (.int (nI i)), some (.int (nI s1.2.2.2.2.length)), some (.int (nI (zmk e s4.1)))]) (S' := [.int (nI (zmk e s4.1)), .int (nI ma), .int (nI s1.2.2.2.2.length), .int (nI P0.length), .ref 1]) (h' := h2) rfl ?_
        rw [h0]
        refine qg_call (v := some (.int (nI ma'))) (h' := h3) (as := [.ref 1, .int (nI P0.length), .int (nI s1.2.2.2.2.length), .int (nI ma), .int (nI 0)]) rfl rfl rfl rfl rfl rfl rfl (ai_rcv1 rfl rfl (qcs_obj hc2)) (g3) ?_
        show qg L xs _ qm_55 42 [some (.ref 1), some (.int (nI P0.length)), some (.int (nI ma)), some (.int 1), some (.int (nI i)), some (.int (nI s1.2.2.2.2.length)), some (.int (nI 0))] [.int (nI ma')] h3 _
        refine qg_pls (n := 2) (k' := 44) (lo' := [some (.ref 1), some (.int (nI P0.length)), some (.int (nI ma')), some (.int 1), some (.int (nI i)), some (.int (nI s1.2.2.2.2.length)), some (.int (nI 0))]) (S' := [.int (nI 0)]) (h' := h3) rfl ?_
        refine qg_if true rfl (rfl) rfl ?_
        exact rest
/-- Grammar.expression() -/
theorem q_ex {od : zP} (ht : qtk e Y) (hod : qim L xs e Y bc bs (d + 9) 58 [.ref 1] 1 od) (h8 : ∀ s v s', od s = some (some v, s') → v ≤ 8) : qim L xs e Y bc bs (d + 10) 55 [.ref 1] 1 (zops e 49 3 zfamE od zN []) := by
  intro P s h v s' hc hz
  obtain ⟨h1, g1, g2⟩ := q_exl (L := L) (xs := xs) (P0 := P) ht hod h8 zN 0 [] s h v s' (.int 0) none none (Nat.zero_le _) (fun q hq => by cases hq) hc hz
  refine ⟨h1, ?_, g2⟩
  refine qe_of (M := qm_55) rfl rfl ?_
  show qg L xs _ qm_55 0 [some (.ref 1), none, none, none, none, none, none] [] h _
  refine qg_pls (n := 1) (k' := 1) (lo' := [some (.ref 1), none, none, none, none, none, none]) (S' := [.ref 1]) (h' := h) rfl ?_
  refine qg_getf (v := .int (nI P.length)) rfl (qcs_obj hc) rfl rfl rfl ?_
  refine qg_pls (n := 7) (k' := 9) (lo' := [some (.ref 1), some (.int (nI P.length)), some (.int 0), some (.int 1), some (.int 0), none, none]) (S' := []) (h' := h) rfl ?_
  exact g1
end QOP
