/-! COMPARISONS, OPERANDS, STATEMENTS: the class. (Printed by wip/whole/pp.py from wip/whole/src.) -/
section QCM
variable {L : Nat} {xs : Nat → Int32} {d : Nat} {h h' : ai_H} {e : zE} {Y : Nat → Option ai_C} {bc bs : Int} {P P0 : zK} {s s' : zS} {ex qy pr : zP}
def zkd (f : zP) : Prop := ∀ s v s', f s = some (some v, s') → s'.2.2.2.1 + 1 = s.2.2.2.1
theorem zkd_q {a b : zP} (ha : zkw a) (hb : zkd b) : zkd (zq a b) := by
  intro s v s' h
  rcases zbd_inv h with ⟨-, q⟩ | ⟨a1, s1, h1, h2⟩
  · cases q
  · rw [hb _ _ _ h2, ha _ _ _ h1]
theorem zkd_pop : zkd zpop := by
  intro s v s' h
  obtain ⟨h1, -, h2⟩ := zpop_inv h
  rw [h2]
  show s.2.2.2.1 - 1 + 1 = _
  omega
theorem ztest_inv {v : Option Nat} (h : ztest s = some (v, s')) : s.2.2.2.1 < 300 ∧ v = some 0 ∧ s' = (s.1, s.2.1, s.2.2.1, s.2.2.2.1 + 1, s.2.2.2.2) := by
  unfold ztest at h
  split at h
  · cases h
  · cases h; exact ⟨by omega, rfl, rfl⟩
theorem zkw_test {b : zP} (hb : zkd b) : zkw (zq ztest b) := by
  intro s v s' h
  rcases zbd_inv h with ⟨-, q⟩ | ⟨a1, s1, h1, h2⟩
  · cases q
  · have := hb _ _ _ h2
    rw [(ztest_inv h1).2.2] at this
    exact Nat.add_right_cancel this
theorem zkw_open {st : Nat} : zkw (zopen st) := by intro s v s' h; rw [(zopen_inv h).2.2.2]
theorem zkw_sum (hlt : ∀ i, ztk e i < 104) (hpr : zkw pr) (h8 : ∀ s v s', pr s = some (some v, s') → v ≤ 8) : zkw (z_sum e pr) := by
  intro s v s' h
  have := zops_w hlt rfl (by decide) hpr h8 zN [] s v s' (fun q hq => by cases hq) h
  exact this
theorem zkw_cmp (hlt : ∀ i, ztk e i < 104) (hpr : zkw pr) (h8 : ∀ s v s', pr s = some (some v, s') → v ≤ 8) (hex : zkw ex) (hqy : zkw qy) : zkw (z_cmp e pr ex qy) := by
  intro s v s' h
  have hs := zkw_sum hlt hpr h8
  rcases zbd_inv h with ⟨-, q⟩ | ⟨a1, s1, h1, h2⟩
  · cases q
  · have e1 := hs _ _ _ h1
    split at h2
    · rw [← e1]
      refine zkw_q zkw_open (zkw_q (zkw_if (fun s v s' h => ?_) ?_) (zkw_q zkw_put zkw_v)) s1 v s' h2
      · exact zkw_q zkw_cp (zkw_test (zkd_q hs zkd_pop)) s v s' h
      · exact zkw_i zkw_ci (zkw_q zkw_ci zkw_cp) (zkw_q zkw_ci (zkw_i zkw_ci (zkw_members hex hqy) (zkw_i zkw_ci (zkw_test (zkd_q hs (zkd_q zkw_cp (zkd_q hs zkd_pop)))) (zkw_q zkw_cp (zkw_test (zkd_q hs zkd_pop))))))
    · cases h2; exact e1
theorem z8_cmp (hlt : ∀ i, ztk e i < 104) (h8 : ∀ s v s', pr s = some (some v, s') → v ≤ 8) : ∀ s v s', z_cmp e pr ex qy s = some (some v, s') → v ≤ 8 := by
  intro s v s' h
  rcases zbd_inv h with ⟨-, q⟩ | ⟨a1, s1, h1, h2⟩
  · cases q
  · split at h2
    · rcases zbd_inv h2 with ⟨-, q⟩ | ⟨a2, s2, -, h2⟩
      · cases q
      rcases zbd_inv h2 with ⟨-, q⟩ | ⟨a2, s2, -, h2⟩
      · cases q
      rcases zbd_inv h2 with ⟨-, q⟩ | ⟨a2, s2, -, h2⟩
      · cases q
      cases h2; decide
    · cases h2
      exact zops_8 hlt (by decide) h8 zN [] s v s' (fun q hq => by cases hq) h1
/-- expressions and queries of any depth -/
theorem zsp_w (hlt : ∀ i, ztk e i < 104) : ∀ n, (zkw (zsp e n true) ∧ ∀ s v s', zsp e n true s = some (some v, s') → v ≤ 8) ∧ zkw (zsp e n false) := by
  intro n
  induction n with
  | zero => exact ⟨⟨(fun s v s' h => by cases h), (fun s v s' h => by cases h)⟩, (fun s v s' h => by cases h)⟩
  | succ n ih =>
    obtain ⟨⟨i1, i2⟩, i3⟩ := ih
    have hp := zkw_prim (e := e) i1 i3
    have h8 := z8_prim (e := e) (qy := zsp e n false) i2
    refine ⟨⟨fun s v s' h => ?_, fun s v s' h => ?_⟩, fun s v s' h => ?_⟩
    · exact zops_w hlt rfl (by decide) (zkw_cmp hlt hp h8 i1 i3) (z8_cmp hlt h8) zN [] s v s' (fun q hq => by cases hq) h
    · exact zops_8 hlt (by decide) (z8_cmp hlt h8) zN [] s v s' (fun q hq => by cases hq) h
    · exact zkw_query i1 s v s' h
/-! rules -/
theorem qcs_w {w : Nat} (hc : qcs e Y bc bs P s h) (h1 : P.length ≤ w) (h2 : w ≤ 300) : qcs e Y bc bs P (s.1, s.2.1, s.2.2.1, w, s.2.2.2.2) h := by
  obtain ⟨pb, len, fm, fs, c1, c2, c3, c4, c5, c6, c7, c8, c9, c10⟩ := hc
  exact ⟨pb, len, fm, fs, c1, c2, c3, c4, c5, ⟨h1, c6.2.1, c6.2.2.1, c6.2.2.2.1, h2⟩, c7, c8, c9, c10⟩
theorem qsm_test {M : ai_M} {k md : Nat} {lo : ai_L} {S : List Value} {G : Nat → zS → zR Nat} (hc : qcs e Y bc bs P s h) (hs : ∀ s1, s1 = (s.1, s.2.1, s.2.2.1, s.2.2.2.1 + 1, s.2.2.2.2) → qcs e Y bc bs P s1 h → qsm L xs e Y bc bs d M k lo S h md P (G 0 s1)) : qsm L xs e Y bc bs d M k lo S h md P (zbd (ztest s) G) := by
  intro v s' hr
  have hb := qcs_bd hc
  rcases zbd_inv hr with ⟨h1, -⟩ | ⟨a, s1, h1, h2⟩
  · obtain ⟨-, q, -⟩ := ztest_inv h1; cases q
  · obtain ⟨w1, q, e1⟩ := ztest_inv h1
    cases q
    refine hs s1 e1 ?_ v s' h2
    rw [e1]
    exact qcs_w hc (by omega) (by omega)
theorem qsm_popw {M : ai_M} {k md : Nat} {lo : ai_L} {S : List Value} {G : Nat → zS → zR Nat} (hc : qcs e Y bc bs P s h) (hp : P.length + 1 ≤ s.2.2.2.1) (hs : ∀ s1, qcs e Y bc bs P s1 h → qsm L xs e Y bc bs d M k lo S h md P (G 0 s1)) : qsm L xs e Y bc bs d M k lo S h md P (zbd (zpop s) G) := by
  intro v s' hr
  have hb := qcs_bd hc
  rcases zbd_inv hr with ⟨h1, -⟩ | ⟨a, s1, h1, h2⟩
  · obtain ⟨-, q, -⟩ := zpop_inv h1; cases q
  · obtain ⟨w1, q, e1⟩ := zpop_inv h1
    cases q
    refine hs s1 ?_ v s' h2
    rw [e1]
    exact qcs_w hc (by omega) (by omega)
theorem qsm_sw {M : ai_M} {k k' md : Nat} {lo : ai_L} {S : List Value} {r : zR Nat} {pc len : Nat} {df l2 hi : Int} {os : Array Int} {rs : List Int} {nm : String} {x : Int32} (hk : (ai_Mc M)[k]? = some (pc, .tableswitch df l2 hi os, len, 0, rs, nm)) (ht : (if x.toInt < l2 ∨ hi < x.toInt then ai_tgt (0, rs, nm) else (ai_nth (0, rs, nm) ((x.toInt - l2).toNat + 1)).toNat) = k') (hs : qsm L xs e Y bc bs d M k' lo S h md P r) : qsm L xs e Y bc bs d M k lo (.int x :: S) h md P r := by
  refine qsm_st (fun o hg => ?_) hs
  refine qg_eff (t := k' + 1) (lo' := lo) (S' := S) (h' := h) hk ?_ rfl hg
  simp only [ai_eff, ai_sw]
  rw [ht]
theorem qZ_sw {L : Nat} {xs : Nat → Int32} {h : ai_H} : ai_look (qr_Z L xs) h.1 (.retAddr 3001) = some (ai_num .int 104 (fun j => qr_sw.getD j 0)) := rfl
theorem q_ord (hlt : ∀ i, ztk e i < 104) (i : Nat) : qe L xs (d + 1) 36 [.retAddr (ztk e i)] h (.inl (some (.int (nI (ztk e i)))), h) := by
  have hob := q_mkob (L := L) (xs := xs) (h := h) hlt i
  refine qe_of (M := qm_36) rfl rfl ?_
  show qg L xs _ qm_36 0 [some (.retAddr (ztk e i))] [] h _
  refine qg_pls (n := 1) (k' := 1) (lo' := [some (.retAddr (ztk e i))]) (S' := [.retAddr (ztk e i)]) (h' := h) rfl ?_
  refine qg_getf (v := .int (Int32.ofNat (ztk e i))) rfl hob rfl rfl rfl ?_
  exact qg_ret5 rfl rfl rfl
theorem sw_60a : (List.range 104).all (fun t => decide (t = 100 ∨ t = 101 ∨ t = 50 ∨ t = 99 ∨ t = 82 ∨ t = 27 ∨ t = 10 ∨ ((qr_sw.getD t 0).toInt < 13 ∨ 19 < (qr_sw.getD t 0).toInt))) = true := by decide +kernel
theorem sw_60 {t : Nat} (ht : t < 104) (h1 : ¬ t = 100) (h2 : ¬ t = 101) (h3 : ¬ t = 50) (h4 : ¬ t = 99) (h5 : ¬ t = 82) (h6 : ¬ t = 27) (h7 : ¬ t = 10) : (qr_sw.getD t 0).toInt < 13 ∨ 19 < (qr_sw.getD t 0).toInt := by
  have h := of_decide_eq_true (List.all_eq_true.mp sw_60a t (List.mem_range.mpr ht))
  simpa only [h1, h2, h3, h4, h5, h6, h7, false_or] using h
theorem sw_70a : (List.range 104).all (fun t => decide (t = 0 ∨ t = 41 ∨ t = 78 ∨ t = 45 ∨ t = 69 ∨ t = 13 ∨ t = 51 ∨ t = 11 ∨ t = 16 ∨ t = 70 ∨ t = 47 ∨ t = 46 ∨ t = 5 ∨ ((qr_sw.getD t 0).toInt < 20 ∨ 32 < (qr_sw.getD t 0).toInt))) = true := by decide +kernel
theorem sw_70 {t : Nat} (ht : t < 104) (h1 : ¬ t = 0) (h2 : ¬ t = 41) (h3 : ¬ t = 78) (h4 : ¬ t = 45) (h5 : ¬ t = 69) (h6 : ¬ t = 13) (h7 : ¬ t = 51) (h8 : ¬ t = 11) (h9 : ¬ t = 16) (h10 : ¬ t = 70) (h11 : ¬ t = 47) (h12 : ¬ t = 46) (h13 : ¬ t = 5) : (qr_sw.getD t 0).toInt < 20 ∨ 32 < (qr_sw.getD t 0).toInt := by
  have h := of_decide_eq_true (List.all_eq_true.mp sw_70a t (List.mem_range.mpr ht))
  simpa only [h1, h2, h3, h4, h5, h6, h7, h8, h9, h10, h11, h12, h13, false_or] using h
theorem sw_35a : (List.range 104).all (fun t => decide (t = 17 ∨ t = 23 ∨ t = 34 ∨ t = 77 ∨ t = 20 ∨ t = 65 ∨ t = 6 ∨ t = 14 ∨ t = 63 ∨ t = 64 ∨ t = 44 ∨ t = 57 ∨ ((qr_sw.getD t 0).toInt < 1 ∨ 12 < (qr_sw.getD t 0).toInt))) = true := by decide +kernel
theorem sw_35 {t : Nat} (ht : t < 104) (h1 : ¬ t = 17) (h2 : ¬ t = 23) (h3 : ¬ t = 34) (h4 : ¬ t = 77) (h5 : ¬ t = 20) (h6 : ¬ t = 65) (h7 : ¬ t = 6) (h8 : ¬ t = 14) (h9 : ¬ t = 63) (h10 : ¬ t = 64) (h11 : ¬ t = 44) (h12 : ¬ t = 57) : (qr_sw.getD t 0).toInt < 1 ∨ 12 < (qr_sw.getD t 0).toInt := by
  have h := of_decide_eq_true (List.all_eq_true.mp sw_35a t (List.mem_range.mpr ht))
  simpa only [h1, h2, h3, h4, h5, h6, h7, h8, h9, h10, h11, h12, false_or] using h
theorem qi_drop : qim L xs e Y bc bs (d + 2) 91 [.ref 4] 0 zdrop := by
  intro P s h v s' hc hf
  unfold zdrop at hf
  split at hf
  · cases hf
  · cases hf
    obtain ⟨pb, len, h0⟩ := hc
    obtain ⟨fm, fs, -, hrow, -⟩ := id h0
    obtain ⟨h1, g1, g2, g3⟩ := q_dropl (L := L) (xs := xs) (d := d) hrow (by omega)
    exact ⟨h1, g1, pb, len, qcs0_row h0 g3 g2⟩
/-- Grammar.comparison() -/
theorem q_cmp (ht : qtk e Y) (hsum : qim L xs e Y bc bs (d + 10) 59 [.ref 1] 1 (z_sum e pr)) (hsw : zkw (z_sum e pr)) (hex : qim L xs e Y bc bs d 55 [.ref 1] 1 ex) (hqy : qim L xs e Y bc bs d 62 [.ref 1] 0 qy) : qim L xs e Y bc bs (d + 11) 58 [.ref 1] 1 (z_cmp e pr ex qy) := by
  have hlt := qtk_lt ht
  have tailA : ∀ (P : zK) (s1 : zS) (h1 : ai_H) (st ma : Nat) (x4 : Value), qcs e Y bc bs P s1 h1 → zmk e s1.1 = 4 → qsm L xs e Y bc bs (d + 10) qm_58 46 [some (.ref 1), some (.int (nI st)), some (.int (nI ma)), some (.int 1), some x4] [] h1 1 P (z_test e pr ex qy st s1) := by
    intro P s1 h1 st ma x4 hc1 hm
    obtain ⟨fs1, b1⟩ := qcs_plain hc1
    simp only [z_test, zq, zi, zc, zv, zf, zbd_zbd, zbd_some, zbd_fault, zbd_none, zite0, zite1, ↓reduceIte, Nat.one_ne_zero]
    refine qsm_pls (n := 1) (k' := 47) (lo' := [some (.ref 1), some (.int (nI st)), some (.int (nI ma)), some (.int 1), some (x4)]) (S' := [.ref 1]) (h' := h1) rfl ?_
    refine qsm_getf (v := .ref 4) rfl (qcs_obj hc1) rfl rfl rfl ?_
    refine qsm_pls (n := 1) (k' := 49) (lo' := [some (.ref 1), some (.int (nI st)), some (.int (nI ma)), some (.int 1), some (x4)]) (S' := [.int (nI st), .ref 4]) (h' := h1) rfl ?_
    refine qsm_call hc1 (qim_up (qi_open (d := d)) (by omega)) rfl rfl rfl rfl rfl rfl rfl rfl (ai_rcv1 rfl rfl b1) (fun v2 s2 h2 f2 hc2 => ?_)
    show qsm L xs e Y bc bs _ qm_58 50 [some (.ref 1), some (.int (nI st)), some (.int (nI ma)), some (.int 1), some (x4)] [] h2 _ _ _
    have hm2 : zmk e s2.1 = 4 := by rw [(zopen_inv f2).2.2.2]; exact hm
    rw [if_pos hm2]
    simp only [zbd_zbd]
    refine qsm_pls (n := 1) (k' := 51) (lo' := [some (.ref 1), some (.int (nI st)), some (.int (nI ma)), some (.int 1), some (x4)]) (S' := [.int 1]) (h' := h2) rfl ?_
    refine qsm_if false rfl (rfl) rfl ?_
    try simp only [zq, zi, zc, zv, zf, zbd_zbd, zbd_some, zbd_fault, zbd_none, zite0, zite1, ↓reduceIte, Nat.one_ne_zero]
    refine qsm_pls (n := 2) (k' := 54) (lo' := [some (.ref 1), some (.int (nI st)), some (.int (nI ma)), some (.int 1), some (x4)]) (S' := [.ref 1, .ref 1]) (h' := h2) rfl ?_
    refine qsm_getf (v := .retAddr (ztk e s2.1)) rfl (qcs_obj hc2) rfl rfl rfl ?_
    first
      | refine qsm_call hc2 (qim_up (qi_copy (d := d) (k := (ztk e s2.1)) ht (hlt _)) (by omega)) rfl rfl rfl rfl rfl rfl rfl rfl (ai_rcv1 rfl rfl (qcs_obj hc2)) (fun v1 s1 h1 f1 hc1 => ?_)
      | refine qsm_callL hc2 (qim_up (qi_copy (d := d) (k := (ztk e s2.1)) ht (hlt _)) (by omega)) rfl rfl rfl rfl rfl rfl rfl rfl (ai_rcv1 rfl rfl (qcs_obj hc2)) (fun v1 s1 h1 f1 hc1 => ?_)
    show qsm L xs e Y bc bs _ qm_58 56 [some (.ref 1), some (.int (nI st)), some (.int (nI ma)), some (.int 1), some (x4)] [] h1 _ _ _
    try simp only [zq, zi, zc, zv, zf, zbd_zbd, zbd_some, zbd_fault, zbd_none, zite0, zite1, ↓reduceIte, Nat.one_ne_zero]
    have bd2 := qcs_bd hc1
    refine qsm_test hc1 (fun s2 q2 hc2 => ?_)
    have w2 : s2.2.2.2.1 = s1.2.2.2.1 + 1 := by rw [q2]
    show qsm L xs e Y bc bs _ qm_58 56 [some (.ref 1), some (.int (nI st)), some (.int (nI ma)), some (.int 1), some (x4)] [] h1 _ _ _
    try simp only [zq, zi, zc, zv, zf, zbd_zbd, zbd_some, zbd_fault, zbd_none, zite0, zite1, ↓reduceIte, Nat.one_ne_zero]
    refine qsm_pls (n := 1) (k' := 57) (lo' := [some (.ref 1), some (.int (nI st)), some (.int (nI ma)), some (.int 1), some (x4)]) (S' := [.ref 1]) (h' := h1) rfl ?_
    first
      | refine qsm_call hc2 (qim_up (hsum) (by omega)) rfl rfl rfl rfl rfl rfl rfl rfl (ai_rcv1 rfl rfl (qcs_obj hc2)) (fun v3 s3 h3 f3 hc3 => ?_)
      | refine qsm_callL hc2 (qim_up (hsum) (by omega)) rfl rfl rfl rfl rfl rfl rfl rfl (ai_rcv1 rfl rfl (qcs_obj hc2)) (fun v3 s3 h3 f3 hc3 => ?_)
    show qsm L xs e Y bc bs _ qm_58 58 [some (.ref 1), some (.int (nI st)), some (.int (nI ma)), some (.int 1), some (x4)] [.int (nI v3)] h3 _ _ _
    try simp only [zq, zi, zc, zv, zf, zbd_zbd, zbd_some, zbd_fault, zbd_none, zite0, zite1, ↓reduceIte, Nat.one_ne_zero]
    have w3 := hsw _ _ _ f3
    refine qsm_popw hc3 (by omega) (fun s4 hc4 => ?_)
    show qsm L xs e Y bc bs _ qm_58 58 [some (.ref 1), some (.int (nI st)), some (.int (nI ma)), some (.int 1), some (x4)] [.int (nI v3)] h3 _ _ _
    try simp only [zq, zi, zc, zv, zf, zbd_zbd, zbd_some, zbd_fault, zbd_none, zite0, zite1, ↓reduceIte, Nat.one_ne_zero]
    refine qsm_pls (n := 3) (k' := 104) (lo' := [some (.ref 1), some (.int (nI st)), some (.int (nI ma)), some (.int 1), some (x4)]) (S' := [.ref 1]) (h' := h3) rfl ?_
    refine qsm_getf (v := .ref 4) rfl (qcs_obj hc4) rfl rfl rfl ?_
    refine qsm_pls (n := 1) (k' := 106) (lo' := [some (.ref 1), some (.int (nI st)), some (.int (nI ma)), some (.int 1), some (x4)]) (S' := [.retAddr 1008, .ref 4]) (h' := h3) rfl ?_
    obtain ⟨fs5, b5⟩ := qcs_plain hc4
    first
      | refine qsm_call hc4 (qim_up (qi_put (d := d) (c := 1008) (by decide) (by decide)) (by omega)) rfl rfl rfl rfl rfl rfl rfl rfl (ai_rcv1 rfl rfl b5) (fun v5 s5 h5 f5 hc5 => ?_)
      | refine qsm_callL hc4 (qim_up (qi_put (d := d) (c := 1008) (by decide) (by decide)) (by omega)) rfl rfl rfl rfl rfl rfl rfl rfl (ai_rcv1 rfl rfl b5) (fun v5 s5 h5 f5 hc5 => ?_)
    show qsm L xs e Y bc bs _ qm_58 107 [some (.ref 1), some (.int (nI st)), some (.int (nI ma)), some (.int 1), some (x4)] [] h5 _ _ _
    try simp only [zq, zi, zc, zv, zf, zbd_zbd, zbd_some, zbd_fault, zbd_none, zite0, zite1, ↓reduceIte, Nat.one_ne_zero]
    refine qsm_pls (n := 1) (k' := 108) (lo' := [some (.ref 1), some (.int (nI st)), some (.int (nI ma)), some (.int 1), some (x4)]) (S' := [.int 4]) (h' := h5) rfl ?_
    exact qsm_ret5 (v := 4) hc5 rfl rfl rfl (by decide)
  have tailB : ∀ (P : zK) (s1 : zS) (h1 : ai_H) (st ma : Nat) (x4 : Value), qcs e Y bc bs P s1 h1 → ¬ zmk e s1.1 = 4 → qsm L xs e Y bc bs (d + 10) qm_58 46 [some (.ref 1), some (.int (nI st)), some (.int (nI ma)), some (.int 0), some x4] [] h1 1 P (z_test e pr ex qy st s1) := by
    intro P s1 h1 st ma x4 hc1 hm
    obtain ⟨fs1, b1⟩ := qcs_plain hc1
    simp only [z_test, zq, zi, zc, zv, zf, zbd_zbd, zbd_some, zbd_fault, zbd_none, zite0, zite1, ↓reduceIte, Nat.one_ne_zero]
    refine qsm_pls (n := 1) (k' := 47) (lo' := [some (.ref 1), some (.int (nI st)), some (.int (nI ma)), some (.int 0), some (x4)]) (S' := [.ref 1]) (h' := h1) rfl ?_
    refine qsm_getf (v := .ref 4) rfl (qcs_obj hc1) rfl rfl rfl ?_
    refine qsm_pls (n := 1) (k' := 49) (lo' := [some (.ref 1), some (.int (nI st)), some (.int (nI ma)), some (.int 0), some (x4)]) (S' := [.int (nI st), .ref 4]) (h' := h1) rfl ?_
    refine qsm_call hc1 (qim_up (qi_open (d := d)) (by omega)) rfl rfl rfl rfl rfl rfl rfl rfl (ai_rcv1 rfl rfl b1) (fun v2 s2 h2 f2 hc2 => ?_)
    show qsm L xs e Y bc bs _ qm_58 50 [some (.ref 1), some (.int (nI st)), some (.int (nI ma)), some (.int 0), some (x4)] [] h2 _ _ _
    have hm2 : ¬ zmk e s2.1 = 4 := by rw [(zopen_inv f2).2.2.2]; exact hm
    rw [if_neg hm2]
    simp only [zbd_zbd]
    refine qsm_pls (n := 1) (k' := 51) (lo' := [some (.ref 1), some (.int (nI st)), some (.int (nI ma)), some (.int 0), some (x4)]) (S' := [.int 0]) (h' := h2) rfl ?_
    refine qsm_if true rfl (rfl) rfl ?_
    try simp only [zq, zi, zc, zv, zf, zbd_zbd, zbd_some, zbd_fault, zbd_none, zite0, zite1, ↓reduceIte, Nat.one_ne_zero]
    refine qsm_pls (n := 2) (k' := 62) (lo' := [some (.ref 1), some (.int (nI st)), some (.int (nI ma)), some (.int 0), some (x4)]) (S' := [.retAddr 37, .ref 1]) (h' := h2) rfl ?_
    first
      | refine qsm_call hc2 (qim_up (qi_copyIf (d := d) (k := 37) ht (by decide)) (by omega)) rfl rfl rfl rfl rfl rfl rfl rfl (ai_rcv1 rfl rfl (qcs_obj hc2)) (fun v6 s6 h6 f6 hc6 => ?_)
      | refine qsm_callL hc2 (qim_up (qi_copyIf (d := d) (k := 37) ht (by decide)) (by omega)) rfl rfl rfl rfl rfl rfl rfl rfl (ai_rcv1 rfl rfl (qcs_obj hc2)) (fun v6 s6 h6 f6 hc6 => ?_)
    show qsm L xs e Y bc bs _ qm_58 63 [some (.ref 1), some (.int (nI st)), some (.int (nI ma)), some (.int 0), some (x4)] [.int (nI v6)] h6 _ _ _
    try simp only [zq, zi, zc, zv, zf, zbd_zbd, zbd_some, zbd_fault, zbd_none, zite0, zite1, ↓reduceIte, Nat.one_ne_zero]
    rcases zci_v f6 with ⟨e6, q6, n6⟩ | ⟨e6, n6⟩
    · subst e6
      show qsm L xs e Y bc bs _ qm_58 63 [some (.ref 1), some (.int (nI st)), some (.int (nI ma)), some (.int 0), some (x4)] [.int 0] h6 _ _ _
      try simp only [zq, zi, zc, zv, zf, zbd_zbd, zbd_some, zbd_fault, zbd_none, zite0, zite1, ↓reduceIte, Nat.one_ne_zero]
      refine qsm_if true rfl (rfl) rfl ?_
      refine qsm_pls (n := 2) (k' := 74) (lo' := [some (.ref 1), some (.int (nI st)), some (.int (nI ma)), some (.int 0), some (x4)]) (S' := [.retAddr 49, .ref 1]) (h' := h6) rfl ?_
      first
        | refine qsm_call hc6 (qim_up (qi_copyIf (d := d) (k := 49) ht (by decide)) (by omega)) rfl rfl rfl rfl rfl rfl rfl rfl (ai_rcv1 rfl rfl (qcs_obj hc6)) (fun v7 s7 h7 f7 hc7 => ?_)
        | refine qsm_callL hc6 (qim_up (qi_copyIf (d := d) (k := 49) ht (by decide)) (by omega)) rfl rfl rfl rfl rfl rfl rfl rfl (ai_rcv1 rfl rfl (qcs_obj hc6)) (fun v7 s7 h7 f7 hc7 => ?_)
      show qsm L xs e Y bc bs _ qm_58 75 [some (.ref 1), some (.int (nI st)), some (.int (nI ma)), some (.int 0), some (x4)] [.int (nI v7)] h7 _ _ _
      try simp only [zq, zi, zc, zv, zf, zbd_zbd, zbd_some, zbd_fault, zbd_none, zite0, zite1, ↓reduceIte, Nat.one_ne_zero]
      refine qsm_pls (n := 3) (k' := 78) (lo' := [some (.ref 1), some (.int (nI st)), some (.int (nI ma)), some (.int 0), some (x4)]) (S' := [.retAddr 31, .ref 1]) (h' := h7) rfl ?_
      first
        | refine qsm_call hc7 (qim_up (qi_copyIf (d := d) (k := 31) ht (by decide)) (by omega)) rfl rfl rfl rfl rfl rfl rfl rfl (ai_rcv1 rfl rfl (qcs_obj hc7)) (fun v8 s8 h8 f8 hc8 => ?_)
        | refine qsm_callL hc7 (qim_up (qi_copyIf (d := d) (k := 31) ht (by decide)) (by omega)) rfl rfl rfl rfl rfl rfl rfl rfl (ai_rcv1 rfl rfl (qcs_obj hc7)) (fun v8 s8 h8 f8 hc8 => ?_)
      show qsm L xs e Y bc bs _ qm_58 79 [some (.ref 1), some (.int (nI st)), some (.int (nI ma)), some (.int 0), some (x4)] [.int (nI v8)] h8 _ _ _
      try simp only [zq, zi, zc, zv, zf, zbd_zbd, zbd_some, zbd_fault, zbd_none, zite0, zite1, ↓reduceIte, Nat.one_ne_zero]
      rcases zci_v f8 with ⟨e8, q8, n8⟩ | ⟨e8, n8⟩
      · subst e8
        show qsm L xs e Y bc bs _ qm_58 79 [some (.ref 1), some (.int (nI st)), some (.int (nI ma)), some (.int 0), some (x4)] [.int 0] h8 _ _ _
        try simp only [zq, zi, zc, zv, zf, zbd_zbd, zbd_some, zbd_fault, zbd_none, zite0, zite1, ↓reduceIte, Nat.one_ne_zero]
        refine qsm_if true rfl (rfl) rfl ?_
        refine qsm_pls (n := 2) (k' := 85) (lo' := [some (.ref 1), some (.int (nI st)), some (.int (nI ma)), some (.int 0), some (x4)]) (S' := [.retAddr 7, .ref 1]) (h' := h8) rfl ?_
        first
          | refine qsm_call hc8 (qim_up (qi_copyIf (d := d) (k := 7) ht (by decide)) (by omega)) rfl rfl rfl rfl rfl rfl rfl rfl (ai_rcv1 rfl rfl (qcs_obj hc8)) (fun v9 s9 h9 f9 hc9 => ?_)
          | refine qsm_callL hc8 (qim_up (qi_copyIf (d := d) (k := 7) ht (by decide)) (by omega)) rfl rfl rfl rfl rfl rfl rfl rfl (ai_rcv1 rfl rfl (qcs_obj hc8)) (fun v9 s9 h9 f9 hc9 => ?_)
        show qsm L xs e Y bc bs _ qm_58 86 [some (.ref 1), some (.int (nI st)), some (.int (nI ma)), some (.int 0), some (x4)] [.int (nI v9)] h9 _ _ _
        try simp only [zq, zi, zc, zv, zf, zbd_zbd, zbd_some, zbd_fault, zbd_none, zite0, zite1, ↓reduceIte, Nat.one_ne_zero]
        rcases zci_v f9 with ⟨e9, q9, n9⟩ | ⟨e9, n9⟩
        · subst e9
          show qsm L xs e Y bc bs _ qm_58 86 [some (.ref 1), some (.int (nI st)), some (.int (nI ma)), some (.int 0), some (x4)] [.int 0] h9 _ _ _
          try simp only [zq, zi, zc, zv, zf, zbd_zbd, zbd_some, zbd_fault, zbd_none, zite0, zite1, ↓reduceIte, Nat.one_ne_zero]
          refine qsm_if true rfl (rfl) rfl ?_
          refine qsm_pls (n := 2) (k' := 99) (lo' := [some (.ref 1), some (.int (nI st)), some (.int (nI ma)), some (.int 0), some (x4)]) (S' := [.retAddr 42, .ref 1]) (h' := h9) rfl ?_
          first
            | refine qsm_call hc9 (qim_up (qi_copy (d := d) (k := 42) ht (by decide)) (by omega)) rfl rfl rfl rfl rfl rfl rfl rfl (ai_rcv1 rfl rfl (qcs_obj hc9)) (fun v10 s10 h10 f10 hc10 => ?_)
            | refine qsm_callL hc9 (qim_up (qi_copy (d := d) (k := 42) ht (by decide)) (by omega)) rfl rfl rfl rfl rfl rfl rfl rfl (ai_rcv1 rfl rfl (qcs_obj hc9)) (fun v10 s10 h10 f10 hc10 => ?_)
          show qsm L xs e Y bc bs _ qm_58 100 [some (.ref 1), some (.int (nI st)), some (.int (nI ma)), some (.int 0), some (x4)] [] h10 _ _ _
          try simp only [zq, zi, zc, zv, zf, zbd_zbd, zbd_some, zbd_fault, zbd_none, zite0, zite1, ↓reduceIte, Nat.one_ne_zero]
          have bd11 := qcs_bd hc10
          refine qsm_test hc10 (fun s11 q11 hc11 => ?_)
          have w11 : s11.2.2.2.1 = s10.2.2.2.1 + 1 := by rw [q11]
          show qsm L xs e Y bc bs _ qm_58 100 [some (.ref 1), some (.int (nI st)), some (.int (nI ma)), some (.int 0), some (x4)] [] h10 _ _ _
          try simp only [zq, zi, zc, zv, zf, zbd_zbd, zbd_some, zbd_fault, zbd_none, zite0, zite1, ↓reduceIte, Nat.one_ne_zero]
          refine qsm_pls (n := 1) (k' := 101) (lo' := [some (.ref 1), some (.int (nI st)), some (.int (nI ma)), some (.int 0), some (x4)]) (S' := [.ref 1]) (h' := h10) rfl ?_
          first
            | refine qsm_call hc11 (qim_up (hsum) (by omega)) rfl rfl rfl rfl rfl rfl rfl rfl (ai_rcv1 rfl rfl (qcs_obj hc11)) (fun v12 s12 h12 f12 hc12 => ?_)
            | refine qsm_callL hc11 (qim_up (hsum) (by omega)) rfl rfl rfl rfl rfl rfl rfl rfl (ai_rcv1 rfl rfl (qcs_obj hc11)) (fun v12 s12 h12 f12 hc12 => ?_)
          show qsm L xs e Y bc bs _ qm_58 102 [some (.ref 1), some (.int (nI st)), some (.int (nI ma)), some (.int 0), some (x4)] [.int (nI v12)] h12 _ _ _
          try simp only [zq, zi, zc, zv, zf, zbd_zbd, zbd_some, zbd_fault, zbd_none, zite0, zite1, ↓reduceIte, Nat.one_ne_zero]
          have w12 := hsw _ _ _ f12
          refine qsm_popw hc12 (by omega) (fun s13 hc13 => ?_)
          show qsm L xs e Y bc bs _ qm_58 102 [some (.ref 1), some (.int (nI st)), some (.int (nI ma)), some (.int 0), some (x4)] [.int (nI v12)] h12 _ _ _
          try simp only [zq, zi, zc, zv, zf, zbd_zbd, zbd_some, zbd_fault, zbd_none, zite0, zite1, ↓reduceIte, Nat.one_ne_zero]
          refine qsm_pls (n := 2) (k' := 104) (lo' := [some (.ref 1), some (.int (nI st)), some (.int (nI ma)), some (.int 0), some (x4)]) (S' := [.ref 1]) (h' := h12) rfl ?_
          refine qsm_getf (v := .ref 4) rfl (qcs_obj hc13) rfl rfl rfl ?_
          refine qsm_pls (n := 1) (k' := 106) (lo' := [some (.ref 1), some (.int (nI st)), some (.int (nI ma)), some (.int 0), some (x4)]) (S' := [.retAddr 1008, .ref 4]) (h' := h12) rfl ?_
          obtain ⟨fs14, b14⟩ := qcs_plain hc13
          first
            | refine qsm_call hc13 (qim_up (qi_put (d := d) (c := 1008) (by decide) (by decide)) (by omega)) rfl rfl rfl rfl rfl rfl rfl rfl (ai_rcv1 rfl rfl b14) (fun v14 s14 h14 f14 hc14 => ?_)
            | refine qsm_callL hc13 (qim_up (qi_put (d := d) (c := 1008) (by decide) (by decide)) (by omega)) rfl rfl rfl rfl rfl rfl rfl rfl (ai_rcv1 rfl rfl b14) (fun v14 s14 h14 f14 hc14 => ?_)
          show qsm L xs e Y bc bs _ qm_58 107 [some (.ref 1), some (.int (nI st)), some (.int (nI ma)), some (.int 0), some (x4)] [] h14 _ _ _
          try simp only [zq, zi, zc, zv, zf, zbd_zbd, zbd_some, zbd_fault, zbd_none, zite0, zite1, ↓reduceIte, Nat.one_ne_zero]
          refine qsm_pls (n := 1) (k' := 108) (lo' := [some (.ref 1), some (.int (nI st)), some (.int (nI ma)), some (.int 0), some (x4)]) (S' := [.int 4]) (h' := h14) rfl ?_
          exact qsm_ret5 (v := 4) hc14 rfl rfl rfl (by decide)
        · subst e9
          show qsm L xs e Y bc bs _ qm_58 86 [some (.ref 1), some (.int (nI st)), some (.int (nI ma)), some (.int 0), some (x4)] [.int 1] h9 _ _ _
          try simp only [zq, zi, zc, zv, zf, zbd_zbd, zbd_some, zbd_fault, zbd_none, zite0, zite1, ↓reduceIte, Nat.one_ne_zero]
          refine qsm_if false rfl (rfl) rfl ?_
          have bd15 := qcs_bd hc9
          refine qsm_test hc9 (fun s15 q15 hc15 => ?_)
          have w15 : s15.2.2.2.1 = s9.2.2.2.1 + 1 := by rw [q15]
          show qsm L xs e Y bc bs _ qm_58 87 [some (.ref 1), some (.int (nI st)), some (.int (nI ma)), some (.int 0), some (x4)] [] h9 _ _ _
          try simp only [zq, zi, zc, zv, zf, zbd_zbd, zbd_some, zbd_fault, zbd_none, zite0, zite1, ↓reduceIte, Nat.one_ne_zero]
          refine qsm_pls (n := 1) (k' := 88) (lo' := [some (.ref 1), some (.int (nI st)), some (.int (nI ma)), some (.int 0), some (x4)]) (S' := [.ref 1]) (h' := h9) rfl ?_
          first
            | refine qsm_call hc15 (qim_up (hsum) (by omega)) rfl rfl rfl rfl rfl rfl rfl rfl (ai_rcv1 rfl rfl (qcs_obj hc15)) (fun v16 s16 h16 f16 hc16 => ?_)
            | refine qsm_callL hc15 (qim_up (hsum) (by omega)) rfl rfl rfl rfl rfl rfl rfl rfl (ai_rcv1 rfl rfl (qcs_obj hc15)) (fun v16 s16 h16 f16 hc16 => ?_)
          show qsm L xs e Y bc bs _ qm_58 89 [some (.ref 1), some (.int (nI st)), some (.int (nI ma)), some (.int 0), some (x4)] [.int (nI v16)] h16 _ _ _
          try simp only [zq, zi, zc, zv, zf, zbd_zbd, zbd_some, zbd_fault, zbd_none, zite0, zite1, ↓reduceIte, Nat.one_ne_zero]
          refine qsm_pls (n := 3) (k' := 92) (lo' := [some (.ref 1), some (.int (nI st)), some (.int (nI ma)), some (.int 0), some (x4)]) (S' := [.retAddr 2, .ref 1]) (h' := h16) rfl ?_
          first
            | refine qsm_call hc16 (qim_up (qi_copy (d := d) (k := 2) ht (by decide)) (by omega)) rfl rfl rfl rfl rfl rfl rfl rfl (ai_rcv1 rfl rfl (qcs_obj hc16)) (fun v17 s17 h17 f17 hc17 => ?_)
            | refine qsm_callL hc16 (qim_up (qi_copy (d := d) (k := 2) ht (by decide)) (by omega)) rfl rfl rfl rfl rfl rfl rfl rfl (ai_rcv1 rfl rfl (qcs_obj hc16)) (fun v17 s17 h17 f17 hc17 => ?_)
          show qsm L xs e Y bc bs _ qm_58 93 [some (.ref 1), some (.int (nI st)), some (.int (nI ma)), some (.int 0), some (x4)] [] h17 _ _ _
          try simp only [zq, zi, zc, zv, zf, zbd_zbd, zbd_some, zbd_fault, zbd_none, zite0, zite1, ↓reduceIte, Nat.one_ne_zero]
          refine qsm_pls (n := 1) (k' := 94) (lo' := [some (.ref 1), some (.int (nI st)), some (.int (nI ma)), some (.int 0), some (x4)]) (S' := [.ref 1]) (h' := h17) rfl ?_
          first
            | refine qsm_call hc17 (qim_up (hsum) (by omega)) rfl rfl rfl rfl rfl rfl rfl rfl (ai_rcv1 rfl rfl (qcs_obj hc17)) (fun v18 s18 h18 f18 hc18 => ?_)
            | refine qsm_callL hc17 (qim_up (hsum) (by omega)) rfl rfl rfl rfl rfl rfl rfl rfl (ai_rcv1 rfl rfl (qcs_obj hc17)) (fun v18 s18 h18 f18 hc18 => ?_)
          show qsm L xs e Y bc bs _ qm_58 95 [some (.ref 1), some (.int (nI st)), some (.int (nI ma)), some (.int 0), some (x4)] [.int (nI v18)] h18 _ _ _
          try simp only [zq, zi, zc, zv, zf, zbd_zbd, zbd_some, zbd_fault, zbd_none, zite0, zite1, ↓reduceIte, Nat.one_ne_zero]
          have w16 := hsw _ _ _ f16
          have w17 := zcp_w f17
          have w18 := hsw _ _ _ f18
          refine qsm_popw hc18 (by omega) (fun s19 hc19 => ?_)
          show qsm L xs e Y bc bs _ qm_58 95 [some (.ref 1), some (.int (nI st)), some (.int (nI ma)), some (.int 0), some (x4)] [.int (nI v18)] h18 _ _ _
          try simp only [zq, zi, zc, zv, zf, zbd_zbd, zbd_some, zbd_fault, zbd_none, zite0, zite1, ↓reduceIte, Nat.one_ne_zero]
          refine qsm_pls (n := 3) (k' := 104) (lo' := [some (.ref 1), some (.int (nI st)), some (.int (nI ma)), some (.int 0), some (x4)]) (S' := [.ref 1]) (h' := h18) rfl ?_
          refine qsm_getf (v := .ref 4) rfl (qcs_obj hc19) rfl rfl rfl ?_
          refine qsm_pls (n := 1) (k' := 106) (lo' := [some (.ref 1), some (.int (nI st)), some (.int (nI ma)), some (.int 0), some (x4)]) (S' := [.retAddr 1008, .ref 4]) (h' := h18) rfl ?_
          obtain ⟨fs20, b20⟩ := qcs_plain hc19
          first
            | refine qsm_call hc19 (qim_up (qi_put (d := d) (c := 1008) (by decide) (by decide)) (by omega)) rfl rfl rfl rfl rfl rfl rfl rfl (ai_rcv1 rfl rfl b20) (fun v20 s20 h20 f20 hc20 => ?_)
            | refine qsm_callL hc19 (qim_up (qi_put (d := d) (c := 1008) (by decide) (by decide)) (by omega)) rfl rfl rfl rfl rfl rfl rfl rfl (ai_rcv1 rfl rfl b20) (fun v20 s20 h20 f20 hc20 => ?_)
          show qsm L xs e Y bc bs _ qm_58 107 [some (.ref 1), some (.int (nI st)), some (.int (nI ma)), some (.int 0), some (x4)] [] h20 _ _ _
          try simp only [zq, zi, zc, zv, zf, zbd_zbd, zbd_some, zbd_fault, zbd_none, zite0, zite1, ↓reduceIte, Nat.one_ne_zero]
          refine qsm_pls (n := 1) (k' := 108) (lo' := [some (.ref 1), some (.int (nI st)), some (.int (nI ma)), some (.int 0), some (x4)]) (S' := [.int 4]) (h' := h20) rfl ?_
          exact qsm_ret5 (v := 4) hc20 rfl rfl rfl (by decide)
      · subst e8
        show qsm L xs e Y bc bs _ qm_58 79 [some (.ref 1), some (.int (nI st)), some (.int (nI ma)), some (.int 0), some (x4)] [.int 1] h8 _ _ _
        try simp only [zq, zi, zc, zv, zf, zbd_zbd, zbd_some, zbd_fault, zbd_none, zite0, zite1, ↓reduceIte, Nat.one_ne_zero]
        refine qsm_if false rfl (rfl) rfl ?_
        refine qsm_pls (n := 1) (k' := 81) (lo' := [some (.ref 1), some (.int (nI st)), some (.int (nI ma)), some (.int 0), some (x4)]) (S' := [.ref 1]) (h' := h8) rfl ?_
        first
          | refine qsm_call hc8 (qim_up (qs_members (d := d) ht hex hqy) (by omega)) rfl rfl rfl rfl rfl rfl rfl rfl (ai_rcv1 rfl rfl (qcs_obj hc8)) (fun v21 s21 h21 f21 hc21 => ?_)
          | refine qsm_callL hc8 (qim_up (qs_members (d := d) ht hex hqy) (by omega)) rfl rfl rfl rfl rfl rfl rfl rfl (ai_rcv1 rfl rfl (qcs_obj hc8)) (fun v21 s21 h21 f21 hc21 => ?_)
        show qsm L xs e Y bc bs _ qm_58 82 [some (.ref 1), some (.int (nI st)), some (.int (nI ma)), some (.int 0), some (x4)] [] h21 _ _ _
        try simp only [zq, zi, zc, zv, zf, zbd_zbd, zbd_some, zbd_fault, zbd_none, zite0, zite1, ↓reduceIte, Nat.one_ne_zero]
        refine qsm_pls (n := 2) (k' := 104) (lo' := [some (.ref 1), some (.int (nI st)), some (.int (nI ma)), some (.int 0), some (x4)]) (S' := [.ref 1]) (h' := h21) rfl ?_
        refine qsm_getf (v := .ref 4) rfl (qcs_obj hc21) rfl rfl rfl ?_
        refine qsm_pls (n := 1) (k' := 106) (lo' := [some (.ref 1), some (.int (nI st)), some (.int (nI ma)), some (.int 0), some (x4)]) (S' := [.retAddr 1008, .ref 4]) (h' := h21) rfl ?_
        obtain ⟨fs22, b22⟩ := qcs_plain hc21
        first
          | refine qsm_call hc21 (qim_up (qi_put (d := d) (c := 1008) (by decide) (by decide)) (by omega)) rfl rfl rfl rfl rfl rfl rfl rfl (ai_rcv1 rfl rfl b22) (fun v22 s22 h22 f22 hc22 => ?_)
          | refine qsm_callL hc21 (qim_up (qi_put (d := d) (c := 1008) (by decide) (by decide)) (by omega)) rfl rfl rfl rfl rfl rfl rfl rfl (ai_rcv1 rfl rfl b22) (fun v22 s22 h22 f22 hc22 => ?_)
        show qsm L xs e Y bc bs _ qm_58 107 [some (.ref 1), some (.int (nI st)), some (.int (nI ma)), some (.int 0), some (x4)] [] h22 _ _ _
        try simp only [zq, zi, zc, zv, zf, zbd_zbd, zbd_some, zbd_fault, zbd_none, zite0, zite1, ↓reduceIte, Nat.one_ne_zero]
        refine qsm_pls (n := 1) (k' := 108) (lo' := [some (.ref 1), some (.int (nI st)), some (.int (nI ma)), some (.int 0), some (x4)]) (S' := [.int 4]) (h' := h22) rfl ?_
        exact qsm_ret5 (v := 4) hc22 rfl rfl rfl (by decide)
    · subst e6
      show qsm L xs e Y bc bs _ qm_58 63 [some (.ref 1), some (.int (nI st)), some (.int (nI ma)), some (.int 0), some (x4)] [.int 1] h6 _ _ _
      try simp only [zq, zi, zc, zv, zf, zbd_zbd, zbd_some, zbd_fault, zbd_none, zite0, zite1, ↓reduceIte, Nat.one_ne_zero]
      refine qsm_if false rfl (rfl) rfl ?_
      refine qsm_pls (n := 2) (k' := 66) (lo' := [some (.ref 1), some (.int (nI st)), some (.int (nI ma)), some (.int 0), some (x4)]) (S' := [.retAddr 49, .ref 1]) (h' := h6) rfl ?_
      first
        | refine qsm_call hc6 (qim_up (qi_copyIf (d := d) (k := 49) ht (by decide)) (by omega)) rfl rfl rfl rfl rfl rfl rfl rfl (ai_rcv1 rfl rfl (qcs_obj hc6)) (fun v23 s23 h23 f23 hc23 => ?_)
        | refine qsm_callL hc6 (qim_up (qi_copyIf (d := d) (k := 49) ht (by decide)) (by omega)) rfl rfl rfl rfl rfl rfl rfl rfl (ai_rcv1 rfl rfl (qcs_obj hc6)) (fun v23 s23 h23 f23 hc23 => ?_)
      show qsm L xs e Y bc bs _ qm_58 67 [some (.ref 1), some (.int (nI st)), some (.int (nI ma)), some (.int 0), some (x4)] [.int (nI v23)] h23 _ _ _
      try simp only [zq, zi, zc, zv, zf, zbd_zbd, zbd_some, zbd_fault, zbd_none, zite0, zite1, ↓reduceIte, Nat.one_ne_zero]
      refine qsm_pls (n := 3) (k' := 70) (lo' := [some (.ref 1), some (.int (nI st)), some (.int (nI ma)), some (.int 0), some (x4)]) (S' := [.retAddr 50, .ref 1]) (h' := h23) rfl ?_
      first
        | refine qsm_call hc23 (qim_up (qi_copy (d := d) (k := 50) ht (by decide)) (by omega)) rfl rfl rfl rfl rfl rfl rfl rfl (ai_rcv1 rfl rfl (qcs_obj hc23)) (fun v24 s24 h24 f24 hc24 => ?_)
        | refine qsm_callL hc23 (qim_up (qi_copy (d := d) (k := 50) ht (by decide)) (by omega)) rfl rfl rfl rfl rfl rfl rfl rfl (ai_rcv1 rfl rfl (qcs_obj hc23)) (fun v24 s24 h24 f24 hc24 => ?_)
      show qsm L xs e Y bc bs _ qm_58 71 [some (.ref 1), some (.int (nI st)), some (.int (nI ma)), some (.int 0), some (x4)] [] h24 _ _ _
      try simp only [zq, zi, zc, zv, zf, zbd_zbd, zbd_some, zbd_fault, zbd_none, zite0, zite1, ↓reduceIte, Nat.one_ne_zero]
      refine qsm_pls (n := 2) (k' := 104) (lo' := [some (.ref 1), some (.int (nI st)), some (.int (nI ma)), some (.int 0), some (x4)]) (S' := [.ref 1]) (h' := h24) rfl ?_
      refine qsm_getf (v := .ref 4) rfl (qcs_obj hc24) rfl rfl rfl ?_
      refine qsm_pls (n := 1) (k' := 106) (lo' := [some (.ref 1), some (.int (nI st)), some (.int (nI ma)), some (.int 0), some (x4)]) (S' := [.retAddr 1008, .ref 4]) (h' := h24) rfl ?_
      obtain ⟨fs25, b25⟩ := qcs_plain hc24
      first
        | refine qsm_call hc24 (qim_up (qi_put (d := d) (c := 1008) (by decide) (by decide)) (by omega)) rfl rfl rfl rfl rfl rfl rfl rfl (ai_rcv1 rfl rfl b25) (fun v25 s25 h25 f25 hc25 => ?_)
        | refine qsm_callL hc24 (qim_up (qi_put (d := d) (c := 1008) (by decide) (by decide)) (by omega)) rfl rfl rfl rfl rfl rfl rfl rfl (ai_rcv1 rfl rfl b25) (fun v25 s25 h25 f25 hc25 => ?_)
      show qsm L xs e Y bc bs _ qm_58 107 [some (.ref 1), some (.int (nI st)), some (.int (nI ma)), some (.int 0), some (x4)] [] h25 _ _ _
      try simp only [zq, zi, zc, zv, zf, zbd_zbd, zbd_some, zbd_fault, zbd_none, zite0, zite1, ↓reduceIte, Nat.one_ne_zero]
      refine qsm_pls (n := 1) (k' := 108) (lo' := [some (.ref 1), some (.int (nI st)), some (.int (nI ma)), some (.int 0), some (x4)]) (S' := [.int 4]) (h' := h25) rfl ?_
      exact qsm_ret5 (v := 4) hc25 rfl rfl rfl (by decide)
  refine qim_of (M := qm_58) rfl rfl (fun P s h hc => ?_)
  show qsm L xs e Y bc bs _ qm_58 0 [some (.ref 1), none, none, none, none] [] h _ _ _
  obtain ⟨fs0, b0⟩ := qcs_plain hc
  refine qsm_pls (n := 1) (k' := 1) (lo' := [some (.ref 1), none, none, none, none]) (S' := [.ref 1]) (h' := h) rfl ?_
  refine qsm_getf (v := .ref 4) rfl (qcs_obj hc) rfl rfl rfl ?_
  refine qsm_ask (qe_up (by omega) (q_psize (d := d) hc)) rfl rfl rfl rfl rfl rfl rfl (ai_rcv1 rfl rfl b0) ?_
  show qsm L xs e Y bc bs _ qm_58 3 [some (.ref 1), none, none, none, none] [.int (nI s.2.2.2.2.length)] h _ _ _
  refine qsm_pls (n := 2) (k' := 5) (lo' := [some (.ref 1), some (.int (nI s.2.2.2.2.length)), none, none, none]) (S' := [.ref 1]) (h' := h) rfl ?_
  unfold z_cmp
  refine qsm_call hc (hsum) rfl rfl rfl rfl rfl rfl rfl rfl (ai_rcv1 rfl rfl (qcs_obj hc)) (fun v1 s1 h1 f1 hc1 => ?_)
  show qsm L xs e Y bc bs _ qm_58 6 [some (.ref 1), some (.int (nI s.2.2.2.2.length)), none, none, none] [.int (nI v1)] h1 _ _ _
  have hob := q_mkob (L := L) (xs := xs) (h := h1) hlt s1.1
  have hmk := zmk_le hlt s1.1
  refine qsm_pls (n := 2) (k' := 8) (lo' := [some (.ref 1), some (.int (nI s.2.2.2.2.length)), some (.int (nI v1)), none, none]) (S' := [.ref 1]) (h' := h1) rfl ?_
  refine qsm_getf (v := .retAddr (ztk e s1.1)) rfl (qcs_obj hc1) rfl rfl rfl ?_
  refine qsm_getf (v := .int (nI (zmk e s1.1))) rfl hob rfl rfl rfl ?_
  refine qsm_pls (n := 1) (k' := 11) (lo' := [some (.ref 1), some (.int (nI s.2.2.2.2.length)), some (.int (nI v1)), none, none]) (S' := [.int 4, .int (nI (zmk e s1.1))]) (h' := h1) rfl ?_
  by_cases hm : zmk e s1.1 = 4
  · rw [if_pos (Or.inl hm)]
    have n49 : ¬ ztk e s1.1 = 49 := fun t => by rw [zmk, t] at hm; exact absurd hm (by decide)
    have n31 : ¬ ztk e s1.1 = 31 := fun t => by rw [zmk, t] at hm; exact absurd hm (by decide)
    have n7 : ¬ ztk e s1.1 = 7 := fun t => by rw [zmk, t] at hm; exact absurd hm (by decide)
    have n42 : ¬ ztk e s1.1 = 42 := fun t => by rw [zmk, t] at hm; exact absurd hm (by decide)
    refine qsm_icmp false rfl (qc_neF (b := 4) hm) rfl ?_
    refine qsm_pls (n := 4) (k' := 17) (lo' := [some (.ref 1), some (.int (nI s.2.2.2.2.length)), some (.int (nI v1)), some (.int 1), none]) (S' := [.ref 1]) (h' := h1) rfl ?_
    refine qsm_getf (v := .retAddr (ztk e s1.1)) rfl (qcs_obj hc1) rfl rfl rfl ?_
    refine qsm_pls (n := 1) (k' := 19) (lo' := [some (.ref 1), some (.int (nI s.2.2.2.2.length)), some (.int (nI v1)), some (.int 1), none]) (S' := [.retAddr 49, .retAddr (ztk e s1.1)]) (h' := h1) rfl ?_
    refine qsm_acmp false rfl (qzk (hlt _) (by decide)) (qa_eqF n49) rfl ?_
    refine qsm_pls (n := 1) (k' := 21) (lo' := [some (.ref 1), some (.int (nI s.2.2.2.2.length)), some (.int (nI v1)), some (.int 1), none]) (S' := [.ref 1]) (h' := h1) rfl ?_
    refine qsm_getf (v := .retAddr (ztk e s1.1)) rfl (qcs_obj hc1) rfl rfl rfl ?_
    refine qsm_pls (n := 1) (k' := 23) (lo' := [some (.ref 1), some (.int (nI s.2.2.2.2.length)), some (.int (nI v1)), some (.int 1), none]) (S' := [.retAddr 31, .retAddr (ztk e s1.1)]) (h' := h1) rfl ?_
    refine qsm_acmp false rfl (qzk (hlt _) (by decide)) (qa_eqF n31) rfl ?_
    refine qsm_pls (n := 1) (k' := 25) (lo' := [some (.ref 1), some (.int (nI s.2.2.2.2.length)), some (.int (nI v1)), some (.int 1), none]) (S' := [.ref 1]) (h' := h1) rfl ?_
    refine qsm_getf (v := .retAddr (ztk e s1.1)) rfl (qcs_obj hc1) rfl rfl rfl ?_
    refine qsm_pls (n := 1) (k' := 27) (lo' := [some (.ref 1), some (.int (nI s.2.2.2.2.length)), some (.int (nI v1)), some (.int 1), none]) (S' := [.retAddr 7, .retAddr (ztk e s1.1)]) (h' := h1) rfl ?_
    refine qsm_acmp false rfl (qzk (hlt _) (by decide)) (qa_eqF n7) rfl ?_
    refine qsm_pls (n := 1) (k' := 29) (lo' := [some (.ref 1), some (.int (nI s.2.2.2.2.length)), some (.int (nI v1)), some (.int 1), none]) (S' := [.ref 1]) (h' := h1) rfl ?_
    refine qsm_getf (v := .retAddr (ztk e s1.1)) rfl (qcs_obj hc1) rfl rfl rfl ?_
    refine qsm_pls (n := 1) (k' := 31) (lo' := [some (.ref 1), some (.int (nI s.2.2.2.2.length)), some (.int (nI v1)), some (.int 1), none]) (S' := [.retAddr 42, .retAddr (ztk e s1.1)]) (h' := h1) rfl ?_
    refine qsm_acmp true rfl (qzk (hlt _) (by decide)) (qa_neT n42) rfl ?_
    refine qsm_pls (n := 3) (k' := 37) (lo' := [some (.ref 1), some (.int (nI s.2.2.2.2.length)), some (.int (nI v1)), some (.int 1), some (.int 0)]) (S' := [.int 1]) (h' := h1) rfl ?_
    refine qsm_if true rfl (rfl) rfl ?_
    exact tailA P s1 h1 _ _ _ hc1 hm
  · skip
    refine qsm_icmp true rfl (qc_neT (b := 4) hm (by omega) (by decide)) rfl ?_
    refine qsm_pls (n := 3) (k' := 17) (lo' := [some (.ref 1), some (.int (nI s.2.2.2.2.length)), some (.int (nI v1)), some (.int 0), none]) (S' := [.ref 1]) (h' := h1) rfl ?_
    refine qsm_getf (v := .retAddr (ztk e s1.1)) rfl (qcs_obj hc1) rfl rfl rfl ?_
    refine qsm_pls (n := 1) (k' := 19) (lo' := [some (.ref 1), some (.int (nI s.2.2.2.2.length)), some (.int (nI v1)), some (.int 0), none]) (S' := [.retAddr 49, .retAddr (ztk e s1.1)]) (h' := h1) rfl ?_
    by_cases t49 : ztk e s1.1 = 49
    · rw [if_pos (Or.inr (Or.inr (Or.inl t49)))]
      refine qsm_acmp true rfl (qzk (hlt _) (by decide)) (qa_eqT t49) rfl ?_
      refine qsm_pls (n := 4) (k' := 37) (lo' := [some (.ref 1), some (.int (nI s.2.2.2.2.length)), some (.int (nI v1)), some (.int 0), some (.int 1)]) (S' := [.int 0]) (h' := h1) rfl ?_
      refine qsm_if false rfl (rfl) rfl ?_
      refine qsm_pls (n := 1) (k' := 39) (lo' := [some (.ref 1), some (.int (nI s.2.2.2.2.length)), some (.int (nI v1)), some (.int 0), some (.int 1)]) (S' := [.int 1]) (h' := h1) rfl ?_
      refine qsm_if true rfl (rfl) rfl ?_
      exact tailB P s1 h1 _ _ _ hc1 hm
    refine qsm_acmp false rfl (qzk (hlt _) (by decide)) (qa_eqF t49) rfl ?_
    refine qsm_pls (n := 1) (k' := 21) (lo' := [some (.ref 1), some (.int (nI s.2.2.2.2.length)), some (.int (nI v1)), some (.int 0), none]) (S' := [.ref 1]) (h' := h1) rfl ?_
    refine qsm_getf (v := .retAddr (ztk e s1.1)) rfl (qcs_obj hc1) rfl rfl rfl ?_
    refine qsm_pls (n := 1) (k' := 23) (lo' := [some (.ref 1), some (.int (nI s.2.2.2.2.length)), some (.int (nI v1)), some (.int 0), none]) (S' := [.retAddr 31, .retAddr (ztk e s1.1)]) (h' := h1) rfl ?_
    by_cases t31 : ztk e s1.1 = 31
    · rw [if_pos (Or.inr (Or.inr (Or.inr (Or.inl t31))))]
      refine qsm_acmp true rfl (qzk (hlt _) (by decide)) (qa_eqT t31) rfl ?_
      refine qsm_pls (n := 4) (k' := 37) (lo' := [some (.ref 1), some (.int (nI s.2.2.2.2.length)), some (.int (nI v1)), some (.int 0), some (.int 1)]) (S' := [.int 0]) (h' := h1) rfl ?_
      refine qsm_if false rfl (rfl) rfl ?_
      refine qsm_pls (n := 1) (k' := 39) (lo' := [some (.ref 1), some (.int (nI s.2.2.2.2.length)), some (.int (nI v1)), some (.int 0), some (.int 1)]) (S' := [.int 1]) (h' := h1) rfl ?_
      refine qsm_if true rfl (rfl) rfl ?_
      exact tailB P s1 h1 _ _ _ hc1 hm
    refine qsm_acmp false rfl (qzk (hlt _) (by decide)) (qa_eqF t31) rfl ?_
    refine qsm_pls (n := 1) (k' := 25) (lo' := [some (.ref 1), some (.int (nI s.2.2.2.2.length)), some (.int (nI v1)), some (.int 0), none]) (S' := [.ref 1]) (h' := h1) rfl ?_
    refine qsm_getf (v := .retAddr (ztk e s1.1)) rfl (qcs_obj hc1) rfl rfl rfl ?_
    refine qsm_pls (n := 1) (k' := 27) (lo' := [some (.ref 1), some (.int (nI s.2.2.2.2.length)), some (.int (nI v1)), some (.int 0), none]) (S' := [.retAddr 7, .retAddr (ztk e s1.1)]) (h' := h1) rfl ?_
    by_cases t7 : ztk e s1.1 = 7
    · rw [if_pos (Or.inr (Or.inr (Or.inr (Or.inr (Or.inl t7)))))]
      refine qsm_acmp true rfl (qzk (hlt _) (by decide)) (qa_eqT t7) rfl ?_
      refine qsm_pls (n := 4) (k' := 37) (lo' := [some (.ref 1), some (.int (nI s.2.2.2.2.length)), some (.int (nI v1)), some (.int 0), some (.int 1)]) (S' := [.int 0]) (h' := h1) rfl ?_
      refine qsm_if false rfl (rfl) rfl ?_
      refine qsm_pls (n := 1) (k' := 39) (lo' := [some (.ref 1), some (.int (nI s.2.2.2.2.length)), some (.int (nI v1)), some (.int 0), some (.int 1)]) (S' := [.int 1]) (h' := h1) rfl ?_
      refine qsm_if true rfl (rfl) rfl ?_
      exact tailB P s1 h1 _ _ _ hc1 hm
    refine qsm_acmp false rfl (qzk (hlt _) (by decide)) (qa_eqF t7) rfl ?_
    refine qsm_pls (n := 1) (k' := 29) (lo' := [some (.ref 1), some (.int (nI s.2.2.2.2.length)), some (.int (nI v1)), some (.int 0), none]) (S' := [.ref 1]) (h' := h1) rfl ?_
    refine qsm_getf (v := .retAddr (ztk e s1.1)) rfl (qcs_obj hc1) rfl rfl rfl ?_
    refine qsm_pls (n := 1) (k' := 31) (lo' := [some (.ref 1), some (.int (nI s.2.2.2.2.length)), some (.int (nI v1)), some (.int 0), none]) (S' := [.retAddr 42, .retAddr (ztk e s1.1)]) (h' := h1) rfl ?_
    by_cases t42 : ztk e s1.1 = 42
    · rw [if_pos (Or.inr (Or.inr (Or.inr (Or.inr (Or.inr t42)))))]
      refine qsm_acmp false rfl (qzk (hlt _) (by decide)) (qa_neF t42) rfl ?_
      refine qsm_pls (n := 4) (k' := 37) (lo' := [some (.ref 1), some (.int (nI s.2.2.2.2.length)), some (.int (nI v1)), some (.int 0), some (.int 1)]) (S' := [.int 0]) (h' := h1) rfl ?_
      refine qsm_if false rfl (rfl) rfl ?_
      refine qsm_pls (n := 1) (k' := 39) (lo' := [some (.ref 1), some (.int (nI s.2.2.2.2.length)), some (.int (nI v1)), some (.int 0), some (.int 1)]) (S' := [.int 1]) (h' := h1) rfl ?_
      refine qsm_if true rfl (rfl) rfl ?_
      exact tailB P s1 h1 _ _ _ hc1 hm
    refine qsm_acmp true rfl (qzk (hlt _) (by decide)) (qa_neT t42) rfl ?_
    refine qsm_pls (n := 3) (k' := 37) (lo' := [some (.ref 1), some (.int (nI s.2.2.2.2.length)), some (.int (nI v1)), some (.int 0), some (.int 0)]) (S' := [.int 0]) (h' := h1) rfl ?_
    refine qsm_if false rfl (rfl) rfl ?_
    refine qsm_pls (n := 1) (k' := 39) (lo' := [some (.ref 1), some (.int (nI s.2.2.2.2.length)), some (.int (nI v1)), some (.int 0), some (.int 0)]) (S' := [.int 0]) (h' := h1) rfl ?_
    refine qsm_if false rfl (rfl) rfl ?_
    refine qsm_pls (n := 1) (k' := 41) (lo' := [some (.ref 1), some (.int (nI s.2.2.2.2.length)), some (.int (nI v1)), some (.int 0), some (.int 0)]) (S' := [.ref 1]) (h' := h1) rfl ?_
    refine qsm_getf (v := .retAddr (ztk e s1.1)) rfl (qcs_obj hc1) rfl rfl rfl ?_
    refine qsm_pls (n := 1) (k' := 43) (lo' := [some (.ref 1), some (.int (nI s.2.2.2.2.length)), some (.int (nI v1)), some (.int 0), some (.int 0)]) (S' := [.retAddr 37, .retAddr (ztk e s1.1)]) (h' := h1) rfl ?_
    by_cases t37 : ztk e s1.1 = 37
    · rw [if_pos (Or.inr (Or.inl t37))]
      refine qsm_acmp true rfl (qzk (hlt _) (by decide)) (qa_eqT t37) rfl ?_
      exact tailB P s1 h1 _ _ _ hc1 hm
    rw [if_neg (by simp only [hm, t37, t49, t31, t7, t42, or_self, not_false_eq_true])]
    refine qsm_acmp false rfl (qzk (hlt _) (by decide)) (qa_eqF t37) rfl ?_
    refine qsm_pls (n := 1) (k' := 45) (lo' := [some (.ref 1), some (.int (nI s.2.2.2.2.length)), some (.int (nI v1)), some (.int 0), some (.int 0)]) (S' := [.int (nI v1)]) (h' := h1) rfl ?_
    exact qsm_ret5 (v := v1) hc1 rfl rfl rfl (by decide)
/-- Grammar.arguments(1, 1) -/
theorem qs_args11 (ht : qtk e Y) (hex : qim L xs e Y bc bs d 55 [.ref 1] 1 ex) : qim L xs e Y bc bs (d + 7) 71 [.ref 1, .int 1, .int 1] 0 (z_args e ex) := by
  have hlt := qtk_lt ht
  refine qim_of (M := qm_71) rfl rfl (fun P s h hc => ?_)
  show qsm L xs e Y bc bs _ qm_71 0 [some (.ref 1), some (.int 1), some (.int 1), none, none] [] h _ _ _
  simp only [z_args, zq, zi, zc, zv, zf, zbd_zbd, zbd_some, zbd_fault, zbd_none, zite0, zite1, ↓reduceIte, Nat.one_ne_zero]
  try simp only [zq, zi, zc, zv, zf, zbd_zbd, zbd_some, zbd_fault, zbd_none, zite0, zite1, ↓reduceIte, Nat.one_ne_zero]
  refine qsm_pls (n := 4) (k' := 4) (lo' := [some (.ref 1), some (.int 1), some (.int 1), some (.int 1), none]) (S' := [.ref 1, .ref 1]) (h' := h) rfl ?_
  refine qsm_getf (v := .retAddr (ztk e s.1)) rfl (qcs_obj hc) rfl rfl rfl ?_
  first
    | refine qsm_call hc (qim_up (qi_copy (d := d) (k := (ztk e s.1)) ht (hlt _)) (by omega)) rfl rfl rfl rfl rfl rfl rfl rfl (ai_rcv1 rfl rfl (qcs_obj hc)) (fun v26 s26 h26 f26 hc26 => ?_)
    | refine qsm_callL hc (qim_up (qi_copy (d := d) (k := (ztk e s.1)) ht (hlt _)) (by omega)) rfl rfl rfl rfl rfl rfl rfl rfl (ai_rcv1 rfl rfl (qcs_obj hc)) (fun v26 s26 h26 f26 hc26 => ?_)
  show qsm L xs e Y bc bs _ qm_71 6 [some (.ref 1), some (.int 1), some (.int 1), some (.int 1), none] [] h26 _ _ _
  try simp only [zq, zi, zc, zv, zf, zbd_zbd, zbd_some, zbd_fault, zbd_none, zite0, zite1, ↓reduceIte, Nat.one_ne_zero]
  refine qsm_pls (n := 2) (k' := 8) (lo' := [some (.ref 1), some (.int 1), some (.int 1), some (.int 1), none]) (S' := [.retAddr 82, .ref 1]) (h' := h26) rfl ?_
  first
    | refine qsm_call hc26 (qim_up (qi_copy (d := d) (k := 82) ht (by decide)) (by omega)) rfl rfl rfl rfl rfl rfl rfl rfl (ai_rcv1 rfl rfl (qcs_obj hc26)) (fun v27 s27 h27 f27 hc27 => ?_)
    | refine qsm_callL hc26 (qim_up (qi_copy (d := d) (k := 82) ht (by decide)) (by omega)) rfl rfl rfl rfl rfl rfl rfl rfl (ai_rcv1 rfl rfl (qcs_obj hc26)) (fun v27 s27 h27 f27 hc27 => ?_)
  show qsm L xs e Y bc bs _ qm_71 9 [some (.ref 1), some (.int 1), some (.int 1), some (.int 1), none] [] h27 _ _ _
  try simp only [zq, zi, zc, zv, zf, zbd_zbd, zbd_some, zbd_fault, zbd_none, zite0, zite1, ↓reduceIte, Nat.one_ne_zero]
  refine qsm_pls (n := 4) (k' := 13) (lo' := [some (.ref 1), some (.int 1), some (.int 1), some (.int 1), some (.int 1)]) (S' := [.int 1, .int 1]) (h' := h27) rfl ?_
  refine qsm_icmp false rfl (rfl) rfl ?_
  refine qsm_pls (n := 1) (k' := 15) (lo' := [some (.ref 1), some (.int 1), some (.int 1), some (.int 1), some (.int 1)]) (S' := [.int 1]) (h' := h27) rfl ?_
  refine qsm_if false rfl (rfl) rfl ?_
  refine qsm_pls (n := 1) (k' := 17) (lo' := [some (.ref 1), some (.int 1), some (.int 1), some (.int 1), some (.int 1)]) (S' := [.ref 1]) (h' := h27) rfl ?_
  first
    | refine qsm_call hc27 (qim_up (hex) (by omega)) rfl rfl rfl rfl rfl rfl rfl rfl (ai_rcv1 rfl rfl (qcs_obj hc27)) (fun v28 s28 h28 f28 hc28 => ?_)
    | refine qsm_callL hc27 (qim_up (hex) (by omega)) rfl rfl rfl rfl rfl rfl rfl rfl (ai_rcv1 rfl rfl (qcs_obj hc27)) (fun v28 s28 h28 f28 hc28 => ?_)
  show qsm L xs e Y bc bs _ qm_71 18 [some (.ref 1), some (.int 1), some (.int 1), some (.int 1), some (.int 1)] [.int (nI v28)] h28 _ _ _
  try simp only [zq, zi, zc, zv, zf, zbd_zbd, zbd_some, zbd_fault, zbd_none, zite0, zite1, ↓reduceIte, Nat.one_ne_zero]
  refine qsm_pls (n := 3) (k' := 21) (lo' := [some (.ref 1), some (.int 1), some (.int 1), some (.int 1), some (.int 1)]) (S' := [.int 1, .int 1]) (h' := h28) rfl ?_
  refine qsm_icmp true rfl (rfl) rfl ?_
  refine qsm_pls (n := 3) (k' := 34) (lo' := [some (.ref 1), some (.int 1), some (.int 1), some (.int 0), some (.int 1)]) (S' := [.int 0]) (h' := h28) rfl ?_
  refine qsm_if true rfl (rfl) rfl ?_
  refine qsm_pls (n := 4) (k' := 13) (lo' := [some (.ref 1), some (.int 1), some (.int 1), some (.int 0), some (.int 2)]) (S' := [.int 1, .int 2]) (h' := h28) rfl ?_
  refine qsm_icmp true rfl (rfl) rfl ?_
  refine qsm_pls (n := 2) (k' := 42) (lo' := [some (.ref 1), some (.int 1), some (.int 1), some (.int 0), some (.int 2)]) (S' := [.retAddr 83, .ref 1]) (h' := h28) rfl ?_
  first
    | refine qsm_call hc28 (qim_up (qi_copy (d := d) (k := 83) ht (by decide)) (by omega)) rfl rfl rfl rfl rfl rfl rfl rfl (ai_rcv1 rfl rfl (qcs_obj hc28)) (fun v29 s29 h29 f29 hc29 => ?_)
    | refine qsm_callL hc28 (qim_up (qi_copy (d := d) (k := 83) ht (by decide)) (by omega)) rfl rfl rfl rfl rfl rfl rfl rfl (ai_rcv1 rfl rfl (qcs_obj hc28)) (fun v29 s29 h29 f29 hc29 => ?_)
  show qsm L xs e Y bc bs _ qm_71 43 [some (.ref 1), some (.int 1), some (.int 1), some (.int 0), some (.int 2)] [] h29 _ _ _
  try simp only [zq, zi, zc, zv, zf, zbd_zbd, zbd_some, zbd_fault, zbd_none, zite0, zite1, ↓reduceIte, Nat.one_ne_zero]
  exact qsm_ret7 hc29 rfl
theorem qs_args22 (ht : qtk e Y) (hex : qim L xs e Y bc bs d 55 [.ref 1] 1 ex) : qim L xs e Y bc bs (d + 7) 71 [.ref 1, .int 2, .int 2] 0 (z_args e (z_a22 e ex)) := by
  have hlt := qtk_lt ht
  refine qim_of (M := qm_71) rfl rfl (fun P s h hc => ?_)
  show qsm L xs e Y bc bs _ qm_71 0 [some (.ref 1), some (.int 2), some (.int 2), none, none] [] h _ _ _
  simp only [z_args, z_a22, zq, zi, zc, zv, zf, zbd_zbd, zbd_some, zbd_fault, zbd_none, zite0, zite1, ↓reduceIte, Nat.one_ne_zero]
  try simp only [zq, zi, zc, zv, zf, zbd_zbd, zbd_some, zbd_fault, zbd_none, zite0, zite1, ↓reduceIte, Nat.one_ne_zero]
  refine qsm_pls (n := 4) (k' := 4) (lo' := [some (.ref 1), some (.int 2), some (.int 2), some (.int 1), none]) (S' := [.ref 1, .ref 1]) (h' := h) rfl ?_
  refine qsm_getf (v := .retAddr (ztk e s.1)) rfl (qcs_obj hc) rfl rfl rfl ?_
  first
    | refine qsm_call hc (qim_up (qi_copy (d := d) (k := (ztk e s.1)) ht (hlt _)) (by omega)) rfl rfl rfl rfl rfl rfl rfl rfl (ai_rcv1 rfl rfl (qcs_obj hc)) (fun v30 s30 h30 f30 hc30 => ?_)
    | refine qsm_callL hc (qim_up (qi_copy (d := d) (k := (ztk e s.1)) ht (hlt _)) (by omega)) rfl rfl rfl rfl rfl rfl rfl rfl (ai_rcv1 rfl rfl (qcs_obj hc)) (fun v30 s30 h30 f30 hc30 => ?_)
  show qsm L xs e Y bc bs _ qm_71 6 [some (.ref 1), some (.int 2), some (.int 2), some (.int 1), none] [] h30 _ _ _
  try simp only [zq, zi, zc, zv, zf, zbd_zbd, zbd_some, zbd_fault, zbd_none, zite0, zite1, ↓reduceIte, Nat.one_ne_zero]
  refine qsm_pls (n := 2) (k' := 8) (lo' := [some (.ref 1), some (.int 2), some (.int 2), some (.int 1), none]) (S' := [.retAddr 82, .ref 1]) (h' := h30) rfl ?_
  first
    | refine qsm_call hc30 (qim_up (qi_copy (d := d) (k := 82) ht (by decide)) (by omega)) rfl rfl rfl rfl rfl rfl rfl rfl (ai_rcv1 rfl rfl (qcs_obj hc30)) (fun v31 s31 h31 f31 hc31 => ?_)
    | refine qsm_callL hc30 (qim_up (qi_copy (d := d) (k := 82) ht (by decide)) (by omega)) rfl rfl rfl rfl rfl rfl rfl rfl (ai_rcv1 rfl rfl (qcs_obj hc30)) (fun v31 s31 h31 f31 hc31 => ?_)
  show qsm L xs e Y bc bs _ qm_71 9 [some (.ref 1), some (.int 2), some (.int 2), some (.int 1), none] [] h31 _ _ _
  try simp only [zq, zi, zc, zv, zf, zbd_zbd, zbd_some, zbd_fault, zbd_none, zite0, zite1, ↓reduceIte, Nat.one_ne_zero]
  refine qsm_pls (n := 4) (k' := 13) (lo' := [some (.ref 1), some (.int 2), some (.int 2), some (.int 1), some (.int 1)]) (S' := [.int 2, .int 1]) (h' := h31) rfl ?_
  refine qsm_icmp false rfl (rfl) rfl ?_
  refine qsm_pls (n := 1) (k' := 15) (lo' := [some (.ref 1), some (.int 2), some (.int 2), some (.int 1), some (.int 1)]) (S' := [.int 1]) (h' := h31) rfl ?_
  refine qsm_if false rfl (rfl) rfl ?_
  refine qsm_pls (n := 1) (k' := 17) (lo' := [some (.ref 1), some (.int 2), some (.int 2), some (.int 1), some (.int 1)]) (S' := [.ref 1]) (h' := h31) rfl ?_
  first
    | refine qsm_call hc31 (qim_up (hex) (by omega)) rfl rfl rfl rfl rfl rfl rfl rfl (ai_rcv1 rfl rfl (qcs_obj hc31)) (fun v32 s32 h32 f32 hc32 => ?_)
    | refine qsm_callL hc31 (qim_up (hex) (by omega)) rfl rfl rfl rfl rfl rfl rfl rfl (ai_rcv1 rfl rfl (qcs_obj hc31)) (fun v32 s32 h32 f32 hc32 => ?_)
  show qsm L xs e Y bc bs _ qm_71 18 [some (.ref 1), some (.int 2), some (.int 2), some (.int 1), some (.int 1)] [.int (nI v32)] h32 _ _ _
  try simp only [zq, zi, zc, zv, zf, zbd_zbd, zbd_some, zbd_fault, zbd_none, zite0, zite1, ↓reduceIte, Nat.one_ne_zero]
  refine qsm_pls (n := 3) (k' := 21) (lo' := [some (.ref 1), some (.int 2), some (.int 2), some (.int 1), some (.int 1)]) (S' := [.int 2, .int 1]) (h' := h32) rfl ?_
  refine qsm_icmp false rfl (rfl) rfl ?_
  refine qsm_pls (n := 2) (k' := 24) (lo' := [some (.ref 1), some (.int 2), some (.int 2), some (.int 1), some (.int 1)]) (S' := [.int 2, .int 1]) (h' := h32) rfl ?_
  refine qsm_icmp true rfl (rfl) rfl ?_
  refine qsm_pls (n := 4) (k' := 34) (lo' := [some (.ref 1), some (.int 2), some (.int 2), some (.int 1), some (.int 1)]) (S' := [.int 1]) (h' := h32) rfl ?_
  refine qsm_if false rfl (rfl) rfl ?_
  refine qsm_pls (n := 2) (k' := 37) (lo' := [some (.ref 1), some (.int 2), some (.int 2), some (.int 1), some (.int 1)]) (S' := [.retAddr 84, .ref 1]) (h' := h32) rfl ?_
  first
    | refine qsm_call hc32 (qim_up (qi_copy (d := d) (k := 84) ht (by decide)) (by omega)) rfl rfl rfl rfl rfl rfl rfl rfl (ai_rcv1 rfl rfl (qcs_obj hc32)) (fun v33 s33 h33 f33 hc33 => ?_)
    | refine qsm_callL hc32 (qim_up (qi_copy (d := d) (k := 84) ht (by decide)) (by omega)) rfl rfl rfl rfl rfl rfl rfl rfl (ai_rcv1 rfl rfl (qcs_obj hc32)) (fun v33 s33 h33 f33 hc33 => ?_)
  show qsm L xs e Y bc bs _ qm_71 38 [some (.ref 1), some (.int 2), some (.int 2), some (.int 1), some (.int 1)] [] h33 _ _ _
  try simp only [zq, zi, zc, zv, zf, zbd_zbd, zbd_some, zbd_fault, zbd_none, zite0, zite1, ↓reduceIte, Nat.one_ne_zero]
  refine qsm_pls (n := 4) (k' := 13) (lo' := [some (.ref 1), some (.int 2), some (.int 2), some (.int 1), some (.int 2)]) (S' := [.int 2, .int 2]) (h' := h33) rfl ?_
  refine qsm_icmp false rfl (rfl) rfl ?_
  refine qsm_pls (n := 1) (k' := 15) (lo' := [some (.ref 1), some (.int 2), some (.int 2), some (.int 1), some (.int 2)]) (S' := [.int 1]) (h' := h33) rfl ?_
  refine qsm_if false rfl (rfl) rfl ?_
  refine qsm_pls (n := 1) (k' := 17) (lo' := [some (.ref 1), some (.int 2), some (.int 2), some (.int 1), some (.int 2)]) (S' := [.ref 1]) (h' := h33) rfl ?_
  first
    | refine qsm_call hc33 (qim_up (hex) (by omega)) rfl rfl rfl rfl rfl rfl rfl rfl (ai_rcv1 rfl rfl (qcs_obj hc33)) (fun v34 s34 h34 f34 hc34 => ?_)
    | refine qsm_callL hc33 (qim_up (hex) (by omega)) rfl rfl rfl rfl rfl rfl rfl rfl (ai_rcv1 rfl rfl (qcs_obj hc33)) (fun v34 s34 h34 f34 hc34 => ?_)
  show qsm L xs e Y bc bs _ qm_71 18 [some (.ref 1), some (.int 2), some (.int 2), some (.int 1), some (.int 2)] [.int (nI v34)] h34 _ _ _
  try simp only [zq, zi, zc, zv, zf, zbd_zbd, zbd_some, zbd_fault, zbd_none, zite0, zite1, ↓reduceIte, Nat.one_ne_zero]
  refine qsm_pls (n := 3) (k' := 21) (lo' := [some (.ref 1), some (.int 2), some (.int 2), some (.int 1), some (.int 2)]) (S' := [.int 2, .int 2]) (h' := h34) rfl ?_
  refine qsm_icmp true rfl (rfl) rfl ?_
  refine qsm_pls (n := 3) (k' := 34) (lo' := [some (.ref 1), some (.int 2), some (.int 2), some (.int 0), some (.int 2)]) (S' := [.int 0]) (h' := h34) rfl ?_
  refine qsm_if true rfl (rfl) rfl ?_
  refine qsm_pls (n := 4) (k' := 13) (lo' := [some (.ref 1), some (.int 2), some (.int 2), some (.int 0), some (.int 3)]) (S' := [.int 2, .int 3]) (h' := h34) rfl ?_
  refine qsm_icmp true rfl (rfl) rfl ?_
  refine qsm_pls (n := 2) (k' := 42) (lo' := [some (.ref 1), some (.int 2), some (.int 2), some (.int 0), some (.int 3)]) (S' := [.retAddr 83, .ref 1]) (h' := h34) rfl ?_
  first
    | refine qsm_call hc34 (qim_up (qi_copy (d := d) (k := 83) ht (by decide)) (by omega)) rfl rfl rfl rfl rfl rfl rfl rfl (ai_rcv1 rfl rfl (qcs_obj hc34)) (fun v35 s35 h35 f35 hc35 => ?_)
    | refine qsm_callL hc34 (qim_up (qi_copy (d := d) (k := 83) ht (by decide)) (by omega)) rfl rfl rfl rfl rfl rfl rfl rfl (ai_rcv1 rfl rfl (qcs_obj hc34)) (fun v35 s35 h35 f35 hc35 => ?_)
  show qsm L xs e Y bc bs _ qm_71 43 [some (.ref 1), some (.int 2), some (.int 2), some (.int 0), some (.int 3)] [] h35 _ _ _
  try simp only [zq, zi, zc, zv, zf, zbd_zbd, zbd_some, zbd_fault, zbd_none, zite0, zite1, ↓reduceIte, Nat.one_ne_zero]
  exact qsm_ret7 hc35 rfl
theorem qs_args23 (ht : qtk e Y) (hex : qim L xs e Y bc bs d 55 [.ref 1] 1 ex) : qim L xs e Y bc bs (d + 7) 71 [.ref 1, .int 2, .int 3] 0 (z_args e (z_a23 e ex)) := by
  have hlt := qtk_lt ht
  refine qim_of (M := qm_71) rfl rfl (fun P s h hc => ?_)
  show qsm L xs e Y bc bs _ qm_71 0 [some (.ref 1), some (.int 2), some (.int 3), none, none] [] h _ _ _
  simp only [z_args, z_a23, zq, zi, zc, zv, zf, zbd_zbd, zbd_some, zbd_fault, zbd_none, zite0, zite1, ↓reduceIte, Nat.one_ne_zero]
  try simp only [zq, zi, zc, zv, zf, zbd_zbd, zbd_some, zbd_fault, zbd_none, zite0, zite1, ↓reduceIte, Nat.one_ne_zero]
  refine qsm_pls (n := 4) (k' := 4) (lo' := [some (.ref 1), some (.int 2), some (.int 3), some (.int 1), none]) (S' := [.ref 1, .ref 1]) (h' := h) rfl ?_
  refine qsm_getf (v := .retAddr (ztk e s.1)) rfl (qcs_obj hc) rfl rfl rfl ?_
  first
    | refine qsm_call hc (qim_up (qi_copy (d := d) (k := (ztk e s.1)) ht (hlt _)) (by omega)) rfl rfl rfl rfl rfl rfl rfl rfl (ai_rcv1 rfl rfl (qcs_obj hc)) (fun v36 s36 h36 f36 hc36 => ?_)
    | refine qsm_callL hc (qim_up (qi_copy (d := d) (k := (ztk e s.1)) ht (hlt _)) (by omega)) rfl rfl rfl rfl rfl rfl rfl rfl (ai_rcv1 rfl rfl (qcs_obj hc)) (fun v36 s36 h36 f36 hc36 => ?_)
  show qsm L xs e Y bc bs _ qm_71 6 [some (.ref 1), some (.int 2), some (.int 3), some (.int 1), none] [] h36 _ _ _
  try simp only [zq, zi, zc, zv, zf, zbd_zbd, zbd_some, zbd_fault, zbd_none, zite0, zite1, ↓reduceIte, Nat.one_ne_zero]
  refine qsm_pls (n := 2) (k' := 8) (lo' := [some (.ref 1), some (.int 2), some (.int 3), some (.int 1), none]) (S' := [.retAddr 82, .ref 1]) (h' := h36) rfl ?_
  first
    | refine qsm_call hc36 (qim_up (qi_copy (d := d) (k := 82) ht (by decide)) (by omega)) rfl rfl rfl rfl rfl rfl rfl rfl (ai_rcv1 rfl rfl (qcs_obj hc36)) (fun v37 s37 h37 f37 hc37 => ?_)
    | refine qsm_callL hc36 (qim_up (qi_copy (d := d) (k := 82) ht (by decide)) (by omega)) rfl rfl rfl rfl rfl rfl rfl rfl (ai_rcv1 rfl rfl (qcs_obj hc36)) (fun v37 s37 h37 f37 hc37 => ?_)
  show qsm L xs e Y bc bs _ qm_71 9 [some (.ref 1), some (.int 2), some (.int 3), some (.int 1), none] [] h37 _ _ _
  try simp only [zq, zi, zc, zv, zf, zbd_zbd, zbd_some, zbd_fault, zbd_none, zite0, zite1, ↓reduceIte, Nat.one_ne_zero]
  refine qsm_pls (n := 4) (k' := 13) (lo' := [some (.ref 1), some (.int 2), some (.int 3), some (.int 1), some (.int 1)]) (S' := [.int 3, .int 1]) (h' := h37) rfl ?_
  refine qsm_icmp false rfl (rfl) rfl ?_
  refine qsm_pls (n := 1) (k' := 15) (lo' := [some (.ref 1), some (.int 2), some (.int 3), some (.int 1), some (.int 1)]) (S' := [.int 1]) (h' := h37) rfl ?_
  refine qsm_if false rfl (rfl) rfl ?_
  refine qsm_pls (n := 1) (k' := 17) (lo' := [some (.ref 1), some (.int 2), some (.int 3), some (.int 1), some (.int 1)]) (S' := [.ref 1]) (h' := h37) rfl ?_
  first
    | refine qsm_call hc37 (qim_up (hex) (by omega)) rfl rfl rfl rfl rfl rfl rfl rfl (ai_rcv1 rfl rfl (qcs_obj hc37)) (fun v38 s38 h38 f38 hc38 => ?_)
    | refine qsm_callL hc37 (qim_up (hex) (by omega)) rfl rfl rfl rfl rfl rfl rfl rfl (ai_rcv1 rfl rfl (qcs_obj hc37)) (fun v38 s38 h38 f38 hc38 => ?_)
  show qsm L xs e Y bc bs _ qm_71 18 [some (.ref 1), some (.int 2), some (.int 3), some (.int 1), some (.int 1)] [.int (nI v38)] h38 _ _ _
  try simp only [zq, zi, zc, zv, zf, zbd_zbd, zbd_some, zbd_fault, zbd_none, zite0, zite1, ↓reduceIte, Nat.one_ne_zero]
  refine qsm_pls (n := 3) (k' := 21) (lo' := [some (.ref 1), some (.int 2), some (.int 3), some (.int 1), some (.int 1)]) (S' := [.int 3, .int 1]) (h' := h38) rfl ?_
  refine qsm_icmp false rfl (rfl) rfl ?_
  refine qsm_pls (n := 2) (k' := 24) (lo' := [some (.ref 1), some (.int 2), some (.int 3), some (.int 1), some (.int 1)]) (S' := [.int 2, .int 1]) (h' := h38) rfl ?_
  refine qsm_icmp true rfl (rfl) rfl ?_
  refine qsm_pls (n := 4) (k' := 34) (lo' := [some (.ref 1), some (.int 2), some (.int 3), some (.int 1), some (.int 1)]) (S' := [.int 1]) (h' := h38) rfl ?_
  refine qsm_if false rfl (rfl) rfl ?_
  refine qsm_pls (n := 2) (k' := 37) (lo' := [some (.ref 1), some (.int 2), some (.int 3), some (.int 1), some (.int 1)]) (S' := [.retAddr 84, .ref 1]) (h' := h38) rfl ?_
  first
    | refine qsm_call hc38 (qim_up (qi_copy (d := d) (k := 84) ht (by decide)) (by omega)) rfl rfl rfl rfl rfl rfl rfl rfl (ai_rcv1 rfl rfl (qcs_obj hc38)) (fun v39 s39 h39 f39 hc39 => ?_)
    | refine qsm_callL hc38 (qim_up (qi_copy (d := d) (k := 84) ht (by decide)) (by omega)) rfl rfl rfl rfl rfl rfl rfl rfl (ai_rcv1 rfl rfl (qcs_obj hc38)) (fun v39 s39 h39 f39 hc39 => ?_)
  show qsm L xs e Y bc bs _ qm_71 38 [some (.ref 1), some (.int 2), some (.int 3), some (.int 1), some (.int 1)] [] h39 _ _ _
  try simp only [zq, zi, zc, zv, zf, zbd_zbd, zbd_some, zbd_fault, zbd_none, zite0, zite1, ↓reduceIte, Nat.one_ne_zero]
  refine qsm_pls (n := 4) (k' := 13) (lo' := [some (.ref 1), some (.int 2), some (.int 3), some (.int 1), some (.int 2)]) (S' := [.int 3, .int 2]) (h' := h39) rfl ?_
  refine qsm_icmp false rfl (rfl) rfl ?_
  refine qsm_pls (n := 1) (k' := 15) (lo' := [some (.ref 1), some (.int 2), some (.int 3), some (.int 1), some (.int 2)]) (S' := [.int 1]) (h' := h39) rfl ?_
  refine qsm_if false rfl (rfl) rfl ?_
  refine qsm_pls (n := 1) (k' := 17) (lo' := [some (.ref 1), some (.int 2), some (.int 3), some (.int 1), some (.int 2)]) (S' := [.ref 1]) (h' := h39) rfl ?_
  first
    | refine qsm_call hc39 (qim_up (hex) (by omega)) rfl rfl rfl rfl rfl rfl rfl rfl (ai_rcv1 rfl rfl (qcs_obj hc39)) (fun v40 s40 h40 f40 hc40 => ?_)
    | refine qsm_callL hc39 (qim_up (hex) (by omega)) rfl rfl rfl rfl rfl rfl rfl rfl (ai_rcv1 rfl rfl (qcs_obj hc39)) (fun v40 s40 h40 f40 hc40 => ?_)
  show qsm L xs e Y bc bs _ qm_71 18 [some (.ref 1), some (.int 2), some (.int 3), some (.int 1), some (.int 2)] [.int (nI v40)] h40 _ _ _
  try simp only [zq, zi, zc, zv, zf, zbd_zbd, zbd_some, zbd_fault, zbd_none, zite0, zite1, ↓reduceIte, Nat.one_ne_zero]
  refine qsm_pls (n := 3) (k' := 21) (lo' := [some (.ref 1), some (.int 2), some (.int 3), some (.int 1), some (.int 2)]) (S' := [.int 3, .int 2]) (h' := h40) rfl ?_
  refine qsm_icmp false rfl (rfl) rfl ?_
  refine qsm_pls (n := 2) (k' := 24) (lo' := [some (.ref 1), some (.int 2), some (.int 3), some (.int 1), some (.int 2)]) (S' := [.int 2, .int 2]) (h' := h40) rfl ?_
  refine qsm_icmp false rfl (rfl) rfl ?_
  refine qsm_pls (n := 1) (k' := 26) (lo' := [some (.ref 1), some (.int 2), some (.int 3), some (.int 1), some (.int 2)]) (S' := [.ref 1]) (h' := h40) rfl ?_
  refine qsm_getf (v := .retAddr (ztk e s40.1)) rfl (qcs_obj hc40) rfl rfl rfl ?_
  refine qsm_pls (n := 1) (k' := 28) (lo' := [some (.ref 1), some (.int 2), some (.int 3), some (.int 1), some (.int 2)]) (S' := [.retAddr 84, .retAddr (ztk e s40.1)]) (h' := h40) rfl ?_
  by_cases t41 : ztk e s40.1 = 84
  · first | rw [if_pos t41] | rw [zci_T t41] | skip
    try simp only [zq, zi, zc, zv, zf, zbd_zbd, zbd_some, zbd_fault, zbd_none, zite0, zite1, ↓reduceIte, Nat.one_ne_zero]
    refine qsm_acmp false rfl (qzk (hlt _) (by decide)) (qa_neF t41) rfl ?_
    refine qsm_pls (n := 4) (k' := 34) (lo' := [some (.ref 1), some (.int 2), some (.int 3), some (.int 1), some (.int 2)]) (S' := [.int 1]) (h' := h40) rfl ?_
    refine qsm_if false rfl (rfl) rfl ?_
    refine qsm_pls (n := 2) (k' := 37) (lo' := [some (.ref 1), some (.int 2), some (.int 3), some (.int 1), some (.int 2)]) (S' := [.retAddr 84, .ref 1]) (h' := h40) rfl ?_
    first
      | refine qsm_call hc40 (qim_up (qi_copy (d := d) (k := 84) ht (by decide)) (by omega)) rfl rfl rfl rfl rfl rfl rfl rfl (ai_rcv1 rfl rfl (qcs_obj hc40)) (fun v42 s42 h42 f42 hc42 => ?_)
      | refine qsm_callL hc40 (qim_up (qi_copy (d := d) (k := 84) ht (by decide)) (by omega)) rfl rfl rfl rfl rfl rfl rfl rfl (ai_rcv1 rfl rfl (qcs_obj hc40)) (fun v42 s42 h42 f42 hc42 => ?_)
    show qsm L xs e Y bc bs _ qm_71 38 [some (.ref 1), some (.int 2), some (.int 3), some (.int 1), some (.int 2)] [] h42 _ _ _
    try simp only [zq, zi, zc, zv, zf, zbd_zbd, zbd_some, zbd_fault, zbd_none, zite0, zite1, ↓reduceIte, Nat.one_ne_zero]
    refine qsm_pls (n := 4) (k' := 13) (lo' := [some (.ref 1), some (.int 2), some (.int 3), some (.int 1), some (.int 3)]) (S' := [.int 3, .int 3]) (h' := h42) rfl ?_
    refine qsm_icmp false rfl (rfl) rfl ?_
    refine qsm_pls (n := 1) (k' := 15) (lo' := [some (.ref 1), some (.int 2), some (.int 3), some (.int 1), some (.int 3)]) (S' := [.int 1]) (h' := h42) rfl ?_
    refine qsm_if false rfl (rfl) rfl ?_
    refine qsm_pls (n := 1) (k' := 17) (lo' := [some (.ref 1), some (.int 2), some (.int 3), some (.int 1), some (.int 3)]) (S' := [.ref 1]) (h' := h42) rfl ?_
    first
      | refine qsm_call hc42 (qim_up (hex) (by omega)) rfl rfl rfl rfl rfl rfl rfl rfl (ai_rcv1 rfl rfl (qcs_obj hc42)) (fun v43 s43 h43 f43 hc43 => ?_)
      | refine qsm_callL hc42 (qim_up (hex) (by omega)) rfl rfl rfl rfl rfl rfl rfl rfl (ai_rcv1 rfl rfl (qcs_obj hc42)) (fun v43 s43 h43 f43 hc43 => ?_)
    show qsm L xs e Y bc bs _ qm_71 18 [some (.ref 1), some (.int 2), some (.int 3), some (.int 1), some (.int 3)] [.int (nI v43)] h43 _ _ _
    try simp only [zq, zi, zc, zv, zf, zbd_zbd, zbd_some, zbd_fault, zbd_none, zite0, zite1, ↓reduceIte, Nat.one_ne_zero]
    refine qsm_pls (n := 3) (k' := 21) (lo' := [some (.ref 1), some (.int 2), some (.int 3), some (.int 1), some (.int 3)]) (S' := [.int 3, .int 3]) (h' := h43) rfl ?_
    refine qsm_icmp true rfl (rfl) rfl ?_
    refine qsm_pls (n := 3) (k' := 34) (lo' := [some (.ref 1), some (.int 2), some (.int 3), some (.int 0), some (.int 3)]) (S' := [.int 0]) (h' := h43) rfl ?_
    refine qsm_if true rfl (rfl) rfl ?_
    refine qsm_pls (n := 4) (k' := 13) (lo' := [some (.ref 1), some (.int 2), some (.int 3), some (.int 0), some (.int 4)]) (S' := [.int 3, .int 4]) (h' := h43) rfl ?_
    refine qsm_icmp true rfl (rfl) rfl ?_
    refine qsm_pls (n := 2) (k' := 42) (lo' := [some (.ref 1), some (.int 2), some (.int 3), some (.int 0), some (.int 4)]) (S' := [.retAddr 83, .ref 1]) (h' := h43) rfl ?_
    first
      | refine qsm_call hc43 (qim_up (qi_copy (d := d) (k := 83) ht (by decide)) (by omega)) rfl rfl rfl rfl rfl rfl rfl rfl (ai_rcv1 rfl rfl (qcs_obj hc43)) (fun v44 s44 h44 f44 hc44 => ?_)
      | refine qsm_callL hc43 (qim_up (qi_copy (d := d) (k := 83) ht (by decide)) (by omega)) rfl rfl rfl rfl rfl rfl rfl rfl (ai_rcv1 rfl rfl (qcs_obj hc43)) (fun v44 s44 h44 f44 hc44 => ?_)
    show qsm L xs e Y bc bs _ qm_71 43 [some (.ref 1), some (.int 2), some (.int 3), some (.int 0), some (.int 4)] [] h44 _ _ _
    try simp only [zq, zi, zc, zv, zf, zbd_zbd, zbd_some, zbd_fault, zbd_none, zite0, zite1, ↓reduceIte, Nat.one_ne_zero]
    exact qsm_ret7 hc44 rfl
  · first | rw [if_neg t41] | rw [zci_F t41] | skip
    try simp only [zq, zi, zc, zv, zf, zbd_zbd, zbd_some, zbd_fault, zbd_none, zite0, zite1, ↓reduceIte, Nat.one_ne_zero]
    refine qsm_acmp true rfl (qzk (hlt _) (by decide)) (qa_neT t41) rfl ?_
    refine qsm_pls (n := 3) (k' := 34) (lo' := [some (.ref 1), some (.int 2), some (.int 3), some (.int 0), some (.int 2)]) (S' := [.int 0]) (h' := h40) rfl ?_
    refine qsm_if true rfl (rfl) rfl ?_
    refine qsm_pls (n := 4) (k' := 13) (lo' := [some (.ref 1), some (.int 2), some (.int 3), some (.int 0), some (.int 3)]) (S' := [.int 3, .int 3]) (h' := h40) rfl ?_
    refine qsm_icmp false rfl (rfl) rfl ?_
    refine qsm_pls (n := 1) (k' := 15) (lo' := [some (.ref 1), some (.int 2), some (.int 3), some (.int 0), some (.int 3)]) (S' := [.int 0]) (h' := h40) rfl ?_
    refine qsm_if true rfl (rfl) rfl ?_
    refine qsm_pls (n := 2) (k' := 42) (lo' := [some (.ref 1), some (.int 2), some (.int 3), some (.int 0), some (.int 3)]) (S' := [.retAddr 83, .ref 1]) (h' := h40) rfl ?_
    first
      | refine qsm_call hc40 (qim_up (qi_copy (d := d) (k := 83) ht (by decide)) (by omega)) rfl rfl rfl rfl rfl rfl rfl rfl (ai_rcv1 rfl rfl (qcs_obj hc40)) (fun v45 s45 h45 f45 hc45 => ?_)
      | refine qsm_callL hc40 (qim_up (qi_copy (d := d) (k := 83) ht (by decide)) (by omega)) rfl rfl rfl rfl rfl rfl rfl rfl (ai_rcv1 rfl rfl (qcs_obj hc40)) (fun v45 s45 h45 f45 hc45 => ?_)
    show qsm L xs e Y bc bs _ qm_71 43 [some (.ref 1), some (.int 2), some (.int 3), some (.int 0), some (.int 3)] [] h45 _ _ _
    try simp only [zq, zi, zc, zv, zf, zbd_zbd, zbd_some, zbd_fault, zbd_none, zite0, zite1, ↓reduceIte, Nat.one_ne_zero]
    exact qsm_ret7 hc45 rfl
theorem qs_argsN (ht : qtk e Y) (hex : qim L xs e Y bc bs d 55 [.ref 1] 1 ex) : qim L xs e Y bc bs (d + 7) 71 [.ref 1, .int 1, .int 1000000] 0 (z_args e (z_exs e ex)) := by
  have hlt := qtk_lt ht
  refine qim_of (M := qm_71) rfl rfl (fun P s h hc => ?_)
  show qsm L xs e Y bc bs _ qm_71 0 [some (.ref 1), some (.int 1), some (.int 1000000), none, none] [] h _ _ _
  have loop : ∀ (G : Nat → zS → zR Nat), (∀ (x3 x4 : Value) (s : zS) (h : ai_H), qcs e Y bc bs P s h → qsm L xs e Y bc bs (d + 6) qm_71 40 [some (.ref 1), some (.int 1), some (.int 1000000), some x3, some x4] [] h 0 P (G 0 s)) → ∀ (n i : Nat) (s : zS) (h : ai_H), 1 ≤ i → i ≤ s.1 + 1 → qcs e Y bc bs P s h → qsm L xs e Y bc bs (d + 6) qm_71 19 [some (.ref 1), some (.int 1), some (.int 1000000), some (.int 1), some (.int (nI i))] [] h 0 P (zbd (zlp (zl_exs e ex) n s) G) := by
    intro G tail n
    induction n with
    | zero => intro i s h hi1 hi hc; exact qsm_none
    | succ n ih =>
      intro i s h hi1 hi hc
      have hb := qcs_bd hc
      rw [zlp_succ]
      generalize zlp (zl_exs e ex) n = W at ih ⊢
      simp only [zl_exs, zq, zi, zc, zv, zf, zbd_zbd, zbd_some, zbd_fault, zbd_none, zite0, zite1, ↓reduceIte, Nat.one_ne_zero]
      refine qsm_pls (n := 2) (k' := 21) (lo' := [some (.ref 1), some (.int 1), some (.int 1000000), some (.int 1), some (.int (nI i))]) (S' := [.int 1000000, .int (nI i)]) (h' := h) rfl ?_
      try simp only [zq, zi, zc, zv, zf, zbd_zbd, zbd_some, zbd_fault, zbd_none, zite0, zite1, ↓reduceIte, Nat.one_ne_zero]
      refine qsm_icmp false rfl (qc_geF (b := 1000000) (by omega) (by decide)) rfl ?_
      refine qsm_pls (n := 2) (k' := 24) (lo' := [some (.ref 1), some (.int 1), some (.int 1000000), some (.int 1), some (.int (nI i))]) (S' := [.int 1, .int (nI i)]) (h' := h) rfl ?_
      refine qsm_icmp false rfl (qc_ltF (b := 1) hi1 (by omega)) rfl ?_
      refine qsm_pls (n := 1) (k' := 26) (lo' := [some (.ref 1), some (.int 1), some (.int 1000000), some (.int 1), some (.int (nI i))]) (S' := [.ref 1]) (h' := h) rfl ?_
      refine qsm_getf (v := .retAddr (ztk e s.1)) rfl (qcs_obj hc) rfl rfl rfl ?_
      refine qsm_pls (n := 1) (k' := 28) (lo' := [some (.ref 1), some (.int 1), some (.int 1000000), some (.int 1), some (.int (nI i))]) (S' := [.retAddr 84, .retAddr (ztk e s.1)]) (h' := h) rfl ?_
      by_cases t46 : ztk e s.1 = 84
      · first | rw [if_pos t46] | rw [zci_T t46] | skip
        try simp only [zq, zi, zc, zv, zf, zbd_zbd, zbd_some, zbd_fault, zbd_none, zite0, zite1, ↓reduceIte, Nat.one_ne_zero]
        refine qsm_acmp false rfl (qzk (hlt _) (by decide)) (qa_neF t46) rfl ?_
        refine qsm_pls (n := 4) (k' := 34) (lo' := [some (.ref 1), some (.int 1), some (.int 1000000), some (.int 1), some (.int (nI i))]) (S' := [.int 1]) (h' := h) rfl ?_
        refine qsm_if false rfl (rfl) rfl ?_
        refine qsm_pls (n := 2) (k' := 37) (lo' := [some (.ref 1), some (.int 1), some (.int 1000000), some (.int 1), some (.int (nI i))]) (S' := [.retAddr 84, .ref 1]) (h' := h) rfl ?_
        first
          | refine qsm_call hc (qim_up (qi_copy (d := d) (k := 84) ht (by decide)) (by omega)) rfl rfl rfl rfl rfl rfl rfl rfl (ai_rcv1 rfl rfl (qcs_obj hc)) (fun v47 s47 h47 f47 hc47 => ?_)
          | refine qsm_callL hc (qim_up (qi_copy (d := d) (k := 84) ht (by decide)) (by omega)) rfl rfl rfl rfl rfl rfl rfl rfl (ai_rcv1 rfl rfl (qcs_obj hc)) (fun v47 s47 h47 f47 hc47 => ?_)
        show qsm L xs e Y bc bs _ qm_71 38 [some (.ref 1), some (.int 1), some (.int 1000000), some (.int 1), some (.int (nI i))] [] h47 _ _ _
        try simp only [zq, zi, zc, zv, zf, zbd_zbd, zbd_some, zbd_fault, zbd_none, zite0, zite1, ↓reduceIte, Nat.one_ne_zero]
        refine qsm_pls (n := 2) (k' := 11) (lo' := [some (.ref 1), some (.int 1), some (.int 1000000), some (.int 1), some (.int ((nI i) + 1))]) (S' := []) (h' := h47) rfl ?_
        rw [nI_1]
        refine qsm_pls (n := 2) (k' := 13) (lo' := [some (.ref 1), some (.int 1), some (.int 1000000), some (.int 1), some (.int (nI (i + 1)))]) (S' := [.int 1000000, .int (nI (i + 1))]) (h' := h47) rfl ?_
        refine qsm_icmp false rfl (qc_gtF (b := 1000000) (by omega) (by decide)) rfl ?_
        refine qsm_pls (n := 1) (k' := 15) (lo' := [some (.ref 1), some (.int 1), some (.int 1000000), some (.int 1), some (.int (nI (i + 1)))]) (S' := [.int 1]) (h' := h47) rfl ?_
        refine qsm_if false rfl (rfl) rfl ?_
        refine qsm_pls (n := 1) (k' := 17) (lo' := [some (.ref 1), some (.int 1), some (.int 1000000), some (.int 1), some (.int (nI (i + 1)))]) (S' := [.ref 1]) (h' := h47) rfl ?_
        first
          | refine qsm_call hc47 (qim_up (hex) (by omega)) rfl rfl rfl rfl rfl rfl rfl rfl (ai_rcv1 rfl rfl (qcs_obj hc47)) (fun v48 s48 h48 f48 hc48 => ?_)
          | refine qsm_callL hc47 (qim_up (hex) (by omega)) rfl rfl rfl rfl rfl rfl rfl rfl (ai_rcv1 rfl rfl (qcs_obj hc47)) (fun v48 s48 h48 f48 hc48 => ?_)
        show qsm L xs e Y bc bs _ qm_71 18 [some (.ref 1), some (.int 1), some (.int 1000000), some (.int 1), some (.int (nI (i + 1)))] [.int (nI v48)] h48 _ _ _
        try simp only [zq, zi, zc, zv, zf, zbd_zbd, zbd_some, zbd_fault, zbd_none, zite0, zite1, ↓reduceIte, Nat.one_ne_zero]
        refine qsm_pls (n := 1) (k' := 19) (lo' := [some (.ref 1), some (.int 1), some (.int 1000000), some (.int 1), some (.int (nI (i + 1)))]) (S' := []) (h' := h48) rfl ?_
        by_cases gg : s48.1 ≤ s.1
        · rw [if_pos gg]; exact qsm_none
        · rw [if_neg gg]; exact ih (i + 1) _ _ (by omega) (by omega) hc48
      · first | rw [if_neg t46] | rw [zci_F t46] | skip
        try simp only [zq, zi, zc, zv, zf, zbd_zbd, zbd_some, zbd_fault, zbd_none, zite0, zite1, ↓reduceIte, Nat.one_ne_zero]
        refine qsm_acmp true rfl (qzk (hlt _) (by decide)) (qa_neT t46) rfl ?_
        refine qsm_pls (n := 3) (k' := 34) (lo' := [some (.ref 1), some (.int 1), some (.int 1000000), some (.int 0), some (.int (nI i))]) (S' := [.int 0]) (h' := h) rfl ?_
        refine qsm_if true rfl (rfl) rfl ?_
        refine qsm_pls (n := 2) (k' := 11) (lo' := [some (.ref 1), some (.int 1), some (.int 1000000), some (.int 0), some (.int ((nI i) + 1))]) (S' := []) (h' := h) rfl ?_
        rw [nI_1]
        refine qsm_pls (n := 2) (k' := 13) (lo' := [some (.ref 1), some (.int 1), some (.int 1000000), some (.int 0), some (.int (nI (i + 1)))]) (S' := [.int 1000000, .int (nI (i + 1))]) (h' := h) rfl ?_
        refine qsm_icmp false rfl (qc_gtF (b := 1000000) (by omega) (by decide)) rfl ?_
        refine qsm_pls (n := 1) (k' := 15) (lo' := [some (.ref 1), some (.int 1), some (.int 1000000), some (.int 0), some (.int (nI (i + 1)))]) (S' := [.int 0]) (h' := h) rfl ?_
        refine qsm_if true rfl (rfl) rfl ?_
        exact tail _ _ _ _ hc
  simp only [z_args, z_exs, zq, zi, zc, zv, zf, zbd_zbd, zbd_some, zbd_fault, zbd_none, zite0, zite1, ↓reduceIte, Nat.one_ne_zero]
  try simp only [zq, zi, zc, zv, zf, zbd_zbd, zbd_some, zbd_fault, zbd_none, zite0, zite1, ↓reduceIte, Nat.one_ne_zero]
  refine qsm_pls (n := 4) (k' := 4) (lo' := [some (.ref 1), some (.int 1), some (.int 1000000), some (.int 1), none]) (S' := [.ref 1, .ref 1]) (h' := h) rfl ?_
  refine qsm_getf (v := .retAddr (ztk e s.1)) rfl (qcs_obj hc) rfl rfl rfl ?_
  first
    | refine qsm_call hc (qim_up (qi_copy (d := d) (k := (ztk e s.1)) ht (hlt _)) (by omega)) rfl rfl rfl rfl rfl rfl rfl rfl (ai_rcv1 rfl rfl (qcs_obj hc)) (fun v49 s49 h49 f49 hc49 => ?_)
    | refine qsm_callL hc (qim_up (qi_copy (d := d) (k := (ztk e s.1)) ht (hlt _)) (by omega)) rfl rfl rfl rfl rfl rfl rfl rfl (ai_rcv1 rfl rfl (qcs_obj hc)) (fun v49 s49 h49 f49 hc49 => ?_)
  show qsm L xs e Y bc bs _ qm_71 6 [some (.ref 1), some (.int 1), some (.int 1000000), some (.int 1), none] [] h49 _ _ _
  try simp only [zq, zi, zc, zv, zf, zbd_zbd, zbd_some, zbd_fault, zbd_none, zite0, zite1, ↓reduceIte, Nat.one_ne_zero]
  refine qsm_pls (n := 2) (k' := 8) (lo' := [some (.ref 1), some (.int 1), some (.int 1000000), some (.int 1), none]) (S' := [.retAddr 82, .ref 1]) (h' := h49) rfl ?_
  first
    | refine qsm_call hc49 (qim_up (qi_copy (d := d) (k := 82) ht (by decide)) (by omega)) rfl rfl rfl rfl rfl rfl rfl rfl (ai_rcv1 rfl rfl (qcs_obj hc49)) (fun v50 s50 h50 f50 hc50 => ?_)
    | refine qsm_callL hc49 (qim_up (qi_copy (d := d) (k := 82) ht (by decide)) (by omega)) rfl rfl rfl rfl rfl rfl rfl rfl (ai_rcv1 rfl rfl (qcs_obj hc49)) (fun v50 s50 h50 f50 hc50 => ?_)
  show qsm L xs e Y bc bs _ qm_71 9 [some (.ref 1), some (.int 1), some (.int 1000000), some (.int 1), none] [] h50 _ _ _
  try simp only [zq, zi, zc, zv, zf, zbd_zbd, zbd_some, zbd_fault, zbd_none, zite0, zite1, ↓reduceIte, Nat.one_ne_zero]
  refine qsm_pls (n := 4) (k' := 13) (lo' := [some (.ref 1), some (.int 1), some (.int 1000000), some (.int 1), some (.int 1)]) (S' := [.int 1000000, .int 1]) (h' := h50) rfl ?_
  refine qsm_icmp false rfl (by decide) rfl ?_
  refine qsm_pls (n := 1) (k' := 15) (lo' := [some (.ref 1), some (.int 1), some (.int 1000000), some (.int 1), some (.int 1)]) (S' := [.int 1]) (h' := h50) rfl ?_
  refine qsm_if false rfl (rfl) rfl ?_
  refine qsm_pls (n := 1) (k' := 17) (lo' := [some (.ref 1), some (.int 1), some (.int 1000000), some (.int 1), some (.int 1)]) (S' := [.ref 1]) (h' := h50) rfl ?_
  first
    | refine qsm_call hc50 (qim_up (hex) (by omega)) rfl rfl rfl rfl rfl rfl rfl rfl (ai_rcv1 rfl rfl (qcs_obj hc50)) (fun v51 s51 h51 f51 hc51 => ?_)
    | refine qsm_callL hc50 (qim_up (hex) (by omega)) rfl rfl rfl rfl rfl rfl rfl rfl (ai_rcv1 rfl rfl (qcs_obj hc50)) (fun v51 s51 h51 f51 hc51 => ?_)
  show qsm L xs e Y bc bs _ qm_71 18 [some (.ref 1), some (.int 1), some (.int 1000000), some (.int 1), some (.int 1)] [.int (nI v51)] h51 _ _ _
  try simp only [zq, zi, zc, zv, zf, zbd_zbd, zbd_some, zbd_fault, zbd_none, zite0, zite1, ↓reduceIte, Nat.one_ne_zero]
  refine qsm_pls (n := 1) (k' := 19) (lo' := [some (.ref 1), some (.int 1), some (.int 1000000), some (.int 1), some (.int 1)]) (S' := []) (h' := h51) rfl ?_
  refine loop _ (fun x3 x4 sj hj hcj => ?_) zN 1 _ _ (by decide) (by omega) hc51
  try simp only [zq, zi, zc, zv, zf, zbd_zbd, zbd_some, zbd_fault, zbd_none, zite0, zite1, ↓reduceIte, Nat.one_ne_zero]
  refine qsm_pls (n := 2) (k' := 42) (lo' := [some (.ref 1), some (.int 1), some (.int 1000000), some (x3), some (x4)]) (S' := [.retAddr 83, .ref 1]) (h' := hj) rfl ?_
  first
    | refine qsm_call hcj (qim_up (qi_copy (d := d) (k := 83) ht (by decide)) (by omega)) rfl rfl rfl rfl rfl rfl rfl rfl (ai_rcv1 rfl rfl (qcs_obj hcj)) (fun v52 s52 h52 f52 hc52 => ?_)
    | refine qsm_callL hcj (qim_up (qi_copy (d := d) (k := 83) ht (by decide)) (by omega)) rfl rfl rfl rfl rfl rfl rfl rfl (ai_rcv1 rfl rfl (qcs_obj hcj)) (fun v52 s52 h52 f52 hc52 => ?_)
  show qsm L xs e Y bc bs _ qm_71 43 [some (.ref 1), some (.int 1), some (.int 1000000), some (x3), some (x4)] [] h52 _ _ _
  try simp only [zq, zi, zc, zv, zf, zbd_zbd, zbd_some, zbd_fault, zbd_none, zite0, zite1, ↓reduceIte, Nat.one_ne_zero]
  exact qsm_ret7 hc52 rfl
/-- Grammar.function() -/
theorem qs_fun (ht : qtk e Y) (hex : qim L xs e Y bc bs d 55 [.ref 1] 1 ex) : qim L xs e Y bc bs (d + 8) 70 [.ref 1] 0 (z_fun e ex) := by
  have hlt := qtk_lt ht
  refine qim_of (M := qm_70) rfl rfl (fun P s h hc => ?_)
  show qsm L xs e Y bc bs _ qm_70 0 [some (.ref 1)] [] h _ _ _
  simp only [z_fun, zq, zi, zc, zv, zf, zbd_zbd, zbd_some, zbd_fault, zbd_none, zite0, zite1, ↓reduceIte, Nat.one_ne_zero]
  try simp only [zq, zi, zc, zv, zf, zbd_zbd, zbd_some, zbd_fault, zbd_none, zite0, zite1, ↓reduceIte, Nat.one_ne_zero]
  refine qsm_pls (n := 2) (k' := 2) (lo' := [some (.ref 1)]) (S' := [.ref 1, .retAddr 3001]) (h' := h) rfl ?_
  refine qsm_getf (v := .retAddr (ztk e s.1)) rfl (qcs_obj hc) rfl rfl rfl ?_
  refine qsm_ask (qe_up (by omega) (q_ord (d := d) hlt s.1)) rfl rfl rfl rfl rfl rfl rfl (ai_rcv1 rfl rfl (q_mkob hlt s.1)) ?_
  show qsm L xs e Y bc bs _ qm_70 4 [some (.ref 1)] [.int (nI (ztk e s.1)), .retAddr 3001] h _ _ _
  refine qsm_st (fun _ hg => qg_ald (ty := .int) rfl (fun _ _ _ => rfl) qZ_sw (hlt _) (by decide) hg) ?_
  show qsm L xs e Y bc bs _ qm_70 5 [some (.ref 1)] [.int (qr_sw.getD (ztk e s.1) 0)] h _ _ _
  by_cases t53 : ztk e s.1 = 0
  · rw [if_pos t53]
    refine qsm_sw (k' := 6) rfl (by rw [t53]; decide) ?_
    try simp only [zq, zi, zc, zv, zf, zbd_zbd, zbd_some, zbd_fault, zbd_none, zite0, zite1, ↓reduceIte, Nat.one_ne_zero]
    refine qsm_pls (n := 3) (k' := 9) (lo' := [some (.ref 1)]) (S' := [.int 1, .int 1, .ref 1]) (h' := h) rfl ?_
    first
      | refine qsm_call hc (qim_up (qs_args11 (d := d) ht hex) (by omega)) rfl rfl rfl rfl rfl rfl rfl rfl (ai_rcv1 rfl rfl (qcs_obj hc)) (fun v54 s54 h54 f54 hc54 => ?_)
      | refine qsm_callL hc (qim_up (qs_args11 (d := d) ht hex) (by omega)) rfl rfl rfl rfl rfl rfl rfl rfl (ai_rcv1 rfl rfl (qcs_obj hc)) (fun v54 s54 h54 f54 hc54 => ?_)
    show qsm L xs e Y bc bs _ qm_70 10 [some (.ref 1)] [] h54 _ _ _
    try simp only [zq, zi, zc, zv, zf, zbd_zbd, zbd_some, zbd_fault, zbd_none, zite0, zite1, ↓reduceIte, Nat.one_ne_zero]
    refine qsm_pls (n := 1) (k' := 37) (lo' := [some (.ref 1)]) (S' := []) (h' := h54) rfl ?_
    exact qsm_ret7 hc54 rfl
  rw [if_neg t53]
  by_cases t55 : ztk e s.1 = 41
  · rw [if_pos t55]
    refine qsm_sw (k' := 6) rfl (by rw [t55]; decide) ?_
    try simp only [zq, zi, zc, zv, zf, zbd_zbd, zbd_some, zbd_fault, zbd_none, zite0, zite1, ↓reduceIte, Nat.one_ne_zero]
    refine qsm_pls (n := 3) (k' := 9) (lo' := [some (.ref 1)]) (S' := [.int 1, .int 1, .ref 1]) (h' := h) rfl ?_
    first
      | refine qsm_call hc (qim_up (qs_args11 (d := d) ht hex) (by omega)) rfl rfl rfl rfl rfl rfl rfl rfl (ai_rcv1 rfl rfl (qcs_obj hc)) (fun v56 s56 h56 f56 hc56 => ?_)
      | refine qsm_callL hc (qim_up (qs_args11 (d := d) ht hex) (by omega)) rfl rfl rfl rfl rfl rfl rfl rfl (ai_rcv1 rfl rfl (qcs_obj hc)) (fun v56 s56 h56 f56 hc56 => ?_)
    show qsm L xs e Y bc bs _ qm_70 10 [some (.ref 1)] [] h56 _ _ _
    try simp only [zq, zi, zc, zv, zf, zbd_zbd, zbd_some, zbd_fault, zbd_none, zite0, zite1, ↓reduceIte, Nat.one_ne_zero]
    refine qsm_pls (n := 1) (k' := 37) (lo' := [some (.ref 1)]) (S' := []) (h' := h56) rfl ?_
    exact qsm_ret7 hc56 rfl
  rw [if_neg t55]
  by_cases t57 : ztk e s.1 = 78
  · rw [if_pos t57]
    refine qsm_sw (k' := 6) rfl (by rw [t57]; decide) ?_
    try simp only [zq, zi, zc, zv, zf, zbd_zbd, zbd_some, zbd_fault, zbd_none, zite0, zite1, ↓reduceIte, Nat.one_ne_zero]
    refine qsm_pls (n := 3) (k' := 9) (lo' := [some (.ref 1)]) (S' := [.int 1, .int 1, .ref 1]) (h' := h) rfl ?_
    first
      | refine qsm_call hc (qim_up (qs_args11 (d := d) ht hex) (by omega)) rfl rfl rfl rfl rfl rfl rfl rfl (ai_rcv1 rfl rfl (qcs_obj hc)) (fun v58 s58 h58 f58 hc58 => ?_)
      | refine qsm_callL hc (qim_up (qs_args11 (d := d) ht hex) (by omega)) rfl rfl rfl rfl rfl rfl rfl rfl (ai_rcv1 rfl rfl (qcs_obj hc)) (fun v58 s58 h58 f58 hc58 => ?_)
    show qsm L xs e Y bc bs _ qm_70 10 [some (.ref 1)] [] h58 _ _ _
    try simp only [zq, zi, zc, zv, zf, zbd_zbd, zbd_some, zbd_fault, zbd_none, zite0, zite1, ↓reduceIte, Nat.one_ne_zero]
    refine qsm_pls (n := 1) (k' := 37) (lo' := [some (.ref 1)]) (S' := []) (h' := h58) rfl ?_
    exact qsm_ret7 hc58 rfl
  rw [if_neg t57]
  by_cases t59 : ztk e s.1 = 45
  · rw [if_pos t59]
    refine qsm_sw (k' := 6) rfl (by rw [t59]; decide) ?_
    try simp only [zq, zi, zc, zv, zf, zbd_zbd, zbd_some, zbd_fault, zbd_none, zite0, zite1, ↓reduceIte, Nat.one_ne_zero]
    refine qsm_pls (n := 3) (k' := 9) (lo' := [some (.ref 1)]) (S' := [.int 1, .int 1, .ref 1]) (h' := h) rfl ?_
    first
      | refine qsm_call hc (qim_up (qs_args11 (d := d) ht hex) (by omega)) rfl rfl rfl rfl rfl rfl rfl rfl (ai_rcv1 rfl rfl (qcs_obj hc)) (fun v60 s60 h60 f60 hc60 => ?_)
      | refine qsm_callL hc (qim_up (qs_args11 (d := d) ht hex) (by omega)) rfl rfl rfl rfl rfl rfl rfl rfl (ai_rcv1 rfl rfl (qcs_obj hc)) (fun v60 s60 h60 f60 hc60 => ?_)
    show qsm L xs e Y bc bs _ qm_70 10 [some (.ref 1)] [] h60 _ _ _
    try simp only [zq, zi, zc, zv, zf, zbd_zbd, zbd_some, zbd_fault, zbd_none, zite0, zite1, ↓reduceIte, Nat.one_ne_zero]
    refine qsm_pls (n := 1) (k' := 37) (lo' := [some (.ref 1)]) (S' := []) (h' := h60) rfl ?_
    exact qsm_ret7 hc60 rfl
  rw [if_neg t59]
  by_cases t61 : ztk e s.1 = 69
  · rw [if_pos t61]
    refine qsm_sw (k' := 11) rfl (by rw [t61]; decide) ?_
    try simp only [zq, zi, zc, zv, zf, zbd_zbd, zbd_some, zbd_fault, zbd_none, zite0, zite1, ↓reduceIte, Nat.one_ne_zero]
    refine qsm_pls (n := 3) (k' := 14) (lo' := [some (.ref 1)]) (S' := [.int 3, .int 2, .ref 1]) (h' := h) rfl ?_
    first
      | refine qsm_call hc (qim_up (qs_args23 (d := d) ht hex) (by omega)) rfl rfl rfl rfl rfl rfl rfl rfl (ai_rcv1 rfl rfl (qcs_obj hc)) (fun v62 s62 h62 f62 hc62 => ?_)
      | refine qsm_callL hc (qim_up (qs_args23 (d := d) ht hex) (by omega)) rfl rfl rfl rfl rfl rfl rfl rfl (ai_rcv1 rfl rfl (qcs_obj hc)) (fun v62 s62 h62 f62 hc62 => ?_)
    show qsm L xs e Y bc bs _ qm_70 15 [some (.ref 1)] [] h62 _ _ _
    try simp only [zq, zi, zc, zv, zf, zbd_zbd, zbd_some, zbd_fault, zbd_none, zite0, zite1, ↓reduceIte, Nat.one_ne_zero]
    refine qsm_pls (n := 1) (k' := 37) (lo' := [some (.ref 1)]) (S' := []) (h' := h62) rfl ?_
    exact qsm_ret7 hc62 rfl
  rw [if_neg t61]
  by_cases t63 : ztk e s.1 = 13
  · rw [if_pos t63]
    refine qsm_sw (k' := 16) rfl (by rw [t63]; decide) ?_
    try simp only [zq, zi, zc, zv, zf, zbd_zbd, zbd_some, zbd_fault, zbd_none, zite0, zite1, ↓reduceIte, Nat.one_ne_zero]
    refine qsm_pls (n := 3) (k' := 19) (lo' := [some (.ref 1)]) (S' := [.int 1000000, .int 1, .ref 1]) (h' := h) rfl ?_
    first
      | refine qsm_call hc (qim_up (qs_argsN (d := d) ht hex) (by omega)) rfl rfl rfl rfl rfl rfl rfl rfl (ai_rcv1 rfl rfl (qcs_obj hc)) (fun v64 s64 h64 f64 hc64 => ?_)
      | refine qsm_callL hc (qim_up (qs_argsN (d := d) ht hex) (by omega)) rfl rfl rfl rfl rfl rfl rfl rfl (ai_rcv1 rfl rfl (qcs_obj hc)) (fun v64 s64 h64 f64 hc64 => ?_)
    show qsm L xs e Y bc bs _ qm_70 20 [some (.ref 1)] [] h64 _ _ _
    try simp only [zq, zi, zc, zv, zf, zbd_zbd, zbd_some, zbd_fault, zbd_none, zite0, zite1, ↓reduceIte, Nat.one_ne_zero]
    refine qsm_pls (n := 1) (k' := 37) (lo' := [some (.ref 1)]) (S' := []) (h' := h64) rfl ?_
    exact qsm_ret7 hc64 rfl
  rw [if_neg t63]
  by_cases t65 : ztk e s.1 = 51
  · rw [if_pos t65]
    refine qsm_sw (k' := 21) rfl (by rw [t65]; decide) ?_
    try simp only [zq, zi, zc, zv, zf, zbd_zbd, zbd_some, zbd_fault, zbd_none, zite0, zite1, ↓reduceIte, Nat.one_ne_zero]
    refine qsm_pls (n := 3) (k' := 24) (lo' := [some (.ref 1)]) (S' := [.int 2, .int 2, .ref 1]) (h' := h) rfl ?_
    first
      | refine qsm_call hc (qim_up (qs_args22 (d := d) ht hex) (by omega)) rfl rfl rfl rfl rfl rfl rfl rfl (ai_rcv1 rfl rfl (qcs_obj hc)) (fun v66 s66 h66 f66 hc66 => ?_)
      | refine qsm_callL hc (qim_up (qs_args22 (d := d) ht hex) (by omega)) rfl rfl rfl rfl rfl rfl rfl rfl (ai_rcv1 rfl rfl (qcs_obj hc)) (fun v66 s66 h66 f66 hc66 => ?_)
    show qsm L xs e Y bc bs _ qm_70 25 [some (.ref 1)] [] h66 _ _ _
    try simp only [zq, zi, zc, zv, zf, zbd_zbd, zbd_some, zbd_fault, zbd_none, zite0, zite1, ↓reduceIte, Nat.one_ne_zero]
    refine qsm_pls (n := 1) (k' := 37) (lo' := [some (.ref 1)]) (S' := []) (h' := h66) rfl ?_
    exact qsm_ret7 hc66 rfl
  rw [if_neg t65]
  by_cases t67 : ztk e s.1 = 11
  · rw [if_pos t67]
    refine qsm_sw (k' := 26) rfl (by rw [t67]; decide) ?_
    try simp only [zq, zi, zc, zv, zf, zbd_zbd, zbd_some, zbd_fault, zbd_none, zite0, zite1, ↓reduceIte, Nat.one_ne_zero]
    refine qsm_pls (n := 1) (k' := 27) (lo' := [some (.ref 1)]) (S' := [.ref 1]) (h' := h) rfl ?_
    first
      | refine qsm_call hc (qim_up (qs_cast (d := d) ht hex) (by omega)) rfl rfl rfl rfl rfl rfl rfl rfl (ai_rcv1 rfl rfl (qcs_obj hc)) (fun v68 s68 h68 f68 hc68 => ?_)
      | refine qsm_callL hc (qim_up (qs_cast (d := d) ht hex) (by omega)) rfl rfl rfl rfl rfl rfl rfl rfl (ai_rcv1 rfl rfl (qcs_obj hc)) (fun v68 s68 h68 f68 hc68 => ?_)
    show qsm L xs e Y bc bs _ qm_70 28 [some (.ref 1)] [] h68 _ _ _
    try simp only [zq, zi, zc, zv, zf, zbd_zbd, zbd_some, zbd_fault, zbd_none, zite0, zite1, ↓reduceIte, Nat.one_ne_zero]
    refine qsm_pls (n := 1) (k' := 37) (lo' := [some (.ref 1)]) (S' := []) (h' := h68) rfl ?_
    exact qsm_ret7 hc68 rfl
  rw [if_neg t67]
  by_cases t69 : ztk e s.1 = 16
  · rw [if_pos t69]
    refine qsm_sw (k' := 29) rfl (by rw [t69]; decide) ?_
    try simp only [zq, zi, zc, zv, zf, zbd_zbd, zbd_some, zbd_fault, zbd_none, zite0, zite1, ↓reduceIte, Nat.one_ne_zero]
    refine qsm_pls (n := 1) (k' := 30) (lo' := [some (.ref 1)]) (S' := [.ref 1]) (h' := h) rfl ?_
    first
      | refine qsm_call hc (qim_up (qs_agg (d := d) ht hex) (by omega)) rfl rfl rfl rfl rfl rfl rfl rfl (ai_rcv1 rfl rfl (qcs_obj hc)) (fun v70 s70 h70 f70 hc70 => ?_)
      | refine qsm_callL hc (qim_up (qs_agg (d := d) ht hex) (by omega)) rfl rfl rfl rfl rfl rfl rfl rfl (ai_rcv1 rfl rfl (qcs_obj hc)) (fun v70 s70 h70 f70 hc70 => ?_)
    show qsm L xs e Y bc bs _ qm_70 31 [some (.ref 1)] [] h70 _ _ _
    try simp only [zq, zi, zc, zv, zf, zbd_zbd, zbd_some, zbd_fault, zbd_none, zite0, zite1, ↓reduceIte, Nat.one_ne_zero]
    refine qsm_pls (n := 1) (k' := 37) (lo' := [some (.ref 1)]) (S' := []) (h' := h70) rfl ?_
    exact qsm_ret7 hc70 rfl
  rw [if_neg t69]
  by_cases t71 : ztk e s.1 = 70
  · rw [if_pos t71]
    refine qsm_sw (k' := 29) rfl (by rw [t71]; decide) ?_
    try simp only [zq, zi, zc, zv, zf, zbd_zbd, zbd_some, zbd_fault, zbd_none, zite0, zite1, ↓reduceIte, Nat.one_ne_zero]
    refine qsm_pls (n := 1) (k' := 30) (lo' := [some (.ref 1)]) (S' := [.ref 1]) (h' := h) rfl ?_
    first
      | refine qsm_call hc (qim_up (qs_agg (d := d) ht hex) (by omega)) rfl rfl rfl rfl rfl rfl rfl rfl (ai_rcv1 rfl rfl (qcs_obj hc)) (fun v72 s72 h72 f72 hc72 => ?_)
      | refine qsm_callL hc (qim_up (qs_agg (d := d) ht hex) (by omega)) rfl rfl rfl rfl rfl rfl rfl rfl (ai_rcv1 rfl rfl (qcs_obj hc)) (fun v72 s72 h72 f72 hc72 => ?_)
    show qsm L xs e Y bc bs _ qm_70 31 [some (.ref 1)] [] h72 _ _ _
    try simp only [zq, zi, zc, zv, zf, zbd_zbd, zbd_some, zbd_fault, zbd_none, zite0, zite1, ↓reduceIte, Nat.one_ne_zero]
    refine qsm_pls (n := 1) (k' := 37) (lo' := [some (.ref 1)]) (S' := []) (h' := h72) rfl ?_
    exact qsm_ret7 hc72 rfl
  rw [if_neg t71]
  by_cases t73 : ztk e s.1 = 47
  · rw [if_pos t73]
    refine qsm_sw (k' := 29) rfl (by rw [t73]; decide) ?_
    try simp only [zq, zi, zc, zv, zf, zbd_zbd, zbd_some, zbd_fault, zbd_none, zite0, zite1, ↓reduceIte, Nat.one_ne_zero]
    refine qsm_pls (n := 1) (k' := 30) (lo' := [some (.ref 1)]) (S' := [.ref 1]) (h' := h) rfl ?_
    first
      | refine qsm_call hc (qim_up (qs_agg (d := d) ht hex) (by omega)) rfl rfl rfl rfl rfl rfl rfl rfl (ai_rcv1 rfl rfl (qcs_obj hc)) (fun v74 s74 h74 f74 hc74 => ?_)
      | refine qsm_callL hc (qim_up (qs_agg (d := d) ht hex) (by omega)) rfl rfl rfl rfl rfl rfl rfl rfl (ai_rcv1 rfl rfl (qcs_obj hc)) (fun v74 s74 h74 f74 hc74 => ?_)
    show qsm L xs e Y bc bs _ qm_70 31 [some (.ref 1)] [] h74 _ _ _
    try simp only [zq, zi, zc, zv, zf, zbd_zbd, zbd_some, zbd_fault, zbd_none, zite0, zite1, ↓reduceIte, Nat.one_ne_zero]
    refine qsm_pls (n := 1) (k' := 37) (lo' := [some (.ref 1)]) (S' := []) (h' := h74) rfl ?_
    exact qsm_ret7 hc74 rfl
  rw [if_neg t73]
  by_cases t75 : ztk e s.1 = 46
  · rw [if_pos t75]
    refine qsm_sw (k' := 29) rfl (by rw [t75]; decide) ?_
    try simp only [zq, zi, zc, zv, zf, zbd_zbd, zbd_some, zbd_fault, zbd_none, zite0, zite1, ↓reduceIte, Nat.one_ne_zero]
    refine qsm_pls (n := 1) (k' := 30) (lo' := [some (.ref 1)]) (S' := [.ref 1]) (h' := h) rfl ?_
    first
      | refine qsm_call hc (qim_up (qs_agg (d := d) ht hex) (by omega)) rfl rfl rfl rfl rfl rfl rfl rfl (ai_rcv1 rfl rfl (qcs_obj hc)) (fun v76 s76 h76 f76 hc76 => ?_)
      | refine qsm_callL hc (qim_up (qs_agg (d := d) ht hex) (by omega)) rfl rfl rfl rfl rfl rfl rfl rfl (ai_rcv1 rfl rfl (qcs_obj hc)) (fun v76 s76 h76 f76 hc76 => ?_)
    show qsm L xs e Y bc bs _ qm_70 31 [some (.ref 1)] [] h76 _ _ _
    try simp only [zq, zi, zc, zv, zf, zbd_zbd, zbd_some, zbd_fault, zbd_none, zite0, zite1, ↓reduceIte, Nat.one_ne_zero]
    refine qsm_pls (n := 1) (k' := 37) (lo' := [some (.ref 1)]) (S' := []) (h' := h76) rfl ?_
    exact qsm_ret7 hc76 rfl
  rw [if_neg t75]
  by_cases t77 : ztk e s.1 = 5
  · rw [if_pos t77]
    refine qsm_sw (k' := 29) rfl (by rw [t77]; decide) ?_
    try simp only [zq, zi, zc, zv, zf, zbd_zbd, zbd_some, zbd_fault, zbd_none, zite0, zite1, ↓reduceIte, Nat.one_ne_zero]
    refine qsm_pls (n := 1) (k' := 30) (lo' := [some (.ref 1)]) (S' := [.ref 1]) (h' := h) rfl ?_
    first
      | refine qsm_call hc (qim_up (qs_agg (d := d) ht hex) (by omega)) rfl rfl rfl rfl rfl rfl rfl rfl (ai_rcv1 rfl rfl (qcs_obj hc)) (fun v78 s78 h78 f78 hc78 => ?_)
      | refine qsm_callL hc (qim_up (qs_agg (d := d) ht hex) (by omega)) rfl rfl rfl rfl rfl rfl rfl rfl (ai_rcv1 rfl rfl (qcs_obj hc)) (fun v78 s78 h78 f78 hc78 => ?_)
    show qsm L xs e Y bc bs _ qm_70 31 [some (.ref 1)] [] h78 _ _ _
    try simp only [zq, zi, zc, zv, zf, zbd_zbd, zbd_some, zbd_fault, zbd_none, zite0, zite1, ↓reduceIte, Nat.one_ne_zero]
    refine qsm_pls (n := 1) (k' := 37) (lo' := [some (.ref 1)]) (S' := []) (h' := h78) rfl ?_
    exact qsm_ret7 hc78 rfl
  rw [if_neg t77]
  refine qsm_sw (k' := 32) rfl (if_pos (sw_70 (hlt _) t53 t55 t57 t59 t61 t63 t65 t67 t69 t71 t73 t75 t77)) ?_
  try simp only [zq, zi, zc, zv, zf, zbd_zbd, zbd_some, zbd_fault, zbd_none, zite0, zite1, ↓reduceIte, Nat.one_ne_zero]
  exact qsm_throw hc rfl rfl rfl
/-- Grammar.primary() -/
theorem q_prim (ht : qtk e Y) (hex : qim L xs e Y bc bs d 55 [.ref 1] 1 ex) (hqy : qim L xs e Y bc bs d 62 [.ref 1] 0 qy) : qim L xs e Y bc bs (d + 9) 60 [.ref 1] 1 (z_prim e ex qy) := by
  have hlt := qtk_lt ht
  refine qim_of (M := qm_60) rfl rfl (fun P s h hc => ?_)
  show qsm L xs e Y bc bs _ qm_60 0 [some (.ref 1), none] [] h _ _ _
  simp only [z_prim, zq, zi, zc, zv, zf, zbd_zbd, zbd_some, zbd_fault, zbd_none, zite0, zite1, ↓reduceIte, Nat.one_ne_zero]
  try simp only [zq, zi, zc, zv, zf, zbd_zbd, zbd_some, zbd_fault, zbd_none, zite0, zite1, ↓reduceIte, Nat.one_ne_zero]
  refine qsm_pls (n := 4) (k' := 4) (lo' := [some (.ref 1), some (.int 0)]) (S' := [.ref 1, .retAddr 3001]) (h' := h) rfl ?_
  refine qsm_getf (v := .retAddr (ztk e s.1)) rfl (qcs_obj hc) rfl rfl rfl ?_
  refine qsm_ask (qe_up (by omega) (q_ord (d := d) hlt s.1)) rfl rfl rfl rfl rfl rfl rfl (ai_rcv1 rfl rfl (q_mkob hlt s.1)) ?_
  show qsm L xs e Y bc bs _ qm_60 6 [some (.ref 1), some (.int 0)] [.int (nI (ztk e s.1)), .retAddr 3001] h _ _ _
  refine qsm_st (fun _ hg => qg_ald (ty := .int) rfl (fun _ _ _ => rfl) qZ_sw (hlt _) (by decide) hg) ?_
  show qsm L xs e Y bc bs _ qm_60 7 [some (.ref 1), some (.int 0)] [.int (qr_sw.getD (ztk e s.1) 0)] h _ _ _
  by_cases t79 : ztk e s.1 = 100
  · rw [if_pos t79]
    refine qsm_sw (k' := 8) rfl (by rw [t79]; decide) ?_
    try simp only [zq, zi, zc, zv, zf, zbd_zbd, zbd_some, zbd_fault, zbd_none, zite0, zite1, ↓reduceIte, Nat.one_ne_zero]
    refine qsm_pls (n := 1) (k' := 9) (lo' := [some (.ref 1), some (.int 0)]) (S' := [.ref 1]) (h' := h) rfl ?_
    first
      | refine qsm_call hc (qim_up (qi_number (d := d) ht) (by omega)) rfl rfl rfl rfl rfl rfl rfl rfl (ai_rcv1 rfl rfl (qcs_obj hc)) (fun v80 s80 h80 f80 hc80 => ?_)
      | refine qsm_callL hc (qim_up (qi_number (d := d) ht) (by omega)) rfl rfl rfl rfl rfl rfl rfl rfl (ai_rcv1 rfl rfl (qcs_obj hc)) (fun v80 s80 h80 f80 hc80 => ?_)
    show qsm L xs e Y bc bs _ qm_60 10 [some (.ref 1), some (.int 0)] [] h80 _ _ _
    try simp only [zq, zi, zc, zv, zf, zbd_zbd, zbd_some, zbd_fault, zbd_none, zite0, zite1, ↓reduceIte, Nat.one_ne_zero]
    refine qsm_pls (n := 2) (k' := 55) (lo' := [some (.ref 1), some (.int 0)]) (S' := [.int 0]) (h' := h80) rfl ?_
    exact qsm_ret5 (v := 0) hc80 rfl rfl rfl (by decide)
  rw [if_neg t79]
  by_cases t81 : ztk e s.1 = 101
  · rw [if_pos t81]
    refine qsm_sw (k' := 11) rfl (by rw [t81]; decide) ?_
    try simp only [zq, zi, zc, zv, zf, zbd_zbd, zbd_some, zbd_fault, zbd_none, zite0, zite1, ↓reduceIte, Nat.one_ne_zero]
    refine qsm_pls (n := 1) (k' := 12) (lo' := [some (.ref 1), some (.int 0)]) (S' := [.ref 1]) (h' := h) rfl ?_
    first
      | refine qsm_call hc (qim_up (qi_string (d := d) ht) (by omega)) rfl rfl rfl rfl rfl rfl rfl rfl (ai_rcv1 rfl rfl (qcs_obj hc)) (fun v82 s82 h82 f82 hc82 => ?_)
      | refine qsm_callL hc (qim_up (qi_string (d := d) ht) (by omega)) rfl rfl rfl rfl rfl rfl rfl rfl (ai_rcv1 rfl rfl (qcs_obj hc)) (fun v82 s82 h82 f82 hc82 => ?_)
    show qsm L xs e Y bc bs _ qm_60 13 [some (.ref 1), some (.int 0)] [] h82 _ _ _
    try simp only [zq, zi, zc, zv, zf, zbd_zbd, zbd_some, zbd_fault, zbd_none, zite0, zite1, ↓reduceIte, Nat.one_ne_zero]
    refine qsm_pls (n := 2) (k' := 55) (lo' := [some (.ref 1), some (.int 0)]) (S' := [.int 0]) (h' := h82) rfl ?_
    exact qsm_ret5 (v := 0) hc82 rfl rfl rfl (by decide)
  rw [if_neg t81]
  by_cases t83 : ztk e s.1 = 50
  · rw [if_pos t83]
    refine qsm_sw (k' := 14) rfl (by rw [t83]; decide) ?_
    try simp only [zq, zi, zc, zv, zf, zbd_zbd, zbd_some, zbd_fault, zbd_none, zite0, zite1, ↓reduceIte, Nat.one_ne_zero]
    refine qsm_pls (n := 2) (k' := 16) (lo' := [some (.ref 1), some (.int 0)]) (S' := [.retAddr 50, .ref 1]) (h' := h) rfl ?_
    first
      | refine qsm_call hc (qim_up (qi_copy (d := d) (k := 50) ht (by decide)) (by omega)) rfl rfl rfl rfl rfl rfl rfl rfl (ai_rcv1 rfl rfl (qcs_obj hc)) (fun v84 s84 h84 f84 hc84 => ?_)
      | refine qsm_callL hc (qim_up (qi_copy (d := d) (k := 50) ht (by decide)) (by omega)) rfl rfl rfl rfl rfl rfl rfl rfl (ai_rcv1 rfl rfl (qcs_obj hc)) (fun v84 s84 h84 f84 hc84 => ?_)
    show qsm L xs e Y bc bs _ qm_60 17 [some (.ref 1), some (.int 0)] [] h84 _ _ _
    try simp only [zq, zi, zc, zv, zf, zbd_zbd, zbd_some, zbd_fault, zbd_none, zite0, zite1, ↓reduceIte, Nat.one_ne_zero]
    refine qsm_pls (n := 2) (k' := 55) (lo' := [some (.ref 1), some (.int 0)]) (S' := [.int 0]) (h' := h84) rfl ?_
    exact qsm_ret5 (v := 0) hc84 rfl rfl rfl (by decide)
  rw [if_neg t83]
  by_cases t85 : ztk e s.1 = 99
  · rw [if_pos t85]
    refine qsm_sw (k' := 18) rfl (by rw [t85]; decide) ?_
    try simp only [zq, zi, zc, zv, zf, zbd_zbd, zbd_some, zbd_fault, zbd_none, zite0, zite1, ↓reduceIte, Nat.one_ne_zero]
    refine qsm_pls (n := 1) (k' := 19) (lo' := [some (.ref 1), some (.int 0)]) (S' := [.ref 1]) (h' := h) rfl ?_
    first
      | refine qsm_call hc (qim_up (qi_name (d := d) ht) (by omega)) rfl rfl rfl rfl rfl rfl rfl rfl (ai_rcv1 rfl rfl (qcs_obj hc)) (fun v86 s86 h86 f86 hc86 => ?_)
      | refine qsm_callL hc (qim_up (qi_name (d := d) ht) (by omega)) rfl rfl rfl rfl rfl rfl rfl rfl (ai_rcv1 rfl rfl (qcs_obj hc)) (fun v86 s86 h86 f86 hc86 => ?_)
    show qsm L xs e Y bc bs _ qm_60 20 [some (.ref 1), some (.int 0)] [] h86 _ _ _
    try simp only [zq, zi, zc, zv, zf, zbd_zbd, zbd_some, zbd_fault, zbd_none, zite0, zite1, ↓reduceIte, Nat.one_ne_zero]
    refine qsm_pls (n := 2) (k' := 22) (lo' := [some (.ref 1), some (.int 0)]) (S' := [.retAddr 85, .ref 1]) (h' := h86) rfl ?_
    first
      | refine qsm_call hc86 (qim_up (qi_copyIf (d := d) (k := 85) ht (by decide)) (by omega)) rfl rfl rfl rfl rfl rfl rfl rfl (ai_rcv1 rfl rfl (qcs_obj hc86)) (fun v87 s87 h87 f87 hc87 => ?_)
      | refine qsm_callL hc86 (qim_up (qi_copyIf (d := d) (k := 85) ht (by decide)) (by omega)) rfl rfl rfl rfl rfl rfl rfl rfl (ai_rcv1 rfl rfl (qcs_obj hc86)) (fun v87 s87 h87 f87 hc87 => ?_)
    show qsm L xs e Y bc bs _ qm_60 23 [some (.ref 1), some (.int 0)] [.int (nI v87)] h87 _ _ _
    try simp only [zq, zi, zc, zv, zf, zbd_zbd, zbd_some, zbd_fault, zbd_none, zite0, zite1, ↓reduceIte, Nat.one_ne_zero]
    rcases zci_v f87 with ⟨e87, q87, n87⟩ | ⟨e87, n87⟩
    · subst e87
      show qsm L xs e Y bc bs _ qm_60 23 [some (.ref 1), some (.int 0)] [.int 0] h87 _ _ _
      try simp only [zq, zi, zc, zv, zf, zbd_zbd, zbd_some, zbd_fault, zbd_none, zite0, zite1, ↓reduceIte, Nat.one_ne_zero]
      refine qsm_if true rfl (rfl) rfl ?_
      refine qsm_pls (n := 1) (k' := 55) (lo' := [some (.ref 1), some (.int 0)]) (S' := [.int 0]) (h' := h87) rfl ?_
      exact qsm_ret5 (v := 0) hc87 rfl rfl rfl (by decide)
    · subst e87
      show qsm L xs e Y bc bs _ qm_60 23 [some (.ref 1), some (.int 0)] [.int 1] h87 _ _ _
      try simp only [zq, zi, zc, zv, zf, zbd_zbd, zbd_some, zbd_fault, zbd_none, zite0, zite1, ↓reduceIte, Nat.one_ne_zero]
      refine qsm_if false rfl (rfl) rfl ?_
      refine qsm_pls (n := 1) (k' := 25) (lo' := [some (.ref 1), some (.int 0)]) (S' := [.ref 1]) (h' := h87) rfl ?_
      first
        | refine qsm_call hc87 (qim_up (qi_name (d := d) ht) (by omega)) rfl rfl rfl rfl rfl rfl rfl rfl (ai_rcv1 rfl rfl (qcs_obj hc87)) (fun v88 s88 h88 f88 hc88 => ?_)
        | refine qsm_callL hc87 (qim_up (qi_name (d := d) ht) (by omega)) rfl rfl rfl rfl rfl rfl rfl rfl (ai_rcv1 rfl rfl (qcs_obj hc87)) (fun v88 s88 h88 f88 hc88 => ?_)
      show qsm L xs e Y bc bs _ qm_60 26 [some (.ref 1), some (.int 0)] [] h88 _ _ _
      try simp only [zq, zi, zc, zv, zf, zbd_zbd, zbd_some, zbd_fault, zbd_none, zite0, zite1, ↓reduceIte, Nat.one_ne_zero]
      refine qsm_pls (n := 2) (k' := 55) (lo' := [some (.ref 1), some (.int 0)]) (S' := [.int 0]) (h' := h88) rfl ?_
      exact qsm_ret5 (v := 0) hc88 rfl rfl rfl (by decide)
  rw [if_neg t85]
  by_cases t89 : ztk e s.1 = 82
  · rw [if_pos t89]
    refine qsm_sw (k' := 27) rfl (by rw [t89]; decide) ?_
    try simp only [zq, zi, zc, zv, zf, zbd_zbd, zbd_some, zbd_fault, zbd_none, zite0, zite1, ↓reduceIte, Nat.one_ne_zero]
    refine qsm_pls (n := 2) (k' := 29) (lo' := [some (.ref 1), some (.int 0)]) (S' := [.retAddr 82, .ref 1]) (h' := h) rfl ?_
    first
      | refine qsm_call hc (qim_up (qi_skip (d := d) (k := 82) ht (by decide)) (by omega)) rfl rfl rfl rfl rfl rfl rfl rfl (ai_rcv1 rfl rfl (qcs_obj hc)) (fun v90 s90 h90 f90 hc90 => ?_)
      | refine qsm_callL hc (qim_up (qi_skip (d := d) (k := 82) ht (by decide)) (by omega)) rfl rfl rfl rfl rfl rfl rfl rfl (ai_rcv1 rfl rfl (qcs_obj hc)) (fun v90 s90 h90 f90 hc90 => ?_)
    show qsm L xs e Y bc bs _ qm_60 30 [some (.ref 1), some (.int 0)] [] h90 _ _ _
    try simp only [zq, zi, zc, zv, zf, zbd_zbd, zbd_some, zbd_fault, zbd_none, zite0, zite1, ↓reduceIte, Nat.one_ne_zero]
    refine qsm_pls (n := 1) (k' := 31) (lo' := [some (.ref 1), some (.int 0)]) (S' := [.ref 1]) (h' := h90) rfl ?_
    first
      | refine qsm_call hc90 (qim_up (hex) (by omega)) rfl rfl rfl rfl rfl rfl rfl rfl (ai_rcv1 rfl rfl (qcs_obj hc90)) (fun v91 s91 h91 f91 hc91 => ?_)
      | refine qsm_callL hc90 (qim_up (hex) (by omega)) rfl rfl rfl rfl rfl rfl rfl rfl (ai_rcv1 rfl rfl (qcs_obj hc90)) (fun v91 s91 h91 f91 hc91 => ?_)
    show qsm L xs e Y bc bs _ qm_60 32 [some (.ref 1), some (.int 0)] [.int (nI v91)] h91 _ _ _
    try simp only [zq, zi, zc, zv, zf, zbd_zbd, zbd_some, zbd_fault, zbd_none, zite0, zite1, ↓reduceIte, Nat.one_ne_zero]
    refine qsm_pls (n := 3) (k' := 35) (lo' := [some (.ref 1), some (.int (nI v91))]) (S' := [.retAddr 83, .ref 1]) (h' := h91) rfl ?_
    first
      | refine qsm_call hc91 (qim_up (qi_skip (d := d) (k := 83) ht (by decide)) (by omega)) rfl rfl rfl rfl rfl rfl rfl rfl (ai_rcv1 rfl rfl (qcs_obj hc91)) (fun v92 s92 h92 f92 hc92 => ?_)
      | refine qsm_callL hc91 (qim_up (qi_skip (d := d) (k := 83) ht (by decide)) (by omega)) rfl rfl rfl rfl rfl rfl rfl rfl (ai_rcv1 rfl rfl (qcs_obj hc91)) (fun v92 s92 h92 f92 hc92 => ?_)
    show qsm L xs e Y bc bs _ qm_60 36 [some (.ref 1), some (.int (nI v91))] [] h92 _ _ _
    try simp only [zq, zi, zc, zv, zf, zbd_zbd, zbd_some, zbd_fault, zbd_none, zite0, zite1, ↓reduceIte, Nat.one_ne_zero]
    refine qsm_pls (n := 2) (k' := 55) (lo' := [some (.ref 1), some (.int (nI v91))]) (S' := [.int (nI v91)]) (h' := h92) rfl ?_
    exact qsm_ret5 (v := v91) hc92 rfl rfl rfl (by decide)
  rw [if_neg t89]
  by_cases t93 : ztk e s.1 = 27
  · rw [if_pos t93]
    refine qsm_sw (k' := 37) rfl (by rw [t93]; decide) ?_
    try simp only [zq, zi, zc, zv, zf, zbd_zbd, zbd_some, zbd_fault, zbd_none, zite0, zite1, ↓reduceIte, Nat.one_ne_zero]
    refine qsm_pls (n := 2) (k' := 39) (lo' := [some (.ref 1), some (.int 0)]) (S' := [.retAddr 27, .ref 1]) (h' := h) rfl ?_
    first
      | refine qsm_call hc (qim_up (qi_copy (d := d) (k := 27) ht (by decide)) (by omega)) rfl rfl rfl rfl rfl rfl rfl rfl (ai_rcv1 rfl rfl (qcs_obj hc)) (fun v94 s94 h94 f94 hc94 => ?_)
      | refine qsm_callL hc (qim_up (qi_copy (d := d) (k := 27) ht (by decide)) (by omega)) rfl rfl rfl rfl rfl rfl rfl rfl (ai_rcv1 rfl rfl (qcs_obj hc)) (fun v94 s94 h94 f94 hc94 => ?_)
    show qsm L xs e Y bc bs _ qm_60 40 [some (.ref 1), some (.int 0)] [] h94 _ _ _
    try simp only [zq, zi, zc, zv, zf, zbd_zbd, zbd_some, zbd_fault, zbd_none, zite0, zite1, ↓reduceIte, Nat.one_ne_zero]
    refine qsm_pls (n := 2) (k' := 42) (lo' := [some (.ref 1), some (.int 0)]) (S' := [.retAddr 82, .ref 1]) (h' := h94) rfl ?_
    first
      | refine qsm_call hc94 (qim_up (qi_copy (d := d) (k := 82) ht (by decide)) (by omega)) rfl rfl rfl rfl rfl rfl rfl rfl (ai_rcv1 rfl rfl (qcs_obj hc94)) (fun v95 s95 h95 f95 hc95 => ?_)
      | refine qsm_callL hc94 (qim_up (qi_copy (d := d) (k := 82) ht (by decide)) (by omega)) rfl rfl rfl rfl rfl rfl rfl rfl (ai_rcv1 rfl rfl (qcs_obj hc94)) (fun v95 s95 h95 f95 hc95 => ?_)
    show qsm L xs e Y bc bs _ qm_60 43 [some (.ref 1), some (.int 0)] [] h95 _ _ _
    try simp only [zq, zi, zc, zv, zf, zbd_zbd, zbd_some, zbd_fault, zbd_none, zite0, zite1, ↓reduceIte, Nat.one_ne_zero]
    refine qsm_pls (n := 1) (k' := 44) (lo' := [some (.ref 1), some (.int 0)]) (S' := [.ref 1]) (h' := h95) rfl ?_
    first
      | refine qsm_call hc95 (qim_up (hqy) (by omega)) rfl rfl rfl rfl rfl rfl rfl rfl (ai_rcv1 rfl rfl (qcs_obj hc95)) (fun v96 s96 h96 f96 hc96 => ?_)
      | refine qsm_callL hc95 (qim_up (hqy) (by omega)) rfl rfl rfl rfl rfl rfl rfl rfl (ai_rcv1 rfl rfl (qcs_obj hc95)) (fun v96 s96 h96 f96 hc96 => ?_)
    show qsm L xs e Y bc bs _ qm_60 45 [some (.ref 1), some (.int 0)] [] h96 _ _ _
    try simp only [zq, zi, zc, zv, zf, zbd_zbd, zbd_some, zbd_fault, zbd_none, zite0, zite1, ↓reduceIte, Nat.one_ne_zero]
    refine qsm_pls (n := 2) (k' := 47) (lo' := [some (.ref 1), some (.int 0)]) (S' := [.retAddr 83, .ref 1]) (h' := h96) rfl ?_
    first
      | refine qsm_call hc96 (qim_up (qi_copy (d := d) (k := 83) ht (by decide)) (by omega)) rfl rfl rfl rfl rfl rfl rfl rfl (ai_rcv1 rfl rfl (qcs_obj hc96)) (fun v97 s97 h97 f97 hc97 => ?_)
      | refine qsm_callL hc96 (qim_up (qi_copy (d := d) (k := 83) ht (by decide)) (by omega)) rfl rfl rfl rfl rfl rfl rfl rfl (ai_rcv1 rfl rfl (qcs_obj hc96)) (fun v97 s97 h97 f97 hc97 => ?_)
    show qsm L xs e Y bc bs _ qm_60 48 [some (.ref 1), some (.int 0)] [] h97 _ _ _
    try simp only [zq, zi, zc, zv, zf, zbd_zbd, zbd_some, zbd_fault, zbd_none, zite0, zite1, ↓reduceIte, Nat.one_ne_zero]
    refine qsm_pls (n := 2) (k' := 55) (lo' := [some (.ref 1), some (.int 0)]) (S' := [.int 0]) (h' := h97) rfl ?_
    exact qsm_ret5 (v := 0) hc97 rfl rfl rfl (by decide)
  rw [if_neg t93]
  by_cases t98 : ztk e s.1 = 10
  · rw [if_pos t98]
    refine qsm_sw (k' := 49) rfl (by rw [t98]; decide) ?_
    try simp only [zq, zi, zc, zv, zf, zbd_zbd, zbd_some, zbd_fault, zbd_none, zite0, zite1, ↓reduceIte, Nat.one_ne_zero]
    refine qsm_pls (n := 1) (k' := 50) (lo' := [some (.ref 1), some (.int 0)]) (S' := [.ref 1]) (h' := h) rfl ?_
    first
      | refine qsm_call hc (qim_up (qs_cases (d := d) ht hex) (by omega)) rfl rfl rfl rfl rfl rfl rfl rfl (ai_rcv1 rfl rfl (qcs_obj hc)) (fun v99 s99 h99 f99 hc99 => ?_)
      | refine qsm_callL hc (qim_up (qs_cases (d := d) ht hex) (by omega)) rfl rfl rfl rfl rfl rfl rfl rfl (ai_rcv1 rfl rfl (qcs_obj hc)) (fun v99 s99 h99 f99 hc99 => ?_)
    show qsm L xs e Y bc bs _ qm_60 51 [some (.ref 1), some (.int 0)] [] h99 _ _ _
    try simp only [zq, zi, zc, zv, zf, zbd_zbd, zbd_some, zbd_fault, zbd_none, zite0, zite1, ↓reduceIte, Nat.one_ne_zero]
    refine qsm_pls (n := 2) (k' := 55) (lo' := [some (.ref 1), some (.int 0)]) (S' := [.int 0]) (h' := h99) rfl ?_
    exact qsm_ret5 (v := 0) hc99 rfl rfl rfl (by decide)
  rw [if_neg t98]
  refine qsm_sw (k' := 52) rfl (if_pos (sw_60 (hlt _) t79 t81 t83 t85 t89 t93 t98)) ?_
  try simp only [zq, zi, zc, zv, zf, zbd_zbd, zbd_some, zbd_fault, zbd_none, zite0, zite1, ↓reduceIte, Nat.one_ne_zero]
  refine qsm_pls (n := 1) (k' := 53) (lo' := [some (.ref 1), some (.int 0)]) (S' := [.ref 1]) (h' := h) rfl ?_
  first
    | refine qsm_call hc (qim_up (qs_fun (d := d) ht hex) (by omega)) rfl rfl rfl rfl rfl rfl rfl rfl (ai_rcv1 rfl rfl (qcs_obj hc)) (fun v100 s100 h100 f100 hc100 => ?_)
    | refine qsm_callL hc (qim_up (qs_fun (d := d) ht hex) (by omega)) rfl rfl rfl rfl rfl rfl rfl rfl (ai_rcv1 rfl rfl (qcs_obj hc)) (fun v100 s100 h100 f100 hc100 => ?_)
  show qsm L xs e Y bc bs _ qm_60 54 [some (.ref 1), some (.int 0)] [] h100 _ _ _
  try simp only [zq, zi, zc, zv, zf, zbd_zbd, zbd_some, zbd_fault, zbd_none, zite0, zite1, ↓reduceIte, Nat.one_ne_zero]
  refine qsm_pls (n := 1) (k' := 55) (lo' := [some (.ref 1), some (.int 0)]) (S' := [.int 0]) (h' := h100) rfl ?_
  exact qsm_ret5 (v := 0) hc100 rfl rfl rfl (by decide)
/-- Grammar.statement() -/
theorem q_stmt (ht : qtk e Y) (hex : qim L xs e Y bc bs d 55 [.ref 1] 1 ex) (hqy : qim L xs e Y bc bs d 62 [.ref 1] 0 qy) : qim L xs e Y bc bs (d + 10) 35 [.ref 1] 1 (z_stmt e ex qy) := by
  have hlt := qtk_lt ht
  refine qim_of (M := qm_35) rfl rfl (fun P s h hc => ?_)
  show qsm L xs e Y bc bs _ qm_35 0 [some (.ref 1)] [] h _ _ _
  simp only [z_stmt, zq, zi, zc, zv, zf, zbd_zbd, zbd_some, zbd_fault, zbd_none, zite0, zite1, ↓reduceIte, Nat.one_ne_zero]
  try simp only [zq, zi, zc, zv, zf, zbd_zbd, zbd_some, zbd_fault, zbd_none, zite0, zite1, ↓reduceIte, Nat.one_ne_zero]
  refine qsm_pls (n := 2) (k' := 2) (lo' := [some (.ref 1)]) (S' := [.ref 1, .retAddr 3001]) (h' := h) rfl ?_
  refine qsm_getf (v := .retAddr (ztk e s.1)) rfl (qcs_obj hc) rfl rfl rfl ?_
  refine qsm_ask (qe_up (by omega) (q_ord (d := d) hlt s.1)) rfl rfl rfl rfl rfl rfl rfl (ai_rcv1 rfl rfl (q_mkob hlt s.1)) ?_
  show qsm L xs e Y bc bs _ qm_35 4 [some (.ref 1)] [.int (nI (ztk e s.1)), .retAddr 3001] h _ _ _
  refine qsm_st (fun _ hg => qg_ald (ty := .int) rfl (fun _ _ _ => rfl) qZ_sw (hlt _) (by decide) hg) ?_
  show qsm L xs e Y bc bs _ qm_35 5 [some (.ref 1)] [.int (qr_sw.getD (ztk e s.1) 0)] h _ _ _
  by_cases t101 : ztk e s.1 = 17
  · rw [if_pos t101]
    refine qsm_sw (k' := 6) rfl (by rw [t101]; decide) ?_
    try simp only [zq, zi, zc, zv, zf, zbd_zbd, zbd_some, zbd_fault, zbd_none, zite0, zite1, ↓reduceIte, Nat.one_ne_zero]
    refine qsm_pls (n := 2) (k' := 8) (lo' := [some (.ref 1)]) (S' := [.retAddr 17, .ref 1]) (h' := h) rfl ?_
    first
      | refine qsm_call hc (qim_up (qi_copy (d := d) (k := 17) ht (by decide)) (by omega)) rfl rfl rfl rfl rfl rfl rfl rfl (ai_rcv1 rfl rfl (qcs_obj hc)) (fun v102 s102 h102 f102 hc102 => ?_)
      | refine qsm_callL hc (qim_up (qi_copy (d := d) (k := 17) ht (by decide)) (by omega)) rfl rfl rfl rfl rfl rfl rfl rfl (ai_rcv1 rfl rfl (qcs_obj hc)) (fun v102 s102 h102 f102 hc102 => ?_)
    show qsm L xs e Y bc bs _ qm_35 9 [some (.ref 1)] [] h102 _ _ _
    try simp only [zq, zi, zc, zv, zf, zbd_zbd, zbd_some, zbd_fault, zbd_none, zite0, zite1, ↓reduceIte, Nat.one_ne_zero]
    refine qsm_pls (n := 1) (k' := 10) (lo' := [some (.ref 1)]) (S' := [.ref 1]) (h' := h102) rfl ?_
    refine qsm_getf (v := .retAddr (ztk e s102.1)) rfl (qcs_obj hc102) rfl rfl rfl ?_
    refine qsm_pls (n := 1) (k' := 12) (lo' := [some (.ref 1)]) (S' := [.retAddr 71, .retAddr (ztk e s102.1)]) (h' := h102) rfl ?_
    by_cases t103 : ztk e s102.1 = 71
    · first | rw [if_pos t103] | rw [zci_T t103] | skip
      try simp only [zq, zi, zc, zv, zf, zbd_zbd, zbd_some, zbd_fault, zbd_none, zite0, zite1, ↓reduceIte, Nat.one_ne_zero]
      refine qsm_acmp false rfl (qzk (hlt _) (by decide)) (qa_neF t103) rfl ?_
      refine qsm_pls (n := 1) (k' := 14) (lo' := [some (.ref 1)]) (S' := [.ref 1]) (h' := h102) rfl ?_
      first
        | refine qsm_call hc102 (qim_up (qs_table (d := d) ht hex) (by omega)) rfl rfl rfl rfl rfl rfl rfl rfl (ai_rcv1 rfl rfl (qcs_obj hc102)) (fun v104 s104 h104 f104 hc104 => ?_)
        | refine qsm_callL hc102 (qim_up (qs_table (d := d) ht hex) (by omega)) rfl rfl rfl rfl rfl rfl rfl rfl (ai_rcv1 rfl rfl (qcs_obj hc102)) (fun v104 s104 h104 f104 hc104 => ?_)
      show qsm L xs e Y bc bs _ qm_35 15 [some (.ref 1)] [.int (nI v104)] h104 _ _ _
      try simp only [zq, zi, zc, zv, zf, zbd_zbd, zbd_some, zbd_fault, zbd_none, zite0, zite1, ↓reduceIte, Nat.one_ne_zero]
      refine qsm_pls (n := 1) (k' := 18) (lo' := [some (.ref 1)]) (S' := [.int (nI v104)]) (h' := h104) rfl ?_
      exact qsm_ret5 (v := v104) hc104 rfl rfl rfl (by decide)
    · first | rw [if_neg t103] | rw [zci_F t103] | skip
      try simp only [zq, zi, zc, zv, zf, zbd_zbd, zbd_some, zbd_fault, zbd_none, zite0, zite1, ↓reduceIte, Nat.one_ne_zero]
      refine qsm_acmp true rfl (qzk (hlt _) (by decide)) (qa_neT t103) rfl ?_
      refine qsm_pls (n := 1) (k' := 17) (lo' := [some (.ref 1)]) (S' := [.ref 1]) (h' := h102) rfl ?_
      first
        | refine qsm_call hc102 (qim_up (qs_index (d := d) ht) (by omega)) rfl rfl rfl rfl rfl rfl rfl rfl (ai_rcv1 rfl rfl (qcs_obj hc102)) (fun v105 s105 h105 f105 hc105 => ?_)
        | refine qsm_callL hc102 (qim_up (qs_index (d := d) ht) (by omega)) rfl rfl rfl rfl rfl rfl rfl rfl (ai_rcv1 rfl rfl (qcs_obj hc102)) (fun v105 s105 h105 f105 hc105 => ?_)
      show qsm L xs e Y bc bs _ qm_35 18 [some (.ref 1)] [.int (nI v105)] h105 _ _ _
      try simp only [zq, zi, zc, zv, zf, zbd_zbd, zbd_some, zbd_fault, zbd_none, zite0, zite1, ↓reduceIte, Nat.one_ne_zero]
      exact qsm_ret5 (v := v105) hc105 rfl rfl rfl (by decide)
  rw [if_neg t101]
  by_cases t106 : ztk e s.1 = 23
  · rw [if_pos t106]
    refine qsm_sw (k' := 19) rfl (by rw [t106]; decide) ?_
    try simp only [zq, zi, zc, zv, zf, zbd_zbd, zbd_some, zbd_fault, zbd_none, zite0, zite1, ↓reduceIte, Nat.one_ne_zero]
    refine qsm_pls (n := 1) (k' := 20) (lo' := [some (.ref 1)]) (S' := [.ref 1]) (h' := h) rfl ?_
    first
      | refine qsm_call hc (qim_up (qs_drop (d := d) ht) (by omega)) rfl rfl rfl rfl rfl rfl rfl rfl (ai_rcv1 rfl rfl (qcs_obj hc)) (fun v107 s107 h107 f107 hc107 => ?_)
      | refine qsm_callL hc (qim_up (qs_drop (d := d) ht) (by omega)) rfl rfl rfl rfl rfl rfl rfl rfl (ai_rcv1 rfl rfl (qcs_obj hc)) (fun v107 s107 h107 f107 hc107 => ?_)
    show qsm L xs e Y bc bs _ qm_35 21 [some (.ref 1)] [.int (nI v107)] h107 _ _ _
    try simp only [zq, zi, zc, zv, zf, zbd_zbd, zbd_some, zbd_fault, zbd_none, zite0, zite1, ↓reduceIte, Nat.one_ne_zero]
    exact qsm_ret5 (v := v107) hc107 rfl rfl rfl (by decide)
  rw [if_neg t106]
  by_cases t108 : ztk e s.1 = 34
  · rw [if_pos t108]
    refine qsm_sw (k' := 22) rfl (by rw [t108]; decide) ?_
    try simp only [zq, zi, zc, zv, zf, zbd_zbd, zbd_some, zbd_fault, zbd_none, zite0, zite1, ↓reduceIte, Nat.one_ne_zero]
    refine qsm_pls (n := 1) (k' := 23) (lo' := [some (.ref 1)]) (S' := [.ref 1]) (h' := h) rfl ?_
    first
      | refine qsm_call hc (qim_up (qs_insert (d := d) ht hex hqy) (by omega)) rfl rfl rfl rfl rfl rfl rfl rfl (ai_rcv1 rfl rfl (qcs_obj hc)) (fun v109 s109 h109 f109 hc109 => ?_)
      | refine qsm_callL hc (qim_up (qs_insert (d := d) ht hex hqy) (by omega)) rfl rfl rfl rfl rfl rfl rfl rfl (ai_rcv1 rfl rfl (qcs_obj hc)) (fun v109 s109 h109 f109 hc109 => ?_)
    show qsm L xs e Y bc bs _ qm_35 24 [some (.ref 1)] [.int (nI v109)] h109 _ _ _
    try simp only [zq, zi, zc, zv, zf, zbd_zbd, zbd_some, zbd_fault, zbd_none, zite0, zite1, ↓reduceIte, Nat.one_ne_zero]
    exact qsm_ret5 (v := v109) hc109 rfl rfl rfl (by decide)
  rw [if_neg t108]
  by_cases t110 : ztk e s.1 = 77
  · rw [if_pos t110]
    refine qsm_sw (k' := 25) rfl (by rw [t110]; decide) ?_
    try simp only [zq, zi, zc, zv, zf, zbd_zbd, zbd_some, zbd_fault, zbd_none, zite0, zite1, ↓reduceIte, Nat.one_ne_zero]
    refine qsm_pls (n := 1) (k' := 26) (lo' := [some (.ref 1)]) (S' := [.ref 1]) (h' := h) rfl ?_
    first
      | refine qsm_call hc (qim_up (qs_update (d := d) ht hex) (by omega)) rfl rfl rfl rfl rfl rfl rfl rfl (ai_rcv1 rfl rfl (qcs_obj hc)) (fun v111 s111 h111 f111 hc111 => ?_)
      | refine qsm_callL hc (qim_up (qs_update (d := d) ht hex) (by omega)) rfl rfl rfl rfl rfl rfl rfl rfl (ai_rcv1 rfl rfl (qcs_obj hc)) (fun v111 s111 h111 f111 hc111 => ?_)
    show qsm L xs e Y bc bs _ qm_35 27 [some (.ref 1)] [.int (nI v111)] h111 _ _ _
    try simp only [zq, zi, zc, zv, zf, zbd_zbd, zbd_some, zbd_fault, zbd_none, zite0, zite1, ↓reduceIte, Nat.one_ne_zero]
    exact qsm_ret5 (v := v111) hc111 rfl rfl rfl (by decide)
  rw [if_neg t110]
  by_cases t112 : ztk e s.1 = 20
  · rw [if_pos t112]
    refine qsm_sw (k' := 28) rfl (by rw [t112]; decide) ?_
    try simp only [zq, zi, zc, zv, zf, zbd_zbd, zbd_some, zbd_fault, zbd_none, zite0, zite1, ↓reduceIte, Nat.one_ne_zero]
    refine qsm_pls (n := 1) (k' := 29) (lo' := [some (.ref 1)]) (S' := [.ref 1]) (h' := h) rfl ?_
    first
      | refine qsm_call hc (qim_up (qs_delete (d := d) ht hex) (by omega)) rfl rfl rfl rfl rfl rfl rfl rfl (ai_rcv1 rfl rfl (qcs_obj hc)) (fun v113 s113 h113 f113 hc113 => ?_)
      | refine qsm_callL hc (qim_up (qs_delete (d := d) ht hex) (by omega)) rfl rfl rfl rfl rfl rfl rfl rfl (ai_rcv1 rfl rfl (qcs_obj hc)) (fun v113 s113 h113 f113 hc113 => ?_)
    show qsm L xs e Y bc bs _ qm_35 30 [some (.ref 1)] [.int (nI v113)] h113 _ _ _
    try simp only [zq, zi, zc, zv, zf, zbd_zbd, zbd_some, zbd_fault, zbd_none, zite0, zite1, ↓reduceIte, Nat.one_ne_zero]
    exact qsm_ret5 (v := v113) hc113 rfl rfl rfl (by decide)
  rw [if_neg t112]
  by_cases t114 : ztk e s.1 = 65
  · rw [if_pos t114]
    refine qsm_sw (k' := 31) rfl (by rw [t114]; decide) ?_
    try simp only [zq, zi, zc, zv, zf, zbd_zbd, zbd_some, zbd_fault, zbd_none, zite0, zite1, ↓reduceIte, Nat.one_ne_zero]
    refine qsm_pls (n := 1) (k' := 32) (lo' := [some (.ref 1)]) (S' := [.ref 1]) (h' := h) rfl ?_
    first
      | refine qsm_call hc (qim_up (hqy) (by omega)) rfl rfl rfl rfl rfl rfl rfl rfl (ai_rcv1 rfl rfl (qcs_obj hc)) (fun v115 s115 h115 f115 hc115 => ?_)
      | refine qsm_callL hc (qim_up (hqy) (by omega)) rfl rfl rfl rfl rfl rfl rfl rfl (ai_rcv1 rfl rfl (qcs_obj hc)) (fun v115 s115 h115 f115 hc115 => ?_)
    show qsm L xs e Y bc bs _ qm_35 33 [some (.ref 1)] [] h115 _ _ _
    try simp only [zq, zi, zc, zv, zf, zbd_zbd, zbd_some, zbd_fault, zbd_none, zite0, zite1, ↓reduceIte, Nat.one_ne_zero]
    refine qsm_pls (n := 1) (k' := 34) (lo' := [some (.ref 1)]) (S' := [.int 8]) (h' := h115) rfl ?_
    exact qsm_ret5 (v := 8) hc115 rfl rfl rfl (by decide)
  rw [if_neg t114]
  by_cases t116 : ztk e s.1 = 6
  · rw [if_pos t116]
    refine qsm_sw (k' := 35) rfl (by rw [t116]; decide) ?_
    try simp only [zq, zi, zc, zv, zf, zbd_zbd, zbd_some, zbd_fault, zbd_none, zite0, zite1, ↓reduceIte, Nat.one_ne_zero]
    refine qsm_pls (n := 1) (k' := 36) (lo' := [some (.ref 1)]) (S' := [.ref 1]) (h' := h) rfl ?_
    first
      | refine qsm_call hc (qim_up (qs_begin (d := d) ht) (by omega)) rfl rfl rfl rfl rfl rfl rfl rfl (ai_rcv1 rfl rfl (qcs_obj hc)) (fun v117 s117 h117 f117 hc117 => ?_)
      | refine qsm_callL hc (qim_up (qs_begin (d := d) ht) (by omega)) rfl rfl rfl rfl rfl rfl rfl rfl (ai_rcv1 rfl rfl (qcs_obj hc)) (fun v117 s117 h117 f117 hc117 => ?_)
    show qsm L xs e Y bc bs _ qm_35 37 [some (.ref 1)] [.int (nI v117)] h117 _ _ _
    try simp only [zq, zi, zc, zv, zf, zbd_zbd, zbd_some, zbd_fault, zbd_none, zite0, zite1, ↓reduceIte, Nat.one_ne_zero]
    exact qsm_ret5 (v := v117) hc117 rfl rfl rfl (by decide)
  rw [if_neg t116]
  by_cases t118 : ztk e s.1 = 14
  · rw [if_pos t118]
    refine qsm_sw (k' := 38) rfl (by rw [t118]; decide) ?_
    try simp only [zq, zi, zc, zv, zf, zbd_zbd, zbd_some, zbd_fault, zbd_none, zite0, zite1, ↓reduceIte, Nat.one_ne_zero]
    refine qsm_pls (n := 1) (k' := 39) (lo' := [some (.ref 1)]) (S' := [.ref 1]) (h' := h) rfl ?_
    first
      | refine qsm_call hc (qim_up (qs_commit (d := d) ht) (by omega)) rfl rfl rfl rfl rfl rfl rfl rfl (ai_rcv1 rfl rfl (qcs_obj hc)) (fun v119 s119 h119 f119 hc119 => ?_)
      | refine qsm_callL hc (qim_up (qs_commit (d := d) ht) (by omega)) rfl rfl rfl rfl rfl rfl rfl rfl (ai_rcv1 rfl rfl (qcs_obj hc)) (fun v119 s119 h119 f119 hc119 => ?_)
    show qsm L xs e Y bc bs _ qm_35 40 [some (.ref 1)] [.int (nI v119)] h119 _ _ _
    try simp only [zq, zi, zc, zv, zf, zbd_zbd, zbd_some, zbd_fault, zbd_none, zite0, zite1, ↓reduceIte, Nat.one_ne_zero]
    exact qsm_ret5 (v := v119) hc119 rfl rfl rfl (by decide)
  rw [if_neg t118]
  by_cases t120 : ztk e s.1 = 63
  · rw [if_pos t120]
    refine qsm_sw (k' := 41) rfl (by rw [t120]; decide) ?_
    try simp only [zq, zi, zc, zv, zf, zbd_zbd, zbd_some, zbd_fault, zbd_none, zite0, zite1, ↓reduceIte, Nat.one_ne_zero]
    refine qsm_pls (n := 1) (k' := 42) (lo' := [some (.ref 1)]) (S' := [.ref 1]) (h' := h) rfl ?_
    first
      | refine qsm_call hc (qim_up (qs_rollback (d := d) ht) (by omega)) rfl rfl rfl rfl rfl rfl rfl rfl (ai_rcv1 rfl rfl (qcs_obj hc)) (fun v121 s121 h121 f121 hc121 => ?_)
      | refine qsm_callL hc (qim_up (qs_rollback (d := d) ht) (by omega)) rfl rfl rfl rfl rfl rfl rfl rfl (ai_rcv1 rfl rfl (qcs_obj hc)) (fun v121 s121 h121 f121 hc121 => ?_)
    show qsm L xs e Y bc bs _ qm_35 43 [some (.ref 1)] [.int (nI v121)] h121 _ _ _
    try simp only [zq, zi, zc, zv, zf, zbd_zbd, zbd_some, zbd_fault, zbd_none, zite0, zite1, ↓reduceIte, Nat.one_ne_zero]
    exact qsm_ret5 (v := v121) hc121 rfl rfl rfl (by decide)
  rw [if_neg t120]
  by_cases t122 : ztk e s.1 = 64
  · rw [if_pos t122]
    refine qsm_sw (k' := 44) rfl (by rw [t122]; decide) ?_
    try simp only [zq, zi, zc, zv, zf, zbd_zbd, zbd_some, zbd_fault, zbd_none, zite0, zite1, ↓reduceIte, Nat.one_ne_zero]
    refine qsm_pls (n := 2) (k' := 46) (lo' := [some (.ref 1)]) (S' := [.retAddr 64, .ref 1]) (h' := h) rfl ?_
    first
      | refine qsm_call hc (qim_up (qi_copy (d := d) (k := 64) ht (by decide)) (by omega)) rfl rfl rfl rfl rfl rfl rfl rfl (ai_rcv1 rfl rfl (qcs_obj hc)) (fun v123 s123 h123 f123 hc123 => ?_)
      | refine qsm_callL hc (qim_up (qi_copy (d := d) (k := 64) ht (by decide)) (by omega)) rfl rfl rfl rfl rfl rfl rfl rfl (ai_rcv1 rfl rfl (qcs_obj hc)) (fun v123 s123 h123 f123 hc123 => ?_)
    show qsm L xs e Y bc bs _ qm_35 47 [some (.ref 1)] [] h123 _ _ _
    try simp only [zq, zi, zc, zv, zf, zbd_zbd, zbd_some, zbd_fault, zbd_none, zite0, zite1, ↓reduceIte, Nat.one_ne_zero]
    refine qsm_pls (n := 1) (k' := 48) (lo' := [some (.ref 1)]) (S' := [.ref 1]) (h' := h123) rfl ?_
    first
      | refine qsm_call hc123 (qim_up (qi_name (d := d) ht) (by omega)) rfl rfl rfl rfl rfl rfl rfl rfl (ai_rcv1 rfl rfl (qcs_obj hc123)) (fun v124 s124 h124 f124 hc124 => ?_)
      | refine qsm_callL hc123 (qim_up (qi_name (d := d) ht) (by omega)) rfl rfl rfl rfl rfl rfl rfl rfl (ai_rcv1 rfl rfl (qcs_obj hc123)) (fun v124 s124 h124 f124 hc124 => ?_)
    show qsm L xs e Y bc bs _ qm_35 49 [some (.ref 1)] [] h124 _ _ _
    try simp only [zq, zi, zc, zv, zf, zbd_zbd, zbd_some, zbd_fault, zbd_none, zite0, zite1, ↓reduceIte, Nat.one_ne_zero]
    refine qsm_pls (n := 1) (k' := 50) (lo' := [some (.ref 1)]) (S' := [.int 12]) (h' := h124) rfl ?_
    exact qsm_ret5 (v := 12) hc124 rfl rfl rfl (by decide)
  rw [if_neg t122]
  by_cases t125 : ztk e s.1 = 44
  · rw [if_pos t125]
    refine qsm_sw (k' := 51) rfl (by rw [t125]; decide) ?_
    try simp only [zq, zi, zc, zv, zf, zbd_zbd, zbd_some, zbd_fault, zbd_none, zite0, zite1, ↓reduceIte, Nat.one_ne_zero]
    refine qsm_pls (n := 1) (k' := 52) (lo' := [some (.ref 1)]) (S' := [.ref 1]) (h' := h) rfl ?_
    first
      | refine qsm_call hc (qim_up (qs_lock (d := d) ht) (by omega)) rfl rfl rfl rfl rfl rfl rfl rfl (ai_rcv1 rfl rfl (qcs_obj hc)) (fun v126 s126 h126 f126 hc126 => ?_)
      | refine qsm_callL hc (qim_up (qs_lock (d := d) ht) (by omega)) rfl rfl rfl rfl rfl rfl rfl rfl (ai_rcv1 rfl rfl (qcs_obj hc)) (fun v126 s126 h126 f126 hc126 => ?_)
    show qsm L xs e Y bc bs _ qm_35 53 [some (.ref 1)] [.int (nI v126)] h126 _ _ _
    try simp only [zq, zi, zc, zv, zf, zbd_zbd, zbd_some, zbd_fault, zbd_none, zite0, zite1, ↓reduceIte, Nat.one_ne_zero]
    exact qsm_ret5 (v := v126) hc126 rfl rfl rfl (by decide)
  rw [if_neg t125]
  by_cases t127 : ztk e s.1 = 57
  · rw [if_pos t127]
    refine qsm_sw (k' := 54) rfl (by rw [t127]; decide) ?_
    try simp only [zq, zi, zc, zv, zf, zbd_zbd, zbd_some, zbd_fault, zbd_none, zite0, zite1, ↓reduceIte, Nat.one_ne_zero]
    refine qsm_pls (n := 2) (k' := 56) (lo' := [some (.ref 1)]) (S' := [.retAddr 57, .ref 1]) (h' := h) rfl ?_
    first
      | refine qsm_call hc (qim_up (qi_copy (d := d) (k := 57) ht (by decide)) (by omega)) rfl rfl rfl rfl rfl rfl rfl rfl (ai_rcv1 rfl rfl (qcs_obj hc)) (fun v128 s128 h128 f128 hc128 => ?_)
      | refine qsm_callL hc (qim_up (qi_copy (d := d) (k := 57) ht (by decide)) (by omega)) rfl rfl rfl rfl rfl rfl rfl rfl (ai_rcv1 rfl rfl (qcs_obj hc)) (fun v128 s128 h128 f128 hc128 => ?_)
    show qsm L xs e Y bc bs _ qm_35 57 [some (.ref 1)] [] h128 _ _ _
    try simp only [zq, zi, zc, zv, zf, zbd_zbd, zbd_some, zbd_fault, zbd_none, zite0, zite1, ↓reduceIte, Nat.one_ne_zero]
    refine qsm_pls (n := 1) (k' := 58) (lo' := [some (.ref 1)]) (S' := [.ref 1]) (h' := h128) rfl ?_
    first
      | refine qsm_call hc128 (qim_up (qi_number (d := d) ht) (by omega)) rfl rfl rfl rfl rfl rfl rfl rfl (ai_rcv1 rfl rfl (qcs_obj hc128)) (fun v129 s129 h129 f129 hc129 => ?_)
      | refine qsm_callL hc128 (qim_up (qi_number (d := d) ht) (by omega)) rfl rfl rfl rfl rfl rfl rfl rfl (ai_rcv1 rfl rfl (qcs_obj hc128)) (fun v129 s129 h129 f129 hc129 => ?_)
    show qsm L xs e Y bc bs _ qm_35 59 [some (.ref 1)] [] h129 _ _ _
    try simp only [zq, zi, zc, zv, zf, zbd_zbd, zbd_some, zbd_fault, zbd_none, zite0, zite1, ↓reduceIte, Nat.one_ne_zero]
    refine qsm_pls (n := 1) (k' := 60) (lo' := [some (.ref 1)]) (S' := [.int 15]) (h' := h129) rfl ?_
    exact qsm_ret5 (v := 15) hc129 rfl rfl rfl (by decide)
  rw [if_neg t127]
  refine qsm_sw (k' := 61) rfl (if_pos (sw_35 (hlt _) t101 t106 t108 t110 t112 t114 t116 t118 t120 t122 t125 t127)) ?_
  try simp only [zq, zi, zc, zv, zf, zbd_zbd, zbd_some, zbd_fault, zbd_none, zite0, zite1, ↓reduceIte, Nat.one_ne_zero]
  exact qsm_throw hc rfl rfl rfl
/-- Grammar.finish() -/
theorem q_finish (ht : qtk e Y) : qim L xs e Y bc bs (d + 7) 90 [.ref 1] 0 (z_finish e) := by
  have hlt := qtk_lt ht
  refine qim_of (M := qm_90) rfl rfl (fun P s h hc => ?_)
  show qsm L xs e Y bc bs _ qm_90 0 [some (.ref 1)] [] h _ _ _
  simp only [z_finish, zq, zi, zc, zv, zf, zbd_zbd, zbd_some, zbd_fault, zbd_none, zite0, zite1, ↓reduceIte, Nat.one_ne_zero]
  try simp only [zq, zi, zc, zv, zf, zbd_zbd, zbd_some, zbd_fault, zbd_none, zite0, zite1, ↓reduceIte, Nat.one_ne_zero]
  refine qsm_pls (n := 2) (k' := 2) (lo' := [some (.ref 1)]) (S' := [.retAddr 86, .ref 1]) (h' := h) rfl ?_
  first
    | refine qsm_call hc (qim_up (qi_skipIf (d := d) (k := 86) ht (by decide)) (by omega)) rfl rfl rfl rfl rfl rfl rfl rfl (ai_rcv1 rfl rfl (qcs_obj hc)) (fun v130 s130 h130 f130 hc130 => ?_)
    | refine qsm_callL hc (qim_up (qi_skipIf (d := d) (k := 86) ht (by decide)) (by omega)) rfl rfl rfl rfl rfl rfl rfl rfl (ai_rcv1 rfl rfl (qcs_obj hc)) (fun v130 s130 h130 f130 hc130 => ?_)
  show qsm L xs e Y bc bs _ qm_90 3 [some (.ref 1)] [.int (nI v130)] h130 _ _ _
  try simp only [zq, zi, zc, zv, zf, zbd_zbd, zbd_some, zbd_fault, zbd_none, zite0, zite1, ↓reduceIte, Nat.one_ne_zero]
  refine qsm_pls (n := 3) (k' := 6) (lo' := [some (.ref 1)]) (S' := [.retAddr 102, .ref 1]) (h' := h130) rfl ?_
  first
    | refine qsm_call hc130 (qim_up (qi_skip (d := d) (k := 102) ht (by decide)) (by omega)) rfl rfl rfl rfl rfl rfl rfl rfl (ai_rcv1 rfl rfl (qcs_obj hc130)) (fun v131 s131 h131 f131 hc131 => ?_)
    | refine qsm_callL hc130 (qim_up (qi_skip (d := d) (k := 102) ht (by decide)) (by omega)) rfl rfl rfl rfl rfl rfl rfl rfl (ai_rcv1 rfl rfl (qcs_obj hc130)) (fun v131 s131 h131 f131 hc131 => ?_)
  show qsm L xs e Y bc bs _ qm_90 7 [some (.ref 1)] [] h131 _ _ _
  try simp only [zq, zi, zc, zv, zf, zbd_zbd, zbd_some, zbd_fault, zbd_none, zite0, zite1, ↓reduceIte, Nat.one_ne_zero]
  refine qsm_pls (n := 1) (k' := 8) (lo' := [some (.ref 1)]) (S' := [.ref 1]) (h' := h131) rfl ?_
  refine qsm_getf (v := .ref 4) rfl (qcs_obj hc131) rfl rfl rfl ?_
  obtain ⟨fs132, b132⟩ := qcs_plain hc131
  first
    | refine qsm_call hc131 (qim_up (qi_drop (d := d)) (by omega)) rfl rfl rfl rfl rfl rfl rfl rfl (ai_rcv1 rfl rfl b132) (fun v132 s132 h132 f132 hc132 => ?_)
    | refine qsm_callL hc131 (qim_up (qi_drop (d := d)) (by omega)) rfl rfl rfl rfl rfl rfl rfl rfl (ai_rcv1 rfl rfl b132) (fun v132 s132 h132 f132 hc132 => ?_)
  show qsm L xs e Y bc bs _ qm_90 10 [some (.ref 1)] [] h132 _ _ _
  try simp only [zq, zi, zc, zv, zf, zbd_zbd, zbd_some, zbd_fault, zbd_none, zite0, zite1, ↓reduceIte, Nat.one_ne_zero]
  exact qsm_ret7 hc132 rfl
/-- expressions and queries as deep as they are -/
theorem q_sp (ht : qtk e Y) : ∀ n, qim L xs e Y bc bs (d + 12 * n) 55 [.ref 1] 1 (zsp e n true) ∧ qim L xs e Y bc bs (d + 12 * n) 62 [.ref 1] 0 (zsp e n false) := by
  have hlt := qtk_lt ht
  intro n
  induction n with
  | zero => exact ⟨(fun P s h v s' _ q => by cases q), (fun P s h v s' _ q => by cases q)⟩
  | succ n ih =>
    obtain ⟨i1, i2⟩ := ih
    obtain ⟨⟨w1, w2⟩, w3⟩ := zsp_w hlt n
    have hp := zkw_prim (e := e) w1 w3
    have h8 := z8_prim (e := e) (qy := zsp e n false) w2
    have p1 := q_prim ht i1 i2
    have p2 := q_sum ht p1 h8
    have p3 := q_cmp ht p2 (zkw_sum hlt hp h8) i1 i2
    have p4 := q_ex (d := d + 12 * n + 2) ht p3 (z8_cmp hlt h8)
    exact ⟨qim_up p4 (by omega), qim_up (qs_query ht i1) (by omega)⟩
/-- a statement and its end -/
theorem q_all (ht : qtk e Y) (n : Nat) : qim L xs e Y bc bs (d + 12 * n + 10) 35 [.ref 1] 1 (z_stmt e (zsp e n true) (zsp e n false)) := q_stmt ht (q_sp ht n).1 (q_sp ht n).2
end QCM
