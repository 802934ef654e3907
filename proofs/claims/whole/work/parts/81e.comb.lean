/-! PREFIXES AND COMBINE. (Printed by wip/whole/pp.py from wip/whole/src.) -/
section QCO
variable {L : Nat} {xs : Nat → Int32} {d : Nat} {h h' : ai_H} {e : zE} {Y : Nat → Option ai_C} {bc bs : Int} {P P0 : zK} {s s' : zS} {pb len : Nat}
theorem zbd_inv {α β : Type} {r : zR α} {f : α → zS → zR β} {v : Option β} {s' : zS} (h : zbd r f = some (v, s')) : (r = some (none, s') ∧ v = none) ∨ ∃ a s1, r = some (some a, s1) ∧ f a s1 = some (v, s') := by
  unfold zbd at h
  split at h
  · cases h
  · cases h; exact Or.inl ⟨rfl, rfl⟩
  · rename_i a s1; exact Or.inr ⟨a, s1, rfl, h⟩
theorem zpush_inv {st ma : Nat} {p : zK} {v : Option zK} (h : zpush st ma p s = some (v, s')) : s.2.2.2.1 < 300 ∧ v = some ((st, ma) :: p) ∧ s' = (s.1, s.2.1, s.2.2.1, s.2.2.2.1 + 1, s.2.2.2.2) := by
  unfold zpush at h
  split at h
  · cases h
  · cases h; exact ⟨by omega, rfl, rfl⟩
theorem zput_inv {t : List Int32} {v : Option Nat} (h : zput t s = some (v, s')) : s.2.2.2.2.length + t.length + 1 ≤ 524288 ∧ v = some 0 ∧ s' = (s.1, s.2.1, s.2.2.1, s.2.2.2.1, s.2.2.2.2 ++ t ++ [32]) := by
  unfold zput at h
  split at h
  · cases h
  · cases h; exact ⟨by omega, rfl, rfl⟩
theorem zrise_inv {v : Option Nat} (h : zrise s = some (v, s')) : (v = none ∧ s' = s ∧ 40 ≤ s.2.1) ∨ (s.2.1 < 40 ∧ v = some 0 ∧ s' = (s.1, s.2.1 + 1, max s.2.2.1 (s.2.1 + 1), s.2.2.2)) := by
  unfold zrise at h
  split at h
  · cases h; rename_i h; exact Or.inl ⟨rfl, rfl, h⟩
  · cases h; exact Or.inr ⟨by omega, rfl, rfl⟩
theorem znext_inv {v : Option Nat} (h : znext s = some (v, s')) : s.1 < 100000 ∧ v = some 0 ∧ s' = (s.1 + 1, s.2) := by
  unfold znext at h
  split at h
  · cases h
  · cases h; exact ⟨by omega, rfl, rfl⟩
theorem zpop_inv {v : Option Nat} (h : zpop s = some (v, s')) : 0 < s.2.2.2.1 ∧ v = some 0 ∧ s' = (s.1, s.2.1, s.2.2.1, s.2.2.2.1 - 1, s.2.2.2.2) := by
  unfold zpop at h
  split at h
  · cases h
  · cases h; exact ⟨by omega, rfl, rfl⟩
theorem zdown_inv {v : Option Nat} (h : zdown s = some (v, s')) : 0 < s.2.1 ∧ v = some 0 ∧ s' = (s.1, s.2.1 - 1, s.2.2) := by
  unfold zdown at h
  split at h
  · cases h
  · cases h; exact ⟨by omega, rfl, rfl⟩
/-- how a method that moves the waiting operators ends -/
def qend (e : zE) (Y : Nat → Option ai_C) (bc bs : Int) (v : Option zK) (s' : zS) (h' : ai_H) : Prop := match v with
  | some p => qcs e Y bc bs p s' h'
  | none => ∃ P', qcs e Y (bc + 1) (bs + 6) P' s' h'
def qoutv {α : Type} (v : Option α) (x : Option Value) : Option Value ⊕ String := match v with
  | some _ => .inl x
  | none => .inr "java/lang/IllegalArgumentException"
/-- the loop of prefixes -/
theorem q_prel (ht : qtk e Y) {k ma : Nat} (hk : k < 104) (hk2 : ¬ (k = 82 ∨ k = 10) ∧ ¬ (k = 83 ∨ k = 25)) (hma : ma ≤ 8) : ∀ (n i : Nat) (p : zK) (s : zS) (h : ai_H) (v : Option zK) (s' : zS), i ≤ s.2.1 → qcs e Y bc bs (p ++ P0) s h → zpre e k ma n p s = some (v, s') → ∃ h', qg L xs (d + 5) qm_56 2 [some (.ref 1), some (.retAddr k), some (.int (nI ma)), some (.int (nI i))] [] h (qoutv v none, h') ∧ qend e Y bc bs (v.map (fun p => p ++ P0)) s' h' := by
  have hlt := qtk_lt ht
  have hr := q_enr hk
  intro n
  induction n with
  | zero => intro i p s h v s' hi hc hz; cases hz
  | succ n ih =>
    intro i p s h v s' hi hc hz
    have hb := qcs_bd hc
    simp only [zpre] at hz
    by_cases h1 : ztk e s.1 = k
    · rw [if_pos h1] at hz
      rcases zbd_inv hz with ⟨hz1, rfl⟩ | ⟨a1, s1, hz1, hz⟩
      · obtain ⟨h1', g1, g2⟩ := qi_rise (L := L) (xs := xs) (d := d + 3) _ _ _ _ _ hc hz1
        refine ⟨h1', ?_, g2⟩
        refine qg_pls (n := 2) (k' := 4) (lo' := [some (.ref 1), some (.retAddr k), some (.int (nI ma)), some (.int (nI i))]) (S' := [.int 40, .int (nI i)]) (h' := h) rfl ?_
        refine qg_icmp false rfl (qc_gtF (b := 40) (by omega) (by decide)) rfl ?_
        refine qg_pls (n := 1) (k' := 6) (lo' := [some (.ref 1), some (.retAddr k), some (.int (nI ma)), some (.int (nI i))]) (S' := [.ref 1]) (h' := h) rfl ?_
        refine qg_getf (v := .retAddr (ztk e s.1)) rfl (qcs_obj hc) rfl rfl rfl ?_
        refine qg_pls (n := 1) (k' := 8) (lo' := [some (.ref 1), some (.retAddr k), some (.int (nI ma)), some (.int (nI i))]) (S' := [.retAddr k, .retAddr (ztk e s.1)]) (h' := h) rfl ?_
        refine qg_acmp false rfl (qzk (hlt _) hk) (qa_neF h1) rfl ?_
        refine qg_pls (n := 1) (k' := 10) (lo' := [some (.ref 1), some (.retAddr k), some (.int (nI ma)), some (.int (nI i))]) (S' := [.ref 1]) (h' := h) rfl ?_
        exact qg_callT rfl rfl rfl rfl rfl rfl rfl (ai_rcv1 rfl rfl (qcs_obj hc)) rfl (g1)
      · obtain ⟨h2, g1, hc2⟩ := qi_rise (L := L) (xs := xs) (d := d + 3) _ _ _ _ _ hc hz1
        rcases zrise_inv hz1 with ⟨q, -, -⟩ | ⟨ho, -, e1⟩
        · cases q
        rcases zbd_inv hz with ⟨hz2, rfl⟩ | ⟨p2, s2, hz2, hz⟩
        · obtain ⟨-, q, -⟩ := zpush_inv hz2; cases q
        obtain ⟨w1, q, e2⟩ := zpush_inv hz2
        cases q
        have hlen1 : s1.2.2.2.2.length < 2 ^ 31 := by
          obtain ⟨pb, len, hr⟩ := qcs_row hc2
          have := qrow_le hr
          omega
        obtain ⟨h3, g3, hc3⟩ := q_push (L := L) (xs := xs) (d := d + 4) (st := s1.2.2.2.2.length) (ma := ma) hc2 w1 hma hlen1
        rw [← e2] at hc3
        obtain ⟨fs2, b2⟩ := qcs_plain hc2
        obtain ⟨fs3, b3⟩ := qcs_plain hc3
        rcases zbd_inv hz with ⟨hz3, rfl⟩ | ⟨a3, s3, hz3, hz⟩
        · obtain ⟨-, q, -⟩ := zput_inv hz3; cases q
        obtain ⟨h4, g4, hc4⟩ := qi_put (L := L) (xs := xs) (d := d) (c := 1005) (by decide) (by decide) _ _ _ _ _ hc3 hz3
        obtain ⟨-, -, e3⟩ := zput_inv hz3
        obtain ⟨fs4, b4⟩ := qcs_plain hc4
        rcases zbd_inv hz with ⟨hz4, rfl⟩ | ⟨a4, s4, hz4, hz⟩
        · obtain ⟨-, q, -⟩ := zput_inv hz4; cases q
        obtain ⟨h5, g5, hc5⟩ := qi_put (L := L) (xs := xs) (d := d) hr.1 hr.2.1 _ _ _ _ _ hc4 hz4
        obtain ⟨-, -, e4⟩ := zput_inv hz4
        have hs4 : s4.1 = s.1 ∧ s4.2.1 = s.2.1 + 1 := by rw [e4, e3, e2, e1]; exact ⟨rfl, rfl⟩
        have hstep : zstep e s4 = znext s4 := by
          unfold zstep
          rw [hs4.1, h1, if_neg hk2.1, if_neg hk2.2]
        rcases zbd_inv hz with ⟨hz5, rfl⟩ | ⟨a5, s5, hz5, hz⟩
        · rw [hstep] at hz5; obtain ⟨-, q, -⟩ := znext_inv hz5; cases q
        obtain ⟨h6, g6, hc6⟩ := qi_step (L := L) (xs := xs) (d := d + 2) ht _ _ _ _ _ hc5 hz5
        have e5 : s5.2.1 = s.2.1 + 1 := by
          rw [hstep] at hz5
          obtain ⟨-, -, e5⟩ := znext_inv hz5
          rw [e5]; exact hs4.2
        obtain ⟨h7, g7, hc7⟩ := ih (i + 1) ((s1.2.2.2.2.length, ma) :: p) s5 h6 v s' (by omega) hc6 hz
        refine ⟨h7, ?_, hc7⟩
        refine qg_pls (n := 2) (k' := 4) (lo' := [some (.ref 1), some (.retAddr k), some (.int (nI ma)), some (.int (nI i))]) (S' := [.int 40, .int (nI i)]) (h' := h) rfl ?_
        refine qg_icmp false rfl (qc_gtF (b := 40) (by omega) (by decide)) rfl ?_
        refine qg_pls (n := 1) (k' := 6) (lo' := [some (.ref 1), some (.retAddr k), some (.int (nI ma)), some (.int (nI i))]) (S' := [.ref 1]) (h' := h) rfl ?_
        refine qg_getf (v := .retAddr (ztk e s.1)) rfl (qcs_obj hc) rfl rfl rfl ?_
        refine qg_pls (n := 1) (k' := 8) (lo' := [some (.ref 1), some (.retAddr k), some (.int (nI ma)), some (.int (nI i))]) (S' := [.retAddr k, .retAddr (ztk e s.1)]) (h' := h) rfl ?_
        refine qg_acmp false rfl (qzk (hlt _) hk) (qa_neF h1) rfl ?_
        refine qg_pls (n := 1) (k' := 10) (lo' := [some (.ref 1), some (.retAddr k), some (.int (nI ma)), some (.int (nI i))]) (S' := [.ref 1]) (h' := h) rfl ?_
        refine qg_call (v := none) (h' := h2) (as := [.ref 1]) rfl rfl rfl rfl rfl rfl rfl (ai_rcv1 rfl rfl (qcs_obj hc)) (g1) ?_
        show qg L xs _ qm_56 11 [some (.ref 1), some (.retAddr k), some (.int (nI ma)), some (.int (nI i))] [] h2 _
        refine qg_pls (n := 2) (k' := 13) (lo' := [some (.ref 1), some (.retAddr k), some (.int (nI ma)), some (.int (nI i))]) (S' := [.ref 1, .ref 1]) (h' := h2) rfl ?_
        refine qg_getf (v := .ref 4) rfl (qcs_obj hc2) rfl rfl rfl ?_
        refine qg_call (v := some (.int (nI s1.2.2.2.2.length))) (h' := h2) (as := [.ref 4]) rfl rfl rfl rfl rfl rfl rfl (ai_rcv1 rfl rfl b2) (q_psize hc2) ?_
        show qg L xs _ qm_56 15 [some (.ref 1), some (.retAddr k), some (.int (nI ma)), some (.int (nI i))] [.int (nI s1.2.2.2.2.length), .ref 1] h2 _
        refine qg_pls (n := 1) (k' := 16) (lo' := [some (.ref 1), some (.retAddr k), some (.int (nI ma)), some (.int (nI i))]) (S' := [.int (nI ma), .int (nI s1.2.2.2.2.length), .ref 1]) (h' := h2) rfl ?_
        refine qg_call (v := none) (h' := h3) (as := [.ref 1, .int (nI s1.2.2.2.2.length), .int (nI ma)]) rfl rfl rfl rfl rfl rfl rfl (ai_rcv1 rfl rfl (qcs_obj hc2)) (g3) ?_
        show qg L xs _ qm_56 17 [some (.ref 1), some (.retAddr k), some (.int (nI ma)), some (.int (nI i))] [] h3 _
        refine qg_pls (n := 1) (k' := 18) (lo' := [some (.ref 1), some (.retAddr k), some (.int (nI ma)), some (.int (nI i))]) (S' := [.ref 1]) (h' := h3) rfl ?_
        refine qg_getf (v := .ref 4) rfl (qcs_obj hc3) rfl rfl rfl ?_
        refine qg_pls (n := 1) (k' := 20) (lo' := [some (.ref 1), some (.retAddr k), some (.int (nI ma)), some (.int (nI i))]) (S' := [.retAddr 1005, .ref 4]) (h' := h3) rfl ?_
        refine qg_call (v := none) (h' := h4) (as := [.ref 4, .retAddr 1005]) rfl rfl rfl rfl rfl rfl rfl (ai_rcv1 rfl rfl b3) (g4) ?_
        show qg L xs _ qm_56 21 [some (.ref 1), some (.retAddr k), some (.int (nI ma)), some (.int (nI i))] [] h4 _
        refine qg_pls (n := 1) (k' := 22) (lo' := [some (.ref 1), some (.retAddr k), some (.int (nI ma)), some (.int (nI i))]) (S' := [.ref 1]) (h' := h4) rfl ?_
        refine qg_getf (v := .ref 4) rfl (qcs_obj hc4) rfl rfl rfl ?_
        refine qg_pls (n := 1) (k' := 24) (lo' := [some (.ref 1), some (.retAddr k), some (.int (nI ma)), some (.int (nI i))]) (S' := [.retAddr k, .ref 4]) (h' := h4) rfl ?_
        refine qg_getf (v := .retAddr (qr_en.getD k (0, 0)).1) rfl (qZ_en hk) rfl rfl rfl ?_
        refine qg_call (v := none) (h' := h5) (as := [.ref 4, .retAddr (qr_en.getD k (0, 0)).1]) rfl rfl rfl rfl rfl rfl rfl (ai_rcv1 rfl rfl b4) (g5) ?_
        show qg L xs _ qm_56 26 [some (.ref 1), some (.retAddr k), some (.int (nI ma)), some (.int (nI i))] [] h5 _
        refine qg_pls (n := 1) (k' := 27) (lo' := [some (.ref 1), some (.retAddr k), some (.int (nI ma)), some (.int (nI i))]) (S' := [.ref 1]) (h' := h5) rfl ?_
        refine qg_call (v := none) (h' := h6) (as := [.ref 1]) rfl rfl rfl rfl rfl rfl rfl (ai_rcv1 rfl rfl (qcs_obj hc5)) (g6) ?_
        show qg L xs _ qm_56 28 [some (.ref 1), some (.retAddr k), some (.int (nI ma)), some (.int (nI i))] [] h6 _
        refine qg_pls (n := 2) (k' := 2) (lo' := [some (.ref 1), some (.retAddr k), some (.int (nI ma)), some (.int ((nI i) + 1))]) (S' := []) (h' := h6) rfl ?_
        rw [nI_1]
        exact g7
    · rw [if_neg h1] at hz
      cases hz
      refine ⟨h, ?_, hc⟩
      refine qg_pls (n := 2) (k' := 4) (lo' := [some (.ref 1), some (.retAddr k), some (.int (nI ma)), some (.int (nI i))]) (S' := [.int 40, .int (nI i)]) (h' := h) rfl ?_
      refine qg_icmp false rfl (qc_gtF (b := 40) (by omega) (by decide)) rfl ?_
      refine qg_pls (n := 1) (k' := 6) (lo' := [some (.ref 1), some (.retAddr k), some (.int (nI ma)), some (.int (nI i))]) (S' := [.ref 1]) (h' := h) rfl ?_
      refine qg_getf (v := .retAddr (ztk e s.1)) rfl (qcs_obj hc) rfl rfl rfl ?_
      refine qg_pls (n := 1) (k' := 8) (lo' := [some (.ref 1), some (.retAddr k), some (.int (nI ma)), some (.int (nI i))]) (S' := [.retAddr k, .retAddr (ztk e s.1)]) (h' := h) rfl ?_
      refine qg_acmp true rfl (qzk (hlt _) hk) (qa_neT h1) rfl ?_
      exact qg_ret7 rfl
/-- Grammar.prefixes(k, ma) -/
theorem q_pre (ht : qtk e Y) {k ma n : Nat} {p : zK} {v : Option zK} (hk : k < 104) (hk2 : ¬ (k = 82 ∨ k = 10) ∧ ¬ (k = 83 ∨ k = 25)) (hma : ma ≤ 8) (hc : qcs e Y bc bs (p ++ P0) s h) (hz : zpre e k ma n p s = some (v, s')) : ∃ h', qe L xs (d + 6) 56 [.ref 1, .retAddr k, .int (nI ma)] h (qoutv v none, h') ∧ qend e Y bc bs (v.map (fun p => p ++ P0)) s' h' := by
  obtain ⟨h1, g1, g2⟩ := q_prel (L := L) (xs := xs) (d := d) ht hk hk2 hma n 0 p s h v s' (Nat.zero_le _) hc hz
  refine ⟨h1, ?_, g2⟩
  refine qe_of (M := qm_56) rfl rfl ?_
  show qg L xs _ qm_56 0 [some (.ref 1), some (.retAddr k), some (.int (nI ma)), none] [] h _
  refine qg_pls (n := 2) (k' := 2) (lo' := [some (.ref 1), some (.retAddr k), some (.int (nI ma)), some (.int 0)]) (S' := []) (h' := h) rfl ?_
  exact g1
/-- the topmost operator is taken off -/
theorem qcs_pop {q : Nat × Nat} (hc : qcs e Y bc bs (q :: P) s h) (hw : 0 < s.2.2.2.1) : qcs e Y bc bs P (s.1, s.2.1, s.2.2.1, s.2.2.2.1 - 1, s.2.2.2.2) (h.1.set 1 (qgo e P.length s), h.2) := by
  obtain ⟨pb, len, fm, fs, c1, c2, c3, c4, c5, c6, c7, ⟨y1, y2, y3, y4, y5⟩, c9, c10⟩ := hc
  obtain ⟨f, r1, r2, r3, r4, r5⟩ := c2
  have n1 : 1 ≠ pb := q_ne c1 r2 (by intro e; cases e)
  have hl : (q :: P).length = P.length + 1 := rfl
  refine ⟨pb, len, fm, fs, q_set c1, ⟨f, q_stay r1 (by decide), q_stay r2 n1, r3, r4, r5⟩, q_stay c3 (by decide), q_stay c4 (by decide), fun i z hi => ?_, ⟨?_, c6.2.1, c6.2.2.1, c6.2.2.2.1, ?_⟩, fun i c hi => q_stay (c7 i c hi) (fun e => by rw [← e, y1] at hi; cases hi), ⟨y1, y2, y3, y4, y5⟩, c9, c10⟩
  · refine c5 i z ?_
    rw [List.reverse_cons, List.getElem?_append_left (List.getElem?_eq_some_iff.mp hi).1]
    exact hi
  · show P.length ≤ s.2.2.2.1 - 1
    omega
  · show s.2.2.2.1 - 1 ≤ 300
    omega
theorem q_cbl (ht : qtk e Y) {nx fl0 st0 ma0 : Nat} (hnx : nx ≤ 8) : ∀ (p : zK) (i st ma : Nat) (s : zS) (h : ai_H) (v : Option (zK × Nat × Nat)) (s' : zS), i + (p ++ P0).length ≤ 300 → qcs e Y bc bs (p ++ P0) s h → st < 2 ^ 31 → ma ≤ 8 → zcb nx p st ma s = some (v, s') → ∃ p' st' ma' h' i', v = some (p', st', ma') ∧ (∀ o, qg L xs (d + 5) qm_74 50 [some (.ref 1), some (.int (nI P0.length)), some (.int (nI st0)), some (.int (nI ma0)), some (.int (nI nx)), some (.int (nI st')), some (.int (nI ma')), some (.int (nI i'))] [] h' o → qg L xs (d + 5) qm_74 6 [some (.ref 1), some (.int (nI P0.length)), some (.int (nI st0)), some (.int (nI ma0)), some (.int (nI nx)), some (.int (nI st)), some (.int (nI ma)), some (.int (nI i))] [] h o) ∧ qcs e Y bc bs (p' ++ P0) s' h' ∧ ma' ≤ 8 ∧ st' < 2 ^ 31 := by
  intro p
  induction p with
  | nil =>
    intro i st ma s h v s' hi hc hst hma hz
    cases hz
    refine ⟨[], st, ma, h, i, rfl, fun o hg => ?_, hc, hma, hst⟩
    refine qg_pls (n := 2) (k' := 8) (lo' := [some (.ref 1), some (.int (nI P0.length)), some (.int (nI st0)), some (.int (nI ma0)), some (.int (nI nx)), some (.int (nI st)), some (.int (nI ma)), some (.int (nI i))]) (S' := [.int 300, .int (nI i)]) (h' := h) rfl ?_
    by_cases h3 : i < 300
    · skip
      refine qg_icmp false rfl (qc_geF (b := 300) h3 (by decide)) rfl ?_
      refine qg_pls (n := 3) (k' := 12) (lo' := [some (.ref 1), some (.int (nI P0.length)), some (.int (nI st0)), some (.int (nI ma0)), some (.int (nI nx)), some (.int (nI st)), some (.int (nI ma)), some (.int (nI i))]) (S' := [.int (nI nx), .int (nI P0.length), .ref 1]) (h' := h) rfl ?_
      refine qg_call (v := some (.int (nI (zabove nx [])))) (h' := h) (as := [.ref 1, .int (nI P0.length), .int (nI nx)]) rfl rfl rfl rfl rfl rfl rfl (ai_rcv1 rfl rfl (qcs_obj hc)) (q_above (p := []) hc hnx) ?_
      show qg L xs _ qm_74 13 [some (.ref 1), some (.int (nI P0.length)), some (.int (nI st0)), some (.int (nI ma0)), some (.int (nI nx)), some (.int (nI st)), some (.int (nI ma)), some (.int (nI i))] [.int (nI (zabove nx []))] h _
      refine qg_if true rfl (rfl) rfl ?_
      exact hg
    · skip
      refine qg_icmp true rfl (qc_geT (b := 300) (by omega) (by simp at hi; omega)) rfl ?_
      exact hg
  | cons q p ih =>
    intro i st ma s h v s' hi hc hst hma hz
    have hb := qcs_bd hc
    have hl : ((q :: p) ++ P0).length = (p ++ P0).length + 1 := rfl
    obtain ⟨fm, fs, d3, d4, d5, d6, d7, d8⟩ := q_peek (p := p ++ P0) hc
    simp only [zcb] at hz
    by_cases hq : nx ≤ q.2
    · rw [if_pos hq] at hz
      rcases zbd_inv hz with ⟨hz1, -⟩ | ⟨a1, s1, hz1, hz⟩
      · obtain ⟨-, q, -⟩ := zpop_inv hz1; cases q
      obtain ⟨w1, -, e1⟩ := zpop_inv hz1
      have hc1 := qcs_pop (P := p ++ P0) hc w1
      rw [← e1] at hc1
      rcases zbd_inv hz with ⟨hz2, -⟩ | ⟨a2, s2, hz2, hz⟩
      · obtain ⟨-, q, -⟩ := zput_inv hz2; cases q
      obtain ⟨h2, g2, hc2⟩ := qi_put (L := L) (xs := xs) (d := d) (c := 1008) (by decide) (by decide) _ _ _ _ _ hc1 hz2
      obtain ⟨fs1, b1⟩ := qcs_plain hc1
      have hc2 : qcs e Y bc bs (p ++ P0) s2 h2 := hc2
      have hb2 := qcs_bd hc2
      have go : ∀ {s3 : zS} {h3 : ai_H}, qcs e Y bc bs (p ++ P0) s3 h3 → zcb nx p q.1 q.2 s3 = some (v, s') → (∀ o, qg L xs (d + 5) qm_74 48 [some (.ref 1), some (.int (nI P0.length)), some (.int (nI st0)), some (.int (nI ma0)), some (.int (nI nx)), some (.int (nI q.1)), some (.int (nI q.2)), some (.int (nI i))] [] h3 o → qg L xs (d + 5) qm_74 36 [some (.ref 1), some (.int (nI P0.length)), some (.int (nI st0)), some (.int (nI ma0)), some (.int (nI nx)), some (.int (nI q.1)), some (.int (nI q.2)), some (.int (nI i))] [] h2 o) → ∃ p' st' ma' h' i', v = some (p', st', ma') ∧ (∀ o, qg L xs (d + 5) qm_74 50 [some (.ref 1), some (.int (nI P0.length)), some (.int (nI st0)), some (.int (nI ma0)), some (.int (nI nx)), some (.int (nI st')), some (.int (nI ma')), some (.int (nI i'))] [] h' o → qg L xs (d + 5) qm_74 6 [some (.ref 1), some (.int (nI P0.length)), some (.int (nI st0)), some (.int (nI ma0)), some (.int (nI nx)), some (.int (nI st)), some (.int (nI ma)), some (.int (nI i))] [] h o) ∧ qcs e Y bc bs (p' ++ P0) s' h' ∧ ma' ≤ 8 ∧ st' < 2 ^ 31 := by
        intro s3 h3 hc3 hz3 hgo
        obtain ⟨p', st', ma', h9, i9, k1, k2, k3, k4, k5⟩ := ih (i + 1) q.1 q.2 s3 h3 v s' (by omega) hc3 d8 d7 hz3
        refine ⟨p', st', ma', h9, i9, k1, fun o hg => ?_, k3, k4, k5⟩
        have hob := qcs_obj hc
        rw [hl] at hob
        refine qg_pls (n := 2) (k' := 8) (lo' := [some (.ref 1), some (.int (nI P0.length)), some (.int (nI st0)), some (.int (nI ma0)), some (.int (nI nx)), some (.int (nI st)), some (.int (nI ma)), some (.int (nI i))]) (S' := [.int 300, .int (nI i)]) (h' := h) rfl ?_
        refine qg_icmp false rfl (qc_geF (b := 300) (by omega) (by decide)) rfl ?_
        refine qg_pls (n := 3) (k' := 12) (lo' := [some (.ref 1), some (.int (nI P0.length)), some (.int (nI st0)), some (.int (nI ma0)), some (.int (nI nx)), some (.int (nI st)), some (.int (nI ma)), some (.int (nI i))]) (S' := [.int (nI nx), .int (nI P0.length), .ref 1]) (h' := h) rfl ?_
        refine qg_call (v := some (.int (nI (zabove nx (q :: p))))) (h' := h) (as := [.ref 1, .int (nI P0.length), .int (nI nx)]) rfl rfl rfl rfl rfl rfl rfl (ai_rcv1 rfl rfl hob) (q_above (p := q :: p) hc hnx) ?_
        show qg L xs _ qm_74 13 [some (.ref 1), some (.int (nI P0.length)), some (.int (nI st0)), some (.int (nI ma0)), some (.int (nI nx)), some (.int (nI st)), some (.int (nI ma)), some (.int (nI i))] [.int (nI (zabove nx (q :: p)))] h _
        rw [show zabove nx (q :: p) = 1 from if_pos hq]
        refine qg_if false rfl (rfl) rfl ?_
        refine qg_pls (n := 2) (k' := 16) (lo' := [some (.ref 1), some (.int (nI P0.length)), some (.int (nI st0)), some (.int (nI ma0)), some (.int (nI nx)), some (.int (nI st)), some (.int (nI ma)), some (.int (nI i))]) (S' := [.ref 1, .ref 1]) (h' := h) rfl ?_
        refine qg_getf (v := .int (nI ((p ++ P0).length + 1))) rfl hob rfl rfl rfl ?_
        refine qg_pls (n := 2) (k' := 19) (lo' := [some (.ref 1), some (.int (nI P0.length)), some (.int (nI st0)), some (.int (nI ma0)), some (.int (nI nx)), some (.int (nI st)), some (.int (nI ma)), some (.int (nI i))]) (S' := [.int ((nI ((p ++ P0).length + 1)) - 1), .ref 1]) (h' := h) rfl ?_
        rw [show nI ((p ++ P0).length + 1) - 1 = nI (p ++ P0).length from nI_pred _]
        refine qg_putf rfl hob rfl rfl (Nat.le_of_ble_eq_true rfl) rfl ?_
        refine qg_pls (n := 1) (k' := 21) (lo' := [some (.ref 1), some (.int (nI P0.length)), some (.int (nI st0)), some (.int (nI ma0)), some (.int (nI nx)), some (.int (nI st)), some (.int (nI ma)), some (.int (nI i))]) (S' := [.ref 1]) (h' := (h.1.set 1 (ai_obj 1 [.ref 2, .ref 4, .ref 6, .int (nI s.1), .retAddr (ztk e s.1), .int (nI s.2.1), .int (nI s.2.2.1), .ref 10, .ref 11, .int (nI (p ++ P0).length)]), h.2)) rfl ?_
        refine qg_getf (v := .ref 11) rfl (q_set hob) rfl rfl rfl ?_
        refine qg_pls (n := 1) (k' := 23) (lo' := [some (.ref 1), some (.int (nI P0.length)), some (.int (nI st0)), some (.int (nI ma0)), some (.int (nI nx)), some (.int (nI st)), some (.int (nI ma)), some (.int (nI i))]) (S' := [.ref 1, .ref 11]) (h' := (h.1.set 1 (ai_obj 1 [.ref 2, .ref 4, .ref 6, .int (nI s.1), .retAddr (ztk e s.1), .int (nI s.2.1), .int (nI s.2.2.1), .ref 10, .ref 11, .int (nI (p ++ P0).length)]), h.2)) rfl ?_
        refine qg_getf (v := .int (nI (p ++ P0).length)) rfl (q_set hob) rfl rfl rfl ?_
        refine qg_ald rfl (fun _ _ _ => rfl) (q_stay d4 (by decide)) (by omega) (by decide) ?_
        rw [d6]
        refine qg_pls (n := 2) (k' := 27) (lo' := [some (.ref 1), some (.int (nI P0.length)), some (.int (nI st0)), some (.int (nI ma0)), some (.int (nI nx)), some (.int (nI q.1)), some (.int (nI ma)), some (.int (nI i))]) (S' := [.ref 1]) (h' := (h.1.set 1 (ai_obj 1 [.ref 2, .ref 4, .ref 6, .int (nI s.1), .retAddr (ztk e s.1), .int (nI s.2.1), .int (nI s.2.2.1), .ref 10, .ref 11, .int (nI (p ++ P0).length)]), h.2)) rfl ?_
        refine qg_getf (v := .ref 10) rfl (q_set hob) rfl rfl rfl ?_
        refine qg_pls (n := 1) (k' := 29) (lo' := [some (.ref 1), some (.int (nI P0.length)), some (.int (nI st0)), some (.int (nI ma0)), some (.int (nI nx)), some (.int (nI q.1)), some (.int (nI ma)), some (.int (nI i))]) (S' := [.ref 1, .ref 10]) (h' := (h.1.set 1 (ai_obj 1 [.ref 2, .ref 4, .ref 6, .int (nI s.1), .retAddr (ztk e s.1), .int (nI s.2.1), .int (nI s.2.2.1), .ref 10, .ref 11, .int (nI (p ++ P0).length)]), h.2)) rfl ?_
        refine qg_getf (v := .int (nI (p ++ P0).length)) rfl (q_set hob) rfl rfl rfl ?_
        refine qg_ald rfl (fun _ _ _ => rfl) (q_stay d3 (by decide)) (by omega) (by decide) ?_
        rw [d5]
        refine qg_pls (n := 2) (k' := 33) (lo' := [some (.ref 1), some (.int (nI P0.length)), some (.int (nI st0)), some (.int (nI ma0)), some (.int (nI nx)), some (.int (nI q.1)), some (.int (nI q.2)), some (.int (nI i))]) (S' := [.ref 1]) (h' := (h.1.set 1 (ai_obj 1 [.ref 2, .ref 4, .ref 6, .int (nI s.1), .retAddr (ztk e s.1), .int (nI s.2.1), .int (nI s.2.2.1), .ref 10, .ref 11, .int (nI (p ++ P0).length)]), h.2)) rfl ?_
        refine qg_getf (v := .ref 4) rfl (q_set hob) rfl rfl rfl ?_
        refine qg_pls (n := 1) (k' := 35) (lo' := [some (.ref 1), some (.int (nI P0.length)), some (.int (nI st0)), some (.int (nI ma0)), some (.int (nI nx)), some (.int (nI q.1)), some (.int (nI q.2)), some (.int (nI i))]) (S' := [.retAddr 1008, .ref 4]) (h' := (h.1.set 1 (ai_obj 1 [.ref 2, .ref 4, .ref 6, .int (nI s.1), .retAddr (ztk e s.1), .int (nI s.2.1), .int (nI s.2.2.1), .ref 10, .ref 11, .int (nI (p ++ P0).length)]), h.2)) rfl ?_
        refine qg_call (v := none) (h' := h2) (as := [.ref 4, .retAddr 1008]) rfl rfl rfl rfl rfl rfl rfl (ai_rcv1 rfl rfl b1) (g2) ?_
        show qg L xs _ qm_74 36 [some (.ref 1), some (.int (nI P0.length)), some (.int (nI st0)), some (.int (nI ma0)), some (.int (nI nx)), some (.int (nI q.1)), some (.int (nI q.2)), some (.int (nI i))] [] h2 _
        refine hgo _ ?_
        refine qg_pls (n := 2) (k' := 6) (lo' := [some (.ref 1), some (.int (nI P0.length)), some (.int (nI st0)), some (.int (nI ma0)), some (.int (nI nx)), some (.int (nI q.1)), some (.int (nI q.2)), some (.int ((nI i) + 1))]) (S' := []) (h' := h3) rfl ?_
        rw [nI_1]
        exact k2 _ hg
      have down : ∀ {a3 : Nat} {s3 : zS}, zdown s2 = some (some a3, s3) → ∃ h3, qcs e Y bc bs (p ++ P0) s3 h3 ∧ (∀ o, qg L xs (d + 5) qm_74 48 [some (.ref 1), some (.int (nI P0.length)), some (.int (nI st0)), some (.int (nI ma0)), some (.int (nI nx)), some (.int (nI q.1)), some (.int (nI q.2)), some (.int (nI i))] [] h3 o → qg L xs (d + 5) qm_74 42 [some (.ref 1), some (.int (nI P0.length)), some (.int (nI st0)), some (.int (nI ma0)), some (.int (nI nx)), some (.int (nI q.1)), some (.int (nI q.2)), some (.int (nI i))] [] h2 o) := by
        intro a3 s3 hd
        obtain ⟨o1, -, e3⟩ := zdown_inv hd
        obtain ⟨pb, len, hc0⟩ := id hc2
        have h9 := qcs0_set (s' := (s2.1, s2.2.1 - 1, s2.2.2)) hc0 rfl ⟨hb2.2.1, (by show s2.2.1 - 1 ≤ 40; omega), hb2.2.2.2.1⟩
        refine ⟨(h2.1.set 1 (qgo e (p ++ P0).length (s2.1, s2.2.1 - 1, s2.2.2)), h2.2), by rw [e3]; exact ⟨pb, len, h9⟩, fun o hg => ?_⟩
        refine qg_pls (n := 2) (k' := 44) (lo' := [some (.ref 1), some (.int (nI P0.length)), some (.int (nI st0)), some (.int (nI ma0)), some (.int (nI nx)), some (.int (nI q.1)), some (.int (nI q.2)), some (.int (nI i))]) (S' := [.ref 1, .ref 1]) (h' := h2) rfl ?_
        refine qg_getf (v := .int (nI s2.2.1)) rfl (qcs_obj hc2) rfl rfl rfl ?_
        refine qg_pls (n := 2) (k' := 47) (lo' := [some (.ref 1), some (.int (nI P0.length)), some (.int (nI st0)), some (.int (nI ma0)), some (.int (nI nx)), some (.int (nI q.1)), some (.int (nI q.2)), some (.int (nI i))]) (S' := [.int ((nI s2.2.1) - 1), .ref 1]) (h' := h2) rfl ?_
        rw [show nI s2.2.1 - 1 = nI (s2.2.1 - 1) from nI_sub (b := 1) (by omega)]
        refine qg_putf rfl (qcs_obj hc2) rfl rfl (Nat.le_of_ble_eq_true rfl) rfl ?_
        exact hg
      rcases zbd_inv hz with ⟨hz3, -⟩ | ⟨a3, s3, hz3, hz⟩
      · split at hz3
        · obtain ⟨-, q, -⟩ := zdown_inv hz3; cases q
        · cases hz3
      by_cases q3 : q.2 = 3
      · rw [if_pos (Or.inl q3)] at hz3
        obtain ⟨h3, k1, k2⟩ := down hz3
        refine go k1 hz (fun o hg => ?_)
        refine qg_pls (n := 2) (k' := 38) (lo' := [some (.ref 1), some (.int (nI P0.length)), some (.int (nI st0)), some (.int (nI ma0)), some (.int (nI nx)), some (.int (nI q.1)), some (.int (nI q.2)), some (.int (nI i))]) (S' := [.int 3, .int (nI q.2)]) (h' := h2) rfl ?_
        refine qg_icmp true rfl (qc_eqT (b := 3) q3) rfl ?_
        exact k2 _ hg
      · by_cases q8 : q.2 = 8
        · rw [if_pos (Or.inr q8)] at hz3
          obtain ⟨h3, k1, k2⟩ := down hz3
          refine go k1 hz (fun o hg => ?_)
          refine qg_pls (n := 2) (k' := 38) (lo' := [some (.ref 1), some (.int (nI P0.length)), some (.int (nI st0)), some (.int (nI ma0)), some (.int (nI nx)), some (.int (nI q.1)), some (.int (nI q.2)), some (.int (nI i))]) (S' := [.int 3, .int (nI q.2)]) (h' := h2) rfl ?_
          refine qg_icmp false rfl (qc_eqF (b := 3) q3 (by omega) (by decide)) rfl ?_
          refine qg_pls (n := 2) (k' := 41) (lo' := [some (.ref 1), some (.int (nI P0.length)), some (.int (nI st0)), some (.int (nI ma0)), some (.int (nI nx)), some (.int (nI q.1)), some (.int (nI q.2)), some (.int (nI i))]) (S' := [.int 8, .int (nI q.2)]) (h' := h2) rfl ?_
          refine qg_icmp false rfl (qc_neF (b := 8) q8) rfl ?_
          exact k2 _ hg
        · rw [if_neg (fun h => h.elim q3 q8)] at hz3
          cases hz3
          refine go hc2 hz (fun o hg => ?_)
          refine qg_pls (n := 2) (k' := 38) (lo' := [some (.ref 1), some (.int (nI P0.length)), some (.int (nI st0)), some (.int (nI ma0)), some (.int (nI nx)), some (.int (nI q.1)), some (.int (nI q.2)), some (.int (nI i))]) (S' := [.int 3, .int (nI q.2)]) (h' := h2) rfl ?_
          refine qg_icmp false rfl (qc_eqF (b := 3) q3 (by omega) (by decide)) rfl ?_
          refine qg_pls (n := 2) (k' := 41) (lo' := [some (.ref 1), some (.int (nI P0.length)), some (.int (nI st0)), some (.int (nI ma0)), some (.int (nI nx)), some (.int (nI q.1)), some (.int (nI q.2)), some (.int (nI i))]) (S' := [.int 8, .int (nI q.2)]) (h' := h2) rfl ?_
          refine qg_icmp true rfl (qc_neT (b := 8) q8 (by omega) (by decide)) rfl ?_
          exact hg
    · rw [if_neg hq] at hz
      cases hz
      refine ⟨q :: p, st, ma, h, i, rfl, fun o hg => ?_, hc, hma, hst⟩
      refine qg_pls (n := 2) (k' := 8) (lo' := [some (.ref 1), some (.int (nI P0.length)), some (.int (nI st0)), some (.int (nI ma0)), some (.int (nI nx)), some (.int (nI st)), some (.int (nI ma)), some (.int (nI i))]) (S' := [.int 300, .int (nI i)]) (h' := h) rfl ?_
      refine qg_icmp false rfl (qc_geF (b := 300) (by omega) (by decide)) rfl ?_
      refine qg_pls (n := 3) (k' := 12) (lo' := [some (.ref 1), some (.int (nI P0.length)), some (.int (nI st0)), some (.int (nI ma0)), some (.int (nI nx)), some (.int (nI st)), some (.int (nI ma)), some (.int (nI i))]) (S' := [.int (nI nx), .int (nI P0.length), .ref 1]) (h' := h) rfl ?_
      refine qg_call (v := some (.int (nI (zabove nx (q :: p))))) (h' := h) (as := [.ref 1, .int (nI P0.length), .int (nI nx)]) rfl rfl rfl rfl rfl rfl rfl (ai_rcv1 rfl rfl (qcs_obj hc)) (q_above (p := q :: p) hc hnx) ?_
      show qg L xs _ qm_74 13 [some (.ref 1), some (.int (nI P0.length)), some (.int (nI st0)), some (.int (nI ma0)), some (.int (nI nx)), some (.int (nI st)), some (.int (nI ma)), some (.int (nI i))] [.int (nI (zabove nx (q :: p)))] h _
      rw [show zabove nx (q :: p) = 0 from if_neg hq]
      refine qg_if true rfl (rfl) rfl ?_
      exact hg
theorem zreopen_inv {v : Option Nat} (h : zreopen s = some (v, s')) : 2 ≤ s.2.2.2.2.length ∧ v = some 0 ∧ s' = (s.1, s.2.1, s.2.2.1, s.2.2.2.1, s.2.2.2.2.take (s.2.2.2.2.length - 2)) := by
  unfold zreopen at h
  split at h
  · cases h
  · cases h; exact ⟨by omega, rfl, rfl⟩
theorem zopen_inv {st : Nat} {v : Option Nat} (h : zopen st s = some (v, s')) : st ≤ s.2.2.2.2.length ∧ s.2.2.2.2.length + 2 ≤ 524288 ∧ v = some 0 ∧ s' = (s.1, s.2.1, s.2.2.1, s.2.2.2.1, s.2.2.2.2.take st ++ [40, 32] ++ s.2.2.2.2.drop st) := by
  unfold zopen at h
  split at h
  · cases h
  · cases h; rename_i h; exact ⟨by omega, by omega, rfl, rfl⟩
/-- plain.reopen() -/
theorem qi_reopen : qim L xs e Y bc bs (d + 2) 76 [.ref 4] 0 zreopen := by
  intro P s h v s' hc hf
  obtain ⟨f1, rfl, rfl⟩ := zreopen_inv hf
  obtain ⟨pb, len, h0⟩ := hc
  obtain ⟨fm, fs, -, hrow, -⟩ := id h0
  obtain ⟨h1, g1, g2, g3⟩ := q_reopen (L := L) (xs := xs) (d := d) hrow f1
  exact ⟨h1, g1, pb, len, qcs0_row h0 g3 g2⟩
/-- plain.openAt(st) -/
theorem qi_open {st : Nat} : qim L xs e Y bc bs (d + 4) 77 [.ref 4, .int (nI st)] 0 (zopen st) := by
  intro P s h v s' hc hf
  obtain ⟨f1, f2, rfl, rfl⟩ := zopen_inv hf
  obtain ⟨pb, len, h0⟩ := hc
  obtain ⟨fm, fs, -, hrow, -⟩ := id h0
  obtain ⟨h1, b1, len1, g1, g2, g3⟩ := q_open (L := L) (xs := xs) (d := d) hrow f1 f2
  exact ⟨h1, g1, b1, len1, qcs0_row h0 g3 g2⟩
/-- Grammar.combine(floor, st, ma, next) -/
theorem q_comb (ht : qtk e Y) {nx st ma : Nat} {p : zK} {v : Option (zK × Nat)} (hnx : nx ≤ 8) (hst : st < 2 ^ 31) (hma : ma ≤ 8) (hc : qcs e Y bc bs (p ++ P0) s h) (hz : zcomb nx st ma p s = some (v, s')) : ∃ p' ma' h', v = some (p', ma') ∧ qe L xs (d + 6) 74 [.ref 1, .int (nI P0.length), .int (nI st), .int (nI ma), .int (nI nx)] h (.inl (some (.int (nI ma'))), h') ∧ qcs e Y bc bs (p' ++ P0) s' h' ∧ ma' ≤ 8 := by
  have hb := qcs_bd hc
  unfold zcomb at hz
  rcases zbd_inv hz with ⟨hz1, -⟩ | ⟨q, s1, hz1, hz⟩
  · obtain ⟨a1, a2, a3, a4, a5, q, a6⟩ := q_cbl (L := L) (xs := xs) (d := d) (fl0 := 0) (st0 := 0) (ma0 := 0) ht hnx p 0 st ma s h _ _ (by omega) hc hst hma hz1
    cases q
  obtain ⟨p1, st1, ma1, h1, i1, q1, k1, k2, k3, k4⟩ := q_cbl (L := L) (xs := xs) (d := d) (fl0 := 0) (st0 := st) (ma0 := ma) ht hnx p 0 st ma s h _ _ (by omega) hc hst hma hz1
  cases q1
  dsimp only at hz
  by_cases h0 : nx = 0
  · rw [if_pos h0] at hz
    cases hz
    refine ⟨p1, ma1, h1, rfl, ?_, k2, k3⟩
    refine qe_of (M := qm_74) rfl rfl ?_
    show qg L xs _ qm_74 0 [some (.ref 1), some (.int (nI P0.length)), some (.int (nI st)), some (.int (nI ma)), some (.int (nI nx)), none, none, none] [] h _
    refine qg_pls (n := 6) (k' := 6) (lo' := [some (.ref 1), some (.int (nI P0.length)), some (.int (nI st)), some (.int (nI ma)), some (.int (nI nx)), some (.int (nI st)), some (.int (nI ma)), some (.int 0)]) (S' := []) (h' := h) rfl ?_
    refine k1 _ ?_
    refine qg_pls (n := 1) (k' := 51) (lo' := [some (.ref 1), some (.int (nI P0.length)), some (.int (nI st)), some (.int (nI ma)), some (.int (nI nx)), some (.int (nI st1)), some (.int (nI ma1)), some (.int (nI i1))]) (S' := [.int (nI nx)]) (h' := h1) rfl ?_
    refine qg_if true rfl (qc_eqT (b := 0) h0) rfl ?_
    refine qg_pls (n := 1) (k' := 68) (lo' := [some (.ref 1), some (.int (nI P0.length)), some (.int (nI st)), some (.int (nI ma)), some (.int (nI nx)), some (.int (nI st1)), some (.int (nI ma1)), some (.int (nI i1))]) (S' := [.int (nI ma1)]) (h' := h1) rfl ?_
    exact qg_ret5 rfl rfl rfl
  · rw [if_neg h0] at hz
    rcases zbd_inv hz with ⟨hz2, -⟩ | ⟨p2, s2, hz2, hz⟩
    · obtain ⟨-, q, -⟩ := zpush_inv hz2; cases q
    obtain ⟨w1, q, e2⟩ := zpush_inv hz2
    cases q
    obtain ⟨h2, g2, hc2⟩ := q_push (L := L) (xs := xs) (d := d + 4) (st := st1) (ma := nx) k2 w1 hnx k4
    rw [← e2] at hc2
    obtain ⟨fs2, b2⟩ := qcs_plain hc2
    by_cases hmn : ma1 = nx
    · rw [if_pos hmn] at hz
      rcases zbd_inv hz with ⟨hz3, -⟩ | ⟨a3, s3, hz3, hz⟩
      · obtain ⟨-, q, -⟩ := zreopen_inv hz3; cases q
      cases hz
      obtain ⟨h3, g3, hc3⟩ := qi_reopen (L := L) (xs := xs) (d := d + 3) _ _ _ _ _ hc2 hz3
      refine ⟨(st1, nx) :: p1, ma1, h3, rfl, ?_, hc3, k3⟩
      refine qe_of (M := qm_74) rfl rfl ?_
      show qg L xs _ qm_74 0 [some (.ref 1), some (.int (nI P0.length)), some (.int (nI st)), some (.int (nI ma)), some (.int (nI nx)), none, none, none] [] h _
      refine qg_pls (n := 6) (k' := 6) (lo' := [some (.ref 1), some (.int (nI P0.length)), some (.int (nI st)), some (.int (nI ma)), some (.int (nI nx)), some (.int (nI st)), some (.int (nI ma)), some (.int 0)]) (S' := []) (h' := h) rfl ?_
      refine k1 _ ?_
      refine qg_pls (n := 1) (k' := 51) (lo' := [some (.ref 1), some (.int (nI P0.length)), some (.int (nI st)), some (.int (nI ma)), some (.int (nI nx)), some (.int (nI st1)), some (.int (nI ma1)), some (.int (nI i1))]) (S' := [.int (nI nx)]) (h' := h1) rfl ?_
      refine qg_if false rfl (qc_eqF (b := 0) h0 (by omega) (by decide)) rfl ?_
      refine qg_pls (n := 3) (k' := 55) (lo' := [some (.ref 1), some (.int (nI P0.length)), some (.int (nI st)), some (.int (nI ma)), some (.int (nI nx)), some (.int (nI st1)), some (.int (nI ma1)), some (.int (nI i1))]) (S' := [.int (nI nx), .int (nI st1), .ref 1]) (h' := h1) rfl ?_
      refine qg_call (v := none) (h' := h2) (as := [.ref 1, .int (nI st1), .int (nI nx)]) rfl rfl rfl rfl rfl rfl rfl (ai_rcv1 rfl rfl (qcs_obj k2)) (g2) ?_
      show qg L xs _ qm_74 56 [some (.ref 1), some (.int (nI P0.length)), some (.int (nI st)), some (.int (nI ma)), some (.int (nI nx)), some (.int (nI st1)), some (.int (nI ma1)), some (.int (nI i1))] [] h2 _
      refine qg_pls (n := 2) (k' := 58) (lo' := [some (.ref 1), some (.int (nI P0.length)), some (.int (nI st)), some (.int (nI ma)), some (.int (nI nx)), some (.int (nI st1)), some (.int (nI ma1)), some (.int (nI i1))]) (S' := [.int (nI nx), .int (nI ma1)]) (h' := h2) rfl ?_
      refine qg_icmp false rfl (qc_neF hmn) rfl ?_
      refine qg_pls (n := 1) (k' := 60) (lo' := [some (.ref 1), some (.int (nI P0.length)), some (.int (nI st)), some (.int (nI ma)), some (.int (nI nx)), some (.int (nI st1)), some (.int (nI ma1)), some (.int (nI i1))]) (S' := [.ref 1]) (h' := h2) rfl ?_
      refine qg_getf (v := .ref 4) rfl (qcs_obj hc2) rfl rfl rfl ?_
      refine qg_call (v := none) (h' := h3) (as := [.ref 4]) rfl rfl rfl rfl rfl rfl rfl (ai_rcv1 rfl rfl b2) (g3) ?_
      show qg L xs _ qm_74 62 [some (.ref 1), some (.int (nI P0.length)), some (.int (nI st)), some (.int (nI ma)), some (.int (nI nx)), some (.int (nI st1)), some (.int (nI ma1)), some (.int (nI i1))] [] h3 _
      refine qg_pls (n := 2) (k' := 68) (lo' := [some (.ref 1), some (.int (nI P0.length)), some (.int (nI st)), some (.int (nI ma)), some (.int (nI nx)), some (.int (nI st1)), some (.int (nI ma1)), some (.int (nI i1))]) (S' := [.int (nI ma1)]) (h' := h3) rfl ?_
      exact qg_ret5 rfl rfl rfl
    · rw [if_neg hmn] at hz
      rcases zbd_inv hz with ⟨hz3, -⟩ | ⟨a3, s3, hz3, hz⟩
      · obtain ⟨-, -, q, -⟩ := zopen_inv hz3; cases q
      cases hz
      obtain ⟨h3, g3, hc3⟩ := qi_open (L := L) (xs := xs) (d := d + 1) _ _ _ _ _ hc2 hz3
      refine ⟨(st1, nx) :: p1, ma1, h3, rfl, ?_, hc3, k3⟩
      refine qe_of (M := qm_74) rfl rfl ?_
      show qg L xs _ qm_74 0 [some (.ref 1), some (.int (nI P0.length)), some (.int (nI st)), some (.int (nI ma)), some (.int (nI nx)), none, none, none] [] h _
      refine qg_pls (n := 6) (k' := 6) (lo' := [some (.ref 1), some (.int (nI P0.length)), some (.int (nI st)), some (.int (nI ma)), some (.int (nI nx)), some (.int (nI st)), some (.int (nI ma)), some (.int 0)]) (S' := []) (h' := h) rfl ?_
      refine k1 _ ?_
      refine qg_pls (n := 1) (k' := 51) (lo' := [some (.ref 1), some (.int (nI P0.length)), some (.int (nI st)), some (.int (nI ma)), some (.int (nI nx)), some (.int (nI st1)), some (.int (nI ma1)), some (.int (nI i1))]) (S' := [.int (nI nx)]) (h' := h1) rfl ?_
      refine qg_if false rfl (qc_eqF (b := 0) h0 (by omega) (by decide)) rfl ?_
      refine qg_pls (n := 3) (k' := 55) (lo' := [some (.ref 1), some (.int (nI P0.length)), some (.int (nI st)), some (.int (nI ma)), some (.int (nI nx)), some (.int (nI st1)), some (.int (nI ma1)), some (.int (nI i1))]) (S' := [.int (nI nx), .int (nI st1), .ref 1]) (h' := h1) rfl ?_
      refine qg_call (v := none) (h' := h2) (as := [.ref 1, .int (nI st1), .int (nI nx)]) rfl rfl rfl rfl rfl rfl rfl (ai_rcv1 rfl rfl (qcs_obj k2)) (g2) ?_
      show qg L xs _ qm_74 56 [some (.ref 1), some (.int (nI P0.length)), some (.int (nI st)), some (.int (nI ma)), some (.int (nI nx)), some (.int (nI st1)), some (.int (nI ma1)), some (.int (nI i1))] [] h2 _
      refine qg_pls (n := 2) (k' := 58) (lo' := [some (.ref 1), some (.int (nI P0.length)), some (.int (nI st)), some (.int (nI ma)), some (.int (nI nx)), some (.int (nI st1)), some (.int (nI ma1)), some (.int (nI i1))]) (S' := [.int (nI nx), .int (nI ma1)]) (h' := h2) rfl ?_
      refine qg_icmp true rfl (qc_neT hmn (by omega) (by omega)) rfl ?_
      refine qg_pls (n := 1) (k' := 64) (lo' := [some (.ref 1), some (.int (nI P0.length)), some (.int (nI st)), some (.int (nI ma)), some (.int (nI nx)), some (.int (nI st1)), some (.int (nI ma1)), some (.int (nI i1))]) (S' := [.ref 1]) (h' := h2) rfl ?_
      refine qg_getf (v := .ref 4) rfl (qcs_obj hc2) rfl rfl rfl ?_
      refine qg_pls (n := 1) (k' := 66) (lo' := [some (.ref 1), some (.int (nI P0.length)), some (.int (nI st)), some (.int (nI ma)), some (.int (nI nx)), some (.int (nI st1)), some (.int (nI ma1)), some (.int (nI i1))]) (S' := [.int (nI st1), .ref 4]) (h' := h2) rfl ?_
      refine qg_call (v := none) (h' := h3) (as := [.ref 4, .int (nI st1)]) rfl rfl rfl rfl rfl rfl rfl (ai_rcv1 rfl rfl b2) (g3) ?_
      show qg L xs _ qm_74 67 [some (.ref 1), some (.int (nI P0.length)), some (.int (nI st)), some (.int (nI ma)), some (.int (nI nx)), some (.int (nI st1)), some (.int (nI ma1)), some (.int (nI i1))] [] h3 _
      refine qg_pls (n := 1) (k' := 68) (lo' := [some (.ref 1), some (.int (nI P0.length)), some (.int (nI st)), some (.int (nI ma)), some (.int (nI nx)), some (.int (nI st1)), some (.int (nI ma1)), some (.int (nI i1))]) (S' := [.int (nI ma1)]) (h' := h3) rfl ?_
      exact qg_ret5 rfl rfl rfl
end QCO
