/-! THE CLASS'S OTHER CALLS. (Printed by wip/whole/pp.py from wip/whole/src.) -/
section COP
variable {L : Nat} {xs : Nat → Int32} {d : Nat} {h h' : ai_H} {T Q T' : List Int32} {mx kd tb tl pb pl so fr to n tb' tl' : Nat}
theorem qmv_refl : qmv h tb tl pb pl so fr to n h tb tl pb pl so fr to n := ⟨Nat.le_refl _, fun _ _ _ _ _ _ _ _ _ _ _ _ _ _ => rfl, Or.inl rfl, Or.inl rfl, Or.inl rfl, Or.inl rfl, Or.inl rfl, by omega, by omega⟩
/-- an exception more -/
theorem qst_thr (hs : qst h T Q mx kd tb tl pb pl so fr to n) : qst (h.1, h.2.1 + 1, h.2.2 + 6) T Q mx kd tb tl pb pl so fr to n ∧ qmv h tb tl pb pl so fr to n (h.1, h.2.1 + 1, h.2.2 + 6) tb tl pb pl so fr to n := ⟨hs, Nat.le_refl _, fun _ _ _ _ _ _ _ _ _ _ _ _ _ _ => rfl, Or.inl rfl, Or.inl rfl, Or.inl rfl, Or.inl rfl, Or.inl rfl, by show 64 * (h.2.1 + 1) + _ + _ + _ ≤ _; omega, by show h.2.2 + 6 + _ + _ + _ ≤ _; omega⟩
/-- the text's row has changed -/
theorem qst_row2 (hs : qst h T Q mx kd tb tl pb pl so fr to n) (hr : qrow h' 2 tb' tl' T') (ho : qro 2 h tb tl h' tb' tl') (hT' : ∀ x ∈ T', zb x = x) : qst h' T' Q mx kd tb' tl' pb pl so fr to n ∧ qmv h tb tl pb pl so fr to n h' tb' tl' pb pl so fr to n := by
  obtain ⟨rc, a1, a2, a3, a4, l, fm, fs, r2, r4, hq, c1, c10, c11, c0, npb, bT, bQ⟩ := hs
  obtain ⟨f2, r2a, r2b, -⟩ := id r2
  obtain ⟨f4, r4a, r4b, r4c⟩ := id r4
  obtain ⟨g, f1, ff, q6, qso, qfr, qto, q5, q7, q8, q9⟩ := hq
  obtain ⟨o1, o2, o3, o4, o5, o6⟩ := ho
  have st : ∀ {i : Nat} {c : ai_C}, h.1[i]? = some c → i ≠ 2 → i ≠ tb → h'.1[i]? = some c := fun {i c} hi i1 i2 => by
    rw [o2 i i1 i2 (q_lt hi)]; exact hi
  have n4 : 4 ≠ tb := q_ne r4a r2b (by intro e; cases e)
  have n6 : 6 ≠ tb := q_ne q6 r2b (by intro e; cases e)
  have nso : so ≠ tb := q_ne qso r2b (by intro e; cases e)
  have nfr : fr ≠ tb := q_ne qfr r2b (by intro e; cases e)
  have nto : to ≠ tb := q_ne qto r2b (by intro e; cases e)
  have n1 : 1 ≠ tb := q_ne c1 r2b (by intro e; cases e)
  have n10 : 10 ≠ tb := q_ne c10 r2b (by intro e; cases e)
  have n11 : 11 ≠ tb := q_ne c11 r2b (by intro e; cases e)
  have n0 : 0 ≠ tb := q_ne c0 r2b (by intro e; cases e)
  have s2 : so ≠ 2 := q_ne qso r2a (by intro e; cases e)
  have s3 : fr ≠ 2 := q_ne qfr r2a (by intro e; cases e)
  have s4 : to ≠ 2 := q_ne qto r2a (by intro e; cases e)
  have s5 : pb ≠ 2 := q_ne r4b r2a (by intro e; cases e)
  have hpl := q_lt r4b
  refine ⟨⟨rc, a1, a2, a3, a4, l, fm, fs, hr, ⟨f4, st r4a (by decide) n4, st r4b s5 (fun e => npb e.symm), r4c⟩, ⟨g, f1, ff, st q6 (by decide) n6, st qso s2 nso, st qfr s3 nfr, st qto s4 nto, q5, q7, q8, q9⟩, st c1 (by decide) n1, st c10 (by decide) n10, st c11 (by decide) n11, st c0 (by decide) n0, by omega, hT', bQ⟩, o1, fun i i0 i1 i2 i4 i6 i10 i11 itb ipb iso ifr ito hi => o2 i i2 itb hi, o3, Or.inl rfl, Or.inl rfl, Or.inl rfl, Or.inl rfl, by omega, by omega⟩
/-- QueryReader.kind, length, depth -/
theorem q_kind (hs : qst h T Q mx kd tb tl pb pl so fr to n) : qe L xs (d + 1) 93 [.ref 0] h (.inl (some (.int (nI kd))), h) := by
  obtain ⟨rc, a1, a2, a3, a4, l, fm, fs, r2, r4, hq, c1, c10, c11, c0, npb, bT, bQ⟩ := hs
  refine qe_of (M := qm_93) rfl rfl ?_
  show qg L xs _ qm_93 0 [some (.ref 0)] [] h _
  refine qg_pls (n := 1) (k' := 1) (lo' := [some (.ref 0)]) (S' := [.ref 0]) (h' := h) rfl ?_
  refine qg_getf (v := .int (nI kd)) rfl c0 rfl rfl rfl ?_
  exact qg_ret5 rfl rfl rfl
theorem q_length (hs : qst h T Q mx kd tb tl pb pl so fr to n) : qe L xs (d + 2) 94 [.ref 0] h (.inl (some (.int (nI Q.length))), h) := by
  obtain ⟨rc, a1, a2, a3, a4, l, fm, fs, r2, r4, hq, c1, c10, c11, c0, npb, bT, bQ⟩ := hs
  refine qe_of (M := qm_94) rfl rfl ?_
  show qg L xs _ qm_94 0 [some (.ref 0)] [] h _
  refine qg_pls (n := 1) (k' := 1) (lo' := [some (.ref 0)]) (S' := [.ref 0]) (h' := h) rfl ?_
  refine qg_getf (v := .ref 4) rfl c0 rfl rfl rfl ?_
  refine qg_call (v := some (.int (nI Q.length))) (h' := h) (as := [.ref 4]) rfl rfl rfl rfl rfl rfl rfl (ai_rcv1 rfl rfl (qrow_obj r4)) (q_size (d := d) r4) ?_
  show qg L xs _ qm_94 3 [some (.ref 0)] [.int (nI Q.length)] h _
  exact qg_ret5 rfl rfl rfl
theorem q_depth (hs : qst h T Q mx kd tb tl pb pl so fr to n) : qe L xs (d + 2) 103 [.ref 0] h (.inl (some (.int (nI mx))), h) := by
  obtain ⟨rc, a1, a2, a3, a4, l, fm, fs, r2, r4, hq, c1, c10, c11, c0, npb, bT, bQ⟩ := hs
  have g : qe L xs (d + 1) 104 [.ref 1] h (.inl (some (.int (nI mx))), h) := by
    refine qe_of (M := qm_104) rfl rfl ?_
    show qg L xs _ qm_104 0 [some (.ref 1)] [] h _
    refine qg_pls (n := 1) (k' := 1) (lo' := [some (.ref 1)]) (S' := [.ref 1]) (h' := h) rfl ?_
    refine qg_getf (v := .int (nI mx)) rfl c1 rfl rfl rfl ?_
    exact qg_ret5 rfl rfl rfl
  refine qe_of (M := qm_103) rfl rfl ?_
  show qg L xs _ qm_103 0 [some (.ref 0)] [] h _
  refine qg_pls (n := 1) (k' := 1) (lo' := [some (.ref 0)]) (S' := [.ref 0]) (h' := h) rfl ?_
  refine qg_getf (v := .ref 1) rfl c0 rfl rfl rfl ?_
  refine qg_call (v := some (.int (nI mx))) (h' := h) (as := [.ref 1]) rfl rfl rfl rfl rfl rfl rfl (ai_rcv1 rfl rfl c1) (g) ?_
  show qg L xs _ qm_103 3 [some (.ref 0)] [.int (nI mx)] h _
  exact qg_ret5 rfl rfl rfl
theorem zat_asc {i : Nat} (hQ : ∀ x ∈ Q, zasc x) (hi : i < Q.length) : zat Q i = Q.getD i 0 := by
  rw [zat_lt hi]
  exact (zasc4 (hQ _ (by
    rw [List.getD_eq_getElem?_getD, List.getElem?_eq_getElem hi]
    exact List.getElem_mem hi))).2.2.2
/-- QueryReader.mark -/
theorem q_mark (hs : qst h T Q mx kd tb tl pb pl so fr to n) (hQ : ∀ x ∈ Q, zasc x) : qe L xs (d + 3) 95 [.ref 0] h (.inl (some (.int (zfold 0 Q))), h) := by
  obtain ⟨rc, a1, a2, a3, a4, l, fm, fs, r2, r4, hq, c1, c10, c11, c0, npb, bT, bQ⟩ := hs
  have hle := qrow_le r4
  have loop : ∀ (m i : Nat) (s : Int32), Q.length - i = m → i ≤ Q.length → qg L xs (d + 1) qm_96 4 [some (.ref 4), some (.int s), some (.int (nI i))] [] h (.inl (some (.int (zfold s (Q.drop i)))), h) := by
    intro m
    induction m with
    | zero =>
      intro i s hm hi
      rw [List.drop_eq_nil_of_le (show Q.length ≤ i by omega)]
      refine qg_pls (n := 2) (k' := 6) (lo' := [some (.ref 4), some (.int s), some (.int (nI i))]) (S' := [.ref 4, .int (nI i)]) (h' := h) rfl ?_
      refine qg_getf (v := .int (nI Q.length)) rfl (qrow_obj r4) rfl rfl rfl ?_
      refine qg_icmp true rfl (qc_geT (by omega) (by omega)) rfl ?_
      refine qg_pls (n := 1) (k' := 19) (lo' := [some (.ref 4), some (.int s), some (.int (nI i))]) (S' := [.int s]) (h' := h) rfl ?_
      exact qg_ret5 rfl rfl rfl
    | succ m ih =>
      intro i s hm hi
      have hi2 : i < Q.length := by omega
      rw [drop_cons (x := 0) hi2]
      have hat := q_at (L := L) (xs := xs) (d := d) (j := i) r4 (by omega)
      rw [zat_asc hQ hi2] at hat
      refine qg_pls (n := 2) (k' := 6) (lo' := [some (.ref 4), some (.int s), some (.int (nI i))]) (S' := [.ref 4, .int (nI i)]) (h' := h) rfl ?_
      refine qg_getf (v := .int (nI Q.length)) rfl (qrow_obj r4) rfl rfl rfl ?_
      refine qg_icmp false rfl (qc_geF hi2 (by omega)) rfl ?_
      refine qg_pls (n := 5) (k' := 13) (lo' := [some (.ref 4), some (.int s), some (.int (nI i))]) (S' := [.int (nI i), .ref 4, .int (31 * s)]) (h' := h) rfl ?_
      refine qg_call (v := some (.int (Q.getD i 0))) (h' := h) (as := [.ref 4, .int (nI i)]) rfl rfl rfl rfl rfl rfl rfl (ai_rcv1 rfl rfl (qrow_obj r4)) (hat) ?_
      show qg L xs _ qm_96 14 [some (.ref 4), some (.int s), some (.int (nI i))] [.int (Q.getD i 0), .int (31 * s)] h _
      refine qg_pls (n := 4) (k' := 4) (lo' := [some (.ref 4), some (.int ((31 * s) + (Q.getD i 0))), some (.int ((nI i) + 1))]) (S' := []) (h' := h) rfl ?_
      rw [nI_1]
      exact ih (i + 1) _ (by omega) (by omega)
  have g : qe L xs (d + 2) 96 [.ref 4] h (.inl (some (.int (zfold 0 Q))), h) := by
    refine qe_of (M := qm_96) rfl rfl ?_
    show qg L xs _ qm_96 0 [some (.ref 4), none, none] [] h _
    refine qg_pls (n := 4) (k' := 4) (lo' := [some (.ref 4), some (.int 0), some (.int 0)]) (S' := []) (h' := h) rfl ?_
    exact loop _ 0 0 rfl (Nat.zero_le _)
  refine qe_of (M := qm_95) rfl rfl ?_
  show qg L xs _ qm_95 0 [some (.ref 0)] [] h _
  refine qg_pls (n := 1) (k' := 1) (lo' := [some (.ref 0)]) (S' := [.ref 0]) (h' := h) rfl ?_
  refine qg_getf (v := .ref 4) rfl c0 rfl rfl rfl ?_
  refine qg_call (v := some (.int (zfold 0 Q))) (h' := h) (as := [.ref 4]) rfl rfl rfl rfl rfl rfl rfl (ai_rcv1 rfl rfl (qrow_obj r4)) (g) ?_
  show qg L xs _ qm_95 3 [some (.ref 0)] [.int (zfold 0 Q)] h _
  exact qg_ret5 rfl rfl rfl
/-- QueryReader.letter -/
theorem q_letterY (hs : qst h T Q mx kd tb tl pb pl so fr to n) (hQ : ∀ x ∈ Q, zasc x) {p : Nat} (hp : p < Q.length) : qe L xs (d + 2) 113 [.ref 0, .int (nI p)] h (.inl (some (.int (Q.getD p 0))), h) := by
  obtain ⟨rc, a1, a2, a3, a4, l, fm, fs, r2, r4, hq, c1, c10, c11, c0, npb, bT, bQ⟩ := hs
  have hle := qrow_le r4
  have hat := q_at (L := L) (xs := xs) (d := d) (j := p) r4 (by omega)
  rw [zat_asc hQ hp] at hat
  refine qe_of (M := qm_113) rfl rfl ?_
  show qg L xs _ qm_113 0 [some (.ref 0), some (.int (nI p))] [] h _
  refine qg_pls (n := 1) (k' := 1) (lo' := [some (.ref 0), some (.int (nI p))]) (S' := [.int (nI p)]) (h' := h) rfl ?_
  refine qg_if false rfl (qc_lt0 (by omega)) rfl ?_
  refine qg_pls (n := 2) (k' := 4) (lo' := [some (.ref 0), some (.int (nI p))]) (S' := [.ref 0, .int (nI p)]) (h' := h) rfl ?_
  refine qg_getf (v := .ref 4) rfl c0 rfl rfl rfl ?_
  refine qg_call (v := some (.int (nI Q.length))) (h' := h) (as := [.ref 4]) rfl rfl rfl rfl rfl rfl rfl (ai_rcv1 rfl rfl (qrow_obj r4)) (q_size (d := d) r4) ?_
  show qg L xs _ qm_113 6 [some (.ref 0), some (.int (nI p))] [.int (nI Q.length), .int (nI p)] h _
  refine qg_icmp true rfl (qc_ltT hp (by omega)) rfl ?_
  refine qg_pls (n := 1) (k' := 13) (lo' := [some (.ref 0), some (.int (nI p))]) (S' := [.ref 0]) (h' := h) rfl ?_
  refine qg_getf (v := .ref 4) rfl c0 rfl rfl rfl ?_
  refine qg_pls (n := 1) (k' := 15) (lo' := [some (.ref 0), some (.int (nI p))]) (S' := [.int (nI p), .ref 4]) (h' := h) rfl ?_
  refine qg_call (v := some (.int (Q.getD p 0))) (h' := h) (as := [.ref 4, .int (nI p)]) rfl rfl rfl rfl rfl rfl rfl (ai_rcv1 rfl rfl (qrow_obj r4)) (hat) ?_
  show qg L xs _ qm_113 16 [some (.ref 0), some (.int (nI p))] [.int (Q.getD p 0)] h _
  exact qg_ret5 rfl rfl rfl
theorem q_letterN (hs : qst h T Q mx kd tb tl pb pl so fr to n) {x : Int32} (hx : x < 0 ∨ ∃ p, p < 2 ^ 31 ∧ x = nI p ∧ Q.length ≤ p) : qe L xs (d + 2) 113 [.ref 0, .int x] h (.inr "java/lang/IndexOutOfBoundsException", (h.1, h.2.1 + 1, h.2.2 + 6)) := by
  obtain ⟨rc, a1, a2, a3, a4, l, fm, fs, r2, r4, hq, c1, c10, c11, c0, npb, bT, bQ⟩ := hs
  have hle := qrow_le r4
  by_cases hneg : x < 0
  · skip
    refine qe_of (M := qm_113) rfl rfl ?_
    show qg L xs _ qm_113 0 [some (.ref 0), some (.int x)] [] h _
    refine qg_pls (n := 1) (k' := 1) (lo' := [some (.ref 0), some (.int x)]) (S' := [.int x]) (h' := h) rfl ?_
    refine qg_if true rfl (qb_ltT hneg) rfl ?_
    exact qg_throw rfl rfl rfl
  · obtain ⟨p, hp, rfl, hQ⟩ : ∃ p, p < 2 ^ 31 ∧ x = nI p ∧ Q.length ≤ p := by
      rcases hx with z | z
      · exact absurd z hneg
      · exact z
    refine qe_of (M := qm_113) rfl rfl ?_
    show qg L xs _ qm_113 0 [some (.ref 0), some (.int (nI p))] [] h _
    refine qg_pls (n := 1) (k' := 1) (lo' := [some (.ref 0), some (.int (nI p))]) (S' := [.int (nI p)]) (h' := h) rfl ?_
    refine qg_if false rfl (qc_lt0 hp) rfl ?_
    refine qg_pls (n := 2) (k' := 4) (lo' := [some (.ref 0), some (.int (nI p))]) (S' := [.ref 0, .int (nI p)]) (h' := h) rfl ?_
    refine qg_getf (v := .ref 4) rfl c0 rfl rfl rfl ?_
    refine qg_call (v := some (.int (nI Q.length))) (h' := h) (as := [.ref 4]) rfl rfl rfl rfl rfl rfl rfl (ai_rcv1 rfl rfl (qrow_obj r4)) (q_size (d := d) r4) ?_
    show qg L xs _ qm_113 6 [some (.ref 0), some (.int (nI p))] [.int (nI Q.length), .int (nI p)] h _
    refine qg_icmp false rfl (qc_ltF hQ (by omega)) rfl ?_
    exact qg_throw rfl rfl rfl
/-- QueryReader.end -/
theorem q_endY (hs : qst h T Q mx kd tb tl pb pl so fr to n) {k : Nat} (hk : k ≤ T.length) : ∃ h', qe L xs (d + 2) 111 [.ref 0, .int (nI k)] h (.inl none, h') ∧ qst h' (T.take k) Q mx kd tb tl pb pl so fr to n ∧ qmv h tb tl pb pl so fr to n h' tb tl pb pl so fr to n := by
  obtain ⟨rc, a1, a2, a3, a4, l, fm, fs, r2, r4, hq, c1, c10, c11, c0, npb, bT, bQ⟩ := id hs
  have hle := qrow_le r2
  obtain ⟨h', g, hr, ho⟩ := q_cut (L := L) (xs := xs) (d := d) (n := k) r2 (by omega)
  obtain ⟨s1, s2⟩ := qst_row2 hs hr ho (fun x hx => bT x (List.mem_of_mem_take hx))
  refine ⟨h', ?_, s1, s2⟩
  refine qe_of (M := qm_111) rfl rfl ?_
  show qg L xs _ qm_111 0 [some (.ref 0), some (.int (nI k))] [] h _
  refine qg_pls (n := 1) (k' := 1) (lo' := [some (.ref 0), some (.int (nI k))]) (S' := [.int (nI k)]) (h' := h) rfl ?_
  refine qg_if false rfl (qc_lt0 (by omega)) rfl ?_
  refine qg_pls (n := 2) (k' := 4) (lo' := [some (.ref 0), some (.int (nI k))]) (S' := [.ref 0, .int (nI k)]) (h' := h) rfl ?_
  refine qg_getf (v := .ref 2) rfl c0 rfl rfl rfl ?_
  refine qg_call (v := some (.int (nI T.length))) (h' := h) (as := [.ref 2]) rfl rfl rfl rfl rfl rfl rfl (ai_rcv1 rfl rfl (qrow_obj r2)) (q_size (d := d) r2) ?_
  show qg L xs _ qm_111 6 [some (.ref 0), some (.int (nI k))] [.int (nI T.length), .int (nI k)] h _
  refine qg_icmp true rfl (qc_leT hk (by omega)) rfl ?_
  refine qg_pls (n := 1) (k' := 13) (lo' := [some (.ref 0), some (.int (nI k))]) (S' := [.ref 0]) (h' := h) rfl ?_
  refine qg_getf (v := .ref 2) rfl c0 rfl rfl rfl ?_
  refine qg_pls (n := 1) (k' := 15) (lo' := [some (.ref 0), some (.int (nI k))]) (S' := [.int (nI k), .ref 2]) (h' := h) rfl ?_
  refine qg_call (v := none) (h' := h') (as := [.ref 2, .int (nI k)]) rfl rfl rfl rfl rfl rfl rfl (ai_rcv1 rfl rfl (qrow_obj r2)) (g) ?_
  show qg L xs _ qm_111 16 [some (.ref 0), some (.int (nI k))] [] h' _
  exact qg_ret7 rfl
theorem q_endN (hs : qst h T Q mx kd tb tl pb pl so fr to n) {x : Int32} (hx : x < 0 ∨ nI T.length < x) : qe L xs (d + 2) 111 [.ref 0, .int x] h (.inr "java/lang/IllegalArgumentException", (h.1, h.2.1 + 1, h.2.2 + 6)) := by
  obtain ⟨rc, a1, a2, a3, a4, l, fm, fs, r2, r4, hq, c1, c10, c11, c0, npb, bT, bQ⟩ := hs
  by_cases hneg : x < 0
  · skip
    refine qe_of (M := qm_111) rfl rfl ?_
    show qg L xs _ qm_111 0 [some (.ref 0), some (.int x)] [] h _
    refine qg_pls (n := 1) (k' := 1) (lo' := [some (.ref 0), some (.int x)]) (S' := [.int x]) (h' := h) rfl ?_
    refine qg_if true rfl (qb_ltT hneg) rfl ?_
    exact qg_throw rfl rfl rfl
  · have h2 : nI T.length < x := by
      rcases hx with z | z
      · exact absurd z hneg
      · exact z
    refine qe_of (M := qm_111) rfl rfl ?_
    show qg L xs _ qm_111 0 [some (.ref 0), some (.int x)] [] h _
    refine qg_pls (n := 1) (k' := 1) (lo' := [some (.ref 0), some (.int x)]) (S' := [.int x]) (h' := h) rfl ?_
    refine qg_if false rfl (qb_ltF hneg) rfl ?_
    refine qg_pls (n := 2) (k' := 4) (lo' := [some (.ref 0), some (.int x)]) (S' := [.ref 0, .int x]) (h' := h) rfl ?_
    refine qg_getf (v := .ref 2) rfl c0 rfl rfl rfl ?_
    refine qg_call (v := some (.int (nI T.length))) (h' := h) (as := [.ref 2]) rfl rfl rfl rfl rfl rfl rfl (ai_rcv1 rfl rfl (qrow_obj r2)) (q_size (d := d) r2) ?_
    show qg L xs _ qm_111 6 [some (.ref 0), some (.int x)] [.int (nI T.length), .int x] h _
    refine qg_icmp false rfl (qb_leF h2) rfl ?_
    exact qg_throw rfl rfl rfl
end COP
