/-! THE MODEL'S ANSWERS: LETTERS, THE TAPE. (Printed by wip/whole/pp.py from wip/whole/src.) -/
section MAO
variable {L : Nat} {xs : Nat → Int32} {d : Nat} {h : ai_H} {B Q T : List Int32} {J : List zJ} {kd dp : Nat}
theorem zasc3 : (List.range 128).all (fun m => decide ((zgreat (nI m)).toNatClampNeg < 128 ∧ zgreat (nI m) = nI (zgreat (nI m)).toNatClampNeg ∧ (zsmall (nI m)).toNatClampNeg < 128 ∧ zsmall (nI m) = nI (zsmall (nI m)).toNatClampNeg ∧ zb (nI m) = nI m ∧ nI m &&& 255 = nI m)) = true := by decide +kernel
theorem zasc4 {c : Int32} (hc : zasc c) : zasc (zgreat c) ∧ zasc (zsmall c) ∧ zb c = c ∧ c &&& 255 = c := by
  obtain ⟨m, hm, rfl⟩ := hc
  obtain ⟨a1, a2, a3, a4, a5, a6⟩ := of_decide_eq_true (List.all_eq_true.mp zasc3 m (List.mem_range.mpr hm))
  exact ⟨⟨_, a1, a2⟩, ⟨_, a3, a4⟩, a5, a6⟩
theorem zasc_l {l : List Int32} (h : ∀ j, j < l.length → zasc (l.getD j 0)) : ∀ x ∈ l, zasc x := by
  intro x hx
  obtain ⟨j, hj, e1⟩ := List.getElem_of_mem hx
  have := h j hj
  rw [List.getD_eq_getElem?_getD, List.getElem?_eq_getElem hj] at this
  rw [← e1]; exact this
theorem mit_asc {rf bf : Nat → Int32} (hT : ∀ x ∈ T, zb x = x) (hi : mit T J rf bf) {k : Nat} {a : zJ} (ha : J[k]? = some a) : ∀ x ∈ a.2.1, zasc x := by
  obtain ⟨u1, u2, u3, u4, u5⟩ := hi k a ha
  refine zasc_l (fun j hj => ?_)
  rcases u2 with ⟨i, hi, hk, e1, e2⟩ | ⟨kk, hkk, e1, e2⟩
  · rw [e2] at hj ⊢
    obtain ⟨hp, hasc, hget⟩ := zit_get hT hi hk hj
    rw [hget]
    split
    · rw [← (zasc2 hasc).1]
      exact (zasc4 hasc).1
    · split
      · exact (zasc4 hasc).2.1
      · exact hasc
  · rw [e2] at hj ⊢
    obtain ⟨a, a1, -, a3⟩ := zcap (show kk < 99 by omega) hj
    exact ⟨a, a1, a3⟩
theorem jb_asc {c : Int32} (hc : zasc c) (n : Nat) : ∀ x ∈ jb c n, zasc x := by
  induction n with
  | zero => intro x hx; cases hx
  | succ n ih =>
    intro x hx
    rcases List.mem_cons.mp hx with rfl | hx
    · exact hc
    · rcases List.mem_cons.mp hx with rfl | hx
      · exact ⟨32, by decide, rfl⟩
      · exact ih x hx
theorem jb2_asc (n : Nat) : ∀ x ∈ jb2 n, zasc x := by
  induction n with
  | zero => intro x hx; cases hx
  | succ n ih =>
    intro x hx
    rcases List.mem_cons.mp hx with rfl | hx
    · exact ⟨32, by decide, rfl⟩
    · rcases List.mem_cons.mp hx with rfl | hx
      · exact ⟨41, by decide, rfl⟩
      · exact ih x hx
theorem jpc_asc {a : zJ} (ha : ∀ x ∈ a.2.1, zasc x) (f : Bool) : ∀ x ∈ jpc f a, zasc x := by
  intro x hx
  unfold jpc at hx
  rcases List.mem_append.mp hx with hx | hx
  · rcases List.mem_append.mp hx with hx | hx
    · rcases List.mem_append.mp hx with hx | hx
      · cases f with
        | true => cases hx
        | false =>
          rcases List.mem_cons.mp hx with rfl | hx
          · exact ⟨32, by decide, rfl⟩
          · cases hx
      · exact jb_asc ⟨40, by decide, rfl⟩ _ x hx
    · exact ha x hx
  · exact jb2_asc _ x hx
theorem jq_asc : ∀ (J : List zJ) (f : Bool), (∀ a ∈ J, ∀ x ∈ a.2.1, zasc x) → ∀ x ∈ jq f J, zasc x := by
  intro J
  induction J with
  | nil => intro f _ x hx; cases hx
  | cons a J ih =>
    intro f ha x hx
    rcases List.mem_append.mp hx with hx | hx
    · exact jpc_asc (ha a (List.mem_cons_self ..)) f x hx
    · exact ih false (fun b hb => ha b (List.mem_cons_of_mem _ hb)) x hx
theorem mrn_asc (hr : mrn h J T) : ∀ a ∈ J, ∀ x ∈ a.2.1, zasc x := by
  obtain ⟨cn, tp, dp, kd, v1, v10, v14, v17, v18, v19, v20, v21, ft, rf, bf, c14, cw, c17, cT, c21, c22, ct, ci, cJ⟩ := hr
  intro a ha
  obtain ⟨k, hk, e1⟩ := List.getElem_of_mem ha
  exact mit_asc cT.2.2 ci (k := k) (by rw [List.getElem?_eq_getElem hk, e1])
theorem mst_Q (hs : mst h B Q kd dp J T) : Q = jq true J ∧ (∀ x ∈ Q, zasc x) ∧ J.length ≤ 131072 := by
  have ha := mrn_asc (mst_rn hs)
  obtain ⟨_, _, _, _, _, _, _, _, _, _, _, _, _, _, _, _, -, -, -, -, -, -, -, -, -, -, -, -, -, -, -, -, cQ, cJ⟩ := hs
  have e1 : Q = jq true J := by rw [cQ, jq_Q]
  exact ⟨e1, by rw [e1]; exact jq_asc J true ha, cJ⟩
/-- in which item a letter stands -/
theorem m_letl (hr : mrn h J T) {p : Nat} (hp : p < 2 ^ 31) : ∀ (m k left : Nat), J.length - k = m → k ≤ J.length → left < 2 ^ 31 → ∃ k' left', (∀ o, qg L xs (d + 7) qm_191 23 [some (.ref 14), some (.int (nI p)), some (.int (nI left')), some (.int (nI k'))] [] h o → qg L xs (d + 7) qm_191 4 [some (.ref 14), some (.int (nI p)), some (.int (nI left)), some (.int (nI k))] [] h o) ∧ ((∃ a, J[k']? = some a ∧ left' < (jpc (decide (k' = 0)) a).length ∧ (jpc (decide (k' = 0)) a).getD left' 0 = (jq (decide (k = 0)) (J.drop k)).getD left 0 ∧ left < (jq (decide (k = 0)) (J.drop k)).length) ∨ (k' = J.length ∧ (jq (decide (k = 0)) (J.drop k)).length ≤ left)) := by
  have hw := fun k a (ha : J[k]? = some a) => m_widthOf (L := L) (xs := xs) (d := d + 1) hr ha
  obtain ⟨cn, tp, dp, kd, v1, v10, v14, v17, v18, v19, v20, v21, ft, rf, bf, c14, cw, c17, cT, c21, c22, ct, ci, cJ⟩ := id hr
  intro m
  induction m with
  | zero =>
    intro k left hm hk hl
    have e1 : k = J.length := by omega
    refine ⟨k, left, fun o hg => ?_, Or.inr ⟨e1, ?_⟩⟩
    · skip
      refine qg_pls (n := 1) (k' := 5) (lo' := [some (.ref 14), some (.int (nI p)), some (.int (nI left)), some (.int (nI k))]) (S' := [.int (nI p)]) (h' := h) rfl ?_
      refine qg_if false rfl (qc_lt0 hp) rfl ?_
      refine qg_pls (n := 2) (k' := 8) (lo' := [some (.ref 14), some (.int (nI p)), some (.int (nI left)), some (.int (nI k))]) (S' := [.ref 14, .int (nI k)]) (h' := h) rfl ?_
      refine qg_getf (v := .int (nI J.length)) rfl c14 rfl rfl rfl ?_
      refine qg_icmp true rfl (qc_geT (by omega) (by omega)) rfl ?_
      exact hg
    · rw [List.drop_eq_nil_of_le (by omega)]
      exact Nat.zero_le _
  | succ m ih =>
    intro k left hm hk hl
    have hk2 : k < J.length := by omega
    have ha : J[k]? = some J[k] := List.getElem?_eq_getElem hk2
    obtain ⟨b1, b2, b3⟩ := mit_len hr ha
    have hpl := jpc_len (decide (k = 0)) J[k]
    have hpl2 : (jpc (decide (k = 0)) J[k]).length < 300000 := by
      rw [hpl]
      split <;> omega
    have r14 : ∀ o, qg L xs (d + 7) qm_191 14 [some (.ref 14), some (.int (nI p)), some (.int (nI left)), some (.int (nI k))] [.int (nI (jpc (decide (k = 0)) J[k]).length), .int (nI left)] h o → qg L xs (d + 7) qm_191 4 [some (.ref 14), some (.int (nI p)), some (.int (nI left)), some (.int (nI k))] [] h o := by
      intro o hg
      refine qg_pls (n := 1) (k' := 5) (lo' := [some (.ref 14), some (.int (nI p)), some (.int (nI left)), some (.int (nI k))]) (S' := [.int (nI p)]) (h' := h) rfl ?_
      refine qg_if false rfl (qc_lt0 hp) rfl ?_
      refine qg_pls (n := 2) (k' := 8) (lo' := [some (.ref 14), some (.int (nI p)), some (.int (nI left)), some (.int (nI k))]) (S' := [.ref 14, .int (nI k)]) (h' := h) rfl ?_
      refine qg_getf (v := .int (nI J.length)) rfl c14 rfl rfl rfl ?_
      refine qg_icmp false rfl (qc_geF (by omega) (by omega)) rfl ?_
      refine qg_pls (n := 3) (k' := 13) (lo' := [some (.ref 14), some (.int (nI p)), some (.int (nI left)), some (.int (nI k))]) (S' := [.int (nI k), .ref 14, .int (nI left)]) (h' := h) rfl ?_
      refine qg_call (v := some (.int (nI (jpc (decide (k = 0)) J[k]).length))) (h' := h) (as := [.ref 14, .int (nI k)]) rfl rfl rfl rfl rfl rfl rfl (ai_rcv1 rfl rfl c14) (hw k _ ha) ?_
      show qg L xs _ qm_191 14 [some (.ref 14), some (.int (nI p)), some (.int (nI left)), some (.int (nI k))] [.int (nI (jpc (decide (k = 0)) J[k]).length), .int (nI left)] h _
      exact hg
    rw [jq_drop hk2]
    by_cases hlt : left < (jpc (decide (k = 0)) J[k]).length
    · refine ⟨k, left, fun o hg => r14 o ?_, Or.inl ⟨J[k], ha, hlt, (getD_l hlt).symm, by rw [List.length_append]; omega⟩⟩
      refine qg_icmp true rfl (qc_ltT hlt (by omega)) rfl ?_
      exact hg
    · obtain ⟨k', left', road, rest⟩ := ih (k + 1) (left - (jpc (decide (k = 0)) J[k]).length) (by omega) (by omega) (by omega)
      refine ⟨k', left', fun o hg => r14 o ?_, ?_⟩
      · skip
        refine qg_icmp false rfl (qc_ltF (by omega) (by omega)) rfl ?_
        refine qg_pls (n := 3) (k' := 18) (lo' := [some (.ref 14), some (.int (nI p)), some (.int (nI left)), some (.int (nI k))]) (S' := [.int (nI k), .ref 14, .int (nI left)]) (h' := h) rfl ?_
        refine qg_call (v := some (.int (nI (jpc (decide (k = 0)) J[k]).length))) (h' := h) (as := [.ref 14, .int (nI k)]) rfl rfl rfl rfl rfl rfl rfl (ai_rcv1 rfl rfl c14) (hw k _ ha) ?_
        show qg L xs _ qm_191 19 [some (.ref 14), some (.int (nI p)), some (.int (nI left)), some (.int (nI k))] [.int (nI (jpc (decide (k = 0)) J[k]).length), .int (nI left)] h _
        refine qg_pls (n := 4) (k' := 4) (lo' := [some (.ref 14), some (.int (nI p)), some (.int ((nI left) - (nI (jpc (decide (k = 0)) J[k]).length))), some (.int ((nI k) + 1))]) (S' := []) (h' := h) rfl ?_
        rw [nI_sub (show (jpc (decide (k = 0)) J[k]).length ≤ left by omega), nI_1]
        exact road o hg
      · rw [getD_r (by omega), List.length_append]
        rcases rest with ⟨a, q1, q2, q3, q4⟩ | ⟨q1, q2⟩
        · exact Or.inl ⟨a, q1, q2, q3, by omega⟩
        · exact Or.inr ⟨q1, by omega⟩
/-- QueryReaderModel.letter -/
theorem m_letterY (hs : mst h B Q kd dp J T) {p : Nat} (hp : p < 2 ^ 31) (hQ : p < Q.length) : ∃ h' tp ln cn kp v10 v14 v17 v18 v19 v20 v21, qe L xs (d + 8) 191 [.ref 14, .int (nI p)] h (.inl (some (.int (Q.getD p 0))), h') ∧ mst h' B Q kd dp J T ∧ mmv h h' ∧ h'.2 = h.2 ∧ h'.1[14]? = some (mob (.int 0) tp ln cn v10 kp v14 dp kd v17 v18 v19 v20 v21) := by
  obtain ⟨cn, v1, v10, v14, v17, v18, v19, v20, v21, c14, hm⟩ := mst_th hs
  have eQ := (mst_Q hs).1
  have hJl := (mst_Q hs).2.2
  obtain ⟨k', left', road, rest⟩ := m_letl (L := L) (xs := xs) (d := d) (mst_rn hs) hp _ 0 p rfl (Nat.zero_le _) hp
  have e0 : jq (decide (0 = 0)) (J.drop 0) = Q := by rw [eQ]; rfl
  rw [e0] at rest
  rcases rest with ⟨a, q1, q2, q3, q4⟩ | ⟨q1, q2⟩
  · have hkl := (List.getElem?_eq_some_iff.mp q1).1
    have hch := m_charOf (L := L) (xs := xs) (d := d + 1) (mst_rn (hm (.int 0))) q1 q2
    rw [q3] at hch
    refine ⟨_, B.length, T.length, cn, J.length, v10, v14, v17, v18, v19, v20, v21, ?_, hm (.int 0), mmv_set (by decide), rfl, q_set c14⟩
    refine qe_of (M := qm_191) rfl rfl ?_
    show qg L xs _ qm_191 0 [some (.ref 14), some (.int (nI p)), none, none] [] h _
    refine qg_pls (n := 4) (k' := 4) (lo' := [some (.ref 14), some (.int (nI p)), some (.int (nI p)), some (.int 0)]) (S' := []) (h' := h) rfl ?_
    refine road _ ?_
    refine qg_pls (n := 2) (k' := 25) (lo' := [some (.ref 14), some (.int (nI p)), some (.int (nI left')), some (.int (nI k'))]) (S' := [.int (nI p), .ref 14]) (h' := h) rfl ?_
    refine qg_if false rfl (qc_lt0 hp) rfl ?_
    refine qg_pls (n := 2) (k' := 28) (lo' := [some (.ref 14), some (.int (nI p)), some (.int (nI left')), some (.int (nI k'))]) (S' := [.ref 14, .int (nI k'), .ref 14]) (h' := h) rfl ?_
    refine qg_getf (v := .int (nI J.length)) rfl c14 rfl rfl rfl ?_
    refine qg_icmp true rfl (qc_neT (by omega) (by omega) (by omega)) rfl ?_
    refine qg_pls (n := 1) (k' := 33) (lo' := [some (.ref 14), some (.int (nI p)), some (.int (nI left')), some (.int (nI k'))]) (S' := [.int 0, .ref 14]) (h' := h) rfl ?_
    refine qg_putf rfl c14 rfl rfl (Nat.le_of_ble_eq_true rfl) rfl ?_
    show qg L xs _ qm_191 34 [some (.ref 14), some (.int (nI p)), some (.int (nI left')), some (.int (nI k'))] [] (h.1.set 14 (mob (.int 0) B.length T.length cn v10 J.length v14 dp kd v17 v18 v19 v20 v21), h.2) _
    refine qg_pls (n := 1) (k' := 35) (lo' := [some (.ref 14), some (.int (nI p)), some (.int (nI left')), some (.int (nI k'))]) (S' := [.ref 14]) (h' := (h.1.set 14 (mob (.int 0) B.length T.length cn v10 J.length v14 dp kd v17 v18 v19 v20 v21), h.2)) rfl ?_
    refine qg_getf (v := .int 0) rfl (q_set c14) rfl rfl rfl ?_
    refine qg_if true rfl (rfl) rfl ?_
    refine qg_pls (n := 3) (k' := 42) (lo' := [some (.ref 14), some (.int (nI p)), some (.int (nI left')), some (.int (nI k'))]) (S' := [.int (nI left'), .int (nI k'), .ref 14]) (h' := (h.1.set 14 (mob (.int 0) B.length T.length cn v10 J.length v14 dp kd v17 v18 v19 v20 v21), h.2)) rfl ?_
    refine qg_call (v := some (.int (Q.getD p 0))) (h' := (h.1.set 14 (mob (.int 0) B.length T.length cn v10 J.length v14 dp kd v17 v18 v19 v20 v21), h.2)) (as := [.ref 14, .int (nI k'), .int (nI left')]) rfl rfl rfl rfl rfl rfl rfl (ai_rcv1 rfl rfl (q_set c14)) (hch) ?_
    show qg L xs _ qm_191 43 [some (.ref 14), some (.int (nI p)), some (.int (nI left')), some (.int (nI k'))] [.int (Q.getD p 0)] (h.1.set 14 (mob (.int 0) B.length T.length cn v10 J.length v14 dp kd v17 v18 v19 v20 v21), h.2) _
    exact qg_ret5 rfl rfl rfl
  · omega
theorem m_letterX {x : Int32} (hs : mst h B Q kd dp J T) (hx : x < 0 ∨ ∃ p, p < 2 ^ 31 ∧ x = nI p ∧ Q.length ≤ p) : ∃ h' r tp ln cn kp v10 v14 v17 v18 v19 v20 v21, qe L xs (d + 8) 191 [.ref 14, .int x] h (.inl (some (.int r)), h') ∧ mst h' B Q kd dp J T ∧ mmv h h' ∧ h'.2 = h.2 ∧ h'.1[14]? = some (mob (.int 1) tp ln cn v10 kp v14 dp kd v17 v18 v19 v20 v21) := by
  obtain ⟨cn, v1, v10, v14, v17, v18, v19, v20, v21, c14, hm⟩ := mst_th hs
  have eQ := (mst_Q hs).1
  have hJl := (mst_Q hs).2.2
  have tail : ∀ (left kk : Value), qg L xs (d + 7) qm_191 30 [some (.ref 14), some (.int x), some left, some kk] [.ref 14] h (.inl (some (.int 0)), (h.1.set 14 (mob (.int 1) B.length T.length cn v10 J.length v14 dp kd v17 v18 v19 v20 v21), h.2)) := by
    intro left kk
    refine qg_pls (n := 2) (k' := 33) (lo' := [some (.ref 14), some (.int x), some (left), some (kk)]) (S' := [.int 1, .ref 14]) (h' := h) rfl ?_
    refine qg_putf rfl c14 rfl rfl (Nat.le_of_ble_eq_true rfl) rfl ?_
    show qg L xs _ qm_191 34 [some (.ref 14), some (.int x), some (left), some (kk)] [] (h.1.set 14 (mob (.int 1) B.length T.length cn v10 J.length v14 dp kd v17 v18 v19 v20 v21), h.2) _
    refine qg_pls (n := 1) (k' := 35) (lo' := [some (.ref 14), some (.int x), some (left), some (kk)]) (S' := [.ref 14]) (h' := (h.1.set 14 (mob (.int 1) B.length T.length cn v10 J.length v14 dp kd v17 v18 v19 v20 v21), h.2)) rfl ?_
    refine qg_getf (v := .int 1) rfl (q_set c14) rfl rfl rfl ?_
    refine qg_if false rfl (rfl) rfl ?_
    refine qg_pls (n := 2) (k' := 43) (lo' := [some (.ref 14), some (.int x), some (left), some (kk)]) (S' := [.int 0]) (h' := (h.1.set 14 (mob (.int 1) B.length T.length cn v10 J.length v14 dp kd v17 v18 v19 v20 v21), h.2)) rfl ?_
    exact qg_ret5 rfl rfl rfl
  refine ⟨_, 0, B.length, T.length, cn, J.length, v10, v14, v17, v18, v19, v20, v21, ?_, hm (.int 1), mmv_set (by decide), rfl, q_set c14⟩
  by_cases hneg : x < 0
  · skip
    refine qe_of (M := qm_191) rfl rfl ?_
    show qg L xs _ qm_191 0 [some (.ref 14), some (.int x), none, none] [] h _
    refine qg_pls (n := 5) (k' := 5) (lo' := [some (.ref 14), some (.int x), some (.int x), some (.int 0)]) (S' := [.int x]) (h' := h) rfl ?_
    refine qg_if true rfl (qb_ltT hneg) rfl ?_
    refine qg_pls (n := 2) (k' := 25) (lo' := [some (.ref 14), some (.int x), some (.int x), some (.int 0)]) (S' := [.int x, .ref 14]) (h' := h) rfl ?_
    refine qg_if true rfl (qb_ltT hneg) rfl ?_
    exact tail _ _
  · obtain ⟨p, hp, rfl, hQ⟩ : ∃ p, p < 2 ^ 31 ∧ x = nI p ∧ Q.length ≤ p := by
      rcases hx with z | z
      · exact absurd z hneg
      · exact z
    obtain ⟨k', left', road, rest⟩ := m_letl (L := L) (xs := xs) (d := d) (mst_rn hs) hp _ 0 p rfl (Nat.zero_le _) hp
    have e0 : jq (decide (0 = 0)) (J.drop 0) = Q := by rw [eQ]; rfl
    rw [e0] at rest
    rcases rest with ⟨a, q1, q2, q3, q4⟩ | ⟨q1, q2⟩
    · omega
    · subst q1
      refine qe_of (M := qm_191) rfl rfl ?_
      show qg L xs _ qm_191 0 [some (.ref 14), some (.int (nI p)), none, none] [] h _
      refine qg_pls (n := 4) (k' := 4) (lo' := [some (.ref 14), some (.int (nI p)), some (.int (nI p)), some (.int 0)]) (S' := []) (h' := h) rfl ?_
      refine road _ ?_
      refine qg_pls (n := 2) (k' := 25) (lo' := [some (.ref 14), some (.int (nI p)), some (.int (nI left')), some (.int (nI J.length))]) (S' := [.int (nI p), .ref 14]) (h' := h) rfl ?_
      refine qg_if false rfl (qc_lt0 hp) rfl ?_
      refine qg_pls (n := 2) (k' := 28) (lo' := [some (.ref 14), some (.int (nI p)), some (.int (nI left')), some (.int (nI J.length))]) (S' := [.ref 14, .int (nI J.length), .ref 14]) (h' := h) rfl ?_
      refine qg_getf (v := .int (nI J.length)) rfl c14 rfl rfl rfl ?_
      refine qg_icmp false rfl (qc_neF rfl) rfl ?_
      exact tail _ _
/-- QueryReaderModel.end -/
theorem m_endY (hs : mst h B Q kd dp J T) {n : Nat} (hn : n ≤ B.length) : ∃ h' tp ln cn kp v10 v14 v17 v18 v19 v20 v21, qe L xs (d + 1) 117 [.ref 14, .int (nI n)] h (.inl none, h') ∧ mst h' (B.take n) Q kd dp J T ∧ mmv h h' ∧ h'.2 = h.2 ∧ h'.1[14]? = some (mob (.int 0) tp ln cn v10 kp v14 dp kd v17 v18 v19 v20 v21) := by
  obtain ⟨cn, v1, v10, v14, v17, v18, v19, v20, v21, tb, ft, rf, bf, wr, wf, sn, c14, ⟨gw, w1, w2⟩, c16, cB, c17, cT, ⟨f18, c18⟩, ⟨f19, c19⟩, ⟨f20, c20⟩, c21, c22, c23, c24, c25, ct, ci, cQ, cJ⟩ := hs
  have hBl := cB.1
  have hlen : (B.take n).length = n := by rw [List.length_take]; omega
  have o1 := q_set (y := mob (.int 0) (B.take n).length T.length cn v10 J.length v14 dp kd v17 v18 v19 v20 v21) c14
  refine ⟨(h.1.set 14 (mob (.int 0) (B.take n).length T.length cn v10 J.length v14 dp kd v17 v18 v19 v20 v21), h.2), (B.take n).length, T.length, cn, J.length, v10, v14, v17, v18, v19, v20, v21, ?_, ⟨cn, .int 0, v10, v14, v17, v18, v19, v20, v21, tb, ft, rf, bf, wr, wf, sn, o1, ⟨gw, q_stay w1 (by decide), w2⟩, q_stay c16 (by decide), ⟨by rw [hlen]; omega, fun j hj => ?_, fun x hx => cB.2.2 x (List.mem_of_mem_take hx)⟩, q_stay c17 (by decide), cT, ⟨f18, q_stay c18 (by decide)⟩, ⟨f19, q_stay c19 (by decide)⟩, ⟨f20, q_stay c20 (by decide)⟩, q_stay c21 (by decide), q_stay c22 (by decide), q_stay c23 (by decide), q_stay c24 (by decide), q_stay c25 (by decide), fun hJ => ?_, ci, cQ, cJ⟩, mmv_set (by decide), rfl, o1⟩
  · rw [hlen]
    refine qe_of (M := qm_117) rfl rfl ?_
    show qg L xs _ qm_117 0 [some (.ref 14), some (.int (nI n))] [] h _
    refine qg_pls (n := 2) (k' := 2) (lo' := [some (.ref 14), some (.int (nI n))]) (S' := [.int (nI n), .ref 14]) (h' := h) rfl ?_
    refine qg_if false rfl (qc_lt0 (by omega)) rfl ?_
    refine qg_pls (n := 2) (k' := 5) (lo' := [some (.ref 14), some (.int (nI n))]) (S' := [.ref 14, .int (nI n), .ref 14]) (h' := h) rfl ?_
    refine qg_getf (v := .int (nI B.length)) rfl c14 rfl rfl rfl ?_
    refine qg_icmp true rfl (qc_leT hn (by omega)) rfl ?_
    refine qg_pls (n := 1) (k' := 10) (lo' := [some (.ref 14), some (.int (nI n))]) (S' := [.int 0, .ref 14]) (h' := h) rfl ?_
    refine qg_putf rfl c14 rfl rfl (Nat.le_of_ble_eq_true rfl) rfl ?_
    refine qg_pls (n := 2) (k' := 13) (lo' := [some (.ref 14), some (.int (nI n))]) (S' := [.ref 14, .ref 14]) (h' := (h.1.set 14 (ai_obj 5 [.ref 15, .int 0, .ref 16, .int (nI B.length), .ref 17, .int (nI T.length), .int (nI cn), .ref 18, .ref 19, .ref 20, v10, .int (nI J.length), .ref 21, .ref 22, v14, .int (nI dp), .int (nI kd), v17, v18, v19, v20, v21, .ref 23, .ref 24, .ref 25]), h.2)) rfl ?_
    refine qg_getf (v := .int 0) rfl (q_set c14) rfl rfl rfl ?_
    refine qg_if true rfl (rfl) rfl ?_
    refine qg_pls (n := 1) (k' := 19) (lo' := [some (.ref 14), some (.int (nI n))]) (S' := [.int (nI n), .ref 14]) (h' := (h.1.set 14 (ai_obj 5 [.ref 15, .int 0, .ref 16, .int (nI B.length), .ref 17, .int (nI T.length), .int (nI cn), .ref 18, .ref 19, .ref 20, v10, .int (nI J.length), .ref 21, .ref 22, v14, .int (nI dp), .int (nI kd), v17, v18, v19, v20, v21, .ref 23, .ref 24, .ref 25]), h.2)) rfl ?_
    refine qg_putf rfl (q_set c14) rfl rfl (Nat.le_of_ble_eq_true rfl) rfl ?_
    rw [List.set_set]
    exact qg_ret7 rfl
  · rw [hlen] at hj
    rw [cB.2.1 j (by omega), List.getD_eq_getElem?_getD, List.getD_eq_getElem?_getD, List.getElem?_take_of_lt hj]
  · obtain ⟨f1, fk, fz, r1, r2, r3, r4⟩ := ct hJ
    exact ⟨f1, fk, fz, q_stay r1 (by decide), q_stay r2 (by decide), q_stay r3 (by decide), r4⟩
theorem m_endN (hs : mst h B Q kd dp J T) {x : Int32} (hx : x < 0 ∨ nI B.length < x) : ∃ h' tp ln cn kp v10 v14 v17 v18 v19 v20 v21, qe L xs (d + 1) 117 [.ref 14, .int x] h (.inl none, h') ∧ mst h' B Q kd dp J T ∧ mmv h h' ∧ h'.2 = h.2 ∧ h'.1[14]? = some (mob (.int 1) tp ln cn v10 kp v14 dp kd v17 v18 v19 v20 v21) := by
  obtain ⟨cn, v1, v10, v14, v17, v18, v19, v20, v21, c14, hm⟩ := mst_th hs
  refine ⟨_, B.length, T.length, cn, J.length, v10, v14, v17, v18, v19, v20, v21, ?_, hm (.int 1), mmv_set (by decide), rfl, q_set c14⟩
  have tail : qg L xs d qm_117 7 [some (.ref 14), some (.int x)] [.ref 14] h (.inl none, (h.1.set 14 (mob (.int 1) B.length T.length cn v10 J.length v14 dp kd v17 v18 v19 v20 v21), h.2)) := by
    refine qg_pls (n := 2) (k' := 10) (lo' := [some (.ref 14), some (.int x)]) (S' := [.int 1, .ref 14]) (h' := h) rfl ?_
    refine qg_putf rfl c14 rfl rfl (Nat.le_of_ble_eq_true rfl) rfl ?_
    refine qg_pls (n := 2) (k' := 13) (lo' := [some (.ref 14), some (.int x)]) (S' := [.ref 14, .ref 14]) (h' := (h.1.set 14 (ai_obj 5 [.ref 15, .int 1, .ref 16, .int (nI B.length), .ref 17, .int (nI T.length), .int (nI cn), .ref 18, .ref 19, .ref 20, v10, .int (nI J.length), .ref 21, .ref 22, v14, .int (nI dp), .int (nI kd), v17, v18, v19, v20, v21, .ref 23, .ref 24, .ref 25]), h.2)) rfl ?_
    refine qg_getf (v := .int 1) rfl (q_set c14) rfl rfl rfl ?_
    refine qg_if false rfl (rfl) rfl ?_
    refine qg_pls (n := 1) (k' := 16) (lo' := [some (.ref 14), some (.int x)]) (S' := [.ref 14, .ref 14]) (h' := (h.1.set 14 (ai_obj 5 [.ref 15, .int 1, .ref 16, .int (nI B.length), .ref 17, .int (nI T.length), .int (nI cn), .ref 18, .ref 19, .ref 20, v10, .int (nI J.length), .ref 21, .ref 22, v14, .int (nI dp), .int (nI kd), v17, v18, v19, v20, v21, .ref 23, .ref 24, .ref 25]), h.2)) rfl ?_
    refine qg_getf (v := .int (nI B.length)) rfl (q_set c14) rfl rfl rfl ?_
    refine qg_pls (n := 1) (k' := 19) (lo' := [some (.ref 14), some (.int x)]) (S' := [.int (nI B.length), .ref 14]) (h' := (h.1.set 14 (ai_obj 5 [.ref 15, .int 1, .ref 16, .int (nI B.length), .ref 17, .int (nI T.length), .int (nI cn), .ref 18, .ref 19, .ref 20, v10, .int (nI J.length), .ref 21, .ref 22, v14, .int (nI dp), .int (nI kd), v17, v18, v19, v20, v21, .ref 23, .ref 24, .ref 25]), h.2)) rfl ?_
    refine qg_putf rfl (q_set c14) rfl rfl (Nat.le_of_ble_eq_true rfl) rfl ?_
    rw [List.set_set]
    exact qg_ret7 rfl
  by_cases hneg : x < 0
  · skip
    refine qe_of (M := qm_117) rfl rfl ?_
    show qg L xs _ qm_117 0 [some (.ref 14), some (.int x)] [] h _
    refine qg_pls (n := 2) (k' := 2) (lo' := [some (.ref 14), some (.int x)]) (S' := [.int x, .ref 14]) (h' := h) rfl ?_
    refine qg_if true rfl (qb_ltT hneg) rfl ?_
    exact tail
  · have h2 : nI B.length < x := by
      rcases hx with z | z
      · exact absurd z hneg
      · exact z
    refine qe_of (M := qm_117) rfl rfl ?_
    show qg L xs _ qm_117 0 [some (.ref 14), some (.int x)] [] h _
    refine qg_pls (n := 2) (k' := 2) (lo' := [some (.ref 14), some (.int x)]) (S' := [.int x, .ref 14]) (h' := h) rfl ?_
    refine qg_if false rfl (qb_ltF hneg) rfl ?_
    refine qg_pls (n := 2) (k' := 5) (lo' := [some (.ref 14), some (.int x)]) (S' := [.ref 14, .int x, .ref 14]) (h' := h) rfl ?_
    refine qg_getf (v := .int (nI B.length)) rfl c14 rfl rfl rfl ?_
    refine qg_icmp false rfl (qb_leF h2) rfl ?_
    exact tail
end MAO
