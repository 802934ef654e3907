/-! THE MODEL'S ANSWERS. (Printed by wip/whole/pp.py from wip/whole/src.) -/
section MAN
variable {L : Nat} {xs : Nat → Int32} {d : Nat} {h : ai_H} {B Q T : List Int32} {J : List zJ} {kd dp : Nat}
/-- the plain form, piece by piece -/
def jq : Bool → List zJ → List Int32
  | _, [] => []
  | f, a :: J => jpc f a ++ jq false J
theorem jb2_sh (m : Nat) : jb2 m ++ [32] = [32] ++ jb 41 m := by
  induction m with
  | zero => rfl
  | succ m ih =>
    show 32 :: 41 :: (jb2 m ++ [32]) = 32 :: 41 :: 32 :: jb 41 m
    rw [ih]; rfl
theorem jq_jr : ∀ (J : List zJ) (f : Bool), J ≠ [] → jq f J ++ [32] = (if f = true then [] else [32]) ++ jr J := by
  intro J
  induction J with
  | nil => intro f hJ; exact absurd rfl hJ
  | cons a J ih =>
    intro f _
    show (jpc f a ++ jq false J) ++ [32] = _ ++ (jw a ++ jr J)
    cases J with
    | nil =>
      show (jpc f a ++ []) ++ [32] = _ ++ (jw a ++ [])
      rw [List.append_nil, List.append_nil]
      unfold jpc jw
      rw [List.append_assoc, jb2_sh]
      simp only [List.append_assoc]
    | cons b J =>
      rw [List.append_assoc, ih false (by intro q; cases q), if_neg (by decide)]
      unfold jpc jw
      rw [List.append_assoc _ (jb2 a.2.2.2), ← List.append_assoc (jb2 a.2.2.2), jb2_sh]
      simp only [List.append_assoc]
theorem jq_Q (J : List zJ) : jq true J = (jr J).take ((jr J).length - 1) := by
  cases J with
  | nil => rfl
  | cons a J =>
    have := jq_jr (a :: J) true (by intro q; cases q)
    rw [if_pos rfl, List.nil_append] at this
    rw [← this, List.length_append]
    show _ = (jq true (a :: J) ++ [32]).take ((jq true (a :: J)).length + 1 - 1)
    rw [Nat.add_sub_cancel, List.take_left]
theorem jq_drop {k : Nat} (hk : k < J.length) : jq (decide (k = 0)) (J.drop k) = jpc (decide (k = 0)) J[k] ++ jq (decide (k + 1 = 0)) (J.drop (k + 1)) := by
  rw [List.drop_eq_getElem_cons hk, decide_eq_false (show ¬ k + 1 = 0 by omega)]
  rfl
theorem mst_rn (hs : mst h B Q kd dp J T) : mrn h J T := by
  obtain ⟨cn, v1, v10, v14, v17, v18, v19, v20, v21, tb, ft, rf, bf, wr, wf, sn, c14, cw, c16, cB, c17, cT, c18, c19, c20, c21, c22, c23, c24, c25, ct, ci, cQ, cJ⟩ := hs
  exact ⟨cn, B.length, dp, kd, v1, v10, v14, v17, v18, v19, v20, v21, ft, rf, bf, c14, cw, c17, cT, c21, c22, ct, ci, cJ⟩
/-- another number in thrown -/
theorem mst_th (hs : mst h B Q kd dp J T) : ∃ cn v1 v10 v14 v17 v18 v19 v20 v21, h.1[14]? = some (mob v1 B.length T.length cn v10 J.length v14 dp kd v17 v18 v19 v20 v21) ∧ ∀ t : Value, mst (h.1.set 14 (mob t B.length T.length cn v10 J.length v14 dp kd v17 v18 v19 v20 v21), h.2) B Q kd dp J T := by
  obtain ⟨cn, v1, v10, v14, v17, v18, v19, v20, v21, tb, ft, rf, bf, wr, wf, sn, c14, ⟨gw, w1, w2⟩, c16, cB, c17, cT, ⟨f18, c18⟩, ⟨f19, c19⟩, ⟨f20, c20⟩, c21, c22, c23, c24, c25, ct, ci, cQ, cJ⟩ := hs
  refine ⟨cn, v1, v10, v14, v17, v18, v19, v20, v21, c14, fun t => ⟨cn, t, v10, v14, v17, v18, v19, v20, v21, tb, ft, rf, bf, wr, wf, sn, q_set c14, ⟨gw, q_stay w1 (by decide), w2⟩, q_stay c16 (by decide), cB, q_stay c17 (by decide), cT, ⟨f18, q_stay c18 (by decide)⟩, ⟨f19, q_stay c19 (by decide)⟩, ⟨f20, q_stay c20 (by decide)⟩, q_stay c21 (by decide), q_stay c22 (by decide), q_stay c23 (by decide), q_stay c24 (by decide), q_stay c25 (by decide), fun hJ => ?_, ci, cQ, cJ⟩⟩
  obtain ⟨f1, fk, fz, r1, r2, r3, r4⟩ := ct hJ
  exact ⟨f1, fk, fz, q_stay r1 (by decide), q_stay r2 (by decide), q_stay r3 (by decide), r4⟩
/-- QueryReaderModel.kind -/
theorem m_kind (hs : mst h B Q kd dp J T) : ∃ h', qe L xs (d + 1) 185 [.ref 14] h (.inl (some (.int (nI kd))), h') ∧ mst h' B Q kd dp J T ∧ mmv h h' ∧ h'.2 = h.2 := by
  obtain ⟨cn, v1, v10, v14, v17, v18, v19, v20, v21, c14, hm⟩ := mst_th hs
  refine ⟨_, ?_, hm (.int 0), mmv_set (by decide), rfl⟩
  refine qe_of (M := qm_185) rfl rfl ?_
  show qg L xs _ qm_185 0 [some (.ref 14)] [] h _
  refine qg_pls (n := 2) (k' := 2) (lo' := [some (.ref 14)]) (S' := [.int 0, .ref 14]) (h' := h) rfl ?_
  refine qg_putf rfl c14 rfl rfl (Nat.le_of_ble_eq_true rfl) rfl ?_
  refine qg_pls (n := 1) (k' := 4) (lo' := [some (.ref 14)]) (S' := [.ref 14]) (h' := (h.1.set 14 (ai_obj 5 [.ref 15, .int 0, .ref 16, .int (nI B.length), .ref 17, .int (nI T.length), .int (nI cn), .ref 18, .ref 19, .ref 20, v10, .int (nI J.length), .ref 21, .ref 22, v14, .int (nI dp), .int (nI kd), v17, v18, v19, v20, v21, .ref 23, .ref 24, .ref 25]), h.2)) rfl ?_
  refine qg_getf (v := .int (nI kd)) rfl (q_set c14) rfl rfl rfl ?_
  exact qg_ret5 rfl rfl rfl
/-- QueryReaderModel.depth -/
theorem m_depth (hs : mst h B Q kd dp J T) : ∃ h', qe L xs (d + 1) 198 [.ref 14] h (.inl (some (.int (nI dp))), h') ∧ mst h' B Q kd dp J T ∧ mmv h h' ∧ h'.2 = h.2 := by
  obtain ⟨cn, v1, v10, v14, v17, v18, v19, v20, v21, c14, hm⟩ := mst_th hs
  refine ⟨_, ?_, hm (.int 0), mmv_set (by decide), rfl⟩
  refine qe_of (M := qm_198) rfl rfl ?_
  show qg L xs _ qm_198 0 [some (.ref 14)] [] h _
  refine qg_pls (n := 2) (k' := 2) (lo' := [some (.ref 14)]) (S' := [.int 0, .ref 14]) (h' := h) rfl ?_
  refine qg_putf rfl c14 rfl rfl (Nat.le_of_ble_eq_true rfl) rfl ?_
  refine qg_pls (n := 1) (k' := 4) (lo' := [some (.ref 14)]) (S' := [.ref 14]) (h' := (h.1.set 14 (ai_obj 5 [.ref 15, .int 0, .ref 16, .int (nI B.length), .ref 17, .int (nI T.length), .int (nI cn), .ref 18, .ref 19, .ref 20, v10, .int (nI J.length), .ref 21, .ref 22, v14, .int (nI dp), .int (nI kd), v17, v18, v19, v20, v21, .ref 23, .ref 24, .ref 25]), h.2)) rfl ?_
  refine qg_getf (v := .int (nI dp)) rfl (q_set c14) rfl rfl rfl ?_
  exact qg_ret5 rfl rfl rfl
/-- QueryReaderModel.lengthOf -/
theorem m_lengthOf (hr : mrn h J T) : qe L xs (d + 7) 187 [.ref 14] h (.inl (some (.int (nI (jq true J).length))), h) := by
  have hw := fun k a (ha : J[k]? = some a) => m_widthOf (L := L) (xs := xs) (d := d) hr ha
  obtain ⟨cn, tp, dp, kd, v1, v10, v14, v17, v18, v19, v20, v21, ft, rf, bf, c14, cw, c17, cT, c21, c22, ct, ci, cJ⟩ := hr
  have loop : ∀ (m k n : Nat), J.length - k = m → k ≤ J.length → qg L xs (d + 6) qm_187 4 [some (.ref 14), some (.int (nI n)), some (.int (nI k))] [] h (.inl (some (.int (nI (n + (jq (decide (k = 0)) (J.drop k)).length)))), h) := by
    intro m
    induction m with
    | zero =>
      intro k n hm hk
      rw [List.drop_eq_nil_of_le (show J.length ≤ k by omega)]
      refine qg_pls (n := 2) (k' := 6) (lo' := [some (.ref 14), some (.int (nI n)), some (.int (nI k))]) (S' := [.ref 14, .int (nI k)]) (h' := h) rfl ?_
      refine qg_getf (v := .int (nI J.length)) rfl c14 rfl rfl rfl ?_
      refine qg_icmp true rfl (qc_geT (by omega) (by omega)) rfl ?_
      refine qg_pls (n := 1) (k' := 17) (lo' := [some (.ref 14), some (.int (nI n)), some (.int (nI k))]) (S' := [.int (nI n)]) (h' := h) rfl ?_
      exact qg_ret5 rfl rfl rfl
    | succ m ih =>
      intro k n hm hk
      have hk2 : k < J.length := by omega
      rw [jq_drop hk2, List.length_append, ← Nat.add_assoc]
      refine qg_pls (n := 2) (k' := 6) (lo' := [some (.ref 14), some (.int (nI n)), some (.int (nI k))]) (S' := [.ref 14, .int (nI k)]) (h' := h) rfl ?_
      refine qg_getf (v := .int (nI J.length)) rfl c14 rfl rfl rfl ?_
      refine qg_icmp false rfl (qc_geF (by omega) (by omega)) rfl ?_
      refine qg_pls (n := 3) (k' := 11) (lo' := [some (.ref 14), some (.int (nI n)), some (.int (nI k))]) (S' := [.int (nI k), .ref 14, .int (nI n)]) (h' := h) rfl ?_
      refine qg_call (v := some (.int (nI (jpc (decide (k = 0)) J[k]).length))) (h' := h) (as := [.ref 14, .int (nI k)]) rfl rfl rfl rfl rfl rfl rfl (ai_rcv1 rfl rfl c14) (hw k _ (List.getElem?_eq_getElem hk2)) ?_
      show qg L xs _ qm_187 12 [some (.ref 14), some (.int (nI n)), some (.int (nI k))] [.int (nI (jpc (decide (k = 0)) J[k]).length), .int (nI n)] h _
      refine qg_pls (n := 4) (k' := 4) (lo' := [some (.ref 14), some (.int ((nI n) + (nI (jpc (decide (k = 0)) J[k]).length))), some (.int ((nI k) + 1))]) (S' := []) (h' := h) rfl ?_
      rw [nI_add, nI_1]
      exact ih (k + 1) _ (by omega) (by omega)
  have := loop _ 0 0 rfl (Nat.zero_le _)
  rw [Nat.zero_add] at this
  refine qe_of (M := qm_187) rfl rfl ?_
  show qg L xs _ qm_187 0 [some (.ref 14), none, none] [] h _
  refine qg_pls (n := 4) (k' := 4) (lo' := [some (.ref 14), some (.int 0), some (.int 0)]) (S' := []) (h' := h) rfl ?_
  exact this
/-- QueryReaderModel.length -/
theorem m_length (hs : mst h B Q kd dp J T) : ∃ h', qe L xs (d + 8) 186 [.ref 14] h (.inl (some (.int (nI Q.length))), h') ∧ mst h' B Q kd dp J T ∧ mmv h h' ∧ h'.2 = h.2 := by
  obtain ⟨cn, v1, v10, v14, v17, v18, v19, v20, v21, c14, hm⟩ := mst_th hs
  have hQ : Q = jq true J := by
    obtain ⟨_, _, _, _, _, _, _, _, _, _, _, _, _, _, _, _, -, -, -, -, -, -, -, -, -, -, -, -, -, -, -, -, cQ, -⟩ := hs
    rw [cQ, jq_Q]
  have hl := m_lengthOf (L := L) (xs := xs) (d := d) (mst_rn (hm (.int 0)))
  rw [← hQ] at hl
  refine ⟨_, ?_, hm (.int 0), mmv_set (by decide), rfl⟩
  refine qe_of (M := qm_186) rfl rfl ?_
  show qg L xs _ qm_186 0 [some (.ref 14)] [] h _
  refine qg_pls (n := 2) (k' := 2) (lo' := [some (.ref 14)]) (S' := [.int 0, .ref 14]) (h' := h) rfl ?_
  refine qg_putf rfl c14 rfl rfl (Nat.le_of_ble_eq_true rfl) rfl ?_
  show qg L xs _ qm_186 3 [some (.ref 14)] [] (h.1.set 14 (mob (.int 0) B.length T.length cn v10 J.length v14 dp kd v17 v18 v19 v20 v21), h.2) _
  refine qg_pls (n := 1) (k' := 4) (lo' := [some (.ref 14)]) (S' := [.ref 14]) (h' := (h.1.set 14 (mob (.int 0) B.length T.length cn v10 J.length v14 dp kd v17 v18 v19 v20 v21), h.2)) rfl ?_
  refine qg_call (v := some (.int (nI Q.length))) (h' := (h.1.set 14 (mob (.int 0) B.length T.length cn v10 J.length v14 dp kd v17 v18 v19 v20 v21), h.2)) (as := [.ref 14]) rfl rfl rfl rfl rfl rfl rfl (ai_rcv1 rfl rfl (q_set c14)) (hl) ?_
  show qg L xs _ qm_186 5 [some (.ref 14)] [.int (nI Q.length)] (h.1.set 14 (mob (.int 0) B.length T.length cn v10 J.length v14 dp kd v17 v18 v19 v20 v21), h.2) _
  exact qg_ret5 rfl rfl rfl
/-- QueryReaderModel.thrown -/
theorem m_thrown {t : Value} {tp ln cn kp : Nat} {v10 v14 v17 v18 v19 v20 v21 : Value} {x : Int32} (c14 : h.1[14]? = some (mob (.int x) tp ln cn v10 kp v14 dp kd v17 v18 v19 v20 v21)) : qe L xs (d + 1) 115 [.ref 14] h (.inl (some (.int x)), h) := by
  refine qe_of (M := qm_115) rfl rfl ?_
  show qg L xs _ qm_115 0 [some (.ref 14)] [] h _
  refine qg_pls (n := 1) (k' := 1) (lo' := [some (.ref 14)]) (S' := [.ref 14]) (h' := h) rfl ?_
  refine qg_getf (v := .int x) rfl c14 rfl rfl rfl ?_
  exact qg_ret5 rfl rfl rfl
/-- what is shown folded into a number -/
def zfold (s : Int32) : List Int32 → Int32
  | [] => s
  | c :: Q => zfold (31 * s + c) Q
theorem zfold_app (A C : List Int32) : ∀ s, zfold s (A ++ C) = zfold (zfold s A) C := by
  induction A with
  | nil => intro s; rfl
  | cons c A ih => intro s; exact ih _
/-- QueryReaderModel.mark -/
theorem m_mark (hs : mst h B Q kd dp J T) : ∃ h', qe L xs (d + 8) 194 [.ref 14] h (.inl (some (.int (zfold 0 Q))), h') ∧ mst h' B Q kd dp J T ∧ mmv h h' ∧ h'.2 = h.2 := by
  obtain ⟨cn, v1, v10, v14, v17, v18, v19, v20, v21, c14, hm⟩ := mst_th hs
  have hQ : Q = jq true J := by
    obtain ⟨_, _, _, _, _, _, _, _, _, _, _, _, _, _, _, _, -, -, -, -, -, -, -, -, -, -, -, -, -, -, -, -, cQ, -⟩ := hs
    rw [cQ, jq_Q]
  have hs0 := hm (.int 0)
  have hr := mst_rn hs0
  have hJl : J.length ≤ 131072 := by
    obtain ⟨_, _, _, _, _, _, _, _, _, _, _, _, _, _, _, _, -, -, -, -, -, -, -, -, -, -, -, -, -, -, -, -, -, cJ⟩ := hs
    exact cJ
  refine ⟨_, ?_, hs0, mmv_set (by decide), rfl⟩
  have o1 := q_set (y := mob (.int 0) B.length T.length cn v10 J.length v14 dp kd v17 v18 v19 v20 v21) c14
  generalize hh1 : ((h.1.set 14 (mob (.int 0) B.length T.length cn v10 J.length v14 dp kd v17 v18 v19 v20 v21), h.2) : ai_H) = h1 at hr ⊢
  have o1 : h1.1[14]? = some (mob (.int 0) B.length T.length cn v10 J.length v14 dp kd v17 v18 v19 v20 v21) := by rw [← hh1]; exact o1
  have hw := fun k a (ha : J[k]? = some a) => m_widthOf (L := L) (xs := xs) (d := d) hr ha
  have hch := fun k i a (ha : J[k]? = some a) hi => m_charOf (L := L) (xs := xs) (d := d) (i := i) hr ha hi
  have inner : ∀ (k : Nat) (a : zJ), J[k]? = some a → ∀ (m i : Nat) (s : Int32) (o : ai_O), (jpc (decide (k = 0)) a).length - i = m → i ≤ (jpc (decide (k = 0)) a).length → qg L xs (d + 7) qm_194 31 [some (.ref 14), some (.int (zfold s ((jpc (decide (k = 0)) a).drop i))), some (.int (nI k)), some (.int (nI (jpc (decide (k = 0)) a).length)), some (.int (nI (jpc (decide (k = 0)) a).length))] [] h1 o → qg L xs (d + 7) qm_194 17 [some (.ref 14), some (.int s), some (.int (nI k)), some (.int (nI (jpc (decide (k = 0)) a).length)), some (.int (nI i))] [] h1 o := by
    intro k a ha
    obtain ⟨b1, b2, b3⟩ := mit_len hr ha
    have hpl := jpc_len (decide (k = 0)) a
    have hpl2 : (jpc (decide (k = 0)) a).length < 300000 := by
      rw [hpl]
      split <;> omega
    intro m
    induction m with
    | zero =>
      intro i s o hm hi hg
      have e1 : i = (jpc (decide (k = 0)) a).length := by omega
      rw [List.drop_eq_nil_of_le (by omega)] at hg
      rw [e1]
      refine qg_pls (n := 2) (k' := 19) (lo' := [some (.ref 14), some (.int s), some (.int (nI k)), some (.int (nI (jpc (decide (k = 0)) a).length)), some (.int (nI (jpc (decide (k = 0)) a).length))]) (S' := [.int (nI (jpc (decide (k = 0)) a).length), .int (nI (jpc (decide (k = 0)) a).length)]) (h' := h1) rfl ?_
      refine qg_icmp true rfl (qc_geT (Nat.le_refl _) (by omega)) rfl ?_
      exact hg
    | succ m ih =>
      intro i s o hm hi hg
      have hi2 : i < (jpc (decide (k = 0)) a).length := by omega
      rw [drop_cons (x := 0) hi2] at hg
      refine qg_pls (n := 2) (k' := 19) (lo' := [some (.ref 14), some (.int s), some (.int (nI k)), some (.int (nI (jpc (decide (k = 0)) a).length)), some (.int (nI i))]) (S' := [.int (nI (jpc (decide (k = 0)) a).length), .int (nI i)]) (h' := h1) rfl ?_
      refine qg_icmp false rfl (qc_geF hi2 (by omega)) rfl ?_
      refine qg_pls (n := 6) (k' := 26) (lo' := [some (.ref 14), some (.int s), some (.int (nI k)), some (.int (nI (jpc (decide (k = 0)) a).length)), some (.int (nI i))]) (S' := [.int (nI i), .int (nI k), .ref 14, .int (31 * s)]) (h' := h1) rfl ?_
      refine qg_call (v := some (.int ((jpc (decide (k = 0)) a).getD i 0))) (h' := h1) (as := [.ref 14, .int (nI k), .int (nI i)]) rfl rfl rfl rfl rfl rfl rfl (ai_rcv1 rfl rfl o1) ((qe_up (by omega) (hch k i a ha hi2))) ?_
      show qg L xs _ qm_194 27 [some (.ref 14), some (.int s), some (.int (nI k)), some (.int (nI (jpc (decide (k = 0)) a).length)), some (.int (nI i))] [.int ((jpc (decide (k = 0)) a).getD i 0), .int (31 * s)] h1 _
      refine qg_pls (n := 4) (k' := 17) (lo' := [some (.ref 14), some (.int ((31 * s) + ((jpc (decide (k = 0)) a).getD i 0))), some (.int (nI k)), some (.int (nI (jpc (decide (k = 0)) a).length)), some (.int ((nI i) + 1))]) (S' := []) (h' := h1) rfl ?_
      rw [nI_1]
      exact ih (i + 1) _ o (by omega) (by omega) hg
  have outer : ∀ (m k : Nat) (s : Int32) (x3 x4 : Option Value), J.length - k = m → k ≤ J.length → qg L xs (d + 7) qm_194 7 [some (.ref 14), some (.int s), some (.int (nI k)), x3, x4] [] h1 (.inl (some (.int (zfold s (jq (decide (k = 0)) (J.drop k))))), h1) := by
    intro m
    induction m with
    | zero =>
      intro k s x3 x4 hm hk
      rw [List.drop_eq_nil_of_le (show J.length ≤ k by omega)]
      refine qg_pls (n := 2) (k' := 9) (lo' := [some (.ref 14), some (.int s), some (.int (nI k)), x3, x4]) (S' := [.ref 14, .int (nI k)]) (h' := h1) rfl ?_
      refine qg_getf (v := .int (nI J.length)) rfl o1 rfl rfl rfl ?_
      refine qg_icmp true rfl (qc_geT (by omega) (by omega)) rfl ?_
      refine qg_pls (n := 1) (k' := 34) (lo' := [some (.ref 14), some (.int s), some (.int (nI k)), x3, x4]) (S' := [.int s]) (h' := h1) rfl ?_
      exact qg_ret5 rfl rfl rfl
    | succ m ih =>
      intro k s x3 x4 hm hk
      have hk2 : k < J.length := by omega
      rw [jq_drop hk2, zfold_app]
      refine qg_pls (n := 2) (k' := 9) (lo' := [some (.ref 14), some (.int s), some (.int (nI k)), x3, x4]) (S' := [.ref 14, .int (nI k)]) (h' := h1) rfl ?_
      refine qg_getf (v := .int (nI J.length)) rfl o1 rfl rfl rfl ?_
      refine qg_icmp false rfl (qc_geF (by omega) (by omega)) rfl ?_
      refine qg_pls (n := 2) (k' := 13) (lo' := [some (.ref 14), some (.int s), some (.int (nI k)), x3, x4]) (S' := [.int (nI k), .ref 14]) (h' := h1) rfl ?_
      refine qg_call (v := some (.int (nI (jpc (decide (k = 0)) J[k]).length))) (h' := h1) (as := [.ref 14, .int (nI k)]) rfl rfl rfl rfl rfl rfl rfl (ai_rcv1 rfl rfl o1) ((qe_up (by omega) (hw k _ (List.getElem?_eq_getElem hk2)))) ?_
      show qg L xs _ qm_194 14 [some (.ref 14), some (.int s), some (.int (nI k)), x3, x4] [.int (nI (jpc (decide (k = 0)) J[k]).length)] h1 _
      refine qg_pls (n := 3) (k' := 17) (lo' := [some (.ref 14), some (.int s), some (.int (nI k)), some (.int (nI (jpc (decide (k = 0)) J[k]).length)), some (.int 0)]) (S' := []) (h' := h1) rfl ?_
      refine inner k _ (List.getElem?_eq_getElem hk2) _ 0 s _ rfl (Nat.zero_le _) ?_
      rw [List.drop_zero]
      refine qg_pls (n := 2) (k' := 7) (lo' := [some (.ref 14), some (.int (zfold s (jpc (decide (k = 0)) J[k]))), some (.int ((nI k) + 1)), some (.int (nI (jpc (decide (k = 0)) J[k]).length)), some (.int (nI (jpc (decide (k = 0)) J[k]).length))]) (S' := []) (h' := h1) rfl ?_
      rw [nI_1]
      exact ih (k + 1) _ _ _ (by omega) (by omega)
  rw [hQ]
  refine qe_of (M := qm_194) rfl rfl ?_
  show qg L xs _ qm_194 0 [some (.ref 14), none, none, none, none] [] h _
  refine qg_pls (n := 2) (k' := 2) (lo' := [some (.ref 14), none, none, none, none]) (S' := [.int 0, .ref 14]) (h' := h) rfl ?_
  refine qg_putf rfl c14 rfl rfl (Nat.le_of_ble_eq_true rfl) rfl ?_
  show qg L xs _ qm_194 3 [some (.ref 14), none, none, none, none] [] (h.1.set 14 (mob (.int 0) B.length T.length cn v10 J.length v14 dp kd v17 v18 v19 v20 v21), h.2) _
  rw [hh1]
  show qg L xs _ qm_194 3 [some (.ref 14), none, none, none, none] [] h1 _
  refine qg_pls (n := 4) (k' := 7) (lo' := [some (.ref 14), some (.int 0), some (.int 0), none, none]) (S' := []) (h' := h1) rfl ?_
  exact outer _ 0 0 none none rfl (Nat.zero_le _)
end MAN
