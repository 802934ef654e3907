/-! THE MODEL IS FED, AND READS ITS OWN PLAIN FORM AGAIN. (Printed by wip/whole/pp.py from wip/whole/src.) -/
section MAP
variable {L : Nat} {xs : Nat → Int32} {d : Nat} {h : ai_H} {B Q T : List Int32} {J : List zJ} {kd dp : Nat}
/-- the j-th byte of a number -/
def zfb (v : Int32) (j : Nat) : Int32 := zb (v >>> (nI (24 - 8 * j) &&& 31))
def zfv (a b c d e : Int32) (k : Nat) : Int32 := if k < 4 then a else if k < 8 then b else if k < 12 then c else if k < 16 then d else e
/-- the twenty bytes of five numbers -/
def zF (a b c d e : Int32) : List Int32 := (List.range 20).map (fun k => zfb (zfv a b c d e k) (k % 4))
theorem zF_len {a b c d e : Int32} : (zF a b c d e).length = 20 := by
  unfold zF
  rw [List.length_map, List.length_range]
theorem zF_get {a b c d e : Int32} {k : Nat} (hk : k < 20) : (zF a b c d e).getD k 0 = zfb (zfv a b c d e k) (k % 4) := by
  unfold zF
  rw [List.getD_eq_getElem?_getD, List.getElem?_map, List.getElem?_range hk]
  rfl
theorem zb_idem (x : Int32) : zb (zb x) = zb x := by
  unfold zb
  rw [Int8.toInt8_toInt32]
theorem zF_by {a b c d e : Int32} : ∀ x ∈ zF a b c d e, zb x = x := by
  intro x hx
  unfold zF at hx
  obtain ⟨k, -, rfl⟩ := List.mem_map.mp hx
  exact zb_idem _
/-- cells of the model with another tape -/
theorem mst_tape (hs : mst h B Q kd dp J T) : ∃ cn v1 v10 v14 v17 v18 v19 v20 v21 tb, h.1[14]? = some (mob v1 B.length T.length cn v10 J.length v14 dp kd v17 v18 v19 v20 v21) ∧ h.1[16]? = some (ai_num .byte 65536 tb) ∧ mby tb B ∧ ∀ (t : Value) (B' : List Int32) (f : Nat → Int32), mby f B' → mst ((h.1.set 16 (ai_num .byte 65536 f)).set 14 (mob t B'.length T.length cn v10 J.length v14 dp kd v17 v18 v19 v20 v21), h.2) B' Q kd dp J T := by
  obtain ⟨cn, v1, v10, v14, v17, v18, v19, v20, v21, tb, ft, rf, bf, wr, wf, sn, c14, ⟨gw, w1, w2⟩, c16, cB, c17, cT, ⟨f18, c18⟩, ⟨f19, c19⟩, ⟨f20, c20⟩, c21, c22, c23, c24, c25, ct, ci, cQ, cJ⟩ := hs
  refine ⟨cn, v1, v10, v14, v17, v18, v19, v20, v21, tb, c14, c16, cB, fun t B' f hf => ⟨cn, t, v10, v14, v17, v18, v19, v20, v21, f, ft, rf, bf, wr, wf, sn, q_set (q_stay c14 (by decide)), ⟨gw, q_stay (q_stay w1 (by decide)) (by decide), w2⟩, q_stay (q_set c16) (by decide), hf, q_stay (q_stay c17 (by decide)) (by decide), cT, ⟨f18, q_stay (q_stay c18 (by decide)) (by decide)⟩, ⟨f19, q_stay (q_stay c19 (by decide)) (by decide)⟩, ⟨f20, q_stay (q_stay c20 (by decide)) (by decide)⟩, q_stay (q_stay c21 (by decide)) (by decide), q_stay (q_stay c22 (by decide)) (by decide), q_stay (q_stay c23 (by decide)) (by decide), q_stay (q_stay c24 (by decide)) (by decide), q_stay (q_stay c25 (by decide)) (by decide), fun hJ => ?_, ci, cQ, cJ⟩⟩
  obtain ⟨f1, fk, fz, r1, r2, r3, r4⟩ := ct hJ
  exact ⟨f1, fk, fz, q_stay (q_stay r1 (by decide)) (by decide), q_stay (q_stay r2 (by decide)) (by decide), q_stay (q_stay r3 (by decide)) (by decide), r4⟩
theorem mmv_set2 {i j : Nat} {c c' : ai_C} {n : Nat × Nat} (hi : 14 ≤ i ∧ i ≤ 25) (hj : 14 ≤ j ∧ j ≤ 25) : mmv h ((h.1.set i c).set j c', n) := by
  intro q x hq hx
  show ((h.1.set i c).set j c')[q]? = _
  rw [List.getElem?_set_ne (by omega), List.getElem?_set_ne (by omega)]
  exact hx
/-- QueryReaderModel.feed, no room -/
theorem m_feedN (hs : mst h B Q kd dp J T) {a b c dd e : Int32} (hB : 65536 < B.length + 20) : ∃ h' tp ln cn kp v10 v14 v17 v18 v19 v20 v21, qe L xs (d + 1) 116 [.ref 14, .int a, .int b, .int c, .int dd, .int e] h (.inl none, h') ∧ mst h' B Q kd dp J T ∧ mmv h h' ∧ h'.2 = h.2 ∧ h'.1[14]? = some (mob (.int 1) tp ln cn v10 kp v14 dp kd v17 v18 v19 v20 v21) := by
  have hBl : B.length ≤ 65536 := by
    obtain ⟨_, _, _, _, _, _, _, _, _, _, _, _, _, _, _, _, -, -, -, cB, -⟩ := hs
    exact cB.1
  obtain ⟨cn, v1, v10, v14, v17, v18, v19, v20, v21, c14, hm⟩ := mst_th hs
  refine ⟨_, B.length, T.length, cn, J.length, v10, v14, v17, v18, v19, v20, v21, ?_, hm (.int 1), mmv_set (by decide), rfl, q_set c14⟩
  refine qe_of (M := qm_116) rfl rfl ?_
  show qg L xs _ qm_116 0 [some (.ref 14), some (.int a), some (.int b), some (.int c), some (.int dd), some (.int e), none, none] [] h _
  refine qg_pls (n := 2) (k' := 2) (lo' := [some (.ref 14), some (.int a), some (.int b), some (.int c), some (.int dd), some (.int e), none, none]) (S' := [.ref 14, .ref 14]) (h' := h) rfl ?_
  refine qg_getf (v := .int (nI B.length)) rfl c14 rfl rfl rfl ?_
  refine qg_pls (n := 3) (k' := 6) (lo' := [some (.ref 14), some (.int a), some (.int b), some (.int c), some (.int dd), some (.int e), none, none]) (S' := [.int 65536, .int ((nI B.length) + 20), .ref 14]) (h' := h) rfl ?_
  rw [show nI B.length + 20 = nI (B.length + 20) from nI_add _ 20]
  refine qg_icmp false rfl (qc_leF (b := 65536) hB (by omega)) rfl ?_
  refine qg_pls (n := 2) (k' := 10) (lo' := [some (.ref 14), some (.int a), some (.int b), some (.int c), some (.int dd), some (.int e), none, none]) (S' := [.int 1, .ref 14]) (h' := h) rfl ?_
  refine qg_putf rfl c14 rfl rfl (Nat.le_of_ble_eq_true rfl) rfl ?_
  refine qg_pls (n := 1) (k' := 12) (lo' := [some (.ref 14), some (.int a), some (.int b), some (.int c), some (.int dd), some (.int e), none, none]) (S' := [.ref 14]) (h' := (h.1.set 14 (ai_obj 5 [.ref 15, .int 1, .ref 16, .int (nI B.length), .ref 17, .int (nI T.length), .int (nI cn), .ref 18, .ref 19, .ref 20, v10, .int (nI J.length), .ref 21, .ref 22, v14, .int (nI dp), .int (nI kd), v17, v18, v19, v20, v21, .ref 23, .ref 24, .ref 25]), h.2)) rfl ?_
  refine qg_getf (v := .int 1) rfl (q_set c14) rfl rfl rfl ?_
  refine qg_if false rfl (rfl) rfl ?_
  exact qg_ret7 rfl
/-- QueryReaderModel.feed -/
theorem m_feedY (hs : mst h B Q kd dp J T) {a b c dd e : Int32} (hB : B.length + 20 ≤ 65536) : ∃ h' tp ln cn kp v10 v14 v17 v18 v19 v20 v21, qe L xs (d + 1) 116 [.ref 14, .int a, .int b, .int c, .int dd, .int e] h (.inl none, h') ∧ mst h' (B ++ zF a b c dd e) Q kd dp J T ∧ mmv h h' ∧ h'.2 = h.2 ∧ h'.1[14]? = some (mob (.int 0) tp ln cn v10 kp v14 dp kd v17 v18 v19 v20 v21) := by
  obtain ⟨cn, v1, v10, v14, v17, v18, v19, v20, v21, tb, c14, c16, cB, hm⟩ := mst_tape hs
  have hlen : (B ++ zF a b c dd e).length = B.length + 20 := by rw [List.length_append, zF_len]
  -- the loop
  have loop : ∀ (m k : Nat) (h1 : ai_H) (f : Nat → Int32) (x7 : Option Value), 20 - k = m → k ≤ 20 → h1.1[14]? = some (mob (.int 0) (B.length + k) T.length cn v10 J.length v14 dp kd v17 v18 v19 v20 v21) → h1.1[16]? = some (ai_num .byte 65536 f) → (∀ j, j < B.length + k → f j = (B ++ zF a b c dd e).getD j 0) → ∃ f', (∀ j, j < B.length + 20 → f' j = (B ++ zF a b c dd e).getD j 0) ∧ qg L xs d qm_116 17 [some (.ref 14), some (.int a), some (.int b), some (.int c), some (.int dd), some (.int e), some (.int (nI k)), x7] [] h1 (.inl none, ((h1.1.set 16 (ai_num .byte 65536 f')).set 14 (mob (.int 0) (B.length + 20) T.length cn v10 J.length v14 dp kd v17 v18 v19 v20 v21), h1.2)) := by
    intro m
    induction m with
    | zero =>
      intro k h1 f x7 hm2 hk o1 o2 hf
      have e1 : k = 20 := by omega
      subst e1
      refine ⟨f, hf, ?_⟩
      rw [q_same o2, q_same o1]
      refine qg_pls (n := 2) (k' := 19) (lo' := [some (.ref 14), some (.int a), some (.int b), some (.int c), some (.int dd), some (.int e), some (.int (nI 20)), x7]) (S' := [.int 20, .int (nI 20)]) (h' := h1) rfl ?_
      refine qg_icmp true rfl (qc_geT (b := 20) (Nat.le_refl _) (by decide)) rfl ?_
      exact qg_ret7 rfl
    | succ m ih =>
      intro k h1 f x7 hm2 hk o1 o2 hf
      have hk2 : k < 20 := by omega
      have a14 := q_stay (x := ai_num .byte 65536 (upd f (B.length + k) (zfb (zfv a b c dd e k) (k % 4)))) o1 (show 16 ≠ 14 by decide)
      obtain ⟨f', hf', g'⟩ := ih (k + 1) ((h1.1.set 16 (ai_num .byte 65536 (upd f (B.length + k) (zfb (zfv a b c dd e k) (k % 4))))).set 14 (mob (.int 0) (B.length + (k + 1)) T.length cn v10 J.length v14 dp kd v17 v18 v19 v20 v21), h1.2) (upd f (B.length + k) (zfb (zfv a b c dd e k) (k % 4))) (some (.int (zfv a b c dd e k))) (by omega) (by omega) (q_set a14) (q_stay (q_set o2) (by decide)) (fun j hj => by
        unfold upd
        by_cases q : j = B.length + k
        · rw [if_pos q, q, getD_r (by omega), Nat.add_sub_cancel_left, zF_get hk2]
        · rw [if_neg q]; exact hf j (by omega))
      refine ⟨f', hf', ?_⟩
      have hs14 : ((((h1.1.set 16 (ai_num .byte 65536 (upd f (B.length + k) (zfb (zfv a b c dd e k) (k % 4))))).set 14 (mob (.int 0) (B.length + (k + 1)) T.length cn v10 J.length v14 dp kd v17 v18 v19 v20 v21)).set 16 (ai_num .byte 65536 f')).set 14 (mob (.int 0) (B.length + 20) T.length cn v10 J.length v14 dp kd v17 v18 v19 v20 v21)) = (h1.1.set 16 (ai_num .byte 65536 f')).set 14 (mob (.int 0) (B.length + 20) T.length cn v10 J.length v14 dp kd v17 v18 v19 v20 v21) := by
        rw [List.set_comm _ _ (show 14 ≠ 16 by decide), List.set_set, List.set_set]
      rw [← hs14]
      have r41 : ∀ o, qg L xs d qm_116 42 [some (.ref 14), some (.int a), some (.int b), some (.int c), some (.int dd), some (.int e), some (.int (nI k)), some (.int (zfv a b c dd e k))] [] h1 o → qg L xs d qm_116 17 [some (.ref 14), some (.int a), some (.int b), some (.int c), some (.int dd), some (.int e), some (.int (nI k)), x7] [] h1 o := by
        intro o hg
        unfold zfv at hg
        refine qg_pls (n := 2) (k' := 19) (lo' := [some (.ref 14), some (.int a), some (.int b), some (.int c), some (.int dd), some (.int e), some (.int (nI k)), x7]) (S' := [.int 20, .int (nI k)]) (h' := h1) rfl ?_
        refine qg_icmp false rfl (qc_geF (b := 20) hk2 (by decide)) rfl ?_
        refine qg_pls (n := 2) (k' := 22) (lo' := [some (.ref 14), some (.int a), some (.int b), some (.int c), some (.int dd), some (.int e), some (.int (nI k)), x7]) (S' := [.int 4, .int (nI k)]) (h' := h1) rfl ?_
        by_cases k4 : k < 4
        · rw [if_pos k4] at hg
          refine qg_icmp false rfl (qc_geF (b := 4) k4 (by decide)) rfl ?_
          refine qg_pls (n := 3) (k' := 42) (lo' := [some (.ref 14), some (.int a), some (.int b), some (.int c), some (.int dd), some (.int e), some (.int (nI k)), some (.int a)]) (S' := []) (h' := h1) rfl ?_
          exact hg
        rw [if_neg k4] at hg
        by_cases k8 : k < 8
        · rw [if_pos k8] at hg
          refine qg_icmp true rfl (qc_geT (b := 4) (by omega) (by omega)) rfl ?_
          refine qg_pls (n := 2) (k' := 27) (lo' := [some (.ref 14), some (.int a), some (.int b), some (.int c), some (.int dd), some (.int e), some (.int (nI k)), x7]) (S' := [.int 8, .int (nI k)]) (h' := h1) rfl ?_
          refine qg_icmp false rfl (qc_geF (b := 8) k8 (by decide)) rfl ?_
          refine qg_pls (n := 3) (k' := 42) (lo' := [some (.ref 14), some (.int a), some (.int b), some (.int c), some (.int dd), some (.int e), some (.int (nI k)), some (.int b)]) (S' := []) (h' := h1) rfl ?_
          exact hg
        rw [if_neg k8] at hg
        by_cases k12 : k < 12
        · rw [if_pos k12] at hg
          refine qg_icmp true rfl (qc_geT (b := 4) (by omega) (by omega)) rfl ?_
          refine qg_pls (n := 2) (k' := 27) (lo' := [some (.ref 14), some (.int a), some (.int b), some (.int c), some (.int dd), some (.int e), some (.int (nI k)), x7]) (S' := [.int 8, .int (nI k)]) (h' := h1) rfl ?_
          refine qg_icmp true rfl (qc_geT (b := 8) (by omega) (by omega)) rfl ?_
          refine qg_pls (n := 2) (k' := 32) (lo' := [some (.ref 14), some (.int a), some (.int b), some (.int c), some (.int dd), some (.int e), some (.int (nI k)), x7]) (S' := [.int 12, .int (nI k)]) (h' := h1) rfl ?_
          refine qg_icmp false rfl (qc_geF (b := 12) k12 (by decide)) rfl ?_
          refine qg_pls (n := 3) (k' := 42) (lo' := [some (.ref 14), some (.int a), some (.int b), some (.int c), some (.int dd), some (.int e), some (.int (nI k)), some (.int c)]) (S' := []) (h' := h1) rfl ?_
          exact hg
        rw [if_neg k12] at hg
        by_cases k16 : k < 16
        · rw [if_pos k16] at hg
          refine qg_icmp true rfl (qc_geT (b := 4) (by omega) (by omega)) rfl ?_
          refine qg_pls (n := 2) (k' := 27) (lo' := [some (.ref 14), some (.int a), some (.int b), some (.int c), some (.int dd), some (.int e), some (.int (nI k)), x7]) (S' := [.int 8, .int (nI k)]) (h' := h1) rfl ?_
          refine qg_icmp true rfl (qc_geT (b := 8) (by omega) (by omega)) rfl ?_
          refine qg_pls (n := 2) (k' := 32) (lo' := [some (.ref 14), some (.int a), some (.int b), some (.int c), some (.int dd), some (.int e), some (.int (nI k)), x7]) (S' := [.int 12, .int (nI k)]) (h' := h1) rfl ?_
          refine qg_icmp true rfl (qc_geT (b := 12) (by omega) (by omega)) rfl ?_
          refine qg_pls (n := 2) (k' := 37) (lo' := [some (.ref 14), some (.int a), some (.int b), some (.int c), some (.int dd), some (.int e), some (.int (nI k)), x7]) (S' := [.int 16, .int (nI k)]) (h' := h1) rfl ?_
          refine qg_icmp false rfl (qc_geF (b := 16) k16 (by decide)) rfl ?_
          refine qg_pls (n := 3) (k' := 42) (lo' := [some (.ref 14), some (.int a), some (.int b), some (.int c), some (.int dd), some (.int e), some (.int (nI k)), some (.int dd)]) (S' := []) (h' := h1) rfl ?_
          exact hg
        · rw [if_neg k16] at hg
          refine qg_icmp true rfl (qc_geT (b := 4) (by omega) (by omega)) rfl ?_
          refine qg_pls (n := 2) (k' := 27) (lo' := [some (.ref 14), some (.int a), some (.int b), some (.int c), some (.int dd), some (.int e), some (.int (nI k)), x7]) (S' := [.int 8, .int (nI k)]) (h' := h1) rfl ?_
          refine qg_icmp true rfl (qc_geT (b := 8) (by omega) (by omega)) rfl ?_
          refine qg_pls (n := 2) (k' := 32) (lo' := [some (.ref 14), some (.int a), some (.int b), some (.int c), some (.int dd), some (.int e), some (.int (nI k)), x7]) (S' := [.int 12, .int (nI k)]) (h' := h1) rfl ?_
          refine qg_icmp true rfl (qc_geT (b := 12) (by omega) (by omega)) rfl ?_
          refine qg_pls (n := 2) (k' := 37) (lo' := [some (.ref 14), some (.int a), some (.int b), some (.int c), some (.int dd), some (.int e), some (.int (nI k)), x7]) (S' := [.int 16, .int (nI k)]) (h' := h1) rfl ?_
          refine qg_icmp true rfl (qc_geT (b := 16) (by omega) (by omega)) rfl ?_
          refine qg_pls (n := 2) (k' := 42) (lo' := [some (.ref 14), some (.int a), some (.int b), some (.int c), some (.int dd), some (.int e), some (.int (nI k)), some (.int e)]) (S' := []) (h' := h1) rfl ?_
          exact hg
      refine r41 _ ?_
      generalize hv : zfv a b c dd e k = v at g' a14 ⊢
      refine qg_pls (n := 1) (k' := 43) (lo' := [some (.ref 14), some (.int a), some (.int b), some (.int c), some (.int dd), some (.int e), some (.int (nI k)), some (.int v)]) (S' := [.ref 14]) (h' := h1) rfl ?_
      refine qg_getf (v := .ref 16) rfl o1 rfl rfl rfl ?_
      refine qg_pls (n := 1) (k' := 45) (lo' := [some (.ref 14), some (.int a), some (.int b), some (.int c), some (.int dd), some (.int e), some (.int (nI k)), some (.int v)]) (S' := [.ref 14, .ref 16]) (h' := h1) rfl ?_
      refine qg_getf (v := .int (nI (B.length + k))) rfl o1 rfl rfl rfl ?_
      refine qg_pls (n := 5) (k' := 51) (lo' := [some (.ref 14), some (.int a), some (.int b), some (.int c), some (.int dd), some (.int e), some (.int (nI k)), some (.int v)]) (S' := [.int 4, .int (nI k), .int 8, .int 24, .int v, .int (nI (B.length + k)), .ref 16]) (h' := h1) rfl ?_
      refine qg_rem (a := k) (b := 4) rfl (by decide) (by omega) (by decide) ?_
      refine qg_pls (n := 2) (k' := 54) (lo' := [some (.ref 14), some (.int a), some (.int b), some (.int c), some (.int dd), some (.int e), some (.int (nI k)), some (.int v)]) (S' := [.int (24 - (8 * (nI (k % 4)))), .int v, .int (nI (B.length + k)), .ref 16]) (h' := h1) rfl ?_
      rw [show (8 : Int32) * nI (k % 4) = nI (8 * (k % 4)) from nI_mul 8 _, show (24 : Int32) - nI (8 * (k % 4)) = nI (24 - 8 * (k % 4)) from nI_sub (a := 24) (by omega)]
      refine qg_pls (n := 2) (k' := 56) (lo' := [some (.ref 14), some (.int a), some (.int b), some (.int c), some (.int dd), some (.int e), some (.int (nI k)), some (.int v)]) (S' := [.int ((v >>> ((nI (24 - 8 * (k % 4))) &&& 31))).toInt8.toInt32, .int (nI (B.length + k)), .ref 16]) (h' := h1) rfl ?_
      refine qg_ast rfl (fun _ _ _ => rfl) o2 (by omega) (by decide) ?_
      rw [show vp_nar FieldType.byte (v >>> (nI (24 - 8 * (k % 4)) &&& 31)).toInt8.toInt32 = zfb v (k % 4) from zb_idem _]
      show qg L xs _ qm_116 57 [some (.ref 14), some (.int a), some (.int b), some (.int c), some (.int dd), some (.int e), some (.int (nI k)), some (.int v)] [] (h1.1.set 16 (ai_num .byte 65536 (upd f (B.length + k) (zfb v (k % 4)))), h1.2) _
      refine qg_pls (n := 2) (k' := 59) (lo' := [some (.ref 14), some (.int a), some (.int b), some (.int c), some (.int dd), some (.int e), some (.int (nI k)), some (.int v)]) (S' := [.ref 14, .ref 14]) (h' := (h1.1.set 16 (ai_num .byte 65536 (upd f (B.length + k) (zfb v (k % 4)))), h1.2)) rfl ?_
      refine qg_getf (v := .int (nI (B.length + k))) rfl a14 rfl rfl rfl ?_
      refine qg_pls (n := 2) (k' := 62) (lo' := [some (.ref 14), some (.int a), some (.int b), some (.int c), some (.int dd), some (.int e), some (.int (nI k)), some (.int v)]) (S' := [.int ((nI (B.length + k)) + 1), .ref 14]) (h' := (h1.1.set 16 (ai_num .byte 65536 (upd f (B.length + k) (zfb v (k % 4)))), h1.2)) rfl ?_
      rw [show nI (B.length + k) + 1 = nI (B.length + (k + 1)) from nI_1 _]
      refine qg_putf rfl a14 rfl rfl (Nat.le_of_ble_eq_true rfl) rfl ?_
      refine qg_pls (n := 2) (k' := 17) (lo' := [some (.ref 14), some (.int a), some (.int b), some (.int c), some (.int dd), some (.int e), some (.int ((nI k) + 1)), some (.int v)]) (S' := []) (h' := ((h1.1.set 16 (ai_num .byte 65536 (upd f (B.length + k) (zfb v (k % 4))))).set 14 (ai_obj 5 [.ref 15, .int 0, .ref 16, .int (nI (B.length + (k + 1))), .ref 17, .int (nI T.length), .int (nI cn), .ref 18, .ref 19, .ref 20, v10, .int (nI J.length), .ref 21, .ref 22, v14, .int (nI dp), .int (nI kd), v17, v18, v19, v20, v21, .ref 23, .ref 24, .ref 25]), h1.2)) rfl ?_
      rw [nI_1]
      exact g'
  have o0 := q_set (y := mob (.int 0) B.length T.length cn v10 J.length v14 dp kd v17 v18 v19 v20 v21) c14
  obtain ⟨f', hf', g'⟩ := loop 20 0 (h.1.set 14 (mob (.int 0) B.length T.length cn v10 J.length v14 dp kd v17 v18 v19 v20 v21), h.2) tb none rfl (by decide) o0 (q_stay c16 (by decide)) (fun j hj => by
    rw [getD_l (by omega)]
    exact cB.2.1 j (by omega))
  have hby : mby f' (B ++ zF a b c dd e) := ⟨by rw [hlen]; exact hB, fun j hj => hf' j (by omega), fun x hx => by
    rcases List.mem_append.mp hx with q | q
    · exact cB.2.2 x q
    · exact zF_by x q⟩
  have hm2 := hm (.int 0) (B ++ zF a b c dd e) f' hby
  rw [hlen] at hm2
  have hset : ((h.1.set 14 (mob (.int 0) B.length T.length cn v10 J.length v14 dp kd v17 v18 v19 v20 v21)).set 16 (ai_num .byte 65536 f')).set 14 (mob (.int 0) (B.length + 20) T.length cn v10 J.length v14 dp kd v17 v18 v19 v20 v21) = (h.1.set 16 (ai_num .byte 65536 f')).set 14 (mob (.int 0) (B.length + 20) T.length cn v10 J.length v14 dp kd v17 v18 v19 v20 v21) := by
    rw [List.set_comm _ _ (show 14 ≠ 16 by decide), List.set_set]
  refine ⟨((h.1.set 16 (ai_num .byte 65536 f')).set 14 (mob (.int 0) (B.length + 20) T.length cn v10 J.length v14 dp kd v17 v18 v19 v20 v21), h.2), B.length + 20, T.length, cn, J.length, v10, v14, v17, v18, v19, v20, v21, ?_, hm2, mmv_set2 (by decide) (by decide), rfl, q_set (q_stay c14 (by decide))⟩
  rw [← hset]
  refine qe_of (M := qm_116) rfl rfl ?_
  show qg L xs _ qm_116 0 [some (.ref 14), some (.int a), some (.int b), some (.int c), some (.int dd), some (.int e), none, none] [] h _
  refine qg_pls (n := 2) (k' := 2) (lo' := [some (.ref 14), some (.int a), some (.int b), some (.int c), some (.int dd), some (.int e), none, none]) (S' := [.ref 14, .ref 14]) (h' := h) rfl ?_
  refine qg_getf (v := .int (nI B.length)) rfl c14 rfl rfl rfl ?_
  refine qg_pls (n := 3) (k' := 6) (lo' := [some (.ref 14), some (.int a), some (.int b), some (.int c), some (.int dd), some (.int e), none, none]) (S' := [.int 65536, .int ((nI B.length) + 20), .ref 14]) (h' := h) rfl ?_
  rw [show nI B.length + 20 = nI (B.length + 20) from nI_add _ 20]
  refine qg_icmp true rfl (qc_leT (b := 65536) hB (by decide)) rfl ?_
  refine qg_pls (n := 1) (k' := 10) (lo' := [some (.ref 14), some (.int a), some (.int b), some (.int c), some (.int dd), some (.int e), none, none]) (S' := [.int 0, .ref 14]) (h' := h) rfl ?_
  refine qg_putf rfl c14 rfl rfl (Nat.le_of_ble_eq_true rfl) rfl ?_
  refine qg_pls (n := 1) (k' := 12) (lo' := [some (.ref 14), some (.int a), some (.int b), some (.int c), some (.int dd), some (.int e), none, none]) (S' := [.ref 14]) (h' := (h.1.set 14 (ai_obj 5 [.ref 15, .int 0, .ref 16, .int (nI B.length), .ref 17, .int (nI T.length), .int (nI cn), .ref 18, .ref 19, .ref 20, v10, .int (nI J.length), .ref 21, .ref 22, v14, .int (nI dp), .int (nI kd), v17, v18, v19, v20, v21, .ref 23, .ref 24, .ref 25]), h.2)) rfl ?_
  refine qg_getf (v := .int 0) rfl (q_set c14) rfl rfl rfl ?_
  refine qg_if true rfl (rfl) rfl ?_
  refine qg_pls (n := 2) (k' := 17) (lo' := [some (.ref 14), some (.int a), some (.int b), some (.int c), some (.int dd), some (.int e), some (.int 0), none]) (S' := []) (h' := (h.1.set 14 (ai_obj 5 [.ref 15, .int 0, .ref 16, .int (nI B.length), .ref 17, .int (nI T.length), .int (nI cn), .ref 18, .ref 19, .ref 20, v10, .int (nI J.length), .ref 21, .ref 22, v14, .int (nI dp), .int (nI kd), v17, v18, v19, v20, v21, .ref 23, .ref 24, .ref 25]), h.2)) rfl ?_
  exact g'
/-- QueryReaderModel.again, no -/
theorem m_againN (hs : mst h B Q kd dp J T) (hQ : Q.length = 0 ∨ 65536 < Q.length) (hQ2 : Q.length < 2 ^ 31) : ∃ h', qe L xs (d + 8) 199 [.ref 14] h (.inl (some (.int 0)), h') ∧ mst h' B Q kd dp J T ∧ mmv h h' ∧ h'.2 = h.2 := by
  obtain ⟨cn, v1, v10, v14, v17, v18, v19, v20, v21, c14, hm⟩ := mst_th hs
  have hl := m_lengthOf (L := L) (xs := xs) (d := d) (mst_rn (hm (.int 0)))
  rw [← (mst_Q hs).1] at hl
  refine ⟨_, ?_, hm (.int 0), mmv_set (by decide), rfl⟩
  refine qe_of (M := qm_199) rfl rfl ?_
  show qg L xs _ qm_199 0 [some (.ref 14), none, none, none, none, none] [] h _
  refine qg_pls (n := 2) (k' := 2) (lo' := [some (.ref 14), none, none, none, none, none]) (S' := [.int 0, .ref 14]) (h' := h) rfl ?_
  refine qg_putf rfl c14 rfl rfl (Nat.le_of_ble_eq_true rfl) rfl ?_
  show qg L xs _ qm_199 3 [some (.ref 14), none, none, none, none, none] [] (h.1.set 14 (mob (.int 0) B.length T.length cn v10 J.length v14 dp kd v17 v18 v19 v20 v21), h.2) _
  refine qg_pls (n := 1) (k' := 4) (lo' := [some (.ref 14), none, none, none, none, none]) (S' := [.ref 14]) (h' := (h.1.set 14 (mob (.int 0) B.length T.length cn v10 J.length v14 dp kd v17 v18 v19 v20 v21), h.2)) rfl ?_
  refine qg_call (v := some (.int (nI Q.length))) (h' := (h.1.set 14 (mob (.int 0) B.length T.length cn v10 J.length v14 dp kd v17 v18 v19 v20 v21), h.2)) (as := [.ref 14]) rfl rfl rfl rfl rfl rfl rfl (ai_rcv1 rfl rfl (q_set c14)) (hl) ?_
  show qg L xs _ qm_199 5 [some (.ref 14), none, none, none, none, none] [.int (nI Q.length)] (h.1.set 14 (mob (.int 0) B.length T.length cn v10 J.length v14 dp kd v17 v18 v19 v20 v21), h.2) _
  refine qg_pls (n := 2) (k' := 7) (lo' := [some (.ref 14), some (.int (nI Q.length)), none, none, none, none]) (S' := [.int (nI Q.length)]) (h' := (h.1.set 14 (mob (.int 0) B.length T.length cn v10 J.length v14 dp kd v17 v18 v19 v20 v21), h.2)) rfl ?_
  by_cases h0 : Q.length = 0
  · skip
    refine qg_if true rfl (qc_eqT (b := 0) h0) rfl ?_
    refine qg_pls (n := 1) (k' := 12) (lo' := [some (.ref 14), some (.int (nI Q.length)), none, none, none, none]) (S' := [.int 0]) (h' := (h.1.set 14 (mob (.int 0) B.length T.length cn v10 J.length v14 dp kd v17 v18 v19 v20 v21), h.2)) rfl ?_
    exact qg_ret5 rfl rfl rfl
  · have h1 : 65536 < Q.length := by omega
    refine qg_if false rfl (qc_eqF (b := 0) h0 hQ2 (by decide)) rfl ?_
    refine qg_pls (n := 2) (k' := 10) (lo' := [some (.ref 14), some (.int (nI Q.length)), none, none, none, none]) (S' := [.int 65536, .int (nI Q.length)]) (h' := (h.1.set 14 (mob (.int 0) B.length T.length cn v10 J.length v14 dp kd v17 v18 v19 v20 v21), h.2)) rfl ?_
    refine qg_icmp false rfl (qc_leF (b := 65536) h1 hQ2) rfl ?_
    refine qg_pls (n := 1) (k' := 12) (lo' := [some (.ref 14), some (.int (nI Q.length)), none, none, none, none]) (S' := [.int 0]) (h' := (h.1.set 14 (mob (.int 0) B.length T.length cn v10 J.length v14 dp kd v17 v18 v19 v20 v21), h.2)) rfl ?_
    exact qg_ret5 rfl rfl rfl
theorem mrn_16 (hr : mrn h J T) {c : ai_C} : mrn (h.1.set 16 c, h.2) J T := by
  obtain ⟨cn, tp, dp, kd, v1, v10, v14, v17, v18, v19, v20, v21, ft, rf, bf, c14, ⟨gw, w1, w2⟩, c17, cT, c21, c22, ct, ci, cJ⟩ := hr
  refine ⟨cn, tp, dp, kd, v1, v10, v14, v17, v18, v19, v20, v21, ft, rf, bf, q_stay c14 (by decide), ⟨gw, q_stay w1 (by decide), w2⟩, q_stay c17 (by decide), cT, q_stay c21 (by decide), q_stay c22 (by decide), fun hJ => ?_, ci, cJ⟩
  obtain ⟨f1, fk, fz, r1, r2, r3, r4⟩ := ct hJ
  exact ⟨f1, fk, fz, q_stay r1 (by decide), q_stay r2 (by decide), q_stay r3 (by decide), r4⟩
/-- QueryReaderModel.again, yes -/
theorem m_againY (hs : mst h B Q kd dp J T) (hQ : 0 < Q.length) (hQ2 : Q.length ≤ 65536) : ∃ h', qe L xs (d + 8) 199 [.ref 14] h (.inl (some (.int 1)), h') ∧ mst h' Q Q kd dp J T ∧ mmv h h' ∧ h'.2 = h.2 := by
  obtain ⟨eQ, hasc, hJl⟩ := mst_Q hs
  have hs0 := hs
  obtain ⟨cn, v1, v10, v14, v17, v18, v19, v20, v21, tb, c14, c16, cB, hm⟩ := mst_tape hs
  have hr0 : mrn (h.1.set 14 (mob (.int 0) B.length T.length cn v10 J.length v14 dp kd v17 v18 v19 v20 v21), h.2) J T := by
    have := hm (.int 0) B tb cB
    rw [q_same c16] at this
    exact mst_rn this
  have o0 := q_set (y := mob (.int 0) B.length T.length cn v10 J.length v14 dp kd v17 v18 v19 v20 v21) c14
  have hl := m_lengthOf (L := L) (xs := xs) (d := d) hr0
  rw [← eQ] at hl
  generalize hh1 : ((h.1.set 14 (mob (.int 0) B.length T.length cn v10 J.length v14 dp kd v17 v18 v19 v20 v21), h.2) : ai_H) = h1 at hr0 hl
  have o1 : h1.1[14]? = some (mob (.int 0) B.length T.length cn v10 J.length v14 dp kd v17 v18 v19 v20 v21) := by rw [← hh1]; exact o0
  have t1 : h1.1[16]? = some (ai_num .byte 65536 tb) := by rw [← hh1]; exact q_stay c16 (by decide)
  have hHf : ∀ f : Nat → Int32, mrn (h1.1.set 16 (ai_num .byte 65536 f), h1.2) J T := fun f => mrn_16 hr0
  have hof : ∀ f : Nat → Int32, (h1.1.set 16 (ai_num .byte 65536 f))[14]? = some (mob (.int 0) B.length T.length cn v10 J.length v14 dp kd v17 v18 v19 v20 v21) := fun f => q_stay o1 (by decide)
  have htf : ∀ f : Nat → Int32, (h1.1.set 16 (ai_num .byte 65536 f))[16]? = some (ai_num .byte 65536 f) := fun f => q_set t1
  have inner : ∀ (k : Nat) (a : zJ), J[k]? = some a → ∀ (m i to : Nat) (f : Nat → Int32), (jpc (decide (k = 0)) a).length - i = m → i ≤ (jpc (decide (k = 0)) a).length → to + ((jpc (decide (k = 0)) a).length - i) ≤ 65536 → ∃ f' : Nat → Int32, (∀ j, j < to → f' j = f j) ∧ (∀ j, j < (jpc (decide (k = 0)) a).length - i → f' (to + j) = (jpc (decide (k = 0)) a).getD (i + j) 0) ∧ ∀ o, qg L xs (d + 7) qm_199 42 [some (.ref 14), some (.int (nI Q.length)), some (.int (nI (to + ((jpc (decide (k = 0)) a).length - i)))), some (.int (nI k)), some (.int (nI (jpc (decide (k = 0)) a).length)), some (.int (nI (jpc (decide (k = 0)) a).length))] [] (h1.1.set 16 (ai_num .byte 65536 f'), h1.2) o → qg L xs (d + 7) qm_199 27 [some (.ref 14), some (.int (nI Q.length)), some (.int (nI to)), some (.int (nI k)), some (.int (nI (jpc (decide (k = 0)) a).length)), some (.int (nI i))] [] (h1.1.set 16 (ai_num .byte 65536 f), h1.2) o := by
    intro k a ha
    have haa := jpc_asc (mrn_asc (mst_rn hs0) a (List.mem_of_getElem? ha)) (decide (k = 0))
    obtain ⟨b1, b2, b3⟩ := mit_len (mst_rn hs0) ha
    have hpl := jpc_len (decide (k = 0)) a
    have hpl2 : (jpc (decide (k = 0)) a).length < 300000 := by
      rw [hpl]
      split <;> omega
    intro m
    induction m with
    | zero =>
      intro i to f hm2 hi hto
      have e1 : i = (jpc (decide (k = 0)) a).length := by omega
      subst e1
      refine ⟨f, fun _ _ => rfl, (fun j hj => by omega), fun o hg => ?_⟩
      rw [Nat.sub_self, Nat.add_zero] at hg
      refine qg_pls (n := 2) (k' := 29) (lo' := [some (.ref 14), some (.int (nI Q.length)), some (.int (nI to)), some (.int (nI k)), some (.int (nI (jpc (decide (k = 0)) a).length)), some (.int (nI (jpc (decide (k = 0)) a).length))]) (S' := [.int (nI (jpc (decide (k = 0)) a).length), .int (nI (jpc (decide (k = 0)) a).length)]) (h' := (h1.1.set 16 (ai_num .byte 65536 f), h1.2)) rfl ?_
      refine qg_icmp true rfl (qc_geT (Nat.le_refl _) (by omega)) rfl ?_
      exact hg
    | succ m ih =>
      intro i to f hm2 hi hto
      have hi2 : i < (jpc (decide (k = 0)) a).length := by omega
      have hch := m_charOf (L := L) (xs := xs) (d := d + 1) (hHf f) ha hi2
      have hbc : zb ((jpc (decide (k = 0)) a).getD i 0) = (jpc (decide (k = 0)) a).getD i 0 := (zasc4 (haa _ (by
        rw [List.getD_eq_getElem?_getD, List.getElem?_eq_getElem hi2]
        exact List.getElem_mem hi2))).2.2.1
      obtain ⟨f', hf1, hf2, road⟩ := ih (i + 1) (to + 1) (upd f to ((jpc (decide (k = 0)) a).getD i 0)) (by omega) (by omega) (by omega)
      refine ⟨f', fun j hj => ?_, fun j hj => ?_, fun o hg => ?_⟩
      · rw [hf1 j (by omega)]
        unfold upd
        rw [if_neg (by omega)]
      · rcases Nat.eq_zero_or_pos j with z | z
        · subst z
          rw [Nat.add_zero, Nat.add_zero, hf1 to (by omega)]
          unfold upd
          rw [if_pos rfl]
        · have := hf2 (j - 1) (by omega)
          rw [show to + 1 + (j - 1) = to + j by omega, show i + 1 + (j - 1) = i + j by omega] at this
          exact this
      · rw [show to + ((jpc (decide (k = 0)) a).length - i) = to + 1 + ((jpc (decide (k = 0)) a).length - (i + 1)) by omega] at hg
        refine qg_pls (n := 2) (k' := 29) (lo' := [some (.ref 14), some (.int (nI Q.length)), some (.int (nI to)), some (.int (nI k)), some (.int (nI (jpc (decide (k = 0)) a).length)), some (.int (nI i))]) (S' := [.int (nI (jpc (decide (k = 0)) a).length), .int (nI i)]) (h' := (h1.1.set 16 (ai_num .byte 65536 f), h1.2)) rfl ?_
        refine qg_icmp false rfl (qc_geF hi2 (by omega)) rfl ?_
        refine qg_pls (n := 1) (k' := 31) (lo' := [some (.ref 14), some (.int (nI Q.length)), some (.int (nI to)), some (.int (nI k)), some (.int (nI (jpc (decide (k = 0)) a).length)), some (.int (nI i))]) (S' := [.ref 14]) (h' := (h1.1.set 16 (ai_num .byte 65536 f), h1.2)) rfl ?_
        refine qg_getf (v := .ref 16) rfl (hof f) rfl rfl rfl ?_
        refine qg_pls (n := 4) (k' := 36) (lo' := [some (.ref 14), some (.int (nI Q.length)), some (.int (nI to)), some (.int (nI k)), some (.int (nI (jpc (decide (k = 0)) a).length)), some (.int (nI i))]) (S' := [.int (nI i), .int (nI k), .ref 14, .int (nI to), .ref 16]) (h' := (h1.1.set 16 (ai_num .byte 65536 f), h1.2)) rfl ?_
        refine qg_call (v := some (.int ((jpc (decide (k = 0)) a).getD i 0))) (h' := (h1.1.set 16 (ai_num .byte 65536 f), h1.2)) (as := [.ref 14, .int (nI k), .int (nI i)]) rfl rfl rfl rfl rfl rfl rfl (ai_rcv1 rfl rfl (hof f)) (hch) ?_
        show qg L xs _ qm_199 37 [some (.ref 14), some (.int (nI Q.length)), some (.int (nI to)), some (.int (nI k)), some (.int (nI (jpc (decide (k = 0)) a).length)), some (.int (nI i))] [.int ((jpc (decide (k = 0)) a).getD i 0), .int (nI to), .ref 16] (h1.1.set 16 (ai_num .byte 65536 f), h1.2) _
        refine qg_pls (n := 1) (k' := 38) (lo' := [some (.ref 14), some (.int (nI Q.length)), some (.int (nI to)), some (.int (nI k)), some (.int (nI (jpc (decide (k = 0)) a).length)), some (.int (nI i))]) (S' := [.int (((jpc (decide (k = 0)) a).getD i 0)).toInt8.toInt32, .int (nI to), .ref 16]) (h' := (h1.1.set 16 (ai_num .byte 65536 f), h1.2)) rfl ?_
        rw [show ((jpc (decide (k = 0)) a).getD i 0).toInt8.toInt32 = (jpc (decide (k = 0)) a).getD i 0 from hbc]
        refine qg_ast rfl (fun _ _ _ => rfl) (htf f) (by omega) (by decide) ?_
        rw [show vp_nar FieldType.byte ((jpc (decide (k = 0)) a).getD i 0) = (jpc (decide (k = 0)) a).getD i 0 from hbc, List.set_set]
        show qg L xs _ qm_199 39 [some (.ref 14), some (.int (nI Q.length)), some (.int (nI to)), some (.int (nI k)), some (.int (nI (jpc (decide (k = 0)) a).length)), some (.int (nI i))] [] (h1.1.set 16 (ai_num .byte 65536 (upd f to ((jpc (decide (k = 0)) a).getD i 0))), h1.2) _
        refine qg_pls (n := 3) (k' := 27) (lo' := [some (.ref 14), some (.int (nI Q.length)), some (.int ((nI to) + 1)), some (.int (nI k)), some (.int (nI (jpc (decide (k = 0)) a).length)), some (.int ((nI i) + 1))]) (S' := []) (h' := (h1.1.set 16 (ai_num .byte 65536 (upd f to ((jpc (decide (k = 0)) a).getD i 0))), h1.2)) rfl ?_
        rw [nI_1, nI_1]
        exact road o hg
  have fin : ∀ (f : Nat → Int32) (y2 y3 y4 y5 : Option Value), qg L xs (d + 7) qm_199 44 [some (.ref 14), some (.int (nI Q.length)), y2, y3, y4, y5] [] (h1.1.set 16 (ai_num .byte 65536 f), h1.2) (.inl (some (.int 1)), ((h.1.set 16 (ai_num .byte 65536 f)).set 14 (mob (.int 0) Q.length T.length cn v10 J.length v14 dp kd v17 v18 v19 v20 v21), h.2)) := by
    intro f y2 y3 y4 y5
    have hset : (h1.1.set 16 (ai_num .byte 65536 f)).set 14 (mob (.int 0) Q.length T.length cn v10 J.length v14 dp kd v17 v18 v19 v20 v21) = (h.1.set 16 (ai_num .byte 65536 f)).set 14 (mob (.int 0) Q.length T.length cn v10 J.length v14 dp kd v17 v18 v19 v20 v21) := by
      rw [← hh1]
      show ((h.1.set 14 _).set 16 _).set 14 _ = _
      rw [List.set_comm _ _ (show 14 ≠ 16 by decide), List.set_set]
    have h12 : h1.2 = h.2 := by rw [← hh1]
    rw [← hset, ← h12]
    refine qg_pls (n := 2) (k' := 46) (lo' := [some (.ref 14), some (.int (nI Q.length)), y2, y3, y4, y5]) (S' := [.int (nI Q.length), .ref 14]) (h' := (h1.1.set 16 (ai_num .byte 65536 f), h1.2)) rfl ?_
    refine qg_putf rfl (hof f) rfl rfl (Nat.le_of_ble_eq_true rfl) rfl ?_
    refine qg_pls (n := 1) (k' := 48) (lo' := [some (.ref 14), some (.int (nI Q.length)), y2, y3, y4, y5]) (S' := [.int 1]) (h' := ((h1.1.set 16 (ai_num .byte 65536 f)).set 14 (ai_obj 5 [.ref 15, .int 0, .ref 16, .int (nI Q.length), .ref 17, .int (nI T.length), .int (nI cn), .ref 18, .ref 19, .ref 20, v10, .int (nI J.length), .ref 21, .ref 22, v14, .int (nI dp), .int (nI kd), v17, v18, v19, v20, v21, .ref 23, .ref 24, .ref 25]), h1.2)) rfl ?_
    exact qg_ret5 rfl rfl rfl
  have loop : ∀ (m k to : Nat) (f : Nat → Int32) (x4 x5 : Option Value), J.length - k = m → k ≤ J.length → to + (jq (decide (k = 0)) (J.drop k)).length = Q.length → ∃ f', (∀ j, j < to → f' j = f j) ∧ (∀ j, j < (jq (decide (k = 0)) (J.drop k)).length → f' (to + j) = (jq (decide (k = 0)) (J.drop k)).getD j 0) ∧ qg L xs (d + 7) qm_199 17 [some (.ref 14), some (.int (nI Q.length)), some (.int (nI to)), some (.int (nI k)), x4, x5] [] (h1.1.set 16 (ai_num .byte 65536 f), h1.2) (.inl (some (.int 1)), ((h.1.set 16 (ai_num .byte 65536 f')).set 14 (mob (.int 0) Q.length T.length cn v10 J.length v14 dp kd v17 v18 v19 v20 v21), h.2)) := by
    intro m
    induction m with
    | zero =>
      intro k to f x4 x5 hm2 hk hto
      rw [List.drop_eq_nil_of_le (show J.length ≤ k by omega)] at hto ⊢
      refine ⟨f, fun _ _ => rfl, (fun j hj => absurd hj (Nat.not_lt_zero _)), ?_⟩
      refine qg_pls (n := 2) (k' := 19) (lo' := [some (.ref 14), some (.int (nI Q.length)), some (.int (nI to)), some (.int (nI k)), x4, x5]) (S' := [.ref 14, .int (nI k)]) (h' := (h1.1.set 16 (ai_num .byte 65536 f), h1.2)) rfl ?_
      refine qg_getf (v := .int (nI J.length)) rfl (hof f) rfl rfl rfl ?_
      refine qg_icmp true rfl (qc_geT (by omega) (by omega)) rfl ?_
      exact fin f _ _ _ _
    | succ m ih =>
      intro k to f x4 x5 hm2 hk hto
      have hk2 : k < J.length := by omega
      have ha : J[k]? = some J[k] := List.getElem?_eq_getElem hk2
      rw [jq_drop hk2, List.length_append] at hto
      rw [jq_drop hk2]
      have hw := m_widthOf (L := L) (xs := xs) (d := d + 1) (hHf f) ha
      obtain ⟨f1, a1, a2, road⟩ := inner k J[k] ha _ 0 to f rfl (Nat.zero_le _) (by omega)
      rw [Nat.sub_zero] at a2 road
      obtain ⟨f', c1, c2, g'⟩ := ih (k + 1) (to + (jpc (decide (k = 0)) J[k]).length) f1 (some (.int (nI (jpc (decide (k = 0)) J[k]).length))) (some (.int (nI (jpc (decide (k = 0)) J[k]).length))) (by omega) (by omega) (by omega)
      refine ⟨f', fun j hj => ?_, fun j hj => ?_, ?_⟩
      · rw [c1 j (by omega), a1 j hj]
      · rw [List.length_append] at hj
        by_cases hjl : j < (jpc (decide (k = 0)) J[k]).length
        · have := a2 j hjl
          rw [Nat.zero_add] at this
          rw [c1 _ (by omega), this, getD_l hjl]
        · have := c2 (j - (jpc (decide (k = 0)) J[k]).length) (by omega)
          rw [show to + (jpc (decide (k = 0)) J[k]).length + (j - (jpc (decide (k = 0)) J[k]).length) = to + j by omega] at this
          rw [this, getD_r (by omega)]
      · skip
        refine qg_pls (n := 2) (k' := 19) (lo' := [some (.ref 14), some (.int (nI Q.length)), some (.int (nI to)), some (.int (nI k)), x4, x5]) (S' := [.ref 14, .int (nI k)]) (h' := (h1.1.set 16 (ai_num .byte 65536 f), h1.2)) rfl ?_
        refine qg_getf (v := .int (nI J.length)) rfl (hof f) rfl rfl rfl ?_
        refine qg_icmp false rfl (qc_geF (by omega) (by omega)) rfl ?_
        refine qg_pls (n := 2) (k' := 23) (lo' := [some (.ref 14), some (.int (nI Q.length)), some (.int (nI to)), some (.int (nI k)), x4, x5]) (S' := [.int (nI k), .ref 14]) (h' := (h1.1.set 16 (ai_num .byte 65536 f), h1.2)) rfl ?_
        refine qg_call (v := some (.int (nI (jpc (decide (k = 0)) J[k]).length))) (h' := (h1.1.set 16 (ai_num .byte 65536 f), h1.2)) (as := [.ref 14, .int (nI k)]) rfl rfl rfl rfl rfl rfl rfl (ai_rcv1 rfl rfl (hof f)) (hw) ?_
        show qg L xs _ qm_199 24 [some (.ref 14), some (.int (nI Q.length)), some (.int (nI to)), some (.int (nI k)), x4, x5] [.int (nI (jpc (decide (k = 0)) J[k]).length)] (h1.1.set 16 (ai_num .byte 65536 f), h1.2) _
        refine qg_pls (n := 3) (k' := 27) (lo' := [some (.ref 14), some (.int (nI Q.length)), some (.int (nI to)), some (.int (nI k)), some (.int (nI (jpc (decide (k = 0)) J[k]).length)), some (.int 0)]) (S' := []) (h' := (h1.1.set 16 (ai_num .byte 65536 f), h1.2)) rfl ?_
        refine road _ ?_
        refine qg_pls (n := 2) (k' := 17) (lo' := [some (.ref 14), some (.int (nI Q.length)), some (.int (nI (to + (jpc (decide (k = 0)) J[k]).length))), some (.int ((nI k) + 1)), some (.int (nI (jpc (decide (k = 0)) J[k]).length)), some (.int (nI (jpc (decide (k = 0)) J[k]).length))]) (S' := []) (h' := (h1.1.set 16 (ai_num .byte 65536 f1), h1.2)) rfl ?_
        rw [nI_1]
        exact g'
  have e0 : jq (decide (0 = 0)) (J.drop 0) = Q := by rw [eQ]; rfl
  obtain ⟨f', c1, c2, g'⟩ := loop _ 0 0 tb none none rfl (Nat.zero_le _) (by rw [e0, Nat.zero_add])
  rw [e0] at c2
  refine ⟨_, ?_, hm (.int 0) Q f' ⟨hQ2, fun j hj => ?_, fun x hx => (zasc4 (hasc x hx)).2.2.1⟩, mmv_set2 (by decide) (by decide), rfl⟩
  · rw [q_same t1] at g'
    refine qe_of (M := qm_199) rfl rfl ?_
    show qg L xs _ qm_199 0 [some (.ref 14), none, none, none, none, none] [] h _
    refine qg_pls (n := 2) (k' := 2) (lo' := [some (.ref 14), none, none, none, none, none]) (S' := [.int 0, .ref 14]) (h' := h) rfl ?_
    refine qg_putf rfl c14 rfl rfl (Nat.le_of_ble_eq_true rfl) rfl ?_
    show qg L xs _ qm_199 3 [some (.ref 14), none, none, none, none, none] [] (h.1.set 14 (mob (.int 0) B.length T.length cn v10 J.length v14 dp kd v17 v18 v19 v20 v21), h.2) _
    rw [hh1]
    show qg L xs _ qm_199 3 [some (.ref 14), none, none, none, none, none] [] h1 _
    refine qg_pls (n := 1) (k' := 4) (lo' := [some (.ref 14), none, none, none, none, none]) (S' := [.ref 14]) (h' := h1) rfl ?_
    refine qg_call (v := some (.int (nI Q.length))) (h' := h1) (as := [.ref 14]) rfl rfl rfl rfl rfl rfl rfl (ai_rcv1 rfl rfl o1) (hl) ?_
    show qg L xs _ qm_199 5 [some (.ref 14), none, none, none, none, none] [.int (nI Q.length)] h1 _
    refine qg_pls (n := 2) (k' := 7) (lo' := [some (.ref 14), some (.int (nI Q.length)), none, none, none, none]) (S' := [.int (nI Q.length)]) (h' := h1) rfl ?_
    refine qg_if false rfl (qc_eqF (b := 0) (by omega) (by omega) (by decide)) rfl ?_
    refine qg_pls (n := 2) (k' := 10) (lo' := [some (.ref 14), some (.int (nI Q.length)), none, none, none, none]) (S' := [.int 65536, .int (nI Q.length)]) (h' := h1) rfl ?_
    refine qg_icmp true rfl (qc_leT (b := 65536) hQ2 (by decide)) rfl ?_
    refine qg_pls (n := 4) (k' := 17) (lo' := [some (.ref 14), some (.int (nI Q.length)), some (.int 0), some (.int 0), none, none]) (S' := []) (h' := h1) rfl ?_
    exact g'
  · have := c2 j hj
    rw [Nat.zero_add] at this
    exact this
end MAP
