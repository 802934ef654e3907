/-! THE MODEL COUNTS NAMES: two of them. (Printed by wip/whole/pp.py from wip/whole/src.) -/
section MNM
variable {L : Nat} {xs : Nat → Int32} {d : Nat} {h : ai_H} {T : List Int32} {J : List zJ}
theorem zit_nm {i : Nat} (hT : ∀ x ∈ T, zb x = x) (hi : i < (zen T).1.length) (h99 : ztk (zen T) i = 99) : (zit (zen T) i).length = zto (zen T) i - zfr (zen T) i ∧ zfr (zen T) i ≤ zto (zen T) i ∧ zto (zen T) i ≤ T.length ∧ ∀ j, j < (zit (zen T) i).length → zsmall (T.getD (zfr (zen T) i + j) 0) = (zit (zen T) i).getD j 0 := by
  have hk : ztk (zen T) i < 102 := by omega
  have hz0 : zzr T i = 0 := by
    unfold zzr
    rw [if_neg (by omega)]
  obtain ⟨f1, f2⟩ := zen_ft (t := T) i
  refine ⟨?_, f1, f2, fun j hj => ?_⟩
  · unfold zit
    rw [if_neg (by omega), if_pos h99, List.length_map, zsl_len hi hk]
  · obtain ⟨-, -, h3⟩ := zit_get hT hi hk hj
    rw [h3, if_neg (by omega), if_pos h99, hz0, Nat.add_zero]
/-- QueryReaderModel.sameName -/
theorem m_same (hr : mrn h J T) (hJ : J ≠ []) {i t : Nat} (hi : i < (zen T).1.length) (hi9 : ztk (zen T) i = 99) (ht : t < (zen T).1.length) (ht9 : ztk (zen T) t = 99) : qe L xs (d + 2) 197 [.ref 14, .int (nI i), .int (nI t)] h (.inl (some (.int (if zit (zen T) i = zit (zen T) t then 1 else 0))), h) := by
  obtain ⟨cn, tp, dp, kd, v1, v10, v14, v17, v18, v19, v20, v21, ft, rf, bf, c14, -, c17, cT, c21, c22, ct, ci, cJ⟩ := hr
  obtain ⟨f1, fk, fz, r18, r19, r20, rt⟩ := ct hJ
  have hlen := zen_len (t := T)
  have hTl := cT.1
  obtain ⟨a1, a2, a3, a4⟩ := zit_nm cT.2.2 hi hi9
  obtain ⟨b1, b2, b3, b4⟩ := zit_nm cT.2.2 ht ht9
  have w1 : f1 i = nI (zfr (zen T) i) := (rt i hi).1
  have w2 : fz i = nI (zit (zen T) i).length := by rw [a1]; exact (rt i hi).2.2 (show ztk (zen T) i < 102 by omega)
  have u1 : f1 t = nI (zfr (zen T) t) := (rt t ht).1
  have u2 : fz t = nI (zit (zen T) t).length := by rw [b1]; exact (rt t ht).2.2 (show ztk (zen T) t < 102 by omega)
  generalize hA : zit (zen T) i = A at a1 a4 w2 ⊢
  generalize hB : zit (zen T) t = B at b1 b4 u2 ⊢
  have out0 : ∀ j, j ≤ A.length → qg L xs (d + 1) qm_197 15 [some (.ref 14), some (.int (nI i)), some (.int (nI t)), some (.int 0), some (.int (nI j))] [] h (.inl (some (.int 0)), h) := by
    intro j hj
    by_cases hjA : j < A.length
    · skip
      refine qg_pls (n := 2) (k' := 17) (lo' := [some (.ref 14), some (.int (nI i)), some (.int (nI t)), some (.int 0), some (.int (nI j))]) (S' := [.ref 14, .int (nI j)]) (h' := h) rfl ?_
      refine qg_getf (v := .ref 20) rfl c14 rfl rfl rfl ?_
      refine qg_pls (n := 1) (k' := 19) (lo' := [some (.ref 14), some (.int (nI i)), some (.int (nI t)), some (.int 0), some (.int (nI j))]) (S' := [.int (nI i), .ref 20, .int (nI j)]) (h' := h) rfl ?_
      refine qg_ald rfl (fun _ _ _ => rfl) r20 (by omega) (by decide) ?_
      rw [w2]
      refine qg_icmp false rfl (qc_geF hjA (by omega)) rfl ?_
      refine qg_pls (n := 1) (k' := 22) (lo' := [some (.ref 14), some (.int (nI i)), some (.int (nI t)), some (.int 0), some (.int (nI j))]) (S' := [.int 0]) (h' := h) rfl ?_
      refine qg_if true rfl (rfl) rfl ?_
      refine qg_pls (n := 1) (k' := 51) (lo' := [some (.ref 14), some (.int (nI i)), some (.int (nI t)), some (.int 0), some (.int (nI j))]) (S' := [.int 0]) (h' := h) rfl ?_
      exact qg_ret5 rfl rfl rfl
    · skip
      refine qg_pls (n := 2) (k' := 17) (lo' := [some (.ref 14), some (.int (nI i)), some (.int (nI t)), some (.int 0), some (.int (nI j))]) (S' := [.ref 14, .int (nI j)]) (h' := h) rfl ?_
      refine qg_getf (v := .ref 20) rfl c14 rfl rfl rfl ?_
      refine qg_pls (n := 1) (k' := 19) (lo' := [some (.ref 14), some (.int (nI i)), some (.int (nI t)), some (.int 0), some (.int (nI j))]) (S' := [.int (nI i), .ref 20, .int (nI j)]) (h' := h) rfl ?_
      refine qg_ald rfl (fun _ _ _ => rfl) r20 (by omega) (by decide) ?_
      rw [w2]
      refine qg_icmp true rfl (qc_geT (by omega) (by omega)) rfl ?_
      refine qg_pls (n := 1) (k' := 51) (lo' := [some (.ref 14), some (.int (nI i)), some (.int (nI t)), some (.int 0), some (.int (nI j))]) (S' := [.int 0]) (h' := h) rfl ?_
      exact qg_ret5 rfl rfl rfl
  have loop : A.length = B.length → ∀ (m j : Nat), A.length - j = m → j ≤ A.length → qg L xs (d + 1) qm_197 15 [some (.ref 14), some (.int (nI i)), some (.int (nI t)), some (.int 1), some (.int (nI j))] [] h (.inl (some (.int (if A.drop j = B.drop j then 1 else 0))), h) := by
    intro hAB m
    induction m with
    | zero =>
      intro j hm hj
      rw [List.drop_eq_nil_of_le (show A.length ≤ j by omega), List.drop_eq_nil_of_le (show B.length ≤ j by omega), if_pos rfl]
      refine qg_pls (n := 2) (k' := 17) (lo' := [some (.ref 14), some (.int (nI i)), some (.int (nI t)), some (.int 1), some (.int (nI j))]) (S' := [.ref 14, .int (nI j)]) (h' := h) rfl ?_
      refine qg_getf (v := .ref 20) rfl c14 rfl rfl rfl ?_
      refine qg_pls (n := 1) (k' := 19) (lo' := [some (.ref 14), some (.int (nI i)), some (.int (nI t)), some (.int 1), some (.int (nI j))]) (S' := [.int (nI i), .ref 20, .int (nI j)]) (h' := h) rfl ?_
      refine qg_ald rfl (fun _ _ _ => rfl) r20 (by omega) (by decide) ?_
      rw [w2]
      refine qg_icmp true rfl (qc_geT (by omega) (by omega)) rfl ?_
      refine qg_pls (n := 1) (k' := 51) (lo' := [some (.ref 14), some (.int (nI i)), some (.int (nI t)), some (.int 1), some (.int (nI j))]) (S' := [.int 1]) (h' := h) rfl ?_
      exact qg_ret5 rfl rfl rfl
    | succ m ih =>
      intro j hm hj
      have hjA : j < A.length := by omega
      have hjB : j < B.length := by omega
      rw [drop_cons (x := 0) hjA, drop_cons (x := 0) hjB]
      have road : ∀ o, qg L xs (d + 1) qm_197 43 [some (.ref 14), some (.int (nI i)), some (.int (nI t)), some (.int 1), some (.int (nI j))] [.int (B.getD j 0), .int (A.getD j 0)] h o → qg L xs (d + 1) qm_197 15 [some (.ref 14), some (.int (nI i)), some (.int (nI t)), some (.int 1), some (.int (nI j))] [] h o := by
        intro o hg
        refine qg_pls (n := 2) (k' := 17) (lo' := [some (.ref 14), some (.int (nI i)), some (.int (nI t)), some (.int 1), some (.int (nI j))]) (S' := [.ref 14, .int (nI j)]) (h' := h) rfl ?_
        refine qg_getf (v := .ref 20) rfl c14 rfl rfl rfl ?_
        refine qg_pls (n := 1) (k' := 19) (lo' := [some (.ref 14), some (.int (nI i)), some (.int (nI t)), some (.int 1), some (.int (nI j))]) (S' := [.int (nI i), .ref 20, .int (nI j)]) (h' := h) rfl ?_
        refine qg_ald rfl (fun _ _ _ => rfl) r20 (by omega) (by decide) ?_
        rw [w2]
        refine qg_icmp false rfl (qc_geF hjA (by omega)) rfl ?_
        refine qg_pls (n := 1) (k' := 22) (lo' := [some (.ref 14), some (.int (nI i)), some (.int (nI t)), some (.int 1), some (.int (nI j))]) (S' := [.int 1]) (h' := h) rfl ?_
        refine qg_if false rfl (rfl) rfl ?_
        refine qg_pls (n := 1) (k' := 24) (lo' := [some (.ref 14), some (.int (nI i)), some (.int (nI t)), some (.int 1), some (.int (nI j))]) (S' := [.ref 14]) (h' := h) rfl ?_
        refine qg_getf (v := .ref 17) rfl c14 rfl rfl rfl ?_
        refine qg_pls (n := 1) (k' := 26) (lo' := [some (.ref 14), some (.int (nI i)), some (.int (nI t)), some (.int 1), some (.int (nI j))]) (S' := [.ref 14, .ref 17]) (h' := h) rfl ?_
        refine qg_getf (v := .ref 18) rfl c14 rfl rfl rfl ?_
        refine qg_pls (n := 1) (k' := 28) (lo' := [some (.ref 14), some (.int (nI i)), some (.int (nI t)), some (.int 1), some (.int (nI j))]) (S' := [.int (nI i), .ref 18, .ref 17]) (h' := h) rfl ?_
        refine qg_ald rfl (fun _ _ _ => rfl) r18 (by omega) (by decide) ?_
        rw [w1]
        refine qg_pls (n := 2) (k' := 31) (lo' := [some (.ref 14), some (.int (nI i)), some (.int (nI t)), some (.int 1), some (.int (nI j))]) (S' := [.int ((nI (zfr (zen T) i)) + (nI j)), .ref 17]) (h' := h) rfl ?_
        rw [nI_add]
        refine qg_ald rfl (fun _ _ _ => rfl) c17 (by omega) (by decide) ?_
        rw [cT.2.1 _ (by omega)]
        refine qg_call (v := some (.int (zsmall (T.getD (zfr (zen T) i + j) 0)))) (h' := h) (as := [.int (T.getD (zfr (zen T) i + j) 0)]) rfl rfl rfl rfl rfl rfl rfl rfl (m_small (d := d)) ?_
        show qg L xs _ qm_197 33 [some (.ref 14), some (.int (nI i)), some (.int (nI t)), some (.int 1), some (.int (nI j))] [.int (zsmall (T.getD (zfr (zen T) i + j) 0))] h _
        rw [a4 j hjA]
        refine qg_pls (n := 1) (k' := 34) (lo' := [some (.ref 14), some (.int (nI i)), some (.int (nI t)), some (.int 1), some (.int (nI j))]) (S' := [.ref 14, .int (A.getD j 0)]) (h' := h) rfl ?_
        refine qg_getf (v := .ref 17) rfl c14 rfl rfl rfl ?_
        refine qg_pls (n := 1) (k' := 36) (lo' := [some (.ref 14), some (.int (nI i)), some (.int (nI t)), some (.int 1), some (.int (nI j))]) (S' := [.ref 14, .ref 17, .int (A.getD j 0)]) (h' := h) rfl ?_
        refine qg_getf (v := .ref 18) rfl c14 rfl rfl rfl ?_
        refine qg_pls (n := 1) (k' := 38) (lo' := [some (.ref 14), some (.int (nI i)), some (.int (nI t)), some (.int 1), some (.int (nI j))]) (S' := [.int (nI t), .ref 18, .ref 17, .int (A.getD j 0)]) (h' := h) rfl ?_
        refine qg_ald rfl (fun _ _ _ => rfl) r18 (by omega) (by decide) ?_
        rw [u1]
        refine qg_pls (n := 2) (k' := 41) (lo' := [some (.ref 14), some (.int (nI i)), some (.int (nI t)), some (.int 1), some (.int (nI j))]) (S' := [.int ((nI (zfr (zen T) t)) + (nI j)), .ref 17, .int (A.getD j 0)]) (h' := h) rfl ?_
        rw [nI_add]
        refine qg_ald rfl (fun _ _ _ => rfl) c17 (by omega) (by decide) ?_
        rw [cT.2.1 _ (by omega)]
        refine qg_call (v := some (.int (zsmall (T.getD (zfr (zen T) t + j) 0)))) (h' := h) (as := [.int (T.getD (zfr (zen T) t + j) 0)]) rfl rfl rfl rfl rfl rfl rfl rfl (m_small (d := d)) ?_
        show qg L xs _ qm_197 43 [some (.ref 14), some (.int (nI i)), some (.int (nI t)), some (.int 1), some (.int (nI j))] [.int (zsmall (T.getD (zfr (zen T) t + j) 0)), .int (A.getD j 0)] h _
        rw [b4 j hjB]
        exact hg
      refine road _ ?_
      by_cases hc : A.getD j 0 = B.getD j 0
      · have e1 : (if A.getD j 0 :: A.drop (j + 1) = B.getD j 0 :: B.drop (j + 1) then (1 : Int32) else 0) = if A.drop (j + 1) = B.drop (j + 1) then 1 else 0 := by
          by_cases hd : A.drop (j + 1) = B.drop (j + 1)
          · rw [if_pos hd, if_pos (by rw [hc, hd])]
          · rw [if_neg hd, if_neg (fun q => hd (List.cons.inj q).2)]
        rw [e1]
        refine qg_icmp false rfl ((qb_neF hc)) rfl ?_
        refine qg_pls (n := 5) (k' := 15) (lo' := [some (.ref 14), some (.int (nI i)), some (.int (nI t)), some (.int 1), some (.int ((nI j) + 1))]) (S' := []) (h' := h) rfl ?_
        rw [nI_1]
        exact ih (j + 1) (by omega) (by omega)
      · rw [if_neg (fun q => hc (List.cons.inj q).1)]
        refine qg_icmp true rfl ((qb_neT hc)) rfl ?_
        refine qg_pls (n := 4) (k' := 15) (lo' := [some (.ref 14), some (.int (nI i)), some (.int (nI t)), some (.int 0), some (.int ((nI j) + 1))]) (S' := []) (h' := h) rfl ?_
        rw [nI_1]
        exact out0 (j + 1) (by omega)
  have first : ∀ o, qg L xs (d + 1) qm_197 8 [some (.ref 14), some (.int (nI i)), some (.int (nI t)), none, none] [.int (nI B.length), .int (nI A.length)] h o → qe L xs (d + 2) 197 [.ref 14, .int (nI i), .int (nI t)] h o := by
    intro o hg
    refine qe_of (M := qm_197) rfl rfl ?_
    show qg L xs _ qm_197 0 [some (.ref 14), some (.int (nI i)), some (.int (nI t)), none, none] [] h _
    refine qg_pls (n := 1) (k' := 1) (lo' := [some (.ref 14), some (.int (nI i)), some (.int (nI t)), none, none]) (S' := [.ref 14]) (h' := h) rfl ?_
    refine qg_getf (v := .ref 20) rfl c14 rfl rfl rfl ?_
    refine qg_pls (n := 1) (k' := 3) (lo' := [some (.ref 14), some (.int (nI i)), some (.int (nI t)), none, none]) (S' := [.int (nI i), .ref 20]) (h' := h) rfl ?_
    refine qg_ald rfl (fun _ _ _ => rfl) r20 (by omega) (by decide) ?_
    rw [w2]
    refine qg_pls (n := 1) (k' := 5) (lo' := [some (.ref 14), some (.int (nI i)), some (.int (nI t)), none, none]) (S' := [.ref 14, .int (nI A.length)]) (h' := h) rfl ?_
    refine qg_getf (v := .ref 20) rfl c14 rfl rfl rfl ?_
    refine qg_pls (n := 1) (k' := 7) (lo' := [some (.ref 14), some (.int (nI i)), some (.int (nI t)), none, none]) (S' := [.int (nI t), .ref 20, .int (nI A.length)]) (h' := h) rfl ?_
    refine qg_ald rfl (fun _ _ _ => rfl) r20 (by omega) (by decide) ?_
    rw [u2]
    exact hg
  refine first _ ?_
  by_cases hAB : A.length = B.length
  · skip
    refine qg_icmp false rfl (qc_neF hAB) rfl ?_
    refine qg_pls (n := 5) (k' := 15) (lo' := [some (.ref 14), some (.int (nI i)), some (.int (nI t)), some (.int 1), some (.int 0)]) (S' := []) (h' := h) rfl ?_
    have := loop hAB A.length 0 (by omega) (Nat.zero_le _)
    rw [List.drop_zero, List.drop_zero] at this
    exact this
  · rw [if_neg (fun q => hAB (by rw [q]))]
    refine qg_icmp true rfl (qc_neT hAB (by omega) (by omega)) rfl ?_
    refine qg_pls (n := 4) (k' := 15) (lo' := [some (.ref 14), some (.int (nI i)), some (.int (nI t)), some (.int 0), some (.int 0)]) (S' := []) (h' := h) rfl ?_
    exact out0 0 (Nat.zero_le _)
end MNM
