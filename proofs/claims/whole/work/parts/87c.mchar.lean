/-! THE MODEL SHOWS ITS PLAIN FORM: LETTERS. (Printed by wip/whole/pp.py from wip/whole/src.) -/
section MCH
variable {L : Nat} {xs : Nat → Int32} {d : Nat} {h : ai_H} {T : List Int32} {J : List zJ}
theorem zasc1 : (List.range 128).all (fun m => decide (zgreat (nI m) = (if ¬ nI m < 97 ∧ ¬ 122 < nI m then nI m - 32 else nI m) ∧ zsm (nI m) = zsmall (nI m) ∧ ((¬ nI m < 97 ∧ ¬ 122 < nI m) → ¬ nI m - 32 < 65 ∧ ¬ 90 < nI m - 32))) = true := by decide +kernel
theorem zasc2 {c : Int32} (hc : zasc c) : zgreat c = (if ¬ c < 97 ∧ ¬ 122 < c then c - 32 else c) ∧ zsm c = zsmall c ∧ ((¬ c < 97 ∧ ¬ 122 < c) → ¬ c - 32 < 65 ∧ ¬ 90 < c - 32) := by
  obtain ⟨m, hm, rfl⟩ := hc
  exact of_decide_eq_true (List.all_eq_true.mp zasc1 m (List.mem_range.mpr hm))
theorem zmarks0 : (List.range 99).all (fun k => decide (k < 82 ∨ ∀ v ∈ zw k, v < 65 ∨ 90 < v)) = true := by decide +kernel
/-- a token's byte, and what is shown of it -/
theorem zit_get {i j : Nat} (hT : ∀ x ∈ T, zb x = x) (hi : i < (zen T).1.length) (hk : ztk (zen T) i < 102) (hj : j < (zit (zen T) i).length) : zfr (zen T) i + zzr T i + j < zto (zen T) i ∧ zasc (T.getD (zfr (zen T) i + zzr T i + j) 0) ∧ (zit (zen T) i).getD j 0 = (if ztk (zen T) i < 82 then (if ¬ T.getD (zfr (zen T) i + zzr T i + j) 0 < 97 ∧ ¬ 122 < T.getD (zfr (zen T) i + zzr T i + j) 0 then T.getD (zfr (zen T) i + zzr T i + j) 0 - 32 else T.getD (zfr (zen T) i + zzr T i + j) 0) else if ztk (zen T) i = 99 then zsmall (T.getD (zfr (zen T) i + zzr T i + j) 0) else T.getD (zfr (zen T) i + zzr T i + j) 0) := by
  obtain ⟨a1, a2, a3, a4⟩ := zen_tok hi hk
  have hl := zit_len hi hk
  have hp : zfr (zen T) i + zzr T i + j < zto (zen T) i := by omega
  have hasc := ztok_asc (i := zfr (zen T) i) a1 (by rw [a2]; exact hk) (zfr (zen T) i + zzr T i + j) (by omega) (by rw [a2]; exact hp)
  have hraw := zasc_raw hT hasc.1 hasc.2
  have hsl := zsl_len hi hk
  refine ⟨hp, by rw [hraw]; exact hasc.2, ?_⟩
  obtain ⟨g1, g2, g3⟩ := zasc2 hasc.2
  rw [hraw]
  by_cases h99 : ztk (zen T) i < 99
  · have hz0 : zzr T i = 0 := by
      unfold zzr
      rw [if_neg (by omega)]
    have e1 : zit (zen T) i = zw (ztk (zen T) i) := by
      unfold zit
      rw [if_pos h99]
    rw [e1] at hj ⊢
    have hup := zen_up (t := T) h99
    have hlw := zen_lw (t := T) h99
    have u0 := zup_at (t := T) (f := zfr (zen T) i) (z := zto (zen T) i) (i := j) a4 (by omega)
    rw [hup, drop_cons (x := 0) hj] at u0
    have u1 := (List.cons.inj u0).1
    rw [hz0, Nat.add_zero] at g1 g3 ⊢
    by_cases h82 : ztk (zen T) i < 82
    · rw [if_pos h82, u1, g1]
    · rw [if_neg h82, if_neg (by omega), u1, g1]
      by_cases hlow : ¬ zat T (zfr (zen T) i + j) < 97 ∧ ¬ 122 < zat T (zfr (zen T) i + j)
      · rw [if_pos hlow] at g1 ⊢
        rcases of_decide_eq_true (List.all_eq_true.mp zmarks0 (ztk (zen T) i) (List.mem_range.mpr h99)) with z | z
        · omega
        · have hm := z ((zw (ztk (zen T) i)).getD j 0) (by
            rw [List.getD_eq_getElem?_getD, List.getElem?_eq_getElem hj]
            exact List.getElem_mem hj)
          rw [u1, g1] at hm
          have := g3 hlow
          rcases hm with y | y
          · exact absurd y this.1
          · exact absurd y this.2
      · rw [if_neg hlow]
  · have h82 : ¬ ztk (zen T) i < 82 := by omega
    rw [if_neg h82]
    unfold zit at hj ⊢
    rw [if_neg h99] at hj ⊢
    by_cases h2 : ztk (zen T) i = 99
    · have hz0 : zzr T i = 0 := by
        unfold zzr
        rw [if_neg (by omega)]
      rw [if_pos h2] at hj ⊢
      rw [if_pos h2, List.getD_eq_getElem?_getD, List.getElem?_map]
      rw [List.length_map] at hj
      have hg := zsl_get (j := j) hi hk (by omega)
      rw [List.getD_eq_getElem?_getD, List.getElem?_eq_getElem hj] at hg
      rw [List.getElem?_eq_getElem hj]
      show zsm (zsl (zen T) i)[j] = _
      have hg : (zsl (zen T) i)[j] = T.getD (zfr (zen T) i + j) 0 := hg
      rw [hz0, Nat.add_zero] at hraw g2 ⊢
      rw [hg, hraw, g2]
    · rw [if_neg h2] at hj ⊢
      rw [if_neg h2]
      by_cases h3 : ztk (zen T) i = 100
      · rw [if_pos h3] at hj ⊢
        have hzz : zzr T i = (zsl (zen T) i).length - (znz (zsl (zen T) i)).length := by
          unfold zzr
          rw [if_pos h3]
        have hnz := znz_len (zsl (zen T) i)
        have e1 : (znz (zsl (zen T) i)).getD j 0 = (zsl (zen T) i).getD (zzr T i + j) 0 := by
          conv => lhs; rw [hnz.2]
          rw [List.getD_eq_getElem?_getD, List.getElem?_drop, ← List.getD_eq_getElem?_getD, ← hzz]
        rw [e1, zsl_get hi hk (by omega), ← hraw, Nat.add_assoc]
      · have hz0 : zzr T i = 0 := by
          unfold zzr
          rw [if_neg h3]
        rw [if_neg h3] at hj ⊢
        rw [zsl_get hi hk (by omega), ← hraw, hz0, Nat.add_zero]
/-- QueryReaderModel.letterOf -/
theorem m_letterOf (hr : mrn h J T) {k j : Nat} {a : zJ} (ha : J[k]? = some a) (hj : j < a.2.1.length) : qe L xs (d + 5) 193 [.ref 14, .int (nI k), .int (nI j)] h (.inl (some (.int (a.2.1.getD j 0))), h) := by
  have hJ : J ≠ [] := fun q => by rw [q] at ha; cases ha
  have hz := fun i (hi : i < (zen T).1.length) hk => m_zeros (L := L) (xs := xs) (d := d + 3) hr hJ (i := i) hi hk
  obtain ⟨cn, tp, dp, kd, v1, v10, v14, v17, v18, v19, v20, v21, ft, rf, bf, c14, ⟨gw, y15, ygw⟩, c17, cT, c21, c22, ct, ci, cJ⟩ := hr
  obtain ⟨f1, fk, fz, r18, r19, r20, rt⟩ := ct hJ
  obtain ⟨u1, u2, u3, u4, u5⟩ := ci k a ha
  have hkl := (List.getElem?_eq_some_iff.mp ha).1
  have r4 : ∀ o, qg L xs (d + 4) qm_193 4 [some (.ref 14), some (.int (nI k)), some (.int (nI j)), none, none, none, none] [.int a.1] h o → qe L xs (d + 5) 193 [.ref 14, .int (nI k), .int (nI j)] h o := by
    intro o hg
    refine qe_of (M := qm_193) rfl rfl ?_
    show qg L xs _ qm_193 0 [some (.ref 14), some (.int (nI k)), some (.int (nI j)), none, none, none, none] [] h _
    refine qg_pls (n := 1) (k' := 1) (lo' := [some (.ref 14), some (.int (nI k)), some (.int (nI j)), none, none, none, none]) (S' := [.ref 14]) (h' := h) rfl ?_
    refine qg_getf (v := .ref 21) rfl c14 rfl rfl rfl ?_
    refine qg_pls (n := 1) (k' := 3) (lo' := [some (.ref 14), some (.int (nI k)), some (.int (nI j)), none, none, none, none]) (S' := [.int (nI k), .ref 21]) (h' := h) rfl ?_
    refine qg_ald rfl (fun _ _ _ => rfl) c21 (by omega) (by decide) ?_
    rw [u1]
    exact hg
  refine r4 _ ?_
  rcases u2 with ⟨i, hi, hk, e1, e2⟩ | ⟨kk, hkk, e1, e2⟩
  · have hlen := zen_len (t := T)
    have hTl := cT.1
    have w1 : f1 i = nI (zfr (zen T) i) := (rt i hi).1
    have w2 : fk i = nI (zcode (ztk (zen T) i)) := (rt i hi).2.1
    have hzc := zcode_cases (show ztk (zen T) i < 104 by omega)
    obtain ⟨a1, a2, a3, a4⟩ := zen_tok hi hk
    rw [e2] at hj ⊢
    obtain ⟨hp, hasc, hget⟩ := zit_get cT.2.2 hi hk hj
    rw [hget]
    rw [e1] at u1 ⊢
    generalize hc : T.getD (zfr (zen T) i + zzr T i + j) 0 = c at hasc ⊢
    have r41 : ∀ o, qg L xs (d + 4) qm_193 41 [some (.ref 14), some (.int (nI k)), some (.int (nI j)), some (.int (nI i)), some (.int c), none, none] [.int 1, .int (nI (zcode (ztk (zen T) i)))] h o → qg L xs (d + 4) qm_193 4 [some (.ref 14), some (.int (nI k)), some (.int (nI j)), none, none, none, none] [.int (nI i)] h o := by
      intro o hg
      refine qg_if true rfl (qc_ge0 (by omega)) rfl ?_
      refine qg_pls (n := 1) (k' := 18) (lo' := [some (.ref 14), some (.int (nI k)), some (.int (nI j)), none, none, none, none]) (S' := [.ref 14]) (h' := h) rfl ?_
      refine qg_getf (v := .ref 21) rfl c14 rfl rfl rfl ?_
      refine qg_pls (n := 1) (k' := 20) (lo' := [some (.ref 14), some (.int (nI k)), some (.int (nI j)), none, none, none, none]) (S' := [.int (nI k), .ref 21]) (h' := h) rfl ?_
      refine qg_ald rfl (fun _ _ _ => rfl) c21 (by omega) (by decide) ?_
      rw [u1]
      refine qg_pls (n := 2) (k' := 23) (lo' := [some (.ref 14), some (.int (nI k)), some (.int (nI j)), some (.int (nI i)), none, none, none]) (S' := [.ref 14]) (h' := h) rfl ?_
      refine qg_getf (v := .ref 17) rfl c14 rfl rfl rfl ?_
      refine qg_pls (n := 1) (k' := 25) (lo' := [some (.ref 14), some (.int (nI k)), some (.int (nI j)), some (.int (nI i)), none, none, none]) (S' := [.ref 14, .ref 17]) (h' := h) rfl ?_
      refine qg_getf (v := .ref 18) rfl c14 rfl rfl rfl ?_
      refine qg_pls (n := 1) (k' := 27) (lo' := [some (.ref 14), some (.int (nI k)), some (.int (nI j)), some (.int (nI i)), none, none, none]) (S' := [.int (nI i), .ref 18, .ref 17]) (h' := h) rfl ?_
      refine qg_ald rfl (fun _ _ _ => rfl) r18 (by omega) (by decide) ?_
      rw [w1]
      refine qg_pls (n := 2) (k' := 30) (lo' := [some (.ref 14), some (.int (nI k)), some (.int (nI j)), some (.int (nI i)), none, none, none]) (S' := [.int (nI i), .ref 14, .int (nI (zfr (zen T) i)), .ref 17]) (h' := h) rfl ?_
      refine qg_call (v := some (.int (nI (zzr T i)))) (h' := h) (as := [.ref 14, .int (nI i)]) rfl rfl rfl rfl rfl rfl rfl (ai_rcv1 rfl rfl c14) (hz i hi hk) ?_
      show qg L xs _ qm_193 31 [some (.ref 14), some (.int (nI k)), some (.int (nI j)), some (.int (nI i)), none, none, none] [.int (nI (zzr T i)), .int (nI (zfr (zen T) i)), .ref 17] h _
      refine qg_pls (n := 3) (k' := 34) (lo' := [some (.ref 14), some (.int (nI k)), some (.int (nI j)), some (.int (nI i)), none, none, none]) (S' := [.int (((nI (zfr (zen T) i)) + (nI (zzr T i))) + (nI j)), .ref 17]) (h' := h) rfl ?_
      rw [show nI (zfr (zen T) i) + nI (zzr T i) + nI j = nI (zfr (zen T) i + zzr T i + j) by rw [nI_add, nI_add]]
      refine qg_ald rfl (fun _ _ _ => rfl) c17 (by omega) (by decide) ?_
      rw [cT.2.1 _ (by omega), hc]
      refine qg_pls (n := 2) (k' := 37) (lo' := [some (.ref 14), some (.int (nI k)), some (.int (nI j)), some (.int (nI i)), some (.int c), none, none]) (S' := [.ref 14]) (h' := h) rfl ?_
      refine qg_getf (v := .ref 19) rfl c14 rfl rfl rfl ?_
      refine qg_pls (n := 1) (k' := 39) (lo' := [some (.ref 14), some (.int (nI k)), some (.int (nI j)), some (.int (nI i)), some (.int c), none, none]) (S' := [.int (nI i), .ref 19]) (h' := h) rfl ?_
      refine qg_ald rfl (fun _ _ _ => rfl) r19 (by omega) (by decide) ?_
      rw [w2]
      refine qg_pls (n := 1) (k' := 41) (lo' := [some (.ref 14), some (.int (nI k)), some (.int (nI j)), some (.int (nI i)), some (.int c), none, none]) (S' := [.int 1, .int (nI (zcode (ztk (zen T) i)))]) (h' := h) rfl ?_
      exact hg
    refine r41 _ ?_
    by_cases h82 : ztk (zen T) i < 82
    · rw [if_pos h82]
      have r57 : ∀ o, qg L xs (d + 4) qm_193 58 [some (.ref 14), some (.int (nI k)), some (.int (nI j)), some (.int (nI i)), some (.int c), some (.int 1), some (.int 0)] [] h o → qg L xs (d + 4) qm_193 41 [some (.ref 14), some (.int (nI k)), some (.int (nI j)), some (.int (nI i)), some (.int c), none, none] [.int 1, .int (nI (zcode (ztk (zen T) i)))] h o := by
        intro o hg
        refine qg_icmp false rfl (qc_neF (b := 1) (hzc.1.mpr h82)) rfl ?_
        refine qg_pls (n := 4) (k' := 47) (lo' := [some (.ref 14), some (.int (nI k)), some (.int (nI j)), some (.int (nI i)), some (.int c), some (.int 1), none]) (S' := [.ref 14]) (h' := h) rfl ?_
        refine qg_getf (v := .ref 19) rfl c14 rfl rfl rfl ?_
        refine qg_pls (n := 1) (k' := 49) (lo' := [some (.ref 14), some (.int (nI k)), some (.int (nI j)), some (.int (nI i)), some (.int c), some (.int 1), none]) (S' := [.int (nI i), .ref 19]) (h' := h) rfl ?_
        refine qg_ald rfl (fun _ _ _ => rfl) r19 (by omega) (by decide) ?_
        rw [w2]
        refine qg_pls (n := 1) (k' := 51) (lo' := [some (.ref 14), some (.int (nI k)), some (.int (nI j)), some (.int (nI i)), some (.int c), some (.int 1), none]) (S' := [.int 2, .int (nI (zcode (ztk (zen T) i)))]) (h' := h) rfl ?_
        refine qg_icmp true rfl (qc_neT (b := 2) (fun q => absurd (hzc.2.2.1.mp q) (by omega)) (by omega) (by decide)) rfl ?_
        refine qg_pls (n := 3) (k' := 57) (lo' := [some (.ref 14), some (.int (nI k)), some (.int (nI j)), some (.int (nI i)), some (.int c), some (.int 1), some (.int 0)]) (S' := [.int 1]) (h' := h) rfl ?_
        refine qg_if false rfl (rfl) rfl ?_
        exact hg
      refine r57 _ ?_
      have r68 : qg L xs (d + 4) qm_193 68 [some (.ref 14), some (.int (nI k)), some (.int (nI j)), some (.int (nI i)), some (.int c), some (.int 1), some (.int 0)] [] h (.inl (some (.int c)), h) := by
        refine qg_pls (n := 1) (k' := 69) (lo' := [some (.ref 14), some (.int (nI k)), some (.int (nI j)), some (.int (nI i)), some (.int c), some (.int 1), some (.int 0)]) (S' := [.int 0]) (h' := h) rfl ?_
        refine qg_if true rfl (rfl) rfl ?_
        refine qg_pls (n := 1) (k' := 74) (lo' := [some (.ref 14), some (.int (nI k)), some (.int (nI j)), some (.int (nI i)), some (.int c), some (.int 1), some (.int 0)]) (S' := [.int c]) (h' := h) rfl ?_
        exact qg_ret5 rfl rfl rfl
      by_cases l1 : c < 97
      · rw [if_neg (fun q => q.1 l1)]
        refine qg_pls (n := 2) (k' := 60) (lo' := [some (.ref 14), some (.int (nI k)), some (.int (nI j)), some (.int (nI i)), some (.int c), some (.int 1), some (.int 0)]) (S' := [.int 97, .int c]) (h' := h) rfl ?_
        refine qg_icmp true rfl (qb_ltT l1) rfl ?_
        exact r68
      · by_cases l2 : 122 < c
        · rw [if_neg (fun q => q.2 l2)]
          refine qg_pls (n := 2) (k' := 60) (lo' := [some (.ref 14), some (.int (nI k)), some (.int (nI j)), some (.int (nI i)), some (.int c), some (.int 1), some (.int 0)]) (S' := [.int 97, .int c]) (h' := h) rfl ?_
          refine qg_icmp false rfl (qb_ltF l1) rfl ?_
          refine qg_pls (n := 2) (k' := 63) (lo' := [some (.ref 14), some (.int (nI k)), some (.int (nI j)), some (.int (nI i)), some (.int c), some (.int 1), some (.int 0)]) (S' := [.int 122, .int c]) (h' := h) rfl ?_
          refine qg_icmp true rfl (qb_gtT l2) rfl ?_
          exact r68
        · rw [if_pos ⟨l1, l2⟩]
          refine qg_pls (n := 2) (k' := 60) (lo' := [some (.ref 14), some (.int (nI k)), some (.int (nI j)), some (.int (nI i)), some (.int c), some (.int 1), some (.int 0)]) (S' := [.int 97, .int c]) (h' := h) rfl ?_
          refine qg_icmp false rfl (qb_ltF l1) rfl ?_
          refine qg_pls (n := 2) (k' := 63) (lo' := [some (.ref 14), some (.int (nI k)), some (.int (nI j)), some (.int (nI i)), some (.int c), some (.int 1), some (.int 0)]) (S' := [.int 122, .int c]) (h' := h) rfl ?_
          refine qg_icmp false rfl (qb_gtF l2) rfl ?_
          refine qg_pls (n := 4) (k' := 74) (lo' := [some (.ref 14), some (.int (nI k)), some (.int (nI j)), some (.int (nI i)), some (.int c), some (.int 1), some (.int 0)]) (S' := [.int (c - 32)]) (h' := h) rfl ?_
          exact qg_ret5 rfl rfl rfl
    · rw [if_neg h82]
      have r51 : ∀ o, qg L xs (d + 4) qm_193 51 [some (.ref 14), some (.int (nI k)), some (.int (nI j)), some (.int (nI i)), some (.int c), some (.int 0), none] [.int 2, .int (nI (zcode (ztk (zen T) i)))] h o → qg L xs (d + 4) qm_193 41 [some (.ref 14), some (.int (nI k)), some (.int (nI j)), some (.int (nI i)), some (.int c), none, none] [.int 1, .int (nI (zcode (ztk (zen T) i)))] h o := by
        intro o hg
        refine qg_icmp true rfl (qc_neT (b := 1) (fun q => h82 (hzc.1.mp q)) (by omega) (by decide)) rfl ?_
        refine qg_pls (n := 3) (k' := 47) (lo' := [some (.ref 14), some (.int (nI k)), some (.int (nI j)), some (.int (nI i)), some (.int c), some (.int 0), none]) (S' := [.ref 14]) (h' := h) rfl ?_
        refine qg_getf (v := .ref 19) rfl c14 rfl rfl rfl ?_
        refine qg_pls (n := 1) (k' := 49) (lo' := [some (.ref 14), some (.int (nI k)), some (.int (nI j)), some (.int (nI i)), some (.int c), some (.int 0), none]) (S' := [.int (nI i), .ref 19]) (h' := h) rfl ?_
        refine qg_ald rfl (fun _ _ _ => rfl) r19 (by omega) (by decide) ?_
        rw [w2]
        refine qg_pls (n := 1) (k' := 51) (lo' := [some (.ref 14), some (.int (nI k)), some (.int (nI j)), some (.int (nI i)), some (.int c), some (.int 0), none]) (S' := [.int 2, .int (nI (zcode (ztk (zen T) i)))]) (h' := h) rfl ?_
        exact hg
      refine r51 _ ?_
      by_cases h99 : ztk (zen T) i = 99
      · rw [if_pos h99]
        refine qg_icmp false rfl (qc_neF (b := 2) (hzc.2.2.1.mpr h99)) rfl ?_
        refine qg_pls (n := 4) (k' := 57) (lo' := [some (.ref 14), some (.int (nI k)), some (.int (nI j)), some (.int (nI i)), some (.int c), some (.int 0), some (.int 1)]) (S' := [.int 0]) (h' := h) rfl ?_
        refine qg_if true rfl (rfl) rfl ?_
        refine qg_pls (n := 1) (k' := 69) (lo' := [some (.ref 14), some (.int (nI k)), some (.int (nI j)), some (.int (nI i)), some (.int c), some (.int 0), some (.int 1)]) (S' := [.int 1]) (h' := h) rfl ?_
        refine qg_if false rfl (rfl) rfl ?_
        refine qg_pls (n := 1) (k' := 71) (lo' := [some (.ref 14), some (.int (nI k)), some (.int (nI j)), some (.int (nI i)), some (.int c), some (.int 0), some (.int 1)]) (S' := [.int c]) (h' := h) rfl ?_
        refine qg_call (v := some (.int (zsmall c))) (h' := h) (as := [.int c]) rfl rfl rfl rfl rfl rfl rfl rfl (qe_up (by omega) (m_small (d := d))) ?_
        show qg L xs _ qm_193 72 [some (.ref 14), some (.int (nI k)), some (.int (nI j)), some (.int (nI i)), some (.int c), some (.int 0), some (.int 1)] [.int (zsmall c)] h _
        refine qg_pls (n := 1) (k' := 74) (lo' := [some (.ref 14), some (.int (nI k)), some (.int (nI j)), some (.int (nI i)), some (.int c), some (.int 0), some (.int 1)]) (S' := [.int (zsmall c)]) (h' := h) rfl ?_
        exact qg_ret5 rfl rfl rfl
      · rw [if_neg h99]
        refine qg_icmp true rfl (qc_neT (b := 2) (fun q => h99 (hzc.2.2.1.mp q)) (by omega) (by decide)) rfl ?_
        refine qg_pls (n := 3) (k' := 57) (lo' := [some (.ref 14), some (.int (nI k)), some (.int (nI j)), some (.int (nI i)), some (.int c), some (.int 0), some (.int 0)]) (S' := [.int 0]) (h' := h) rfl ?_
        refine qg_if true rfl (rfl) rfl ?_
        refine qg_pls (n := 1) (k' := 69) (lo' := [some (.ref 14), some (.int (nI k)), some (.int (nI j)), some (.int (nI i)), some (.int c), some (.int 0), some (.int 0)]) (S' := [.int 0]) (h' := h) rfl ?_
        refine qg_if true rfl (rfl) rfl ?_
        refine qg_pls (n := 1) (k' := 74) (lo' := [some (.ref 14), some (.int (nI k)), some (.int (nI j)), some (.int (nI i)), some (.int c), some (.int 0), some (.int 0)]) (S' := [.int c]) (h' := h) rfl ?_
        exact qg_ret5 rfl rfl rfl
  · obtain ⟨n1, n2⟩ := mneg hkk
    have hen := q_enr (show kk < 104 by omega)
    rw [e2] at hj ⊢
    rw [e1] at u1 ⊢
    have ok : ai_look (qr_Z L xs) h.1 (.retAddr (qr_en.getD kk (0, 0)).1) = some (ai_obj 7 [.retAddr ((qr_en.getD kk (0, 0)).1 + 1000), .int 0]) := qZ_str hen.1 hen.2.1
    refine qg_if false rfl (qb_geF n1) rfl ?_
    refine qg_pls (n := 1) (k' := 6) (lo' := [some (.ref 14), some (.int (nI k)), some (.int (nI j)), none, none, none, none]) (S' := [.ref 14]) (h' := h) rfl ?_
    refine qg_getf (v := .ref 15) rfl c14 rfl rfl rfl ?_
    refine qg_pls (n := 2) (k' := 9) (lo' := [some (.ref 14), some (.int (nI k)), some (.int (nI j)), none, none, none, none]) (S' := [.ref 14, .int (-1), .ref 15]) (h' := h) rfl ?_
    refine qg_getf (v := .ref 21) rfl c14 rfl rfl rfl ?_
    refine qg_pls (n := 1) (k' := 11) (lo' := [some (.ref 14), some (.int (nI k)), some (.int (nI j)), none, none, none, none]) (S' := [.int (nI k), .ref 21, .int (-1), .ref 15]) (h' := h) rfl ?_
    refine qg_ald rfl (fun _ _ _ => rfl) c21 (by omega) (by decide) ?_
    rw [u1]
    refine qg_pls (n := 1) (k' := 13) (lo' := [some (.ref 14), some (.int (nI k)), some (.int (nI j)), none, none, none, none]) (S' := [.int ((-1) - (-1 - nI kk)), .ref 15]) (h' := h) rfl ?_
    rw [n2]
    refine qg_aald rfl y15 (hkk) (by decide) (ygw kk hkk) ?_
    refine qg_pls (n := 1) (k' := 15) (lo' := [some (.ref 14), some (.int (nI k)), some (.int (nI j)), none, none, none, none]) (S' := [.int (nI j), .retAddr (qr_en.getD kk (0, 0)).1]) (h' := h) rfl ?_
    refine qg_call (v := some (.int ((zt (qr_en.getD kk (0, 0)).1).getD j 0))) (h' := h) (as := [.retAddr (qr_en.getD kk (0, 0)).1, .int (nI j)]) rfl rfl rfl rfl rfl rfl rfl (ai_rcv1 rfl rfl ok) ((q_char (d := d) hen.1 hen.2.1 hj)) ?_
    show qg L xs _ qm_193 16 [some (.ref 14), some (.int (nI k)), some (.int (nI j)), none, none, none, none] [.int ((zt (qr_en.getD kk (0, 0)).1).getD j 0)] h _
    exact qg_ret5 rfl rfl rfl
/-- the piece of the plain form that an item stands for -/
def jb2 : Nat → List Int32
  | 0 => []
  | n + 1 => 32 :: 41 :: jb2 n
def jpc (f : Bool) (a : zJ) : List Int32 := (if f = true then [] else [32]) ++ jb 40 a.2.2.1 ++ a.2.1 ++ jb2 a.2.2.2
theorem jb2_len (n : Nat) : (jb2 n).length = 2 * n := by
  induction n with
  | zero => rfl
  | succ n ih => simp only [jb2, List.length_cons, ih]; omega
theorem jb_get (c : Int32) : ∀ (n j : Nat), j < 2 * n → (jb c n).getD j 0 = if j % 2 = 0 then c else 32 := by
  intro n
  induction n with
  | zero => intro j hj; omega
  | succ n ih =>
    intro j hj
    match j with
    | 0 => rfl
    | 1 => rfl
    | j + 2 =>
      show (jb c n).getD j 0 = _
      rw [ih j (by omega)]
      congr 1
      exact propext (by omega)
theorem jb2_get : ∀ (n j : Nat), j < 2 * n → (jb2 n).getD j 0 = if j % 2 = 0 then 32 else 41 := by
  intro n
  induction n with
  | zero => intro j hj; omega
  | succ n ih =>
    intro j hj
    match j with
    | 0 => rfl
    | 1 => rfl
    | j + 2 =>
      show (jb2 n).getD j 0 = _
      rw [ih j (by omega)]
      congr 1
      exact propext (by omega)
theorem jpc_len (f : Bool) (a : zJ) : (jpc f a).length = (if f = true then 0 else 1) + 2 * a.2.2.1 + a.2.1.length + 2 * a.2.2.2 := by
  unfold jpc
  rw [List.length_append, List.length_append, List.length_append, jb_len, jb2_len]
  cases f <;> rfl
theorem getD_l {A B : List Int32} {j : Nat} (hj : j < A.length) : (A ++ B).getD j 0 = A.getD j 0 := by
  rw [List.getD_eq_getElem?_getD, List.getD_eq_getElem?_getD, List.getElem?_append_left hj]
theorem getD_r {A B : List Int32} {j : Nat} (hj : A.length ≤ j) : (A ++ B).getD j 0 = B.getD (j - A.length) 0 := by
  rw [List.getD_eq_getElem?_getD, List.getD_eq_getElem?_getD, List.getElem?_append_right hj]
theorem mit_len (hr : mrn h J T) {k : Nat} {a : zJ} (ha : J[k]? = some a) : a.2.1.length < 65537 ∧ a.2.2.1 < 65536 ∧ a.2.2.2 ≤ 400 := by
  obtain ⟨cn, tp, dp, kd, v1, v10, v14, v17, v18, v19, v20, v21, ft, rf, bf, c14, cw, c17, cT, c21, c22, ct, ci, cJ⟩ := hr
  obtain ⟨u1, u2, u3, u4, u5⟩ := ci k a ha
  refine ⟨?_, u4, u5⟩
  rcases u2 with ⟨i, hi, hk, e1, e2⟩ | ⟨kk, hkk, e1, e2⟩
  · have hl := zit_len hi hk
    have := (zen_tok hi hk).2.2.2
    have := cT.1
    rw [e2]; omega
  · have hen := q_enr (show kk < 104 by omega)
    have := zt_len hen.1 hen.2.1
    rw [e2]
    show (zt (qr_en.getD kk (0, 0)).1).length < _
    omega
/-- QueryReaderModel.widthOf -/
theorem m_widthOf (hr : mrn h J T) {k : Nat} {a : zJ} (ha : J[k]? = some a) : qe L xs (d + 6) 188 [.ref 14, .int (nI k)] h (.inl (some (.int (nI (jpc (decide (k = 0)) a).length))), h) := by
  have hsz := m_sizeOf (L := L) (xs := xs) (d := d) hr ha
  obtain ⟨b1, b2, b3⟩ := mit_len hr ha
  obtain ⟨cn, tp, dp, kd, v1, v10, v14, v17, v18, v19, v20, v21, ft, rf, bf, c14, cw, c17, cT, c21, c22, ct, ci, cJ⟩ := hr
  obtain ⟨u1, u2, u3, u4, u5⟩ := ci k a ha
  have hkl := (List.getElem?_eq_some_iff.mp ha).1
  have hm : (a.2.2.1 + 65536 * a.2.2.2) % 65536 = a.2.2.1 := by omega
  have hd : (a.2.2.1 + 65536 * a.2.2.2) / 65536 = a.2.2.2 := by omega
  have r5 : ∀ x : Nat, qg L xs (d + 5) qm_188 5 [some (.ref 14), some (.int (nI k))] [.int (nI x)] h (.inl (some (.int (nI (x + 2 * a.2.2.1 + a.2.1.length + 2 * a.2.2.2)))), h) := by
    intro x
    refine qg_pls (n := 2) (k' := 7) (lo' := [some (.ref 14), some (.int (nI k))]) (S' := [.ref 14, .int 2, .int (nI x)]) (h' := h) rfl ?_
    refine qg_getf (v := .ref 22) rfl c14 rfl rfl rfl ?_
    refine qg_pls (n := 1) (k' := 9) (lo' := [some (.ref 14), some (.int (nI k))]) (S' := [.int (nI k), .ref 22, .int 2, .int (nI x)]) (h' := h) rfl ?_
    refine qg_ald rfl (fun _ _ _ => rfl) c22 (by omega) (by decide) ?_
    rw [u3]
    refine qg_pls (n := 1) (k' := 11) (lo' := [some (.ref 14), some (.int (nI k))]) (S' := [.int 65536, .int (nI (a.2.2.1 + 65536 * a.2.2.2)), .int 2, .int (nI x)]) (h' := h) rfl ?_
    refine qg_rem (a := (a.2.2.1 + 65536 * a.2.2.2)) (b := 65536) rfl (by decide) (by omega) (by decide) ?_
    rw [hm]
    refine qg_pls (n := 4) (k' := 16) (lo' := [some (.ref 14), some (.int (nI k))]) (S' := [.int (nI k), .ref 14, .int ((nI x) + (2 * (nI a.2.2.1)))]) (h' := h) rfl ?_
    rw [show (2 : Int32) * nI a.2.2.1 = nI (2 * a.2.2.1) from nI_mul 2 _, nI_add]
    refine qg_call (v := some (.int (nI a.2.1.length))) (h' := h) (as := [.ref 14, .int (nI k)]) rfl rfl rfl rfl rfl rfl rfl (ai_rcv1 rfl rfl c14) (hsz) ?_
    show qg L xs _ qm_188 17 [some (.ref 14), some (.int (nI k))] [.int (nI a.2.1.length), .int (nI (x + 2 * a.2.2.1))] h _
    refine qg_pls (n := 3) (k' := 20) (lo' := [some (.ref 14), some (.int (nI k))]) (S' := [.ref 14, .int 2, .int ((nI (x + 2 * a.2.2.1)) + (nI a.2.1.length))]) (h' := h) rfl ?_
    refine qg_getf (v := .ref 22) rfl c14 rfl rfl rfl ?_
    refine qg_pls (n := 1) (k' := 22) (lo' := [some (.ref 14), some (.int (nI k))]) (S' := [.int (nI k), .ref 22, .int 2, .int ((nI (x + 2 * a.2.2.1)) + (nI a.2.1.length))]) (h' := h) rfl ?_
    refine qg_ald rfl (fun _ _ _ => rfl) c22 (by omega) (by decide) ?_
    rw [u3]
    refine qg_pls (n := 1) (k' := 24) (lo' := [some (.ref 14), some (.int (nI k))]) (S' := [.int 65536, .int (nI (a.2.2.1 + 65536 * a.2.2.2)), .int 2, .int ((nI (x + 2 * a.2.2.1)) + (nI a.2.1.length))]) (h' := h) rfl ?_
    refine qg_div (a := (a.2.2.1 + 65536 * a.2.2.2)) (b := 65536) rfl (by decide) (by omega) (by decide) ?_
    rw [hd]
    refine qg_pls (n := 2) (k' := 27) (lo' := [some (.ref 14), some (.int (nI k))]) (S' := [.int (((nI (x + 2 * a.2.2.1)) + (nI a.2.1.length)) + (2 * (nI a.2.2.2)))]) (h' := h) rfl ?_
    rw [show (2 : Int32) * nI a.2.2.2 = nI (2 * a.2.2.2) from nI_mul 2 _, nI_add, nI_add]
    exact qg_ret5 rfl rfl rfl
  rw [jpc_len]
  refine qe_of (M := qm_188) rfl rfl ?_
  show qg L xs _ qm_188 0 [some (.ref 14), some (.int (nI k))] [] h _
  refine qg_pls (n := 1) (k' := 1) (lo' := [some (.ref 14), some (.int (nI k))]) (S' := [.int (nI k)]) (h' := h) rfl ?_
  by_cases h0 : k = 0
  · rw [decide_eq_true h0, if_pos rfl]
    refine qg_if true rfl (qc_leT (b := 0) (by omega) (by decide)) rfl ?_
    refine qg_pls (n := 1) (k' := 5) (lo' := [some (.ref 14), some (.int (nI k))]) (S' := [.int 0]) (h' := h) rfl ?_
    exact r5 0
  · rw [decide_eq_false h0, if_neg (by decide)]
    refine qg_if false rfl (qc_leF (b := 0) (by omega) (by omega)) rfl ?_
    refine qg_pls (n := 2) (k' := 5) (lo' := [some (.ref 14), some (.int (nI k))]) (S' := [.int 1]) (h' := h) rfl ?_
    exact r5 1
/-- QueryReaderModel.charOf -/
theorem m_charOf (hr : mrn h J T) {k i : Nat} {a : zJ} (ha : J[k]? = some a) (hi : i < (jpc (decide (k = 0)) a).length) : qe L xs (d + 6) 192 [.ref 14, .int (nI k), .int (nI i)] h (.inl (some (.int ((jpc (decide (k = 0)) a).getD i 0))), h) := by
  have hsz := m_sizeOf (L := L) (xs := xs) (d := d) hr ha
  have hle := fun j (hj : j < a.2.1.length) => m_letterOf (L := L) (xs := xs) (d := d) hr ha hj
  obtain ⟨b1, b2, b3⟩ := mit_len hr ha
  obtain ⟨cn, tp, dp, kd, v1, v10, v14, v17, v18, v19, v20, v21, ft, rf, bf, c14, cw, c17, cT, c21, c22, ct, ci, cJ⟩ := hr
  obtain ⟨u1, u2, u3, u4, u5⟩ := ci k a ha
  have hkl := (List.getElem?_eq_some_iff.mp ha).1
  have hm : (a.2.2.1 + 65536 * a.2.2.2) % 65536 = a.2.2.1 := by omega
  -- behind the blank
  have r7 : ∀ (j : Nat) (x : Int32), j < 2 * a.2.2.1 + a.2.1.length + 2 * a.2.2.2 → x = (jb 40 a.2.2.1 ++ a.2.1 ++ jb2 a.2.2.2).getD j 0 → qg L xs (d + 5) qm_192 7 [some (.ref 14), some (.int (nI k)), some (.int (nI i)), none, none] [.int (nI j)] h (.inl (some (.int x)), h) := by
    intro j x hj hx
    have r17 : ∀ o, qg L xs (d + 5) qm_192 21 [some (.ref 14), some (.int (nI k)), some (.int (nI i)), some (.int (nI j)), some (.int (nI (2 * a.2.2.1)))] [] h o → qg L xs (d + 5) qm_192 7 [some (.ref 14), some (.int (nI k)), some (.int (nI i)), none, none] [.int (nI j)] h o := by
      intro o hg
      refine qg_pls (n := 3) (k' := 10) (lo' := [some (.ref 14), some (.int (nI k)), some (.int (nI i)), some (.int (nI j)), none]) (S' := [.ref 14, .int 2]) (h' := h) rfl ?_
      refine qg_getf (v := .ref 22) rfl c14 rfl rfl rfl ?_
      refine qg_pls (n := 1) (k' := 12) (lo' := [some (.ref 14), some (.int (nI k)), some (.int (nI i)), some (.int (nI j)), none]) (S' := [.int (nI k), .ref 22, .int 2]) (h' := h) rfl ?_
      refine qg_ald rfl (fun _ _ _ => rfl) c22 (by omega) (by decide) ?_
      rw [u3]
      refine qg_pls (n := 1) (k' := 14) (lo' := [some (.ref 14), some (.int (nI k)), some (.int (nI i)), some (.int (nI j)), none]) (S' := [.int 65536, .int (nI (a.2.2.1 + 65536 * a.2.2.2)), .int 2]) (h' := h) rfl ?_
      refine qg_rem (a := (a.2.2.1 + 65536 * a.2.2.2)) (b := 65536) rfl (by decide) (by omega) (by decide) ?_
      rw [hm]
      refine qg_pls (n := 3) (k' := 18) (lo' := [some (.ref 14), some (.int (nI k)), some (.int (nI i)), some (.int (nI j)), some (.int (2 * (nI a.2.2.1)))]) (S' := [.int (nI j)]) (h' := h) rfl ?_
      rw [show (2 : Int32) * nI a.2.2.1 = nI (2 * a.2.2.1) from nI_mul 2 _]
      refine qg_if true rfl (qc_ge0 (by omega)) rfl ?_
      exact hg
    refine r17 _ ?_
    by_cases h1 : j < 2 * a.2.2.1
    · rw [getD_l (by rw [List.length_append, jb_len]; omega), getD_l (by rw [jb_len]; omega), jb_get _ _ _ h1] at hx
      have r27 : ∀ o, qg L xs (d + 5) qm_192 27 [some (.ref 14), some (.int (nI k)), some (.int (nI i)), some (.int (nI j)), some (.int (nI (2 * a.2.2.1)))] [.int (nI (j % 2))] h o → qg L xs (d + 5) qm_192 21 [some (.ref 14), some (.int (nI k)), some (.int (nI i)), some (.int (nI j)), some (.int (nI (2 * a.2.2.1)))] [] h o := by
        intro o hg
        refine qg_pls (n := 2) (k' := 23) (lo' := [some (.ref 14), some (.int (nI k)), some (.int (nI i)), some (.int (nI j)), some (.int (nI (2 * a.2.2.1)))]) (S' := [.int (nI (2 * a.2.2.1)), .int (nI j)]) (h' := h) rfl ?_
        refine qg_icmp false rfl (qc_geF h1 (by omega)) rfl ?_
        refine qg_pls (n := 2) (k' := 26) (lo' := [some (.ref 14), some (.int (nI k)), some (.int (nI i)), some (.int (nI j)), some (.int (nI (2 * a.2.2.1)))]) (S' := [.int 2, .int (nI j)]) (h' := h) rfl ?_
        refine qg_rem (a := j) (b := 2) rfl (by decide) (by omega) (by decide) ?_
        exact hg
      refine r27 _ ?_
      by_cases h2 : j % 2 = 0
      · rw [if_pos h2] at hx
        rw [hx]
        refine qg_if false rfl (qc_neF (b := 0) h2) rfl ?_
        refine qg_pls (n := 2) (k' := 31) (lo' := [some (.ref 14), some (.int (nI k)), some (.int (nI i)), some (.int (nI j)), some (.int (nI (2 * a.2.2.1)))]) (S' := [.int 40]) (h' := h) rfl ?_
        exact qg_ret5 rfl rfl rfl
      · rw [if_neg h2] at hx
        rw [hx]
        refine qg_if true rfl (qc_neT (b := 0) h2 (by omega) (by decide)) rfl ?_
        refine qg_pls (n := 1) (k' := 31) (lo' := [some (.ref 14), some (.int (nI k)), some (.int (nI i)), some (.int (nI j)), some (.int (nI (2 * a.2.2.1)))]) (S' := [.int 32]) (h' := h) rfl ?_
        exact qg_ret5 rfl rfl rfl
    · have r40 : ∀ o, qg L xs (d + 5) qm_192 40 [some (.ref 14), some (.int (nI k)), some (.int (nI i)), some (.int (nI (j - 2 * a.2.2.1))), some (.int (nI (2 * a.2.2.1)))] [.int (nI a.2.1.length), .int (nI (j - 2 * a.2.2.1))] h o → qg L xs (d + 5) qm_192 21 [some (.ref 14), some (.int (nI k)), some (.int (nI i)), some (.int (nI j)), some (.int (nI (2 * a.2.2.1)))] [] h o := by
        intro o hg
        refine qg_pls (n := 2) (k' := 23) (lo' := [some (.ref 14), some (.int (nI k)), some (.int (nI i)), some (.int (nI j)), some (.int (nI (2 * a.2.2.1)))]) (S' := [.int (nI (2 * a.2.2.1)), .int (nI j)]) (h' := h) rfl ?_
        refine qg_icmp true rfl (qc_geT (by omega) (by omega)) rfl ?_
        refine qg_pls (n := 4) (k' := 36) (lo' := [some (.ref 14), some (.int (nI k)), some (.int (nI i)), some (.int ((nI j) - (nI (2 * a.2.2.1)))), some (.int (nI (2 * a.2.2.1)))]) (S' := []) (h' := h) rfl ?_
        rw [show nI j - nI (2 * a.2.2.1) = nI (j - 2 * a.2.2.1) from nI_sub (by omega)]
        refine qg_pls (n := 3) (k' := 39) (lo' := [some (.ref 14), some (.int (nI k)), some (.int (nI i)), some (.int (nI (j - 2 * a.2.2.1))), some (.int (nI (2 * a.2.2.1)))]) (S' := [.int (nI k), .ref 14, .int (nI (j - 2 * a.2.2.1))]) (h' := h) rfl ?_
        refine qg_call (v := some (.int (nI a.2.1.length))) (h' := h) (as := [.ref 14, .int (nI k)]) rfl rfl rfl rfl rfl rfl rfl (ai_rcv1 rfl rfl c14) (hsz) ?_
        show qg L xs _ qm_192 40 [some (.ref 14), some (.int (nI k)), some (.int (nI i)), some (.int (nI (j - 2 * a.2.2.1))), some (.int (nI (2 * a.2.2.1)))] [.int (nI a.2.1.length), .int (nI (j - 2 * a.2.2.1))] h _
        exact hg
      refine r40 _ ?_
      by_cases h2 : j - 2 * a.2.2.1 < a.2.1.length
      · rw [getD_l (by rw [List.length_append, jb_len]; omega), getD_r (by rw [jb_len]; omega), jb_len] at hx
        rw [hx]
        refine qg_icmp false rfl (qc_geF h2 (by omega)) rfl ?_
        refine qg_pls (n := 3) (k' := 44) (lo' := [some (.ref 14), some (.int (nI k)), some (.int (nI i)), some (.int (nI (j - 2 * a.2.2.1))), some (.int (nI (2 * a.2.2.1)))]) (S' := [.int (nI (j - 2 * a.2.2.1)), .int (nI k), .ref 14]) (h' := h) rfl ?_
        refine qg_call (v := some (.int (a.2.1.getD (j - 2 * a.2.2.1) 0))) (h' := h) (as := [.ref 14, .int (nI k), .int (nI (j - 2 * a.2.2.1))]) rfl rfl rfl rfl rfl rfl rfl (ai_rcv1 rfl rfl c14) (hle _ h2) ?_
        show qg L xs _ qm_192 45 [some (.ref 14), some (.int (nI k)), some (.int (nI i)), some (.int (nI (j - 2 * a.2.2.1))), some (.int (nI (2 * a.2.2.1)))] [.int (a.2.1.getD (j - 2 * a.2.2.1) 0)] h _
        exact qg_ret5 rfl rfl rfl
      · rw [getD_r (by rw [List.length_append, jb_len]; omega), List.length_append, jb_len, jb2_get _ _ (by omega)] at hx
        have r53 : ∀ o, qg L xs (d + 5) qm_192 53 [some (.ref 14), some (.int (nI k)), some (.int (nI i)), some (.int (nI (j - 2 * a.2.2.1))), some (.int (nI (2 * a.2.2.1)))] [.int (nI ((j - 2 * a.2.2.1 - a.2.1.length) % 2))] h o → qg L xs (d + 5) qm_192 40 [some (.ref 14), some (.int (nI k)), some (.int (nI i)), some (.int (nI (j - 2 * a.2.2.1))), some (.int (nI (2 * a.2.2.1)))] [.int (nI a.2.1.length), .int (nI (j - 2 * a.2.2.1))] h o := by
          intro o hg
          refine qg_icmp true rfl (qc_geT (by omega) (by omega)) rfl ?_
          refine qg_pls (n := 3) (k' := 49) (lo' := [some (.ref 14), some (.int (nI k)), some (.int (nI i)), some (.int (nI (j - 2 * a.2.2.1))), some (.int (nI (2 * a.2.2.1)))]) (S' := [.int (nI k), .ref 14, .int (nI (j - 2 * a.2.2.1))]) (h' := h) rfl ?_
          refine qg_call (v := some (.int (nI a.2.1.length))) (h' := h) (as := [.ref 14, .int (nI k)]) rfl rfl rfl rfl rfl rfl rfl (ai_rcv1 rfl rfl c14) (hsz) ?_
          show qg L xs _ qm_192 50 [some (.ref 14), some (.int (nI k)), some (.int (nI i)), some (.int (nI (j - 2 * a.2.2.1))), some (.int (nI (2 * a.2.2.1)))] [.int (nI a.2.1.length), .int (nI (j - 2 * a.2.2.1))] h _
          refine qg_pls (n := 2) (k' := 52) (lo' := [some (.ref 14), some (.int (nI k)), some (.int (nI i)), some (.int (nI (j - 2 * a.2.2.1))), some (.int (nI (2 * a.2.2.1)))]) (S' := [.int 2, .int ((nI (j - 2 * a.2.2.1)) - (nI a.2.1.length))]) (h' := h) rfl ?_
          rw [nI_sub (show a.2.1.length ≤ j - 2 * a.2.2.1 by omega)]
          refine qg_rem (a := (j - 2 * a.2.2.1 - a.2.1.length)) (b := 2) rfl (by decide) (by omega) (by decide) ?_
          exact hg
        refine r53 _ ?_
        rw [show j - (2 * a.2.2.1 + a.2.1.length) = j - 2 * a.2.2.1 - a.2.1.length by omega] at hx
        by_cases h3 : (j - 2 * a.2.2.1 - a.2.1.length) % 2 = 0
        · rw [if_pos h3] at hx
          rw [hx]
          refine qg_if false rfl (qc_neF (b := 0) h3) rfl ?_
          refine qg_pls (n := 2) (k' := 57) (lo' := [some (.ref 14), some (.int (nI k)), some (.int (nI i)), some (.int (nI (j - 2 * a.2.2.1))), some (.int (nI (2 * a.2.2.1)))]) (S' := [.int 32]) (h' := h) rfl ?_
          exact qg_ret5 rfl rfl rfl
        · rw [if_neg h3] at hx
          rw [hx]
          refine qg_if true rfl (qc_neT (b := 0) h3 (by omega) (by decide)) rfl ?_
          refine qg_pls (n := 1) (k' := 57) (lo' := [some (.ref 14), some (.int (nI k)), some (.int (nI i)), some (.int (nI (j - 2 * a.2.2.1))), some (.int (nI (2 * a.2.2.1)))]) (S' := [.int 41]) (h' := h) rfl ?_
          exact qg_ret5 rfl rfl rfl
  rw [jpc_len] at hi
  refine qe_of (M := qm_192) rfl rfl ?_
  show qg L xs _ qm_192 0 [some (.ref 14), some (.int (nI k)), some (.int (nI i)), none, none] [] h _
  refine qg_pls (n := 1) (k' := 1) (lo' := [some (.ref 14), some (.int (nI k)), some (.int (nI i)), none, none]) (S' := [.int (nI k)]) (h' := h) rfl ?_
  by_cases h0 : k = 0
  · rw [decide_eq_true h0, if_pos rfl] at hi
    refine qg_if true rfl (qc_leT (b := 0) (by omega) (by decide)) rfl ?_
    refine qg_pls (n := 1) (k' := 7) (lo' := [some (.ref 14), some (.int (nI k)), some (.int (nI i)), none, none]) (S' := [.int (nI i)]) (h' := h) rfl ?_
    refine r7 i _ (by omega) ?_
    rw [decide_eq_true h0]
    rfl
  · rw [decide_eq_false h0, if_neg (by decide)] at hi
    refine qg_if false rfl (qc_leF (b := 0) (by omega) (by omega)) rfl ?_
    refine qg_pls (n := 4) (k' := 7) (lo' := [some (.ref 14), some (.int (nI k)), some (.int (nI i)), none, none]) (S' := [.int ((nI i) - 1)]) (h' := h) rfl ?_
    rcases Nat.eq_zero_or_pos i with z | z
    · subst z
      have e1 : (jpc (decide (k = 0)) a).getD 0 0 = 32 := by
        rw [decide_eq_false h0]
        rfl
      rw [e1]
      refine qg_pls (n := 3) (k' := 10) (lo' := [some (.ref 14), some (.int (nI k)), some (.int (nI 0)), some (.int (nI 0 - 1)), none]) (S' := [.ref 14, .int 2]) (h' := h) rfl ?_
      refine qg_getf (v := .ref 22) rfl c14 rfl rfl rfl ?_
      refine qg_pls (n := 1) (k' := 12) (lo' := [some (.ref 14), some (.int (nI k)), some (.int (nI 0)), some (.int (nI 0 - 1)), none]) (S' := [.int (nI k), .ref 22, .int 2]) (h' := h) rfl ?_
      refine qg_ald rfl (fun _ _ _ => rfl) c22 (by omega) (by decide) ?_
      rw [u3]
      refine qg_pls (n := 1) (k' := 14) (lo' := [some (.ref 14), some (.int (nI k)), some (.int (nI 0)), some (.int (nI 0 - 1)), none]) (S' := [.int 65536, .int (nI (a.2.2.1 + 65536 * a.2.2.2)), .int 2]) (h' := h) rfl ?_
      refine qg_rem (a := (a.2.2.1 + 65536 * a.2.2.2)) (b := 65536) rfl (by decide) (by omega) (by decide) ?_
      refine qg_pls (n := 3) (k' := 18) (lo' := [some (.ref 14), some (.int (nI k)), some (.int (nI 0)), some (.int (nI 0 - 1)), some (.int (2 * (nI ((a.2.2.1 + 65536 * a.2.2.2) % 65536))))]) (S' := [.int (nI 0 - 1)]) (h' := h) rfl ?_
      refine qg_if false rfl (rfl) rfl ?_
      refine qg_pls (n := 1) (k' := 20) (lo' := [some (.ref 14), some (.int (nI k)), some (.int (nI 0)), some (.int (nI 0 - 1)), some (.int (2 * (nI ((a.2.2.1 + 65536 * a.2.2.2) % 65536))))]) (S' := [.int 32]) (h' := h) rfl ?_
      exact qg_ret5 rfl rfl rfl
    · rw [show nI i - 1 = nI (i - 1) from nI_sub (b := 1) (by omega)]
      refine r7 (i - 1) _ (by omega) ?_
      rw [decide_eq_false h0]
      unfold jpc
      rw [if_neg (by decide)]
      have : i = (i - 1) + 1 := by omega
      rw [this]
      simp only [Nat.add_sub_cancel, List.cons_append, List.nil_append, List.append_assoc]
      rfl
end MCH
