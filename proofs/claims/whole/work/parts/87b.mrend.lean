/-! THE MODEL SHOWS ITS PLAIN FORM. (Printed by wip/whole/pp.py from wip/whole/src.) -/
section MRN
variable {L : Nat} {xs : Nat → Int32} {d : Nat} {h : ai_H} {T : List Int32} {J : List zJ}
/-- what the plain form is shown from -/
def mrn (h : ai_H) (J : List zJ) (T : List Int32) : Prop := ∃ (cn tp dp kd : Nat) (v1 v10 v14 v17 v18 v19 v20 v21 : Value) (ft rf bf : Nat → Int32), h.1[14]? = some (mob v1 tp T.length cn v10 J.length v14 dp kd v17 v18 v19 v20 v21) ∧ mwd h ∧ h.1[17]? = some (ai_num .byte 65536 ft) ∧ mby ft T ∧ h.1[21]? = some (ai_num .int 131072 rf) ∧ h.1[22]? = some (ai_num .int 131072 bf) ∧ (J ≠ [] → mtr h (zen T).1) ∧ mit T J rf bf ∧ J.length ≤ 131072
/-- zeros that aren't shown -/
def zzr (T : List Int32) (i : Nat) : Nat := if ztk (zen T) i = 100 then (zsl (zen T) i).length - (znz (zsl (zen T) i)).length else 0
/-- QueryReaderModel.zeros -/
theorem m_zeros (hr : mrn h J T) (hJ : J ≠ []) {i : Nat} (hi : i < (zen T).1.length) (hk : ztk (zen T) i < 102) : qe L xs (d + 1) 190 [.ref 14, .int (nI i)] h (.inl (some (.int (nI (zzr T i)))), h) := by
  obtain ⟨cn, tp, dp, kd, v1, v10, v14, v17, v18, v19, v20, v21, ft, rf, bf, c14, cw, c17, cT, c21, c22, ct, ci, cJ⟩ := hr
  obtain ⟨f1, fk, fz, r18, r19, r20, rt⟩ := ct hJ
  obtain ⟨a1, a2, a3, a4⟩ := zen_tok hi hk
  have hlen := zen_len (t := T)
  have hTl := cT.1
  have w1 : f1 i = nI (zfr (zen T) i) := (rt i hi).1
  have w2 : fk i = nI (zcode (ztk (zen T) i)) := (rt i hi).2.1
  have w3 : fz i = nI (zto (zen T) i - zfr (zen T) i) := (rt i hi).2.2 hk
  have hzc := zcode_cases (show ztk (zen T) i < 104 by omega)
  have hsl := zsl_len hi hk
  have r7 : ∀ n o, qg L xs d qm_190 7 [some (.ref 14), some (.int (nI i)), some (.int (nI n))] [.int 3, .int (nI (zcode (ztk (zen T) i)))] h o → qg L xs d qm_190 2 [some (.ref 14), some (.int (nI i)), some (.int (nI n))] [] h o := by
    intro n o hg
    refine qg_pls (n := 1) (k' := 3) (lo' := [some (.ref 14), some (.int (nI i)), some (.int (nI n))]) (S' := [.ref 14]) (h' := h) rfl ?_
    refine qg_getf (v := .ref 19) rfl c14 rfl rfl rfl ?_
    refine qg_pls (n := 1) (k' := 5) (lo' := [some (.ref 14), some (.int (nI i)), some (.int (nI n))]) (S' := [.int (nI i), .ref 19]) (h' := h) rfl ?_
    refine qg_ald rfl (fun _ _ _ => rfl) r19 (by omega) (by decide) ?_
    rw [w2]
    refine qg_pls (n := 1) (k' := 7) (lo' := [some (.ref 14), some (.int (nI i)), some (.int (nI n))]) (S' := [.int 3, .int (nI (zcode (ztk (zen T) i)))]) (h' := h) rfl ?_
    exact hg
  by_cases t : ztk (zen T) i = 100
  · have loop : ∀ (m n : Nat), (zsl (zen T) i).length - n = m → n + 1 ≤ (zsl (zen T) i).length → znz (zsl (zen T) i) = znz ((zsl (zen T) i).drop n) → qg L xs d qm_190 2 [some (.ref 14), some (.int (nI i)), some (.int (nI n))] [] h (.inl (some (.int (nI (zzr T i)))), h) := by
      intro m
      induction m with
      | zero => intro n h1 h2; omega
      | succ m ih =>
        intro n h1 h2 h3
        have hd : (zsl (zen T) i).drop n = (zsl (zen T) i).getD n 0 :: (zsl (zen T) i).drop (n + 1) := drop_cons (by omega)
        have hg1 := zsl_get (j := n) hi hk (by omega)
        -- it ends here
        have fin : ¬ ((zsl (zen T) i).getD n 0 = 48 ∧ (zsl (zen T) i).drop (n + 1) ≠ []) → zzr T i = n := by
          intro hn
          unfold zzr
          rw [if_pos t, h3, hd, znz_step, if_neg hn, ← hd, List.length_drop]
          omega
        have r15 : ∀ o, qg L xs d qm_190 15 [some (.ref 14), some (.int (nI i)), some (.int (nI n))] [.int (nI (zto (zen T) i - zfr (zen T) i - 1)), .int (nI n)] h o → qg L xs d qm_190 2 [some (.ref 14), some (.int (nI i)), some (.int (nI n))] [] h o := by
          intro o hg
          refine r7 n o ?_
          refine qg_icmp false rfl (qc_neF (b := 3) (hzc.2.2.2.1.mpr t)) rfl ?_
          refine qg_pls (n := 2) (k' := 10) (lo' := [some (.ref 14), some (.int (nI i)), some (.int (nI n))]) (S' := [.ref 14, .int (nI n)]) (h' := h) rfl ?_
          refine qg_getf (v := .ref 20) rfl c14 rfl rfl rfl ?_
          refine qg_pls (n := 1) (k' := 12) (lo' := [some (.ref 14), some (.int (nI i)), some (.int (nI n))]) (S' := [.int (nI i), .ref 20, .int (nI n)]) (h' := h) rfl ?_
          refine qg_ald rfl (fun _ _ _ => rfl) r20 (by omega) (by decide) ?_
          rw [w3]
          refine qg_pls (n := 2) (k' := 15) (lo' := [some (.ref 14), some (.int (nI i)), some (.int (nI n))]) (S' := [.int ((nI (zto (zen T) i - zfr (zen T) i)) - 1), .int (nI n)]) (h' := h) rfl ?_
          rw [show nI (zto (zen T) i - zfr (zen T) i) - 1 = nI (zto (zen T) i - zfr (zen T) i - 1) from nI_sub (b := 1) (by omega)]
          exact hg
        refine r15 _ ?_
        by_cases hlt : n < zto (zen T) i - zfr (zen T) i - 1
        · have hne : (zsl (zen T) i).drop (n + 1) ≠ [] := by
            intro q
            have := List.drop_eq_nil_iff.mp q
            omega
          have r26 : ∀ o, qg L xs d qm_190 26 [some (.ref 14), some (.int (nI i)), some (.int (nI n))] [.int 48, .int ((zsl (zen T) i).getD n 0)] h o → qg L xs d qm_190 15 [some (.ref 14), some (.int (nI i)), some (.int (nI n))] [.int (nI (zto (zen T) i - zfr (zen T) i - 1)), .int (nI n)] h o := by
            intro o hg
            refine qg_icmp false rfl (qc_geF hlt (by omega)) rfl ?_
            refine qg_pls (n := 1) (k' := 17) (lo' := [some (.ref 14), some (.int (nI i)), some (.int (nI n))]) (S' := [.ref 14]) (h' := h) rfl ?_
            refine qg_getf (v := .ref 17) rfl c14 rfl rfl rfl ?_
            refine qg_pls (n := 1) (k' := 19) (lo' := [some (.ref 14), some (.int (nI i)), some (.int (nI n))]) (S' := [.ref 14, .ref 17]) (h' := h) rfl ?_
            refine qg_getf (v := .ref 18) rfl c14 rfl rfl rfl ?_
            refine qg_pls (n := 1) (k' := 21) (lo' := [some (.ref 14), some (.int (nI i)), some (.int (nI n))]) (S' := [.int (nI i), .ref 18, .ref 17]) (h' := h) rfl ?_
            refine qg_ald rfl (fun _ _ _ => rfl) r18 (by omega) (by decide) ?_
            rw [w1]
            refine qg_pls (n := 2) (k' := 24) (lo' := [some (.ref 14), some (.int (nI i)), some (.int (nI n))]) (S' := [.int ((nI (zfr (zen T) i)) + (nI n)), .ref 17]) (h' := h) rfl ?_
            rw [show nI (zfr (zen T) i) + nI n = nI (zfr (zen T) i + n) from nI_add _ n]
            refine qg_ald rfl (fun _ _ _ => rfl) c17 (by omega) (by decide) ?_
            rw [cT.2.1 _ (by omega), ← hg1]
            refine qg_pls (n := 1) (k' := 26) (lo' := [some (.ref 14), some (.int (nI i)), some (.int (nI n))]) (S' := [.int 48, .int ((zsl (zen T) i).getD n 0)]) (h' := h) rfl ?_
            exact hg
          refine r26 _ ?_
          by_cases h48 : (zsl (zen T) i).getD n 0 = 48
          · skip
            refine qg_icmp false rfl (qb_neF h48) rfl ?_
            refine qg_pls (n := 2) (k' := 2) (lo' := [some (.ref 14), some (.int (nI i)), some (.int ((nI n) + 1))]) (S' := []) (h' := h) rfl ?_
            rw [nI_1]
            refine ih (n + 1) (by omega) (by omega) ?_
            rw [h3, hd, znz_step, if_pos ⟨h48, hne⟩]
          · rw [fin (fun q => h48 q.1)]
            refine qg_icmp true rfl (qb_neT h48) rfl ?_
            refine qg_pls (n := 1) (k' := 30) (lo' := [some (.ref 14), some (.int (nI i)), some (.int (nI n))]) (S' := [.int (nI n)]) (h' := h) rfl ?_
            exact qg_ret5 rfl rfl rfl
        · have hne : ¬ (zsl (zen T) i).drop (n + 1) ≠ [] := by
            intro q
            exact q (List.drop_eq_nil_of_le (by omega))
          rw [fin (fun q => hne q.2)]
          refine qg_icmp true rfl (qc_geT (by omega) (by omega)) rfl ?_
          refine qg_pls (n := 1) (k' := 30) (lo' := [some (.ref 14), some (.int (nI i)), some (.int (nI n))]) (S' := [.int (nI n)]) (h' := h) rfl ?_
          exact qg_ret5 rfl rfl rfl
    refine qe_of (M := qm_190) rfl rfl ?_
    show qg L xs _ qm_190 0 [some (.ref 14), some (.int (nI i)), none] [] h _
    refine qg_pls (n := 2) (k' := 2) (lo' := [some (.ref 14), some (.int (nI i)), some (.int 0)]) (S' := []) (h' := h) rfl ?_
    exact loop _ 0 rfl (by omega) rfl
  · have e1 : zzr T i = 0 := by
      unfold zzr
      rw [if_neg t]
    rw [e1]
    refine qe_of (M := qm_190) rfl rfl ?_
    show qg L xs _ qm_190 0 [some (.ref 14), some (.int (nI i)), none] [] h _
    refine qg_pls (n := 2) (k' := 2) (lo' := [some (.ref 14), some (.int (nI i)), some (.int 0)]) (S' := []) (h' := h) rfl ?_
    refine r7 0 _ ?_
    refine qg_icmp true rfl (qc_neT (b := 3) (fun q => t (hzc.2.2.2.1.mp q)) (by omega) (by decide)) rfl ?_
    refine qg_pls (n := 1) (k' := 30) (lo' := [some (.ref 14), some (.int (nI i)), some (.int (nI 0))]) (S' := [.int (nI 0)]) (h' := h) rfl ?_
    exact qg_ret5 rfl rfl rfl
theorem zit_len {i : Nat} (hi : i < (zen T).1.length) (hk : ztk (zen T) i < 102) : (zit (zen T) i).length = zto (zen T) i - zfr (zen T) i - zzr T i ∧ zzr T i ≤ zto (zen T) i - zfr (zen T) i := by
  have hsl := zsl_len hi hk
  unfold zit zzr
  by_cases h1 : ztk (zen T) i < 99
  · rw [if_pos h1, if_neg (by omega), ← zen_lw h1]
    exact ⟨rfl, Nat.zero_le _⟩
  · rw [if_neg h1]
    by_cases h2 : ztk (zen T) i = 99
    · rw [if_pos h2, if_neg (by omega), List.length_map, hsl]
      exact ⟨rfl, Nat.zero_le _⟩
    · rw [if_neg h2]
      have := (znz_len (zsl (zen T) i)).1
      by_cases h3 : ztk (zen T) i = 100
      · rw [if_pos h3, if_pos h3]
        omega
      · rw [if_neg h3, if_neg h3, hsl]
        exact ⟨rfl, Nat.zero_le _⟩
theorem mneg0 : (List.range 82).all (fun k => decide (-1 - nI k < 0 ∧ -1 - (-1 - nI k) = nI k)) = true := by decide +kernel
theorem mneg {k : Nat} (hk : k < 82) : -1 - nI k < 0 ∧ -1 - (-1 - nI k) = nI k := of_decide_eq_true (List.all_eq_true.mp mneg0 k (List.mem_range.mpr hk))
/-- QueryReaderModel.sizeOf -/
theorem m_sizeOf (hr : mrn h J T) {k : Nat} {a : zJ} (ha : J[k]? = some a) : qe L xs (d + 5) 189 [.ref 14, .int (nI k)] h (.inl (some (.int (nI a.2.1.length))), h) := by
  have hJ : J ≠ [] := fun q => by rw [q] at ha; cases ha
  have hz := fun i (hi : i < (zen T).1.length) hk => m_zeros (L := L) (xs := xs) (d := d + 3) hr hJ (i := i) hi hk
  obtain ⟨cn, tp, dp, kd, v1, v10, v14, v17, v18, v19, v20, v21, ft, rf, bf, c14, ⟨gw, y15, ygw⟩, c17, cT, c21, c22, ct, ci, cJ⟩ := hr
  obtain ⟨f1, fk, fz, r18, r19, r20, rt⟩ := ct hJ
  obtain ⟨u1, u2, u3, u4, u5⟩ := ci k a ha
  have hkl := (List.getElem?_eq_some_iff.mp ha).1
  have r4 : ∀ o, qg L xs (d + 4) qm_189 4 [some (.ref 14), some (.int (nI k))] [.int a.1] h o → qe L xs (d + 5) 189 [.ref 14, .int (nI k)] h o := by
    intro o hg
    refine qe_of (M := qm_189) rfl rfl ?_
    show qg L xs _ qm_189 0 [some (.ref 14), some (.int (nI k))] [] h _
    refine qg_pls (n := 1) (k' := 1) (lo' := [some (.ref 14), some (.int (nI k))]) (S' := [.ref 14]) (h' := h) rfl ?_
    refine qg_getf (v := .ref 21) rfl c14 rfl rfl rfl ?_
    refine qg_pls (n := 1) (k' := 3) (lo' := [some (.ref 14), some (.int (nI k))]) (S' := [.int (nI k), .ref 21]) (h' := h) rfl ?_
    refine qg_ald rfl (fun _ _ _ => rfl) c21 (by omega) (by decide) ?_
    rw [u1]
    exact hg
  refine r4 _ ?_
  rcases u2 with ⟨i, hi, hk, e1, e2⟩ | ⟨kk, hkk, e1, e2⟩
  · have hlen := zen_len (t := T)
    have hTl := cT.1
    have w3 : fz i = nI (zto (zen T) i - zfr (zen T) i) := (rt i hi).2.2 hk
    have hl := zit_len hi hk
    rw [e2, hl.1]
    rw [e1] at u1 ⊢
    refine qg_if true rfl (qc_ge0 (by omega)) rfl ?_
    refine qg_pls (n := 1) (k' := 17) (lo' := [some (.ref 14), some (.int (nI k))]) (S' := [.ref 14]) (h' := h) rfl ?_
    refine qg_getf (v := .ref 20) rfl c14 rfl rfl rfl ?_
    refine qg_pls (n := 1) (k' := 19) (lo' := [some (.ref 14), some (.int (nI k))]) (S' := [.ref 14, .ref 20]) (h' := h) rfl ?_
    refine qg_getf (v := .ref 21) rfl c14 rfl rfl rfl ?_
    refine qg_pls (n := 1) (k' := 21) (lo' := [some (.ref 14), some (.int (nI k))]) (S' := [.int (nI k), .ref 21, .ref 20]) (h' := h) rfl ?_
    refine qg_ald rfl (fun _ _ _ => rfl) c21 (by omega) (by decide) ?_
    rw [u1]
    refine qg_ald rfl (fun _ _ _ => rfl) r20 (by omega) (by decide) ?_
    rw [w3]
    refine qg_pls (n := 2) (k' := 25) (lo' := [some (.ref 14), some (.int (nI k))]) (S' := [.ref 14, .ref 14, .int (nI (zto (zen T) i - zfr (zen T) i))]) (h' := h) rfl ?_
    refine qg_getf (v := .ref 21) rfl c14 rfl rfl rfl ?_
    refine qg_pls (n := 1) (k' := 27) (lo' := [some (.ref 14), some (.int (nI k))]) (S' := [.int (nI k), .ref 21, .ref 14, .int (nI (zto (zen T) i - zfr (zen T) i))]) (h' := h) rfl ?_
    refine qg_ald rfl (fun _ _ _ => rfl) c21 (by omega) (by decide) ?_
    rw [u1]
    refine qg_call (v := some (.int (nI (zzr T i)))) (h' := h) (as := [.ref 14, .int (nI i)]) rfl rfl rfl rfl rfl rfl rfl (ai_rcv1 rfl rfl c14) (hz i hi hk) ?_
    show qg L xs _ qm_189 29 [some (.ref 14), some (.int (nI k))] [.int (nI (zzr T i)), .int (nI (zto (zen T) i - zfr (zen T) i))] h _
    refine qg_pls (n := 1) (k' := 30) (lo' := [some (.ref 14), some (.int (nI k))]) (S' := [.int ((nI (zto (zen T) i - zfr (zen T) i)) - (nI (zzr T i)))]) (h' := h) rfl ?_
    rw [nI_sub hl.2]
    exact qg_ret5 rfl rfl rfl
  · obtain ⟨n1, n2⟩ := mneg hkk
    have hen := q_enr (show kk < 104 by omega)
    rw [e2]
    rw [e1] at u1 ⊢
    have ok : ai_look (qr_Z L xs) h.1 (.retAddr (qr_en.getD kk (0, 0)).1) = some (ai_obj 7 [.retAddr ((qr_en.getD kk (0, 0)).1 + 1000), .int 0]) := qZ_str hen.1 hen.2.1
    refine qg_if false rfl (qb_geF n1) rfl ?_
    refine qg_pls (n := 1) (k' := 6) (lo' := [some (.ref 14), some (.int (nI k))]) (S' := [.ref 14]) (h' := h) rfl ?_
    refine qg_getf (v := .ref 15) rfl c14 rfl rfl rfl ?_
    refine qg_pls (n := 2) (k' := 9) (lo' := [some (.ref 14), some (.int (nI k))]) (S' := [.ref 14, .int (-1), .ref 15]) (h' := h) rfl ?_
    refine qg_getf (v := .ref 21) rfl c14 rfl rfl rfl ?_
    refine qg_pls (n := 1) (k' := 11) (lo' := [some (.ref 14), some (.int (nI k))]) (S' := [.int (nI k), .ref 21, .int (-1), .ref 15]) (h' := h) rfl ?_
    refine qg_ald rfl (fun _ _ _ => rfl) c21 (by omega) (by decide) ?_
    rw [u1]
    refine qg_pls (n := 1) (k' := 13) (lo' := [some (.ref 14), some (.int (nI k))]) (S' := [.int ((-1) - (-1 - nI kk)), .ref 15]) (h' := h) rfl ?_
    rw [n2]
    refine qg_aald rfl y15 (hkk) (by decide) (ygw kk hkk) ?_
    refine qg_call (v := some (.int (nI (zt (qr_en.getD kk (0, 0)).1).length))) (h' := h) (as := [.retAddr (qr_en.getD kk (0, 0)).1]) rfl rfl rfl rfl rfl rfl rfl (ai_rcv1 rfl rfl ok) (qe_up (by omega) (q_slen (d := d) hen.1 hen.2.1)) ?_
    show qg L xs _ qm_189 15 [some (.ref 14), some (.int (nI k))] [.int (nI (zt (qr_en.getD kk (0, 0)).1).length)] h _
    exact qg_ret5 rfl rfl rfl
end MRN
