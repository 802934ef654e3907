/-! THE MODEL COUNTS NAMES. (Printed by wip/whole/pp.py from wip/whole/src.) -/
section MNN
variable {L : Nat} {xs : Nat → Int32} {d : Nat} {h : ai_H} {T : List Int32} {J : List zJ}
def zms (k : Nat) (x : Int32) : Nat := x.toBitVec.toNat % 2 ^ k
theorem zms_lt (k : Nat) (x : Int32) : zms k x < 2 ^ k := Nat.mod_lt _ (Nat.two_pow_pos k)
theorem zms_and {k : Nat} (hk : k ≤ 31) (x : Int32) : x &&& nI (2 ^ k - 1) = nI (zms k x) := by
  have h2 : 2 ^ k ≤ 2 ^ 31 := Nat.pow_le_pow_right (by decide) hk
  have h3 := zms_lt k x
  apply Int32.toBitVec_inj.mp
  show x.toBitVec &&& BitVec.ofNat 32 (2 ^ k - 1) = BitVec.ofNat 32 (zms k x)
  apply BitVec.eq_of_toNat_eq
  rw [BitVec.toNat_and, BitVec.toNat_ofNat, BitVec.toNat_ofNat, Nat.mod_eq_of_lt (show 2 ^ k - 1 < 2 ^ 32 by omega), Nat.mod_eq_of_lt (show zms k x < 2 ^ 32 by omega), Nat.and_two_pow_sub_one_eq_mod]
  rfl
theorem zms_nI {k a : Nat} (ha : a < 2 ^ 31) : zms k (nI a) = a % 2 ^ k := by
  unfold zms
  show (BitVec.ofNat 32 a).toNat % 2 ^ k = _
  rw [BitVec.toNat_ofNat, Nat.mod_eq_of_lt (show a < 2 ^ 32 by omega)]
def zHm (A : List Int32) : Nat := zms 16 (zfold 0 A ^^^ (zfold 0 A >>> (15 &&& 31)))
theorem mrn_25 (hr : mrn h J T) {c : ai_C} : mrn (h.1.set 25 c, h.2) J T := by
  obtain ⟨cn, tp, dp, kd, v1, v10, v14, v17, v18, v19, v20, v21, ft, rf, bf, c14, ⟨gw, w1, w2⟩, c17, cT, c21, c22, ct, ci, cJ⟩ := hr
  refine ⟨cn, tp, dp, kd, v1, v10, v14, v17, v18, v19, v20, v21, ft, rf, bf, q_stay c14 (by decide), ⟨gw, q_stay w1 (by decide), w2⟩, q_stay c17 (by decide), cT, q_stay c21 (by decide), q_stay c22 (by decide), fun hJ => ?_, ci, cJ⟩
  obtain ⟨f1, fk, fz, r1, r2, r3, r4⟩ := ct hJ
  exact ⟨f1, fk, fz, q_stay r1 (by decide), q_stay r2 (by decide), q_stay r3 (by decide), r4⟩
/-- the places hold such numbers -/
def zpl (M : Nat) (P : Nat → Prop) (sn : Nat → Int32) : Prop := ∀ j, j < M → sn j = 0 ∨ ∃ t, sn j = nI (t + 1) ∧ P t
/-- QueryReaderModel.isNew -/
theorem m_isNew (hr : mrn h J T) (hJ : J ≠ []) {sn : Nat → Int32} {S : List (List Int32)} (c25 : h.1[25]? = some (ai_num .int 65536 sn)) (hb : ztb 65536 1 (zit (zen T)) zHm sn S) (hp : zpl 65536 (fun t => t < (zen T).1.length ∧ ztk (zen T) t = 99) sn) {t : Nat} (ht : t < (zen T).1.length) (ht9 : ztk (zen T) t = 99) (ht1 : 1 ≤ t) : ∃ sn' h', qe L xs (d + 3) 196 [.ref 14, .int (nI t)] h (.inl (some (.int (if zit (zen T) t ∈ S then 0 else 1))), h') ∧ h' = (h.1.set 25 (ai_num .int 65536 sn'), h.2) ∧ ztb 65536 1 (zit (zen T)) zHm sn' (if zit (zen T) t ∈ S then S else zit (zen T) t :: S) ∧ zpl 65536 (fun t => t < (zen T).1.length ∧ ztk (zen T) t = 99) sn' := by
  have hsame := fun i (hi : i < (zen T).1.length) hi9 => m_same (L := L) (xs := xs) (d := d) hr hJ (i := i) (t := t) hi hi9 ht ht9
  have hr0 := hr
  obtain ⟨cn, tp, dp, kd, v1, v10, v14, v17, v18, v19, v20, v21, ft, rf, bf, c14, -, c17, cT, c21, c22, ct, ci, cJ⟩ := hr
  obtain ⟨f1, fk, fz, r18, r19, r20, rt⟩ := ct hJ
  have hlen := zen_len (t := T)
  have hTl := cT.1
  obtain ⟨hnx, -, -⟩ := zen_next (t := T) (i := t) (by omega)
  obtain ⟨b1, b2, b3, b4⟩ := zit_nm cT.2.2 ht ht9
  have u1 : f1 t = nI (zfr (zen T) t) := (rt t ht).1
  have u2 : fz t = nI (zit (zen T) t).length := by rw [b1]; exact (rt t ht).2.2 (show ztk (zen T) t < 102 by omega)
  generalize hB : zit (zen T) t = B at b1 b4 u2 hsame ⊢
  have loop : ∀ (m j : Nat) (s : Int32) (o : ai_O), B.length - j = m → j ≤ B.length → qg L xs (d + 2) qm_196 27 [some (.ref 14), some (.int (nI t)), some (.int (zfold s (B.drop j))), some (.int (nI B.length))] [] h o → qg L xs (d + 2) qm_196 4 [some (.ref 14), some (.int (nI t)), some (.int s), some (.int (nI j))] [] h o := by
    intro m
    induction m with
    | zero =>
      intro j s o hm hj hg
      have e1 : j = B.length := by omega
      rw [List.drop_eq_nil_of_le (show B.length ≤ j by omega)] at hg
      rw [e1]
      refine qg_pls (n := 2) (k' := 6) (lo' := [some (.ref 14), some (.int (nI t)), some (.int s), some (.int (nI B.length))]) (S' := [.ref 14, .int (nI B.length)]) (h' := h) rfl ?_
      refine qg_getf (v := .ref 20) rfl c14 rfl rfl rfl ?_
      refine qg_pls (n := 1) (k' := 8) (lo' := [some (.ref 14), some (.int (nI t)), some (.int s), some (.int (nI B.length))]) (S' := [.int (nI t), .ref 20, .int (nI B.length)]) (h' := h) rfl ?_
      refine qg_ald rfl (fun _ _ _ => rfl) r20 (by omega) (by decide) ?_
      rw [u2]
      refine qg_icmp true rfl (qc_geT (Nat.le_refl _) (by omega)) rfl ?_
      exact hg
    | succ m ih =>
      intro j s o hm hj hg
      have hjB : j < B.length := by omega
      rw [drop_cons (x := 0) hjB] at hg
      refine qg_pls (n := 2) (k' := 6) (lo' := [some (.ref 14), some (.int (nI t)), some (.int s), some (.int (nI j))]) (S' := [.ref 14, .int (nI j)]) (h' := h) rfl ?_
      refine qg_getf (v := .ref 20) rfl c14 rfl rfl rfl ?_
      refine qg_pls (n := 1) (k' := 8) (lo' := [some (.ref 14), some (.int (nI t)), some (.int s), some (.int (nI j))]) (S' := [.int (nI t), .ref 20, .int (nI j)]) (h' := h) rfl ?_
      refine qg_ald rfl (fun _ _ _ => rfl) r20 (by omega) (by decide) ?_
      rw [u2]
      refine qg_icmp false rfl (qc_geF hjB (by omega)) rfl ?_
      refine qg_pls (n := 4) (k' := 14) (lo' := [some (.ref 14), some (.int (nI t)), some (.int s), some (.int (nI j))]) (S' := [.ref 14, .int (31 * s)]) (h' := h) rfl ?_
      refine qg_getf (v := .ref 17) rfl c14 rfl rfl rfl ?_
      refine qg_pls (n := 1) (k' := 16) (lo' := [some (.ref 14), some (.int (nI t)), some (.int s), some (.int (nI j))]) (S' := [.ref 14, .ref 17, .int (31 * s)]) (h' := h) rfl ?_
      refine qg_getf (v := .ref 18) rfl c14 rfl rfl rfl ?_
      refine qg_pls (n := 1) (k' := 18) (lo' := [some (.ref 14), some (.int (nI t)), some (.int s), some (.int (nI j))]) (S' := [.int (nI t), .ref 18, .ref 17, .int (31 * s)]) (h' := h) rfl ?_
      refine qg_ald rfl (fun _ _ _ => rfl) r18 (by omega) (by decide) ?_
      rw [u1]
      refine qg_pls (n := 2) (k' := 21) (lo' := [some (.ref 14), some (.int (nI t)), some (.int s), some (.int (nI j))]) (S' := [.int ((nI (zfr (zen T) t)) + (nI j)), .ref 17, .int (31 * s)]) (h' := h) rfl ?_
      rw [nI_add]
      refine qg_ald rfl (fun _ _ _ => rfl) c17 (by omega) (by decide) ?_
      rw [cT.2.1 _ (by omega)]
      refine qg_call (v := some (.int (zsmall (T.getD (zfr (zen T) t + j) 0)))) (h' := h) (as := [.int (T.getD (zfr (zen T) t + j) 0)]) rfl rfl rfl rfl rfl rfl rfl rfl (m_small (d := d + 1)) ?_
      show qg L xs _ qm_196 23 [some (.ref 14), some (.int (nI t)), some (.int s), some (.int (nI j))] [.int (zsmall (T.getD (zfr (zen T) t + j) 0)), .int (31 * s)] h _
      rw [b4 j hjB]
      refine qg_pls (n := 4) (k' := 4) (lo' := [some (.ref 14), some (.int (nI t)), some (.int ((31 * s) + (B.getD j 0))), some (.int ((nI j) + 1))]) (S' := []) (h' := h) rfl ?_
      rw [nI_1]
      exact ih (j + 1) _ o (by omega) (by omega) hg
  obtain ⟨r0, hr0M, hfree⟩ := ztb_free (by decide) (by decide) hb (zHm B)
  have look : ∀ (m r : Nat), r0 - r = m → r ≤ r0 → (∀ r', r' < r → sn ((zHm B + r') % 65536) ≠ 0 ∧ ∀ t', 1 ≤ t' → t' + 1 < 1 + 65536 → sn ((zHm B + r') % 65536) = nI (t' + 1) → zit (zen T) t' ≠ B) → ∃ sn' h', qg L xs (d + 2) qm_196 35 [some (.ref 14), some (.int (nI t)), some (.int (zfold 0 B)), some (.int (nI ((zHm B + r) % 65536)))] [] h (.inl (some (.int (if B ∈ S then 0 else 1))), h') ∧ h' = (h.1.set 25 (ai_num .int 65536 sn'), h.2) ∧ ztb 65536 1 (zit (zen T)) zHm sn' (if B ∈ S then S else B :: S) ∧ zpl 65536 (fun t => t < (zen T).1.length ∧ ztk (zen T) t = 99) sn' := by
    intro m
    induction m with
    | zero =>
      intro r hm hrr hpr
      have e1 : r = r0 := by omega
      subst e1
      have hnS := ztb_not (by decide) hb hpr hfree
      have hins := ztb_ins (t := t) (by decide) (by decide) hb hnS hr0M (fun r' q => (hpr r' q).1) hfree ht1 (by omega) hB
      rw [if_neg hnS, if_neg hnS]
      have hsl : (zHm B + r) % 65536 < 65536 := Nat.mod_lt _ (by decide)
      generalize (zHm B + r) % 65536 = sl at hins hfree hsl ⊢
      refine ⟨upd sn sl (nI (t + 1)), _, ?_, rfl, hins, ?_⟩
      · skip
        refine qg_pls (n := 1) (k' := 36) (lo' := [some (.ref 14), some (.int (nI t)), some (.int (zfold 0 B)), some (.int (nI sl))]) (S' := [.ref 14]) (h' := h) rfl ?_
        refine qg_getf (v := .ref 25) rfl c14 rfl rfl rfl ?_
        refine qg_pls (n := 1) (k' := 38) (lo' := [some (.ref 14), some (.int (nI t)), some (.int (zfold 0 B)), some (.int (nI sl))]) (S' := [.int (nI sl), .ref 25]) (h' := h) rfl ?_
        refine qg_ald rfl (fun _ _ _ => rfl) c25 (hsl) (by decide) ?_
        rw [hfree]
        refine qg_if true rfl (rfl) rfl ?_
        refine qg_pls (n := 1) (k' := 60) (lo' := [some (.ref 14), some (.int (nI t)), some (.int (zfold 0 B)), some (.int (nI sl))]) (S' := [.ref 14]) (h' := h) rfl ?_
        refine qg_getf (v := .ref 25) rfl c14 rfl rfl rfl ?_
        refine qg_pls (n := 4) (k' := 65) (lo' := [some (.ref 14), some (.int (nI t)), some (.int (zfold 0 B)), some (.int (nI sl))]) (S' := [.int ((nI t) + 1), .int (nI sl), .ref 25]) (h' := h) rfl ?_
        rw [nI_1]
        refine qg_ast rfl (fun _ _ _ => rfl) c25 (hsl) (by decide) ?_
        show qg L xs _ qm_196 66 [some (.ref 14), some (.int (nI t)), some (.int (zfold 0 B)), some (.int (nI sl))] [] (h.1.set 25 (ai_num .int 65536 (upd sn sl (nI (t + 1)))), h.2) _
        refine qg_pls (n := 1) (k' := 67) (lo' := [some (.ref 14), some (.int (nI t)), some (.int (zfold 0 B)), some (.int (nI sl))]) (S' := [.int 1]) (h' := (h.1.set 25 (ai_num .int 65536 (upd sn sl (nI (t + 1)))), h.2)) rfl ?_
        exact qg_ret5 rfl rfl rfl
      · intro j hj
        show (if j = sl then nI (t + 1) else sn j) = 0 ∨ ∃ t', (if j = sl then nI (t + 1) else sn j) = nI (t' + 1) ∧ _
        by_cases hjs : j = sl
        · rw [if_pos hjs]; exact Or.inr ⟨t, rfl, ht, ht9⟩
        · rw [if_neg hjs]; exact hp j hj
    | succ m ih =>
      intro r hm hrr hpr
      by_cases h0 : sn ((zHm B + r) % 65536) = 0
      · have hnS := ztb_not (by decide) hb hpr h0
        have hins := ztb_ins (t := t) (by decide) (by decide) hb hnS (by omega) (fun r' q => (hpr r' q).1) h0 ht1 (by omega) hB
        rw [if_neg hnS, if_neg hnS]
        have hsl : (zHm B + r) % 65536 < 65536 := Nat.mod_lt _ (by decide)
        generalize (zHm B + r) % 65536 = sl at hins h0 hsl ⊢
        refine ⟨upd sn sl (nI (t + 1)), _, ?_, rfl, hins, ?_⟩
        · skip
          refine qg_pls (n := 1) (k' := 36) (lo' := [some (.ref 14), some (.int (nI t)), some (.int (zfold 0 B)), some (.int (nI sl))]) (S' := [.ref 14]) (h' := h) rfl ?_
          refine qg_getf (v := .ref 25) rfl c14 rfl rfl rfl ?_
          refine qg_pls (n := 1) (k' := 38) (lo' := [some (.ref 14), some (.int (nI t)), some (.int (zfold 0 B)), some (.int (nI sl))]) (S' := [.int (nI sl), .ref 25]) (h' := h) rfl ?_
          refine qg_ald rfl (fun _ _ _ => rfl) c25 (hsl) (by decide) ?_
          rw [h0]
          refine qg_if true rfl (rfl) rfl ?_
          refine qg_pls (n := 1) (k' := 60) (lo' := [some (.ref 14), some (.int (nI t)), some (.int (zfold 0 B)), some (.int (nI sl))]) (S' := [.ref 14]) (h' := h) rfl ?_
          refine qg_getf (v := .ref 25) rfl c14 rfl rfl rfl ?_
          refine qg_pls (n := 4) (k' := 65) (lo' := [some (.ref 14), some (.int (nI t)), some (.int (zfold 0 B)), some (.int (nI sl))]) (S' := [.int ((nI t) + 1), .int (nI sl), .ref 25]) (h' := h) rfl ?_
          rw [nI_1]
          refine qg_ast rfl (fun _ _ _ => rfl) c25 (hsl) (by decide) ?_
          show qg L xs _ qm_196 66 [some (.ref 14), some (.int (nI t)), some (.int (zfold 0 B)), some (.int (nI sl))] [] (h.1.set 25 (ai_num .int 65536 (upd sn sl (nI (t + 1)))), h.2) _
          refine qg_pls (n := 1) (k' := 67) (lo' := [some (.ref 14), some (.int (nI t)), some (.int (zfold 0 B)), some (.int (nI sl))]) (S' := [.int 1]) (h' := (h.1.set 25 (ai_num .int 65536 (upd sn sl (nI (t + 1)))), h.2)) rfl ?_
          exact qg_ret5 rfl rfl rfl
        · intro j hj
          show (if j = sl then nI (t + 1) else sn j) = 0 ∨ ∃ t', (if j = sl then nI (t + 1) else sn j) = nI (t' + 1) ∧ _
          by_cases hjs : j = sl
          · rw [if_pos hjs]; exact Or.inr ⟨t, rfl, ht, ht9⟩
          · rw [if_neg hjs]; exact hp j hj
      · have hsl : (zHm B + r) % 65536 < 65536 := Nat.mod_lt _ (by decide)
        rcases hb.1 _ hsl with q | ⟨t', q1, q2, q3, q4⟩
        · exact absurd q h0
        rcases hp _ hsl with q | ⟨t2, q5, q6, q7⟩
        · exact absurd q h0
        have e2 : t2 = t' := by
          rw [q3] at q5
          have hl2 : t2 + 1 < 2 ^ 31 := by omega
          have := (nI_eq (by omega) hl2).mp q5
          omega
        subst e2
        have hsm := hsame t2 q6 q7
        have road : ∀ o, qg L xs (d + 2) qm_196 49 [some (.ref 14), some (.int (nI t)), some (.int (zfold 0 B)), some (.int (nI ((zHm B + r) % 65536)))] [.int (if zit (zen T) t2 = B then 1 else 0)] h o → qg L xs (d + 2) qm_196 35 [some (.ref 14), some (.int (nI t)), some (.int (zfold 0 B)), some (.int (nI ((zHm B + r) % 65536)))] [] h o := by
          intro o hg
          generalize (zHm B + r) % 65536 = sl at hsl q3 hg ⊢
          refine qg_pls (n := 1) (k' := 36) (lo' := [some (.ref 14), some (.int (nI t)), some (.int (zfold 0 B)), some (.int (nI sl))]) (S' := [.ref 14]) (h' := h) rfl ?_
          refine qg_getf (v := .ref 25) rfl c14 rfl rfl rfl ?_
          refine qg_pls (n := 1) (k' := 38) (lo' := [some (.ref 14), some (.int (nI t)), some (.int (zfold 0 B)), some (.int (nI sl))]) (S' := [.int (nI sl), .ref 25]) (h' := h) rfl ?_
          refine qg_ald rfl (fun _ _ _ => rfl) c25 (hsl) (by decide) ?_
          rw [q3]
          refine qg_if false rfl (qc_leF (b := 0) (by omega) (by omega)) rfl ?_
          refine qg_pls (n := 2) (k' := 42) (lo' := [some (.ref 14), some (.int (nI t)), some (.int (zfold 0 B)), some (.int (nI sl))]) (S' := [.ref 14, .ref 14]) (h' := h) rfl ?_
          refine qg_getf (v := .ref 25) rfl c14 rfl rfl rfl ?_
          refine qg_pls (n := 1) (k' := 44) (lo' := [some (.ref 14), some (.int (nI t)), some (.int (zfold 0 B)), some (.int (nI sl))]) (S' := [.int (nI sl), .ref 25, .ref 14]) (h' := h) rfl ?_
          refine qg_ald rfl (fun _ _ _ => rfl) c25 (hsl) (by decide) ?_
          rw [q3]
          refine qg_pls (n := 3) (k' := 48) (lo' := [some (.ref 14), some (.int (nI t)), some (.int (zfold 0 B)), some (.int (nI sl))]) (S' := [.int (nI t), .int ((nI (t2 + 1)) - 1), .ref 14]) (h' := h) rfl ?_
          rw [show nI (t2 + 1) - 1 = nI t2 from nI_sub (a := t2 + 1) (b := 1) (by omega)]
          refine qg_call (v := some (.int (if zit (zen T) t2 = B then 1 else 0))) (h' := h) (as := [.ref 14, .int (nI t2), .int (nI t)]) rfl rfl rfl rfl rfl rfl rfl (ai_rcv1 rfl rfl c14) (hsm) ?_
          show qg L xs _ qm_196 49 [some (.ref 14), some (.int (nI t)), some (.int (zfold 0 B)), some (.int (nI sl))] [.int (if zit (zen T) t2 = B then 1 else 0)] h _
          exact hg
        by_cases hs : zit (zen T) t2 = B
        · have hS : B ∈ S := by rw [← hs]; exact q4
          rw [if_pos hS, if_pos hS]
          refine ⟨sn, h, ?_, ?_, hb, hp⟩
          · refine road _ ?_
            rw [if_pos hs]
            refine qg_if false rfl (rfl) rfl ?_
            refine qg_pls (n := 1) (k' := 51) (lo' := [some (.ref 14), some (.int (nI t)), some (.int (zfold 0 B)), some (.int (nI ((zHm B + r) % 65536)))]) (S' := [.int 0]) (h' := h) rfl ?_
            exact qg_ret5 rfl rfl rfl
          · rw [q_same c25]
        · obtain ⟨sn', h', k1, k2, k3, k4⟩ := ih (r + 1) (by omega) (by omega) (by
            intro r' hr'
            by_cases hrr2 : r' < r
            · exact hpr r' hrr2
            · have : r' = r := by omega
              subst this
              refine ⟨h0, fun t' z1 z2 z3 => ?_⟩
              rw [q3] at z3
              have := (nI_eq (by omega) (by omega)).mp z3
              have : t2 = t' := by omega
              subst this
              exact hs)
          refine ⟨sn', h', road _ ?_, k2, k3, k4⟩
          rw [if_neg hs]
          refine qg_if true rfl (rfl) rfl ?_
          refine qg_pls (n := 7) (k' := 35) (lo' := [some (.ref 14), some (.int (nI t)), some (.int (zfold 0 B)), some (.int (((nI ((zHm B + r) % 65536)) + 1) &&& 65535))]) (S' := []) (h' := h) rfl ?_
          rw [show (nI ((zHm B + r) % 65536) + 1) &&& 65535 = nI ((zHm B + (r + 1)) % 65536) by
            rw [nI_1, show (65535 : Int32) = nI (2 ^ 16 - 1) from rfl, zms_and (by decide), zms_nI (by omega)]
            exact congrArg nI (by show ((zHm B + r) % 65536 + 1) % 65536 = _; rw [Nat.mod_add_mod, Nat.add_assoc])]
          exact k1
  obtain ⟨sn', h', k1, k2, k3, k4⟩ := look r0 0 (by omega) (Nat.zero_le _) (fun r' hr' => absurd hr' (by omega))
  refine ⟨sn', h', ?_, k2, k3, k4⟩
  refine qe_of (M := qm_196) rfl rfl ?_
  show qg L xs _ qm_196 0 [some (.ref 14), some (.int (nI t)), none, none] [] h _
  refine qg_pls (n := 4) (k' := 4) (lo' := [some (.ref 14), some (.int (nI t)), some (.int 0), some (.int 0)]) (S' := []) (h' := h) rfl ?_
  refine loop _ 0 0 _ rfl (Nat.zero_le _) ?_
  rw [List.drop_zero]
  refine qg_pls (n := 8) (k' := 35) (lo' := [some (.ref 14), some (.int (nI t)), some (.int (zfold 0 B)), some (.int (((zfold 0 B) ^^^ ((zfold 0 B) >>> (15 &&& 31))) &&& 65535))]) (S' := []) (h' := h) rfl ?_
  rw [show (zfold 0 B ^^^ (zfold 0 B >>> (15 &&& 31))) &&& 65535 = nI ((zHm B + 0) % 65536) by
    rw [show (65535 : Int32) = nI (2 ^ 16 - 1) from rfl, zms_and (by decide)]
    exact congrArg nI (Nat.mod_eq_of_lt (zms_lt 16 _)).symm]
  exact k1
end MNN
