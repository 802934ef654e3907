/-! THE MODEL COUNTS NAMES: all. (Printed by wip/whole/pp.py from wip/whole/src.) -/
section MNO
variable {L : Nat} {xs : Nat → Int32} {d : Nat} {h : ai_H} {B Q T : List Int32} {J : List zJ} {kd dp : Nat}
/-- an item that is a name -/
def jisn (T : List Int32) (a : zJ) : Bool := decide (0 ≤ a.1 ∧ ztk (zen T) a.1.toNatClampNeg = 99)
def jnm (T : List Int32) (J : List zJ) : List (List Int32) := (J.filter (jisn T)).map (fun a => a.2.1)
theorem jnm_drop {k : Nat} (hk : k < J.length) : jnm T (J.drop k) = if jisn T J[k] = true then J[k].2.1 :: jnm T (J.drop (k + 1)) else jnm T (J.drop (k + 1)) := by
  rw [List.drop_eq_getElem_cons hk]
  unfold jnm
  by_cases hj : jisn T J[k] = true
  · rw [if_pos hj, List.filter_cons_of_pos hj]; rfl
  · rw [if_neg hj, List.filter_cons_of_neg hj]
theorem zcode_99 : (List.range 104).all (fun k => decide (zcode k = 2 ↔ k = 99)) = true := by decide +kernel
theorem zneg_1 : (List.range 82).all (fun k => decide (-1 - nI k < 0)) = true := by decide +kernel
/-- QueryReaderModel.names -/
theorem m_names (hs : mst h B Q kd dp J T) (hN : ∀ a ∈ J, a.1 ≠ 0 ∨ ztk (zen T) 0 ≠ 99) : ∃ h', qe L xs (d + 4) 195 [.ref 14] h (.inl (some (.int (nI (zdn [] (jnm T J))))), h') ∧ mst h' B Q kd dp J T ∧ mmv h h' ∧ h'.2 = h.2 := by
  obtain ⟨cn, v1, v10, v14, v17, v18, v19, v20, v21, c14, hm⟩ := mst_th hs
  have hs0 := hm (.int 0)
  have hmv : mmv h (h.1.set 14 (mob (.int 0) B.length T.length cn v10 J.length v14 dp kd v17 v18 v19 v20 v21), h.2) := mmv_set (by decide)
  have o1 := q_set (y := mob (.int 0) B.length T.length cn v10 J.length v14 dp kd v17 v18 v19 v20 v21) c14
  have hh2 : ((h.1.set 14 (mob (.int 0) B.length T.length cn v10 J.length v14 dp kd v17 v18 v19 v20 v21), h.2) : ai_H).2 = h.2 := rfl
  generalize hh1 : ((h.1.set 14 (mob (.int 0) B.length T.length cn v10 J.length v14 dp kd v17 v18 v19 v20 v21), h.2) : ai_H) = h1 at hs0 hmv hh2
  have o1 : h1.1[14]? = some (mob (.int 0) B.length T.length cn v10 J.length v14 dp kd v17 v18 v19 v20 v21) := by rw [← hh1]; exact o1
  have hr := mst_rn hs0
  obtain ⟨sn0, c25⟩ : ∃ sn, h1.1[25]? = some (ai_num .int 65536 sn) := by
    obtain ⟨_, _, _, _, _, _, _, _, _, _, _, _, _, _, _, sn, -, -, -, -, -, -, -, -, -, -, -, -, -, c25, -⟩ := hs0
    exact ⟨sn, c25⟩
  have hkeep : ∀ sn, mst (h1.1.set 25 (ai_num .int 65536 sn), h1.2) B Q kd dp J T ∧ mmv h1 (h1.1.set 25 (ai_num .int 65536 sn), h1.2) := by
    intro sn
    refine ⟨?_, mmv_set (by decide)⟩
    obtain ⟨cn, v1, v10, v14, v17, v18, v19, v20, v21, tb, ft, rf, bf, wr, wf, sn1, c14, ⟨gw, w1, w2⟩, c16, cB, c17, cT, ⟨f18, c18⟩, ⟨f19, c19⟩, ⟨f20, c20⟩, c21, c22, c23, c24, c25, ct, ci, cQ, cJ⟩ := hs0
    refine ⟨cn, v1, v10, v14, v17, v18, v19, v20, v21, tb, ft, rf, bf, wr, wf, sn, q_stay c14 (by decide), ⟨gw, q_stay w1 (by decide), w2⟩, q_stay c16 (by decide), cB, q_stay c17 (by decide), cT, ⟨f18, q_stay c18 (by decide)⟩, ⟨f19, q_stay c19 (by decide)⟩, ⟨f20, q_stay c20 (by decide)⟩, q_stay c21 (by decide), q_stay c22 (by decide), q_stay c23 (by decide), q_stay c24 (by decide), q_set c25, fun hJ => ?_, ci, cQ, cJ⟩
    obtain ⟨f1, fk, fz, r1, r2, r3, r4⟩ := ct hJ
    exact ⟨f1, fk, fz, q_stay r1 (by decide), q_stay r2 (by decide), q_stay r3 (by decide), r4⟩
  have clear : ∀ (m k : Nat) (sn : Nat → Int32), 65536 - k = m → k ≤ 65536 → (∀ j, j < k → sn j = 0) → ∃ sn', (∀ j, j < 65536 → sn' j = 0) ∧ ∀ o, qg L xs (d + 3) qm_195 15 [some (.ref 14), some (.int (nI 65536)), none, none] [] (h1.1.set 25 (ai_num .int 65536 sn'), h1.2) o → qg L xs (d + 3) qm_195 5 [some (.ref 14), some (.int (nI k)), none, none] [] (h1.1.set 25 (ai_num .int 65536 sn), h1.2) o := by
    intro m
    induction m with
    | zero =>
      intro k sn hm hk hz
      have e1 : k = 65536 := by omega
      subst e1
      refine ⟨sn, hz, fun o hg => ?_⟩
      refine qg_pls (n := 2) (k' := 7) (lo' := [some (.ref 14), some (.int (nI 65536)), none, none]) (S' := [.int 65536, .int (nI 65536)]) (h' := (h1.1.set 25 (ai_num .int 65536 sn), h1.2)) rfl ?_
      refine qg_icmp true rfl ((show ai_cmp .ge (nI 65536) 65536 = true from rfl)) rfl ?_
      exact hg
    | succ m ih =>
      intro k sn hm hk hz
      obtain ⟨sn', z1, z2⟩ := ih (k + 1) (upd sn k 0) (by omega) (by omega) (fun j hj => by
        show (if j = k then (0 : Int32) else sn j) = 0
        split
        · rfl
        · exact hz j (by omega))
      refine ⟨sn', z1, fun o hg => ?_⟩
      refine qg_pls (n := 2) (k' := 7) (lo' := [some (.ref 14), some (.int (nI k)), none, none]) (S' := [.int 65536, .int (nI k)]) (h' := (h1.1.set 25 (ai_num .int 65536 sn), h1.2)) rfl ?_
      refine qg_icmp false rfl ((qc_geF (b := 65536) (by omega) (by decide))) rfl ?_
      refine qg_pls (n := 1) (k' := 9) (lo' := [some (.ref 14), some (.int (nI k)), none, none]) (S' := [.ref 14]) (h' := (h1.1.set 25 (ai_num .int 65536 sn), h1.2)) rfl ?_
      refine qg_getf (v := .ref 25) rfl (q_stay o1 (by decide)) rfl rfl rfl ?_
      refine qg_pls (n := 2) (k' := 12) (lo' := [some (.ref 14), some (.int (nI k)), none, none]) (S' := [.int 0, .int (nI k), .ref 25]) (h' := (h1.1.set 25 (ai_num .int 65536 sn), h1.2)) rfl ?_
      refine qg_ast rfl (fun _ _ _ => rfl) (q_set c25) (by omega) (by decide) ?_
      rw [List.set_set]
      show qg L xs _ qm_195 13 [some (.ref 14), some (.int (nI k)), none, none] [] (h1.1.set 25 (ai_num .int 65536 (upd sn k 0)), h1.2) _
      refine qg_pls (n := 2) (k' := 5) (lo' := [some (.ref 14), some (.int ((nI k) + 1)), none, none]) (S' := []) (h' := (h1.1.set 25 (ai_num .int 65536 (upd sn k 0)), h1.2)) rfl ?_
      rw [nI_1]
      exact z2 o hg
  have outer : ∀ (m k n : Nat) (sn : Nat → Int32) (S : List (List Int32)) (x3 : Option Value), J.length - k = m → k ≤ J.length → ztb 65536 1 (zit (zen T)) zHm sn S → zpl 65536 (fun t => t < (zen T).1.length ∧ ztk (zen T) t = 99) sn → ∃ sn', qg L xs (d + 3) qm_195 19 [some (.ref 14), some (.int (nI n)), some (.int (nI k)), x3] [] (h1.1.set 25 (ai_num .int 65536 sn), h1.2) (.inl (some (.int (nI (n + zdn S (jnm T (J.drop k)))))), (h1.1.set 25 (ai_num .int 65536 sn'), h1.2)) := by
    intro m
    induction m with
    | zero =>
      intro k n sn S x3 hm hk hb hp
      rw [List.drop_eq_nil_of_le (show J.length ≤ k by omega)]
      have hJl : J.length ≤ 131072 := by
        obtain ⟨_, _, _, _, _, _, _, _, _, _, _, _, _, _, _, -, -, -, -, -, -, -, -, cJ⟩ := hr
        exact cJ
      refine ⟨sn, ?_⟩
      refine qg_pls (n := 2) (k' := 21) (lo' := [some (.ref 14), some (.int (nI n)), some (.int (nI k)), x3]) (S' := [.ref 14, .int (nI k)]) (h' := (h1.1.set 25 (ai_num .int 65536 sn), h1.2)) rfl ?_
      refine qg_getf (v := .int (nI J.length)) rfl (q_stay o1 (by decide)) rfl rfl rfl ?_
      refine qg_icmp true rfl (qc_geT (by omega) (by omega)) rfl ?_
      refine qg_pls (n := 1) (k' := 59) (lo' := [some (.ref 14), some (.int (nI n)), some (.int (nI k)), x3]) (S' := [.int (nI n)]) (h' := (h1.1.set 25 (ai_num .int 65536 sn), h1.2)) rfl ?_
      exact qg_ret5 rfl rfl rfl
    | succ m ih =>
      intro k n sn S x3 hm hk hb hp
      have hk2 : k < J.length := by omega
      have hJ : J ≠ [] := fun q => by rw [q] at hk2; exact absurd hk2 (by simp)
      have hr25 := mrn_25 (c := ai_num .int 65536 sn) hr
      have hnew := fun t (ht : t < (zen T).1.length) h9 h1 => m_isNew (L := L) (xs := xs) (d := d) hr25 hJ (q_set c25) hb hp (t := t) ht h9 h1
      obtain ⟨cn2, tp2, dp2, kd2, w1, w10, w14, w17, w18, w19, w20, w21, ft, rf, bf, d14, -, c17, cT, c21, c22, ct, ci, cJ⟩ := hr
      obtain ⟨f1, fk, fz, r18, r19, r20, rt⟩ := ct hJ
      obtain ⟨p1, p2, -, -, -⟩ := ci k J[k] (List.getElem?_eq_getElem hk2)
      have hlen := zen_len (t := T)
      have hTl := cT.1
      rw [jnm_drop hk2]
      have head : ∀ o, qg L xs (d + 3) qm_195 27 [some (.ref 14), some (.int (nI n)), some (.int (nI k)), x3] [.int J[k].1] (h1.1.set 25 (ai_num .int 65536 sn), h1.2) o → qg L xs (d + 3) qm_195 19 [some (.ref 14), some (.int (nI n)), some (.int (nI k)), x3] [] (h1.1.set 25 (ai_num .int 65536 sn), h1.2) o := by
        intro o hg
        refine qg_pls (n := 2) (k' := 21) (lo' := [some (.ref 14), some (.int (nI n)), some (.int (nI k)), x3]) (S' := [.ref 14, .int (nI k)]) (h' := (h1.1.set 25 (ai_num .int 65536 sn), h1.2)) rfl ?_
        refine qg_getf (v := .int (nI J.length)) rfl (q_stay o1 (by decide)) rfl rfl rfl ?_
        refine qg_icmp false rfl (qc_geF hk2 (by omega)) rfl ?_
        refine qg_pls (n := 1) (k' := 24) (lo' := [some (.ref 14), some (.int (nI n)), some (.int (nI k)), x3]) (S' := [.ref 14]) (h' := (h1.1.set 25 (ai_num .int 65536 sn), h1.2)) rfl ?_
        refine qg_getf (v := .ref 21) rfl (q_stay o1 (by decide)) rfl rfl rfl ?_
        refine qg_pls (n := 1) (k' := 26) (lo' := [some (.ref 14), some (.int (nI n)), some (.int (nI k)), x3]) (S' := [.int (nI k), .ref 21]) (h' := (h1.1.set 25 (ai_num .int 65536 sn), h1.2)) rfl ?_
        refine qg_ald rfl (fun _ _ _ => rfl) (q_stay c21 (by decide)) (by omega) (by decide) ?_
        rw [p1]
        exact hg
      have no : ∀ (sn2 : Nat → Int32) (o : ai_O), qg L xs (d + 3) qm_195 19 [some (.ref 14), some (.int (nI n)), some (.int (nI (k + 1))), some (.int 0)] [] (h1.1.set 25 (ai_num .int 65536 sn2), h1.2) o → qg L xs (d + 3) qm_195 39 [some (.ref 14), some (.int (nI n)), some (.int (nI k)), x3] [] (h1.1.set 25 (ai_num .int 65536 sn2), h1.2) o := by
        intro sn2 o hg
        refine qg_pls (n := 3) (k' := 42) (lo' := [some (.ref 14), some (.int (nI n)), some (.int (nI k)), some (.int 0)]) (S' := [.int 0]) (h' := (h1.1.set 25 (ai_num .int 65536 sn2), h1.2)) rfl ?_
        refine qg_if true rfl (rfl) rfl ?_
        refine qg_pls (n := 4) (k' := 19) (lo' := [some (.ref 14), some (.int (nI n)), some (.int ((nI k) + 1)), some (.int 0)]) (S' := []) (h' := (h1.1.set 25 (ai_num .int 65536 sn2), h1.2)) rfl ?_
        rw [nI_1]
        exact hg
      rcases p2 with ⟨i, hi, hi2, e1, e2⟩ | ⟨kk, hkk, e1, e2⟩
      · have hcl : (nI i).toNatClampNeg = i := nI_clamp (by omega)
        have w2 : fk i = nI (zcode (ztk (zen T) i)) := (rt i hi).2.1
        have z99 := of_decide_eq_true (List.all_eq_true.mp zcode_99 (ztk (zen T) i) (List.mem_range.mpr (by omega)))
        have hzc : zcode (ztk (zen T) i) < 2 ^ 31 := by
          have := zcode_cases (show ztk (zen T) i < 104 by omega)
          omega
        have road : ∀ o, qg L xs (d + 3) qm_195 36 [some (.ref 14), some (.int (nI n)), some (.int (nI k)), x3] [.int 2, .int (nI (zcode (ztk (zen T) i)))] (h1.1.set 25 (ai_num .int 65536 sn), h1.2) o → qg L xs (d + 3) qm_195 27 [some (.ref 14), some (.int (nI n)), some (.int (nI k)), x3] [.int (nI i)] (h1.1.set 25 (ai_num .int 65536 sn), h1.2) o := by
          intro o hg
          refine qg_if false rfl (qc_lt0 (by omega)) rfl ?_
          refine qg_pls (n := 1) (k' := 29) (lo' := [some (.ref 14), some (.int (nI n)), some (.int (nI k)), x3]) (S' := [.ref 14]) (h' := (h1.1.set 25 (ai_num .int 65536 sn), h1.2)) rfl ?_
          refine qg_getf (v := .ref 19) rfl (q_stay o1 (by decide)) rfl rfl rfl ?_
          refine qg_pls (n := 1) (k' := 31) (lo' := [some (.ref 14), some (.int (nI n)), some (.int (nI k)), x3]) (S' := [.ref 14, .ref 19]) (h' := (h1.1.set 25 (ai_num .int 65536 sn), h1.2)) rfl ?_
          refine qg_getf (v := .ref 21) rfl (q_stay o1 (by decide)) rfl rfl rfl ?_
          refine qg_pls (n := 1) (k' := 33) (lo' := [some (.ref 14), some (.int (nI n)), some (.int (nI k)), x3]) (S' := [.int (nI k), .ref 21, .ref 19]) (h' := (h1.1.set 25 (ai_num .int 65536 sn), h1.2)) rfl ?_
          refine qg_ald rfl (fun _ _ _ => rfl) (q_stay c21 (by decide)) (by omega) (by decide) ?_
          rw [p1, e1]
          refine qg_ald rfl (fun _ _ _ => rfl) (q_stay r19 (by decide)) (by omega) (by decide) ?_
          rw [w2]
          refine qg_pls (n := 1) (k' := 36) (lo' := [some (.ref 14), some (.int (nI n)), some (.int (nI k)), x3]) (S' := [.int 2, .int (nI (zcode (ztk (zen T) i)))]) (h' := (h1.1.set 25 (ai_num .int 65536 sn), h1.2)) rfl ?_
          exact hg
        by_cases h99 : ztk (zen T) i = 99
        · have hj : jisn T J[k] = true := by
            unfold jisn
            rw [e1, hcl]
            exact decide_eq_true ⟨nI_pos' (by omega), h99⟩
          rw [if_pos hj]
          have hi1 : 1 ≤ i := by
            rcases Nat.eq_zero_or_pos i with q | q
            · exfalso
              subst q
              rcases hN _ (List.getElem_mem hk2) with z | z
              · exact z e1
              · exact z h99
            · exact q
          obtain ⟨sn2, h2, k1, k2, k3, k4⟩ := hnew i hi h99 hi1
          rw [e2]
          have k2 : h2 = (h1.1.set 25 (ai_num .int 65536 sn2), h1.2) := by rw [k2]; show (List.set (List.set h1.1 25 _) 25 _, _) = _; rw [List.set_set]
          subst k2
          have call : ∀ o, qg L xs (d + 3) qm_195 49 [some (.ref 14), some (.int (nI n)), some (.int (nI k)), some (.int 1)] [.int (if zit (zen T) i ∈ S then 0 else 1)] (h1.1.set 25 (ai_num .int 65536 sn2), h1.2) o → qg L xs (d + 3) qm_195 36 [some (.ref 14), some (.int (nI n)), some (.int (nI k)), x3] [.int 2, .int (nI (zcode (ztk (zen T) i)))] (h1.1.set 25 (ai_num .int 65536 sn), h1.2) o := by
            intro o hg
            rw [z99.mpr h99]
            refine qg_icmp false rfl ((show ai_cmp .ne (nI 2) 2 = false from rfl)) rfl ?_
            refine qg_pls (n := 4) (k' := 42) (lo' := [some (.ref 14), some (.int (nI n)), some (.int (nI k)), some (.int 1)]) (S' := [.int 1]) (h' := (h1.1.set 25 (ai_num .int 65536 sn), h1.2)) rfl ?_
            refine qg_if false rfl (rfl) rfl ?_
            refine qg_pls (n := 2) (k' := 45) (lo' := [some (.ref 14), some (.int (nI n)), some (.int (nI k)), some (.int 1)]) (S' := [.ref 14, .ref 14]) (h' := (h1.1.set 25 (ai_num .int 65536 sn), h1.2)) rfl ?_
            refine qg_getf (v := .ref 21) rfl (q_stay o1 (by decide)) rfl rfl rfl ?_
            refine qg_pls (n := 1) (k' := 47) (lo' := [some (.ref 14), some (.int (nI n)), some (.int (nI k)), some (.int 1)]) (S' := [.int (nI k), .ref 21, .ref 14]) (h' := (h1.1.set 25 (ai_num .int 65536 sn), h1.2)) rfl ?_
            refine qg_ald rfl (fun _ _ _ => rfl) (q_stay c21 (by decide)) (by omega) (by decide) ?_
            rw [p1, e1]
            refine qg_call (v := some (.int (if zit (zen T) i ∈ S then 0 else 1))) (h' := (h1.1.set 25 (ai_num .int 65536 sn2), h1.2)) (as := [.ref 14, .int (nI i)]) rfl rfl rfl rfl rfl rfl rfl (ai_rcv1 rfl rfl (q_stay o1 (by decide))) (k1) ?_
            show qg L xs _ qm_195 49 [some (.ref 14), some (.int (nI n)), some (.int (nI k)), some (.int 1)] [.int (if zit (zen T) i ∈ S then 0 else 1)] (h1.1.set 25 (ai_num .int 65536 sn2), h1.2) _
            exact hg
          by_cases hS : zit (zen T) i ∈ S
          · rw [if_pos hS] at k3 call
            obtain ⟨sn3, k5⟩ := ih (k + 1) n sn2 S (some (.int 1)) (by omega) (by omega) k3 k4
            refine ⟨sn3, head _ ?_⟩
            rw [e1]
            refine road _ (call _ ?_)
            rw [show zdn S (zit (zen T) i :: jnm T (J.drop (k + 1))) = zdn S (jnm T (J.drop (k + 1))) from if_pos hS]
            refine qg_if true rfl (rfl) rfl ?_
            refine qg_pls (n := 4) (k' := 19) (lo' := [some (.ref 14), some (.int (nI n)), some (.int ((nI k) + 1)), some (.int 1)]) (S' := []) (h' := (h1.1.set 25 (ai_num .int 65536 sn2), h1.2)) rfl ?_
            rw [nI_1]
            exact k5
          · rw [if_neg hS] at k3 call
            obtain ⟨sn3, k5⟩ := ih (k + 1) (n + 1) sn2 _ (some (.int 1)) (by omega) (by omega) k3 k4
            refine ⟨sn3, head _ ?_⟩
            rw [e1]
            refine road _ (call _ ?_)
            rw [show zdn S (zit (zen T) i :: jnm T (J.drop (k + 1))) = 1 + zdn (zit (zen T) i :: S) (jnm T (J.drop (k + 1))) from if_neg hS, ← Nat.add_assoc]
            refine qg_if false rfl (rfl) rfl ?_
            refine qg_pls (n := 7) (k' := 19) (lo' := [some (.ref 14), some (.int ((nI n) + 1)), some (.int ((nI k) + 1)), some (.int 1)]) (S' := []) (h' := (h1.1.set 25 (ai_num .int 65536 sn2), h1.2)) rfl ?_
            rw [nI_1, nI_1]
            exact k5
        · have hj : ¬ jisn T J[k] = true := by
            unfold jisn
            rw [e1, hcl]
            intro q
            exact h99 (of_decide_eq_true q).2
          rw [if_neg hj]
          obtain ⟨sn3, k5⟩ := ih (k + 1) n sn S (some (.int 0)) (by omega) (by omega) hb hp
          refine ⟨sn3, head _ ?_⟩
          rw [e1]
          refine road _ ?_
          refine qg_icmp true rfl ((qc_neT (b := 2) (fun q => h99 (z99.mp q)) hzc (by decide))) rfl ?_
          exact no sn _ k5
      · have hneg := of_decide_eq_true (List.all_eq_true.mp zneg_1 kk (List.mem_range.mpr hkk))
        have hj : ¬ jisn T J[k] = true := by
          unfold jisn
          rw [e1]
          intro q
          exact absurd (of_decide_eq_true q).1 (Int32.not_le.mpr hneg)
        rw [if_neg hj]
        obtain ⟨sn3, k5⟩ := ih (k + 1) n sn S (some (.int 0)) (by omega) (by omega) hb hp
        refine ⟨sn3, head _ ?_⟩
        rw [e1]
        refine qg_if true rfl ((qb_ltT hneg)) rfl ?_
        exact no sn _ k5
  have road0 : ∃ sn', qg L xs (d + 3) qm_195 5 [some (.ref 14), some (.int 0), none, none] [] h1 (.inl (some (.int (nI (zdn [] (jnm T J))))), (h1.1.set 25 (ai_num .int 65536 sn'), h1.2)) := by
    obtain ⟨sn1, z1, z2⟩ := clear 65536 0 sn0 rfl (Nat.zero_le _) (fun j hj => absurd hj (by omega))
    rw [q_same c25] at z2
    obtain ⟨sn2, k1⟩ := outer J.length 0 0 sn1 [] none rfl (Nat.zero_le _) (ztb_0 z1 (by decide) (by decide)) (fun j hj => Or.inl (z1 j hj))
    rw [List.drop_zero, Nat.zero_add] at k1
    refine ⟨sn2, z2 _ ?_⟩
    refine qg_pls (n := 4) (k' := 19) (lo' := [some (.ref 14), some (.int 0), some (.int 0), none]) (S' := []) (h' := (h1.1.set 25 (ai_num .int 65536 sn1), h1.2)) rfl ?_
    exact k1
  obtain ⟨sn', k1⟩ := road0
  refine ⟨_, ?_, (hkeep sn').1, fun i c hi hc => (hkeep sn').2 i c hi (hmv i c hi hc), hh2⟩
  refine qe_of (M := qm_195) rfl rfl ?_
  show qg L xs _ qm_195 0 [some (.ref 14), none, none, none] [] h _
  refine qg_pls (n := 2) (k' := 2) (lo' := [some (.ref 14), none, none, none]) (S' := [.int 0, .ref 14]) (h' := h) rfl ?_
  refine qg_putf rfl c14 rfl rfl (Nat.le_of_ble_eq_true rfl) rfl ?_
  show qg L xs _ qm_195 3 [some (.ref 14), none, none, none] [] (h.1.set 14 (mob (.int 0) B.length T.length cn v10 J.length v14 dp kd v17 v18 v19 v20 v21), h.2) _
  rw [hh1]
  show qg L xs _ qm_195 3 [some (.ref 14), none, none, none] [] h1 _
  refine qg_pls (n := 2) (k' := 5) (lo' := [some (.ref 14), some (.int 0), none, none]) (S' := []) (h' := h1) rfl ?_
  exact k1
end MNO
