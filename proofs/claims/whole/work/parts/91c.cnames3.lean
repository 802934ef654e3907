/-! THE CLASS COUNTS NAMES: is it new? (Printed by wip/whole/pp.py from wip/whole/src.) -/
section CNO
variable {L : Nat} {xs : Nat → Int32} {d : Nat} {h : ai_H} {r b len : Nat} {t : List Int32}
def zHc (k : Nat) (A : List Int32) : Nat := zms k (zhs A)
/-- Names.isNew -/
theorem q_isNew (hr : qrow h r b len t) (hl : t.length ≤ 1048576) {sb k k1 : Nat} {sn : Nat → Int32} {S : List (List Int32)} (h12 : h.1[12]? = some (ai_obj 2 [.ref sb])) (hk : k ≤ k1) (hk1 : k1 ≤ 20) (hsb : h.1[sb]? = some (ai_num .int (2 ^ k1) sn)) (hlt : t.length < 2 ^ k) {p : Nat} (hp : p < t.length) (hb : ztb (2 ^ k) 0 (zna t) (zHc k) sn S) (hpl : zpl (2 ^ k) (fun u => u < p) sn) : ∃ sn' h', qe L xs (d + 3) 100 [.ref 12, .ref r, .int (nI p), .int (nI (2 ^ k))] h (.inl (some (.int (if zna t p ∈ S then 0 else 1))), h') ∧ h' = (h.1.set sb (ai_num .int (2 ^ k1) sn'), h.2) ∧ ztb (2 ^ k) 0 (zna t) (zHc k) sn' (if zna t p ∈ S then S else zna t p :: S) ∧ zpl (2 ^ k) (fun u => u < p + 1) sn' := by
  have hhash := q_hash (L := L) (xs := xs) (d := d) hr hl (p := p) (by omega)
  have hsame := fun u (hu : u < p) => q_sameN (L := L) (xs := xs) (d := d) hr hl hu (show p ≤ t.length by omega)
  have hM : 0 < 2 ^ k := Nat.two_pow_pos k
  have hM20 := p2_20 hk1
  have hMk := p2_le hk
  have hk31 : k ≤ 31 := by omega
  have hzH : ∀ A, zHc k A < 2 ^ k := fun A => zms_lt k _
  have hand : ∀ x : Int32, x &&& nI (2 ^ k - 1) = nI (zms k x) := fun x => zms_and hk31 x
  have hznI : ∀ a, a < 2 ^ 31 → zms k (nI a) = a % 2 ^ k := fun a ha => zms_nI ha
  have hzc : ∀ A, zHc k A = zms k (zhs A) := fun _ => rfl
  generalize 2 ^ k = M at hM hMk hlt hb hpl hzH hand hznI ⊢
  generalize 2 ^ k1 = sl at hM20 hMk hsb ⊢
  generalize hB : zna t p = B at hhash hsame ⊢
  generalize hH : zHc k = H at hb hzH hzc ⊢
  obtain ⟨r0, hr0M, hfree⟩ := ztb_free hM (by omega) hb (H B)
  have look : ∀ (m r1 : Nat), r0 - r1 = m → r1 ≤ r0 → (∀ r', r' < r1 → sn ((H B + r') % M) ≠ 0 ∧ ∀ t', 0 ≤ t' → t' + 1 < 0 + M → sn ((H B + r') % M) = nI (t' + 1) → zna t t' ≠ B) → ∃ sn' h', qg L xs (d + 2) qm_100 10 [some (.ref 12), some (.ref r), some (.int (nI p)), some (.int (nI M)), some (.int (nI ((H B + r1) % M))), some (.int (nI r1))] [] h (.inl (some (.int (if B ∈ S then 0 else 1))), h') ∧ h' = (h.1.set sb (ai_num .int sl sn'), h.2) ∧ ztb M 0 (zna t) H sn' (if B ∈ S then S else B :: S) ∧ zpl M (fun u => u < p + 1) sn' := by
    intro m
    induction m with
    | zero =>
      intro r1 hm hrr hpr
      have e1 : r1 = r0 := by omega
      subst e1
      have hnS := ztb_not (by omega) hb hpr hfree
      have hins := ztb_ins (t := p) hM (by omega) hb hnS hr0M (fun r' q => (hpr r' q).1) hfree (Nat.zero_le _) (by omega) hB
      rw [if_neg hnS, if_neg hnS]
      have hsl : (H B + r1) % M < M := Nat.mod_lt _ hM
      generalize (H B + r1) % M = w at hins hfree hsl ⊢
      refine ⟨upd sn w (nI (p + 1)), _, ?_, rfl, hins, ?_⟩
      · skip
        refine qg_pls (n := 2) (k' := 12) (lo' := [some (.ref 12), some (.ref r), some (.int (nI p)), some (.int (nI M)), some (.int (nI w)), some (.int (nI r1))]) (S' := [.int (nI M), .int (nI r1)]) (h' := h) rfl ?_
        refine qg_icmp false rfl (qc_geF (by omega) (by omega)) rfl ?_
        refine qg_pls (n := 1) (k' := 14) (lo' := [some (.ref 12), some (.ref r), some (.int (nI p)), some (.int (nI M)), some (.int (nI w)), some (.int (nI r1))]) (S' := [.int (nI w)]) (h' := h) rfl ?_
        refine qg_if false rfl (qc_lt0 (by omega)) rfl ?_
        refine qg_pls (n := 2) (k' := 17) (lo' := [some (.ref 12), some (.ref r), some (.int (nI p)), some (.int (nI M)), some (.int (nI w)), some (.int (nI r1))]) (S' := [.ref 12, .int (nI w)]) (h' := h) rfl ?_
        refine qg_getf (v := .ref sb) rfl h12 rfl rfl rfl ?_
        refine qg_alen rfl hsb ?_
        refine qg_icmp false rfl (qc_geF (by omega) (by omega)) rfl ?_
        refine qg_pls (n := 1) (k' := 21) (lo' := [some (.ref 12), some (.ref r), some (.int (nI p)), some (.int (nI M)), some (.int (nI w)), some (.int (nI r1))]) (S' := [.ref 12]) (h' := h) rfl ?_
        refine qg_getf (v := .ref sb) rfl h12 rfl rfl rfl ?_
        refine qg_pls (n := 1) (k' := 23) (lo' := [some (.ref 12), some (.ref r), some (.int (nI p)), some (.int (nI M)), some (.int (nI w)), some (.int (nI r1))]) (S' := [.int (nI w), .ref sb]) (h' := h) rfl ?_
        refine qg_ald rfl (fun _ _ _ => rfl) hsb (by omega) (by omega) ?_
        rw [hfree]
        refine qg_if false rfl (rfl) rfl ?_
        refine qg_pls (n := 1) (k' := 26) (lo' := [some (.ref 12), some (.ref r), some (.int (nI p)), some (.int (nI M)), some (.int (nI w)), some (.int (nI r1))]) (S' := [.ref 12]) (h' := h) rfl ?_
        refine qg_getf (v := .ref sb) rfl h12 rfl rfl rfl ?_
        refine qg_pls (n := 4) (k' := 31) (lo' := [some (.ref 12), some (.ref r), some (.int (nI p)), some (.int (nI M)), some (.int (nI w)), some (.int (nI r1))]) (S' := [.int ((nI p) + 1), .int (nI w), .ref sb]) (h' := h) rfl ?_
        rw [nI_1]
        refine qg_ast rfl (fun _ _ _ => rfl) hsb (by omega) (by omega) ?_
        show qg L xs _ qm_100 32 [some (.ref 12), some (.ref r), some (.int (nI p)), some (.int (nI M)), some (.int (nI w)), some (.int (nI r1))] [] (h.1.set sb (ai_num .int sl (upd sn w (nI (p + 1)))), h.2) _
        refine qg_pls (n := 1) (k' := 33) (lo' := [some (.ref 12), some (.ref r), some (.int (nI p)), some (.int (nI M)), some (.int (nI w)), some (.int (nI r1))]) (S' := [.int 1]) (h' := (h.1.set sb (ai_num .int sl (upd sn w (nI (p + 1)))), h.2)) rfl ?_
        exact qg_ret5 rfl rfl rfl
      · intro j hj
        show (if j = w then nI (p + 1) else sn j) = 0 ∨ ∃ t', (if j = w then nI (p + 1) else sn j) = nI (t' + 1) ∧ _
        by_cases hjs : j = w
        · rw [if_pos hjs]; exact Or.inr ⟨p, rfl, Nat.lt_succ_self p⟩
        · rw [if_neg hjs]
          rcases hpl j hj with z | ⟨u, z1, z2⟩
          · exact Or.inl z
          · exact Or.inr ⟨u, z1, Nat.lt_succ_of_lt z2⟩
    | succ m ih =>
      intro r1 hm hrr hpr
      by_cases h0 : sn ((H B + r1) % M) = 0
      · have hnS := ztb_not (by omega) hb hpr h0
        have hins := ztb_ins (t := p) hM (by omega) hb hnS (by omega) (fun r' q => (hpr r' q).1) h0 (Nat.zero_le _) (by omega) hB
        rw [if_neg hnS, if_neg hnS]
        have hsl : (H B + r1) % M < M := Nat.mod_lt _ hM
        generalize (H B + r1) % M = w at hins h0 hsl ⊢
        refine ⟨upd sn w (nI (p + 1)), _, ?_, rfl, hins, ?_⟩
        · skip
          refine qg_pls (n := 2) (k' := 12) (lo' := [some (.ref 12), some (.ref r), some (.int (nI p)), some (.int (nI M)), some (.int (nI w)), some (.int (nI r1))]) (S' := [.int (nI M), .int (nI r1)]) (h' := h) rfl ?_
          refine qg_icmp false rfl (qc_geF (by omega) (by omega)) rfl ?_
          refine qg_pls (n := 1) (k' := 14) (lo' := [some (.ref 12), some (.ref r), some (.int (nI p)), some (.int (nI M)), some (.int (nI w)), some (.int (nI r1))]) (S' := [.int (nI w)]) (h' := h) rfl ?_
          refine qg_if false rfl (qc_lt0 (by omega)) rfl ?_
          refine qg_pls (n := 2) (k' := 17) (lo' := [some (.ref 12), some (.ref r), some (.int (nI p)), some (.int (nI M)), some (.int (nI w)), some (.int (nI r1))]) (S' := [.ref 12, .int (nI w)]) (h' := h) rfl ?_
          refine qg_getf (v := .ref sb) rfl h12 rfl rfl rfl ?_
          refine qg_alen rfl hsb ?_
          refine qg_icmp false rfl (qc_geF (by omega) (by omega)) rfl ?_
          refine qg_pls (n := 1) (k' := 21) (lo' := [some (.ref 12), some (.ref r), some (.int (nI p)), some (.int (nI M)), some (.int (nI w)), some (.int (nI r1))]) (S' := [.ref 12]) (h' := h) rfl ?_
          refine qg_getf (v := .ref sb) rfl h12 rfl rfl rfl ?_
          refine qg_pls (n := 1) (k' := 23) (lo' := [some (.ref 12), some (.ref r), some (.int (nI p)), some (.int (nI M)), some (.int (nI w)), some (.int (nI r1))]) (S' := [.int (nI w), .ref sb]) (h' := h) rfl ?_
          refine qg_ald rfl (fun _ _ _ => rfl) hsb (by omega) (by omega) ?_
          rw [h0]
          refine qg_if false rfl (rfl) rfl ?_
          refine qg_pls (n := 1) (k' := 26) (lo' := [some (.ref 12), some (.ref r), some (.int (nI p)), some (.int (nI M)), some (.int (nI w)), some (.int (nI r1))]) (S' := [.ref 12]) (h' := h) rfl ?_
          refine qg_getf (v := .ref sb) rfl h12 rfl rfl rfl ?_
          refine qg_pls (n := 4) (k' := 31) (lo' := [some (.ref 12), some (.ref r), some (.int (nI p)), some (.int (nI M)), some (.int (nI w)), some (.int (nI r1))]) (S' := [.int ((nI p) + 1), .int (nI w), .ref sb]) (h' := h) rfl ?_
          rw [nI_1]
          refine qg_ast rfl (fun _ _ _ => rfl) hsb (by omega) (by omega) ?_
          show qg L xs _ qm_100 32 [some (.ref 12), some (.ref r), some (.int (nI p)), some (.int (nI M)), some (.int (nI w)), some (.int (nI r1))] [] (h.1.set sb (ai_num .int sl (upd sn w (nI (p + 1)))), h.2) _
          refine qg_pls (n := 1) (k' := 33) (lo' := [some (.ref 12), some (.ref r), some (.int (nI p)), some (.int (nI M)), some (.int (nI w)), some (.int (nI r1))]) (S' := [.int 1]) (h' := (h.1.set sb (ai_num .int sl (upd sn w (nI (p + 1)))), h.2)) rfl ?_
          exact qg_ret5 rfl rfl rfl
        · intro j hj
          show (if j = w then nI (p + 1) else sn j) = 0 ∨ ∃ t', (if j = w then nI (p + 1) else sn j) = nI (t' + 1) ∧ _
          by_cases hjs : j = w
          · rw [if_pos hjs]; exact Or.inr ⟨p, rfl, Nat.lt_succ_self p⟩
          · rw [if_neg hjs]
            rcases hpl j hj with z | ⟨u, z1, z2⟩
            · exact Or.inl z
            · exact Or.inr ⟨u, z1, Nat.lt_succ_of_lt z2⟩
      · have hsl : (H B + r1) % M < M := Nat.mod_lt _ hM
        rcases hb.1 _ hsl with q | ⟨t', q1, q2, q3, q4⟩
        · exact absurd q h0
        rcases hpl _ hsl with q | ⟨t2, q5, q6⟩
        · exact absurd q h0
        have q6 : t2 < p := q6
        have e2 : t2 = t' := by
          rw [q3] at q5
          have := (nI_eq (by omega) (by omega)).mp q5
          omega
        subst e2
        have hsm := hsame t2 q6
        have hne : ¬ nI (t2 + 1) = 0 := nI_nz (by omega) (by omega)
        have road : ∀ o, qg L xs (d + 2) qm_100 43 [some (.ref 12), some (.ref r), some (.int (nI p)), some (.int (nI M)), some (.int (nI ((H B + r1) % M))), some (.int (nI r1))] [.int (if zna t t2 = B then 1 else 0)] h o → qg L xs (d + 2) qm_100 10 [some (.ref 12), some (.ref r), some (.int (nI p)), some (.int (nI M)), some (.int (nI ((H B + r1) % M))), some (.int (nI r1))] [] h o := by
          intro o hg
          generalize (H B + r1) % M = w at hsl q3 hg ⊢
          refine qg_pls (n := 2) (k' := 12) (lo' := [some (.ref 12), some (.ref r), some (.int (nI p)), some (.int (nI M)), some (.int (nI w)), some (.int (nI r1))]) (S' := [.int (nI M), .int (nI r1)]) (h' := h) rfl ?_
          refine qg_icmp false rfl (qc_geF (by omega) (by omega)) rfl ?_
          refine qg_pls (n := 1) (k' := 14) (lo' := [some (.ref 12), some (.ref r), some (.int (nI p)), some (.int (nI M)), some (.int (nI w)), some (.int (nI r1))]) (S' := [.int (nI w)]) (h' := h) rfl ?_
          refine qg_if false rfl (qc_lt0 (by omega)) rfl ?_
          refine qg_pls (n := 2) (k' := 17) (lo' := [some (.ref 12), some (.ref r), some (.int (nI p)), some (.int (nI M)), some (.int (nI w)), some (.int (nI r1))]) (S' := [.ref 12, .int (nI w)]) (h' := h) rfl ?_
          refine qg_getf (v := .ref sb) rfl h12 rfl rfl rfl ?_
          refine qg_alen rfl hsb ?_
          refine qg_icmp false rfl (qc_geF (by omega) (by omega)) rfl ?_
          refine qg_pls (n := 1) (k' := 21) (lo' := [some (.ref 12), some (.ref r), some (.int (nI p)), some (.int (nI M)), some (.int (nI w)), some (.int (nI r1))]) (S' := [.ref 12]) (h' := h) rfl ?_
          refine qg_getf (v := .ref sb) rfl h12 rfl rfl rfl ?_
          refine qg_pls (n := 1) (k' := 23) (lo' := [some (.ref 12), some (.ref r), some (.int (nI p)), some (.int (nI M)), some (.int (nI w)), some (.int (nI r1))]) (S' := [.int (nI w), .ref sb]) (h' := h) rfl ?_
          refine qg_ald rfl (fun _ _ _ => rfl) hsb (by omega) (by omega) ?_
          rw [q3]
          refine qg_if true rfl ((qb_neT hne)) rfl ?_
          refine qg_pls (n := 2) (k' := 36) (lo' := [some (.ref 12), some (.ref r), some (.int (nI p)), some (.int (nI M)), some (.int (nI w)), some (.int (nI r1))]) (S' := [.ref 12, .ref r]) (h' := h) rfl ?_
          refine qg_getf (v := .ref sb) rfl h12 rfl rfl rfl ?_
          refine qg_pls (n := 1) (k' := 38) (lo' := [some (.ref 12), some (.ref r), some (.int (nI p)), some (.int (nI M)), some (.int (nI w)), some (.int (nI r1))]) (S' := [.int (nI w), .ref sb, .ref r]) (h' := h) rfl ?_
          refine qg_ald rfl (fun _ _ _ => rfl) hsb (by omega) (by omega) ?_
          rw [q3]
          refine qg_pls (n := 3) (k' := 42) (lo' := [some (.ref 12), some (.ref r), some (.int (nI p)), some (.int (nI M)), some (.int (nI w)), some (.int (nI r1))]) (S' := [.int (nI p), .int ((nI (t2 + 1)) - 1), .ref r]) (h' := h) rfl ?_
          rw [show nI (t2 + 1) - 1 = nI t2 from nI_sub (a := t2 + 1) (b := 1) (by omega)]
          refine qg_call (v := some (.int (if zna t t2 = B then 1 else 0))) (h' := h) (as := [.ref r, .int (nI t2), .int (nI p)]) rfl rfl rfl rfl rfl rfl rfl rfl (hsm) ?_
          show qg L xs _ qm_100 43 [some (.ref 12), some (.ref r), some (.int (nI p)), some (.int (nI M)), some (.int (nI w)), some (.int (nI r1))] [.int (if zna t t2 = B then 1 else 0)] h _
          exact hg
        by_cases hs : zna t t2 = B
        · have hS : B ∈ S := by rw [← hs]; exact q4
          rw [if_pos hS, if_pos hS]
          refine ⟨sn, h, ?_, ?_, hb, fun j hj => ?_⟩
          · refine road _ ?_
            rw [if_pos hs]
            refine qg_if false rfl (rfl) rfl ?_
            refine qg_pls (n := 1) (k' := 45) (lo' := [some (.ref 12), some (.ref r), some (.int (nI p)), some (.int (nI M)), some (.int (nI ((H B + r1) % M))), some (.int (nI r1))]) (S' := [.int 0]) (h' := h) rfl ?_
            exact qg_ret5 rfl rfl rfl
          · rw [q_same hsb]
          · rcases hpl j hj with z | ⟨u, z1, z2⟩
            · exact Or.inl z
            · exact Or.inr ⟨u, z1, Nat.lt_succ_of_lt z2⟩
        · obtain ⟨sn', h', k1, k2, k3, k4⟩ := ih (r1 + 1) (by omega) (by omega) (by
            intro r' hr'
            by_cases hrr2 : r' < r1
            · exact hpr r' hrr2
            · have : r' = r1 := by omega
              subst this
              refine ⟨h0, fun t' z1 z2 z3 => ?_⟩
              rw [q3] at z3
              have := (nI_eq (by omega) (by omega)).mp z3
              have : t2 = t' := by omega
              subst this
              exact hs)
          refine ⟨sn', h', road _ ?_, k2, k3, k4⟩
          rw [if_neg hs]
          refine qg_if true rfl (rfl) rfl ?_
          refine qg_pls (n := 10) (k' := 10) (lo' := [some (.ref 12), some (.ref r), some (.int (nI p)), some (.int (nI M)), some (.int (((nI ((H B + r1) % M)) + 1) &&& ((nI M) - 1))), some (.int ((nI r1) + 1))]) (S' := []) (h' := h) rfl ?_
          rw [show (nI ((H B + r1) % M) + 1) &&& (nI M - 1) = nI ((H B + (r1 + 1)) % M) by
            rw [nI_1, show nI M - 1 = nI (M - 1) from nI_sub (a := M) (b := 1) (by omega), hand, hznI _ (by omega)]
            exact congrArg nI (by rw [Nat.mod_add_mod, Nat.add_assoc]), nI_1]
          exact k1
  obtain ⟨sn', h', k1, k2, k3, k4⟩ := look r0 0 (by omega) (Nat.zero_le _) (fun r' hr' => absurd hr' (by omega))
  refine ⟨sn', h', ?_, k2, k3, k4⟩
  refine qe_of (M := qm_100) rfl rfl ?_
  show qg L xs _ qm_100 0 [some (.ref 12), some (.ref r), some (.int (nI p)), some (.int (nI M)), none, none] [] h _
  refine qg_pls (n := 2) (k' := 2) (lo' := [some (.ref 12), some (.ref r), some (.int (nI p)), some (.int (nI M)), none, none]) (S' := [.int (nI p), .ref r]) (h' := h) rfl ?_
  refine qg_call (v := some (.int (zhs B))) (h' := h) (as := [.ref r, .int (nI p)]) rfl rfl rfl rfl rfl rfl rfl rfl (hhash) ?_
  show qg L xs _ qm_100 3 [some (.ref 12), some (.ref r), some (.int (nI p)), some (.int (nI M)), none, none] [.int (zhs B)] h _
  refine qg_pls (n := 7) (k' := 10) (lo' := [some (.ref 12), some (.ref r), some (.int (nI p)), some (.int (nI M)), some (.int ((zhs B) &&& ((nI M) - 1))), some (.int 0)]) (S' := []) (h' := h) rfl ?_
  rw [show zhs B &&& (nI M - 1) = nI ((H B + 0) % M) by
    rw [show nI M - 1 = nI (M - 1) from nI_sub (a := M) (b := 1) (by omega), hand, ← hzc]
    exact congrArg nI (Nat.mod_eq_of_lt (hzH B)).symm]
  exact k1
end CNO
