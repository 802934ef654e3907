/-! THE CLASS COUNTS NAMES: the table. (Printed by wip/whole/pp.py from wip/whole/src.) -/
section CNN
variable {L : Nat} {xs : Nat → Int32} {d : Nat} {h : ai_H} {r b len : Nat} {t : List Int32}
/-- the table of names: where it lies, how large it is -/
def qnc (h : ai_H) (sb k : Nat) : Prop := h.1[12]? = some (ai_obj 2 [.ref sb]) ∧ 4 ≤ k ∧ k ≤ 20 ∧ ∃ f, h.1[sb]? = some (ai_num .int (2 ^ k) f)
def qnv (h : ai_H) (sb k : Nat) (h' : ai_H) (sb' k' : Nat) : Prop := h.1.length ≤ h'.1.length ∧ (∀ i, i ≠ 12 → i ≠ sb → i < h.1.length → h'.1[i]? = h.1[i]?) ∧ (sb' = sb ∨ h.1.length ≤ sb') ∧ 16 * h'.2.1 + 2 ^ k ≤ 16 * h.2.1 + 2 ^ k' ∧ h'.2.2 + 2 * 2 ^ k ≤ h.2.2 + 2 * 2 ^ k'
theorem p2_le {a b : Nat} (h : a ≤ b) : 2 ^ a ≤ 2 ^ b := Nat.pow_le_pow_right (by decide) h
theorem p2_20 {k : Nat} (h : k ≤ 20) : 2 ^ k ≤ 1048576 := Nat.le_trans (p2_le h) (by decide)
/-- Names.clearSlots -/
theorem q_clear {sb k0 n : Nat} (hn : qnc h sb k0) (hn2 : n ≤ 524288) : ∃ k h' sb' k' f', qe L xs (d + 1) 99 [.ref 12, .int (nI n)] h (.inl (some (.int (nI (2 ^ k)))), h') ∧ n < 2 ^ k ∧ k ≤ k' ∧ h'.1[12]? = some (ai_obj 2 [.ref sb']) ∧ 4 ≤ k' ∧ k' ≤ 20 ∧ h'.1[sb']? = some (ai_num .int (2 ^ k') f') ∧ (∀ j, j < 2 ^ k → f' j = 0) ∧ qnv h sb k0 h' sb' k' := by
  obtain ⟨h12, hk4, hk20, f, hsb⟩ := hn
  have hne : sb ≠ 12 := fun q => by
    rw [q, h12] at hsb
    cases hsb
  have grow : ∀ (m i : Nat), 16 - i = m → i ≤ 16 → ∃ k j, 4 + i ≤ k ∧ k ≤ 20 ∧ n < 2 ^ k ∧ ∀ o, qg L xs d qm_99 16 [some (.ref 12), some (.int (nI n)), some (.int (nI (2 ^ k))), some (.int (nI j))] [] h o → qg L xs d qm_99 4 [some (.ref 12), some (.int (nI n)), some (.int (nI (2 ^ (4 + i)))), some (.int (nI i))] [] h o := by
    intro m
    induction m with
    | zero =>
      intro i hm hi
      have e1 : i = 16 := by omega
      subst e1
      refine ⟨20, 16, by omega, by omega, by omega, fun o hg => ?_⟩
      refine qg_pls (n := 2) (k' := 6) (lo' := [some (.ref 12), some (.int (nI n)), some (.int (nI (2 ^ 20))), some (.int (nI 16))]) (S' := [.int 25, .int (nI 16)]) (h' := h) rfl ?_
      refine qg_icmp false rfl (rfl) rfl ?_
      refine qg_pls (n := 2) (k' := 9) (lo' := [some (.ref 12), some (.int (nI n)), some (.int (nI (2 ^ 20))), some (.int (nI 16))]) (S' := [.int (nI n), .int (nI (2 ^ 20))]) (h' := h) rfl ?_
      refine qg_icmp true rfl (qc_gtT (by omega) (by omega)) rfl ?_
      exact hg
    | succ m ih =>
      intro i hm hi
      have hp := p2_20 (k := 4 + i) (by omega)
      by_cases hlt : n < 2 ^ (4 + i)
      · refine ⟨4 + i, i, by omega, by omega, hlt, fun o hg => ?_⟩
        generalize 2 ^ (4 + i) = sp at hp hlt hg ⊢
        refine qg_pls (n := 2) (k' := 6) (lo' := [some (.ref 12), some (.int (nI n)), some (.int (nI sp)), some (.int (nI i))]) (S' := [.int 25, .int (nI i)]) (h' := h) rfl ?_
        refine qg_icmp false rfl ((qc_geF (b := 25) (by omega) (by decide))) rfl ?_
        refine qg_pls (n := 2) (k' := 9) (lo' := [some (.ref 12), some (.int (nI n)), some (.int (nI sp)), some (.int (nI i))]) (S' := [.int (nI n), .int (nI sp)]) (h' := h) rfl ?_
        refine qg_icmp true rfl (qc_gtT hlt (by omega)) rfl ?_
        exact hg
      · obtain ⟨k, j, a1, a2, a3, a4⟩ := ih (i + 1) (by omega) (by omega)
        refine ⟨k, j, by omega, a2, a3, fun o hg => ?_⟩
        have a4 := a4 o hg
        rw [show 4 + (i + 1) = 4 + i + 1 by omega, Nat.pow_succ] at a4
        generalize 2 ^ (4 + i) = sp at hp hlt a4 ⊢
        refine qg_pls (n := 2) (k' := 6) (lo' := [some (.ref 12), some (.int (nI n)), some (.int (nI sp)), some (.int (nI i))]) (S' := [.int 25, .int (nI i)]) (h' := h) rfl ?_
        refine qg_icmp false rfl ((qc_geF (b := 25) (by omega) (by decide))) rfl ?_
        refine qg_pls (n := 2) (k' := 9) (lo' := [some (.ref 12), some (.int (nI n)), some (.int (nI sp)), some (.int (nI i))]) (S' := [.int (nI n), .int (nI sp)]) (h' := h) rfl ?_
        refine qg_icmp false rfl (qc_gtF (by omega) (by omega)) rfl ?_
        refine qg_pls (n := 6) (k' := 4) (lo' := [some (.ref 12), some (.int (nI n)), some (.int ((nI sp) * 2)), some (.int ((nI i) + 1))]) (S' := []) (h' := h) rfl ?_
        rw [nI_2, nI_1]
        exact a4
  obtain ⟨k, j0, a1, a2, a3, a4⟩ := grow 16 0 rfl (by omega)
  have hpk := p2_20 a2
  have hpk0 := p2_20 hk20
  have clear : ∀ (h1 : ai_H) (sb1 k1 : Nat), h1.1[12]? = some (ai_obj 2 [.ref sb1]) → sb1 ≠ 12 → k ≤ k1 → k1 ≤ 20 → ∀ (m i : Nat) (g : Nat → Int32), 2 ^ k - i = m → i ≤ 2 ^ k → h1.1[sb1]? = some (ai_num .int (2 ^ k1) g) → (∀ j, j < i → g j = 0) → ∃ g', (∀ j, j < 2 ^ k → g' j = 0) ∧ qg L xs d qm_99 27 [some (.ref 12), some (.int (nI n)), some (.int (nI (2 ^ k))), some (.int (nI i))] [] h1 (.inl (some (.int (nI (2 ^ k)))), (h1.1.set sb1 (ai_num .int (2 ^ k1) g'), h1.2)) := by
    intro h1 sb1 k1 q12 hne1 hkk hk1 m
    have hpk1 := p2_20 hk1
    have hkk2 := p2_le hkk
    generalize hsp : 2 ^ k = sp at hpk hkk2 ⊢
    generalize hsl : 2 ^ k1 = sl at hpk1 hkk2 ⊢
    intro i
    induction m generalizing i h1 with
    | zero =>
      intro g hm hi c1 hz
      refine ⟨g, fun j hj => hz j (by omega), ?_⟩
      rw [q_same c1]
      refine qg_pls (n := 2) (k' := 29) (lo' := [some (.ref 12), some (.int (nI n)), some (.int (nI sp)), some (.int (nI i))]) (S' := [.int (nI sp), .int (nI i)]) (h' := h1) rfl ?_
      refine qg_icmp true rfl (qc_geT (by omega) (by omega)) rfl ?_
      refine qg_pls (n := 1) (k' := 43) (lo' := [some (.ref 12), some (.int (nI n)), some (.int (nI sp)), some (.int (nI i))]) (S' := [.int (nI sp)]) (h' := h1) rfl ?_
      exact qg_ret5 rfl rfl rfl
    | succ m ih =>
      intro g hm hi c1 hz
      obtain ⟨g', z1, z2⟩ := ih (h1.1.set sb1 (ai_num .int sl (upd g i 0)), h1.2) (q_stay q12 hne1) (i + 1) (upd g i 0) (by omega) (by omega) (q_set c1) (fun j hj => by
        show (if j = i then (0 : Int32) else g j) = 0
        split
        · rfl
        · exact hz j (by omega))
      refine ⟨g', z1, ?_⟩
      rw [show ((h1.1.set sb1 (ai_num .int sl g'), h1.2) : ai_H) = (((h1.1.set sb1 (ai_num .int sl (upd g i 0)), h1.2) : ai_H).1.set sb1 (ai_num .int sl g'), h1.2) by rw [List.set_set]]
      refine qg_pls (n := 2) (k' := 29) (lo' := [some (.ref 12), some (.int (nI n)), some (.int (nI sp)), some (.int (nI i))]) (S' := [.int (nI sp), .int (nI i)]) (h' := h1) rfl ?_
      refine qg_icmp false rfl (qc_geF (by omega) (by omega)) rfl ?_
      refine qg_pls (n := 2) (k' := 32) (lo' := [some (.ref 12), some (.int (nI n)), some (.int (nI sp)), some (.int (nI i))]) (S' := [.ref 12, .int (nI i)]) (h' := h1) rfl ?_
      refine qg_getf (v := .ref sb1) rfl q12 rfl rfl rfl ?_
      refine qg_alen rfl c1 ?_
      refine qg_icmp false rfl (qc_geF (by omega) (by omega)) rfl ?_
      refine qg_pls (n := 1) (k' := 36) (lo' := [some (.ref 12), some (.int (nI n)), some (.int (nI sp)), some (.int (nI i))]) (S' := [.ref 12]) (h' := h1) rfl ?_
      refine qg_getf (v := .ref sb1) rfl q12 rfl rfl rfl ?_
      refine qg_pls (n := 2) (k' := 39) (lo' := [some (.ref 12), some (.int (nI n)), some (.int (nI sp)), some (.int (nI i))]) (S' := [.int 0, .int (nI i), .ref sb1]) (h' := h1) rfl ?_
      refine qg_ast rfl (fun _ _ _ => rfl) c1 (by omega) (by omega) ?_
      show qg L xs _ qm_99 40 [some (.ref 12), some (.int (nI n)), some (.int (nI sp)), some (.int (nI i))] [] (h1.1.set sb1 (ai_num .int sl (upd g i 0)), h1.2) _
      refine qg_pls (n := 2) (k' := 27) (lo' := [some (.ref 12), some (.int (nI n)), some (.int (nI sp)), some (.int ((nI i) + 1))]) (S' := []) (h' := (h1.1.set sb1 (ai_num .int sl (upd g i 0)), h1.2)) rfl ?_
      rw [nI_1]
      exact z2
  have first : ∀ o, qg L xs d qm_99 16 [some (.ref 12), some (.int (nI n)), some (.int (nI (2 ^ k))), some (.int (nI j0))] [] h o → qe L xs (d + 1) 99 [.ref 12, .int (nI n)] h o := by
    intro o hg
    refine qe_of (M := qm_99) rfl rfl ?_
    show qg L xs _ qm_99 0 [some (.ref 12), some (.int (nI n)), none, none] [] h _
    refine qg_pls (n := 4) (k' := 4) (lo' := [some (.ref 12), some (.int (nI n)), some (.int 16), some (.int 0)]) (S' := []) (h' := h) rfl ?_
    exact a4 o hg
  by_cases hbig : 2 ^ k ≤ 2 ^ k0
  · have hkk : k ≤ k0 := by
      rcases Nat.lt_or_ge k0 k with q | q
      · have := Nat.pow_lt_pow_right (a := 2) (by decide) q
        omega
      · exact q
    obtain ⟨g', z1, z2⟩ := clear h sb k0 h12 hne hkk hk20 _ 0 f rfl (Nat.zero_le _) hsb (fun j hj => absurd hj (by omega))
    refine ⟨k, (h.1.set sb (ai_num .int (2 ^ k0) g'), h.2), sb, k0, g', first _ ?_, a3, hkk, q_stay h12 hne, hk4, hk20, q_set hsb, z1, ?_, ?_, Or.inl rfl, by show 16 * h.2.1 + _ ≤ _; omega, by show h.2.2 + _ ≤ _; omega⟩
    · generalize hsp : 2 ^ k = sp at hpk hbig z2 ⊢
      generalize hsl : 2 ^ k0 = sl at hpk0 hbig hsb z2 ⊢
      refine qg_pls (n := 1) (k' := 17) (lo' := [some (.ref 12), some (.int (nI n)), some (.int (nI sp)), some (.int (nI j0))]) (S' := [.ref 12]) (h' := h) rfl ?_
      refine qg_getf (v := .ref sb) rfl h12 rfl rfl rfl ?_
      refine qg_alen rfl hsb ?_
      refine qg_pls (n := 1) (k' := 20) (lo' := [some (.ref 12), some (.int (nI n)), some (.int (nI sp)), some (.int (nI j0))]) (S' := [.int (nI sp), .int (nI sl)]) (h' := h) rfl ?_
      refine qg_icmp true rfl (qc_geT hbig (by omega)) rfl ?_
      refine qg_pls (n := 2) (k' := 27) (lo' := [some (.ref 12), some (.int (nI n)), some (.int (nI sp)), some (.int 0)]) (S' := []) (h' := h) rfl ?_
      exact z2
    · rw [List.length_set]; exact Nat.le_refl _
    · intro i i1 i2 i3
      exact List.getElem?_set_ne (Ne.symm i2)
  · have hd : 2 * 2 ^ k0 ≤ 2 ^ k := by
      rcases Nat.lt_or_ge k0 k with q | q
      · have := p2_le (show k0 + 1 ≤ k by omega)
        rw [Nat.pow_succ] at this
        omega
      · exact absurd (p2_le q) hbig
    have h16 : 16 ≤ 2 ^ k0 := p2_le (a := 4) hk4
    have hlen : 12 < h.1.length := q_lt h12
    obtain ⟨g', z1, z2⟩ := clear ((h.1 ++ [ai_num .int (2 ^ k) (fun _ => 0)]).set 12 (ai_obj 2 [.ref h.1.length]), h.2.1 + 1, h.2.2 + 2 ^ k) h.1.length k (q_set (q_app h12)) (by omega) (Nat.le_refl _) a2 _ 0 (fun _ => 0) rfl (Nat.zero_le _) (q_stay q_new (by omega)) (fun j hj => absurd hj (by omega))
    refine ⟨k, (((h.1 ++ [ai_num .int (2 ^ k) (fun _ => 0)]).set 12 (ai_obj 2 [.ref h.1.length])).set h.1.length (ai_num .int (2 ^ k) g'), h.2.1 + 1, h.2.2 + 2 ^ k), h.1.length, k, g', first _ ?_, a3, Nat.le_refl _, q_stay (q_set (q_app h12)) (by omega), by omega, a2, q_set (q_stay q_new (by omega)), z1, ?_, ?_, Or.inr (Nat.le_refl _), by show 16 * (h.2.1 + 1) + _ ≤ _; omega, by show h.2.2 + 2 ^ k + _ ≤ _; omega⟩
    · generalize hsp : 2 ^ k = sp at hpk hbig z2 ⊢
      generalize hsl : 2 ^ k0 = sl at hpk0 hbig hsb ⊢
      refine qg_pls (n := 1) (k' := 17) (lo' := [some (.ref 12), some (.int (nI n)), some (.int (nI sp)), some (.int (nI j0))]) (S' := [.ref 12]) (h' := h) rfl ?_
      refine qg_getf (v := .ref sb) rfl h12 rfl rfl rfl ?_
      refine qg_alen rfl hsb ?_
      refine qg_pls (n := 1) (k' := 20) (lo' := [some (.ref 12), some (.int (nI n)), some (.int (nI sp)), some (.int (nI j0))]) (S' := [.int (nI sp), .int (nI sl)]) (h' := h) rfl ?_
      refine qg_icmp false rfl (qc_geF (by omega) (by omega)) rfl ?_
      refine qg_pls (n := 2) (k' := 23) (lo' := [some (.ref 12), some (.int (nI n)), some (.int (nI sp)), some (.int (nI j0))]) (S' := [.int (nI sp), .ref 12]) (h' := h) rfl ?_
      refine qg_newa rfl (hpk) (by decide) ?_
      show qg L xs _ qm_99 24 [some (.ref 12), some (.int (nI n)), some (.int (nI sp)), some (.int (nI j0))] [.ref h.1.length, .ref 12] (h.1 ++ [ai_num .int sp (fun _ => 0)], h.2.1 + 1, h.2.2 + sp) _
      refine qg_putf rfl (q_app h12) rfl rfl (Nat.le_of_ble_eq_true rfl) rfl ?_
      show qg L xs _ qm_99 25 [some (.ref 12), some (.int (nI n)), some (.int (nI sp)), some (.int (nI j0))] [] ((h.1 ++ [ai_num .int sp (fun _ => 0)]).set 12 (ai_obj 2 [.ref h.1.length]), h.2.1 + 1, h.2.2 + sp) _
      refine qg_pls (n := 2) (k' := 27) (lo' := [some (.ref 12), some (.int (nI n)), some (.int (nI sp)), some (.int 0)]) (S' := []) (h' := ((h.1 ++ [ai_num .int sp (fun _ => 0)]).set 12 (ai_obj 2 [.ref h.1.length]), h.2.1 + 1, h.2.2 + sp)) rfl ?_
      exact z2
    · rw [List.length_set, List.length_set, List.length_append]; exact Nat.le_add_right _ _
    · intro i i1 i2 i3
      rw [List.getElem?_set_ne (by omega), List.getElem?_set_ne (Ne.symm i1), List.getElem?_append_left i3]
end CNN
