/-! THE LAW'S LOOP. (Printed by wip/whole/pp.py from wip/whole/src.) -/
section LBD
variable {L : Nat} {xs : Nat → Int32} {h : ai_H} {C S : Nat}
theorem l_sw {lo : ai_L} {o : ai_O} {m : Nat} (hm : m < 16) (k' : Nat) (hk : k' = [25, 87, 109, 116, 123, 130, 165, 172, 179, 186, 193, 193, 193, 193, 193, 193].getD m 0) (hg : qg L xs 2000 qm_law k' lo [] h o) : qg L xs 2000 qm_law 24 lo [.int (nI m)] h o := by
  subst hk
  match m, hm with
  | 0, _ => exact qg_eff (t := 26) (k' := 25) (lo' := lo) (S' := []) (h' := h) rfl rfl rfl hg
  | 1, _ => exact qg_eff (t := 88) (k' := 87) (lo' := lo) (S' := []) (h' := h) rfl rfl rfl hg
  | 2, _ => exact qg_eff (t := 110) (k' := 109) (lo' := lo) (S' := []) (h' := h) rfl rfl rfl hg
  | 3, _ => exact qg_eff (t := 117) (k' := 116) (lo' := lo) (S' := []) (h' := h) rfl rfl rfl hg
  | 4, _ => exact qg_eff (t := 124) (k' := 123) (lo' := lo) (S' := []) (h' := h) rfl rfl rfl hg
  | 5, _ => exact qg_eff (t := 131) (k' := 130) (lo' := lo) (S' := []) (h' := h) rfl rfl rfl hg
  | 6, _ => exact qg_eff (t := 166) (k' := 165) (lo' := lo) (S' := []) (h' := h) rfl rfl rfl hg
  | 7, _ => exact qg_eff (t := 173) (k' := 172) (lo' := lo) (S' := []) (h' := h) rfl rfl rfl hg
  | 8, _ => exact qg_eff (t := 180) (k' := 179) (lo' := lo) (S' := []) (h' := h) rfl rfl rfl hg
  | 9, _ => exact qg_eff (t := 187) (k' := 186) (lo' := lo) (S' := []) (h' := h) rfl rfl rfl hg
  | 10, _ => exact qg_eff (t := 194) (k' := 193) (lo' := lo) (S' := []) (h' := h) rfl rfl rfl hg
  | 11, _ => exact qg_eff (t := 194) (k' := 193) (lo' := lo) (S' := []) (h' := h) rfl rfl rfl hg
  | 12, _ => exact qg_eff (t := 194) (k' := 193) (lo' := lo) (S' := []) (h' := h) rfl rfl rfl hg
  | 13, _ => exact qg_eff (t := 194) (k' := 193) (lo' := lo) (S' := []) (h' := h) rfl rfl rfl hg
  | 14, _ => exact qg_eff (t := 194) (k' := 193) (lo' := lo) (S' := []) (h' := h) rfl rfl rfl hg
  | 15, _ => exact qg_eff (t := 194) (k' := 193) (lo' := lo) (S' := []) (h' := h) rfl rfl rfl hg
  | m + 16, hm => exact absurd hm (by omega)
/-- one step, whatever it is -/
theorem l_step (hl : qlI h C S) {j m : Nat} (hj : j + 6 ≤ L) (hL : L ≤ 3072) (hm : m < 16) : ∃ h', qlI h' (C + 128) (S + 12) ∧ ∀ x5 x6, ∃ y5 y6, ∀ o, qg L xs 2000 qm_law 193 [some (.retAddr 3002), some (.ref 0), some (.ref 14), some (.ref 26), some (.int (nI j)), y5, y6] [] h' o → qg L xs 2000 qm_law 24 [some (.retAddr 3002), some (.ref 0), some (.ref 14), some (.ref 26), some (.int (nI j)), x5, x6] [.int (nI m)] h o := by
  have dflt : ∀ m, m < 16 → 10 ≤ m → ∃ h', qlI h' (C + 128) (S + 12) ∧ ∀ x5 x6, ∃ y5 y6, ∀ o, qg L xs 2000 qm_law 193 [some (.retAddr 3002), some (.ref 0), some (.ref 14), some (.ref 26), some (.int (nI j)), y5, y6] [] h' o → qg L xs 2000 qm_law 24 [some (.retAddr 3002), some (.ref 0), some (.ref 14), some (.ref 26), some (.int (nI j)), x5, x6] [.int (nI m)] h o := by
    intro m hm h10
    obtain ⟨B, Q, mx, kd, J, T, hq, h0⟩ := hl
    refine ⟨h, ⟨B, Q, mx, kd, J, T, qlj_le hq (by omega) (by omega), h0⟩, fun x5 x6 => ⟨x5, x6, fun o hg => l_sw hm 193 ?_ hg⟩⟩
    match m, hm, h10 with
    | 10, _, _ => rfl
    | 11, _, _ => rfl
    | 12, _, _ => rfl
    | 13, _, _ => rfl
    | 14, _, _ => rfl
    | 15, _, _ => rfl
    | m + 16, hm, _ => exact absurd hm (by omega)
  rcases Nat.lt_or_ge m 10 with h10 | h10
  · match m, h10 with
    | 0, _ =>
      obtain ⟨h', t, a1, a2⟩ := l_feed (L := L) (xs := xs) hl hj hL
      exact ⟨h', a1, fun x5 x6 => ⟨some (.int t), x6, fun o hg => l_sw (by decide) 25 rfl (a2 x5 x6 o hg)⟩⟩
    | 1, _ =>
      obtain ⟨h', t, a1, a2⟩ := l_end (L := L) (xs := xs) hl hj hL
      exact ⟨h', a1, fun x5 x6 => ⟨some (.int t), x6, fun o hg => l_sw (by decide) 87 rfl (a2 x5 x6 o hg)⟩⟩
    | 2, _ =>
      obtain ⟨h', a1, a2⟩ := l_read (L := L) (xs := xs) hl
      exact ⟨h', a1, fun x5 x6 => ⟨x5, x6, fun o hg => l_sw (by decide) 109 rfl (a2 _ x5 x6 o hg)⟩⟩
    | 3, _ =>
      obtain ⟨h', a1, a2⟩ := l_kind (L := L) (xs := xs) hl
      exact ⟨h', a1, fun x5 x6 => ⟨x5, x6, fun o hg => l_sw (by decide) 116 rfl (a2 _ x5 x6 o hg)⟩⟩
    | 4, _ =>
      obtain ⟨h', a1, a2⟩ := l_length (L := L) (xs := xs) hl
      exact ⟨h', a1, fun x5 x6 => ⟨x5, x6, fun o hg => l_sw (by decide) 123 rfl (a2 _ x5 x6 o hg)⟩⟩
    | 5, _ =>
      obtain ⟨h', t, r, a1, a2⟩ := l_letter (L := L) (xs := xs) hl hj hL
      exact ⟨h', a1, fun x5 x6 => ⟨some (.int t), some (.int r), fun o hg => l_sw (by decide) 130 rfl (a2 x5 x6 o hg)⟩⟩
    | 6, _ =>
      obtain ⟨h', a1, a2⟩ := l_mark (L := L) (xs := xs) hl
      exact ⟨h', a1, fun x5 x6 => ⟨x5, x6, fun o hg => l_sw (by decide) 165 rfl (a2 _ x5 x6 o hg)⟩⟩
    | 7, _ =>
      obtain ⟨h', a1, a2⟩ := l_names (L := L) (xs := xs) hl
      exact ⟨h', a1, fun x5 x6 => ⟨x5, x6, fun o hg => l_sw (by decide) 172 rfl (a2 _ x5 x6 o hg)⟩⟩
    | 8, _ =>
      obtain ⟨h', a1, a2⟩ := l_depth (L := L) (xs := xs) hl
      exact ⟨h', a1, fun x5 x6 => ⟨x5, x6, fun o hg => l_sw (by decide) 179 rfl (a2 _ x5 x6 o hg)⟩⟩
    | 9, _ =>
      obtain ⟨h', a1, a2⟩ := l_again (L := L) (xs := xs) hl
      exact ⟨h', a1, fun x5 x6 => ⟨x5, x6, fun o hg => l_sw (by decide) 186 rfl (a2 _ x5 x6 o hg)⟩⟩
    | m + 10, h10 => exact absurd h10 (by omega)
  · exact dflt m hm h10
theorem nI_m6 {L : Nat} (hL : L < 6) : nI L - 6 < 0 := by
  match L, hL with
  | 0, _ => decide
  | 1, _ => decide
  | 2, _ => decide
  | 3, _ => decide
  | 4, _ => decide
  | 5, _ => decide
  | L + 6, hL => exact absurd hL (by omega)
theorem l_loop (hL : L ≤ 3072) : ∀ (m j : Nat) (h : ai_H) (C S : Nat) (x5 x6 : Option Value), L - j < m → j ≤ 4000 → qlI h C S → ∃ h' u, u ≤ (L - j + 5) / 6 ∧ qlI h' (C + 128 * u) (S + 12 * u) ∧ qg L xs 2000 qm_law 13 [some (.retAddr 3002), some (.ref 0), some (.ref 14), some (.ref 26), some (.int (nI j)), x5, x6] [] h (.inl (some (.int 1)), h') := by
  intro m
  induction m with
  | zero => intro j h C S x5 x6 hm; omega
  | succ m ih =>
    intro j h C S x5 x6 hm hj4 hl
    by_cases hj : j + 6 ≤ L
    · obtain ⟨h1, a1, a2⟩ := l_step (L := L) (xs := xs) hl hj hL (zms_lt 4 (xs j))
      obtain ⟨y5, y6, a3⟩ := a2 x5 x6
      obtain ⟨h', u, b1, b2, b3⟩ := ih (j + 6) h1 (C + 128) (S + 12) y5 y6 (by omega) (by omega) a1
      refine ⟨h', u + 1, by omega, ?_, ?_⟩
      · rw [show C + 128 * (u + 1) = C + 128 + 128 * u by omega, show S + 12 * (u + 1) = S + 12 + 12 * u by omega]
        exact b2
      have k193 : qg L xs 2000 qm_law 193 [some (.retAddr 3002), some (.ref 0), some (.ref 14), some (.ref 26), some (.int (nI j)), y5, y6] [] h1 (.inl (some (.int 1)), h') := by
        refine qg_pls (n := 2) (k' := 13) (lo' := [some (.retAddr 3002), some (.ref 0), some (.ref 14), some (.ref 26), some (.int ((nI j) + 6)), y5, y6]) (S' := []) (h' := h1) rfl ?_
        rw [show nI j + 6 = nI (j + 6) from nI_add _ 6]
        exact b3
      have k24 := a3 _ k193
      refine qg_pls (n := 2) (k' := 15) (lo' := [some (.retAddr 3002), some (.ref 0), some (.ref 14), some (.ref 26), some (.int (nI j)), x5, x6]) (S' := [.retAddr 3002, .int (nI j)]) (h' := h) rfl ?_
      refine qg_alen rfl qZ_sc ?_
      refine qg_pls (n := 2) (k' := 18) (lo' := [some (.retAddr 3002), some (.ref 0), some (.ref 14), some (.ref 26), some (.int (nI j)), x5, x6]) (S' := [.int ((nI L) - 6), .int (nI j)]) (h' := h) rfl ?_
      rw [show nI L - 6 = nI (L - 6) from nI_sub (a := L) (b := 6) (by omega)]
      refine qg_icmp false rfl (qc_gtF (by omega) (by omega)) rfl ?_
      refine qg_pls (n := 2) (k' := 21) (lo' := [some (.retAddr 3002), some (.ref 0), some (.ref 14), some (.ref 26), some (.int (nI j)), x5, x6]) (S' := [.int (nI j), .retAddr 3002]) (h' := h) rfl ?_
      refine qg_ald rfl (fun _ _ _ => rfl) qZ_sc (by omega) (by omega) ?_
      refine qg_pls (n := 2) (k' := 24) (lo' := [some (.retAddr 3002), some (.ref 0), some (.ref 14), some (.ref 26), some (.int (nI j)), x5, x6]) (S' := [.int ((xs j) &&& 15)]) (h' := h) rfl ?_
      rw [show xs j &&& 15 = nI (zms 4 (xs j)) from zms_and (k := 4) (by decide) (xs j)]
      exact k24
    · refine ⟨h, 0, Nat.zero_le _, hl, ?_⟩
      have k195 : qg L xs 2000 qm_law 195 [some (.retAddr 3002), some (.ref 0), some (.ref 14), some (.ref 26), some (.int (nI j)), x5, x6] [] h (.inl (some (.int 1)), h) := by
        refine qg_pls (n := 1) (k' := 196) (lo' := [some (.retAddr 3002), some (.ref 0), some (.ref 14), some (.ref 26), some (.int (nI j)), x5, x6]) (S' := [.int 1]) (h' := h) rfl ?_
        exact qg_ret5 rfl rfl rfl
      have hgt : nI L - 6 < nI j := by
        by_cases h6 : L < 6
        · exact Int32.lt_of_lt_of_le (nI_m6 h6) (nI_pos' (by omega))
        · rw [show nI L - 6 = nI (L - 6) from nI_sub (a := L) (b := 6) (by omega)]
          exact nI_lt (by omega) (by omega)
      refine qg_pls (n := 2) (k' := 15) (lo' := [some (.retAddr 3002), some (.ref 0), some (.ref 14), some (.ref 26), some (.int (nI j)), x5, x6]) (S' := [.retAddr 3002, .int (nI j)]) (h' := h) rfl ?_
      refine qg_alen rfl qZ_sc ?_
      refine qg_pls (n := 2) (k' := 18) (lo' := [some (.retAddr 3002), some (.ref 0), some (.ref 14), some (.ref 26), some (.int (nI j)), x5, x6]) (S' := [.int ((nI L) - 6), .int (nI j)]) (h' := h) rfl ?_
      refine qg_icmp true rfl ((qb_gtT hgt)) rfl ?_
      exact k195
end LBD
