/-! ROWS OF BYTES: small letters, brackets, the rest. (Printed by wip/whole/pp.py from wip/whole/src.) -/
section QRZ
variable {L : Nat} {xs : Nat → Int32} {d : Nat} {h h' : ai_H}
theorem nI_sub {a b : Nat} (h : b ≤ a) : nI a - nI b = nI (a - b) := by
  obtain ⟨c, rfl⟩ : ∃ c, a = c + b := ⟨a - b, by omega⟩
  rw [Nat.add_sub_cancel, ← nI_add, Int32.add_sub_cancel]
theorem q_sml {r r2 a z : Nat} (hn : r2 ≠ r) {u : List Int32} (hz : z ≤ u.length) : ∀ (m j : Nat) (h : ai_H) (b len b2 len2 : Nat) (t : List Int32) (l5 : Option Value), j + m = z → qrow h r b len t → qrow h r2 b2 len2 u → b2 ≠ b → t.length + m + 1 ≤ 524288 → ∃ h' b' len', qg L xs (d + 3) qm_48 2 [some (.ref r), some (.ref r2), some (.int (nI a)), some (.int (nI z)), some (.int (nI j)), l5] [] h (.inl none, h') ∧ qrow h' r b' len' (t ++ (((u.drop j).take (z - j)).map zsm ++ [32])) ∧ qro r h b len h' b' len' := by
  intro m
  induction m with
  | zero =>
    intro j h b len b2 len2 t l5 hj hr hr2 hb hlen
    have hle := qrow_le hr2
    obtain ⟨h1, b1, len1, g1, g2, g3⟩ := q_add (L := L) (xs := xs) (d := d) 32 hr (by omega)
    refine ⟨h1, b1, len1, ?_, ?_, g3⟩
    · refine qg_pls (n := 2) (k' := 4) (lo' := [some (.ref r), some (.ref r2), some (.int (nI a)), some (.int (nI z)), some (.int (nI j)), l5]) (S' := [.int (nI z), .int (nI j)]) (h' := h) rfl ?_
      refine qg_icmp true rfl (qc_geT (by omega) (by omega)) rfl ?_
      refine qg_pls (n := 2) (k' := 28) (lo' := [some (.ref r), some (.ref r2), some (.int (nI a)), some (.int (nI z)), some (.int (nI j)), l5]) (S' := [.int 32, .ref r]) (h' := h) rfl ?_
      refine qg_call (v := none) (h' := h1) (as := [.ref r, .int 32]) rfl rfl rfl rfl rfl rfl rfl (ai_rcv1 rfl rfl (qrow_obj hr)) (g1) ?_
      exact qg_ret7 rfl
    · rw [show z - j = 0 by omega]
      exact g2
  | succ m ih =>
    intro j h b len b2 len2 t l5 hj hr hr2 hb hlen
    have hle := qrow_le hr2
    obtain ⟨h1, b1, len1, g1, g2, g3⟩ := q_add (L := L) (xs := xs) (d := d) (zlow (zat u j)) hr (by omega)
    have hx : zb (zlow (zat u j)) = zsm (u.getD j 0) := by
      rw [zat_lt (by omega)]
      rfl
    rw [hx] at g2
    obtain ⟨w1, w2⟩ := qrow_keep g3 hr hr2 hn hb
    obtain ⟨h2, b3, len3, k1, k2, k3⟩ := ih (j + 1) h1 b1 len1 b2 len2 _ (some (.int (zat u j))) (by omega) g2 w1 w2 (by rw [List.length_append]; show t.length + 1 + m + 1 ≤ _; omega)
    refine ⟨h2, b3, len3, ?_, ?_, qro_trans g3 k3⟩
    · refine qg_pls (n := 2) (k' := 4) (lo' := [some (.ref r), some (.ref r2), some (.int (nI a)), some (.int (nI z)), some (.int (nI j)), l5]) (S' := [.int (nI z), .int (nI j)]) (h' := h) rfl ?_
      refine qg_icmp false rfl (qc_geF (by omega) (by omega)) rfl ?_
      refine qg_pls (n := 2) (k' := 7) (lo' := [some (.ref r), some (.ref r2), some (.int (nI a)), some (.int (nI z)), some (.int (nI j)), l5]) (S' := [.int (nI j), .ref r2]) (h' := h) rfl ?_
      refine qg_call (v := some (.int (zat u j))) (h' := h) (as := [.ref r2, .int (nI j)]) rfl rfl rfl rfl rfl rfl rfl (ai_rcv1 rfl rfl (qrow_obj hr2)) (q_at hr2 (by omega)) ?_
      refine qg_pls (n := 1) (k' := 9) (lo' := [some (.ref r), some (.ref r2), some (.int (nI a)), some (.int (nI z)), some (.int (nI j)), some (.int (zat u j))]) (S' := []) (h' := h) rfl ?_
      generalize hcd : zat u j = c at *
      refine qg_pls (n := 3) (k' := 12) (lo' := [some (.ref r), some (.ref r2), some (.int (nI a)), some (.int (nI z)), some (.int (nI j)), some (.int c)]) (S' := [.int 65, .int c, .ref r]) (h' := h) rfl ?_
      unfold zlow at g1
      by_cases h65 : c < 65
      · rw [if_neg (fun e => Int32.not_lt.mpr e.1 h65)] at g1
        refine qg_icmp true rfl (decide_eq_true h65) rfl ?_
        refine qg_pls (n := 1) (k' := 23) (lo' := [some (.ref r), some (.ref r2), some (.int (nI a)), some (.int (nI z)), some (.int (nI j)), some (.int c)]) (S' := [.int c, .ref r]) (h' := h) rfl ?_
        refine qg_call (v := none) (h' := h1) (as := [.ref r, .int c]) rfl rfl rfl rfl rfl rfl rfl (ai_rcv1 rfl rfl (qrow_obj hr)) (g1) ?_
        show qg L xs _ qm_48 24 [some (.ref r), some (.ref r2), some (.int (nI a)), some (.int (nI z)), some (.int (nI j)), some (.int c)] [] h1 _
        refine qg_pls (n := 2) (k' := 2) (lo' := [some (.ref r), some (.ref r2), some (.int (nI a)), some (.int (nI z)), some (.int ((nI j) + 1)), some (.int c)]) (S' := []) (h' := h1) rfl ?_
        rw [nI_1]
        exact k1
      · by_cases h90 : 90 < c
        · rw [if_neg (fun e => Int32.not_lt.mpr e.2 h90)] at g1
          refine qg_icmp false rfl (decide_eq_false h65) rfl ?_
          refine qg_pls (n := 2) (k' := 15) (lo' := [some (.ref r), some (.ref r2), some (.int (nI a)), some (.int (nI z)), some (.int (nI j)), some (.int c)]) (S' := [.int 90, .int c, .ref r]) (h' := h) rfl ?_
          refine qg_icmp true rfl (decide_eq_true h90) rfl ?_
          refine qg_pls (n := 1) (k' := 23) (lo' := [some (.ref r), some (.ref r2), some (.int (nI a)), some (.int (nI z)), some (.int (nI j)), some (.int c)]) (S' := [.int c, .ref r]) (h' := h) rfl ?_
          refine qg_call (v := none) (h' := h1) (as := [.ref r, .int c]) rfl rfl rfl rfl rfl rfl rfl (ai_rcv1 rfl rfl (qrow_obj hr)) (g1) ?_
          show qg L xs _ qm_48 24 [some (.ref r), some (.ref r2), some (.int (nI a)), some (.int (nI z)), some (.int (nI j)), some (.int c)] [] h1 _
          refine qg_pls (n := 2) (k' := 2) (lo' := [some (.ref r), some (.ref r2), some (.int (nI a)), some (.int (nI z)), some (.int ((nI j) + 1)), some (.int c)]) (S' := []) (h' := h1) rfl ?_
          rw [nI_1]
          exact k1
        · rw [if_pos ⟨Int32.not_lt.mp h65, Int32.not_lt.mp h90⟩] at g1
          refine qg_icmp false rfl (decide_eq_false h65) rfl ?_
          refine qg_pls (n := 2) (k' := 15) (lo' := [some (.ref r), some (.ref r2), some (.int (nI a)), some (.int (nI z)), some (.int (nI j)), some (.int c)]) (S' := [.int 90, .int c, .ref r]) (h' := h) rfl ?_
          refine qg_icmp false rfl (decide_eq_false h90) rfl ?_
          refine qg_pls (n := 6) (k' := 23) (lo' := [some (.ref r), some (.ref r2), some (.int (nI a)), some (.int (nI z)), some (.int (nI j)), some (.int c)]) (S' := [.int ((c - 65) + 97), .ref r]) (h' := h) rfl ?_
          refine qg_call (v := none) (h' := h1) (as := [.ref r, .int ((c - 65) + 97)]) rfl rfl rfl rfl rfl rfl rfl (ai_rcv1 rfl rfl (qrow_obj hr)) (g1) ?_
          show qg L xs _ qm_48 24 [some (.ref r), some (.ref r2), some (.int (nI a)), some (.int (nI z)), some (.int (nI j)), some (.int c)] [] h1 _
          refine qg_pls (n := 2) (k' := 2) (lo' := [some (.ref r), some (.ref r2), some (.int (nI a)), some (.int (nI z)), some (.int ((nI j) + 1)), some (.int c)]) (S' := []) (h' := h1) rfl ?_
          rw [nI_1]
          exact k1
    · rw [List.append_assoc, List.singleton_append] at k2
      rw [take_drop_cons (x := 0) (by omega) hz, List.map_cons, List.cons_append]
      exact k2
/-- Row.inSmallLetters(text, a, z) -/
theorem q_small {r r2 a z b len b2 len2 : Nat} {t u : List Int32} (hn : r2 ≠ r) (hz : z ≤ u.length) (haz : a ≤ z) (hr : qrow h r b len t) (hr2 : qrow h r2 b2 len2 u) (hb : b2 ≠ b) (hlen : t.length + (z - a) + 1 ≤ 524288) : ∃ h' b' len', qe L xs (d + 4) 48 [.ref r, .ref r2, .int (nI a), .int (nI z)] h (.inl none, h') ∧ qrow h' r b' len' (t ++ ((u.drop a).take (z - a)).map zsm ++ [32]) ∧ qro r h b len h' b' len' := by
  obtain ⟨h1, b1, len1, g1, g2, g3⟩ := q_sml (L := L) (xs := xs) (d := d) (a := a) hn hz (z - a) a h b len b2 len2 t none (by omega) hr hr2 hb hlen
  refine ⟨h1, b1, len1, ?_, by rw [List.append_assoc]; exact g2, g3⟩
  refine qe_of (M := qm_48) rfl rfl ?_
  show qg L xs _ qm_48 0 [some (.ref r), some (.ref r2), some (.int (nI a)), some (.int (nI z)), none, none] [] h _
  refine qg_pls (n := 2) (k' := 2) (lo' := [some (.ref r), some (.ref r2), some (.int (nI a)), some (.int (nI z)), some (.int (nI a)), none]) (S' := []) (h' := h) rfl ?_
  exact g1
/-- Row.reopen() -/
theorem q_reopen {r b len : Nat} {t : List Int32} (hr : qrow h r b len t) (h2 : 2 ≤ t.length) : ∃ h', qe L xs (d + 2) 76 [.ref r] h (.inl none, h') ∧ qrow h' r b len (t.take (t.length - 2)) ∧ qro r h b len h' b len := by
  have hle := qrow_le hr
  obtain ⟨h1, g1, g2, g3⟩ := q_cut (L := L) (xs := xs) (d := d) (n := t.length - 2) hr (by omega)
  refine ⟨h1, ?_, g2, g3⟩
  refine qe_of (M := qm_76) rfl rfl ?_
  show qg L xs _ qm_76 0 [some (.ref r)] [] h _
  refine qg_pls (n := 2) (k' := 2) (lo' := [some (.ref r)]) (S' := [.ref r, .ref r]) (h' := h) rfl ?_
  refine qg_getf (v := .int (nI t.length)) rfl (qrow_obj hr) rfl rfl rfl ?_
  refine qg_pls (n := 2) (k' := 5) (lo' := [some (.ref r)]) (S' := [.int ((nI t.length) - 2), .ref r]) (h' := h) rfl ?_
  rw [show nI t.length - 2 = nI (t.length - 2) from nI_sub h2]
  refine qg_call (v := none) (h' := h1) (as := [.ref r, .int (nI (t.length - 2))]) rfl rfl rfl rfl rfl rfl rfl (ai_rcv1 rfl rfl (qrow_obj hr)) (g1) ?_
  show qg L xs _ qm_76 6 [some (.ref r)] [] h1 _
  exact qg_ret7 rfl
/-- Row.dropLastBlank() -/
theorem q_dropl {r b len : Nat} {t : List Int32} (hr : qrow h r b len t) (h2 : 1 ≤ t.length) : ∃ h', qe L xs (d + 2) 91 [.ref r] h (.inl none, h') ∧ qrow h' r b len (t.take (t.length - 1)) ∧ qro r h b len h' b len := by
  have hle := qrow_le hr
  obtain ⟨h1, g1, g2, g3⟩ := q_cut (L := L) (xs := xs) (d := d) (n := t.length - 1) hr (by omega)
  refine ⟨h1, ?_, g2, g3⟩
  refine qe_of (M := qm_91) rfl rfl ?_
  show qg L xs _ qm_91 0 [some (.ref r)] [] h _
  refine qg_pls (n := 2) (k' := 2) (lo' := [some (.ref r)]) (S' := [.ref r, .ref r]) (h' := h) rfl ?_
  refine qg_getf (v := .int (nI t.length)) rfl (qrow_obj hr) rfl rfl rfl ?_
  refine qg_pls (n := 2) (k' := 5) (lo' := [some (.ref r)]) (S' := [.int ((nI t.length) - 1), .ref r]) (h' := h) rfl ?_
  rw [show nI t.length - 1 = nI (t.length - 1) from nI_sub h2]
  refine qg_call (v := none) (h' := h1) (as := [.ref r, .int (nI (t.length - 1))]) rfl rfl rfl rfl rfl rfl rfl (ai_rcv1 rfl rfl (qrow_obj hr)) (g1) ?_
  show qg L xs _ qm_91 6 [some (.ref r)] [] h1 _
  exact qg_ret7 rfl
/-- what a place of the row holds behind openAt -/
theorem q_ins {t : List Int32} {st : Nat} (hst : st ≤ t.length) (j : Nat) : (t.take st ++ [40, 32] ++ t.drop st).getD j 0 = if j < st then t.getD j 0 else if j = st then 40 else if j = st + 1 then 32 else t.getD (j - 2) 0 := by
  have hl : (t.take st).length = st := by rw [List.length_take]; omega
  rw [List.append_assoc]
  by_cases h1 : j < st
  · rw [if_pos h1, getD_app1 (by omega)]
    simp [List.getD_eq_getElem?_getD, List.getElem?_take, h1]
  · rw [if_neg h1, List.getD_eq_getElem?_getD, List.getElem?_append_right (by omega), hl]
    by_cases h2 : j = st
    · rw [if_pos h2, h2, Nat.sub_self]; rfl
    · rw [if_neg h2]
      by_cases h3 : j = st + 1
      · rw [if_pos h3, h3, show st + 1 - st = 1 by omega]; rfl
      · rw [if_neg h3, List.getElem?_append_right (by show 2 ≤ j - st; omega), List.getElem?_drop, List.getD_eq_getElem?_getD]
        show (t[st + (j - st - 2)]?).getD 0 = _
        rw [show st + (j - st - 2) = j - 2 by omega]
/-- Row.openAt(st) -/
theorem q_open {r b len st : Nat} {t : List Int32} (hr : qrow h r b len t) (hst : st ≤ t.length) (hlen : t.length + 2 ≤ 524288) : ∃ h' b' len', qe L xs (d + 4) 77 [.ref r, .int (nI st)] h (.inl none, h') ∧ qrow h' r b' len' (t.take st ++ [40, 32] ++ t.drop st) ∧ qro r h b len h' b' len' := by
  obtain ⟨h1, b1, len1, g1, g2, g3⟩ := q_add (L := L) (xs := xs) (d := d) 32 hr (by omega)
  obtain ⟨h2, b2, len2, k1, k2, k3⟩ := q_add (L := L) (xs := xs) (d := d) 32 g2 (by rw [List.length_append]; show t.length + 1 < _; omega)
  have hl2 : (t ++ [zb 32] ++ [zb 32]).length = t.length + 2 := by simp
  have hle := qrow_le k2
  have ho := qrow_obj k2
  rw [hl2] at ho
  obtain ⟨f, -, a2, a3, a4, a5⟩ := k2
  rw [hl2] at a3
  have hrb : r ≠ b2 := q_ne ho a2 (by intro e; cases e)
  have hlen3 : (t.take st ++ [40, 32] ++ t.drop st).length = t.length + 2 := by simp; omega
  refine ⟨((((h2.1.set b2 (ai_num .byte len2 (va_cpy f f st (st + 2) (t.length - st)))).set b2 (ai_num .byte len2 (upd (va_cpy f f st (st + 2) (t.length - st)) st (vp_nar .byte 40)))).set b2 (ai_num .byte len2 (upd (upd (va_cpy f f st (st + 2) (t.length - st)) st (vp_nar .byte 40)) (st + 1) (vp_nar .byte 32)))), h2.2), b2, len2, ?_, ⟨upd (upd (va_cpy f f st (st + 2) (t.length - st)) st (vp_nar .byte 40)) (st + 1) (vp_nar .byte 32), ?_, ?_, ?_, a4, fun j hj => ?_⟩, qro_trans g3 (qro_trans k3 ⟨?_, fun i i1 i2 i3 => ?_, Or.inl rfl, Nat.le_refl _, Nat.le_refl _, Nat.le_refl _⟩)⟩
  · skip
    refine qe_of (M := qm_77) rfl rfl ?_
    show qg L xs _ qm_77 0 [some (.ref r), some (.int (nI st)), none, none] [] h _
    refine qg_pls (n := 1) (k' := 1) (lo' := [some (.ref r), some (.int (nI st)), none, none]) (S' := [.ref r]) (h' := h) rfl ?_
    refine qg_getf (v := .int (nI t.length)) rfl (qrow_obj hr) rfl rfl rfl ?_
    refine qg_pls (n := 5) (k' := 7) (lo' := [some (.ref r), some (.int (nI st)), some (.int ((nI t.length) - (nI st))), none]) (S' := [.int 32, .ref r]) (h' := h) rfl ?_
    rw [nI_sub hst]
    refine qg_call (v := none) (h' := h1) (as := [.ref r, .int 32]) rfl rfl rfl rfl rfl rfl rfl (ai_rcv1 rfl rfl (qrow_obj hr)) (g1) ?_
    show qg L xs _ qm_77 8 [some (.ref r), some (.int (nI st)), some (.int (nI (t.length - st))), none] [] h1 _
    refine qg_pls (n := 2) (k' := 10) (lo' := [some (.ref r), some (.int (nI st)), some (.int (nI (t.length - st))), none]) (S' := [.int 32, .ref r]) (h' := h1) rfl ?_
    refine qg_call (v := none) (h' := h2) (as := [.ref r, .int 32]) rfl rfl rfl rfl rfl rfl rfl (ai_rcv1 rfl rfl (qrow_obj g2)) (k1) ?_
    show qg L xs _ qm_77 11 [some (.ref r), some (.int (nI st)), some (.int (nI (t.length - st))), none] [] h2 _
    refine qg_pls (n := 6) (k' := 17) (lo' := [some (.ref r), some (.int (nI st)), some (.int (nI (t.length - st))), none]) (S' := [.ref r, .int (((nI st) + 2) + (nI (t.length - st)))]) (h' := h2) rfl ?_
    refine qg_getf (v := .int (nI (t.length + 2))) rfl ho rfl rfl rfl ?_
    rw [show nI st + 2 + nI (t.length - st) = nI (t.length + 2) by rw [show nI st + 2 = nI (st + 2) from nI_add st 2, nI_add, show st + 2 + (t.length - st) = t.length + 2 by omega]]
    refine qg_icmp false rfl (qc_gtF (by omega) (by omega)) rfl ?_
    refine qg_pls (n := 1) (k' := 20) (lo' := [some (.ref r), some (.int (nI st)), some (.int (nI (t.length - st))), none]) (S' := [.ref r]) (h' := h2) rfl ?_
    refine qg_getf (v := .int (nI (t.length + 2))) rfl ho rfl rfl rfl ?_
    refine qg_pls (n := 1) (k' := 22) (lo' := [some (.ref r), some (.int (nI st)), some (.int (nI (t.length - st))), none]) (S' := [.ref r, .int (nI (t.length + 2))]) (h' := h2) rfl ?_
    refine qg_getf (v := .ref b2) rfl ho rfl rfl rfl ?_
    refine qg_alen rfl a2 ?_
    refine qg_icmp false rfl (qc_gtF (by omega) (by omega)) rfl ?_
    refine qg_pls (n := 4) (k' := 30) (lo' := [some (.ref r), some (.int (nI st)), some (.int (nI (t.length - st))), some (.int 1)]) (S' := [.int (nI st)]) (h' := h2) rfl ?_
    refine qg_if false rfl (qc_lt0 (by omega)) rfl ?_
    refine qg_pls (n := 1) (k' := 32) (lo' := [some (.ref r), some (.int (nI st)), some (.int (nI (t.length - st))), some (.int 1)]) (S' := [.int (nI (t.length - st))]) (h' := h2) rfl ?_
    refine qg_if false rfl (qc_lt0 (by omega)) rfl ?_
    refine qg_pls (n := 1) (k' := 34) (lo' := [some (.ref r), some (.int (nI st)), some (.int (nI (t.length - st))), some (.int 1)]) (S' := [.int 1]) (h' := h2) rfl ?_
    refine qg_if false rfl (rfl) rfl ?_
    refine qg_pls (n := 1) (k' := 36) (lo' := [some (.ref r), some (.int (nI st)), some (.int (nI (t.length - st))), some (.int 1)]) (S' := [.ref r]) (h' := h2) rfl ?_
    refine qg_getf (v := .ref b2) rfl ho rfl rfl rfl ?_
    refine qg_pls (n := 2) (k' := 39) (lo' := [some (.ref r), some (.int (nI st)), some (.int (nI (t.length - st))), some (.int 1)]) (S' := [.ref r, .int (nI st), .ref b2]) (h' := h2) rfl ?_
    refine qg_getf (v := .ref b2) rfl ho rfl rfl rfl ?_
    refine qg_pls (n := 4) (k' := 44) (lo' := [some (.ref r), some (.int (nI st)), some (.int (nI (t.length - st))), some (.int 1)]) (S' := [.int (nI (t.length - st)), .int ((nI st) + 2), .ref b2, .int (nI st), .ref b2]) (h' := h2) rfl ?_
    rw [show nI st + 2 = nI (st + 2) from nI_add st 2]
    refine qg_cpy rfl (q_copy (dp := st + 2) a2 a2 (by omega) (by omega) (by omega) (by omega)) rfl ?_
    show qg L xs _ qm_77 45 [some (.ref r), some (.int (nI st)), some (.int (nI (t.length - st))), some (.int 1)] [] (h2.1.set b2 (ai_num .byte len2 (va_cpy f f st (st + 2) (t.length - st))), h2.2) _
    refine qg_pls (n := 1) (k' := 46) (lo' := [some (.ref r), some (.int (nI st)), some (.int (nI (t.length - st))), some (.int 1)]) (S' := [.ref r]) (h' := (h2.1.set b2 (ai_num .byte len2 (va_cpy f f st (st + 2) (t.length - st))), h2.2)) rfl ?_
    refine qg_getf (v := .ref b2) rfl (q_stay ho (Ne.symm hrb)) rfl rfl rfl ?_
    refine qg_pls (n := 2) (k' := 49) (lo' := [some (.ref r), some (.int (nI st)), some (.int (nI (t.length - st))), some (.int 1)]) (S' := [.int 40, .int (nI st), .ref b2]) (h' := (h2.1.set b2 (ai_num .byte len2 (va_cpy f f st (st + 2) (t.length - st))), h2.2)) rfl ?_
    refine qg_ast rfl (fun _ _ _ => rfl) (q_set a2) (by omega) (by omega) ?_
    show qg L xs _ qm_77 50 [some (.ref r), some (.int (nI st)), some (.int (nI (t.length - st))), some (.int 1)] [] ((h2.1.set b2 (ai_num .byte len2 (va_cpy f f st (st + 2) (t.length - st)))).set b2 (ai_num .byte len2 (upd (va_cpy f f st (st + 2) (t.length - st)) st (vp_nar .byte 40))), h2.2) _
    refine qg_pls (n := 1) (k' := 51) (lo' := [some (.ref r), some (.int (nI st)), some (.int (nI (t.length - st))), some (.int 1)]) (S' := [.ref r]) (h' := ((h2.1.set b2 (ai_num .byte len2 (va_cpy f f st (st + 2) (t.length - st)))).set b2 (ai_num .byte len2 (upd (va_cpy f f st (st + 2) (t.length - st)) st (vp_nar .byte 40))), h2.2)) rfl ?_
    refine qg_getf (v := .ref b2) rfl (q_stay (q_stay ho (Ne.symm hrb)) (Ne.symm hrb)) rfl rfl rfl ?_
    refine qg_pls (n := 4) (k' := 56) (lo' := [some (.ref r), some (.int (nI st)), some (.int (nI (t.length - st))), some (.int 1)]) (S' := [.int 32, .int ((nI st) + 1), .ref b2]) (h' := ((h2.1.set b2 (ai_num .byte len2 (va_cpy f f st (st + 2) (t.length - st)))).set b2 (ai_num .byte len2 (upd (va_cpy f f st (st + 2) (t.length - st)) st (vp_nar .byte 40))), h2.2)) rfl ?_
    rw [nI_1]
    refine qg_ast rfl (fun _ _ _ => rfl) (q_set (q_set a2)) (by omega) (by omega) ?_
    exact qg_ret7 rfl
  · rw [hlen3]
    exact q_stay (q_stay (q_stay ho (Ne.symm hrb)) (Ne.symm hrb)) (Ne.symm hrb)
  · exact q_set (q_set (q_set a2))
  · rw [hlen3]; exact a3
  · rw [hlen3] at hj
    rw [q_ins hst]
    unfold upd va_cpy
    by_cases e1 : j < st
    · rw [if_neg (by omega), if_neg (by omega), if_neg (by omega), if_pos e1, a5 j (by omega), List.append_assoc, getD_app1 (by omega)]
    · rw [if_neg e1]
      by_cases e2 : j = st
      · rw [if_neg (by omega), if_pos e2, if_pos e2]; rfl
      · rw [if_neg e2, if_neg e2]
        by_cases e3 : j = st + 1
        · rw [if_pos e3, if_pos e3]; rfl
        · rw [if_neg e3, if_neg e3, if_pos (by omega), a5 _ (by omega), show st + (j - (st + 2)) = j - 2 by omega, List.append_assoc, getD_app1 (by omega)]
  · simp
  · show (((h2.1.set b2 _).set b2 _).set b2 _)[i]? = _
    rw [List.getElem?_set_ne (fun e => i2 e.symm), List.getElem?_set_ne (fun e => i2 e.symm), List.getElem?_set_ne (fun e => i2 e.symm)]
end QRZ
