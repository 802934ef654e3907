/-! ROWS OF BYTES: what comes onto them. (Printed by wip/whole/pp.py from wip/whole/src.) -/
section QRX
variable {L : Nat} {xs : Nat → Int32} {d : Nat} {h h' : ai_H}
/-! texts: c is the number of a text, 1000 .. 1111 -/
def zt (c : Nat) : List Int32 := qr_tx.getD (c - 1000) []
theorem qZ_str {c : Nat} (h1 : 1000 ≤ c) (h2 : c < 1112) : qr_Z L xs c = some (ai_obj 7 [.retAddr (c + 1000), .int 0]) := by
  unfold qr_Z
  rw [if_neg (by omega), if_pos ⟨h1, h2⟩]
theorem qZ_val {c : Nat} (h1 : 1000 ≤ c) (h2 : c < 1112) : qr_Z L xs (c + 1000) = some (ai_num .byte (zt c).length (fun j => (zt c).getD j 0)) := by
  unfold qr_Z
  rw [if_neg (by omega), if_neg (by omega), if_pos (by omega), show c + 1000 - 2000 = c - 1000 by omega]
  rfl
def q_chr (v : Int32) : Bool := decide (((v &&& 255).toUInt32 % 65536).toInt32 = v ∧ narrow .char (.int v) = .int v ∧ zb v = v ∧ 0 ≤ v)
set_option maxRecDepth 100000 in
theorem q_chrs : (List.range 112).all (fun c => decide ((qr_tx.getD c []).length < 40) && (qr_tx.getD c []).all q_chr) = true := by decide +kernel
theorem zt_len {c : Nat} (h1 : 1000 ≤ c) (h2 : c < 1112) : (zt c).length < 40 := by
  have h := List.all_eq_true.mp q_chrs (c - 1000) (List.mem_range.mpr (by omega))
  rw [Bool.and_eq_true] at h
  exact of_decide_eq_true h.1
theorem zt_chr {c j : Nat} (h1 : 1000 ≤ c) (h2 : c < 1112) (hj : j < (zt c).length) : (((zt c).getD j 0 &&& 255).toUInt32 % 65536).toInt32 = (zt c).getD j 0 ∧ narrow .char (.int ((zt c).getD j 0)) = .int ((zt c).getD j 0) ∧ zb ((zt c).getD j 0) = (zt c).getD j 0 ∧ 0 ≤ (zt c).getD j 0 := by
  have h := List.all_eq_true.mp q_chrs (c - 1000) (List.mem_range.mpr (by omega))
  rw [Bool.and_eq_true] at h
  have hm : (zt c).getD j 0 ∈ zt c := by
    rw [List.getD_eq_getElem?_getD, List.getElem?_eq_getElem hj]
    exact List.getElem_mem hj
  exact of_decide_eq_true (List.all_eq_true.mp h.2 _ hm)
/-- String.coder() -/
theorem q_coder {c : Nat} (c1 : 1000 ≤ c) (c2 : c < 1112) : qe L xs (d + 1) 19 [.retAddr c] h (.inl (some (.int 0)), h) := by
  refine qe_of (M := qm_19) rfl rfl ?_
  show qg L xs _ qm_19 0 [some (.retAddr c)] [] h _
  refine qg_pls (n := 1) (k' := 1) (lo' := [some (.retAddr c)]) (S' := [.int 1]) (h' := h) rfl ?_
  refine qg_if false rfl (rfl) rfl ?_
  refine qg_pls (n := 1) (k' := 3) (lo' := [some (.retAddr c)]) (S' := [.retAddr c]) (h' := h) rfl ?_
  refine qg_getf (v := .int 0) rfl (qZ_str c1 c2) rfl rfl rfl ?_
  refine qg_pls (n := 1) (k' := 6) (lo' := [some (.retAddr c)]) (S' := [.int 0]) (h' := h) rfl ?_
  exact qg_ret5 rfl rfl rfl
/-- String.length() -/
theorem q_slen {c : Nat} (c1 : 1000 ≤ c) (c2 : c < 1112) : qe L xs (d + 2) 18 [.retAddr c] h (.inl (some (.int (nI (zt c).length))), h) := by
  refine qe_of (M := qm_18) rfl rfl ?_
  show qg L xs _ qm_18 0 [some (.retAddr c)] [] h _
  refine qg_pls (n := 1) (k' := 1) (lo' := [some (.retAddr c)]) (S' := [.retAddr c]) (h' := h) rfl ?_
  refine qg_getf (v := .retAddr (c + 1000)) rfl (qZ_str c1 c2) rfl rfl rfl ?_
  refine qg_alen rfl (qZ_val c1 c2) ?_
  refine qg_pls (n := 1) (k' := 4) (lo' := [some (.retAddr c)]) (S' := [.retAddr c, .int (nI ((zt c).length))]) (h' := h) rfl ?_
  refine qg_call (v := some (.int 0)) (h' := h) (as := [.retAddr c]) rfl rfl rfl rfl rfl rfl rfl (ai_rcv1 rfl rfl (qZ_str c1 c2)) (q_coder c1 c2) ?_
  show qg L xs _ qm_18 5 [some (.retAddr c)] [.int 0, .int (nI ((zt c).length))] h _
  refine qg_pls (n := 1) (k' := 6) (lo' := [some (.retAddr c)]) (S' := [.int ((nI ((zt c).length)) >>> (0 &&& 31))]) (h' := h) rfl ?_
  rw [show nI (zt c).length >>> ((0 : Int32) &&& 31) = nI (zt c).length from by simp]
  exact qg_ret5 rfl rfl rfl
/-- String.isLatin1() -/
theorem q_latin {c : Nat} (c1 : 1000 ≤ c) (c2 : c < 1112) : qe L xs (d + 1) 21 [.retAddr c] h (.inl (some (.int 1)), h) := by
  refine qe_of (M := qm_21) rfl rfl ?_
  show qg L xs _ qm_21 0 [some (.retAddr c)] [] h _
  refine qg_pls (n := 1) (k' := 1) (lo' := [some (.retAddr c)]) (S' := [.int 1]) (h' := h) rfl ?_
  refine qg_if false rfl (rfl) rfl ?_
  refine qg_pls (n := 1) (k' := 3) (lo' := [some (.retAddr c)]) (S' := [.retAddr c]) (h' := h) rfl ?_
  refine qg_getf (v := .int 0) rfl (qZ_str c1 c2) rfl rfl rfl ?_
  refine qg_if false rfl (rfl) rfl ?_
  refine qg_pls (n := 2) (k' := 8) (lo' := [some (.retAddr c)]) (S' := [.int 1]) (h' := h) rfl ?_
  exact qg_ret5 rfl rfl rfl
theorem q_chkix {a b : Nat} (hab : a < b) (hb : b < 2 ^ 31) : qe L xs (d + 1) 24 [.int (nI a), .int (nI b), .float 0] h (.inl (some (.int (nI a))), h) := by
  refine qe_of (M := qm_24) rfl rfl ?_
  show qg L xs _ qm_24 0 [some (.int (nI a)), some (.int (nI b)), some (.float 0)] [] h _
  refine qg_pls (n := 1) (k' := 1) (lo' := [some (.int (nI a)), some (.int (nI b)), some (.float 0)]) (S' := [.int (nI a)]) (h' := h) rfl ?_
  refine qg_if false rfl (qc_lt0 (by omega)) rfl ?_
  refine qg_pls (n := 2) (k' := 4) (lo' := [some (.int (nI a)), some (.int (nI b)), some (.float 0)]) (S' := [.int (nI b), .int (nI a)]) (h' := h) rfl ?_
  refine qg_icmp true rfl (qc_ltT hab hb) rfl ?_
  refine qg_pls (n := 1) (k' := 11) (lo' := [some (.int (nI a)), some (.int (nI b)), some (.float 0)]) (S' := [.int (nI a)]) (h' := h) rfl ?_
  exact qg_ret5 rfl rfl rfl
theorem q_chkix2 {a b : Nat} (hab : a < b) (hb : b < 2 ^ 31) : qe L xs (d + 2) 23 [.int (nI a), .int (nI b)] h (.inl none, h) := by
  refine qe_of (M := qm_23) rfl rfl ?_
  show qg L xs _ qm_23 0 [some (.int (nI a)), some (.int (nI b))] [] h _
  refine qg_pls (n := 3) (k' := 3) (lo' := [some (.int (nI a)), some (.int (nI b))]) (S' := [.float 0, .int (nI b), .int (nI a)]) (h' := h) rfl ?_
  refine qg_call (v := some (.int (nI a))) (h' := h) (as := [.int (nI a), .int (nI b), .float 0]) rfl rfl rfl rfl rfl rfl rfl rfl (q_chkix hab hb) ?_
  show qg L xs _ qm_23 4 [some (.int (nI a)), some (.int (nI b))] [.int (nI a)] h _
  refine qg_pls (n := 1) (k' := 5) (lo' := [some (.int (nI a)), some (.int (nI b))]) (S' := []) (h' := h) rfl ?_
  exact qg_ret7 rfl
theorem q_lchar {c j : Nat} (c1 : 1000 ≤ c) (c2 : c < 1112) (hj : j < (zt c).length) : qe L xs (d + 3) 22 [.retAddr (c + 1000), .int (nI j)] h (.inl (some (.int ((zt c).getD j 0))), h) := by
  have hlen := zt_len c1 c2
  obtain ⟨e1, e2, -, -⟩ := zt_chr c1 c2 hj
  refine qe_of (M := qm_22) rfl rfl ?_
  show qg L xs _ qm_22 0 [some (.retAddr (c + 1000)), some (.int (nI j))] [] h _
  refine qg_pls (n := 2) (k' := 2) (lo' := [some (.retAddr (c + 1000)), some (.int (nI j))]) (S' := [.retAddr (c + 1000), .int (nI j)]) (h' := h) rfl ?_
  refine qg_alen rfl (qZ_val c1 c2) ?_
  refine qg_call (v := none) (h' := h) (as := [.int (nI j), .int (nI ((zt c).length))]) rfl rfl rfl rfl rfl rfl rfl rfl (q_chkix2 hj (by omega)) ?_
  show qg L xs _ qm_22 4 [some (.retAddr (c + 1000)), some (.int (nI j))] [] h _
  refine qg_pls (n := 2) (k' := 6) (lo' := [some (.retAddr (c + 1000)), some (.int (nI j))]) (S' := [.int (nI j), .retAddr (c + 1000)]) (h' := h) rfl ?_
  refine qg_ald rfl (fun _ _ _ => rfl) (qZ_val c1 c2) (hj) (by omega) ?_
  refine qg_pls (n := 3) (k' := 10) (lo' := [some (.retAddr (c + 1000)), some (.int (nI j))]) (S' := [.int (((((zt c).getD j 0) &&& 255)).toUInt32 % 65536).toInt32]) (h' := h) rfl ?_
  rw [e1]
  exact qg_ret5 rfl rfl e2
/-- String.charAt(j) -/
theorem q_char {c j : Nat} (c1 : 1000 ≤ c) (c2 : c < 1112) (hj : j < (zt c).length) : qe L xs (d + 4) 20 [.retAddr c, .int (nI j)] h (.inl (some (.int ((zt c).getD j 0))), h) := by
  obtain ⟨e1, e2, -, -⟩ := zt_chr c1 c2 hj
  refine qe_of (M := qm_20) rfl rfl ?_
  show qg L xs _ qm_20 0 [some (.retAddr c), some (.int (nI j))] [] h _
  refine qg_pls (n := 1) (k' := 1) (lo' := [some (.retAddr c), some (.int (nI j))]) (S' := [.retAddr c]) (h' := h) rfl ?_
  refine qg_call (v := some (.int 1)) (h' := h) (as := [.retAddr c]) rfl rfl rfl rfl rfl rfl rfl (ai_rcv1 rfl rfl (qZ_str c1 c2)) (q_latin c1 c2) ?_
  show qg L xs _ qm_20 2 [some (.retAddr c), some (.int (nI j))] [.int 1] h _
  refine qg_if false rfl (rfl) rfl ?_
  refine qg_pls (n := 1) (k' := 4) (lo' := [some (.retAddr c), some (.int (nI j))]) (S' := [.retAddr c]) (h' := h) rfl ?_
  refine qg_getf (v := .retAddr (c + 1000)) rfl (qZ_str c1 c2) rfl rfl rfl ?_
  refine qg_pls (n := 1) (k' := 6) (lo' := [some (.retAddr c), some (.int (nI j))]) (S' := [.int (nI j), .retAddr (c + 1000)]) (h' := h) rfl ?_
  refine qg_call (v := some (.int ((zt c).getD j 0))) (h' := h) (as := [.retAddr (c + 1000), .int (nI j)]) rfl rfl rfl rfl rfl rfl rfl rfl (q_lchar c1 c2 hj) ?_
  show qg L xs _ qm_20 7 [some (.retAddr c), some (.int (nI j))] [.int ((zt c).getD j 0)] h _
  exact qg_ret5 rfl rfl e2
theorem getD_app1 {α : Type} {x : α} {a b : List α} {j : Nat} (h : j < a.length) : (a ++ b).getD j x = a.getD j x := by
  simp [List.getD_eq_getElem?_getD, List.getElem?_append_left h]
theorem getD_app2 {α : Type} {x y : α} {a : List α} : (a ++ [y]).getD a.length x = y := by
  simp [List.getD_eq_getElem?_getD]
theorem q_add0 {r b len : Nat} {t : List Int32} {x : Int32} (hr : qrow h r b len t) (hlt : t.length < len) : ∃ h', (∀ o, qg L xs d qm_39 43 [some (.ref r), some (.int x)] [] h' o → qg L xs d qm_39 21 [some (.ref r), some (.int x)] [] h o) ∧ qrow h' r b len (t ++ [zb x]) ∧ qro r h b len h' b len := by
  have hle := qrow_le hr
  obtain ⟨f, h1, h2, h3, h4, h5⟩ := hr
  have hrb : r ≠ b := q_ne h1 h2 (by intro e; cases e)
  refine ⟨((h.1.set b (ai_num .byte len (upd f t.length (vp_nar .byte (x.toInt8.toInt32))))).set r (ai_obj 3 [.ref b, .int (nI t.length + 1)]), h.2), fun o hg => ?_, ⟨upd f t.length (vp_nar .byte (x.toInt8.toInt32)), ?_, ?_, ?_, h4, fun j hj => ?_⟩, ?_⟩
  · skip
    refine qg_pls (n := 1) (k' := 22) (lo' := [some (.ref r), some (.int x)]) (S' := [.ref r]) (h' := h) rfl ?_
    refine qg_getf (v := .int (nI t.length)) rfl h1 rfl rfl rfl ?_
    refine qg_if false rfl (qc_lt0 (by omega)) rfl ?_
    refine qg_pls (n := 1) (k' := 25) (lo' := [some (.ref r), some (.int x)]) (S' := [.ref r]) (h' := h) rfl ?_
    refine qg_getf (v := .int (nI t.length)) rfl h1 rfl rfl rfl ?_
    refine qg_pls (n := 1) (k' := 27) (lo' := [some (.ref r), some (.int x)]) (S' := [.ref r, .int (nI t.length)]) (h' := h) rfl ?_
    refine qg_getf (v := .ref b) rfl h1 rfl rfl rfl ?_
    refine qg_alen rfl h2 ?_
    refine qg_icmp false rfl (qc_geF hlt (by omega)) rfl ?_
    refine qg_pls (n := 1) (k' := 31) (lo' := [some (.ref r), some (.int x)]) (S' := [.ref r]) (h' := h) rfl ?_
    refine qg_getf (v := .ref b) rfl h1 rfl rfl rfl ?_
    refine qg_pls (n := 1) (k' := 33) (lo' := [some (.ref r), some (.int x)]) (S' := [.ref r, .ref b]) (h' := h) rfl ?_
    refine qg_getf (v := .int (nI t.length)) rfl h1 rfl rfl rfl ?_
    refine qg_pls (n := 2) (k' := 36) (lo' := [some (.ref r), some (.int x)]) (S' := [.int (x).toInt8.toInt32, .int (nI t.length), .ref b]) (h' := h) rfl ?_
    refine qg_ast rfl (fun _ _ _ => rfl) h2 (by omega) (by omega) ?_
    refine qg_pls (n := 2) (k' := 39) (lo' := [some (.ref r), some (.int x)]) (S' := [.ref r, .ref r]) (h' := (h.1.set b (ai_num .byte len (upd f t.length (vp_nar .byte (x.toInt8.toInt32)))), h.2)) rfl ?_
    refine qg_getf (v := .int (nI t.length)) rfl (q_stay h1 (Ne.symm hrb)) rfl rfl rfl ?_
    refine qg_pls (n := 2) (k' := 42) (lo' := [some (.ref r), some (.int x)]) (S' := [.int ((nI t.length) + 1), .ref r]) (h' := (h.1.set b (ai_num .byte len (upd f t.length (vp_nar .byte (x.toInt8.toInt32)))), h.2)) rfl ?_
    refine qg_putf rfl (q_stay h1 (Ne.symm hrb)) rfl rfl (Nat.le_of_ble_eq_true rfl) rfl ?_
    exact hg
  · rw [List.length_append, show nI (t.length + [zb x].length) = nI t.length + 1 from nI_succ _]
    exact q_set (q_stay h1 (Ne.symm hrb))
  · exact q_stay (q_set h2) hrb
  · rw [List.length_append]; exact hlt
  · rw [List.length_append] at hj
    have hj : j < t.length + 1 := hj
    unfold upd
    by_cases he : j = t.length
    · rw [if_pos he, he, getD_app2]
      exact zb_zb x
    · rw [if_neg he, getD_app1 (by omega)]
      exact h5 j (by omega)
  · refine ⟨by simp, fun i i1 i2 i3 => ?_, Or.inl rfl, Nat.le_refl _, Nat.le_refl _, Nat.le_refl _⟩
    show ((h.1.set b _).set r _)[i]? = _
    rw [List.getElem?_set_ne (fun e => i1 e.symm), List.getElem?_set_ne (fun e => i2 e.symm)]
/-- Row.add(x) -/
theorem q_add {r b len : Nat} {t : List Int32} (x : Int32) (hr : qrow h r b len t) (hlt : t.length < 524288) : ∃ h' b' len', qe L xs (d + 3) 39 [.ref r, .int x] h (.inl none, h') ∧ qrow h' r b' len' (t ++ [zb x]) ∧ qro r h b len h' b' len' := by
  have hle := qrow_le hr
  by_cases hfull : t.length < len
  · obtain ⟨h', g1, g2, g3⟩ := q_add0 (L := L) (xs := xs) (d := d + 2) (x := x) hr hfull
    refine ⟨h', b, len, ?_, g2, g3⟩
    obtain ⟨f, h1, h2, h3, h4, h5⟩ := hr
    refine qe_of (M := qm_39) rfl rfl ?_
    show qg L xs _ qm_39 0 [some (.ref r), some (.int x)] [] h _
    refine qg_pls (n := 1) (k' := 1) (lo' := [some (.ref r), some (.int x)]) (S' := [.ref r]) (h' := h) rfl ?_
    refine qg_getf (v := .int (nI t.length)) rfl h1 rfl rfl rfl ?_
    refine qg_pls (n := 1) (k' := 3) (lo' := [some (.ref r), some (.int x)]) (S' := [.ref r, .int (nI t.length)]) (h' := h) rfl ?_
    refine qg_getf (v := .ref b) rfl h1 rfl rfl rfl ?_
    refine qg_alen rfl h2 ?_
    refine qg_icmp true rfl (qc_ltT hfull (by omega)) rfl ?_
    refine g1 _ ?_
    exact qg_ret7 rfl
  · obtain ⟨f, h1, h2, h3, ⟨e, h4, h6⟩, h5⟩ := hr
    have hrb : r ≠ b := q_ne h1 h2 (by intro e; cases e)
    have he : e < 11 := by
      rcases Nat.lt_or_ge e 11 with q | q
      · exact q
      · have : e = 11 := by omega
        subst this
        omega
    have hl2 : len * 2 = 256 * 2 ^ (e + 1) := by rw [Nat.pow_succ]; omega
    have hl3 := q_pw (show e + 1 ≤ 11 by omega)
    have hl4 : 256 ≤ len := by
      have := Nat.one_le_two_pow (n := e)
      omega
    have hrow : qrow ((h.1 ++ [ai_num .byte (len * 2) (va_cpy f (fun _ => 0) 0 0 len)]).set r (ai_obj 3 [.ref h.1.length, .int (nI t.length)]), h.2.1 + 1, h.2.2 + len * 2) r h.1.length (len * 2) t := by
      refine ⟨va_cpy f (fun _ => 0) 0 0 len, q_set (q_app h1), q_stay q_new (by have := q_lt h1; omega), by omega, ⟨e + 1, by omega, hl2⟩, fun j hj => ?_⟩
      unfold va_cpy
      rw [if_pos ⟨Nat.zero_le _, by omega⟩, ← h5 j hj]
      simp
    obtain ⟨h', g1, g2, g3⟩ := q_add0 (L := L) (xs := xs) (d := d + 2) (x := x) hrow (by omega)
    refine ⟨h', h.1.length, len * 2, ?_, g2, qro_trans (h' := ((h.1 ++ [ai_num .byte (len * 2) (va_cpy f (fun _ => 0) 0 0 len)]).set r (ai_obj 3 [.ref h.1.length, .int (nI t.length)]), h.2.1 + 1, h.2.2 + len * 2)) (b' := h.1.length) (len' := len * 2) ⟨?_, fun i i1 i2 i3 => ?_, Or.inr (Nat.le_refl _), by omega, ?_, ?_⟩ g3⟩
    · skip
      refine qe_of (M := qm_39) rfl rfl ?_
      show qg L xs _ qm_39 0 [some (.ref r), some (.int x)] [] h _
      refine qg_pls (n := 1) (k' := 1) (lo' := [some (.ref r), some (.int x)]) (S' := [.ref r]) (h' := h) rfl ?_
      refine qg_getf (v := .int (nI t.length)) rfl h1 rfl rfl rfl ?_
      refine qg_pls (n := 1) (k' := 3) (lo' := [some (.ref r), some (.int x)]) (S' := [.ref r, .int (nI t.length)]) (h' := h) rfl ?_
      refine qg_getf (v := .ref b) rfl h1 rfl rfl rfl ?_
      refine qg_alen rfl h2 ?_
      refine qg_icmp false rfl (qc_ltF (by omega) (by omega)) rfl ?_
      refine qg_pls (n := 1) (k' := 7) (lo' := [some (.ref r), some (.int x)]) (S' := [.ref r]) (h' := h) rfl ?_
      refine qg_getf (v := .ref b) rfl h1 rfl rfl rfl ?_
      refine qg_alen rfl h2 ?_
      refine qg_pls (n := 1) (k' := 10) (lo' := [some (.ref r), some (.int x)]) (S' := [.int 524288, .int (nI len)]) (h' := h) rfl ?_
      refine qg_icmp false rfl (qc_geF (b := 524288) (by omega) (by decide)) rfl ?_
      refine qg_pls (n := 2) (k' := 13) (lo' := [some (.ref r), some (.int x)]) (S' := [.ref r, .ref r]) (h' := h) rfl ?_
      refine qg_getf (v := .ref b) rfl h1 rfl rfl rfl ?_
      refine qg_pls (n := 1) (k' := 15) (lo' := [some (.ref r), some (.int x)]) (S' := [.ref r, .ref b, .ref r]) (h' := h) rfl ?_
      refine qg_getf (v := .ref b) rfl h1 rfl rfl rfl ?_
      refine qg_alen rfl h2 ?_
      refine qg_pls (n := 2) (k' := 19) (lo' := [some (.ref r), some (.int x)]) (S' := [.int ((nI len) * 2), .ref b, .ref r]) (h' := h) rfl ?_
      rw [nI_2]
      refine qg_call (v := some (.ref h.1.length)) (h' := (h.1 ++ [ai_num .byte (len * 2) (va_cpy f (fun _ => 0) 0 0 len)], h.2.1 + 1, h.2.2 + len * 2)) (as := [.ref b, .int (nI (len * 2))]) rfl rfl rfl rfl rfl rfl rfl rfl (q_copyB h2 (by omega) (by omega)) ?_
      show qg L xs _ qm_39 20 [some (.ref r), some (.int x)] [.ref h.1.length, .ref r] (h.1 ++ [ai_num .byte (len * 2) (va_cpy f (fun _ => 0) 0 0 len)], h.2.1 + 1, h.2.2 + len * 2) _
      refine qg_putf rfl (q_app h1) rfl rfl (Nat.le_of_ble_eq_true rfl) rfl ?_
      refine g1 _ ?_
      exact qg_ret7 rfl
    · simp
    · show ((h.1 ++ _).set r _)[i]? = _
      rw [List.getElem?_set_ne (fun e => i1 e.symm), List.getElem?_append_left i3]
    · show 16 * (h.2.1 + 1) + len ≤ _
      omega
    · show h.2.2 + len * 2 + 2 * len ≤ _
      omega
end QRX
