/-! ROWS OF BYTES AND TEXTS. (Printed by wip/whole/pp.py from wip/whole/src.) -/
section QRW
variable {L : Nat} {xs : Nat → Int32} {d : Nat} {M : ai_M} {k k' : Nat} {lo lo' : ai_L} {S S' : List Value} {h h' : ai_H} {o : ai_O}
/-! comparisons of numbers -/
theorem qc_ltT {a b : Nat} (h : a < b) (hb : b < 2 ^ 31) : ai_cmp .lt (nI a) (nI b) = true := decide_eq_true (nI_lt h hb)
theorem qc_ltF {a b : Nat} (h : b ≤ a) (hb : a < 2 ^ 31) : ai_cmp .lt (nI a) (nI b) = false := decide_eq_false (nI_nlt h hb)
theorem qc_geT {a b : Nat} (h : b ≤ a) (hb : a < 2 ^ 31) : ai_cmp .ge (nI a) (nI b) = true := decide_eq_true (nI_le h hb)
theorem qc_geF {a b : Nat} (h : a < b) (hb : b < 2 ^ 31) : ai_cmp .ge (nI a) (nI b) = false := decide_eq_false (nI_ge h hb)
theorem qc_gtT {a b : Nat} (h : b < a) (hb : a < 2 ^ 31) : ai_cmp .gt (nI a) (nI b) = true := decide_eq_true (nI_lt h hb)
theorem qc_gtF {a b : Nat} (h : a ≤ b) (hb : b < 2 ^ 31) : ai_cmp .gt (nI a) (nI b) = false := decide_eq_false (nI_nlt h hb)
theorem qc_leT {a b : Nat} (h : a ≤ b) (hb : b < 2 ^ 31) : ai_cmp .le (nI a) (nI b) = true := decide_eq_true (nI_le h hb)
theorem qc_leF {a b : Nat} (h : b < a) (hb : a < 2 ^ 31) : ai_cmp .le (nI a) (nI b) = false := decide_eq_false (nI_ge h hb)
theorem qc_eqT {a b : Nat} (h : a = b) : ai_cmp .eq (nI a) (nI b) = true := decide_eq_true (by rw [h])
theorem qc_eqF {a b : Nat} (h : a ≠ b) (ha : a < 2 ^ 31) (hb : b < 2 ^ 31) : ai_cmp .eq (nI a) (nI b) = false := decide_eq_false (fun e => h ((nI_eq ha hb).mp e))
theorem qc_neT {a b : Nat} (h : a ≠ b) (ha : a < 2 ^ 31) (hb : b < 2 ^ 31) : ai_cmp .ne (nI a) (nI b) = true := by
  show (!decide (nI a = nI b)) = true
  rw [decide_eq_false (fun e => h ((nI_eq ha hb).mp e))]; rfl
theorem qc_neF {a b : Nat} (h : a = b) : ai_cmp .ne (nI a) (nI b) = false := by
  show (!decide (nI a = nI b)) = false
  rw [h, decide_eq_true rfl]; rfl
theorem qc_lt0 {a : Nat} (h : a < 2 ^ 31) : ai_cmp .lt (nI a) 0 = false := decide_eq_false (nI_pos h)
theorem qc_ge0 {a : Nat} (h : a < 2 ^ 31) : ai_cmp .ge (nI a) 0 = true := decide_eq_true (nI_pos' h)
theorem nI_mul (a b : Nat) : nI a * nI b = nI (a * b) := (Int32.ofNat_mul a b).symm
theorem nI_2 (a : Nat) : nI a * 2 = nI (a * 2) := nI_mul a 2
/-! making -/
theorem qg_newa {pc len n : Nat} {t : ArrayType} {rs : List Int} {nm : String} (hk : (ai_Mc M)[k]? = some (pc, .newarray t, len, 0, rs, nm)) (hn : n ≤ 1048576) (hty : newarray.typeOf t ≠ .long) (hg : qg L xs d M (k + 1) lo (.ref h.1.length :: S) (h.1 ++ [ai_num (newarray.typeOf t) n (fun _ => 0)], h.2.1 + 1, h.2.2 + n) o) : qg L xs d M k lo (.int (nI n) :: S) h o := by
  refine qg_eff (t := 0) (lo' := lo) (S' := .ref h.1.length :: S) (h' := (h.1 ++ [ai_num (newarray.typeOf t) n (fun _ => 0)], h.2.1 + 1, h.2.2 + n)) hk ?_ rfl hg
  simp only [ai_eff, ai_newa]
  rw [nI_clamp (by omega), if_pos ⟨nI_pos (by omega), hn⟩, if_neg hty]
/-! cells -/
theorem q_ne {hl : List ai_C} {a b : Nat} {x y : ai_C} (ha : hl[a]? = some x) (hb : hl[b]? = some y) (hxy : x ≠ y) : a ≠ b := fun e => by
  subst e
  rw [ha] at hb
  exact hxy (Option.some.inj hb)
theorem q_lt {hl : List ai_C} {a : Nat} {x : ai_C} (ha : hl[a]? = some x) : a < hl.length := (List.getElem?_eq_some_iff.mp ha).1
theorem q_set {hl : List ai_C} {a : Nat} {x y : ai_C} (ha : hl[a]? = some x) : (hl.set a y)[a]? = some y := List.getElem?_set_self (q_lt ha)
theorem q_stay {hl : List ai_C} {a b : Nat} {x y : ai_C} (hb : hl[b]? = some y) (hab : a ≠ b) : (hl.set a x)[b]? = some y := by
  rw [List.getElem?_set_ne hab]; exact hb
theorem q_app {hl : List ai_C} {b : Nat} {y : ai_C} {z : List ai_C} (hb : hl[b]? = some y) : (hl ++ z)[b]? = some y := by
  rw [List.getElem?_append_left (q_lt hb)]; exact hb
theorem q_new {hl : List ai_C} {y : ai_C} : (hl ++ [y])[hl.length]? = some y := by
  rw [List.getElem?_append_right (Nat.le_refl _)]; simp
theorem q_newset {hl : List ai_C} {x y : ai_C} : (hl ++ [x]).set hl.length y = hl ++ [y] := by
  simp [List.set_append]
/-- an array is copied into another -/
theorem q_copy {ty : FieldType} {a c n0 n1 n sp dp : Nat} {f g : Nat → Int32} (ha : h.1[a]? = some (ai_num ty n0 f)) (hc : h.1[c]? = some (ai_num ty n1 g)) (h0 : n0 < 2 ^ 31) (h1 : n1 < 2 ^ 31) (hs : sp + n ≤ n0) (hd : dp + n ≤ n1) : ai_copy (.int (nI n) :: .int (nI dp) :: .ref c :: .int (nI sp) :: .ref a :: S) h = some (S, (h.1.set c (ai_num ty n1 (va_cpy f g sp dp n)), h.2)) := by
  simp only [ai_copy]
  rw [if_neg (by
    intro e
    rcases e with e | e | e
    · exact nI_pos (by omega) e
    · exact nI_pos (by omega) e
    · exact nI_pos (by omega) e), ha]
  dsimp only
  rw [hc]
  dsimp only
  rw [nI_clamp (show n < 2 ^ 31 by omega), nI_clamp (show sp < 2 ^ 31 by omega), nI_clamp (show dp < 2 ^ 31 by omega), if_pos ⟨rfl, hs, hd⟩]
/-! a byte -/
def zb (x : Int32) : Int32 := x.toInt8.toInt32
theorem zb_nar (x : Int32) : vp_nar .byte x = zb x := rfl
theorem zb_zb (x : Int32) : zb (zb x) = zb x := by
  unfold zb
  rw [Int8.toInt8_toInt32]
/-- the row r holds the bytes t, in the array b of len places -/
def qrow (h : ai_H) (r b len : Nat) (t : List Int32) : Prop := ∃ f, h.1[r]? = some (ai_obj 3 [.ref b, .int (nI t.length)]) ∧ h.1[b]? = some (ai_num .byte len f) ∧ t.length ≤ len ∧ (∃ e, e ≤ 11 ∧ len = 256 * 2 ^ e) ∧ ∀ j, j < t.length → f j = t.getD j 0
theorem q_pw {e : Nat} (h : e ≤ 11) : 256 * 2 ^ e ≤ 524288 := by
  have := Nat.pow_le_pow_right (show 0 < 2 by decide) h
  omega
theorem qrow_le {r b len : Nat} {t : List Int32} (hr : qrow h r b len t) : len ≤ 524288 ∧ t.length ≤ len := by
  obtain ⟨f, h1, h2, h3, ⟨e, h4, rfl⟩, h5⟩ := hr
  exact ⟨q_pw h4, h3⟩
/-- what has happened to the other cells, and to the numbers of cells and slots, while the row r changed -/
def qro (r : Nat) (h : ai_H) (b len : Nat) (h' : ai_H) (b' len' : Nat) : Prop := h.1.length ≤ h'.1.length ∧ (∀ i, i ≠ r → i ≠ b → i < h.1.length → h'.1[i]? = h.1[i]?) ∧ (b' = b ∨ h.1.length ≤ b') ∧ len ≤ len' ∧ 16 * h'.2.1 + len ≤ 16 * h.2.1 + len' ∧ h'.2.2 + 2 * len ≤ h.2.2 + 2 * len'
theorem qro_refl {r b len : Nat} : qro r h b len h b len := ⟨Nat.le_refl _, fun _ _ _ _ => rfl, Or.inl rfl, Nat.le_refl _, Nat.le_refl _, Nat.le_refl _⟩
theorem qro_trans {r b len b' len' b2 len2 : Nat} {h2 : ai_H} (a : qro r h b len h' b' len') (c : qro r h' b' len' h2 b2 len2) : qro r h b len h2 b2 len2 := by
  obtain ⟨a1, a2, a3, a4, a5, a6⟩ := a
  obtain ⟨c1, c2, c3, c4, c5, c6⟩ := c
  refine ⟨by omega, fun i i1 i2 i3 => ?_, by omega, by omega, by omega, by omega⟩
  rw [c2 i i1 (by omega) (by omega), a2 i i1 i2 i3]
/-- the byte at a place, 0 .. 255, or -1 -/
def zat (t : List Int32) (j : Nat) : Int32 := if j < t.length then t.getD j 0 &&& 255 else -1
/-- Row.size() -/
theorem q_size {r b len : Nat} {t : List Int32} (hr : qrow h r b len t) : qe L xs (d + 1) 9 [.ref r] h (.inl (some (.int (nI t.length))), h) := by
  obtain ⟨f, h1, h2, h3, h4, h5⟩ := hr
  refine qe_of (M := qm_9) rfl rfl ?_
  show qg L xs _ qm_9 0 [some (.ref r)] [] h _
  refine qg_pls (n := 1) (k' := 1) (lo' := [some (.ref r)]) (S' := [.ref r]) (h' := h) rfl ?_
  refine qg_getf (v := .int (nI t.length)) rfl h1 rfl rfl rfl ?_
  exact qg_ret5 rfl rfl rfl
/-- Row.at(j) -/
theorem q_at {r b len j : Nat} {t : List Int32} (hr : qrow h r b len t) (hj : j < 2 ^ 31) : qe L xs (d + 1) 10 [.ref r, .int (nI j)] h (.inl (some (.int (zat t j))), h) := by
  have hle := qrow_le hr
  obtain ⟨f, h1, h2, h3, h4, h5⟩ := hr
  refine qe_of (M := qm_10) rfl rfl ?_
  show qg L xs _ qm_10 0 [some (.ref r), some (.int (nI j))] [] h _
  unfold zat
  refine qg_pls (n := 1) (k' := 1) (lo' := [some (.ref r), some (.int (nI j))]) (S' := [.int (nI j)]) (h' := h) rfl ?_
  refine qg_if false rfl (qc_lt0 hj) rfl ?_
  refine qg_pls (n := 2) (k' := 4) (lo' := [some (.ref r), some (.int (nI j))]) (S' := [.ref r, .int (nI j)]) (h' := h) rfl ?_
  refine qg_getf (v := .int (nI t.length)) rfl h1 rfl rfl rfl ?_
  by_cases hlt : j < t.length
  · rw [if_pos hlt, ← h5 j hlt]
    refine qg_icmp false rfl (qc_geF hlt (by omega)) rfl ?_
    refine qg_pls (n := 2) (k' := 8) (lo' := [some (.ref r), some (.int (nI j))]) (S' := [.ref r, .int (nI j)]) (h' := h) rfl ?_
    refine qg_getf (v := .ref b) rfl h1 rfl rfl rfl ?_
    refine qg_alen rfl h2 ?_
    refine qg_icmp false rfl (qc_geF (by omega) (by omega)) rfl ?_
    refine qg_pls (n := 1) (k' := 12) (lo' := [some (.ref r), some (.int (nI j))]) (S' := [.ref r]) (h' := h) rfl ?_
    refine qg_getf (v := .ref b) rfl h1 rfl rfl rfl ?_
    refine qg_pls (n := 1) (k' := 14) (lo' := [some (.ref r), some (.int (nI j))]) (S' := [.int (nI j), .ref b]) (h' := h) rfl ?_
    refine qg_ald rfl (fun _ _ _ => rfl) h2 (by omega) (by omega) ?_
    refine qg_pls (n := 3) (k' := 19) (lo' := [some (.ref r), some (.int (nI j))]) (S' := [.int ((f j) &&& 255)]) (h' := h) rfl ?_
    exact qg_ret5 rfl rfl rfl
  · rw [if_neg hlt]
    refine qg_icmp true rfl (qc_geT (by omega) (by omega)) rfl ?_
    refine qg_pls (n := 1) (k' := 19) (lo' := [some (.ref r), some (.int (nI j))]) (S' := [.int (-1)]) (h' := h) rfl ?_
    exact qg_ret5 rfl rfl rfl
/-- Row.cut(n) -/
theorem q_cut {r b len n : Nat} {t : List Int32} (hr : qrow h r b len t) (hn : n < 2 ^ 31) : ∃ h', qe L xs (d + 1) 34 [.ref r, .int (nI n)] h (.inl none, h') ∧ qrow h' r b len (t.take n) ∧ qro r h b len h' b len := by
  have hle := qrow_le hr
  obtain ⟨f, h1, h2, h3, h4, h5⟩ := hr
  have hrb : r ≠ b := q_ne h1 h2 (by intro e; cases e)
  by_cases hlt : n < t.length
  · refine ⟨(h.1.set r (ai_obj 3 [.ref b, .int (nI n)]), h.2), ?_, ⟨f, ?_, q_stay h2 hrb, ?_, h4, fun j hj => ?_⟩, ?_⟩
    · skip
      refine qe_of (M := qm_34) rfl rfl ?_
      show qg L xs _ qm_34 0 [some (.ref r), some (.int (nI n))] [] h _
      refine qg_pls (n := 1) (k' := 1) (lo' := [some (.ref r), some (.int (nI n))]) (S' := [.int (nI n)]) (h' := h) rfl ?_
      refine qg_if false rfl (qc_lt0 hn) rfl ?_
      refine qg_pls (n := 2) (k' := 4) (lo' := [some (.ref r), some (.int (nI n))]) (S' := [.ref r, .int (nI n)]) (h' := h) rfl ?_
      refine qg_getf (v := .int (nI t.length)) rfl h1 rfl rfl rfl ?_
      refine qg_icmp false rfl (qc_geF hlt (by omega)) rfl ?_
      refine qg_pls (n := 2) (k' := 8) (lo' := [some (.ref r), some (.int (nI n))]) (S' := [.int (nI n), .ref r]) (h' := h) rfl ?_
      refine qg_putf rfl h1 rfl rfl (Nat.le_of_ble_eq_true rfl) rfl ?_
      exact qg_ret7 rfl
    · rw [List.length_take, Nat.min_eq_left (by omega)]; exact q_set h1
    · rw [List.length_take]; omega
    · rw [List.length_take] at hj
      rw [h5 j (by omega)]
      simp [List.getD_eq_getElem?_getD, List.getElem?_take, show j < n by omega]
    · refine ⟨by simp, fun i i1 i2 i3 => ?_, Or.inl rfl, Nat.le_refl _, Nat.le_refl _, Nat.le_refl _⟩
      exact List.getElem?_set_ne (fun e => i1 e.symm)
  · refine ⟨h, ?_, ?_, qro_refl⟩
    · skip
      refine qe_of (M := qm_34) rfl rfl ?_
      show qg L xs _ qm_34 0 [some (.ref r), some (.int (nI n))] [] h _
      refine qg_pls (n := 1) (k' := 1) (lo' := [some (.ref r), some (.int (nI n))]) (S' := [.int (nI n)]) (h' := h) rfl ?_
      refine qg_if false rfl (qc_lt0 hn) rfl ?_
      refine qg_pls (n := 2) (k' := 4) (lo' := [some (.ref r), some (.int (nI n))]) (S' := [.ref r, .int (nI n)]) (h' := h) rfl ?_
      refine qg_getf (v := .int (nI t.length)) rfl h1 rfl rfl rfl ?_
      refine qg_icmp true rfl (qc_geT (by omega) (by omega)) rfl ?_
      exact qg_ret7 rfl
    · rw [List.take_of_length_le (by omega)]
      exact ⟨f, h1, h2, h3, h4, h5⟩
/-- Math.min -/
theorem q_min {a b : Nat} (hab : a ≤ b) (hb : b < 2 ^ 31) : qe L xs (d + 1) 32 [.int (nI a), .int (nI b)] h (.inl (some (.int (nI a))), h) := by
  refine qe_of (M := qm_32) rfl rfl ?_
  show qg L xs _ qm_32 0 [some (.int (nI a)), some (.int (nI b))] [] h _
  refine qg_pls (n := 2) (k' := 2) (lo' := [some (.int (nI a)), some (.int (nI b))]) (S' := [.int (nI b), .int (nI a)]) (h' := h) rfl ?_
  refine qg_icmp false rfl (qc_gtF hab hb) rfl ?_
  refine qg_pls (n := 2) (k' := 6) (lo' := [some (.int (nI a)), some (.int (nI b))]) (S' := [.int (nI a)]) (h' := h) rfl ?_
  exact qg_ret5 rfl rfl rfl
/-- Arrays.copyOf of bytes, longer -/
theorem q_copyB {b n m : Nat} {f : Nat → Int32} (h2 : h.1[b]? = some (ai_num .byte n f)) (hnm : n < m) (hm : m ≤ 1048576) : qe L xs (d + 2) 40 [.ref b, .int (nI m)] h (.inl (some (.ref h.1.length)), (h.1 ++ [ai_num .byte m (va_cpy f (fun _ => 0) 0 0 n)], h.2.1 + 1, h.2.2 + m)) := by
  refine qe_of (M := qm_40) rfl rfl ?_
  show qg L xs _ qm_40 0 [some (.ref b), some (.int (nI m)), none] [] h _
  refine qg_pls (n := 2) (k' := 2) (lo' := [some (.ref b), some (.int (nI m)), none]) (S' := [.ref b, .int (nI m)]) (h' := h) rfl ?_
  refine qg_alen rfl h2 ?_
  refine qg_icmp true rfl (qc_neT (by omega) (by omega) (by omega)) rfl ?_
  refine qg_pls (n := 1) (k' := 9) (lo' := [some (.ref b), some (.int (nI m)), none]) (S' := [.int (nI m)]) (h' := h) rfl ?_
  refine qg_newa rfl (hm) (by decide) ?_
  show qg L xs _ qm_40 10 [some (.ref b), some (.int (nI m)), none] [.ref h.1.length] (h.1 ++ [ai_num .byte m (fun _ => 0)], h.2.1 + 1, h.2.2 + m) _
  refine qg_pls (n := 6) (k' := 16) (lo' := [some (.ref b), some (.int (nI m)), some (.ref h.1.length)]) (S' := [.ref b, .int 0, .ref h.1.length, .int 0, .ref b]) (h' := (h.1 ++ [ai_num .byte m (fun _ => 0)], h.2.1 + 1, h.2.2 + m)) rfl ?_
  refine qg_alen rfl (q_app h2) ?_
  refine qg_pls (n := 1) (k' := 18) (lo' := [some (.ref b), some (.int (nI m)), some (.ref h.1.length)]) (S' := [.int (nI m), .int (nI n), .int 0, .ref h.1.length, .int 0, .ref b]) (h' := (h.1 ++ [ai_num .byte m (fun _ => 0)], h.2.1 + 1, h.2.2 + m)) rfl ?_
  refine qg_call (v := some (.int (nI n))) (h' := (h.1 ++ [ai_num .byte m (fun _ => 0)], h.2.1 + 1, h.2.2 + m)) (as := [.int (nI n), .int (nI m)]) rfl rfl rfl rfl rfl rfl rfl rfl (q_min (by omega) (by omega)) ?_
  show qg L xs _ qm_40 19 [some (.ref b), some (.int (nI m)), some (.ref h.1.length)] [.int (nI n), .int 0, .ref h.1.length, .int 0, .ref b] (h.1 ++ [ai_num .byte m (fun _ => 0)], h.2.1 + 1, h.2.2 + m) _
  refine qg_cpy rfl (q_copy (sp := 0) (dp := 0) (q_app h2) q_new (by omega) (by omega) (by omega) (by omega)) rfl ?_
  rw [q_newset]
  show qg L xs _ qm_40 20 [some (.ref b), some (.int (nI m)), some (.ref h.1.length)] [] (h.1 ++ [ai_num .byte m (va_cpy f (fun _ => 0) 0 0 n)], h.2.1 + 1, h.2.2 + m) _
  refine qg_pls (n := 1) (k' := 21) (lo' := [some (.ref b), some (.int (nI m)), some (.ref h.1.length)]) (S' := [.ref h.1.length]) (h' := (h.1 ++ [ai_num .byte m (va_cpy f (fun _ => 0) 0 0 n)], h.2.1 + 1, h.2.2 + m)) rfl ?_
  exact qg_ret6 rfl rfl
/-- Arrays.copyOf of ints, longer -/
theorem q_copyI {b n m : Nat} {f : Nat → Int32} (h2 : h.1[b]? = some (ai_num .int n f)) (hnm : n < m) (hm : m ≤ 1048576) : qe L xs (d + 2) 31 [.ref b, .int (nI m)] h (.inl (some (.ref h.1.length)), (h.1 ++ [ai_num .int m (va_cpy f (fun _ => 0) 0 0 n)], h.2.1 + 1, h.2.2 + m)) := by
  refine qe_of (M := qm_31) rfl rfl ?_
  show qg L xs _ qm_31 0 [some (.ref b), some (.int (nI m)), none] [] h _
  refine qg_pls (n := 2) (k' := 2) (lo' := [some (.ref b), some (.int (nI m)), none]) (S' := [.ref b, .int (nI m)]) (h' := h) rfl ?_
  refine qg_alen rfl h2 ?_
  refine qg_icmp true rfl (qc_neT (by omega) (by omega) (by omega)) rfl ?_
  refine qg_pls (n := 1) (k' := 9) (lo' := [some (.ref b), some (.int (nI m)), none]) (S' := [.int (nI m)]) (h' := h) rfl ?_
  refine qg_newa rfl (hm) (by decide) ?_
  show qg L xs _ qm_31 10 [some (.ref b), some (.int (nI m)), none] [.ref h.1.length] (h.1 ++ [ai_num .int m (fun _ => 0)], h.2.1 + 1, h.2.2 + m) _
  refine qg_pls (n := 6) (k' := 16) (lo' := [some (.ref b), some (.int (nI m)), some (.ref h.1.length)]) (S' := [.ref b, .int 0, .ref h.1.length, .int 0, .ref b]) (h' := (h.1 ++ [ai_num .int m (fun _ => 0)], h.2.1 + 1, h.2.2 + m)) rfl ?_
  refine qg_alen rfl (q_app h2) ?_
  refine qg_pls (n := 1) (k' := 18) (lo' := [some (.ref b), some (.int (nI m)), some (.ref h.1.length)]) (S' := [.int (nI m), .int (nI n), .int 0, .ref h.1.length, .int 0, .ref b]) (h' := (h.1 ++ [ai_num .int m (fun _ => 0)], h.2.1 + 1, h.2.2 + m)) rfl ?_
  refine qg_call (v := some (.int (nI n))) (h' := (h.1 ++ [ai_num .int m (fun _ => 0)], h.2.1 + 1, h.2.2 + m)) (as := [.int (nI n), .int (nI m)]) rfl rfl rfl rfl rfl rfl rfl rfl (q_min (by omega) (by omega)) ?_
  show qg L xs _ qm_31 19 [some (.ref b), some (.int (nI m)), some (.ref h.1.length)] [.int (nI n), .int 0, .ref h.1.length, .int 0, .ref b] (h.1 ++ [ai_num .int m (fun _ => 0)], h.2.1 + 1, h.2.2 + m) _
  refine qg_cpy rfl (q_copy (sp := 0) (dp := 0) (q_app h2) q_new (by omega) (by omega) (by omega) (by omega)) rfl ?_
  rw [q_newset]
  show qg L xs _ qm_31 20 [some (.ref b), some (.int (nI m)), some (.ref h.1.length)] [] (h.1 ++ [ai_num .int m (va_cpy f (fun _ => 0) 0 0 n)], h.2.1 + 1, h.2.2 + m) _
  refine qg_pls (n := 1) (k' := 21) (lo' := [some (.ref b), some (.int (nI m)), some (.ref h.1.length)]) (S' := [.ref h.1.length]) (h' := (h.1 ++ [ai_num .int m (va_cpy f (fun _ => 0) 0 0 n)], h.2.1 + 1, h.2.2 + m)) rfl ?_
  exact qg_ret6 rfl rfl
end QRW
