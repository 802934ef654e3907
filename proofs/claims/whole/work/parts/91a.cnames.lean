/-! THE CLASS COUNTS NAMES: two of them. (Printed by wip/whole/pp.py from wip/whole/src.) -/
section CNM
variable {L : Nat} {xs : Nat → Int32} {d : Nat} {h : ai_H} {r b len : Nat} {t : List Int32}
/-- a word: up to a blank, or the end -/
def zwd (t : List Int32) : Nat → Nat → List Int32
  | 0, _ => []
  | n + 1, p => if zat t p = 32 then [] else zat t p :: zwd t n (p + 1)
def zna (t : List Int32) (p : Nat) : List Int32 := zwd t (t.length - p) p
def zhs (A : List Int32) : Int32 := zfold 0 A ^^^ (Int32.toUInt32 (zfold 0 A) >>> (Int32.toUInt32 15 &&& Int32.toUInt32 31)).toInt32
/-- Names.hash -/
theorem q_hash (hr : qrow h r b len t) (hl : t.length ≤ 1048576) {p : Nat} (hp : p ≤ t.length) : qe L xs (d + 2) 101 [.ref r, .int (nI p)] h (.inl (some (.int (zhs (zna t p)))), h) := by
  have out : ∀ (s : Int32) (i : Nat), qg L xs (d + 1) qm_101 23 [some (.ref r), some (.int (nI p)), some (.int s), some (.int (nI i))] [] h (.inl (some (.int (s ^^^ (Int32.toUInt32 s >>> (Int32.toUInt32 15 &&& Int32.toUInt32 31)).toInt32))), h) := by
    intro s i
    refine qg_pls (n := 5) (k' := 28) (lo' := [some (.ref r), some (.int (nI p)), some (.int s), some (.int (nI i))]) (S' := [.int (s ^^^ (Int32.toUInt32 s >>> (Int32.toUInt32 15 &&& Int32.toUInt32 31)).toInt32)]) (h' := h) rfl ?_
    exact qg_ret5 rfl rfl rfl
  have loop : ∀ (m i : Nat) (s : Int32), t.length - i = m → i ≤ t.length → qg L xs (d + 1) qm_101 4 [some (.ref r), some (.int (nI p)), some (.int s), some (.int (nI i))] [] h (.inl (some (.int (zfold s (zwd t m i) ^^^ (Int32.toUInt32 (zfold s (zwd t m i)) >>> (Int32.toUInt32 15 &&& Int32.toUInt32 31)).toInt32))), h) := by
    intro m
    induction m with
    | zero =>
      intro i s hm hi
      have e1 : i = t.length := by omega
      refine qg_pls (n := 2) (k' := 6) (lo' := [some (.ref r), some (.int (nI p)), some (.int s), some (.int (nI i))]) (S' := [.ref r, .int (nI i)]) (h' := h) rfl ?_
      refine qg_call (v := some (.int (nI t.length))) (h' := h) (as := [.ref r]) rfl rfl rfl rfl rfl rfl rfl (ai_rcv1 rfl rfl (qrow_obj hr)) (q_size (d := d) hr) ?_
      show qg L xs _ qm_101 7 [some (.ref r), some (.int (nI p)), some (.int s), some (.int (nI i))] [.int (nI t.length), .int (nI i)] h _
      refine qg_icmp true rfl (qc_geT (by omega) (by omega)) rfl ?_
      exact out s i
    | succ m ih =>
      intro i s hm hi
      have road : ∀ o, qg L xs (d + 1) qm_101 12 [some (.ref r), some (.int (nI p)), some (.int s), some (.int (nI i))] [.int 32, .int (zat t i)] h o → qg L xs (d + 1) qm_101 4 [some (.ref r), some (.int (nI p)), some (.int s), some (.int (nI i))] [] h o := by
        intro o hg
        refine qg_pls (n := 2) (k' := 6) (lo' := [some (.ref r), some (.int (nI p)), some (.int s), some (.int (nI i))]) (S' := [.ref r, .int (nI i)]) (h' := h) rfl ?_
        refine qg_call (v := some (.int (nI t.length))) (h' := h) (as := [.ref r]) rfl rfl rfl rfl rfl rfl rfl (ai_rcv1 rfl rfl (qrow_obj hr)) (q_size (d := d) hr) ?_
        show qg L xs _ qm_101 7 [some (.ref r), some (.int (nI p)), some (.int s), some (.int (nI i))] [.int (nI t.length), .int (nI i)] h _
        refine qg_icmp false rfl (qc_geF (by omega) (by omega)) rfl ?_
        refine qg_pls (n := 2) (k' := 10) (lo' := [some (.ref r), some (.int (nI p)), some (.int s), some (.int (nI i))]) (S' := [.int (nI i), .ref r]) (h' := h) rfl ?_
        refine qg_call (v := some (.int (zat t i))) (h' := h) (as := [.ref r, .int (nI i)]) rfl rfl rfl rfl rfl rfl rfl (ai_rcv1 rfl rfl (qrow_obj hr)) (q_at (d := d) hr (by omega)) ?_
        show qg L xs _ qm_101 11 [some (.ref r), some (.int (nI p)), some (.int s), some (.int (nI i))] [.int (zat t i)] h _
        refine qg_pls (n := 1) (k' := 12) (lo' := [some (.ref r), some (.int (nI p)), some (.int s), some (.int (nI i))]) (S' := [.int 32, .int (zat t i)]) (h' := h) rfl ?_
        exact hg
      refine road _ ?_
      by_cases h32 : zat t i = 32
      · rw [show zwd t (m + 1) i = [] from if_pos h32]
        refine qg_icmp true rfl ((qb_eqT h32)) rfl ?_
        exact out s i
      · rw [show zwd t (m + 1) i = zat t i :: zwd t m (i + 1) from if_neg h32]
        refine qg_icmp false rfl ((qb_eqF h32)) rfl ?_
        refine qg_pls (n := 5) (k' := 18) (lo' := [some (.ref r), some (.int (nI p)), some (.int s), some (.int (nI i))]) (S' := [.int (nI i), .ref r, .int (31 * s)]) (h' := h) rfl ?_
        refine qg_call (v := some (.int (zat t i))) (h' := h) (as := [.ref r, .int (nI i)]) rfl rfl rfl rfl rfl rfl rfl (ai_rcv1 rfl rfl (qrow_obj hr)) (q_at (d := d) hr (by omega)) ?_
        show qg L xs _ qm_101 19 [some (.ref r), some (.int (nI p)), some (.int s), some (.int (nI i))] [.int (zat t i), .int (31 * s)] h _
        refine qg_pls (n := 4) (k' := 4) (lo' := [some (.ref r), some (.int (nI p)), some (.int ((31 * s) + (zat t i))), some (.int ((nI i) + 1))]) (S' := []) (h' := h) rfl ?_
        rw [nI_1]
        exact ih (i + 1) _ (by omega) (by omega)
  refine qe_of (M := qm_101) rfl rfl ?_
  show qg L xs _ qm_101 0 [some (.ref r), some (.int (nI p)), none, none] [] h _
  refine qg_pls (n := 4) (k' := 4) (lo' := [some (.ref r), some (.int (nI p)), some (.int 0), some (.int (nI p))]) (S' := []) (h' := h) rfl ?_
  exact loop _ p 0 rfl hp
theorem zat_endN {i : Nat} (hi : t.length ≤ i) : zat t i = -1 := if_neg (by omega)
theorem zat_inN {i : Nat} (hi : i < t.length) : ¬ zat t i = -1 := by
  rcases zat_nI t i with q | ⟨-, m, hm, q⟩
  · exact absurd hi q.2
  · rw [q]
    intro z
    have : (List.range 256).all (fun m => decide (¬ nI m = -1)) = true := by decide +kernel
    exact of_decide_eq_true (List.all_eq_true.mp this m (List.mem_range.mpr hm)) z
theorem zna_end {i : Nat} (hi : zat t i = 32 ∨ zat t i = -1) : zna t i = [] := by
  unfold zna
  cases hm : t.length - i with
  | zero => rfl
  | succ m =>
    rcases hi with q | q
    · exact if_pos q
    · exact absurd q (zat_inN (by omega))
theorem zna_go {i : Nat} (h1 : ¬ zat t i = 32) (h2 : ¬ zat t i = -1) : zna t i = zat t i :: zna t (i + 1) := by
  have hi : i < t.length := by
    rcases Nat.lt_or_ge i t.length with q | q
    · exact q
    · exact absurd (zat_endN q) h2
  unfold zna
  rw [show t.length - i = (t.length - (i + 1)) + 1 by omega]
  exact if_neg h1
/-- Names.isSame -/
theorem q_sameN (hr : qrow h r b len t) (hl : t.length ≤ 1048576) {p q : Nat} (hpq : p < q) (hq : q ≤ t.length) : qe L xs (d + 2) 102 [.ref r, .int (nI p), .int (nI q)] h (.inl (some (.int (if zna t p = zna t q then 1 else 0))), h) := by
  have loop : ∀ (m i : Nat) (x4 x5 x6 x7 : Option Value), t.length - (q + i) = m → q + i ≤ t.length → qg L xs (d + 1) qm_102 2 [some (.ref r), some (.int (nI p)), some (.int (nI q)), some (.int (nI i)), x4, x5, x6, x7] [] h (.inl (some (.int (if zna t (p + i) = zna t (q + i) then 1 else 0))), h) := by
    intro m
    induction m with
    | zero =>
      intro i x4 x5 x6 x7 hm hi
      have hb := zat_endN (t := t) (i := q + i) (by omega)
      have eb := zna_end (Or.inr hb)
      have road : ∀ o, qg L xs (d + 1) qm_102 18 [some (.ref r), some (.int (nI p)), some (.int (nI q)), some (.int (nI i)), some (.int (zat t (p + i))), some (.int (zat t (q + i))), x6, x7] [] h o → qg L xs (d + 1) qm_102 2 [some (.ref r), some (.int (nI p)), some (.int (nI q)), some (.int (nI i)), x4, x5, x6, x7] [] h o := by
        intro o hg
        refine qg_pls (n := 2) (k' := 4) (lo' := [some (.ref r), some (.int (nI p)), some (.int (nI q)), some (.int (nI i)), x4, x5, x6, x7]) (S' := [.ref r, .int (nI i)]) (h' := h) rfl ?_
        refine qg_call (v := some (.int (nI t.length))) (h' := h) (as := [.ref r]) rfl rfl rfl rfl rfl rfl rfl (ai_rcv1 rfl rfl (qrow_obj hr)) (q_size (d := d) hr) ?_
        show qg L xs _ qm_102 5 [some (.ref r), some (.int (nI p)), some (.int (nI q)), some (.int (nI i)), x4, x5, x6, x7] [.int (nI t.length), .int (nI i)] h _
        refine qg_icmp false rfl (qc_geF (by omega) (by omega)) rfl ?_
        refine qg_pls (n := 4) (k' := 10) (lo' := [some (.ref r), some (.int (nI p)), some (.int (nI q)), some (.int (nI i)), x4, x5, x6, x7]) (S' := [.int ((nI p) + (nI i)), .ref r]) (h' := h) rfl ?_
        rw [nI_add]
        refine qg_call (v := some (.int (zat t (p + i)))) (h' := h) (as := [.ref r, .int (nI (p + i))]) rfl rfl rfl rfl rfl rfl rfl (ai_rcv1 rfl rfl (qrow_obj hr)) (q_at (d := d) hr (by omega)) ?_
        show qg L xs _ qm_102 11 [some (.ref r), some (.int (nI p)), some (.int (nI q)), some (.int (nI i)), x4, x5, x6, x7] [.int (zat t (p + i))] h _
        refine qg_pls (n := 5) (k' := 16) (lo' := [some (.ref r), some (.int (nI p)), some (.int (nI q)), some (.int (nI i)), some (.int (zat t (p + i))), x5, x6, x7]) (S' := [.int ((nI q) + (nI i)), .ref r]) (h' := h) rfl ?_
        rw [nI_add]
        refine qg_call (v := some (.int (zat t (q + i)))) (h' := h) (as := [.ref r, .int (nI (q + i))]) rfl rfl rfl rfl rfl rfl rfl (ai_rcv1 rfl rfl (qrow_obj hr)) (q_at (d := d) hr (by omega)) ?_
        show qg L xs _ qm_102 17 [some (.ref r), some (.int (nI p)), some (.int (nI q)), some (.int (nI i)), some (.int (zat t (p + i))), x5, x6, x7] [.int (zat t (q + i))] h _
        refine qg_pls (n := 1) (k' := 18) (lo' := [some (.ref r), some (.int (nI p)), some (.int (nI q)), some (.int (nI i)), some (.int (zat t (p + i))), some (.int (zat t (q + i))), x6, x7]) (S' := []) (h' := h) rfl ?_
        exact hg
      refine road _ ?_
      rw [eb, hb]
      generalize hA : zat t (p + i) = A
      have ha : A = 32 ∨ A = -1 → zna t (p + i) = [] := fun z => zna_end (by rw [hA]; exact z)
      have hn : ¬ A = 32 → ¬ A = -1 → zna t (p + i) ≠ [] := fun z1 z2 => by
        rw [zna_go (by rw [hA]; exact z1) (by rw [hA]; exact z2)]
        exact List.cons_ne_nil _ _
      by_cases h1 : A = 32
      · rw [if_pos (ha (Or.inl h1)), h1]
        refine qg_pls (n := 2) (k' := 20) (lo' := [some (.ref r), some (.int (nI p)), some (.int (nI q)), some (.int (nI i)), some (.int 32), some (.int (-1)), x6, x7]) (S' := [.int 32, .int 32]) (h' := h) rfl ?_
        refine qg_icmp true rfl (rfl) rfl ?_
        refine qg_pls (n := 5) (k' := 30) (lo' := [some (.ref r), some (.int (nI p)), some (.int (nI q)), some (.int (nI i)), some (.int 32), some (.int (-1)), some (.int 1), x7]) (S' := [.int 32, .int (-1)]) (h' := h) rfl ?_
        refine qg_icmp false rfl (rfl) rfl ?_
        refine qg_pls (n := 2) (k' := 33) (lo' := [some (.ref r), some (.int (nI p)), some (.int (nI q)), some (.int (nI i)), some (.int 32), some (.int (-1)), some (.int 1), x7]) (S' := [.int (-1), .int (-1)]) (h' := h) rfl ?_
        refine qg_icmp false rfl (rfl) rfl ?_
        refine qg_pls (n := 4) (k' := 39) (lo' := [some (.ref r), some (.int (nI p)), some (.int (nI q)), some (.int (nI i)), some (.int 32), some (.int (-1)), some (.int 1), some (.int 1)]) (S' := [.int 1]) (h' := h) rfl ?_
        refine qg_if true rfl (rfl) rfl ?_
        refine qg_pls (n := 1) (k' := 43) (lo' := [some (.ref r), some (.int (nI p)), some (.int (nI q)), some (.int (nI i)), some (.int 32), some (.int (-1)), some (.int 1), some (.int 1)]) (S' := [.int 1]) (h' := h) rfl ?_
        refine qg_if false rfl (rfl) rfl ?_
        refine qg_pls (n := 1) (k' := 45) (lo' := [some (.ref r), some (.int (nI p)), some (.int (nI q)), some (.int (nI i)), some (.int 32), some (.int (-1)), some (.int 1), some (.int 1)]) (S' := [.int 1]) (h' := h) rfl ?_
        refine qg_if false rfl (rfl) rfl ?_
        refine qg_pls (n := 2) (k' := 49) (lo' := [some (.ref r), some (.int (nI p)), some (.int (nI q)), some (.int (nI i)), some (.int 32), some (.int (-1)), some (.int 1), some (.int 1)]) (S' := [.int 1]) (h' := h) rfl ?_
        exact qg_ret5 rfl rfl rfl
      by_cases h2 : A = -1
      · rw [if_pos (ha (Or.inr h2)), h2]
        refine qg_pls (n := 2) (k' := 20) (lo' := [some (.ref r), some (.int (nI p)), some (.int (nI q)), some (.int (nI i)), some (.int (-1)), some (.int (-1)), x6, x7]) (S' := [.int 32, .int (-1)]) (h' := h) rfl ?_
        refine qg_icmp false rfl (rfl) rfl ?_
        refine qg_pls (n := 2) (k' := 23) (lo' := [some (.ref r), some (.int (nI p)), some (.int (nI q)), some (.int (nI i)), some (.int (-1)), some (.int (-1)), x6, x7]) (S' := [.int (-1), .int (-1)]) (h' := h) rfl ?_
        refine qg_icmp false rfl (rfl) rfl ?_
        refine qg_pls (n := 5) (k' := 30) (lo' := [some (.ref r), some (.int (nI p)), some (.int (nI q)), some (.int (nI i)), some (.int (-1)), some (.int (-1)), some (.int 1), x7]) (S' := [.int 32, .int (-1)]) (h' := h) rfl ?_
        refine qg_icmp false rfl (rfl) rfl ?_
        refine qg_pls (n := 2) (k' := 33) (lo' := [some (.ref r), some (.int (nI p)), some (.int (nI q)), some (.int (nI i)), some (.int (-1)), some (.int (-1)), some (.int 1), x7]) (S' := [.int (-1), .int (-1)]) (h' := h) rfl ?_
        refine qg_icmp false rfl (rfl) rfl ?_
        refine qg_pls (n := 4) (k' := 39) (lo' := [some (.ref r), some (.int (nI p)), some (.int (nI q)), some (.int (nI i)), some (.int (-1)), some (.int (-1)), some (.int 1), some (.int 1)]) (S' := [.int 1]) (h' := h) rfl ?_
        refine qg_if true rfl (rfl) rfl ?_
        refine qg_pls (n := 1) (k' := 43) (lo' := [some (.ref r), some (.int (nI p)), some (.int (nI q)), some (.int (nI i)), some (.int (-1)), some (.int (-1)), some (.int 1), some (.int 1)]) (S' := [.int 1]) (h' := h) rfl ?_
        refine qg_if false rfl (rfl) rfl ?_
        refine qg_pls (n := 1) (k' := 45) (lo' := [some (.ref r), some (.int (nI p)), some (.int (nI q)), some (.int (nI i)), some (.int (-1)), some (.int (-1)), some (.int 1), some (.int 1)]) (S' := [.int 1]) (h' := h) rfl ?_
        refine qg_if false rfl (rfl) rfl ?_
        refine qg_pls (n := 2) (k' := 49) (lo' := [some (.ref r), some (.int (nI p)), some (.int (nI q)), some (.int (nI i)), some (.int (-1)), some (.int (-1)), some (.int 1), some (.int 1)]) (S' := [.int 1]) (h' := h) rfl ?_
        exact qg_ret5 rfl rfl rfl
      · rw [if_neg (hn h1 h2)]
        refine qg_pls (n := 2) (k' := 20) (lo' := [some (.ref r), some (.int (nI p)), some (.int (nI q)), some (.int (nI i)), some (.int A), some (.int (-1)), x6, x7]) (S' := [.int 32, .int A]) (h' := h) rfl ?_
        refine qg_icmp false rfl ((qb_eqF h1)) rfl ?_
        refine qg_pls (n := 2) (k' := 23) (lo' := [some (.ref r), some (.int (nI p)), some (.int (nI q)), some (.int (nI i)), some (.int A), some (.int (-1)), x6, x7]) (S' := [.int (-1), .int A]) (h' := h) rfl ?_
        refine qg_icmp true rfl ((qb_neT h2)) rfl ?_
        refine qg_pls (n := 4) (k' := 30) (lo' := [some (.ref r), some (.int (nI p)), some (.int (nI q)), some (.int (nI i)), some (.int A), some (.int (-1)), some (.int 0), x7]) (S' := [.int 32, .int (-1)]) (h' := h) rfl ?_
        refine qg_icmp false rfl (rfl) rfl ?_
        refine qg_pls (n := 2) (k' := 33) (lo' := [some (.ref r), some (.int (nI p)), some (.int (nI q)), some (.int (nI i)), some (.int A), some (.int (-1)), some (.int 0), x7]) (S' := [.int (-1), .int (-1)]) (h' := h) rfl ?_
        refine qg_icmp false rfl (rfl) rfl ?_
        refine qg_pls (n := 4) (k' := 39) (lo' := [some (.ref r), some (.int (nI p)), some (.int (nI q)), some (.int (nI i)), some (.int A), some (.int (-1)), some (.int 0), some (.int 1)]) (S' := [.int 0]) (h' := h) rfl ?_
        refine qg_if false rfl (rfl) rfl ?_
        refine qg_pls (n := 1) (k' := 41) (lo' := [some (.ref r), some (.int (nI p)), some (.int (nI q)), some (.int (nI i)), some (.int A), some (.int (-1)), some (.int 0), some (.int 1)]) (S' := [.int 1]) (h' := h) rfl ?_
        refine qg_if false rfl (rfl) rfl ?_
        refine qg_pls (n := 1) (k' := 43) (lo' := [some (.ref r), some (.int (nI p)), some (.int (nI q)), some (.int (nI i)), some (.int A), some (.int (-1)), some (.int 0), some (.int 1)]) (S' := [.int 0]) (h' := h) rfl ?_
        refine qg_if true rfl (rfl) rfl ?_
        refine qg_pls (n := 1) (k' := 49) (lo' := [some (.ref r), some (.int (nI p)), some (.int (nI q)), some (.int (nI i)), some (.int A), some (.int (-1)), some (.int 0), some (.int 1)]) (S' := [.int 0]) (h' := h) rfl ?_
        exact qg_ret5 rfl rfl rfl
    | succ m ih =>
      intro i x4 x5 x6 x7 hm hi
      have hbn := zat_inN (t := t) (i := q + i) (by omega)
      have han := zat_inN (t := t) (i := p + i) (by omega)
      have road : ∀ o, qg L xs (d + 1) qm_102 18 [some (.ref r), some (.int (nI p)), some (.int (nI q)), some (.int (nI i)), some (.int (zat t (p + i))), some (.int (zat t (q + i))), x6, x7] [] h o → qg L xs (d + 1) qm_102 2 [some (.ref r), some (.int (nI p)), some (.int (nI q)), some (.int (nI i)), x4, x5, x6, x7] [] h o := by
        intro o hg
        refine qg_pls (n := 2) (k' := 4) (lo' := [some (.ref r), some (.int (nI p)), some (.int (nI q)), some (.int (nI i)), x4, x5, x6, x7]) (S' := [.ref r, .int (nI i)]) (h' := h) rfl ?_
        refine qg_call (v := some (.int (nI t.length))) (h' := h) (as := [.ref r]) rfl rfl rfl rfl rfl rfl rfl (ai_rcv1 rfl rfl (qrow_obj hr)) (q_size (d := d) hr) ?_
        show qg L xs _ qm_102 5 [some (.ref r), some (.int (nI p)), some (.int (nI q)), some (.int (nI i)), x4, x5, x6, x7] [.int (nI t.length), .int (nI i)] h _
        refine qg_icmp false rfl (qc_geF (by omega) (by omega)) rfl ?_
        refine qg_pls (n := 4) (k' := 10) (lo' := [some (.ref r), some (.int (nI p)), some (.int (nI q)), some (.int (nI i)), x4, x5, x6, x7]) (S' := [.int ((nI p) + (nI i)), .ref r]) (h' := h) rfl ?_
        rw [nI_add]
        refine qg_call (v := some (.int (zat t (p + i)))) (h' := h) (as := [.ref r, .int (nI (p + i))]) rfl rfl rfl rfl rfl rfl rfl (ai_rcv1 rfl rfl (qrow_obj hr)) (q_at (d := d) hr (by omega)) ?_
        show qg L xs _ qm_102 11 [some (.ref r), some (.int (nI p)), some (.int (nI q)), some (.int (nI i)), x4, x5, x6, x7] [.int (zat t (p + i))] h _
        refine qg_pls (n := 5) (k' := 16) (lo' := [some (.ref r), some (.int (nI p)), some (.int (nI q)), some (.int (nI i)), some (.int (zat t (p + i))), x5, x6, x7]) (S' := [.int ((nI q) + (nI i)), .ref r]) (h' := h) rfl ?_
        rw [nI_add]
        refine qg_call (v := some (.int (zat t (q + i)))) (h' := h) (as := [.ref r, .int (nI (q + i))]) rfl rfl rfl rfl rfl rfl rfl (ai_rcv1 rfl rfl (qrow_obj hr)) (q_at (d := d) hr (by omega)) ?_
        show qg L xs _ qm_102 17 [some (.ref r), some (.int (nI p)), some (.int (nI q)), some (.int (nI i)), some (.int (zat t (p + i))), x5, x6, x7] [.int (zat t (q + i))] h _
        refine qg_pls (n := 1) (k' := 18) (lo' := [some (.ref r), some (.int (nI p)), some (.int (nI q)), some (.int (nI i)), some (.int (zat t (p + i))), some (.int (zat t (q + i))), x6, x7]) (S' := []) (h' := h) rfl ?_
        exact hg
      refine road _ ?_
      have ea : zat t (p + i) = 32 → zna t (p + i) = [] := fun z => zna_end (Or.inl z)
      have eb : zat t (q + i) = 32 → zna t (q + i) = [] := fun z => zna_end (Or.inl z)
      have ga : ¬ zat t (p + i) = 32 → zna t (p + i) = zat t (p + i) :: zna t (p + (i + 1)) := fun z => zna_go z han
      have gb : ¬ zat t (q + i) = 32 → zna t (q + i) = zat t (q + i) :: zna t (q + (i + 1)) := fun z => zna_go z hbn
      generalize zat t (p + i) = A at han ea ga ⊢
      generalize zat t (q + i) = C at hbn eb gb ⊢
      by_cases h1 : A = 32
      · by_cases h2 : C = 32
        · rw [ea h1, eb h2, if_pos rfl, h1, h2]
          refine qg_pls (n := 2) (k' := 20) (lo' := [some (.ref r), some (.int (nI p)), some (.int (nI q)), some (.int (nI i)), some (.int 32), some (.int 32), x6, x7]) (S' := [.int 32, .int 32]) (h' := h) rfl ?_
          refine qg_icmp true rfl (rfl) rfl ?_
          refine qg_pls (n := 5) (k' := 30) (lo' := [some (.ref r), some (.int (nI p)), some (.int (nI q)), some (.int (nI i)), some (.int 32), some (.int 32), some (.int 1), x7]) (S' := [.int 32, .int 32]) (h' := h) rfl ?_
          refine qg_icmp true rfl (rfl) rfl ?_
          refine qg_pls (n := 4) (k' := 39) (lo' := [some (.ref r), some (.int (nI p)), some (.int (nI q)), some (.int (nI i)), some (.int 32), some (.int 32), some (.int 1), some (.int 1)]) (S' := [.int 1]) (h' := h) rfl ?_
          refine qg_if true rfl (rfl) rfl ?_
          refine qg_pls (n := 1) (k' := 43) (lo' := [some (.ref r), some (.int (nI p)), some (.int (nI q)), some (.int (nI i)), some (.int 32), some (.int 32), some (.int 1), some (.int 1)]) (S' := [.int 1]) (h' := h) rfl ?_
          refine qg_if false rfl (rfl) rfl ?_
          refine qg_pls (n := 1) (k' := 45) (lo' := [some (.ref r), some (.int (nI p)), some (.int (nI q)), some (.int (nI i)), some (.int 32), some (.int 32), some (.int 1), some (.int 1)]) (S' := [.int 1]) (h' := h) rfl ?_
          refine qg_if false rfl (rfl) rfl ?_
          refine qg_pls (n := 2) (k' := 49) (lo' := [some (.ref r), some (.int (nI p)), some (.int (nI q)), some (.int (nI i)), some (.int 32), some (.int 32), some (.int 1), some (.int 1)]) (S' := [.int 1]) (h' := h) rfl ?_
          exact qg_ret5 rfl rfl rfl
        · rw [ea h1, gb h2, if_neg (fun z => by cases z), h1]
          refine qg_pls (n := 2) (k' := 20) (lo' := [some (.ref r), some (.int (nI p)), some (.int (nI q)), some (.int (nI i)), some (.int 32), some (.int C), x6, x7]) (S' := [.int 32, .int 32]) (h' := h) rfl ?_
          refine qg_icmp true rfl (rfl) rfl ?_
          refine qg_pls (n := 5) (k' := 30) (lo' := [some (.ref r), some (.int (nI p)), some (.int (nI q)), some (.int (nI i)), some (.int 32), some (.int C), some (.int 1), x7]) (S' := [.int 32, .int C]) (h' := h) rfl ?_
          refine qg_icmp false rfl ((qb_eqF h2)) rfl ?_
          refine qg_pls (n := 2) (k' := 33) (lo' := [some (.ref r), some (.int (nI p)), some (.int (nI q)), some (.int (nI i)), some (.int 32), some (.int C), some (.int 1), x7]) (S' := [.int (-1), .int C]) (h' := h) rfl ?_
          refine qg_icmp true rfl ((qb_neT hbn)) rfl ?_
          refine qg_pls (n := 3) (k' := 39) (lo' := [some (.ref r), some (.int (nI p)), some (.int (nI q)), some (.int (nI i)), some (.int 32), some (.int C), some (.int 1), some (.int 0)]) (S' := [.int 1]) (h' := h) rfl ?_
          refine qg_if true rfl (rfl) rfl ?_
          refine qg_pls (n := 1) (k' := 43) (lo' := [some (.ref r), some (.int (nI p)), some (.int (nI q)), some (.int (nI i)), some (.int 32), some (.int C), some (.int 1), some (.int 0)]) (S' := [.int 1]) (h' := h) rfl ?_
          refine qg_if false rfl (rfl) rfl ?_
          refine qg_pls (n := 1) (k' := 45) (lo' := [some (.ref r), some (.int (nI p)), some (.int (nI q)), some (.int (nI i)), some (.int 32), some (.int C), some (.int 1), some (.int 0)]) (S' := [.int 0]) (h' := h) rfl ?_
          refine qg_if true rfl (rfl) rfl ?_
          refine qg_pls (n := 1) (k' := 49) (lo' := [some (.ref r), some (.int (nI p)), some (.int (nI q)), some (.int (nI i)), some (.int 32), some (.int C), some (.int 1), some (.int 0)]) (S' := [.int 0]) (h' := h) rfl ?_
          exact qg_ret5 rfl rfl rfl
      · by_cases h2 : C = 32
        · rw [ga h1, eb h2, if_neg (fun z => by cases z), h2]
          refine qg_pls (n := 2) (k' := 20) (lo' := [some (.ref r), some (.int (nI p)), some (.int (nI q)), some (.int (nI i)), some (.int A), some (.int 32), x6, x7]) (S' := [.int 32, .int A]) (h' := h) rfl ?_
          refine qg_icmp false rfl ((qb_eqF h1)) rfl ?_
          refine qg_pls (n := 2) (k' := 23) (lo' := [some (.ref r), some (.int (nI p)), some (.int (nI q)), some (.int (nI i)), some (.int A), some (.int 32), x6, x7]) (S' := [.int (-1), .int A]) (h' := h) rfl ?_
          refine qg_icmp true rfl ((qb_neT han)) rfl ?_
          refine qg_pls (n := 4) (k' := 30) (lo' := [some (.ref r), some (.int (nI p)), some (.int (nI q)), some (.int (nI i)), some (.int A), some (.int 32), some (.int 0), x7]) (S' := [.int 32, .int 32]) (h' := h) rfl ?_
          refine qg_icmp true rfl (rfl) rfl ?_
          refine qg_pls (n := 4) (k' := 39) (lo' := [some (.ref r), some (.int (nI p)), some (.int (nI q)), some (.int (nI i)), some (.int A), some (.int 32), some (.int 0), some (.int 1)]) (S' := [.int 0]) (h' := h) rfl ?_
          refine qg_if false rfl (rfl) rfl ?_
          refine qg_pls (n := 1) (k' := 41) (lo' := [some (.ref r), some (.int (nI p)), some (.int (nI q)), some (.int (nI i)), some (.int A), some (.int 32), some (.int 0), some (.int 1)]) (S' := [.int 1]) (h' := h) rfl ?_
          refine qg_if false rfl (rfl) rfl ?_
          refine qg_pls (n := 1) (k' := 43) (lo' := [some (.ref r), some (.int (nI p)), some (.int (nI q)), some (.int (nI i)), some (.int A), some (.int 32), some (.int 0), some (.int 1)]) (S' := [.int 0]) (h' := h) rfl ?_
          refine qg_if true rfl (rfl) rfl ?_
          refine qg_pls (n := 1) (k' := 49) (lo' := [some (.ref r), some (.int (nI p)), some (.int (nI q)), some (.int (nI i)), some (.int A), some (.int 32), some (.int 0), some (.int 1)]) (S' := [.int 0]) (h' := h) rfl ?_
          exact qg_ret5 rfl rfl rfl
        · rw [ga h1, gb h2]
          have mid : ∀ o, qg L xs (d + 1) qm_102 50 [some (.ref r), some (.int (nI p)), some (.int (nI q)), some (.int (nI i)), some (.int A), some (.int C), some (.int 0), some (.int 0)] [] h o → qg L xs (d + 1) qm_102 18 [some (.ref r), some (.int (nI p)), some (.int (nI q)), some (.int (nI i)), some (.int A), some (.int C), x6, x7] [] h o := by
            intro o hg
            refine qg_pls (n := 2) (k' := 20) (lo' := [some (.ref r), some (.int (nI p)), some (.int (nI q)), some (.int (nI i)), some (.int A), some (.int C), x6, x7]) (S' := [.int 32, .int A]) (h' := h) rfl ?_
            refine qg_icmp false rfl ((qb_eqF h1)) rfl ?_
            refine qg_pls (n := 2) (k' := 23) (lo' := [some (.ref r), some (.int (nI p)), some (.int (nI q)), some (.int (nI i)), some (.int A), some (.int C), x6, x7]) (S' := [.int (-1), .int A]) (h' := h) rfl ?_
            refine qg_icmp true rfl ((qb_neT han)) rfl ?_
            refine qg_pls (n := 4) (k' := 30) (lo' := [some (.ref r), some (.int (nI p)), some (.int (nI q)), some (.int (nI i)), some (.int A), some (.int C), some (.int 0), x7]) (S' := [.int 32, .int C]) (h' := h) rfl ?_
            refine qg_icmp false rfl ((qb_eqF h2)) rfl ?_
            refine qg_pls (n := 2) (k' := 33) (lo' := [some (.ref r), some (.int (nI p)), some (.int (nI q)), some (.int (nI i)), some (.int A), some (.int C), some (.int 0), x7]) (S' := [.int (-1), .int C]) (h' := h) rfl ?_
            refine qg_icmp true rfl ((qb_neT hbn)) rfl ?_
            refine qg_pls (n := 3) (k' := 39) (lo' := [some (.ref r), some (.int (nI p)), some (.int (nI q)), some (.int (nI i)), some (.int A), some (.int C), some (.int 0), some (.int 0)]) (S' := [.int 0]) (h' := h) rfl ?_
            refine qg_if false rfl (rfl) rfl ?_
            refine qg_pls (n := 1) (k' := 41) (lo' := [some (.ref r), some (.int (nI p)), some (.int (nI q)), some (.int (nI i)), some (.int A), some (.int C), some (.int 0), some (.int 0)]) (S' := [.int 0]) (h' := h) rfl ?_
            refine qg_if true rfl (rfl) rfl ?_
            exact hg
          refine mid _ ?_
          by_cases h3 : A = C
          · have e1 : (if A :: zna t (p + (i + 1)) = C :: zna t (q + (i + 1)) then (1 : Int32) else 0) = if zna t (p + (i + 1)) = zna t (q + (i + 1)) then 1 else 0 := by
              by_cases hd : zna t (p + (i + 1)) = zna t (q + (i + 1))
              · rw [if_pos hd, if_pos (by rw [h3, hd])]
              · rw [if_neg hd, if_neg (fun z => hd (List.cons.inj z).2)]
            rw [e1]
            refine qg_pls (n := 2) (k' := 52) (lo' := [some (.ref r), some (.int (nI p)), some (.int (nI q)), some (.int (nI i)), some (.int A), some (.int C), some (.int 0), some (.int 0)]) (S' := [.int C, .int A]) (h' := h) rfl ?_
            refine qg_icmp true rfl ((qb_eqT h3)) rfl ?_
            refine qg_pls (n := 2) (k' := 2) (lo' := [some (.ref r), some (.int (nI p)), some (.int (nI q)), some (.int ((nI i) + 1)), some (.int A), some (.int C), some (.int 0), some (.int 0)]) (S' := []) (h' := h) rfl ?_
            rw [nI_1]
            exact ih (i + 1) _ _ _ _ (by omega) (by omega)
          · rw [if_neg (fun z => h3 (List.cons.inj z).1)]
            refine qg_pls (n := 2) (k' := 52) (lo' := [some (.ref r), some (.int (nI p)), some (.int (nI q)), some (.int (nI i)), some (.int A), some (.int C), some (.int 0), some (.int 0)]) (S' := [.int C, .int A]) (h' := h) rfl ?_
            refine qg_icmp false rfl ((qb_eqF h3)) rfl ?_
            refine qg_pls (n := 1) (k' := 54) (lo' := [some (.ref r), some (.int (nI p)), some (.int (nI q)), some (.int (nI i)), some (.int A), some (.int C), some (.int 0), some (.int 0)]) (S' := [.int 0]) (h' := h) rfl ?_
            exact qg_ret5 rfl rfl rfl
  refine qe_of (M := qm_102) rfl rfl ?_
  show qg L xs _ qm_102 0 [some (.ref r), some (.int (nI p)), some (.int (nI q)), none, none, none, none, none] [] h _
  refine qg_pls (n := 2) (k' := 2) (lo' := [some (.ref r), some (.int (nI p)), some (.int (nI q)), some (.int 0), none, none, none, none]) (S' := []) (h' := h) rfl ?_
  exact loop _ 0 none none none none rfl (by omega)
end CNM
