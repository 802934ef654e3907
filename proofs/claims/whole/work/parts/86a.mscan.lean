/-! THE MODEL READS ITS TEXT: BYTES, BLANKS, STRINGS. (Printed by wip/whole/pp.py from wip/whole/src.) -/
section MRA
variable {L : Nat} {xs : Nat → Int32} {d : Nat} {h : ai_H} {T : List Int32}
/-- fields that stay while tokens are read: thrown, taped, the text's length, at, kept, open, deepest, statement, fault, begins, ends, made, waiting -/
abbrev mA : Type := Value × Value × Nat × Value × Value × Value × Value × Value × Value × Value × Value × Value × Value
abbrev mro (A : mA) (cnt : Nat) : ai_C := ai_obj 5 [.ref 15, A.1, .ref 16, A.2.1, .ref 17, .int (nI A.2.2.1), .int (nI cnt), .ref 18, .ref 19, .ref 20, A.2.2.2.1, A.2.2.2.2.1, .ref 21, .ref 22, A.2.2.2.2.2.1, A.2.2.2.2.2.2.1, A.2.2.2.2.2.2.2.1, A.2.2.2.2.2.2.2.2.1, A.2.2.2.2.2.2.2.2.2.1, A.2.2.2.2.2.2.2.2.2.2.1, A.2.2.2.2.2.2.2.2.2.2.2.1, A.2.2.2.2.2.2.2.2.2.2.2.2, .ref 23, .ref 24, .ref 25]
variable {A : mA} {cnt : Nat}
/-- the model's text -/
def mtx (h : ai_H) (A : mA) (cnt : Nat) (T : List Int32) : Prop := h.1[14]? = some (mro A cnt) ∧ A.2.2.1 = T.length ∧ T.length ≤ 65536 ∧ (∀ x ∈ T, zb x = x) ∧ ∃ ft, h.1[17]? = some (ai_num .byte 65536 ft) ∧ ∀ j, j < T.length → ft j = T.getD j 0
/-- the byte as it lies there -/
def zraw (T : List Int32) (i : Nat) : Int32 := if i < T.length then T.getD i 0 else -1
theorem zraw_p {p : Int32 → Prop} [DecidablePred p] {i : Nat} (hT : ∀ x ∈ T, zb x = x) (hp : (List.range 256).all (fun m => decide (p (zb (nI m)) ↔ p (nI m))) = true) : p (zat T i) ↔ p (zraw T i) := by
  unfold zat zraw
  by_cases hi : i < T.length
  · rw [if_pos hi, if_pos hi]
    obtain ⟨m, hm, em⟩ := z255a (T.getD i 0)
    have hb : zb (T.getD i 0) = T.getD i 0 := hT _ (by
      rw [List.getD_eq_getElem?_getD, List.getElem?_eq_getElem hi]
      exact List.getElem_mem hi)
    have e2 : T.getD i 0 = zb (nI m) := by rw [← em, zb_and hb]
    rw [em, e2]
    exact (of_decide_eq_true (List.all_eq_true.mp hp m (List.mem_range.mpr hm))).symm
  · rw [if_neg hi, if_neg hi]
theorem zra_9 (hT : ∀ x ∈ T, zb x = x) {i : Nat} : zat T i = 9 ↔ zraw T i = 9 := zraw_p (p := fun x => x = 9) hT (by decide +kernel)
theorem zra_10 (hT : ∀ x ∈ T, zb x = x) {i : Nat} : zat T i = 10 ↔ zraw T i = 10 := zraw_p (p := fun x => x = 10) hT (by decide +kernel)
theorem zra_13 (hT : ∀ x ∈ T, zb x = x) {i : Nat} : zat T i = 13 ↔ zraw T i = 13 := zraw_p (p := fun x => x = 13) hT (by decide +kernel)
theorem zra_32 (hT : ∀ x ∈ T, zb x = x) {i : Nat} : zat T i = 32 ↔ zraw T i = 32 := zraw_p (p := fun x => x = 32) hT (by decide +kernel)
theorem zra_45 (hT : ∀ x ∈ T, zb x = x) {i : Nat} : zat T i = 45 ↔ zraw T i = 45 := zraw_p (p := fun x => x = 45) hT (by decide +kernel)
theorem zra_39 (hT : ∀ x ∈ T, zb x = x) {i : Nat} : zat T i = 39 ↔ zraw T i = 39 := zraw_p (p := fun x => x = 39) hT (by decide +kernel)
theorem zra_124 (hT : ∀ x ∈ T, zb x = x) {i : Nat} : zat T i = 124 ↔ zraw T i = 124 := zraw_p (p := fun x => x = 124) hT (by decide +kernel)
theorem zra_60 (hT : ∀ x ∈ T, zb x = x) {i : Nat} : zat T i = 60 ↔ zraw T i = 60 := zraw_p (p := fun x => x = 60) hT (by decide +kernel)
theorem zra_62 (hT : ∀ x ∈ T, zb x = x) {i : Nat} : zat T i = 62 ↔ zraw T i = 62 := zraw_p (p := fun x => x = 62) hT (by decide +kernel)
theorem zra_61 (hT : ∀ x ∈ T, zb x = x) {i : Nat} : zat T i = 61 ↔ zraw T i = 61 := zraw_p (p := fun x => x = 61) hT (by decide +kernel)
theorem zra_40 (hT : ∀ x ∈ T, zb x = x) {i : Nat} : zat T i = 40 ↔ zraw T i = 40 := zraw_p (p := fun x => x = 40) hT (by decide +kernel)
theorem zra_41 (hT : ∀ x ∈ T, zb x = x) {i : Nat} : zat T i = 41 ↔ zraw T i = 41 := zraw_p (p := fun x => x = 41) hT (by decide +kernel)
theorem zra_44 (hT : ∀ x ∈ T, zb x = x) {i : Nat} : zat T i = 44 ↔ zraw T i = 44 := zraw_p (p := fun x => x = 44) hT (by decide +kernel)
theorem zra_46 (hT : ∀ x ∈ T, zb x = x) {i : Nat} : zat T i = 46 ↔ zraw T i = 46 := zraw_p (p := fun x => x = 46) hT (by decide +kernel)
theorem zra_59 (hT : ∀ x ∈ T, zb x = x) {i : Nat} : zat T i = 59 ↔ zraw T i = 59 := zraw_p (p := fun x => x = 59) hT (by decide +kernel)
theorem zra_43 (hT : ∀ x ∈ T, zb x = x) {i : Nat} : zat T i = 43 ↔ zraw T i = 43 := zraw_p (p := fun x => x = 43) hT (by decide +kernel)
theorem zra_42 (hT : ∀ x ∈ T, zb x = x) {i : Nat} : zat T i = 42 ↔ zraw T i = 42 := zraw_p (p := fun x => x = 42) hT (by decide +kernel)
theorem zra_47 (hT : ∀ x ∈ T, zb x = x) {i : Nat} : zat T i = 47 ↔ zraw T i = 47 := zraw_p (p := fun x => x = 47) hT (by decide +kernel)
theorem zra_37 (hT : ∀ x ∈ T, zb x = x) {i : Nat} : zat T i = 37 ↔ zraw T i = 37 := zraw_p (p := fun x => x = 37) hT (by decide +kernel)
def zlet (c : Int32) : Prop := (¬ c < 97 ∧ ¬ 122 < c) ∨ (¬ c < 65 ∧ ¬ 90 < c) ∨ c = 95
theorem zra_dig (hT : ∀ x ∈ T, zb x = x) {i : Nat} : zdig (zat T i) ↔ zdig (zraw T i) := zraw_p (p := zdig) hT (by decide +kernel)
theorem zra_ofw (hT : ∀ x ∈ T, zb x = x) {i : Nat} : zofw (zat T i) ↔ (zlet (zraw T i) ∨ zdig (zraw T i)) := by
  rw [zraw_p (p := zofw) hT (by decide +kernel)]
  unfold zofw zlet zdig
  constructor
  · rintro (q | q | q | q)
    · exact Or.inl (Or.inl q)
    · exact Or.inl (Or.inr (Or.inl q))
    · exact Or.inl (Or.inr (Or.inr q))
    · exact Or.inr q
  · rintro ((q | q | q) | q)
    · exact Or.inl q
    · exact Or.inr (Or.inl q)
    · exact Or.inr (Or.inr (Or.inl q))
    · exact Or.inr (Or.inr (Or.inr q))
theorem zra_pr (hT : ∀ x ∈ T, zb x = x) {i : Nat} : (zat T i < 32 ∨ 126 < zat T i) ↔ (zraw T i < 32 ∨ 126 < zraw T i) := zraw_p (p := fun x => x < 32 ∨ 126 < x) hT (by decide +kernel)
theorem zraw_end {i : Nat} (hi : ¬ i < T.length) : zraw T i = -1 := if_neg hi
theorem zraw_lt {i : Nat} (hi : i < T.length) : zraw T i = T.getD i 0 := if_pos hi
/-- QueryReaderModel.byteAt -/
theorem m_byteAt (hx : mtx h A cnt T) {i : Nat} (hi : i < 2 ^ 30) : qe L xs (d + 1) 121 [.ref 14, .int (nI i)] h (.inl (some (.int (zraw T i))), h) := by
  obtain ⟨hob, hA, hl, hT, ft, h17, hft⟩ := hx
  refine qe_of (M := qm_121) rfl rfl ?_
  show qg L xs _ qm_121 0 [some (.ref 14), some (.int (nI i))] [] h _
  refine qg_pls (n := 2) (k' := 2) (lo' := [some (.ref 14), some (.int (nI i))]) (S' := [.ref 14, .int (nI i)]) (h' := h) rfl ?_
  refine qg_getf (v := .int (nI A.2.2.1)) rfl hob rfl rfl rfl ?_
  by_cases q : i < T.length
  · rw [zraw_lt q]
    refine qg_icmp false rfl (qc_geF (by omega) (by omega)) rfl ?_
    refine qg_pls (n := 1) (k' := 5) (lo' := [some (.ref 14), some (.int (nI i))]) (S' := [.ref 14]) (h' := h) rfl ?_
    refine qg_getf (v := .ref 17) rfl hob rfl rfl rfl ?_
    refine qg_pls (n := 1) (k' := 7) (lo' := [some (.ref 14), some (.int (nI i))]) (S' := [.int (nI i), .ref 17]) (h' := h) rfl ?_
    refine qg_ald rfl (fun _ _ _ => rfl) h17 (by omega) (by decide) ?_
    rw [hft i q]
    refine qg_pls (n := 1) (k' := 10) (lo' := [some (.ref 14), some (.int (nI i))]) (S' := [.int (T.getD i 0)]) (h' := h) rfl ?_
    exact qg_ret5 rfl rfl rfl
  · rw [zraw_end q]
    refine qg_icmp true rfl (qc_geT (by omega) (by omega)) rfl ?_
    refine qg_pls (n := 1) (k' := 10) (lo' := [some (.ref 14), some (.int (nI i))]) (S' := [.int (-1)]) (h' := h) rfl ?_
    exact qg_ret5 rfl rfl rfl
/-- QueryReaderModel.isLetter, isDigit -/
theorem m_letter {c : Int32} : qe L xs (d + 1) 123 [.int c] h (.inl (some (.int (if (¬ c < 97 ∧ ¬ 122 < c) ∨ (¬ c < 65 ∧ ¬ 90 < c) ∨ c = 95 then 1 else 0))), h) := by
  refine qe_of (M := qm_123) rfl rfl ?_
  show qg L xs _ qm_123 0 [some (.int c)] [] h _
  refine qg_pls (n := 2) (k' := 2) (lo' := [some (.int c)]) (S' := [.int 97, .int c]) (h' := h) rfl ?_
  by_cases c1 : c < 97
  · skip
    refine qg_icmp true rfl (qb_ltT c1) rfl ?_
    refine qg_pls (n := 2) (k' := 8) (lo' := [some (.int c)]) (S' := [.int 65, .int c]) (h' := h) rfl ?_
    by_cases c2 : c < 65
    · skip
      refine qg_icmp true rfl (qb_ltT c2) rfl ?_
      refine qg_pls (n := 2) (k' := 14) (lo' := [some (.int c)]) (S' := [.int 95, .int c]) (h' := h) rfl ?_
      by_cases c3 : c = 95
      · skip
        refine qg_icmp false rfl (qb_neF c3) rfl ?_
        refine qg_pls (n := 2) (k' := 18) (lo' := [some (.int c)]) (S' := [.int 1]) (h' := h) rfl ?_
        rw [show ((if (¬ c < 97 ∧ ¬ 122 < c) ∨ (¬ c < 65 ∧ ¬ 90 < c) ∨ c = 95 then 1 else 0 : Int32)) = 1 from by simp [c1, c2, c3]]
        exact qg_ret5 rfl rfl rfl
      · skip
        refine qg_icmp true rfl (qb_neT c3) rfl ?_
        refine qg_pls (n := 1) (k' := 18) (lo' := [some (.int c)]) (S' := [.int 0]) (h' := h) rfl ?_
        rw [show ((if (¬ c < 97 ∧ ¬ 122 < c) ∨ (¬ c < 65 ∧ ¬ 90 < c) ∨ c = 95 then 1 else 0 : Int32)) = 0 from by simp [c1, c2, c3]]
        exact qg_ret5 rfl rfl rfl
    · skip
      refine qg_icmp false rfl (qb_ltF c2) rfl ?_
      refine qg_pls (n := 2) (k' := 11) (lo' := [some (.int c)]) (S' := [.int 90, .int c]) (h' := h) rfl ?_
      by_cases c4 : 90 < c
      · skip
        refine qg_icmp false rfl (qb_leF c4) rfl ?_
        refine qg_pls (n := 2) (k' := 14) (lo' := [some (.int c)]) (S' := [.int 95, .int c]) (h' := h) rfl ?_
        by_cases c5 : c = 95
        · skip
          refine qg_icmp false rfl (qb_neF c5) rfl ?_
          refine qg_pls (n := 2) (k' := 18) (lo' := [some (.int c)]) (S' := [.int 1]) (h' := h) rfl ?_
          rw [show ((if (¬ c < 97 ∧ ¬ 122 < c) ∨ (¬ c < 65 ∧ ¬ 90 < c) ∨ c = 95 then 1 else 0 : Int32)) = 1 from by simp [c1, c2, c4, c5]]
          exact qg_ret5 rfl rfl rfl
        · skip
          refine qg_icmp true rfl (qb_neT c5) rfl ?_
          refine qg_pls (n := 1) (k' := 18) (lo' := [some (.int c)]) (S' := [.int 0]) (h' := h) rfl ?_
          rw [show ((if (¬ c < 97 ∧ ¬ 122 < c) ∨ (¬ c < 65 ∧ ¬ 90 < c) ∨ c = 95 then 1 else 0 : Int32)) = 0 from by simp [c1, c2, c4, c5]]
          exact qg_ret5 rfl rfl rfl
      · skip
        refine qg_icmp true rfl (qb_leT c4) rfl ?_
        refine qg_pls (n := 2) (k' := 18) (lo' := [some (.int c)]) (S' := [.int 1]) (h' := h) rfl ?_
        rw [show ((if (¬ c < 97 ∧ ¬ 122 < c) ∨ (¬ c < 65 ∧ ¬ 90 < c) ∨ c = 95 then 1 else 0 : Int32)) = 1 from by simp [c1, c2, c4]]
        exact qg_ret5 rfl rfl rfl
  · skip
    refine qg_icmp false rfl (qb_ltF c1) rfl ?_
    refine qg_pls (n := 2) (k' := 5) (lo' := [some (.int c)]) (S' := [.int 122, .int c]) (h' := h) rfl ?_
    by_cases c6 : 122 < c
    · skip
      refine qg_icmp false rfl (qb_leF c6) rfl ?_
      refine qg_pls (n := 2) (k' := 8) (lo' := [some (.int c)]) (S' := [.int 65, .int c]) (h' := h) rfl ?_
      by_cases c7 : c < 65
      · skip
        refine qg_icmp true rfl (qb_ltT c7) rfl ?_
        refine qg_pls (n := 2) (k' := 14) (lo' := [some (.int c)]) (S' := [.int 95, .int c]) (h' := h) rfl ?_
        by_cases c8 : c = 95
        · skip
          refine qg_icmp false rfl (qb_neF c8) rfl ?_
          refine qg_pls (n := 2) (k' := 18) (lo' := [some (.int c)]) (S' := [.int 1]) (h' := h) rfl ?_
          rw [show ((if (¬ c < 97 ∧ ¬ 122 < c) ∨ (¬ c < 65 ∧ ¬ 90 < c) ∨ c = 95 then 1 else 0 : Int32)) = 1 from by simp [c1, c6, c7, c8]]
          exact qg_ret5 rfl rfl rfl
        · skip
          refine qg_icmp true rfl (qb_neT c8) rfl ?_
          refine qg_pls (n := 1) (k' := 18) (lo' := [some (.int c)]) (S' := [.int 0]) (h' := h) rfl ?_
          rw [show ((if (¬ c < 97 ∧ ¬ 122 < c) ∨ (¬ c < 65 ∧ ¬ 90 < c) ∨ c = 95 then 1 else 0 : Int32)) = 0 from by simp [c1, c6, c7, c8]]
          exact qg_ret5 rfl rfl rfl
      · skip
        refine qg_icmp false rfl (qb_ltF c7) rfl ?_
        refine qg_pls (n := 2) (k' := 11) (lo' := [some (.int c)]) (S' := [.int 90, .int c]) (h' := h) rfl ?_
        by_cases c9 : 90 < c
        · skip
          refine qg_icmp false rfl (qb_leF c9) rfl ?_
          refine qg_pls (n := 2) (k' := 14) (lo' := [some (.int c)]) (S' := [.int 95, .int c]) (h' := h) rfl ?_
          by_cases c10 : c = 95
          · skip
            refine qg_icmp false rfl (qb_neF c10) rfl ?_
            refine qg_pls (n := 2) (k' := 18) (lo' := [some (.int c)]) (S' := [.int 1]) (h' := h) rfl ?_
            rw [show ((if (¬ c < 97 ∧ ¬ 122 < c) ∨ (¬ c < 65 ∧ ¬ 90 < c) ∨ c = 95 then 1 else 0 : Int32)) = 1 from by simp [c1, c6, c7, c9, c10]]
            exact qg_ret5 rfl rfl rfl
          · skip
            refine qg_icmp true rfl (qb_neT c10) rfl ?_
            refine qg_pls (n := 1) (k' := 18) (lo' := [some (.int c)]) (S' := [.int 0]) (h' := h) rfl ?_
            rw [show ((if (¬ c < 97 ∧ ¬ 122 < c) ∨ (¬ c < 65 ∧ ¬ 90 < c) ∨ c = 95 then 1 else 0 : Int32)) = 0 from by simp [c1, c6, c7, c9, c10]]
            exact qg_ret5 rfl rfl rfl
        · skip
          refine qg_icmp true rfl (qb_leT c9) rfl ?_
          refine qg_pls (n := 2) (k' := 18) (lo' := [some (.int c)]) (S' := [.int 1]) (h' := h) rfl ?_
          rw [show ((if (¬ c < 97 ∧ ¬ 122 < c) ∨ (¬ c < 65 ∧ ¬ 90 < c) ∨ c = 95 then 1 else 0 : Int32)) = 1 from by simp [c1, c6, c7, c9]]
          exact qg_ret5 rfl rfl rfl
    · skip
      refine qg_icmp true rfl (qb_leT c6) rfl ?_
      refine qg_pls (n := 2) (k' := 18) (lo' := [some (.int c)]) (S' := [.int 1]) (h' := h) rfl ?_
      rw [show ((if (¬ c < 97 ∧ ¬ 122 < c) ∨ (¬ c < 65 ∧ ¬ 90 < c) ∨ c = 95 then 1 else 0 : Int32)) = 1 from by simp [c1, c6]]
      exact qg_ret5 rfl rfl rfl
theorem m_digit {c : Int32} : qe L xs (d + 1) 124 [.int c] h (.inl (some (.int (if zdig c then 1 else 0))), h) := by
  refine qe_of (M := qm_124) rfl rfl ?_
  show qg L xs _ qm_124 0 [some (.int c)] [] h _
  refine qg_pls (n := 2) (k' := 2) (lo' := [some (.int c)]) (S' := [.int 48, .int c]) (h' := h) rfl ?_
  by_cases c11 : c < 48
  · skip
    refine qg_icmp true rfl (qb_ltT c11) rfl ?_
    refine qg_pls (n := 1) (k' := 9) (lo' := [some (.int c)]) (S' := [.int 0]) (h' := h) rfl ?_
    rw [show ((if zdig c then 1 else 0 : Int32)) = 0 from by simp [zdig, c11]]
    exact qg_ret5 rfl rfl rfl
  · skip
    refine qg_icmp false rfl (qb_ltF c11) rfl ?_
    refine qg_pls (n := 2) (k' := 5) (lo' := [some (.int c)]) (S' := [.int 57, .int c]) (h' := h) rfl ?_
    by_cases c12 : 57 < c
    · skip
      refine qg_icmp true rfl (qb_gtT c12) rfl ?_
      refine qg_pls (n := 1) (k' := 9) (lo' := [some (.int c)]) (S' := [.int 0]) (h' := h) rfl ?_
      rw [show ((if zdig c then 1 else 0 : Int32)) = 0 from by simp [zdig, c11, c12]]
      exact qg_ret5 rfl rfl rfl
    · skip
      refine qg_icmp false rfl (qb_gtF c12) rfl ?_
      refine qg_pls (n := 2) (k' := 9) (lo' := [some (.int c)]) (S' := [.int 1]) (h' := h) rfl ?_
      rw [show ((if zdig c then 1 else 0 : Int32)) = 1 from by simp [zdig, c11, c12]]
      exact qg_ret5 rfl rfl rfl
/-- to the end of a comment's row -/
theorem m_skipc (hx : mtx h A cnt T) {p1 x4 : Option Value} : ∀ (n i : Nat), T.length - i = n → i ≤ T.length → ∃ j, i ≤ j ∧ j ≤ T.length ∧ (i < T.length → zat T i ≠ 10 → i < j) ∧ zskip T n 1 i = zskip T (T.length - j) 0 j ∧ ∀ o, qg L xs (d + 1) qm_120 48 [some (.ref 14), p1, some (.int (nI j)), some (.int 1), x4] [] h o → qg L xs (d + 1) qm_120 34 [some (.ref 14), p1, some (.int (nI i)), some (.int 1), x4] [] h o := by
  obtain ⟨hob, hA, hl, hT, ft, h17, hft⟩ := hx
  intro n
  induction n with
  | zero =>
    intro i hn hi
    refine ⟨i, Nat.le_refl _, hi, fun q => absurd q (by omega), by rw [hn]; rfl, fun o hg => ?_⟩
    refine qg_pls (n := 2) (k' := 36) (lo' := [some (.ref 14), p1, some (.int (nI i)), some (.int 1), x4]) (S' := [.ref 14, .int (nI i)]) (h' := h) rfl ?_
    refine qg_getf (v := .int (nI A.2.2.1)) rfl hob rfl rfl rfl ?_
    refine qg_icmp true rfl (qc_geT (by omega) (by omega)) rfl ?_
    exact hg
  | succ n ih =>
    intro i hn hi
    have q : i < T.length := by omega
    have road : ∀ o, qg L xs (d + 1) qm_120 43 [some (.ref 14), p1, some (.int (nI i)), some (.int 1), x4] [.int 10, .int (zraw T i)] h o → qg L xs (d + 1) qm_120 34 [some (.ref 14), p1, some (.int (nI i)), some (.int 1), x4] [] h o := by
      intro o hg
      rw [zraw_lt q] at hg
      refine qg_pls (n := 2) (k' := 36) (lo' := [some (.ref 14), p1, some (.int (nI i)), some (.int 1), x4]) (S' := [.ref 14, .int (nI i)]) (h' := h) rfl ?_
      refine qg_getf (v := .int (nI A.2.2.1)) rfl hob rfl rfl rfl ?_
      refine qg_icmp false rfl (qc_geF (by omega) (by omega)) rfl ?_
      refine qg_pls (n := 1) (k' := 39) (lo' := [some (.ref 14), p1, some (.int (nI i)), some (.int 1), x4]) (S' := [.ref 14]) (h' := h) rfl ?_
      refine qg_getf (v := .ref 17) rfl hob rfl rfl rfl ?_
      refine qg_pls (n := 1) (k' := 41) (lo' := [some (.ref 14), p1, some (.int (nI i)), some (.int 1), x4]) (S' := [.int (nI i), .ref 17]) (h' := h) rfl ?_
      refine qg_ald rfl (fun _ _ _ => rfl) h17 (by omega) (by decide) ?_
      rw [hft i q]
      refine qg_pls (n := 1) (k' := 43) (lo' := [some (.ref 14), p1, some (.int (nI i)), some (.int 1), x4]) (S' := [.int 10, .int (T.getD i 0)]) (h' := h) rfl ?_
      exact hg
    by_cases h10 : zat T i = 10
    · refine ⟨i, Nat.le_refl _, hi, fun _ z => absurd h10 z, ?_, fun o hg => road o ?_⟩
      · rw [hn]
        simp [zskip, h10]
      · skip
        refine qg_icmp true rfl (qb_eqT ((zra_10 hT).mp h10)) rfl ?_
        exact hg
    · obtain ⟨j, j1, j2, -, j3, j4⟩ := ih (i + 1) (by omega) (by omega)
      refine ⟨j, by omega, j2, fun _ _ => by omega, ?_, fun o hg => road o ?_⟩
      · rw [← j3]
        simp [zskip, h10]
      · skip
        refine qg_icmp false rfl (qb_eqF (fun z => h10 ((zra_10 hT).mpr z))) rfl ?_
        refine qg_pls (n := 2) (k' := 34) (lo' := [some (.ref 14), p1, some (.int ((nI i) + 1)), some (.int 1), x4]) (S' := []) (h' := h) rfl ?_
        rw [nI_1]
        exact j4 o hg
/-- QueryReaderModel.skipBlanks -/
theorem m_skipl (hx : mtx h A cnt T) {p1 : Option Value} : ∀ (n i : Nat) (x4 : Option Value), T.length - i = n → i ≤ T.length → qg L xs (d + 1) qm_120 4 [some (.ref 14), p1, some (.int (nI i)), some (.int 1), x4] [] h (.inl (some (.int (nI (zskip T n 0 i)))), h) := by
  have hT := hx.2.2.2.1
  have hl := hx.2.2.1
  have hob := hx.1
  intro n
  induction n using Nat.strongRecOn with
  | _ n ih =>
  intro i x4 hn hi
  have fin : ∀ x4 : Option Value, zskip T n 0 i = i → qg L xs (d + 1) qm_120 46 [some (.ref 14), p1, some (.int (nI i)), some (.int 1), x4] [] h (.inl (some (.int (nI (zskip T n 0 i)))), h) := by
    intro x4 e1
    rw [e1]
    refine qg_pls (n := 4) (k' := 5) (lo' := [some (.ref 14), p1, some (.int (nI i)), some (.int 0), x4]) (S' := [.int 0]) (h' := h) rfl ?_
    refine qg_if true rfl (rfl) rfl ?_
    refine qg_pls (n := 1) (k' := 50) (lo' := [some (.ref 14), p1, some (.int (nI i)), some (.int 0), x4]) (S' := [.int (nI i)]) (h' := h) rfl ?_
    exact qg_ret5 rfl rfl rfl
  have road : ∀ o, qg L xs (d + 1) qm_120 10 [some (.ref 14), p1, some (.int (nI i)), some (.int 1), some (.int (zraw T i))] [] h o → qg L xs (d + 1) qm_120 4 [some (.ref 14), p1, some (.int (nI i)), some (.int 1), x4] [] h o := by
    intro o hg
    refine qg_pls (n := 1) (k' := 5) (lo' := [some (.ref 14), p1, some (.int (nI i)), some (.int 1), x4]) (S' := [.int 1]) (h' := h) rfl ?_
    refine qg_if false rfl (rfl) rfl ?_
    refine qg_pls (n := 2) (k' := 8) (lo' := [some (.ref 14), p1, some (.int (nI i)), some (.int 1), x4]) (S' := [.int (nI i), .ref 14]) (h' := h) rfl ?_
    refine qg_call (v := some (.int (zraw T i))) (h' := h) (as := [.ref 14, .int (nI i)]) rfl rfl rfl rfl rfl rfl rfl (ai_rcv1 rfl rfl hob) (m_byteAt (d := d) hx (by omega)) ?_
    show qg L xs _ qm_120 9 [some (.ref 14), p1, some (.int (nI i)), some (.int 1), x4] [.int (zraw T i)] h _
    refine qg_pls (n := 1) (k' := 10) (lo' := [some (.ref 14), p1, some (.int (nI i)), some (.int 1), some (.int (zraw T i))]) (S' := []) (h' := h) rfl ?_
    exact hg
  refine road _ ?_
  cases n with
  | zero =>
    have e1 : zraw T i = -1 := zraw_end (by omega)
    rw [e1]
    refine qg_pls (n := 2) (k' := 12) (lo' := [some (.ref 14), p1, some (.int (nI i)), some (.int 1), some (.int (-1))]) (S' := [.int 9, .int (-1)]) (h' := h) rfl ?_
    refine qg_icmp false rfl (rfl) rfl ?_
    refine qg_pls (n := 2) (k' := 15) (lo' := [some (.ref 14), p1, some (.int (nI i)), some (.int 1), some (.int (-1))]) (S' := [.int 10, .int (-1)]) (h' := h) rfl ?_
    refine qg_icmp false rfl (rfl) rfl ?_
    refine qg_pls (n := 2) (k' := 18) (lo' := [some (.ref 14), p1, some (.int (nI i)), some (.int 1), some (.int (-1))]) (S' := [.int 13, .int (-1)]) (h' := h) rfl ?_
    refine qg_icmp false rfl (rfl) rfl ?_
    refine qg_pls (n := 2) (k' := 21) (lo' := [some (.ref 14), p1, some (.int (nI i)), some (.int 1), some (.int (-1))]) (S' := [.int 32, .int (-1)]) (h' := h) rfl ?_
    refine qg_icmp true rfl (rfl) rfl ?_
    refine qg_pls (n := 2) (k' := 26) (lo' := [some (.ref 14), p1, some (.int (nI i)), some (.int 1), some (.int (-1))]) (S' := [.int 45, .int (-1)]) (h' := h) rfl ?_
    refine qg_icmp true rfl (rfl) rfl ?_
    exact fin _ rfl
  | succ n =>
    have q : i < T.length := by omega
    have blank : (zat T i = 9 ∨ zat T i = 10 ∨ zat T i = 13 ∨ zat T i = 32) → qg L xs (d + 1) qm_120 22 [some (.ref 14), p1, some (.int (nI i)), some (.int 1), some (.int (zraw T i))] [] h (.inl (some (.int (nI (zskip T (n + 1) 0 i)))), h) := by
      intro hb
      have e1 : zskip T (n + 1) 0 i = zskip T n 0 (i + 1) := by
        have : ¬ zat T i = 45 := by
          intro z
          rw [z] at hb
          revert hb
          decide
        simp [zskip, this, hb]
      rw [e1]
      refine qg_pls (n := 3) (k' := 4) (lo' := [some (.ref 14), p1, some (.int ((nI i) + 1)), some (.int 1), some (.int (zraw T i))]) (S' := []) (h' := h) rfl ?_
      rw [nI_1]
      exact ih n (by omega) (i + 1) _ (by omega) (by omega)
    by_cases c1 : zat T i = 9
    · skip
      refine qg_pls (n := 2) (k' := 12) (lo' := [some (.ref 14), p1, some (.int (nI i)), some (.int 1), some (.int (zraw T i))]) (S' := [.int 9, .int (zraw T i)]) (h' := h) rfl ?_
      refine qg_icmp true rfl (qb_eqT ((zra_9 hT).mp c1)) rfl ?_
      exact blank (Or.inl c1)
    by_cases c2 : zat T i = 10
    · skip
      refine qg_pls (n := 2) (k' := 12) (lo' := [some (.ref 14), p1, some (.int (nI i)), some (.int 1), some (.int (zraw T i))]) (S' := [.int 9, .int (zraw T i)]) (h' := h) rfl ?_
      refine qg_icmp false rfl (qb_eqF (fun z => c1 ((zra_9 hT).mpr z))) rfl ?_
      refine qg_pls (n := 2) (k' := 15) (lo' := [some (.ref 14), p1, some (.int (nI i)), some (.int 1), some (.int (zraw T i))]) (S' := [.int 10, .int (zraw T i)]) (h' := h) rfl ?_
      refine qg_icmp true rfl (qb_eqT ((zra_10 hT).mp c2)) rfl ?_
      exact blank (Or.inr (Or.inl c2))
    by_cases c3 : zat T i = 13
    · skip
      refine qg_pls (n := 2) (k' := 12) (lo' := [some (.ref 14), p1, some (.int (nI i)), some (.int 1), some (.int (zraw T i))]) (S' := [.int 9, .int (zraw T i)]) (h' := h) rfl ?_
      refine qg_icmp false rfl (qb_eqF (fun z => c1 ((zra_9 hT).mpr z))) rfl ?_
      refine qg_pls (n := 2) (k' := 15) (lo' := [some (.ref 14), p1, some (.int (nI i)), some (.int 1), some (.int (zraw T i))]) (S' := [.int 10, .int (zraw T i)]) (h' := h) rfl ?_
      refine qg_icmp false rfl (qb_eqF (fun z => c2 ((zra_10 hT).mpr z))) rfl ?_
      refine qg_pls (n := 2) (k' := 18) (lo' := [some (.ref 14), p1, some (.int (nI i)), some (.int 1), some (.int (zraw T i))]) (S' := [.int 13, .int (zraw T i)]) (h' := h) rfl ?_
      refine qg_icmp true rfl (qb_eqT ((zra_13 hT).mp c3)) rfl ?_
      exact blank (Or.inr (Or.inr (Or.inl c3)))
    have r19 : ∀ o, qg L xs (d + 1) qm_120 21 [some (.ref 14), p1, some (.int (nI i)), some (.int 1), some (.int (zraw T i))] [.int 32, .int (zraw T i)] h o → qg L xs (d + 1) qm_120 10 [some (.ref 14), p1, some (.int (nI i)), some (.int 1), some (.int (zraw T i))] [] h o := by
      intro o hg
      refine qg_pls (n := 2) (k' := 12) (lo' := [some (.ref 14), p1, some (.int (nI i)), some (.int 1), some (.int (zraw T i))]) (S' := [.int 9, .int (zraw T i)]) (h' := h) rfl ?_
      refine qg_icmp false rfl (qb_eqF (fun z => c1 ((zra_9 hT).mpr z))) rfl ?_
      refine qg_pls (n := 2) (k' := 15) (lo' := [some (.ref 14), p1, some (.int (nI i)), some (.int 1), some (.int (zraw T i))]) (S' := [.int 10, .int (zraw T i)]) (h' := h) rfl ?_
      refine qg_icmp false rfl (qb_eqF (fun z => c2 ((zra_10 hT).mpr z))) rfl ?_
      refine qg_pls (n := 2) (k' := 18) (lo' := [some (.ref 14), p1, some (.int (nI i)), some (.int 1), some (.int (zraw T i))]) (S' := [.int 13, .int (zraw T i)]) (h' := h) rfl ?_
      refine qg_icmp false rfl (qb_eqF (fun z => c3 ((zra_13 hT).mpr z))) rfl ?_
      refine qg_pls (n := 2) (k' := 21) (lo' := [some (.ref 14), p1, some (.int (nI i)), some (.int 1), some (.int (zraw T i))]) (S' := [.int 32, .int (zraw T i)]) (h' := h) rfl ?_
      exact hg
    refine r19 _ ?_
    by_cases c4 : zat T i = 32
    · skip
      refine qg_icmp false rfl (qb_neF ((zra_32 hT).mp c4)) rfl ?_
      exact blank (Or.inr (Or.inr (Or.inr c4)))
    by_cases c5 : zat T i = 45
    · by_cases c6 : zat T (i + 1) = 45
      · obtain ⟨j, j1, j2, j3, j4, j5⟩ := m_skipc (L := L) (xs := xs) (d := d) (p1 := p1) (x4 := some (.int (zraw T i))) hx (n + 1) i hn hi
        have hj := j3 q c2
        have e1 : zskip T (n + 1) 0 i = zskip T (T.length - j) 0 j := by
          rw [← j4]
          simp [zskip, c5, c6]
        rw [e1]
        refine qg_icmp true rfl (qb_neT (fun z => c4 ((zra_32 hT).mpr z))) rfl ?_
        refine qg_pls (n := 2) (k' := 26) (lo' := [some (.ref 14), p1, some (.int (nI i)), some (.int 1), some (.int (zraw T i))]) (S' := [.int 45, .int (zraw T i)]) (h' := h) rfl ?_
        refine qg_icmp false rfl (qb_neF ((zra_45 hT).mp c5)) rfl ?_
        refine qg_pls (n := 4) (k' := 31) (lo' := [some (.ref 14), p1, some (.int (nI i)), some (.int 1), some (.int (zraw T i))]) (S' := [.int ((nI i) + 1), .ref 14]) (h' := h) rfl ?_
        rw [show nI i + 1 = nI (i + 1) from nI_1 i]
        refine qg_call (v := some (.int (zraw T (i + 1)))) (h' := h) (as := [.ref 14, .int (nI (i + 1))]) rfl rfl rfl rfl rfl rfl rfl (ai_rcv1 rfl rfl hob) (m_byteAt (d := d) hx (by omega)) ?_
        show qg L xs _ qm_120 32 [some (.ref 14), p1, some (.int (nI i)), some (.int 1), some (.int (zraw T i))] [.int (zraw T (i + 1))] h _
        refine qg_pls (n := 1) (k' := 33) (lo' := [some (.ref 14), p1, some (.int (nI i)), some (.int 1), some (.int (zraw T i))]) (S' := [.int 45, .int (zraw T (i + 1))]) (h' := h) rfl ?_
        refine qg_icmp false rfl (qb_neF ((zra_45 hT).mp c6)) rfl ?_
        refine j5 _ ?_
        refine qg_pls (n := 1) (k' := 4) (lo' := [some (.ref 14), p1, some (.int (nI j)), some (.int 1), some (.int (zraw T i))]) (S' := []) (h' := h) rfl ?_
        exact ih (T.length - j) (by omega) j _ rfl j2
      · have e1 : zskip T (n + 1) 0 i = i := by simp [zskip, c5, c6]
        refine qg_icmp true rfl (qb_neT (fun z => c4 ((zra_32 hT).mpr z))) rfl ?_
        refine qg_pls (n := 2) (k' := 26) (lo' := [some (.ref 14), p1, some (.int (nI i)), some (.int 1), some (.int (zraw T i))]) (S' := [.int 45, .int (zraw T i)]) (h' := h) rfl ?_
        refine qg_icmp false rfl (qb_neF ((zra_45 hT).mp c5)) rfl ?_
        refine qg_pls (n := 4) (k' := 31) (lo' := [some (.ref 14), p1, some (.int (nI i)), some (.int 1), some (.int (zraw T i))]) (S' := [.int ((nI i) + 1), .ref 14]) (h' := h) rfl ?_
        rw [show nI i + 1 = nI (i + 1) from nI_1 i]
        refine qg_call (v := some (.int (zraw T (i + 1)))) (h' := h) (as := [.ref 14, .int (nI (i + 1))]) rfl rfl rfl rfl rfl rfl rfl (ai_rcv1 rfl rfl hob) (m_byteAt (d := d) hx (by omega)) ?_
        show qg L xs _ qm_120 32 [some (.ref 14), p1, some (.int (nI i)), some (.int 1), some (.int (zraw T i))] [.int (zraw T (i + 1))] h _
        refine qg_pls (n := 1) (k' := 33) (lo' := [some (.ref 14), p1, some (.int (nI i)), some (.int 1), some (.int (zraw T i))]) (S' := [.int 45, .int (zraw T (i + 1))]) (h' := h) rfl ?_
        refine qg_icmp true rfl (qb_neT (fun z => c6 ((zra_45 hT).mpr z))) rfl ?_
        exact fin _ e1
    · have e1 : zskip T (n + 1) 0 i = i := by simp [zskip, c1, c2, c3, c4, c5]
      refine qg_icmp true rfl (qb_neT (fun z => c4 ((zra_32 hT).mpr z))) rfl ?_
      refine qg_pls (n := 2) (k' := 26) (lo' := [some (.ref 14), p1, some (.int (nI i)), some (.int 1), some (.int (zraw T i))]) (S' := [.int 45, .int (zraw T i)]) (h' := h) rfl ?_
      refine qg_icmp true rfl (qb_neT (fun z => c5 ((zra_45 hT).mpr z))) rfl ?_
      exact fin _ e1
theorem m_skip (hx : mtx h A cnt T) {i : Nat} (hi : i ≤ T.length) : qe L xs (d + 2) 120 [.ref 14, .int (nI i)] h (.inl (some (.int (nI (zskip T (T.length - i) 0 i)))), h) := by
  refine qe_of (M := qm_120) rfl rfl ?_
  show qg L xs _ qm_120 0 [some (.ref 14), some (.int (nI i)), none, none, none] [] h _
  refine qg_pls (n := 4) (k' := 4) (lo' := [some (.ref 14), some (.int (nI i)), some (.int (nI i)), some (.int 1), none]) (S' := []) (h' := h) rfl ?_
  exact m_skipl hx _ i _ rfl hi
/-- too long a string is none -/
theorem zstr_big : ∀ (m i n : Nat), 200 < n → (zstr T m i n).1 = 103 := by
  intro m
  induction m using Nat.strongRecOn with
  | _ m ih =>
  intro i n hn
  cases m with
  | zero => rfl
  | succ m =>
    by_cases h1 : zat T i = 39
    · by_cases h2 : zat T (i + 1) = 39
      · cases m with
        | zero => simp [zstr, h1, h2]
        | succ m =>
          rw [zstr_2 h1 h2]
          exact ih m (by omega) _ _ (by omega)
      · rw [zstr_1 h1 h2, if_pos hn]
    · by_cases h2 : zat T i < 32 ∨ 126 < zat T i
      · rw [zstr_3 h1 h2]
      · rw [zstr_4 h1 h2]
        exact ih m (by omega) _ _ (by omega)
def zsv (T : List Int32) (f m i n : Nat) : Int32 := if (zstr T m i n).1 = 101 then nI ((zstr T m i n).2 - f) else -1
/-- QueryReaderModel.stringAt -/
theorem m_strl (hx : mtx h A cnt T) {f : Nat} : ∀ (m i n : Nat) (x4 : Option Value), T.length - i = m → f ≤ i → i ≤ T.length → n ≤ 201 → qg L xs (d + 1) qm_125 6 [some (.ref 14), some (.int (nI f)), some (.int (nI i)), some (.int (nI n)), x4] [] h (.inl (some (.int (zsv T f m i n))), h) := by
  have hT := hx.2.2.2.1
  have hl := hx.2.2.1
  have hob := hx.1
  intro m
  induction m using Nat.strongRecOn with
  | _ m ih =>
  intro i n x4 hm hf hi hn
  by_cases hn2 : 200 < n
  · have e1 : zsv T f m i n = -1 := by
      unfold zsv
      rw [zstr_big m i n hn2, if_neg (by decide)]
    rw [e1]
    refine qg_pls (n := 2) (k' := 8) (lo' := [some (.ref 14), some (.int (nI f)), some (.int (nI i)), some (.int (nI n)), x4]) (S' := [.int 200, .int (nI n)]) (h' := h) rfl ?_
    refine qg_icmp true rfl (qc_gtT (b := 200) hn2 (by omega)) rfl ?_
    refine qg_pls (n := 1) (k' := 51) (lo' := [some (.ref 14), some (.int (nI f)), some (.int (nI i)), some (.int (nI n)), x4]) (S' := [.int (-1)]) (h' := h) rfl ?_
    exact qg_ret5 rfl rfl rfl
  have r15 : ∀ o, qg L xs (d + 1) qm_125 15 [some (.ref 14), some (.int (nI f)), some (.int (nI i)), some (.int (nI n)), some (.int (zraw T i))] [.int 39, .int (zraw T i)] h o → qg L xs (d + 1) qm_125 6 [some (.ref 14), some (.int (nI f)), some (.int (nI i)), some (.int (nI n)), x4] [] h o := by
    intro o hg
    refine qg_pls (n := 2) (k' := 8) (lo' := [some (.ref 14), some (.int (nI f)), some (.int (nI i)), some (.int (nI n)), x4]) (S' := [.int 200, .int (nI n)]) (h' := h) rfl ?_
    refine qg_icmp false rfl (qc_gtF (b := 200) (by omega) (by decide)) rfl ?_
    refine qg_pls (n := 2) (k' := 11) (lo' := [some (.ref 14), some (.int (nI f)), some (.int (nI i)), some (.int (nI n)), x4]) (S' := [.int (nI i), .ref 14]) (h' := h) rfl ?_
    refine qg_call (v := some (.int (zraw T i))) (h' := h) (as := [.ref 14, .int (nI i)]) rfl rfl rfl rfl rfl rfl rfl (ai_rcv1 rfl rfl hob) (m_byteAt (d := d) hx (by omega)) ?_
    show qg L xs _ qm_125 12 [some (.ref 14), some (.int (nI f)), some (.int (nI i)), some (.int (nI n)), x4] [.int (zraw T i)] h _
    refine qg_pls (n := 3) (k' := 15) (lo' := [some (.ref 14), some (.int (nI f)), some (.int (nI i)), some (.int (nI n)), some (.int (zraw T i))]) (S' := [.int 39, .int (zraw T i)]) (h' := h) rfl ?_
    exact hg
  refine r15 _ ?_
  -- a byte that isn't one of a string's, or is
  have r29 : ¬ (zat T i = 39 ∧ ¬ zat T (i + 1) = 39) → ∀ o, qg L xs (d + 1) qm_125 29 [some (.ref 14), some (.int (nI f)), some (.int (nI i)), some (.int (nI n)), some (.int (zraw T i))] [] h o → qg L xs (d + 1) qm_125 15 [some (.ref 14), some (.int (nI f)), some (.int (nI i)), some (.int (nI n)), some (.int (zraw T i))] [.int 39, .int (zraw T i)] h o := by
    intro hq o hg
    by_cases h1 : zat T i = 39
    · have h2 : zat T (i + 1) = 39 := Decidable.byContradiction (fun z => hq ⟨h1, z⟩)
      refine qg_icmp false rfl (qb_neF ((zra_39 hT).mp h1)) rfl ?_
      refine qg_pls (n := 4) (k' := 20) (lo' := [some (.ref 14), some (.int (nI f)), some (.int (nI i)), some (.int (nI n)), some (.int (zraw T i))]) (S' := [.int ((nI i) + 1), .ref 14]) (h' := h) rfl ?_
      rw [show nI i + 1 = nI (i + 1) from nI_1 i]
      refine qg_call (v := some (.int (zraw T (i + 1)))) (h' := h) (as := [.ref 14, .int (nI (i + 1))]) rfl rfl rfl rfl rfl rfl rfl (ai_rcv1 rfl rfl hob) (m_byteAt (d := d) hx (by omega)) ?_
      show qg L xs _ qm_125 21 [some (.ref 14), some (.int (nI f)), some (.int (nI i)), some (.int (nI n)), some (.int (zraw T i))] [.int (zraw T (i + 1))] h _
      refine qg_pls (n := 1) (k' := 22) (lo' := [some (.ref 14), some (.int (nI f)), some (.int (nI i)), some (.int (nI n)), some (.int (zraw T i))]) (S' := [.int 39, .int (zraw T (i + 1))]) (h' := h) rfl ?_
      refine qg_icmp true rfl (qb_eqT ((zra_39 hT).mp h2)) rfl ?_
      exact hg
    · skip
      refine qg_icmp true rfl (qb_neT (fun z => h1 ((zra_39 hT).mpr z))) rfl ?_
      exact hg
  cases m with
  | zero =>
    have e0 : zraw T i = -1 := zraw_end (by omega)
    have h1 : ¬ zat T i = 39 := by
      rw [zra_39 hT, e0]; decide
    refine r29 (fun z => h1 z.1) _ ?_
    rw [e0]
    have e1 : zsv T f 0 i n = -1 := rfl
    rw [e1]
    refine qg_pls (n := 2) (k' := 31) (lo' := [some (.ref 14), some (.int (nI f)), some (.int (nI i)), some (.int (nI n)), some (.int (-1))]) (S' := [.int 32, .int (-1)]) (h' := h) rfl ?_
    refine qg_icmp true rfl (rfl) rfl ?_
    refine qg_pls (n := 1) (k' := 36) (lo' := [some (.ref 14), some (.int (nI f)), some (.int (nI i)), some (.int (nI n)), some (.int (-1))]) (S' := [.int (-1)]) (h' := h) rfl ?_
    exact qg_ret5 rfl rfl rfl
  | succ m =>
    by_cases h1 : zat T i = 39
    · by_cases h2 : zat T (i + 1) = 39
      · have hi2 : i + 1 < T.length := by
          rcases Nat.lt_or_ge (i + 1) T.length with q | q
          · exact q
          · rw [zra_39 hT, zraw_end (by omega)] at h2
            exact absurd h2 (by decide)
        refine r29 (fun z => z.2 h2) _ ?_
        obtain ⟨m2, rfl⟩ : ∃ m2, m = m2 + 1 := ⟨m - 1, by omega⟩
        have e1 : zsv T f (m2 + 1 + 1) i n = zsv T f m2 (i + 2) (n + 1) := by
          unfold zsv
          rw [zstr_2 h1 h2]
        rw [e1]
        have e2 : zraw T i = 39 := (zra_39 hT).mp h1
        rw [e2]
        refine qg_pls (n := 2) (k' := 31) (lo' := [some (.ref 14), some (.int (nI f)), some (.int (nI i)), some (.int (nI n)), some (.int 39)]) (S' := [.int 32, .int 39]) (h' := h) rfl ?_
        refine qg_icmp false rfl (rfl) rfl ?_
        refine qg_pls (n := 2) (k' := 34) (lo' := [some (.ref 14), some (.int (nI f)), some (.int (nI i)), some (.int (nI n)), some (.int 39)]) (S' := [.int 126, .int 39]) (h' := h) rfl ?_
        refine qg_icmp true rfl (rfl) rfl ?_
        refine qg_pls (n := 2) (k' := 39) (lo' := [some (.ref 14), some (.int (nI f)), some (.int (nI i)), some (.int (nI n)), some (.int 39)]) (S' := [.int 39, .int 39]) (h' := h) rfl ?_
        refine qg_icmp false rfl (rfl) rfl ?_
        refine qg_pls (n := 7) (k' := 6) (lo' := [some (.ref 14), some (.int (nI f)), some (.int ((nI i) + 2)), some (.int ((nI n) + 1)), some (.int 39)]) (S' := []) (h' := h) rfl ?_
        rw [show nI i + 2 = nI (i + 2) from nI_add i 2, nI_1]
        exact ih m2 (by omega) (i + 2) (n + 1) _ (by omega) (by omega) (by omega) (by omega)
      · have e1 : zsv T f (m + 1) i n = nI (i + 1 - f) := by
          unfold zsv
          rw [zstr_1 h1 h2, if_neg hn2, if_pos rfl]
        rw [e1]
        refine qg_icmp false rfl (qb_neF ((zra_39 hT).mp h1)) rfl ?_
        refine qg_pls (n := 4) (k' := 20) (lo' := [some (.ref 14), some (.int (nI f)), some (.int (nI i)), some (.int (nI n)), some (.int (zraw T i))]) (S' := [.int ((nI i) + 1), .ref 14]) (h' := h) rfl ?_
        rw [show nI i + 1 = nI (i + 1) from nI_1 i]
        refine qg_call (v := some (.int (zraw T (i + 1)))) (h' := h) (as := [.ref 14, .int (nI (i + 1))]) rfl rfl rfl rfl rfl rfl rfl (ai_rcv1 rfl rfl hob) (m_byteAt (d := d) hx (by omega)) ?_
        show qg L xs _ qm_125 21 [some (.ref 14), some (.int (nI f)), some (.int (nI i)), some (.int (nI n)), some (.int (zraw T i))] [.int (zraw T (i + 1))] h _
        refine qg_pls (n := 1) (k' := 22) (lo' := [some (.ref 14), some (.int (nI f)), some (.int (nI i)), some (.int (nI n)), some (.int (zraw T i))]) (S' := [.int 39, .int (zraw T (i + 1))]) (h' := h) rfl ?_
        refine qg_icmp false rfl (qb_eqF (fun z => h2 ((zra_39 hT).mpr z))) rfl ?_
        refine qg_pls (n := 5) (k' := 28) (lo' := [some (.ref 14), some (.int (nI f)), some (.int (nI i)), some (.int (nI n)), some (.int (zraw T i))]) (S' := [.int (((nI i) + 1) - (nI f))]) (h' := h) rfl ?_
        rw [show nI i + 1 = nI (i + 1) from nI_1 i, show nI (i + 1) - nI f = nI (i + 1 - f) from nI_sub (by omega)]
        exact qg_ret5 rfl rfl rfl
    · refine r29 (fun z => h1 z.1) _ ?_
      by_cases h2 : zat T i < 32 ∨ 126 < zat T i
      · have e1 : zsv T f (m + 1) i n = -1 := by
          unfold zsv
          rw [zstr_3 h1 h2, if_neg (by decide)]
        rw [e1]
        have h3 := (zra_pr hT).mp h2
        refine qg_pls (n := 2) (k' := 31) (lo' := [some (.ref 14), some (.int (nI f)), some (.int (nI i)), some (.int (nI n)), some (.int (zraw T i))]) (S' := [.int 32, .int (zraw T i)]) (h' := h) rfl ?_
        by_cases h4 : zraw T i < 32
        · skip
          refine qg_icmp true rfl (qb_ltT h4) rfl ?_
          refine qg_pls (n := 1) (k' := 36) (lo' := [some (.ref 14), some (.int (nI f)), some (.int (nI i)), some (.int (nI n)), some (.int (zraw T i))]) (S' := [.int (-1)]) (h' := h) rfl ?_
          exact qg_ret5 rfl rfl rfl
        · have h5 : 126 < zraw T i := by
            rcases h3 with z | z
            · exact absurd z h4
            · exact z
          refine qg_icmp false rfl (qb_ltF h4) rfl ?_
          refine qg_pls (n := 2) (k' := 34) (lo' := [some (.ref 14), some (.int (nI f)), some (.int (nI i)), some (.int (nI n)), some (.int (zraw T i))]) (S' := [.int 126, .int (zraw T i)]) (h' := h) rfl ?_
          refine qg_icmp false rfl (qb_leF h5) rfl ?_
          refine qg_pls (n := 1) (k' := 36) (lo' := [some (.ref 14), some (.int (nI f)), some (.int (nI i)), some (.int (nI n)), some (.int (zraw T i))]) (S' := [.int (-1)]) (h' := h) rfl ?_
          exact qg_ret5 rfl rfl rfl
      · have e1 : zsv T f (m + 1) i n = zsv T f m (i + 1) (n + 1) := by
          unfold zsv
          rw [zstr_4 h1 h2]
        rw [e1]
        have h3 : ¬ (zraw T i < 32 ∨ 126 < zraw T i) := fun z => h2 ((zra_pr hT).mpr z)
        refine qg_pls (n := 2) (k' := 31) (lo' := [some (.ref 14), some (.int (nI f)), some (.int (nI i)), some (.int (nI n)), some (.int (zraw T i))]) (S' := [.int 32, .int (zraw T i)]) (h' := h) rfl ?_
        refine qg_icmp false rfl (qb_ltF (fun z => h3 (Or.inl z))) rfl ?_
        refine qg_pls (n := 2) (k' := 34) (lo' := [some (.ref 14), some (.int (nI f)), some (.int (nI i)), some (.int (nI n)), some (.int (zraw T i))]) (S' := [.int 126, .int (zraw T i)]) (h' := h) rfl ?_
        refine qg_icmp true rfl (qb_leT (fun z => h3 (Or.inr z))) rfl ?_
        refine qg_pls (n := 2) (k' := 39) (lo' := [some (.ref 14), some (.int (nI f)), some (.int (nI i)), some (.int (nI n)), some (.int (zraw T i))]) (S' := [.int 39, .int (zraw T i)]) (h' := h) rfl ?_
        refine qg_icmp true rfl (qb_neT (fun z => h1 ((zra_39 hT).mpr z))) rfl ?_
        refine qg_pls (n := 6) (k' := 6) (lo' := [some (.ref 14), some (.int (nI f)), some (.int ((nI i) + 1)), some (.int ((nI n) + 1)), some (.int (zraw T i))]) (S' := []) (h' := h) rfl ?_
        rw [show nI i + 1 = nI (i + 1) from nI_1 i, nI_1]
        exact ih m (by omega) (i + 1) (n + 1) _ (by omega) (by omega) (by omega) (by omega)
theorem m_string (hx : mtx h A cnt T) {f : Nat} (hf : f < T.length) : qe L xs (d + 2) 125 [.ref 14, .int (nI f)] h (.inl (some (.int (zsv T f (T.length - (f + 1)) (f + 1) 0))), h) := by
  refine qe_of (M := qm_125) rfl rfl ?_
  show qg L xs _ qm_125 0 [some (.ref 14), some (.int (nI f)), none, none, none] [] h _
  refine qg_pls (n := 6) (k' := 6) (lo' := [some (.ref 14), some (.int (nI f)), some (.int ((nI f) + 1)), some (.int 0), none]) (S' := []) (h' := h) rfl ?_
  rw [show nI f + 1 = nI (f + 1) from nI_1 f]
  exact m_strl hx _ (f + 1) 0 _ rfl (by omega) (by omega) (by omega)
end MRA
