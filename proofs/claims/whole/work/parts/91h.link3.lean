/-! THE NAMES IN THE PLAIN FORM ARE THE NAMES AMONG THE ITEMS: all. (Printed by wip/whole/pp.py from wip/whole/src.) -/
section LNM
variable {h : ai_H} {B T Q : List Int32} {J : List zJ} {kd dp : Nat}
theorem jw_last (a : zJ) : ∃ R, jw a = R ++ [32] := by
  unfold jw
  cases a.2.2.2 with
  | zero => exact ⟨jb 40 a.2.2.1 ++ a.2.1, List.append_nil _⟩
  | succ n =>
    refine ⟨jb 40 a.2.2.1 ++ a.2.1 ++ [32] ++ (jb 41 n ++ [41]), ?_⟩
    rw [← jb_app, List.append_assoc (jb 40 a.2.2.1 ++ a.2.1 ++ [32]), List.append_assoc (jb 41 n)]
    rfl
theorem jr_last (hJ : J ≠ []) : ∃ R, jr J = R ++ [32] := by
  obtain ⟨R, hR⟩ := jw_last (J.getLast hJ)
  refine ⟨jr J.dropLast ++ R, ?_⟩
  conv => lhs; rw [← List.dropLast_concat_getLast hJ]
  rw [jr_app, jr_one, hR, List.append_assoc]
theorem zasc_255 : (List.range 128).all (fun m => decide (nI m &&& 255 = nI m)) = true := by decide +kernel
theorem names_eq (hs : mst h B Q kd dp J T) : (zscn Q Q.length 0 32 false).map (zna Q) = jnm T J := by
  obtain ⟨-, hasc, -⟩ := mst_Q hs
  obtain ⟨_, _, _, _, _, _, _, _, _, _, ft, rf, bf, _, _, _, -, -, -, -, -, cT, -, -, -, -, -, -, -, -, -, ci, cQ, -⟩ := hs
  have hat : ∀ i, i < Q.length → zat Q i = Q.getD i 0 := by
    intro i hi
    have hm : Q.getD i 0 ∈ Q := by
      rw [List.getD_eq_getElem?_getD, List.getElem?_eq_getElem hi]
      exact List.getElem_mem hi
    obtain ⟨m, hm, q⟩ := hasc _ hm
    show (if i < Q.length then Q.getD i 0 &&& 255 else -1) = _
    rw [if_pos hi, q]
    exact of_decide_eq_true (List.all_eq_true.mp zasc_255 m (List.mem_range.mpr hm))
  rw [zscn_L hat _ 0 32 false (by omega), List.drop_zero]
  have hlen := zen_len (t := T)
  have hTl := cT.1
  rw [← zsc_J cT.2.2 (by omega) J (fun a ha => by
    obtain ⟨k, hk, q⟩ := List.mem_iff_getElem.mp ha
    exact (ci k a (by rw [List.getElem?_eq_getElem hk, q])).2.1)]
  by_cases hJ : J = []
  · subst hJ
    rw [cQ]; rfl
  · obtain ⟨R, hR⟩ := jr_last hJ
    have e1 : Q = R := by
      rw [cQ, hR, List.length_append, show R.length + [(32 : Int32)].length - 1 = R.length from Nat.add_sub_cancel .., List.take_left']
      rfl
    rw [hR, zscL_end, e1]
/-- an item's text, where nothing is shown, is empty -/
theorem mst_no (hs : mst h B Q kd dp J T) (hQ : Q = []) : ∀ a ∈ J, a.2.1 = [] := by
  obtain ⟨_, _, _, _, _, _, _, _, _, _, ft, rf, bf, _, _, _, -, -, -, -, -, cT, -, -, -, -, -, -, -, -, -, ci, cQ, -⟩ := hs
  have hl : (jr J).length ≤ 1 := by
    have := congrArg List.length cQ
    rw [hQ, List.length_take] at this
    have this : 0 = _ := this
    omega
  intro a ha
  obtain ⟨k, hk, q⟩ := List.mem_iff_getElem.mp ha
  have h1 : (jw a).length ≤ (jr J).length := by
    have e1 := List.take_append_drop k J
    rw [← e1, jr_app, List.drop_eq_getElem_cons hk, List.length_append]
    show _ ≤ _ + (jw J[k] ++ jr (J.drop (k + 1))).length
    rw [List.length_append, q]
    omega
  have h2 : a.2.1.length + 1 ≤ (jw a).length := by
    unfold jw
    simp only [List.length_append, List.length_cons, List.length_nil]
    omega
  exact List.eq_nil_of_length_eq_zero (by omega)
/-- the first token is no name, once a statement was read -/
theorem mst_N (hs : mst h B Q kd dp J T) (h0 : Q ≠ [] → ztk (zen T) 0 ≠ 99) : ∀ a ∈ J, a.1 ≠ 0 ∨ ztk (zen T) 0 ≠ 99 := by
  intro a ha
  by_cases h9 : ztk (zen T) 0 = 99
  · left
    have hQ : Q = [] := by
      cases hq : Q with
      | nil => rfl
      | cons c R => exact absurd h9 (h0 (by rw [hq]; exact List.cons_ne_nil _ _))
    have hno := mst_no hs hQ a ha
    intro q
    obtain ⟨_, _, _, _, _, _, _, _, _, _, ft, rf, bf, _, _, _, -, -, -, -, -, cT, -, -, -, -, -, -, -, -, -, ci, cQ, -⟩ := hs
    obtain ⟨k, hk, qk⟩ := List.mem_iff_getElem.mp ha
    have hlen := zen_len (t := T)
    have hTl := cT.1
    rcases (ci k a (by rw [List.getElem?_eq_getElem hk, qk])).2.1 with ⟨i, hi, hi2, e1, e2⟩ | ⟨kk, hkk, e1, e2⟩
    · rw [q] at e1
      have : 0 = i := (nI_eq (by decide) (by omega)).mp e1
      subst this
      obtain ⟨b1, -, -, -⟩ := zit_nm cT.2.2 hi h9
      obtain ⟨-, -, a3, -⟩ := zen_tok hi hi2
      rw [← e2, hno] at b1
      have b1 : 0 = zto (zen T) 0 - zfr (zen T) 0 := b1
      omega
    · have hneg := of_decide_eq_true (List.all_eq_true.mp zneg_1 kk (List.mem_range.mpr hkk))
      rw [← e1, q] at hneg
      exact absurd hneg (by decide)
  · exact Or.inr h9
end LNM
