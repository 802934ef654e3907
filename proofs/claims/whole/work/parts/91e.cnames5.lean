/-! THE CLASS COUNTS NAMES: the call. (Printed by wip/whole/pp.py from wip/whole/src.) -/
section CNQ
variable {L : Nat} {xs : Nat → Int32} {d : Nat} {h h' : ai_H} {T Q : List Int32} {mx kd tb tl pb pl so fr to n : Nat}
/-- the table lies apart -/
def qaw (sb tb pb so fr to : Nat) : Prop := ∀ i, i ∈ [0, 1, 2, 4, 6, 10, 11, tb, pb, so, fr, to] → i ≠ 12 ∧ i ≠ sb
theorem qst_keep {sb : Nat} (hs : qst h T Q mx kd tb tl pb pl so fr to n) (ha : qaw sb tb pb so fr to) (hk : ∀ i c, i ≠ 12 → i ≠ sb → h.1[i]? = some c → h'.1[i]? = some c) : qst h' T Q mx kd tb tl pb pl so fr to n := by
  obtain ⟨rc, a1, a2, a3, a4, l, fm, fs, ⟨f2, r1, r2, r3⟩, ⟨f4, p1, p2, p3⟩, ht, c1, c10, c11, c0, e1, e2, e3⟩ := hs
  have kk : ∀ i c, i ∈ [0, 1, 2, 4, 6, 10, 11, tb, pb, so, fr, to] → h.1[i]? = some c → h'.1[i]? = some c := fun i c hi hc => hk i c (ha i hi).1 (ha i hi).2 hc
  refine ⟨rc, a1, a2, a3, a4, l, fm, fs, ⟨f2, kk _ _ (by simp) r1, kk _ _ (by simp) r2, r3⟩, ⟨f4, kk _ _ (by simp) p1, kk _ _ (by simp) p2, p3⟩, ?_, kk _ _ (by simp) c1, kk _ _ (by simp) c10, kk _ _ (by simp) c11, kk _ _ (by simp) c0, e1, e2, e3⟩
  obtain ⟨gs, gf, gt, t1, t2, t3, t4, t5⟩ := ht
  exact ⟨gs, gf, gt, kk _ _ (by simp) t1, kk _ _ (by simp) t2, kk _ _ (by simp) t3, kk _ _ (by simp) t4, t5⟩
theorem qnv_keep {sb k sb' k' : Nat} (hv : qnv h sb k h' sb' k') : ∀ i c, i ≠ 12 → i ≠ sb → h.1[i]? = some c → h'.1[i]? = some c := fun i c h1 h2 hc => by
  rw [hv.2.1 i h1 h2 (q_lt hc)]; exact hc
/-- QueryReader.names -/
theorem q_names {sb k0 : Nat} (hs : qst h T Q mx kd tb tl pb pl so fr to n) (hn : qnc h sb k0) (ha : qaw sb tb pb so fr to) (hQ : Q.length ≤ 524288) : ∃ h' sb' k', qe L xs (d + 6) 97 [.ref 0] h (.inl (some (.int (nI (zdn [] ((zscn Q Q.length 0 32 false).map (zna Q)))))), h') ∧ qst h' T Q mx kd tb tl pb pl so fr to n ∧ qnc h' sb' k' ∧ qnv h sb k0 h' sb' k' := by
  have hs0 := hs
  obtain ⟨k, h1, sb1, k1, f1, b1, b2, b3, b4, b5, b6, b7, b8, b9⟩ := q_clear (L := L) (xs := xs) (d := d) hn hQ
  have hs1 := qst_keep hs ha (qnv_keep b9)
  obtain ⟨rc, a1, a2, a3, a4, l, fm, fs, -, hr, -, c1, c10, c11, c0, e1, e2, e3⟩ := hs
  have hr1 : qrow h1 4 pb pl Q := by
    obtain ⟨_, _, _, _, _, _, _, _, -, hr, -⟩ := hs1
    exact hr
  have h12 := hn.1
  have hlp : pb < h.1.length := by
    obtain ⟨f, -, q, -⟩ := hr
    exact q_lt q
  have hl12 := q_lt h12
  have d12 : sb1 ≠ 12 := fun q => by
    rw [q, b4] at b7
    cases b7
  have d4 : sb1 ≠ 4 := by
    rcases b9.2.2.1 with q | q
    · rw [q]; exact (ha 4 (by simp)).2.symm
    · intro z; rw [z] at q; exact absurd (Nat.lt_of_lt_of_le hl12 q) (by decide)
  have dpb : sb1 ≠ pb := by
    rcases b9.2.2.1 with q | q
    · rw [q]; exact (ha pb (by simp)).2.symm
    · intro z; rw [z] at q; exact absurd hlp (Nat.not_lt.mpr q)
  have hpk := p2_20 (Nat.le_trans b3 b6)
  obtain ⟨sn', g1⟩ := q_diffl (L := L) (xs := xs) (d := d) hr1 (by omega) b4 b3 b6 b7 b2 d4 dpb d12 Q.length 0 0 32 false f1 [] none none (by omega) (Nat.zero_le _) (ztb_0 b8 (Nat.two_pow_pos k) (by omega)) (fun j hj => Or.inl (b8 j hj))
  rw [Nat.zero_add, q_same b7] at g1
  have g2 : qe L xs (d + 5) 98 [.ref 12, .ref 4] h (.inl (some (.int (nI (zdn [] ((zscn Q Q.length 0 32 false).map (zna Q)))))), (h1.1.set sb1 (ai_num .int (2 ^ k1) sn'), h1.2)) := by
    refine qe_of (M := qm_98) rfl rfl ?_
    show qg L xs _ qm_98 0 [some (.ref 12), some (.ref 4), none, none, none, none, none, none, none] [] h _
    refine qg_pls (n := 2) (k' := 2) (lo' := [some (.ref 12), some (.ref 4), none, none, none, none, none, none, none]) (S' := [.ref 4, .ref 12]) (h' := h) rfl ?_
    refine qg_call (v := some (.int (nI Q.length))) (h' := h) (as := [.ref 4]) rfl rfl rfl rfl rfl rfl rfl (ai_rcv1 rfl rfl (qrow_obj hr)) ((qe_up (by omega) (q_size (d := d) hr))) ?_
    show qg L xs _ qm_98 3 [some (.ref 12), some (.ref 4), none, none, none, none, none, none, none] [.int (nI Q.length), .ref 12] h _
    refine qg_call (v := some (.int (nI (2 ^ k)))) (h' := h1) (as := [.ref 12, .int (nI Q.length)]) rfl rfl rfl rfl rfl rfl rfl (ai_rcv1 rfl rfl h12) ((qe_up (by omega) b1)) ?_
    show qg L xs _ qm_98 4 [some (.ref 12), some (.ref 4), none, none, none, none, none, none, none] [.int (nI (2 ^ k))] h1 _
    refine qg_pls (n := 9) (k' := 13) (lo' := [some (.ref 12), some (.ref 4), some (.int (nI (2 ^ k))), some (.int 0), some (.int 32), some (.int 0), some (.int 0), none, none]) (S' := []) (h' := h1) rfl ?_
    exact g1
  have hkeep : ∀ i c, i ≠ 12 → i ≠ sb → h.1[i]? = some c → (h1.1.set sb1 (ai_num .int (2 ^ k1) sn'))[i]? = some c := by
    intro i c i1 i2 hc
    have hlt := q_lt hc
    refine q_stay (qnv_keep b9 i c i1 i2 hc) ?_
    rcases b9.2.2.1 with q | q
    · rw [q]; exact Ne.symm i2
    · omega
  refine ⟨_, sb1, k1, ?_, qst_keep (h' := (h1.1.set sb1 (ai_num .int (2 ^ k1) sn'), h1.2)) hs0 ha hkeep, ⟨q_stay b4 d12, b5, b6, sn', q_set b7⟩, ?_, ?_, b9.2.2.1, b9.2.2.2.1, b9.2.2.2.2⟩
  · skip
    refine qe_of (M := qm_97) rfl rfl ?_
    show qg L xs _ qm_97 0 [some (.ref 0)] [] h _
    refine qg_pls (n := 1) (k' := 1) (lo' := [some (.ref 0)]) (S' := [.ref 0]) (h' := h) rfl ?_
    refine qg_getf (v := .ref 12) rfl c0 rfl rfl rfl ?_
    refine qg_pls (n := 1) (k' := 3) (lo' := [some (.ref 0)]) (S' := [.ref 0, .ref 12]) (h' := h) rfl ?_
    refine qg_getf (v := .ref 4) rfl c0 rfl rfl rfl ?_
    refine qg_call (v := some (.int (nI (zdn [] ((zscn Q Q.length 0 32 false).map (zna Q)))))) (h' := (h1.1.set sb1 (ai_num .int (2 ^ k1) sn'), h1.2)) (as := [.ref 12, .ref 4]) rfl rfl rfl rfl rfl rfl rfl (ai_rcv1 rfl rfl h12) (g2) ?_
    show qg L xs _ qm_97 5 [some (.ref 0)] [.int (nI (zdn [] ((zscn Q Q.length 0 32 false).map (zna Q))))] (h1.1.set sb1 (ai_num .int (2 ^ k1) sn'), h1.2) _
    exact qg_ret5 rfl rfl rfl
  · show h.1.length ≤ (h1.1.set sb1 _).length
    rw [List.length_set]; exact b9.1
  · intro i i1 i2 i3
    show (h1.1.set sb1 _)[i]? = _
    rw [List.getElem?_set_ne, b9.2.1 i i1 i2 i3]
    rcases b9.2.2.1 with q | q
    · rw [q]; exact Ne.symm i2
    · omega
end CNQ
