/-! WHAT HOLDS BETWEEN THE LAW'S CALLS. (Printed by wip/whole/pp.py from wip/whole/src.) -/
section LAX
variable {L : Nat} {xs : Nat → Int32} {d : Nat} {h h' : ai_H} {B Q B2 Q2 B' Q' T T' : List Int32} {J J' : List zJ} {mx kd mx2 kd2 mx' kd' C S : Nat}
/-- class and model in one heap; what they have used so far -/
def qlj (h : ai_H) (B Q : List Int32) (mx kd : Nat) (B2 Q2 : List Int32) (kd2 mx2 : Nat) (J : List zJ) (T : List Int32) (C S : Nat) : Prop := ∃ (tb tl pb pl so fr to n sb k : Nat) (f : Nat → Int64), qst h B Q mx kd tb tl pb pl so fr to n ∧ mst h B2 Q2 kd2 mx2 J T ∧ qnc h sb k ∧ (∀ i, i ∈ [tb, pb, so, fr, to, sb] → i < 14 ∨ 26 < i) ∧ qaw sb tb pb so fr to ∧ h.1[26]? = some (ai_lng 1 f) ∧ 64 * h.2.1 ≤ C + 4 * tl + 4 * pl + 3 * n + 4 * 2 ^ k ∧ h.2.2 ≤ S + 2 * tl + 2 * pl + 6 * n + 2 * 2 ^ k
theorem qlj_c {R : ai_H → Prop} (hl : qlj h B Q mx kd B2 Q2 kd2 mx2 J T C S) (hop : ∀ tb tl pb pl so fr to n, qst h B Q mx kd tb tl pb pl so fr to n → ∃ h' tb' tl' pb' pl' so' fr' to' n', R h' ∧ qst h' B' Q' mx' kd' tb' tl' pb' pl' so' fr' to' n' ∧ qmv h tb tl pb pl so fr to n h' tb' tl' pb' pl' so' fr' to' n') : ∃ h', R h' ∧ qlj h' B' Q' mx' kd' B2 Q2 kd2 mx2 J T (C + 64) (S + 6) := by
  obtain ⟨tb, tl, pb, pl, so, fr, to, n, sb, k, f, hs, hm, hn, ha, hq, c26, n1, n2⟩ := hl
  obtain ⟨h', tb', tl', pb', pl', so', fr', to', n', hR, hs', v1, v2, v3, v4, v5, v6, v7, v8, v9⟩ := hop _ _ _ _ _ _ _ _ hs
  have hl26 := q_lt c26
  have hlsb : sb < h.1.length := by
    obtain ⟨-, -, -, g, q⟩ := hn
    exact q_lt q
  have kk : ∀ i c, (∀ j, j ∈ [0, 1, 2, 4, 6, 10, 11, tb, pb, so, fr, to] → i ≠ j) → h.1[i]? = some c → h'.1[i]? = some c := by
    intro i c hi hc
    rw [v2 i (hi 0 (by simp)) (hi 1 (by simp)) (hi 2 (by simp)) (hi 4 (by simp)) (hi 6 (by simp)) (hi 10 (by simp)) (hi 11 (by simp)) (hi tb (by simp)) (hi pb (by simp)) (hi so (by simp)) (hi fr (by simp)) (hi to (by simp)) (q_lt hc)]
    exact hc
  have a1 := ha tb (by simp)
  have a2 := ha pb (by simp)
  have a3 := ha so (by simp)
  have a4 := ha fr (by simp)
  have a5 := ha to (by simp)
  have a6 := ha sb (by simp)
  have kr : ∀ i c, 14 ≤ i → i ≤ 26 → h.1[i]? = some c → h'.1[i]? = some c := by
    intro i c i1 i2 hc
    refine kk i c (fun j hj q => ?_) hc
    subst q
    simp only [List.mem_cons, List.not_mem_nil, or_false] at hj
    omega
  have ksb : ∀ c, h.1[sb]? = some c → h'.1[sb]? = some c := fun c hc => kk sb c (fun j hj q => (hq j hj).2 q.symm) hc
  have k12 : ∀ c, h.1[12]? = some c → h'.1[12]? = some c := fun c hc => kk 12 c (fun j hj q => (hq j hj).1 q.symm) hc
  refine ⟨h', hR, tb', tl', pb', pl', so', fr', to', n', sb, k, f, hs', mst_keep hm (fun i c i1 i2 hc => kr i c i1 (by omega) hc), ?_, ?_, ?_, kr 26 _ (by decide) (by decide) c26, by omega, by omega⟩
  · obtain ⟨q1, q2, q3, g, q4⟩ := hn
    exact ⟨k12 _ q1, q2, q3, g, ksb _ q4⟩
  · intro i hi
    simp only [List.mem_cons, List.not_mem_nil, or_false] at hi
    omega
  · intro i hi
    have big : ∀ j, h.1.length ≤ j → j ≠ 12 ∧ j ≠ sb := fun j hj => ⟨by omega, by omega⟩
    have two : ∀ j j', j ∈ [0, 1, 2, 4, 6, 10, 11, tb, pb, so, fr, to] → (j' = j ∨ h.1.length ≤ j') → j' ≠ 12 ∧ j' ≠ sb := by
      intro j j' hj hz
      rcases hz with z | z
      · rw [z]; exact hq j hj
      · exact big j' z
    simp only [List.mem_cons, List.not_mem_nil, or_false] at hi
    rcases hi with q | q | q | q | q | q | q | q | q | q | q | q
    · rw [q]; exact hq 0 (by simp)
    · rw [q]; exact hq 1 (by simp)
    · rw [q]; exact hq 2 (by simp)
    · rw [q]; exact hq 4 (by simp)
    · rw [q]; exact hq 6 (by simp)
    · rw [q]; exact hq 10 (by simp)
    · rw [q]; exact hq 11 (by simp)
    · rw [q]; exact two tb tb' (by simp) v3
    · rw [q]; exact two pb pb' (by simp) v4
    · rw [q]; exact two so so' (by simp) v5
    · rw [q]; exact two fr fr' (by simp) v6
    · rw [q]; exact two to to' (by simp) v7
theorem qlj_m {R : ai_H → Prop} (hl : qlj h B Q mx kd B2 Q2 kd2 mx2 J T C S) (hop : mst h B2 Q2 kd2 mx2 J T → ∃ h', R h' ∧ mst h' B' Q' kd' mx' J' T' ∧ mmv h h' ∧ (h'.2 = h.2 ∨ h'.2 = (h.2.1 + 1, h.2.2 + 6))) : ∃ h', R h' ∧ qlj h' B Q mx kd B' Q' kd' mx' J' T' (C + 64) (S + 6) := by
  obtain ⟨tb, tl, pb, pl, so, fr, to, n, sb, k, f, hs, hm, hn, ha, hq, c26, n1, n2⟩ := hl
  obtain ⟨h', hR, hm', hv, hc⟩ := hop hm
  have a1 := ha tb (by simp)
  have a2 := ha pb (by simp)
  have a3 := ha so (by simp)
  have a4 := ha fr (by simp)
  have a5 := ha to (by simp)
  have a6 := ha sb (by simp)
  refine ⟨h', hR, tb, tl, pb, pl, so, fr, to, n, sb, k, f, qst_keep2 hs (fun i c hi hc => hv i c ?_ hc), hm', ?_, ha, hq, hv 26 _ (Or.inr (by decide)) c26, ?_, ?_⟩
  · simp only [List.mem_cons, List.not_mem_nil, or_false] at hi
    omega
  · obtain ⟨q1, q2, q3, g, q4⟩ := hn
    exact ⟨hv 12 _ (Or.inl (by decide)) q1, q2, q3, g, hv sb _ (by omega) q4⟩
  · rcases hc with q | q
    · rw [q]; omega
    · rw [q]
      show 64 * (h.2.1 + 1) ≤ _
      omega
  · rcases hc with q | q
    · rw [q]; omega
    · rw [q]
      show h.2.2 + 6 ≤ _
      omega
theorem qlj_n {R : ai_H → Prop} (hl : qlj h B Q mx kd B2 Q2 kd2 mx2 J T C S) (hop : ∀ tb tl pb pl so fr to n sb k, qst h B Q mx kd tb tl pb pl so fr to n → qnc h sb k → qaw sb tb pb so fr to → ∃ h' sb' k', R h' ∧ qst h' B Q mx kd tb tl pb pl so fr to n ∧ qnc h' sb' k' ∧ qnv h sb k h' sb' k') : ∃ h', R h' ∧ qlj h' B Q mx kd B2 Q2 kd2 mx2 J T C S := by
  obtain ⟨tb, tl, pb, pl, so, fr, to, n, sb, k, f, hs, hm, hn, ha, hq, c26, n1, n2⟩ := hl
  obtain ⟨h', sb', k', hR, hs', hn', hv⟩ := hop _ _ _ _ _ _ _ _ _ _ hs hn hq
  have kp := qnv_keep hv
  obtain ⟨v1, v2, v3, v4, v5⟩ := hv
  have hl26 := q_lt c26
  have a6 := ha sb (by simp)
  have hlt : ∀ i, i ∈ [0, 1, 2, 4, 6, 10, 11, tb, pb, so, fr, to] → i < h.1.length := by
    obtain ⟨rc, b1, b2, b3, b4, l, fm, fs, ⟨f2, r1, r2, r3⟩, ⟨f4, p1, p2, p3⟩, ⟨gs, gf, gt, t1, t2, t3, t4, t5⟩, c1, c10, c11, c0, e1, e2, e3⟩ := hs
    intro i hi
    have x1 := q_lt r2
    have x2 := q_lt p2
    have x3 := q_lt t2
    have x4 := q_lt t3
    have x5 := q_lt t4
    simp only [List.mem_cons, List.not_mem_nil, or_false] at hi
    omega
  refine ⟨h', hR, tb, tl, pb, pl, so, fr, to, n, sb', k', f, hs', mst_keep hm (fun i c i1 i2 hc => kp i c (by omega) (by omega) hc), hn', ?_, ?_, kp 26 _ (by decide) (by omega) c26, by omega, by omega⟩
  · intro i hi
    have a1 := ha tb (by simp)
    have a2 := ha pb (by simp)
    have a3 := ha so (by simp)
    have a4 := ha fr (by simp)
    have a5 := ha to (by simp)
    simp only [List.mem_cons, List.not_mem_nil, or_false] at hi
    omega
  · intro i hi
    have h1 := hq i hi
    have h2 := hlt i hi
    omega
/-- the long that holds a letter -/
theorem qlj_26 {f : Nat → Int64} (hl : qlj h B Q mx kd B2 Q2 kd2 mx2 J T C S) : qlj (h.1.set 26 (ai_lng 1 f), h.2) B Q mx kd B2 Q2 kd2 mx2 J T C S := by
  obtain ⟨tb, tl, pb, pl, so, fr, to, n, sb, k, f0, hs, hm, hn, ha, hq, c26, n1, n2⟩ := hl
  have a1 := ha tb (by simp)
  have a2 := ha pb (by simp)
  have a3 := ha so (by simp)
  have a4 := ha fr (by simp)
  have a5 := ha to (by simp)
  have a6 := ha sb (by simp)
  refine ⟨tb, tl, pb, pl, so, fr, to, n, sb, k, f, qst_keep2 hs (fun i c hi hc => q_stay hc ?_), mst_keep hm (fun i c i1 i2 hc => q_stay hc (by omega)), ?_, ha, hq, q_set c26, n1, n2⟩
  · simp only [List.mem_cons, List.not_mem_nil, or_false] at hi
    omega
  · obtain ⟨q1, q2, q3, g, q4⟩ := hn
    exact ⟨q_stay q1 (by decide), q2, q3, g, q_stay q4 (by omega)⟩
theorem qlj_le {C' S' : Nat} (hl : qlj h B Q mx kd B2 Q2 kd2 mx2 J T C S) (h1 : C ≤ C') (h2 : S ≤ S') : qlj h B Q mx kd B2 Q2 kd2 mx2 J T C' S' := by
  obtain ⟨tb, tl, pb, pl, so, fr, to, n, sb, k, f0, hs, hm, hn, ha, hq, c26, n1, n2⟩ := hl
  exact ⟨tb, tl, pb, pl, so, fr, to, n, sb, k, f0, hs, hm, hn, ha, hq, c26, by omega, by omega⟩
/-- all that was ever used -/
theorem qlj_all (hl : qlj h B Q mx kd B2 Q2 kd2 mx2 J T C S) (h1 : C ≤ 6400 + 128 * 600) (h2 : S ≤ 700000 + 12 * 600) : h.2.1 ≤ 601024 ∧ h.2.2 ≤ 7293034 := by
  obtain ⟨tb, tl, pb, pl, so, fr, to, n, sb, k, f0, hs, hm, hn, ha, hq, c26, n1, n2⟩ := hl
  obtain ⟨rc, b1, b2, b3, b4, l, fm, fs, ⟨f2, r1, r2, r3, ⟨x, x1, x2⟩, r4⟩, ⟨f4, p1, p2, p3, ⟨y, y1, y2⟩, p4⟩, ⟨gs, gf, gt, t1, t2, t3, t4, t5, t6, ⟨z, z1, z2⟩, t7⟩, c1, c10, c11, c0, e1, e2, e3⟩ := hs
  have q1 := p2_le x1
  have q2 := p2_le y1
  have q3 := p2_le z1
  have q4 := p2_20 hn.2.2.1
  have q5 : 2 ^ 11 = 2048 := rfl
  omega
end LAX
