/-! THE LAW'S HELPERS. (Printed by wip/whole/pp.py from wip/whole/src.) -/
section LAW
variable {L : Nat} {xs : Nat → Int32} {d : Nat} {h h' : ai_H} {T Q B : List Int32} {J : List zJ} {mx kd dp tb tl pb pl so fr to n : Nat}
theorem qst_c0 (hs : qst h T Q mx kd tb tl pb pl so fr to n) : h.1[0]? = some (ai_obj 0 [.ref 1, .ref 2, .ref 4, .ref 12, .int (nI kd)]) := by
  obtain ⟨_, _, _, _, _, _, _, _, -, -, -, -, -, -, c0, -⟩ := hs
  exact c0
/-- the model's cells stay -/
theorem mst_keep (hs : mst h B Q kd dp J T) (hk : ∀ i c, 14 ≤ i → i ≤ 25 → h.1[i]? = some c → h'.1[i]? = some c) : mst h' B Q kd dp J T := by
  obtain ⟨cn, v1, v10, v14, v17, v18, v19, v20, v21, tb, ft, rf, bf, wr, wf, sn1, c14, ⟨gw, w1, w2⟩, c16, cB, c17, cT, ⟨f18, c18⟩, ⟨f19, c19⟩, ⟨f20, c20⟩, c21, c22, c23, c24, c25, ct, ci, cQ, cJ⟩ := hs
  refine ⟨cn, v1, v10, v14, v17, v18, v19, v20, v21, tb, ft, rf, bf, wr, wf, sn1, hk _ _ (by decide) (by decide) c14, ⟨gw, hk _ _ (by decide) (by decide) w1, w2⟩, hk _ _ (by decide) (by decide) c16, cB, hk _ _ (by decide) (by decide) c17, cT, ⟨f18, hk _ _ (by decide) (by decide) c18⟩, ⟨f19, hk _ _ (by decide) (by decide) c19⟩, ⟨f20, hk _ _ (by decide) (by decide) c20⟩, hk _ _ (by decide) (by decide) c21, hk _ _ (by decide) (by decide) c22, hk _ _ (by decide) (by decide) c23, hk _ _ (by decide) (by decide) c24, hk _ _ (by decide) (by decide) c25, fun hJ => ?_, ci, cQ, cJ⟩
  obtain ⟨f1, fk, fz, r1, r2, r3, r4⟩ := ct hJ
  exact ⟨f1, fk, fz, hk _ _ (by decide) (by decide) r1, hk _ _ (by decide) (by decide) r2, hk _ _ (by decide) (by decide) r3, r4⟩
/-- the class's cells stay -/
theorem qst_keep2 (hs : qst h T Q mx kd tb tl pb pl so fr to n) (kk : ∀ i c, i ∈ [0, 1, 2, 4, 6, 10, 11, tb, pb, so, fr, to] → h.1[i]? = some c → h'.1[i]? = some c) : qst h' T Q mx kd tb tl pb pl so fr to n := by
  obtain ⟨rc, a1, a2, a3, a4, l, fm, fs, ⟨f2, r1, r2, r3⟩, ⟨f4, p1, p2, p3⟩, ht, c1, c10, c11, c0, e1, e2, e3⟩ := hs
  refine ⟨rc, a1, a2, a3, a4, l, fm, fs, ⟨f2, kk _ _ (by simp) r1, kk _ _ (by simp) r2, r3⟩, ⟨f4, kk _ _ (by simp) p1, kk _ _ (by simp) p2, p3⟩, ?_, kk _ _ (by simp) c1, kk _ _ (by simp) c10, kk _ _ (by simp) c11, kk _ _ (by simp) c0, e1, e2, e3⟩
  obtain ⟨gs, gf, gt, t1, t2, t3, t4, t5⟩ := ht
  exact ⟨gs, gf, gt, kk _ _ (by simp) t1, kk _ _ (by simp) t2, kk _ _ (by simp) t3, kk _ _ (by simp) t4, t5⟩
/-! feed, end, letter: what is thrown is caught -/
theorem l_feedY (c0 : h.1[0]? = some (ai_obj 0 [.ref 1, .ref 2, .ref 4, .ref 12, .int (nI kd)])) {a b c dd e : Int32} (g : qe L xs (d + 5) 108 [.ref 0, .int a, .int b, .int c, .int dd, .int e] h (.inl none, h')) : qe L xs (d + 6) 107 [.ref 0, .int a, .int b, .int c, .int dd, .int e] h (.inl (some (.int 0)), h') := by
  refine qe_of (M := qm_107) rfl rfl ?_
  show qg L xs _ qm_107 0 [some (.ref 0), some (.int a), some (.int b), some (.int c), some (.int dd), some (.int e), none] [] h _
  refine qg_pls (n := 6) (k' := 6) (lo' := [some (.ref 0), some (.int a), some (.int b), some (.int c), some (.int dd), some (.int e), none]) (S' := [.int e, .int dd, .int c, .int b, .int a, .ref 0]) (h' := h) rfl ?_
  refine qg_call (v := none) (h' := h') (as := [.ref 0, .int a, .int b, .int c, .int dd, .int e]) rfl rfl rfl rfl rfl rfl rfl (ai_rcv1 rfl rfl c0) (g) ?_
  show qg L xs _ qm_107 7 [some (.ref 0), some (.int a), some (.int b), some (.int c), some (.int dd), some (.int e), none] [] h' _
  refine qg_pls (n := 2) (k' := 12) (lo' := [some (.ref 0), some (.int a), some (.int b), some (.int c), some (.int dd), some (.int e), none]) (S' := [.int 0]) (h' := h') rfl ?_
  exact qg_ret5 rfl rfl rfl
theorem l_feedN (c0 : h.1[0]? = some (ai_obj 0 [.ref 1, .ref 2, .ref 4, .ref 12, .int (nI kd)])) {a b c dd e : Int32} (g : qe L xs (d + 5) 108 [.ref 0, .int a, .int b, .int c, .int dd, .int e] h (.inr "java/lang/IllegalStateException", h')) : qe L xs (d + 6) 107 [.ref 0, .int a, .int b, .int c, .int dd, .int e] h (.inl (some (.int 1)), h') := by
  have k5 : qg L xs (d + 5) qm_107 8 [some (.ref 0), some (.int a), some (.int b), some (.int c), some (.int dd), some (.int e), none] [.float 0] h' (.inl (some (.int 1)), h') := by
    refine qg_pls (n := 2) (k' := 10) (lo' := [some (.ref 0), some (.int a), some (.int b), some (.int c), some (.int dd), some (.int e), some (.float 0)]) (S' := [.int 1]) (h' := h') rfl ?_
    exact qg_ret5 rfl rfl rfl
  refine qe_of (M := qm_107) rfl rfl ?_
  show qg L xs _ qm_107 0 [some (.ref 0), some (.int a), some (.int b), some (.int c), some (.int dd), some (.int e), none] [] h _
  refine qg_pls (n := 6) (k' := 6) (lo' := [some (.ref 0), some (.int a), some (.int b), some (.int c), some (.int dd), some (.int e), none]) (S' := [.int e, .int dd, .int c, .int b, .int a, .ref 0]) (h' := h) rfl ?_
  refine qg_callH rfl rfl rfl rfl rfl rfl rfl (ai_rcv1 rfl rfl c0) rfl g ?_
  exact k5
theorem l_endY (c0 : h.1[0]? = some (ai_obj 0 [.ref 1, .ref 2, .ref 4, .ref 12, .int (nI kd)])) {x : Int32} (g : qe L xs (d + 5) 111 [.ref 0, .int x] h (.inl none, h')) : qe L xs (d + 6) 110 [.ref 0, .int x] h (.inl (some (.int 0)), h') := by
  refine qe_of (M := qm_110) rfl rfl ?_
  show qg L xs _ qm_110 0 [some (.ref 0), some (.int x), none] [] h _
  refine qg_pls (n := 2) (k' := 2) (lo' := [some (.ref 0), some (.int x), none]) (S' := [.int x, .ref 0]) (h' := h) rfl ?_
  refine qg_call (v := none) (h' := h') (as := [.ref 0, .int x]) rfl rfl rfl rfl rfl rfl rfl (ai_rcv1 rfl rfl c0) (g) ?_
  show qg L xs _ qm_110 3 [some (.ref 0), some (.int x), none] [] h' _
  refine qg_pls (n := 2) (k' := 8) (lo' := [some (.ref 0), some (.int x), none]) (S' := [.int 0]) (h' := h') rfl ?_
  exact qg_ret5 rfl rfl rfl
theorem l_endN (c0 : h.1[0]? = some (ai_obj 0 [.ref 1, .ref 2, .ref 4, .ref 12, .int (nI kd)])) {x : Int32} (g : qe L xs (d + 5) 111 [.ref 0, .int x] h (.inr "java/lang/IllegalArgumentException", h')) : qe L xs (d + 6) 110 [.ref 0, .int x] h (.inl (some (.int 1)), h') := by
  have k5 : qg L xs (d + 5) qm_110 4 [some (.ref 0), some (.int x), none] [.float 0] h' (.inl (some (.int 1)), h') := by
    refine qg_pls (n := 2) (k' := 6) (lo' := [some (.ref 0), some (.int x), some (.float 0)]) (S' := [.int 1]) (h' := h') rfl ?_
    exact qg_ret5 rfl rfl rfl
  refine qe_of (M := qm_110) rfl rfl ?_
  show qg L xs _ qm_110 0 [some (.ref 0), some (.int x), none] [] h _
  refine qg_pls (n := 2) (k' := 2) (lo' := [some (.ref 0), some (.int x), none]) (S' := [.int x, .ref 0]) (h' := h) rfl ?_
  refine qg_callH rfl rfl rfl rfl rfl rfl rfl (ai_rcv1 rfl rfl c0) rfl g ?_
  exact k5
theorem l_letterN (c0 : h.1[0]? = some (ai_obj 0 [.ref 1, .ref 2, .ref 4, .ref 12, .int (nI kd)])) {x : Int32} (g : qe L xs (d + 5) 113 [.ref 0, .int x] h (.inr "java/lang/IndexOutOfBoundsException", h')) : qe L xs (d + 6) 112 [.ref 0, .int x, .ref 26] h (.inl (some (.int 1)), h') := by
  have k5 : qg L xs (d + 5) qm_112 8 [some (.ref 0), some (.int x), some (.ref 26), none] [.float 0] h' (.inl (some (.int 1)), h') := by
    refine qg_pls (n := 2) (k' := 10) (lo' := [some (.ref 0), some (.int x), some (.ref 26), some (.float 0)]) (S' := [.int 1]) (h' := h') rfl ?_
    exact qg_ret5 rfl rfl rfl
  refine qe_of (M := qm_112) rfl rfl ?_
  show qg L xs _ qm_112 0 [some (.ref 0), some (.int x), some (.ref 26), none] [] h _
  refine qg_pls (n := 4) (k' := 4) (lo' := [some (.ref 0), some (.int x), some (.ref 26), none]) (S' := [.int x, .ref 0, .int 0, .ref 26]) (h' := h) rfl ?_
  refine qg_callH rfl rfl rfl rfl rfl rfl rfl (ai_rcv1 rfl rfl c0) rfl g ?_
  exact k5
theorem l_letterY (c0 : h.1[0]? = some (ai_obj 0 [.ref 1, .ref 2, .ref 4, .ref 12, .int (nI kd)])) {f : Nat → Int64} (c26 : h.1[26]? = some (ai_lng 1 f)) {x r : Int32} (g : qe L xs (d + 5) 113 [.ref 0, .int x] h (.inl (some (.int r)), h)) : qe L xs (d + 6) 112 [.ref 0, .int x, .ref 26] h (.inl (some (.int 0)), (h.1.set 26 (ai_lng 1 (vp_updL f 0 r.toInt64)), h.2)) := by
  have k7 : qg L xs (d + 5) qm_112 7 [some (.ref 0), some (.int x), some (.ref 26), none] [] (h.1.set 26 (ai_lng 1 (vp_updL f 0 r.toInt64)), h.2) (.inl (some (.int 0)), (h.1.set 26 (ai_lng 1 (vp_updL f 0 r.toInt64)), h.2)) := by
    refine qg_pls (n := 2) (k' := 12) (lo' := [some (.ref 0), some (.int x), some (.ref 26), none]) (S' := [.int 0]) (h' := (h.1.set 26 (ai_lng 1 (vp_updL f 0 r.toInt64)), h.2)) rfl ?_
    exact qg_ret5 rfl rfl rfl
  refine qe_of (M := qm_112) rfl rfl ?_
  show qg L xs _ qm_112 0 [some (.ref 0), some (.int x), some (.ref 26), none] [] h _
  refine qg_pls (n := 4) (k' := 4) (lo' := [some (.ref 0), some (.int x), some (.ref 26), none]) (S' := [.int x, .ref 0, .int 0, .ref 26]) (h' := h) rfl ?_
  refine qg_call (v := some (.int r)) (h' := h) (as := [.ref 0, .int x]) rfl rfl rfl rfl rfl rfl rfl (ai_rcv1 rfl rfl c0) (g) ?_
  show qg L xs _ qm_112 5 [some (.ref 0), some (.int x), some (.ref 26), none] [.int r, .int 0, .ref 26] h _
  refine qg_eff (k' := 6) (t := 0) (lo' := [some (.ref 0), some (.int x), some (.ref 26), none]) (S' := [.long r.toInt64, .int 0, .ref 26]) (h' := h) rfl rfl rfl ?_
  refine qg_eff (k' := 7) (t := 0) (lo' := [some (.ref 0), some (.int x), some (.ref 26), none]) (S' := []) (h' := (h.1.set 26 (ai_lng 1 (vp_updL f 0 r.toInt64)), h.2)) rfl ?_ rfl k7
  simp only [ai_eff, ai_last, c26]
  rfl
end LAW
