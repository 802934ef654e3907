/-! THE MODEL: PARKING, KEEPING, WRAPPING, SETTLING. (Printed by wip/whole/pp.py from wip/whole/src.) -/
section MRW
variable {L : Nat} {xs : Nat → Int32} {d : Nat} {h h' : ai_H} {e : zE} {Y : Nat → Option ai_C} {K : mK} {W P : zK} {s s' : zS} {J : List zJ} {bg en md : Value} {rf bf wr wf : Nat → Int32} {o : ai_C}
/-- the cells that change while the model reads -/
def m5 (Y : Nat → Option ai_C) (h : ai_H) (o : ai_C) (rf bf wr wf : Nat → Int32) : Prop := h.1[14]? = some o ∧ h.1[21]? = some (ai_num .int 131072 rf) ∧ h.1[22]? = some (ai_num .int 131072 bf) ∧ h.1[23]? = some (ai_num .int 512 wr) ∧ h.1[24]? = some (ai_num .int 512 wf) ∧ (∀ i c, Y i = some c → h.1[i]? = some c) ∧ (Y 14 = none ∧ Y 21 = none ∧ Y 22 = none ∧ Y 23 = none ∧ Y 24 = none)
theorem m5_14 {o' : ai_C} (h5 : m5 Y h o rf bf wr wf) : m5 Y (h.1.set 14 (o'), h.2) o' rf bf wr wf := by
  obtain ⟨c1, c2, c3, c4, c5, c6, y14, y21, y22, y23, y24⟩ := h5
  exact ⟨q_set c1, q_stay c2 (by decide), q_stay c3 (by decide), q_stay c4 (by decide), q_stay c5 (by decide), fun i c hi => q_stay (c6 i c hi) (fun e => by rw [← e, y14] at hi; cases hi), y14, y21, y22, y23, y24⟩
theorem m5_21 {f : Nat → Int32} (h5 : m5 Y h o rf bf wr wf) : m5 Y (h.1.set 21 (ai_num .int 131072 f), h.2) o f bf wr wf := by
  obtain ⟨c1, c2, c3, c4, c5, c6, y14, y21, y22, y23, y24⟩ := h5
  exact ⟨q_stay c1 (by decide), q_set c2, q_stay c3 (by decide), q_stay c4 (by decide), q_stay c5 (by decide), fun i c hi => q_stay (c6 i c hi) (fun e => by rw [← e, y21] at hi; cases hi), y14, y21, y22, y23, y24⟩
theorem m5_22 {f : Nat → Int32} (h5 : m5 Y h o rf bf wr wf) : m5 Y (h.1.set 22 (ai_num .int 131072 f), h.2) o rf f wr wf := by
  obtain ⟨c1, c2, c3, c4, c5, c6, y14, y21, y22, y23, y24⟩ := h5
  exact ⟨q_stay c1 (by decide), q_stay c2 (by decide), q_set c3, q_stay c4 (by decide), q_stay c5 (by decide), fun i c hi => q_stay (c6 i c hi) (fun e => by rw [← e, y22] at hi; cases hi), y14, y21, y22, y23, y24⟩
theorem m5_23 {f : Nat → Int32} (h5 : m5 Y h o rf bf wr wf) : m5 Y (h.1.set 23 (ai_num .int 512 f), h.2) o rf bf f wf := by
  obtain ⟨c1, c2, c3, c4, c5, c6, y14, y21, y22, y23, y24⟩ := h5
  exact ⟨q_stay c1 (by decide), q_stay c2 (by decide), q_stay c3 (by decide), q_set c4, q_stay c5 (by decide), fun i c hi => q_stay (c6 i c hi) (fun e => by rw [← e, y23] at hi; cases hi), y14, y21, y22, y23, y24⟩
theorem m5_24 {f : Nat → Int32} (h5 : m5 Y h o rf bf wr wf) : m5 Y (h.1.set 24 (ai_num .int 512 f), h.2) o rf bf wr f := by
  obtain ⟨c1, c2, c3, c4, c5, c6, y14, y21, y22, y23, y24⟩ := h5
  exact ⟨q_stay c1 (by decide), q_stay c2 (by decide), q_stay c3 (by decide), q_stay c4 (by decide), q_set c5, fun i c hi => q_stay (c6 i c hi) (fun e => by rw [← e, y24] at hi; cases hi), y14, y21, y22, y23, y24⟩
/-- where the operators that wait stand -/
def mww (W : zK) (J : List zJ) (wr wf : Nat → Int32) : Prop := ∀ i q, W.reverse[i]? = some q → wr i = nI q.2 ∧ q.2 ≤ 9 ∧ ∃ k, k < J.length ∧ wf i = nI k ∧ jo J k = q.1
def mrest (e : zE) (K : mK) (W : zK) (s : zS) (J : List zJ) : Prop := ((∀ u ∈ K.2.2.1, ∃ k, k < J.length ∧ jo J k = u) ∧ ∀ m ∈ K.2.2.2.2.2, m.2 ≤ J.length ∧ jo J m.2 = m.1) ∧ (s.1 < e.1.length ∧ s.2.1 ≤ 40 ∧ s.2.2.1 ≤ 40 ∧ s.2.2.2.1 = W.length ∧ W.length ≤ 300) ∧ (J.length + K.2.1 ≤ 2 * zfr e s.1 ∧ jsum J + K.1 ≤ zfr e s.1 ∧ K.2.2.1.length ≤ 95) ∧ (∀ a, J[J.length - 1]? = some a → a.2.2.2 + W.length + K.2.2.1.length ≤ 400)
theorem mcs0_5 (hc : mcs0 e Y K W s h J bg en md) : ∃ rf bf wr wf, m5 Y h (mobj K.2.2.2.1 s.1 J.length s.2.1 s.2.2.1 bg en md W.length) rf bf wr wf ∧ s.2.2.2.2 = jr J ∧ mjv e (W.map Prod.fst ++ K.2.2.1) J rf bf ∧ mww W J wr wf ∧ mrest e K W s J ∧ h.2 = K.2.2.2.2.1 := by
  obtain ⟨rf, bf, wr, wf, c1, c2, c3, c4, c5, c6, c7, c8, cu, c9, c10, c11, c12, c13, c14⟩ := hc
  exact ⟨rf, bf, wr, wf, ⟨c1, c2, c3, c4, c5, c12, c13⟩, c6, c7, c8, ⟨cu, c9, c10, c11⟩, c14⟩
theorem mcs0_of (h5 : m5 Y h (mobj K.2.2.2.1 s.1 J.length s.2.1 s.2.2.1 bg en md W.length) rf bf wr wf) (c6 : s.2.2.2.2 = jr J) (c7 : mjv e (W.map Prod.fst ++ K.2.2.1) J rf bf) (c8 : mww W J wr wf) (cr : mrest e K W s J) (c14 : h.2 = K.2.2.2.2.1) : mcs0 e Y K W s h J bg en md := by
  obtain ⟨c1, c2, c3, c4, c5, c12, c13⟩ := h5
  obtain ⟨cu, c9, c10, c11⟩ := cr
  exact ⟨rf, bf, wr, wf, c1, c2, c3, c4, c5, c6, c7, c8, cu, c9, c10, c11, c12, c13, c14⟩
theorem mww_push {J' : List zJ} {p r k0 : Nat} (c8 : mww W J wr wf) (hk : ∀ k, k < J.length → (∃ q ∈ W, jo J k = q.1) → k < J'.length ∧ jo J' k = jo J k) (h0 : k0 < J'.length ∧ jo J' k0 = p) (hr : r ≤ 9) : mww ((p, r) :: W) J' (upd wr W.length (nI r)) (upd wf W.length (nI k0)) := by
  intro i q hq
  rw [List.reverse_cons] at hq
  rcases Nat.lt_or_ge i W.length with hi | hi
  · rw [List.getElem?_append_left (by rw [List.length_reverse]; exact hi)] at hq
    obtain ⟨w1, w2, k, k1, k2, k3⟩ := c8 i q hq
    have hm : q ∈ W := List.mem_reverse.mp (List.mem_of_getElem? hq)
    obtain ⟨x1, x2⟩ := hk k k1 ⟨q, hm, k3⟩
    unfold upd
    rw [if_neg (by omega), if_neg (by omega)]
    exact ⟨w1, w2, k, x1, k2, by rw [x2]; exact k3⟩
  · have h2 : i = W.length := by
      have := (List.getElem?_eq_some_iff.mp hq).1
      rw [List.length_append, List.length_reverse] at this
      simp only [List.length_cons, List.length_nil] at this
      omega
    subst h2
    rw [List.getElem?_append_right (by rw [List.length_reverse]; exact Nat.le_refl _), List.length_reverse, Nat.sub_self] at hq
    cases hq
    unfold upd
    rw [if_pos rfl, if_pos rfl]
    exact ⟨rfl, hr, k0, h0.1, rfl, h0.2⟩
theorem mww_same {J' : List zJ} (c8 : mww W J wr wf) (hk : ∀ k, k < J.length → (∃ q ∈ W, jo J k = q.1) → k < J'.length ∧ jo J' k = jo J k) : mww W J' wr wf := by
  intro i q hq
  obtain ⟨w1, w2, k, k1, k2, k3⟩ := c8 i q hq
  have hm : q ∈ W := List.mem_reverse.mp (List.mem_of_getElem? hq)
  obtain ⟨x1, x2⟩ := hk k k1 ⟨q, hm, k3⟩
  exact ⟨w1, w2, k, x1, k2, by rw [x2]; exact k3⟩
theorem mww_pop {q : Nat × Nat} (c8 : mww (q :: W) J wr wf) : mww W J wr wf ∧ wr W.length = nI q.2 ∧ q.2 ≤ 9 ∧ ∃ k, k < J.length ∧ wf W.length = nI k ∧ jo J k = q.1 := by
  constructor
  · intro i p hp
    refine c8 i p ?_
    rw [List.reverse_cons, List.getElem?_append_left (List.getElem?_eq_some_iff.mp hp).1]
    exact hp
  · refine c8 W.length q ?_
    rw [List.reverse_cons, List.getElem?_append_right (by rw [List.length_reverse]; exact Nat.le_refl _), List.length_reverse, Nat.sub_self]
    rfl
theorem mww_mem (c8 : mww W J wr wf) : ∀ q ∈ W, ∃ k, k < J.length ∧ jo J k = q.1 := by
  intro q hq
  obtain ⟨i, -, -, k, k1, -, k2⟩ := rev_mem c8 q hq
  exact ⟨k, k1, k2⟩
/-- QueryReaderModel.park -/
theorem m_parkR {kept wt r k : Nat} (h5 : m5 Y h (mobj K.2.2.2.1 s.1 kept s.2.1 s.2.2.1 bg en md wt) rf bf wr wf) (hw : wt < 512) : ∃ h', qe L xs (d + 1) 143 [.ref 14, .int (nI r), .int (nI k)] h (.inl none, h') ∧ m5 Y h' (mobj K.2.2.2.1 s.1 kept s.2.1 s.2.2.1 bg en md (wt + 1)) rf bf (upd wr wt (nI r)) (upd wf wt (nI k)) ∧ h'.2 = h.2 := by
  have a5 := m5_23 (f := upd wr wt (nI r)) h5
  have b5 := m5_24 (f := upd wf wt (nI k)) a5
  refine ⟨_, ?_, m5_14 (o' := mobj K.2.2.2.1 s.1 kept s.2.1 s.2.2.1 bg en md (wt + 1)) b5, rfl⟩
  refine qe_of (M := qm_143) rfl rfl ?_
  show qg L xs _ qm_143 0 [some (.ref 14), some (.int (nI r)), some (.int (nI k))] [] h _
  refine qg_pls (n := 1) (k' := 1) (lo' := [some (.ref 14), some (.int (nI r)), some (.int (nI k))]) (S' := [.ref 14]) (h' := h) rfl ?_
  refine qg_getf (v := .ref 23) rfl h5.1 rfl rfl rfl ?_
  refine qg_pls (n := 1) (k' := 3) (lo' := [some (.ref 14), some (.int (nI r)), some (.int (nI k))]) (S' := [.ref 14, .ref 23]) (h' := h) rfl ?_
  refine qg_getf (v := .int (nI wt)) rfl h5.1 rfl rfl rfl ?_
  refine qg_pls (n := 1) (k' := 5) (lo' := [some (.ref 14), some (.int (nI r)), some (.int (nI k))]) (S' := [.int (nI r), .int (nI wt), .ref 23]) (h' := h) rfl ?_
  refine qg_ast rfl (fun _ _ _ => rfl) h5.2.2.2.1 (hw) (by decide) ?_
  show qg L xs _ qm_143 6 [some (.ref 14), some (.int (nI r)), some (.int (nI k))] [] (h.1.set 23 (ai_num .int 512 (upd wr wt (nI r))), h.2) _
  refine qg_pls (n := 1) (k' := 7) (lo' := [some (.ref 14), some (.int (nI r)), some (.int (nI k))]) (S' := [.ref 14]) (h' := (h.1.set 23 (ai_num .int 512 (upd wr wt (nI r))), h.2)) rfl ?_
  refine qg_getf (v := .ref 24) rfl a5.1 rfl rfl rfl ?_
  refine qg_pls (n := 1) (k' := 9) (lo' := [some (.ref 14), some (.int (nI r)), some (.int (nI k))]) (S' := [.ref 14, .ref 24]) (h' := (h.1.set 23 (ai_num .int 512 (upd wr wt (nI r))), h.2)) rfl ?_
  refine qg_getf (v := .int (nI wt)) rfl a5.1 rfl rfl rfl ?_
  refine qg_pls (n := 1) (k' := 11) (lo' := [some (.ref 14), some (.int (nI r)), some (.int (nI k))]) (S' := [.int (nI k), .int (nI wt), .ref 24]) (h' := (h.1.set 23 (ai_num .int 512 (upd wr wt (nI r))), h.2)) rfl ?_
  refine qg_ast rfl (fun _ _ _ => rfl) a5.2.2.2.2.1 (hw) (by decide) ?_
  show qg L xs _ qm_143 12 [some (.ref 14), some (.int (nI r)), some (.int (nI k))] [] ((h.1.set 23 (ai_num .int 512 (upd wr wt (nI r)))).set 24 (ai_num .int 512 (upd wf wt (nI k))), h.2) _
  refine qg_pls (n := 2) (k' := 14) (lo' := [some (.ref 14), some (.int (nI r)), some (.int (nI k))]) (S' := [.ref 14, .ref 14]) (h' := ((h.1.set 23 (ai_num .int 512 (upd wr wt (nI r)))).set 24 (ai_num .int 512 (upd wf wt (nI k))), h.2)) rfl ?_
  refine qg_getf (v := .int (nI wt)) rfl b5.1 rfl rfl rfl ?_
  refine qg_pls (n := 2) (k' := 17) (lo' := [some (.ref 14), some (.int (nI r)), some (.int (nI k))]) (S' := [.int ((nI wt) + 1), .ref 14]) (h' := ((h.1.set 23 (ai_num .int 512 (upd wr wt (nI r)))).set 24 (ai_num .int 512 (upd wf wt (nI k))), h.2)) rfl ?_
  rw [show nI wt + 1 = nI (wt + 1) from nI_1 _]
  refine qg_putf rfl b5.1 rfl rfl (Nat.le_of_ble_eq_true rfl) rfl ?_
  exact qg_ret7 rfl
/-- QueryReaderModel.keep -/
theorem m_keepR {kept wt : Nat} (h5 : m5 Y h (mobj K.2.2.2.1 s.1 kept s.2.1 s.2.2.1 bg en md wt) rf bf wr wf) (hk : kept < 131072) : ∃ h', qe L xs (d + 1) 136 [.ref 14] h (.inl none, h') ∧ m5 Y h' (mobj K.2.2.2.1 (s.1 + 1) (kept + 1) s.2.1 s.2.2.1 bg en md wt) (upd rf kept (nI s.1)) (upd bf kept 0) wr wf ∧ h'.2 = h.2 := by
  have a5 := m5_21 (f := upd rf kept (nI s.1)) h5
  have b5 := m5_22 (f := upd bf kept 0) a5
  refine ⟨_, ?_, m5_14 (o' := mobj K.2.2.2.1 (s.1 + 1) (kept + 1) s.2.1 s.2.2.1 bg en md wt) b5, rfl⟩
  refine qe_of (M := qm_136) rfl rfl ?_
  show qg L xs _ qm_136 0 [some (.ref 14)] [] h _
  refine qg_pls (n := 1) (k' := 1) (lo' := [some (.ref 14)]) (S' := [.ref 14]) (h' := h) rfl ?_
  refine qg_getf (v := .ref 21) rfl h5.1 rfl rfl rfl ?_
  refine qg_pls (n := 1) (k' := 3) (lo' := [some (.ref 14)]) (S' := [.ref 14, .ref 21]) (h' := h) rfl ?_
  refine qg_getf (v := .int (nI kept)) rfl h5.1 rfl rfl rfl ?_
  refine qg_pls (n := 1) (k' := 5) (lo' := [some (.ref 14)]) (S' := [.ref 14, .int (nI kept), .ref 21]) (h' := h) rfl ?_
  refine qg_getf (v := .int (nI s.1)) rfl h5.1 rfl rfl rfl ?_
  refine qg_ast rfl (fun _ _ _ => rfl) h5.2.1 (hk) (by decide) ?_
  show qg L xs _ qm_136 7 [some (.ref 14)] [] (h.1.set 21 (ai_num .int 131072 (upd rf kept (nI s.1))), h.2) _
  refine qg_pls (n := 1) (k' := 8) (lo' := [some (.ref 14)]) (S' := [.ref 14]) (h' := (h.1.set 21 (ai_num .int 131072 (upd rf kept (nI s.1))), h.2)) rfl ?_
  refine qg_getf (v := .ref 22) rfl a5.1 rfl rfl rfl ?_
  refine qg_pls (n := 1) (k' := 10) (lo' := [some (.ref 14)]) (S' := [.ref 14, .ref 22]) (h' := (h.1.set 21 (ai_num .int 131072 (upd rf kept (nI s.1))), h.2)) rfl ?_
  refine qg_getf (v := .int (nI kept)) rfl a5.1 rfl rfl rfl ?_
  refine qg_pls (n := 1) (k' := 12) (lo' := [some (.ref 14)]) (S' := [.int 0, .int (nI kept), .ref 22]) (h' := (h.1.set 21 (ai_num .int 131072 (upd rf kept (nI s.1))), h.2)) rfl ?_
  refine qg_ast rfl (fun _ _ _ => rfl) a5.2.2.1 (hk) (by decide) ?_
  show qg L xs _ qm_136 13 [some (.ref 14)] [] ((h.1.set 21 (ai_num .int 131072 (upd rf kept (nI s.1)))).set 22 (ai_num .int 131072 (upd bf kept 0)), h.2) _
  refine qg_pls (n := 2) (k' := 15) (lo' := [some (.ref 14)]) (S' := [.ref 14, .ref 14]) (h' := ((h.1.set 21 (ai_num .int 131072 (upd rf kept (nI s.1)))).set 22 (ai_num .int 131072 (upd bf kept 0)), h.2)) rfl ?_
  refine qg_getf (v := .int (nI kept)) rfl b5.1 rfl rfl rfl ?_
  refine qg_pls (n := 2) (k' := 18) (lo' := [some (.ref 14)]) (S' := [.int ((nI kept) + 1), .ref 14]) (h' := ((h.1.set 21 (ai_num .int 131072 (upd rf kept (nI s.1)))).set 22 (ai_num .int 131072 (upd bf kept 0)), h.2)) rfl ?_
  rw [show nI kept + 1 = nI (kept + 1) from nI_1 _]
  refine qg_putf rfl b5.1 rfl rfl (Nat.le_of_ble_eq_true rfl) rfl ?_
  refine qg_pls (n := 2) (k' := 21) (lo' := [some (.ref 14)]) (S' := [.ref 14, .ref 14]) (h' := (((h.1.set 21 (ai_num .int 131072 (upd rf kept (nI s.1)))).set 22 (ai_num .int 131072 (upd bf kept 0))).set 14 (ai_obj 5 [.ref 15, K.2.2.2.1.1, .ref 16, K.2.2.2.1.2.1, .ref 17, K.2.2.2.1.2.2.1, K.2.2.2.1.2.2.2.1, .ref 18, .ref 19, .ref 20, .int (nI s.1), .int (nI (kept + 1)), .ref 21, .ref 22, .int (nI s.2.1), .int (nI s.2.2.1), K.2.2.2.1.2.2.2.2.1, K.2.2.2.1.2.2.2.2.2, bg, en, md, .int (nI wt), .ref 23, .ref 24, .ref 25]), h.2)) rfl ?_
  refine qg_getf (v := .int (nI s.1)) rfl (q_set b5.1) rfl rfl rfl ?_
  refine qg_pls (n := 2) (k' := 24) (lo' := [some (.ref 14)]) (S' := [.int ((nI s.1) + 1), .ref 14]) (h' := (((h.1.set 21 (ai_num .int 131072 (upd rf kept (nI s.1)))).set 22 (ai_num .int 131072 (upd bf kept 0))).set 14 (ai_obj 5 [.ref 15, K.2.2.2.1.1, .ref 16, K.2.2.2.1.2.1, .ref 17, K.2.2.2.1.2.2.1, K.2.2.2.1.2.2.2.1, .ref 18, .ref 19, .ref 20, .int (nI s.1), .int (nI (kept + 1)), .ref 21, .ref 22, .int (nI s.2.1), .int (nI s.2.2.1), K.2.2.2.1.2.2.2.2.1, K.2.2.2.1.2.2.2.2.2, bg, en, md, .int (nI wt), .ref 23, .ref 24, .ref 25]), h.2)) rfl ?_
  rw [show nI s.1 + 1 = nI (s.1 + 1) from nI_1 _]
  refine qg_putf rfl (q_set b5.1) rfl rfl (Nat.le_of_ble_eq_true rfl) rfl ?_
  rw [List.set_set]
  exact qg_ret7 rfl
/-- QueryReaderModel.wrap -/
theorem m_wrapR {kept wt r k : Nat} (h5 : m5 Y h (mobj K.2.2.2.1 s.1 kept s.2.1 s.2.2.1 bg en md wt) rf bf wr wf) (hk : k < 131072) (h0 : 0 < kept) (h1 : kept ≤ 131072) : ∃ h', qe L xs (d + 1) 159 [.ref 14, .int (nI k), .int (nI r)] h (.inl none, h') ∧ m5 Y h' (mobj K.2.2.2.1 s.1 kept s.2.1 s.2.2.1 (.int (nI k)) (.int (nI (kept - 1))) (.int (nI r)) wt) rf (upd (upd bf k (bf k + 1)) (kept - 1) (upd bf k (bf k + 1) (kept - 1) + 65536)) wr wf ∧ h'.2 = h.2 := by
  have a5 := m5_14 (o' := mobj K.2.2.2.1 s.1 kept s.2.1 s.2.2.1 (.int (nI k)) (.int (nI (kept - 1))) (.int (nI r)) wt) h5
  have b5 := m5_22 (f := upd bf k (bf k + 1)) a5
  have c5 := m5_22 (f := upd (upd bf k (bf k + 1)) (kept - 1) (upd bf k (bf k + 1) (kept - 1) + 65536)) b5
  refine ⟨_, ?_, c5, rfl⟩
  refine qe_of (M := qm_159) rfl rfl ?_
  show qg L xs _ qm_159 0 [some (.ref 14), some (.int (nI k)), some (.int (nI r))] [] h _
  refine qg_pls (n := 2) (k' := 2) (lo' := [some (.ref 14), some (.int (nI k)), some (.int (nI r))]) (S' := [.int (nI k), .ref 14]) (h' := h) rfl ?_
  refine qg_putf rfl h5.1 rfl rfl (Nat.le_of_ble_eq_true rfl) rfl ?_
  refine qg_pls (n := 2) (k' := 5) (lo' := [some (.ref 14), some (.int (nI k)), some (.int (nI r))]) (S' := [.ref 14, .ref 14]) (h' := (h.1.set 14 (ai_obj 5 [.ref 15, K.2.2.2.1.1, .ref 16, K.2.2.2.1.2.1, .ref 17, K.2.2.2.1.2.2.1, K.2.2.2.1.2.2.2.1, .ref 18, .ref 19, .ref 20, .int (nI s.1), .int (nI kept), .ref 21, .ref 22, .int (nI s.2.1), .int (nI s.2.2.1), K.2.2.2.1.2.2.2.2.1, K.2.2.2.1.2.2.2.2.2, .int (nI k), en, md, .int (nI wt), .ref 23, .ref 24, .ref 25]), h.2)) rfl ?_
  refine qg_getf (v := .int (nI kept)) rfl (q_set h5.1) rfl rfl rfl ?_
  refine qg_pls (n := 2) (k' := 8) (lo' := [some (.ref 14), some (.int (nI k)), some (.int (nI r))]) (S' := [.int ((nI kept) - 1), .ref 14]) (h' := (h.1.set 14 (ai_obj 5 [.ref 15, K.2.2.2.1.1, .ref 16, K.2.2.2.1.2.1, .ref 17, K.2.2.2.1.2.2.1, K.2.2.2.1.2.2.2.1, .ref 18, .ref 19, .ref 20, .int (nI s.1), .int (nI kept), .ref 21, .ref 22, .int (nI s.2.1), .int (nI s.2.2.1), K.2.2.2.1.2.2.2.2.1, K.2.2.2.1.2.2.2.2.2, .int (nI k), en, md, .int (nI wt), .ref 23, .ref 24, .ref 25]), h.2)) rfl ?_
  rw [show nI kept - 1 = nI (kept - 1) from nI_sub (b := 1) h0]
  refine qg_putf rfl (q_set h5.1) rfl rfl (Nat.le_of_ble_eq_true rfl) rfl ?_
  refine qg_pls (n := 2) (k' := 11) (lo' := [some (.ref 14), some (.int (nI k)), some (.int (nI r))]) (S' := [.int (nI r), .ref 14]) (h' := ((h.1.set 14 (ai_obj 5 [.ref 15, K.2.2.2.1.1, .ref 16, K.2.2.2.1.2.1, .ref 17, K.2.2.2.1.2.2.1, K.2.2.2.1.2.2.2.1, .ref 18, .ref 19, .ref 20, .int (nI s.1), .int (nI kept), .ref 21, .ref 22, .int (nI s.2.1), .int (nI s.2.2.1), K.2.2.2.1.2.2.2.2.1, K.2.2.2.1.2.2.2.2.2, .int (nI k), en, md, .int (nI wt), .ref 23, .ref 24, .ref 25])).set 14 (ai_obj 5 [.ref 15, K.2.2.2.1.1, .ref 16, K.2.2.2.1.2.1, .ref 17, K.2.2.2.1.2.2.1, K.2.2.2.1.2.2.2.1, .ref 18, .ref 19, .ref 20, .int (nI s.1), .int (nI kept), .ref 21, .ref 22, .int (nI s.2.1), .int (nI s.2.2.1), K.2.2.2.1.2.2.2.2.1, K.2.2.2.1.2.2.2.2.2, .int (nI k), .int (nI (kept - 1)), md, .int (nI wt), .ref 23, .ref 24, .ref 25]), h.2)) rfl ?_
  refine qg_putf rfl (q_set (q_set h5.1)) rfl rfl (Nat.le_of_ble_eq_true rfl) rfl ?_
  rw [List.set_set, List.set_set]
  show qg L xs _ qm_159 12 [some (.ref 14), some (.int (nI k)), some (.int (nI r))] [] (h.1.set 14 (mobj K.2.2.2.1 s.1 kept s.2.1 s.2.2.1 (.int (nI k)) (.int (nI (kept - 1))) (.int (nI r)) wt), h.2) _
  refine qg_pls (n := 1) (k' := 13) (lo' := [some (.ref 14), some (.int (nI k)), some (.int (nI r))]) (S' := [.ref 14]) (h' := (h.1.set 14 (mobj K.2.2.2.1 s.1 kept s.2.1 s.2.2.1 (.int (nI k)) (.int (nI (kept - 1))) (.int (nI r)) wt), h.2)) rfl ?_
  refine qg_getf (v := .ref 22) rfl a5.1 rfl rfl rfl ?_
  refine qg_pls (n := 1) (k' := 15) (lo' := [some (.ref 14), some (.int (nI k)), some (.int (nI r))]) (S' := [.ref 14, .ref 22]) (h' := (h.1.set 14 (mobj K.2.2.2.1 s.1 kept s.2.1 s.2.2.1 (.int (nI k)) (.int (nI (kept - 1))) (.int (nI r)) wt), h.2)) rfl ?_
  refine qg_getf (v := .int (nI k)) rfl a5.1 rfl rfl rfl ?_
  refine qg_pls (n := 1) (k' := 17) (lo' := [some (.ref 14), some (.int (nI k)), some (.int (nI r))]) (S' := [.int (nI k), .ref 22, .int (nI k), .ref 22]) (h' := (h.1.set 14 (mobj K.2.2.2.1 s.1 kept s.2.1 s.2.2.1 (.int (nI k)) (.int (nI (kept - 1))) (.int (nI r)) wt), h.2)) rfl ?_
  refine qg_ald rfl (fun _ _ _ => rfl) a5.2.2.1 (hk) (by decide) ?_
  refine qg_pls (n := 2) (k' := 20) (lo' := [some (.ref 14), some (.int (nI k)), some (.int (nI r))]) (S' := [.int ((bf k) + 1), .int (nI k), .ref 22]) (h' := (h.1.set 14 (mobj K.2.2.2.1 s.1 kept s.2.1 s.2.2.1 (.int (nI k)) (.int (nI (kept - 1))) (.int (nI r)) wt), h.2)) rfl ?_
  refine qg_ast rfl (fun _ _ _ => rfl) a5.2.2.1 (hk) (by decide) ?_
  show qg L xs _ qm_159 21 [some (.ref 14), some (.int (nI k)), some (.int (nI r))] [] ((h.1.set 14 (mobj K.2.2.2.1 s.1 kept s.2.1 s.2.2.1 (.int (nI k)) (.int (nI (kept - 1))) (.int (nI r)) wt)).set 22 (ai_num .int 131072 (upd bf k (bf k + 1))), h.2) _
  refine qg_pls (n := 1) (k' := 22) (lo' := [some (.ref 14), some (.int (nI k)), some (.int (nI r))]) (S' := [.ref 14]) (h' := ((h.1.set 14 (mobj K.2.2.2.1 s.1 kept s.2.1 s.2.2.1 (.int (nI k)) (.int (nI (kept - 1))) (.int (nI r)) wt)).set 22 (ai_num .int 131072 (upd bf k (bf k + 1))), h.2)) rfl ?_
  refine qg_getf (v := .ref 22) rfl b5.1 rfl rfl rfl ?_
  refine qg_pls (n := 1) (k' := 24) (lo' := [some (.ref 14), some (.int (nI k)), some (.int (nI r))]) (S' := [.ref 14, .ref 22]) (h' := ((h.1.set 14 (mobj K.2.2.2.1 s.1 kept s.2.1 s.2.2.1 (.int (nI k)) (.int (nI (kept - 1))) (.int (nI r)) wt)).set 22 (ai_num .int 131072 (upd bf k (bf k + 1))), h.2)) rfl ?_
  refine qg_getf (v := .int (nI (kept - 1))) rfl b5.1 rfl rfl rfl ?_
  refine qg_pls (n := 1) (k' := 26) (lo' := [some (.ref 14), some (.int (nI k)), some (.int (nI r))]) (S' := [.int (nI (kept - 1)), .ref 22, .int (nI (kept - 1)), .ref 22]) (h' := ((h.1.set 14 (mobj K.2.2.2.1 s.1 kept s.2.1 s.2.2.1 (.int (nI k)) (.int (nI (kept - 1))) (.int (nI r)) wt)).set 22 (ai_num .int 131072 (upd bf k (bf k + 1))), h.2)) rfl ?_
  refine qg_ald rfl (fun _ _ _ => rfl) b5.2.2.1 (by omega) (by decide) ?_
  refine qg_pls (n := 2) (k' := 29) (lo' := [some (.ref 14), some (.int (nI k)), some (.int (nI r))]) (S' := [.int ((upd bf k (bf k + 1) (kept - 1)) + 65536), .int (nI (kept - 1)), .ref 22]) (h' := ((h.1.set 14 (mobj K.2.2.2.1 s.1 kept s.2.1 s.2.2.1 (.int (nI k)) (.int (nI (kept - 1))) (.int (nI r)) wt)).set 22 (ai_num .int 131072 (upd bf k (bf k + 1))), h.2)) rfl ?_
  refine qg_ast rfl (fun _ _ _ => rfl) b5.2.2.1 (by omega) (by decide) ?_
  exact qg_ret7 rfl
end MRW
