/-! THE MODEL: THE STEPS OF AN EXPRESSION. (Printed by wip/whole/pp.py from wip/whole/src.) -/
section MST
variable {L : Nat} {xs : Nat → Int32} {d : Nat} {h h' : ai_H} {e : zE} {Y : Nat → Option ai_C} {K : mK} {W P : zK} {s s' : zS} {J : List zJ} {bg en md : Value}
theorem zt_op : zt 1005 = [40] := by decide
theorem zt_cl : zt 1008 = [41] := by decide
/-- all places that are known lie at or before p -/
def mle (K : mK) (W : zK) (p : Nat) : Prop := (∀ q ∈ W, q.1 ≤ p) ∧ (∀ u ∈ K.2.2.1, u ≤ p) ∧ ∀ m ∈ K.2.2.2.2.2, m.1 ≤ p
theorem jo_inv {i k : Nat} (hi : i ≤ J.length) (hk : k < J.length) (h : jo J i ≤ jo J k) : i ≤ k := by
  rcases Nat.lt_or_ge k i with q | q
  · have := jo_lt (J := J) q hi; omega
  · exact q
theorem jr_addn (J : List zJ) (c : Int32) (t : List Int32) (n : Nat) : jr (J ++ [(c, t, n, 0)]) = jr J ++ jb 40 n ++ t ++ [32] := by
  rw [jr_app, jr_one]
  show jr J ++ (jb 40 n ++ t ++ [32] ++ []) = _
  simp
theorem mcs0_lt (hc : mcs0 e Y K W s h J bg en md) : mle K W s.2.2.2.2.length ∧ ∀ x ∈ W.map Prod.fst ++ K.2.2.1, x < s.2.2.2.2.length := by
  obtain ⟨rf, bf, wr, wf, h5, c6, c7, c8, ⟨⟨cu, cv⟩, c9, c10, c11⟩, c14⟩ := mcs0_5 hc
  have key : ∀ k, k < J.length → jo J k < s.2.2.2.2.length := by
    intro k hk
    rw [c6, ← jo_len]
    exact jo_lt hk (Nat.le_refl _)
  have a1 : ∀ q ∈ W, q.1 < s.2.2.2.2.length := fun q hq => by
    obtain ⟨k, k1, k2⟩ := mww_mem c8 q hq
    rw [← k2]; exact key k k1
  have a2 : ∀ u ∈ K.2.2.1, u < s.2.2.2.2.length := fun u hu => by
    obtain ⟨k, k1, k2⟩ := cu u hu
    rw [← k2]; exact key k k1
  refine ⟨⟨fun q hq => Nat.le_of_lt (a1 q hq), fun u hu => Nat.le_of_lt (a2 u hu), fun m hm => ?_⟩, fun x hx => ?_⟩
  · obtain ⟨k1, k2⟩ := cv m hm
    rw [← k2, c6]; exact jo_le k1
  · rcases List.mem_append.mp hx with q | q
    · obtain ⟨p, hp, rfl⟩ := List.mem_map.mp q
      exact a1 p hp
    · exact a2 x q
/-- a prefix: opens, park, keep -/
theorem m_pre1 (ht : mtk e Y) (hc : mcs0 e Y K W s h J bg en md) (hk : ztk e s.1 < 102) (hw : W.length < 300) (ho : s.2.1 < 40) {r : Nat} (hr : r ≤ 9) : ∃ h1 h2 h3, qe L xs (d + 2) 142 [.ref 14] h (.inl none, h1) ∧ h1.1[14]? = some (mobj K.2.2.2.1 s.1 J.length (s.2.1 + 1) (max s.2.2.1 (s.2.1 + 1)) bg en md W.length) ∧ qe L xs (d + 1) 143 [.ref 14, .int (nI r), .int (nI J.length)] h1 (.inl none, h2) ∧ (∃ o, h2.1[14]? = some (ai_obj 5 o)) ∧ qe L xs (d + 1) 136 [.ref 14] h2 (.inl none, h3) ∧ mcs0 e Y K ((s.2.2.2.2.length, r) :: W) (s.1 + 1, s.2.1 + 1, max s.2.2.1 (s.2.1 + 1), s.2.2.2.1 + 1, s.2.2.2.2 ++ [40, 32] ++ zit e s.1 ++ [32]) h3 (J ++ [(nI s.1, zit e s.1, 1, 0)]) bg en md := by
  have hlt := (mcs0_lt hc).2
  have go := m_opens (L := L) (xs := xs) (d := d) hc ho
  obtain ⟨n1, n2, n3⟩ := mtk_next ht hk
  have hfr1 := mtk_fr ht (s.1 + 1)
  have hfr := mtk_fr ht s.1
  obtain ⟨rf, bf, wr, wf, h5, c6, c7, c8, ⟨⟨cu, cv⟩, c9, c10, c11⟩, c14⟩ := mcs0_5 hc
  have a5 := m5_14 (o' := mobj K.2.2.2.1 s.1 J.length (s.2.1 + 1) (max s.2.2.1 (s.2.1 + 1)) bg en md W.length) h5
  obtain ⟨h2, g2, b5, e2⟩ := m_parkR (L := L) (xs := xs) (d := d) (K := K) (s := (s.1, s.2.1 + 1, max s.2.2.1 (s.2.1 + 1), s.2.2.2)) (r := r) (k := J.length) a5 (by omega)
  obtain ⟨h3, g3, d5, e3⟩ := m_keepR (L := L) (xs := xs) (d := d) (K := K) (s := (s.1, s.2.1 + 1, max s.2.2.1 (s.2.1 + 1), s.2.2.2)) b5 (by omega)
  have hcv : mjv e ((((s.2.2.2.2.length, r) :: W).map Prod.fst) ++ K.2.2.1) (J ++ [(nI s.1, zit e s.1, 1, 0)]) (upd rf J.length (nI s.1)) (upd bf J.length 0) := by
    have := mjv_add (i := s.1) (n := 1) c7 c9.1 hk (by rw [← c6]; exact hlt) (Nat.le_refl _)
    rw [if_pos rfl, ← c6] at this
    exact this
  have hold : ∀ k, k < J.length → k < (J ++ [(nI s.1, zit e s.1, 1, 0)]).length ∧ jo (J ++ [(nI s.1, zit e s.1, 1, 0)]) k = jo J k := fun k hk => ⟨by rw [List.length_append]; omega, jo_app (by omega)⟩
  refine ⟨_, h2, h3, go, a5.1, g2, ⟨_, b5.1⟩, g3, ?_⟩
  refine mcs0_of (rf := upd rf J.length (nI s.1)) (bf := upd bf J.length 0) (wr := upd wr W.length (nI r)) (wf := upd wf W.length (nI J.length)) ?_ ?_ hcv (mww_push c8 (fun k hk _ => hold k hk) ⟨by rw [List.length_append]; simp, ?_⟩ hr) ⟨⟨fun u hu => ?_, fun m hm => ?_⟩, ⟨n1, ?_, ?_, ?_, ?_⟩, ⟨?_, ?_, c10.2.2⟩, fun a ha => ?_⟩ ?_
  · rw [List.length_append]; exact d5
  · rw [jr_addn, ← c6]; rfl
  · rw [jo_app (Nat.le_refl _), jo_len, ← c6]
  · obtain ⟨k, k1, k2⟩ := cu u hu
    exact ⟨k, (hold k k1).1, by rw [(hold k k1).2]; exact k2⟩
  · obtain ⟨k1, k2⟩ := cv m hm
    exact ⟨by rw [List.length_append]; omega, by rw [jo_app k1]; exact k2⟩
  · show s.2.1 + 1 ≤ 40; omega
  · show max s.2.2.1 (s.2.1 + 1) ≤ 40; omega
  · show s.2.2.2.1 + 1 = W.length + 1; omega
  · show W.length + 1 ≤ 300; omega
  · rw [List.length_append]
    show J.length + 1 + K.2.1 ≤ 2 * zfr e (s.1 + 1)
    omega
  · rw [jsum_app]
    show jsum J + (1 + 0) + K.1 ≤ zfr e (s.1 + 1)
    omega
  · rw [List.length_append] at ha
    have ha : (J ++ [(nI s.1, zit e s.1, 1, 0)])[J.length]? = some a := ha
    rw [List.getElem?_append_right (Nat.le_refl _), Nat.sub_self] at ha
    cases ha
    show 0 + (W.length + 1) + K.2.2.1.length ≤ 400
    omega
  · rw [e3, e2]; exact c14
/-- behind an operand or an expression: it begins at the place st, is made by ma, and if by an operator, its brackets are there -/
def mxp (e : zE) (Y : Nat → Option ai_C) (K : mK) (W : zK) (s : zS) (h : ai_H) (st ma : Nat) : Prop := ∃ J k, mcs0 e Y K W s h J (.int (nI k)) (.int (nI (J.length - 1))) (.int (nI ma)) ∧ k < J.length ∧ jo J k = st ∧ ma ≤ 8 ∧ (1 ≤ ma → (∀ a, J[k]? = some a → (W.map Prod.fst ++ K.2.2.1).count st + 1 ≤ a.2.2.1) ∧ ∀ b, J[J.length - 1]? = some b → 1 ≤ b.2.2.2)
theorem mxp_mcs {st ma : Nat} (hx : mxp e Y K W s h st ma) : mcs e Y K W s h := by
  obtain ⟨J, k, hc, -⟩ := hx
  exact ⟨J, _, _, _, hc⟩
/-- an open bracket before the k0-th item, which waits; the places before stay -/
theorem m_opens_at {k0 : Nat} (hc : mcs0 e Y K W s h J bg en md) (h0 : k0 < J.length) (hl : mle K W (jo J k0)) : (∀ k, k < J.length → jo J k ≤ jo J k0 → k < (jopen J k0).length ∧ jo (jopen J k0) k = jo J k) := by
  intro k hk hle
  have hkk : k ≤ k0 := by
    rcases Nat.lt_or_ge k0 k with q | q
    · have := jo_lt (J := J) q (by omega); omega
    · exact q
  exact ⟨by rw [jopen_length]; exact hk, (jr_open h0).2 k hkk⟩
/-- QueryReaderModel.goOn, up to the operands behind the operator -/
theorem m_go1 (ht : mtk e Y) {st ma by' : Nat} (hx : mxp e Y K W s h st ma) (hl : mle K W st) (hk : ztk e s.1 < 102) (hw : W.length < 300) (hby : by' ≤ 8) (h4 : by' ≠ 4) (hb0 : 1 ≤ by') : ∃ h' k, (∀ base o, qg L xs (d + 1) qm_160 39 [some (.ref 14), some (.int (nI base)), some (.int (nI by')), some (.int (nI k))] [] h' o → qg L xs (d + 1) qm_160 0 [some (.ref 14), some (.int (nI base)), some (.int (nI by')), none] [] h o) ∧ mcs e Y K ((st, by') :: W) (s.1 + 1, s.2.1, s.2.2.1, s.2.2.2.1 + 1, (if ma = by' then s.2.2.2.2.take (s.2.2.2.2.length - 2) else s.2.2.2.2.take st ++ [40, 32] ++ s.2.2.2.2.drop st) ++ zit e s.1 ++ [32]) h' := by
  obtain ⟨J, k, hc, hk1, hst, hma, hbr⟩ := hx
  have hlt := (mcs0_lt hc).2
  obtain ⟨n1, n2, n3⟩ := mtk_next ht hk
  have hfr1 := mtk_fr ht (s.1 + 1)
  have hfr := mtk_fr ht s.1
  obtain ⟨rf, bf, wr, wf, h5, c6, c7, c8, ⟨⟨cu, cv⟩, c9, c10, c11⟩, c14⟩ := mcs0_5 hc
  have hstl : st < s.2.2.2.2.length := by
    rw [← hst, c6, ← jo_len]
    exact jo_lt hk1 (Nat.le_refl _)
  -- what is common: the items J1 behind the brackets, their cells in h1
  have rest : ∀ (J1 : List zJ) (bf1 : Nat → Int32) (h1 : ai_H), m5 Y h1 (mobj K.2.2.2.1 s.1 J.length s.2.1 s.2.2.1 (.int (nI k)) (.int (nI (J.length - 1))) (.int (nI ma)) W.length) rf bf1 wr wf → h1.2 = h.2 → mjv e (st :: (W.map Prod.fst ++ K.2.2.1)) J1 rf bf1 → J1.length = J.length → (∀ i, i < J.length → jo J i ≤ st → i < J1.length ∧ jo J1 i = jo J i) → jsum J1 ≤ jsum J + 1 → st < (jr J1).length → (∀ x ∈ W.map Prod.fst ++ K.2.2.1, x < (jr J1).length) → ∃ h', (∀ base o, qg L xs (d + 1) qm_160 39 [some (.ref 14), some (.int (nI base)), some (.int (nI by')), some (.int (nI k))] [] h' o → qg L xs (d + 1) qm_160 33 [some (.ref 14), some (.int (nI base)), some (.int (nI by')), some (.int (nI k))] [] h1 o) ∧ mcs e Y K ((st, by') :: W) (s.1 + 1, s.2.1, s.2.2.1, s.2.2.2.1 + 1, jr J1 ++ zit e s.1 ++ [32]) h' := by
    intro J1 bf1 h1 a5 e1 v1 l1 p1 js s1 x1
    obtain ⟨h2, g2, b5, e2⟩ := m_parkR (L := L) (xs := xs) (d := d) (K := K) (s := s) (r := by') (k := k) a5 (by omega)
    obtain ⟨h3, g3, d5, e3⟩ := m_keepR (L := L) (xs := xs) (d := d) (K := K) (s := s) b5 (by omega)
    have hold : ∀ i, i < J.length → jo J i ≤ st → i < (J1 ++ [(nI s.1, zit e s.1, 0, 0)]).length ∧ jo (J1 ++ [(nI s.1, zit e s.1, 0, 0)]) i = jo J i := fun i hi hj => by
      obtain ⟨y1, y2⟩ := p1 i hi hj
      exact ⟨by rw [List.length_append]; omega, by rw [jo_app (by omega)]; exact y2⟩
    refine ⟨h3, ?_, J1 ++ [(nI s.1, zit e s.1, 0, 0)], .int (nI k), .int (nI (J.length - 1)), .int (nI ma), ?_⟩
    · intro base o hg
      refine qg_pls (n := 3) (k' := 36) (lo' := [some (.ref 14), some (.int (nI base)), some (.int (nI by')), some (.int (nI k))]) (S' := [.int (nI k), .int (nI by'), .ref 14]) (h' := h1) rfl ?_
      refine qg_call (v := none) (h' := h2) (as := [.ref 14, .int (nI by'), .int (nI k)]) rfl rfl rfl rfl rfl rfl rfl (ai_rcv1 rfl rfl a5.1) (g2) ?_
      show qg L xs _ qm_160 37 [some (.ref 14), some (.int (nI base)), some (.int (nI by')), some (.int (nI k))] [] h2 _
      refine qg_pls (n := 1) (k' := 38) (lo' := [some (.ref 14), some (.int (nI base)), some (.int (nI by')), some (.int (nI k))]) (S' := [.ref 14]) (h' := h2) rfl ?_
      refine qg_call (v := none) (h' := h3) (as := [.ref 14]) rfl rfl rfl rfl rfl rfl rfl (ai_rcv1 rfl rfl b5.1) (g3) ?_
      show qg L xs _ qm_160 39 [some (.ref 14), some (.int (nI base)), some (.int (nI by')), some (.int (nI k))] [] h3 _
      exact hg
    · refine mcs0_of (rf := upd rf J.length (nI s.1)) (bf := upd bf1 J.length 0) (wr := upd wr W.length (nI by')) (wf := upd wf W.length (nI k)) ?_ ?_ ?_ (mww_push c8 (fun i hi hq => ?_) ⟨?_, ?_⟩ (by omega)) ⟨⟨fun u hu => ?_, fun m hm => ?_⟩, ⟨n1, c9.2.1, c9.2.2.1, ?_, ?_⟩, ⟨?_, ?_, c10.2.2⟩, fun a ha => ?_⟩ ?_
      · rw [List.length_append, l1]; exact d5
      · show jr J1 ++ zit e s.1 ++ [32] = _
        rw [jr_add]
      · have := mjv_add (i := s.1) (n := 0) v1 c9.1 hk (fun x hx => by
          rcases List.mem_cons.mp hx with rfl | hx
          · exact s1
          · exact x1 x hx) (Nat.zero_le _)
        rw [if_neg (by decide), l1] at this
        exact this
      · obtain ⟨q, hq1, hq2⟩ := hq
        exact hold i hi (by rw [hq2]; exact hl.1 q hq1)
      · exact (hold k hk1 (by rw [hst]; exact Nat.le_refl _)).1
      · rw [(hold k hk1 (by rw [hst]; exact Nat.le_refl _)).2]; exact hst
      · obtain ⟨i, i1, i2⟩ := cu u hu
        obtain ⟨y1, y2⟩ := hold i i1 (by rw [i2]; exact hl.2.1 u hu)
        exact ⟨i, y1, by rw [y2]; exact i2⟩
      · obtain ⟨i1, i2⟩ := cv m hm
        have i3 := jo_inv i1 hk1 (by rw [i2, hst]; exact hl.2.2 m hm)
        obtain ⟨y1, y2⟩ := hold m.2 (by omega) (by rw [i2]; exact hl.2.2 m hm)
        exact ⟨Nat.le_of_lt y1, by rw [y2]; exact i2⟩
      · show s.2.2.2.1 + 1 = W.length + 1; omega
      · show W.length + 1 ≤ 300; omega
      · rw [List.length_append, l1]
        show J.length + 1 + K.2.1 ≤ 2 * zfr e (s.1 + 1)
        omega
      · rw [jsum_app]
        show jsum J1 + 0 + K.1 ≤ zfr e (s.1 + 1)
        omega
      · rw [List.length_append] at ha
        have ha : (J1 ++ [(nI s.1, zit e s.1, 0, 0)])[J1.length]? = some a := ha
        rw [List.getElem?_append_right (Nat.le_refl _), Nat.sub_self] at ha
        cases ha
        show 0 + (W.length + 1) + K.2.2.1.length ≤ 400
        omega
      · rw [e3, e2, e1]; exact c14
  have hcnt : (W.map Prod.fst ++ K.2.2.1).count (jo J k) = (W.map Prod.fst ++ K.2.2.1).count st := by rw [hst]
  have road : ∀ base o, qg L xs (d + 1) qm_160 14 [some (.ref 14), some (.int (nI base)), some (.int (nI by')), some (.int (nI k))] [.int (nI by'), .int (nI ma)] h o → qg L xs (d + 1) qm_160 0 [some (.ref 14), some (.int (nI base)), some (.int (nI by')), none] [] h o := by
    intro base o hg
    refine qg_pls (n := 1) (k' := 1) (lo' := [some (.ref 14), some (.int (nI base)), some (.int (nI by')), none]) (S' := [.ref 14]) (h' := h) rfl ?_
    refine qg_getf (v := .int (nI k)) rfl h5.1 rfl rfl rfl ?_
    refine qg_pls (n := 3) (k' := 5) (lo' := [some (.ref 14), some (.int (nI base)), some (.int (nI by')), some (.int (nI k))]) (S' := [.int 4, .int (nI by')]) (h' := h) rfl ?_
    refine qg_icmp true rfl (qc_neT (b := 4) h4 (by omega) (by decide)) rfl ?_
    refine qg_pls (n := 1) (k' := 12) (lo' := [some (.ref 14), some (.int (nI base)), some (.int (nI by')), some (.int (nI k))]) (S' := [.ref 14]) (h' := h) rfl ?_
    refine qg_getf (v := .int (nI ma)) rfl h5.1 rfl rfl rfl ?_
    refine qg_pls (n := 1) (k' := 14) (lo' := [some (.ref 14), some (.int (nI base)), some (.int (nI by')), some (.int (nI k))]) (S' := [.int (nI by'), .int (nI ma)]) (h' := h) rfl ?_
    exact hg
  by_cases hm : ma = by'
  · rw [if_pos hm]
    obtain ⟨hb1, hb2⟩ := hbr (by omega)
    have v1 := mjv_undo (k0 := k) c7 hk1 (fun a ha => by rw [hcnt]; exact hb1 a ha) hb2
    rw [hst] at v1
    obtain ⟨r1, r2⟩ := jr_undo (J := J) (by omega) hb2
    have a5 := m5_22 (f := upd bf k (bf k - 1)) h5
    have b5 := m5_22 (f := upd (upd bf k (bf k - 1)) (J.length - 1) (upd bf k (bf k - 1) (J.length - 1) - 65536)) a5
    have lz : ∀ i, i < J.length → jo J i < (jr (jundo J (J.length - 1))).length := fun i hi => by
      rw [← r2 i hi, ← jo_len]
      exact jo_lt (by rw [jundo_length]; exact hi) (Nat.le_refl _)
    obtain ⟨h', g1, g2⟩ := rest _ _ _ b5 rfl v1 jundo_length (fun i hi _ => ⟨by rw [jundo_length]; exact hi, r2 i hi⟩) (by rw [jsum_undo (by omega)]; omega) (by rw [← hst]; exact lz k hk1) (fun x hx => by
      rcases List.mem_append.mp hx with q | q
      · obtain ⟨p, hp, rfl⟩ := List.mem_map.mp q
        obtain ⟨i, i1, i2⟩ := mww_mem c8 p hp
        rw [← i2]; exact lz i i1
      · obtain ⟨i, i1, i2⟩ := cu x q
        rw [← i2]; exact lz i i1)
    refine ⟨h', k, fun base o hg => road base o ?_, ?_⟩
    · skip
      refine qg_icmp false rfl (qc_neF hm) rfl ?_
      refine qg_pls (n := 1) (k' := 16) (lo' := [some (.ref 14), some (.int (nI base)), some (.int (nI by')), some (.int (nI k))]) (S' := [.ref 14]) (h' := h) rfl ?_
      refine qg_getf (v := .ref 22) rfl h5.1 rfl rfl rfl ?_
      refine qg_pls (n := 1) (k' := 18) (lo' := [some (.ref 14), some (.int (nI base)), some (.int (nI by')), some (.int (nI k))]) (S' := [.ref 14, .ref 22]) (h' := h) rfl ?_
      refine qg_getf (v := .int (nI k)) rfl h5.1 rfl rfl rfl ?_
      refine qg_pls (n := 1) (k' := 20) (lo' := [some (.ref 14), some (.int (nI base)), some (.int (nI by')), some (.int (nI k))]) (S' := [.int (nI k), .ref 22, .int (nI k), .ref 22]) (h' := h) rfl ?_
      refine qg_ald rfl (fun _ _ _ => rfl) h5.2.2.1 (by omega) (by decide) ?_
      refine qg_pls (n := 2) (k' := 23) (lo' := [some (.ref 14), some (.int (nI base)), some (.int (nI by')), some (.int (nI k))]) (S' := [.int ((bf k) - 1), .int (nI k), .ref 22]) (h' := h) rfl ?_
      refine qg_ast rfl (fun _ _ _ => rfl) h5.2.2.1 (by omega) (by decide) ?_
      show qg L xs _ qm_160 24 [some (.ref 14), some (.int (nI base)), some (.int (nI by')), some (.int (nI k))] [] (h.1.set 22 (ai_num .int 131072 (upd bf k (bf k - 1))), h.2) _
      refine qg_pls (n := 1) (k' := 25) (lo' := [some (.ref 14), some (.int (nI base)), some (.int (nI by')), some (.int (nI k))]) (S' := [.ref 14]) (h' := (h.1.set 22 (ai_num .int 131072 (upd bf k (bf k - 1))), h.2)) rfl ?_
      refine qg_getf (v := .ref 22) rfl a5.1 rfl rfl rfl ?_
      refine qg_pls (n := 1) (k' := 27) (lo' := [some (.ref 14), some (.int (nI base)), some (.int (nI by')), some (.int (nI k))]) (S' := [.ref 14, .ref 22]) (h' := (h.1.set 22 (ai_num .int 131072 (upd bf k (bf k - 1))), h.2)) rfl ?_
      refine qg_getf (v := .int (nI (J.length - 1))) rfl a5.1 rfl rfl rfl ?_
      refine qg_pls (n := 1) (k' := 29) (lo' := [some (.ref 14), some (.int (nI base)), some (.int (nI by')), some (.int (nI k))]) (S' := [.int (nI (J.length - 1)), .ref 22, .int (nI (J.length - 1)), .ref 22]) (h' := (h.1.set 22 (ai_num .int 131072 (upd bf k (bf k - 1))), h.2)) rfl ?_
      refine qg_ald rfl (fun _ _ _ => rfl) a5.2.2.1 (by omega) (by decide) ?_
      refine qg_pls (n := 2) (k' := 32) (lo' := [some (.ref 14), some (.int (nI base)), some (.int (nI by')), some (.int (nI k))]) (S' := [.int ((upd bf k (bf k - 1) (J.length - 1)) - 65536), .int (nI (J.length - 1)), .ref 22]) (h' := (h.1.set 22 (ai_num .int 131072 (upd bf k (bf k - 1))), h.2)) rfl ?_
      refine qg_ast rfl (fun _ _ _ => rfl) a5.2.2.1 (by omega) (by decide) ?_
      exact g1 base o hg
    · rw [c6, ← r1]; exact g2
  · rw [if_neg hm]
    have v1 := mjv_open (k0 := k) c7 hk1 (fun x hx => by
      rw [hst]
      rcases List.mem_append.mp hx with q | q
      · obtain ⟨p, hp, rfl⟩ := List.mem_map.mp q
        exact hl.1 p hp
      · exact hl.2.1 x q)
    rw [hst] at v1
    obtain ⟨r1, r2⟩ := jr_open hk1
    rw [hst] at r1
    have hlen : (jr (jopen J k)).length = s.2.2.2.2.length + 2 := by
      rw [r1, ← c6]
      simp only [List.length_append, List.length_take, List.length_drop, List.length_cons, List.length_nil]
      omega
    have hoat := m_opens_at hc hk1 (by rw [hst]; exact hl)
    rw [hst] at hoat
    obtain ⟨h', g1, g2⟩ := rest _ _ _ h5 rfl v1 jopen_length hoat (by rw [jsum_open hk1]; omega) (by omega) (fun x hx => by have := hlt x hx; omega)
    refine ⟨h', k, fun base o hg => road base o ?_, ?_⟩
    · skip
      refine qg_icmp true rfl (qc_neT hm (by omega) (by omega)) rfl ?_
      exact g1 base o hg
    · rw [c6, ← r1]; exact g2
/-- QueryReaderModel.settle -/
theorem m_settle (ht : mtk e Y) {q : Nat × Nat} (hc : mcs0 e Y K (q :: W) s h J bg en md) (h9 : q.2 ≠ 9) (h1 : 1 ≤ q.2) (hl : mle K W q.1) (ho : q.2 = 3 ∨ q.2 = 8 → 0 < s.2.1) : ∃ h', qe L xs (d + 2) 158 [.ref 14] h (.inl none, h') ∧ mxp e Y K W (s.1, (if q.2 = 3 ∨ q.2 = 8 then s.2.1 - 1 else s.2.1), s.2.2.1, s.2.2.2.1 - 1, s.2.2.2.2 ++ [41, 32]) h' q.1 q.2 := by
  have hfr := mtk_fr ht s.1
  obtain ⟨rf, bf, wr, wf, h5, c6, c7, c8, ⟨⟨cu, cv⟩, c9, c10, c11⟩, c14⟩ := mcs0_5 hc
  obtain ⟨c8', w1, w2, k, k1, k2, k3⟩ := mww_pop c8
  have hwl : W.length + 1 ≤ 300 := c9.2.2.2.2
  have a5 := m5_14 (o' := mobj K.2.2.2.1 s.1 J.length s.2.1 s.2.2.1 bg en md W.length) h5
  have b5 := m5_14 (o' := mobj K.2.2.2.1 s.1 J.length (if q.2 = 3 ∨ q.2 = 8 then s.2.1 - 1 else s.2.1) s.2.2.1 bg en md W.length) a5
  obtain ⟨h3, g3, d5, e3⟩ := m_wrapR (L := L) (xs := xs) (d := d) (K := K) (s := (s.1, (if q.2 = 3 ∨ q.2 = 8 then s.2.1 - 1 else s.2.1), s.2.2)) (r := q.2) (k := k) b5 (by omega) (by omega) (by omega)
  have lastg : ∀ a, J[J.length - 1]? = some a → a.2.2.2 + (W.length + 1) + K.2.2.1.length ≤ 400 := c11
  have hcnt : ∀ x, ((q :: W).map Prod.fst ++ K.2.2.1).count x = (W.map Prod.fst ++ K.2.2.1).count x + if x = jo J k then 1 else 0 := by
    intro x
    show (q.1 :: (W.map Prod.fst ++ K.2.2.1)).count x = _
    rw [k3]
    by_cases hx : x = q.1
    · rw [if_pos hx, hx, List.count_cons_self]
    · rw [if_neg hx, List.count_cons_of_ne (fun z => hx z.symm), Nat.add_zero]
  have v1 := mjv_close (k0 := k) c7 k1 hcnt (fun a ha => by have := lastg a ha; omega)
  obtain ⟨r1, r2⟩ := jr_close (J := J) (by omega)
  refine ⟨h3, ?_, jclose J (J.length - 1), k, ?_, by rw [jclose_length]; exact k1, by rw [r2 k k1]; exact k3, by omega, fun _ => ⟨fun a ha => ?_, fun b hb => ?_⟩⟩
  · skip
    refine qe_of (M := qm_158) rfl rfl ?_
    show qg L xs _ qm_158 0 [some (.ref 14), none] [] h _
    refine qg_pls (n := 2) (k' := 2) (lo' := [some (.ref 14), none]) (S' := [.ref 14, .ref 14]) (h' := h) rfl ?_
    refine qg_getf (v := .int (nI (W.length + 1))) rfl h5.1 rfl rfl rfl ?_
    refine qg_pls (n := 2) (k' := 5) (lo' := [some (.ref 14), none]) (S' := [.int ((nI (W.length + 1)) - 1), .ref 14]) (h' := h) rfl ?_
    rw [show nI (W.length + 1) - 1 = nI (W.length + 1 - 1) from nI_sub (b := 1) (by omega), Nat.add_sub_cancel]
    refine qg_putf rfl h5.1 rfl rfl (Nat.le_of_ble_eq_true rfl) rfl ?_
    show qg L xs _ qm_158 6 [some (.ref 14), none] [] (h.1.set 14 (mobj K.2.2.2.1 s.1 J.length s.2.1 s.2.2.1 bg en md W.length), h.2) _
    refine qg_pls (n := 1) (k' := 7) (lo' := [some (.ref 14), none]) (S' := [.ref 14]) (h' := (h.1.set 14 (mobj K.2.2.2.1 s.1 J.length s.2.1 s.2.2.1 bg en md W.length), h.2)) rfl ?_
    refine qg_getf (v := .ref 23) rfl a5.1 rfl rfl rfl ?_
    refine qg_pls (n := 1) (k' := 9) (lo' := [some (.ref 14), none]) (S' := [.ref 14, .ref 23]) (h' := (h.1.set 14 (mobj K.2.2.2.1 s.1 J.length s.2.1 s.2.2.1 bg en md W.length), h.2)) rfl ?_
    refine qg_getf (v := .int (nI W.length)) rfl a5.1 rfl rfl rfl ?_
    refine qg_ald rfl (fun _ _ _ => rfl) a5.2.2.2.1 (by omega) (by decide) ?_
    rw [w1]
    refine qg_pls (n := 4) (k' := 15) (lo' := [some (.ref 14), some (.int (nI q.2))]) (S' := [.int 9, .int (nI q.2), .ref 14]) (h' := (h.1.set 14 (mobj K.2.2.2.1 s.1 J.length s.2.1 s.2.2.1 bg en md W.length), h.2)) rfl ?_
    refine qg_icmp false rfl (qc_eqF (b := 9) h9 (by omega) (by decide)) rfl ?_
    refine qg_pls (n := 2) (k' := 19) (lo' := [some (.ref 14), some (.int (nI q.2))]) (S' := [.int 1, .ref 14]) (h' := (h.1.set 14 (mobj K.2.2.2.1 s.1 J.length s.2.1 s.2.2.1 bg en md W.length), h.2)) rfl ?_
    refine qg_call (v := none) (h' := (h.1.set 14 (mobj K.2.2.2.1 s.1 J.length s.2.1 s.2.2.1 bg en md W.length), h.2)) (as := [.ref 14, .int 1]) rfl rfl rfl rfl rfl rfl rfl (ai_rcv1 rfl rfl a5.1) (m_need1 (d := d)) ?_
    show qg L xs _ qm_158 20 [some (.ref 14), some (.int (nI q.2))] [] (h.1.set 14 (mobj K.2.2.2.1 s.1 J.length s.2.1 s.2.2.1 bg en md W.length), h.2) _
    refine qg_pls (n := 3) (k' := 23) (lo' := [some (.ref 14), some (.int (nI q.2))]) (S' := [.int 3, .int (nI q.2), .ref 14]) (h' := (h.1.set 14 (mobj K.2.2.2.1 s.1 J.length s.2.1 s.2.2.1 bg en md W.length), h.2)) rfl ?_
    by_cases q3 : q.2 = 3
    · rw [if_pos (Or.inl q3)] at b5 g3
      refine qg_icmp true rfl (qc_eqT (b := 3) q3) rfl ?_
      refine qg_pls (n := 1) (k' := 28) (lo' := [some (.ref 14), some (.int (nI q.2))]) (S' := [.ref 14, .ref 14]) (h' := (h.1.set 14 (mobj K.2.2.2.1 s.1 J.length s.2.1 s.2.2.1 bg en md W.length), h.2)) rfl ?_
      refine qg_getf (v := .int (nI s.2.1)) rfl a5.1 rfl rfl rfl ?_
      refine qg_pls (n := 3) (k' := 34) (lo' := [some (.ref 14), some (.int (nI q.2))]) (S' := [.int ((nI s.2.1) - 1), .ref 14]) (h' := (h.1.set 14 (mobj K.2.2.2.1 s.1 J.length s.2.1 s.2.2.1 bg en md W.length), h.2)) rfl ?_
      rw [show nI s.2.1 - 1 = nI (s.2.1 - 1) from nI_sub (b := 1) (ho (Or.inl q3))]
      refine qg_putf rfl a5.1 rfl rfl (Nat.le_of_ble_eq_true rfl) rfl ?_
      show qg L xs _ qm_158 35 [some (.ref 14), some (.int (nI q.2))] [] ((h.1.set 14 (mobj K.2.2.2.1 s.1 J.length s.2.1 s.2.2.1 bg en md W.length)).set 14 (mobj K.2.2.2.1 s.1 J.length (s.2.1 - 1) s.2.2.1 bg en md W.length), h.2) _
      refine qg_pls (n := 2) (k' := 37) (lo' := [some (.ref 14), some (.int (nI q.2))]) (S' := [.ref 14, .ref 14]) (h' := ((h.1.set 14 (mobj K.2.2.2.1 s.1 J.length s.2.1 s.2.2.1 bg en md W.length)).set 14 (mobj K.2.2.2.1 s.1 J.length (s.2.1 - 1) s.2.2.1 bg en md W.length), h.2)) rfl ?_
      refine qg_getf (v := .ref 24) rfl b5.1 rfl rfl rfl ?_
      refine qg_pls (n := 1) (k' := 39) (lo' := [some (.ref 14), some (.int (nI q.2))]) (S' := [.ref 14, .ref 24, .ref 14]) (h' := ((h.1.set 14 (mobj K.2.2.2.1 s.1 J.length s.2.1 s.2.2.1 bg en md W.length)).set 14 (mobj K.2.2.2.1 s.1 J.length (s.2.1 - 1) s.2.2.1 bg en md W.length), h.2)) rfl ?_
      refine qg_getf (v := .int (nI W.length)) rfl b5.1 rfl rfl rfl ?_
      refine qg_ald rfl (fun _ _ _ => rfl) b5.2.2.2.2.1 (by omega) (by decide) ?_
      rw [k2]
      refine qg_pls (n := 1) (k' := 42) (lo' := [some (.ref 14), some (.int (nI q.2))]) (S' := [.int (nI q.2), .int (nI k), .ref 14]) (h' := ((h.1.set 14 (mobj K.2.2.2.1 s.1 J.length s.2.1 s.2.2.1 bg en md W.length)).set 14 (mobj K.2.2.2.1 s.1 J.length (s.2.1 - 1) s.2.2.1 bg en md W.length), h.2)) rfl ?_
      refine qg_call (v := none) (h' := h3) (as := [.ref 14, .int (nI k), .int (nI q.2)]) rfl rfl rfl rfl rfl rfl rfl (ai_rcv1 rfl rfl b5.1) (g3) ?_
      show qg L xs _ qm_158 43 [some (.ref 14), some (.int (nI q.2))] [] h3 _
      exact qg_ret7 rfl
    · by_cases q8 : q.2 = 8
      · rw [if_pos (Or.inr q8)] at b5 g3
        refine qg_icmp false rfl (qc_eqF (b := 3) q3 (by omega) (by decide)) rfl ?_
        refine qg_pls (n := 2) (k' := 26) (lo' := [some (.ref 14), some (.int (nI q.2))]) (S' := [.int 8, .int (nI q.2), .ref 14]) (h' := (h.1.set 14 (mobj K.2.2.2.1 s.1 J.length s.2.1 s.2.2.1 bg en md W.length), h.2)) rfl ?_
        refine qg_icmp false rfl (qc_neF (b := 8) q8) rfl ?_
        refine qg_pls (n := 1) (k' := 28) (lo' := [some (.ref 14), some (.int (nI q.2))]) (S' := [.ref 14, .ref 14]) (h' := (h.1.set 14 (mobj K.2.2.2.1 s.1 J.length s.2.1 s.2.2.1 bg en md W.length), h.2)) rfl ?_
        refine qg_getf (v := .int (nI s.2.1)) rfl a5.1 rfl rfl rfl ?_
        refine qg_pls (n := 3) (k' := 34) (lo' := [some (.ref 14), some (.int (nI q.2))]) (S' := [.int ((nI s.2.1) - 1), .ref 14]) (h' := (h.1.set 14 (mobj K.2.2.2.1 s.1 J.length s.2.1 s.2.2.1 bg en md W.length), h.2)) rfl ?_
        rw [show nI s.2.1 - 1 = nI (s.2.1 - 1) from nI_sub (b := 1) (ho (Or.inr q8))]
        refine qg_putf rfl a5.1 rfl rfl (Nat.le_of_ble_eq_true rfl) rfl ?_
        show qg L xs _ qm_158 35 [some (.ref 14), some (.int (nI q.2))] [] ((h.1.set 14 (mobj K.2.2.2.1 s.1 J.length s.2.1 s.2.2.1 bg en md W.length)).set 14 (mobj K.2.2.2.1 s.1 J.length (s.2.1 - 1) s.2.2.1 bg en md W.length), h.2) _
        refine qg_pls (n := 2) (k' := 37) (lo' := [some (.ref 14), some (.int (nI q.2))]) (S' := [.ref 14, .ref 14]) (h' := ((h.1.set 14 (mobj K.2.2.2.1 s.1 J.length s.2.1 s.2.2.1 bg en md W.length)).set 14 (mobj K.2.2.2.1 s.1 J.length (s.2.1 - 1) s.2.2.1 bg en md W.length), h.2)) rfl ?_
        refine qg_getf (v := .ref 24) rfl b5.1 rfl rfl rfl ?_
        refine qg_pls (n := 1) (k' := 39) (lo' := [some (.ref 14), some (.int (nI q.2))]) (S' := [.ref 14, .ref 24, .ref 14]) (h' := ((h.1.set 14 (mobj K.2.2.2.1 s.1 J.length s.2.1 s.2.2.1 bg en md W.length)).set 14 (mobj K.2.2.2.1 s.1 J.length (s.2.1 - 1) s.2.2.1 bg en md W.length), h.2)) rfl ?_
        refine qg_getf (v := .int (nI W.length)) rfl b5.1 rfl rfl rfl ?_
        refine qg_ald rfl (fun _ _ _ => rfl) b5.2.2.2.2.1 (by omega) (by decide) ?_
        rw [k2]
        refine qg_pls (n := 1) (k' := 42) (lo' := [some (.ref 14), some (.int (nI q.2))]) (S' := [.int (nI q.2), .int (nI k), .ref 14]) (h' := ((h.1.set 14 (mobj K.2.2.2.1 s.1 J.length s.2.1 s.2.2.1 bg en md W.length)).set 14 (mobj K.2.2.2.1 s.1 J.length (s.2.1 - 1) s.2.2.1 bg en md W.length), h.2)) rfl ?_
        refine qg_call (v := none) (h' := h3) (as := [.ref 14, .int (nI k), .int (nI q.2)]) rfl rfl rfl rfl rfl rfl rfl (ai_rcv1 rfl rfl b5.1) (g3) ?_
        show qg L xs _ qm_158 43 [some (.ref 14), some (.int (nI q.2))] [] h3 _
        exact qg_ret7 rfl
      · rw [if_neg (by omega)] at b5 g3
        refine qg_icmp false rfl (qc_eqF (b := 3) q3 (by omega) (by decide)) rfl ?_
        refine qg_pls (n := 2) (k' := 26) (lo' := [some (.ref 14), some (.int (nI q.2))]) (S' := [.int 8, .int (nI q.2), .ref 14]) (h' := (h.1.set 14 (mobj K.2.2.2.1 s.1 J.length s.2.1 s.2.2.1 bg en md W.length), h.2)) rfl ?_
        refine qg_icmp true rfl (qc_neT (b := 8) q8 (by omega) (by decide)) rfl ?_
        refine qg_pls (n := 1) (k' := 33) (lo' := [some (.ref 14), some (.int (nI q.2))]) (S' := [.ref 14, .ref 14]) (h' := (h.1.set 14 (mobj K.2.2.2.1 s.1 J.length s.2.1 s.2.2.1 bg en md W.length), h.2)) rfl ?_
        refine qg_getf (v := .int (nI s.2.1)) rfl a5.1 rfl rfl rfl ?_
        refine qg_putf rfl a5.1 rfl rfl (Nat.le_of_ble_eq_true rfl) rfl ?_
        show qg L xs _ qm_158 35 [some (.ref 14), some (.int (nI q.2))] [] ((h.1.set 14 (mobj K.2.2.2.1 s.1 J.length s.2.1 s.2.2.1 bg en md W.length)).set 14 (mobj K.2.2.2.1 s.1 J.length s.2.1 s.2.2.1 bg en md W.length), h.2) _
        refine qg_pls (n := 2) (k' := 37) (lo' := [some (.ref 14), some (.int (nI q.2))]) (S' := [.ref 14, .ref 14]) (h' := ((h.1.set 14 (mobj K.2.2.2.1 s.1 J.length s.2.1 s.2.2.1 bg en md W.length)).set 14 (mobj K.2.2.2.1 s.1 J.length s.2.1 s.2.2.1 bg en md W.length), h.2)) rfl ?_
        refine qg_getf (v := .ref 24) rfl b5.1 rfl rfl rfl ?_
        refine qg_pls (n := 1) (k' := 39) (lo' := [some (.ref 14), some (.int (nI q.2))]) (S' := [.ref 14, .ref 24, .ref 14]) (h' := ((h.1.set 14 (mobj K.2.2.2.1 s.1 J.length s.2.1 s.2.2.1 bg en md W.length)).set 14 (mobj K.2.2.2.1 s.1 J.length s.2.1 s.2.2.1 bg en md W.length), h.2)) rfl ?_
        refine qg_getf (v := .int (nI W.length)) rfl b5.1 rfl rfl rfl ?_
        refine qg_ald rfl (fun _ _ _ => rfl) b5.2.2.2.2.1 (by omega) (by decide) ?_
        rw [k2]
        refine qg_pls (n := 1) (k' := 42) (lo' := [some (.ref 14), some (.int (nI q.2))]) (S' := [.int (nI q.2), .int (nI k), .ref 14]) (h' := ((h.1.set 14 (mobj K.2.2.2.1 s.1 J.length s.2.1 s.2.2.1 bg en md W.length)).set 14 (mobj K.2.2.2.1 s.1 J.length s.2.1 s.2.2.1 bg en md W.length), h.2)) rfl ?_
        refine qg_call (v := none) (h' := h3) (as := [.ref 14, .int (nI k), .int (nI q.2)]) rfl rfl rfl rfl rfl rfl rfl (ai_rcv1 rfl rfl b5.1) (g3) ?_
        show qg L xs _ qm_158 43 [some (.ref 14), some (.int (nI q.2))] [] h3 _
        exact qg_ret7 rfl
  · refine mcs0_of (rf := rf) (bf := upd (upd bf k (bf k + 1)) (J.length - 1) (upd bf k (bf k + 1) (J.length - 1) + 65536)) (wr := wr) (wf := wf) ?_ ?_ v1 (mww_same c8' (fun i hi _ => ⟨by rw [jclose_length]; exact hi, r2 i hi⟩)) ⟨⟨fun u hu => ?_, fun m hm => ?_⟩, ⟨c9.1, ?_, c9.2.2.1, ?_, ?_⟩, ⟨?_, ?_, c10.2.2⟩, fun a ha => ?_⟩ ?_
    · rw [jclose_length]; exact d5
    · rw [r1, ← c6]
    · obtain ⟨i, i1, i2⟩ := cu u hu
      exact ⟨i, by rw [jclose_length]; exact i1, by rw [r2 i i1]; exact i2⟩
    · obtain ⟨i1, i2⟩ := cv m hm
      have i3 := jo_inv i1 k1 (by rw [i2, k3]; exact hl.2.2 m hm)
      exact ⟨by rw [jclose_length]; exact i1, by rw [r2 _ (by omega)]; exact i2⟩
    · dsimp only
      have := c9.2.1
      split <;> omega
    · show s.2.2.2.1 - 1 = W.length
      have : s.2.2.2.1 = W.length + 1 := c9.2.2.2.1
      omega
    · omega
    · rw [jclose_length]; exact c10.1
    · rw [jsum_close (by omega)]; exact c10.2.1
    · rw [jclose_length] at ha
      obtain ⟨b, hb, rfl⟩ := jclose_get (by omega) ha
      have := lastg b hb
      dsimp only
      rw [if_pos rfl]
      omega
    · rw [e3]; exact c14
  · obtain ⟨b, hb, rfl⟩ := jclose_get (by omega) ha
    obtain ⟨x1, x2, x3, x4, x5⟩ := c7 k b hb
    have := hcnt (jo J k)
    rw [if_pos rfl, k3] at this
    rw [k3] at x4
    dsimp only
    omega
  · rw [jclose_length] at hb
    obtain ⟨b0, hb0, rfl⟩ := jclose_get (by omega) hb
    dsimp only
    rw [if_pos rfl]
    omega
end MST
