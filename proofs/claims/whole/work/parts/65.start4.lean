set_option maxRecDepth 100000 in
theorem q_clok : ai_clok qr_TB qr_cl qr_ty := by
  intro ci q hq
  match ci, hq with
  | 0, hq => cases hq; exact ⟨by decide +kernel, by decide +kernel, by decide +kernel⟩
  | 1, hq => cases hq; exact ⟨by decide +kernel, by decide +kernel, by decide +kernel⟩
  | 2, hq => cases hq; exact ⟨by decide +kernel, by decide +kernel, by decide +kernel⟩
  | 3, hq => cases hq; exact ⟨by decide +kernel, by decide +kernel, by decide +kernel⟩
  | 4, hq => cases hq; exact ⟨by decide +kernel, by decide +kernel, by decide +kernel⟩
  | 5, hq => cases hq; exact ⟨by decide +kernel, by decide +kernel, by decide +kernel⟩
  | n + 6, hq => simp [qr_cl] at hq
set_option maxRecDepth 100000 in
theorem q_dok : ai_dok qr_cl qr_ty qr_df := by
  intro ci q hq
  match ci, hq with
  | 0, hq => cases hq; exact ⟨by decide +kernel, by decide +kernel, by decide +kernel⟩
  | 1, hq => cases hq; exact ⟨by decide +kernel, by decide +kernel, by decide +kernel⟩
  | 2, hq => cases hq; exact ⟨by decide +kernel, by decide +kernel, by decide +kernel⟩
  | 3, hq => cases hq; exact ⟨by decide +kernel, by decide +kernel, by decide +kernel⟩
  | 4, hq => cases hq; exact ⟨by decide +kernel, by decide +kernel, by decide +kernel⟩
  | 5, hq => cases hq; exact ⟨by decide +kernel, by decide +kernel, by decide +kernel⟩
  | n + 6, hq => simp [qr_cl] at hq
theorem q_clnm : ∀ ci q, qr_cl[ci]? = some q → q.1 = (qr_zc ci).1 := by
  intro ci q hq
  match ci, hq with
  | 0, hq => cases hq; rfl
  | 1, hq => cases hq; rfl
  | 2, hq => cases hq; rfl
  | 3, hq => cases hq; rfl
  | 4, hq => cases hq; rfl
  | 5, hq => cases hq; rfl
  | n + 6, hq => simp [qr_cl] at hq
/-- which constants are objects -/
theorem q_Zobj {L : Nat} {xs : Nat → Int32} {j ci : Nat} {fs : List Value} (h : qr_Z L xs j = some (ai_obj ci fs)) : (ci = 6 ∧ j < 104 ∧ fs = [.int (Int32.ofNat j), .retAddr (qr_en.getD j (0, 0)).1, .int (qr_en.getD j (0, 0)).2]) ∨ (ci = 7 ∧ 1000 ≤ j ∧ j < 1112 ∧ fs = [.retAddr (j + 1000), .int 0]) := by
  unfold qr_Z at h
  split at h
  · rename_i h0
    simp only [Option.some.injEq, Sum.inr.injEq, Prod.mk.injEq] at h
    exact Or.inl ⟨h.1.symm, h0, h.2.symm⟩
  · split at h
    · rename_i h0
      simp only [Option.some.injEq, Sum.inr.injEq, Prod.mk.injEq] at h
      exact Or.inr ⟨h.1.symm, h0.1, h0.2, h.2.symm⟩
    · split at h
      · cases h
      · split at h
        · cases h
        · split at h
          · cases h
          · split at h
            · cases h
            · cases h
theorem q_OFone {o n d : String} {v v' : Value} {t : Nat} {A : Nat → Prop} {U : State} {H : Heap} (h : va_OF o n d v t A U H) (h' : va_OF o n d v' t A U H) : v = v' := by
  obtain ⟨cf, k, i, f, cell, h1, h2, h3, h4, h5, h6⟩ := h
  obtain ⟨cf', k', i', f', cell', g1, g2, g3, g4, g5, g6⟩ := h'
  rw [h1] at g1
  cases g1
  rw [h3] at g3
  cases g3
  rw [h5] at g5
  exact Option.some.inj g5
theorem q_Tone {ty : FieldType} {t N N' : Nat} {f f' : Nat → Value} {A : Nat → Prop} {U : State} {H : Heap} (hN : N < 2 ^ 31) (hN' : N' < 2 ^ 31) (h : va_T ty t N f A U H) (h' : va_T ty t N' f' A U H) : N = N' ∧ ∀ j, j < N → f j = f' j := by
  obtain ⟨cell, h1, h2, h3, h4, h5, h6, h7⟩ := h
  obtain ⟨cell', g1, g2, g3, g4, g5, g6, g7⟩ := h'
  rw [h1] at g1
  cases g1
  have e : N = N' := by
    have e1 : nI N = nI N' := h5.symm.trans g5
    exact (nI_eq hN hN').mp e1
  subst e
  refine ⟨rfl, fun j hj => ?_⟩
  have a1 := h6 j hj
  rw [g6 j hj] at a1
  exact (Option.some.inj a1).symm
set_option maxRecDepth 100000 in
theorem q_txne : (List.range 112).all (fun j => (List.range j).all (fun i => decide (qr_tx.getD i [] ≠ qr_tx.getD j []))) = true := by decide +kernel
theorem q_txinj {i j : Nat} (hi : i < 112) (hj : j < 112) (h : qr_tx.getD i [] = qr_tx.getD j []) : i = j := by
  rcases Nat.lt_trichotomy i j with q | q | q
  · have := List.all_eq_true.mp (List.all_eq_true.mp q_txne j (List.mem_range.mpr hj)) i (List.mem_range.mpr q)
    exact absurd h (of_decide_eq_true this)
  · exact q
  · have := List.all_eq_true.mp (List.all_eq_true.mp q_txne i (List.mem_range.mpr hi)) j (List.mem_range.mpr q)
    exact absurd h.symm (of_decide_eq_true this)
set_option maxRecDepth 100000 in
theorem q_txlen : (List.range 112).all (fun j => decide ((qr_tx.getD j []).length < 2 ^ 31)) = true := by decide +kernel
set_option maxRecDepth 100000 in
theorem q_yf : qr_yf = (List.range 104).map (fun i => ("QueryReader$Sort", qr_nm.getD i "", "LQueryReader$Sort;", Value.retAddr i)) ++ [("QueryReader", "SORTS", "[LQueryReader$Sort;", .retAddr 3000), ("QueryReader$1", "$SwitchMap$QueryReader$Sort", "[I", .retAddr 3001), ("java/lang/String", "COMPACT_STRINGS", "Z", .int 1), ("jdk/internal/util/Preconditions", "SIOOBE_FORMATTER", "Ljava/util/function/BiFunction;", .float 0)] := by decide +kernel
theorem q_lext {X Y : List Int32} (h : X.length = Y.length) (g : ∀ n, n < X.length → X.getD n 0 = Y.getD n 0) : X = Y := by
  refine List.ext_getElem h (fun n h1 h2 => ?_)
  have h5 := g n h1
  rw [List.getD_eq_getElem?_getD, List.getD_eq_getElem?_getD, List.getElem?_eq_getElem h1, List.getElem?_eq_getElem h2] at h5
  exact h5
/-- where the constants lie -/
def q_sa (aE aS aB : Nat → Nat) (so sw b : Nat) : Nat → Nat := fun k => if k < 104 then aE k else if k < 2000 then aS (k - 1000) else if k < 3000 then aB (k - 2000) else if k = 3000 then so else if k = 3001 then sw else b
section QSU
variable {args : Array Value} {s : State} {A : Nat → Prop}
set_option maxHeartbeats 1000000 in
/-- THE START: the constants stand somewhere, as the tables of the small machine say -/
theorem q_E (hts : ∀ w ∈ lw_tbl, w.before args s = true) (hs : ∀ w ∈ qr_NL, w.before args s = true) (hA : ∀ a : Nat, a < s.heap.size → ¬ A a) {b L : Nat} {xs : Nat → Int32} (hX : va_X b L xs s s.heap) (hL : L < 2 ^ 31) (hb : b < s.heap.size) : ∃ sa : Nat → Nat, sa 3002 = b ∧ ai_E (qr_Y L xs) sa A s s.heap ∧ ∀ i j ci fs fs', qr_Z L xs i = some (ai_obj ci fs) → qr_Z L xs j = some (ai_obj ci fs') → sa i = sa j → i = j := by
  obtain ⟨pS, hS⟩ := Classical.axiomOfChoice (q_str (A := A) hs hA)
  have hS1 : ∀ j, j < 112 → (qt_S (qr_rp.getD j ("", 0))).eval args s none [] s = some (.ref (pS j).1) := fun j hj => (hS j hj).1
  obtain ⟨aE, hE⟩ := Classical.axiomOfChoice (q_enum (A := A) (aS := fun j => (pS j).1) hs hA hS1)
  have hA0 := qn_A0
  simp only [qn_cA, Bool.and_eq_true] at hA0
  obtain ⟨z1, z2, z3, z4, z5, z6, z7, z8⟩ := hA0
  have hO : ∀ i, i < 14 → (qn_ow.getD i .tt).before args s = true := fun i hi => hts _ (qn_tb_in (List.all_eq_true.mp qn_T2 i (List.mem_range.mpr hi)))
  obtain ⟨so, so1, so2⟩ := va_Tof (A := A) (tm := qt_so) (N := 104) (f := fun j => .ref (aE j)) (by decide) (qn_ok hs z1) (va_eqt (qn_ok hs z2)) (fun j hj => va_eqv (qn_ok hs (List.all_eq_true.mp z3 j (List.mem_range.mpr hj))) (hE j hj).1) hA
  obtain ⟨sw, sw1, sw2⟩ := va_Tof (A := A) (tm := qt_sw) (N := 104) (f := fun j => .int (qr_sw.getD j 0)) (by decide) (qn_ok hs z4) (va_eqt (qn_ok hs z5)) (fun j hj => va_eqt (qn_ok hs (List.all_eq_true.mp z6 j (List.mem_range.mpr hj)))) hA
  have sE : ∀ i, i < 104 → q_sa aE (fun j => (pS j).1) (fun j => (pS j).2) so sw b i = aE i := fun i hi => by simp only [q_sa, if_pos hi]
  have sS : ∀ k, 1000 ≤ k → k < 1112 → q_sa aE (fun j => (pS j).1) (fun j => (pS j).2) so sw b k = (pS (k - 1000)).1 := fun k h1 h2 => by
    simp only [q_sa, if_neg (show ¬ k < 104 by omega), if_pos (show k < 2000 by omega)]
  have sB : ∀ k, 2000 ≤ k → k < 2112 → q_sa aE (fun j => (pS j).1) (fun j => (pS j).2) so sw b k = (pS (k - 2000)).2 := fun k h1 h2 => by
    simp only [q_sa, if_neg (show ¬ k < 104 by omega), if_neg (show ¬ k < 2000 by omega), if_pos (show k < 3000 by omega)]
  refine ⟨q_sa aE (fun j => (pS j).1) (fun j => (pS j).2) so sw b, rfl, ⟨?_, ?_, ?_, ?_, ?_, ?_⟩, ?_⟩
  · intro k x hk
    have hk : qr_Z L xs k = some x := hk
    unfold qr_Z at hk
    split at hk
    · rename_i h0
      cases hk
      rw [sE k h0]
      obtain ⟨e1, e2, e3, e4, e5, e6, e7⟩ := hE k h0
      refine ⟨e2, fun n v hn => ?_⟩
      match n, hn with
      | 0, hn => cases hn; exact ⟨_, rfl, e3⟩
      | 1, hn => cases hn; exact ⟨_, rfl, by rw [sS _ e5 e6]; exact e7⟩
      | 2, hn => cases hn; exact ⟨_, rfl, e4⟩
      | n + 3, hn => cases hn
    · split at hk
      · rename_i h0
        cases hk
        rw [sS k h0.1 h0.2]
        obtain ⟨e1, e2, e3, e4, e5⟩ := hS (k - 1000) (by omega)
        refine ⟨e2, fun n v hn => ?_⟩
        match n, hn with
        | 0, hn =>
          cases hn
          refine ⟨_, rfl, ?_⟩
          rw [sB (k + 1000) (by omega) (by omega)]
          have e : k + 1000 - 2000 = k - 1000 := by omega
          rw [e]
          exact e3
        | 1, hn => cases hn; exact ⟨_, rfl, e4⟩
        | n + 2, hn => cases hn
      · split at hk
        · rename_i h0
          cases hk
          rw [sB k h0.1 h0.2]
          exact (hS (k - 2000) (by omega)).2.2.2.2
        · split at hk
          · rename_i h0
            cases hk
            subst h0
            refine ⟨_, so2, fun j hj => ?_⟩
            show Value.ref (aE j) = .ref (q_sa aE (fun j => (pS j).1) (fun j => (pS j).2) so sw b j)
            rw [sE j hj]
          · split at hk
            · rename_i h0
              cases hk
              subst h0
              exact sw2
            · split at hk
              · rename_i h0
                cases hk
                subst h0
                obtain ⟨scr, x1, x2, x3, x4, x5⟩ := hX
                exact ⟨scr, x1, x2, x3, Nat.le_of_eq x4.symm, by rw [x4], x5, hA b hb⟩
              · cases hk
  · intro q hq
    obtain ⟨k1, k2, k3, k4⟩ := q_ent hs hS1 hq
    exact vk_R.of (A := args) (hts _ k3) (by rw [sS _ k1 k2]; exact k4)
  · intro q hq
    have hq : q ∈ qr_yf := hq
    rw [q_yf] at hq
    rcases List.mem_append.mp hq with hq | hq
    · obtain ⟨i, hi, rfl⟩ := List.mem_map.mp hq
      have hi : i < 104 := List.mem_range.mp hi
      refine ⟨.ref (aE i), by show Value.ref (aE i) = .ref _; rw [sE i hi], ?_⟩
      exact va_Zref (hts _ (qn_tb_in (List.all_eq_true.mp qn_T1 i (List.mem_range.mpr hi)))) (hO 0 (by decide)) (hE i hi).1 hA
    · simp only [List.mem_cons, List.not_mem_nil, or_false] at hq
      rcases hq with rfl | rfl | rfl | rfl
      · exact ⟨.ref so, rfl, va_Zref (hO 6 (by decide)) (hO 1 (by decide)) so1 hA⟩
      · exact ⟨.ref sw, rfl, va_Zref (hO 7 (by decide)) (hO 2 (by decide)) sw1 hA⟩
      · exact ⟨.int 1, rfl, va_Zof (hO 8 (by decide)) (hO 3 (by decide)) (va_eqt (qn_ok hs z7)) hA⟩
      · rcases va_Zqof (hO 9 (by decide)) (hO 4 (by decide)) (qn_ok hs z8) hA with h | ⟨t, h⟩
        · exact ⟨.null, Or.inl rfl, h⟩
        · exact ⟨.ref t, Or.inr ⟨t, rfl⟩, h⟩
  · intro w hw
    have h3 := qn_T3
    rw [Bool.and_eq_true] at h3
    have hw : w ∈ qr_yw := hw
    simp only [qr_yw, List.mem_cons, List.not_mem_nil, or_false] at hw
    rcases hw with rfl | rfl | rfl | rfl
    · exact ai_stay_isRef (hO 10 (by decide)) (hO 5 (by decide)) (qn_ok hs h3.1) hA
    · exact ai_stay_isRef (hO 11 (by decide)) (hO 5 (by decide)) (qn_ok hs h3.2) hA
    · exact ai_stay_lays (hO 10 (by decide)) hA
    · exact ai_stay_lays (hO 11 (by decide)) hA
  · exact va_AO.of (A := args) (hO 12 (by decide))
  · exact va_AO.of (A := args) (hO 13 (by decide))
  · intro i j ci fs fs' hi hj he
    rcases q_Zobj hi with ⟨c1, i1, -⟩ | ⟨c1, i1, i2, -⟩
    · rcases q_Zobj hj with ⟨c2, j1, -⟩ | ⟨c2, j1, j2, -⟩
      · rw [sE i i1, sE j j1] at he
        have h1 := (hE i i1).2.2.1
        have h2 := (hE j j1).2.2.1
        rw [he] at h1
        have h3 := q_OFone h1 h2
        have h4 : nI i = nI j := Value.int.inj h3
        exact (nI_eq (by omega) (by omega)).mp h4
      · omega
    · rcases q_Zobj hj with ⟨c2, j1, -⟩ | ⟨c2, j1, j2, -⟩
      · omega
      · rw [sS i i1 i2, sS j j1 j2] at he
        obtain ⟨-, -, e3, -, e5⟩ := hS (i - 1000) (by omega)
        obtain ⟨-, -, f3, -, f5⟩ := hS (j - 1000) (by omega)
        rw [he] at e3
        have h3 := q_OFone e3 f3
        have h4 : (pS (i - 1000)).2 = (pS (j - 1000)).2 := Value.ref.inj h3
        rw [h4] at e5
        have l1 := of_decide_eq_true (List.all_eq_true.mp q_txlen (i - 1000) (List.mem_range.mpr (by omega)))
        have l2 := of_decide_eq_true (List.all_eq_true.mp q_txlen (j - 1000) (List.mem_range.mpr (by omega)))
        obtain ⟨g1, g2⟩ := q_Tone l1 l2 e5 f5
        have g3 : qr_tx.getD (i - 1000) [] = qr_tx.getD (j - 1000) [] := q_lext g1 (fun n hn => Value.int.inj (g2 n hn))
        have := q_txinj (by omega) (by omega) g3
        omega
end QSU
