/-! KEYWORDS: the class's search. (Printed by wip/whole/pp.py from wip/whole/src.) -/
section QKE
variable {L : Nat} {xs : Nat → Int32} {d : Nat} {h h' : ai_H} {r b len : Nat} {t : List Int32}
theorem zord_0 : ∀ {u w : List Int32}, zord u w = 0 ↔ u = w := by
  intro u
  induction u with
  | nil => intro w; cases w with
    | nil => simp [zord]
    | cons c w => simp [zord]
  | cons a u ih => intro w; cases w with
    | nil => simp [zord]
    | cons c w =>
      simp only [zord, List.cons.injEq]
      by_cases h1 : a = c
      · rw [if_pos h1, ih]; simp [h1]
      · rw [if_neg h1]
        constructor
        · intro h; split at h <;> cases h
        · intro h; exact absurd h.1 h1
theorem zord_tr : ∀ {u v w : List Int32}, zord u v < 0 → zord v w < 0 → zord u w < 0 := by
  intro u
  induction u with
  | nil => intro v w h1 h2; cases v with
    | nil => simp [zord] at h1
    | cons c v => cases w with
      | nil => simp [zord] at h2
      | cons a w => simp [zord]
  | cons a u ih => intro v w h1 h2; cases v with
    | nil => simp [zord] at h1
    | cons c v => cases w with
      | nil => simp [zord] at h2
      | cons f w =>
        simp only [zord] at h1 h2 ⊢
        by_cases hac : a = c
        · rw [if_pos hac] at h1
          by_cases hcf : c = f
          · rw [if_pos hcf] at h2
            rw [if_pos (hac.trans hcf)]
            exact ih h1 h2
          · rw [if_neg hcf] at h2
            rw [hac, if_neg hcf]
            exact h2
        · rw [if_neg hac] at h1
          have l1 : a < c := by
            by_cases l : a < c
            · exact l
            · rw [if_neg l] at h1; exact absurd h1 (by decide)
          by_cases hcf : c = f
          · rw [← hcf, if_neg hac, if_pos l1]; decide
          · rw [if_neg hcf] at h2
            have l2 : c < f := by
              by_cases l : c < f
              · exact l
              · rw [if_neg l] at h2; exact absurd h2 (by decide)
            have l3 : a < f := Int32.lt_trans l1 l2
            rw [if_neg (fun e => Int32.lt_irrefl (e ▸ l3)), if_pos l3]; decide
theorem zord_sw : ∀ {u w : List Int32}, 0 < zord u w ↔ zord w u < 0 := by
  intro u
  induction u with
  | nil => intro w; cases w with
    | nil => simp [zord]
    | cons c w => simp [zord]
  | cons a u ih => intro w; cases w with
    | nil => simp [zord]
    | cons c w =>
      simp only [zord]
      by_cases h1 : a = c
      · rw [if_pos h1, if_pos h1.symm]; exact ih
      · rw [if_neg h1, if_neg (show ¬ c = a from fun e => h1 e.symm)]
        by_cases l : a < c
        · rw [if_pos l, if_neg (show ¬ c < a from fun q => Int32.lt_irrefl (Int32.lt_trans l q))]; decide
        · have l2 : c < a := by
            rcases Int32.lt_or_eq_of_le (Int32.not_lt.mp l) with q | q
            · exact q
            · exact absurd q.symm h1
          rw [if_neg l, if_pos l2]; decide
set_option maxRecDepth 100000 in
theorem zkey_so0 : (List.range 81).all (fun k => decide (zord (zw k) (zw (k + 1)) < 0)) = true := by decide +kernel
theorem zkey_so {k m : Nat} (h1 : k < m) (h2 : m < 82) : zord (zw k) (zw m) < 0 := by
  induction m with
  | zero => omega
  | succ m ih =>
    have h := of_decide_eq_true (List.all_eq_true.mp zkey_so0 m (List.mem_range.mpr (by omega)))
    rcases Nat.lt_or_ge k m with q | q
    · exact zord_tr (ih q (by omega)) h
    · have : k = m := by omega
      rw [this]; exact h
theorem zkey_at {u : List Int32} {m : Nat} (hm : m < 82) (hu : zw m = u) : zkey u = m := by
  unfold zkey
  have h1 : (List.range 82).find? (fun k => decide (zw k = u)) = some m := by
    rw [List.find?_range_eq_some]
    refine ⟨decide_eq_true hu, List.mem_range.mpr hm, fun k hkm => ?_⟩
    · have := zkey_so hkm hm
      rw [hu] at this
      simp only [Bool.not_eq_true', decide_eq_false_iff_not]
      intro e
      rw [e, zord_0.mpr rfl] at this
      exact absurd this (by decide)
  rw [h1]; rfl
theorem zkey_no {u : List Int32} (hu : ∀ k, k < 82 → zw k ≠ u) : zkey u = 99 := by
  unfold zkey
  have h1 : (List.range 82).find? (fun k => decide (zw k = u)) = none := by
    rw [List.find?_eq_none]
    intro k hk
    simp only [decide_eq_true_eq]
    exact hu k (List.mem_range.mp hk)
  rw [h1]; rfl
/-- bytes, less and more -/
theorem nI_neg0 : (List.range 300).all (fun k => decide (k = 0 ∨ (-(nI k) < 0 ∧ ¬ -(nI k) = 0))) = true := by decide +kernel
theorem nI_subs {a c : Nat} (ha : a < 300) (hc : c < 300) : (nI a - nI c = 0 ↔ a = c) ∧ (nI a - nI c < 0 ↔ a < c) := by
  by_cases h1 : c ≤ a
  · rw [nI_sub h1]
    have p := nI_pos (n := a - c) (by omega)
    refine ⟨?_, ?_⟩
    · rw [show (0 : Int32) = nI 0 from rfl, nI_eq (by omega) (by decide)]; omega
    · constructor
      · intro q; exact absurd q p
      · intro q; omega
  · have h2 : nI a - nI c = -(nI (c - a)) := by
      rw [← nI_sub (a := c) (b := a) (by omega), Int32.neg_sub]
    have h3 := of_decide_eq_true (List.all_eq_true.mp nI_neg0 (c - a) (List.mem_range.mpr (by omega)))
    rw [h2]
    rcases h3 with q | ⟨q1, q2⟩
    · omega
    · exact ⟨⟨fun q => absurd q q2, fun q => by omega⟩, ⟨fun _ => by omega, fun _ => q1⟩⟩
/-- the answer's sign tells which comes first -/
def zsg (x : Int32) (u w : List Int32) : Prop := (x = 0 ↔ zord u w = 0) ∧ (x < 0 ↔ zord u w < 0)
theorem zgr0 : (List.range 256).all (fun m => decide (zgreat (nI m) = nI (if 97 ≤ m ∧ m ≤ 122 then m - 32 else m))) = true := by decide +kernel
theorem zgr {m : Nat} (hm : m < 256) : ∃ m', m' < 256 ∧ zgreat (nI m) = nI m' := by
  refine ⟨_, ?_, of_decide_eq_true (List.all_eq_true.mp zgr0 m (List.mem_range.mpr hm))⟩
  split <;> omega
theorem zchr0 : (List.range 112).all (fun c => (qr_tx.getD c []).all (fun v => decide (v = nI v.toNatClampNeg ∧ v.toNatClampNeg < 256))) = true := by decide +kernel
theorem zchr {c j : Nat} (h1 : 1000 ≤ c) (h2 : c < 1112) (hj : j < (zt c).length) : ∃ m, m < 256 ∧ (zt c).getD j 0 = nI m := by
  have h := List.all_eq_true.mp (List.all_eq_true.mp zchr0 (c - 1000) (List.mem_range.mpr (by omega))) ((zt c).getD j 0) (by
    show (zt c).getD j 0 ∈ zt c
    rw [List.getD_eq_getElem?_getD, List.getElem?_eq_getElem hj]
    exact List.getElem_mem hj)
  have := of_decide_eq_true h
  exact ⟨_, this.2, this.1⟩
theorem zup_len {t : List Int32} {f z : Nat} (h1 : f ≤ z) (h2 : z ≤ t.length) : (zup t f z).length = z - f := by
  unfold zup
  rw [List.length_map, List.length_take, List.length_drop]; omega
theorem zup_at {t : List Int32} {f z i : Nat} (h2 : z ≤ t.length) (hi : f + i < z) : (zup t f z).drop i = zgreat (zat t (f + i)) :: (zup t f z).drop (i + 1) := by
  have hl : i < (zup t f z).length := by rw [zup_len (by omega) h2]; omega
  rw [drop_cons (x := 0) hl]
  congr 1
  rw [zat_lt (by omega)]
  unfold zup
  rw [List.getD_eq_getElem?_getD, List.getElem?_map, List.getElem?_take_of_lt (by omega), List.getElem?_drop, List.getElem?_eq_getElem (by omega), List.getD_eq_getElem?_getD, List.getElem?_eq_getElem (by omega)]
  rfl
/-- Tokens.order -/
theorem q_ordl (hr : qrow h r b len t) (hl : t.length ≤ 1048576) {c f z : Nat} (c1 : 1000 ≤ c) (c2 : c < 1112) (hfz : f ≤ z) (hz : z ≤ t.length) (hz3 : z - f ≤ 30) : ∀ (n i : Nat) (x5 x6 : Option Value), (zt c).length - i = n → i ≤ (zt c).length → f + i ≤ z → ∃ x, qg L xs (d + 4) qm_17 2 [some (.ref r), some (.int (nI f)), some (.int (nI z)), some (.retAddr c), some (.int (nI i)), x5, x6] [] h (.inl (some (.int x)), h) ∧ zsg x ((zup t f z).drop i) ((zt c).drop i) := by
  have hcl := zt_len c1 c2
  have hul := zup_len hfz hz
  have hob : ai_look (qr_Z L xs) h.1 (.retAddr c) = some (ai_obj 7 [.retAddr (c + 1000), .int 0]) := qZ_str c1 c2
  have fin : ∀ (i : Nat) (x5 x6 : Option Value), f + i ≤ z → (i = (zt c).length ∨ f + i = z) → i ≤ (zt c).length → qg L xs (d + 4) qm_17 44 [some (.ref r), some (.int (nI f)), some (.int (nI z)), some (.retAddr c), some (.int (nI i)), x5, x6] [] h (.inl (some (.int (nI (z - f) - nI (zt c).length))), h) ∧ zsg (nI (z - f) - nI (zt c).length) ((zup t f z).drop i) ((zt c).drop i) := by
    intro i x5 x6 hi hor hi2
    refine ⟨?_, ?_⟩
    · skip
      refine qg_pls (n := 4) (k' := 48) (lo' := [some (.ref r), some (.int (nI f)), some (.int (nI z)), some (.retAddr c), some (.int (nI i)), x5, x6]) (S' := [.retAddr c, .int ((nI z) - (nI f))]) (h' := h) rfl ?_
      refine qg_call (v := some (.int (nI (zt c).length))) (h' := h) (as := [.retAddr c]) rfl rfl rfl rfl rfl rfl rfl (ai_rcv1 rfl rfl hob) (q_slen (d := d + 2) c1 c2) ?_
      show qg L xs _ qm_17 49 [some (.ref r), some (.int (nI f)), some (.int (nI z)), some (.retAddr c), some (.int (nI i)), x5, x6] [.int (nI (zt c).length), .int ((nI z) - (nI f))] h _
      rw [show nI z - nI f = nI (z - f) from nI_sub hfz]
      refine qg_pls (n := 1) (k' := 50) (lo' := [some (.ref r), some (.int (nI f)), some (.int (nI z)), some (.retAddr c), some (.int (nI i)), x5, x6]) (S' := [.int ((nI (z - f)) - (nI (zt c).length))]) (h' := h) rfl ?_
      exact qg_ret5 rfl rfl rfl
    · obtain ⟨s1, s2⟩ := nI_subs (a := z - f) (c := (zt c).length) (by omega) (by omega)
      unfold zsg
      rw [s1, s2]
      rcases Nat.lt_or_ge i (zt c).length with hlt | hge
      · have e1 : (zup t f z).drop i = [] := List.drop_eq_nil_of_le (by omega)
        rw [e1, drop_cons (x := 0) hlt]
        simp only [zord]
        constructor
        · constructor
          · intro q; omega
          · intro q; exact absurd q (by decide)
        · constructor
          · intro q; decide
          · intro q; omega
      · rw [List.drop_eq_nil_of_le hge]
        rcases Nat.lt_or_ge i (zup t f z).length with hlt2 | hge2
        · rw [drop_cons (x := 0) hlt2]
          simp only [zord]
          constructor
          · constructor
            · intro q; omega
            · intro q; exact absurd q (by decide)
          · constructor
            · intro q; omega
            · intro q; exact absurd q (by decide)
        · rw [List.drop_eq_nil_of_le hge2]
          simp only [zord]
          constructor
          · constructor
            · intro q; trivial
            · intro q; omega
          · constructor
            · intro q; omega
            · intro q; exact absurd q (by decide)
  intro n
  induction n with
  | zero =>
    intro i x5 x6 hn hi hfi
    obtain ⟨f1, f2⟩ := fin i x5 x6 hfi (Or.inl (by omega)) hi
    refine ⟨_, ?_, f2⟩
    refine qg_pls (n := 2) (k' := 4) (lo' := [some (.ref r), some (.int (nI f)), some (.int (nI z)), some (.retAddr c), some (.int (nI i)), x5, x6]) (S' := [.retAddr c, .int (nI i)]) (h' := h) rfl ?_
    refine qg_call (v := some (.int (nI (zt c).length))) (h' := h) (as := [.retAddr c]) rfl rfl rfl rfl rfl rfl rfl (ai_rcv1 rfl rfl hob) (q_slen (d := d + 2) c1 c2) ?_
    show qg L xs _ qm_17 5 [some (.ref r), some (.int (nI f)), some (.int (nI z)), some (.retAddr c), some (.int (nI i)), x5, x6] [.int (nI (zt c).length), .int (nI i)] h _
    refine qg_icmp true rfl (qc_geT (by omega) (by omega)) rfl ?_
    exact f1
  | succ n ih =>
    intro i x5 x6 hn hi hfi
    by_cases hend : f + i = z
    · obtain ⟨f1, f2⟩ := fin i x5 x6 hfi (Or.inr hend) hi
      refine ⟨_, ?_, f2⟩
      refine qg_pls (n := 2) (k' := 4) (lo' := [some (.ref r), some (.int (nI f)), some (.int (nI z)), some (.retAddr c), some (.int (nI i)), x5, x6]) (S' := [.retAddr c, .int (nI i)]) (h' := h) rfl ?_
      refine qg_call (v := some (.int (nI (zt c).length))) (h' := h) (as := [.retAddr c]) rfl rfl rfl rfl rfl rfl rfl (ai_rcv1 rfl rfl hob) (q_slen (d := d + 2) c1 c2) ?_
      show qg L xs _ qm_17 5 [some (.ref r), some (.int (nI f)), some (.int (nI z)), some (.retAddr c), some (.int (nI i)), x5, x6] [.int (nI (zt c).length), .int (nI i)] h _
      refine qg_icmp false rfl (qc_geF (by omega) (by omega)) rfl ?_
      refine qg_pls (n := 4) (k' := 10) (lo' := [some (.ref r), some (.int (nI f)), some (.int (nI z)), some (.retAddr c), some (.int (nI i)), x5, x6]) (S' := [.int (nI z), .int ((nI f) + (nI i))]) (h' := h) rfl ?_
      rw [show nI f + nI i = nI (f + i) from nI_add f i]
      refine qg_icmp true rfl (qc_geT (by omega) (by omega)) rfl ?_
      exact f1
    · have hzat : ∃ m, m < 256 ∧ zat t (f + i) = nI m := by
        rcases zat_nI t (f + i) with ⟨-, q⟩ | ⟨-, q⟩
        · exact absurd (by omega) q
        · exact q
      obtain ⟨m1, hm1, em1⟩ := hzat
      obtain ⟨g1, hg1, eg1⟩ := zgr hm1
      obtain ⟨m2, hm2, em2⟩ := zchr c1 c2 (show i < (zt c).length by omega)
      have road : ∀ o, qg L xs (d + 4) qm_17 31 [some (.ref r), some (.int (nI f)), some (.int (nI z)), some (.retAddr c), some (.int (nI i)), some (.int (zat t (f + i))), some (.int (zgreat (zat t (f + i))))] [] h o → qg L xs (d + 4) qm_17 2 [some (.ref r), some (.int (nI f)), some (.int (nI z)), some (.retAddr c), some (.int (nI i)), x5, x6] [] h o := by
        intro o hg
        refine qg_pls (n := 2) (k' := 4) (lo' := [some (.ref r), some (.int (nI f)), some (.int (nI z)), some (.retAddr c), some (.int (nI i)), x5, x6]) (S' := [.retAddr c, .int (nI i)]) (h' := h) rfl ?_
        refine qg_call (v := some (.int (nI (zt c).length))) (h' := h) (as := [.retAddr c]) rfl rfl rfl rfl rfl rfl rfl (ai_rcv1 rfl rfl hob) (qe_up (by omega) (q_slen (d := d) c1 c2)) ?_
        show qg L xs _ qm_17 5 [some (.ref r), some (.int (nI f)), some (.int (nI z)), some (.retAddr c), some (.int (nI i)), x5, x6] [.int (nI (zt c).length), .int (nI i)] h _
        refine qg_icmp false rfl (qc_geF (by omega) (by omega)) rfl ?_
        refine qg_pls (n := 4) (k' := 10) (lo' := [some (.ref r), some (.int (nI f)), some (.int (nI z)), some (.retAddr c), some (.int (nI i)), x5, x6]) (S' := [.int (nI z), .int ((nI f) + (nI i))]) (h' := h) rfl ?_
        rw [show nI f + nI i = nI (f + i) from nI_add _ i]
        refine qg_icmp false rfl (qc_geF (by omega) (by omega)) rfl ?_
        refine qg_pls (n := 4) (k' := 15) (lo' := [some (.ref r), some (.int (nI f)), some (.int (nI z)), some (.retAddr c), some (.int (nI i)), x5, x6]) (S' := [.int ((nI f) + (nI i)), .ref r]) (h' := h) rfl ?_
        rw [show nI f + nI i = nI (f + i) from nI_add _ i]
        refine qg_call (v := some (.int (zat t (f + i)))) (h' := h) (as := [.ref r, .int (nI (f + i))]) rfl rfl rfl rfl rfl rfl rfl (ai_rcv1 rfl rfl (qrow_obj hr)) (qe_up (by omega) (q_at (d := d) hr (by omega))) ?_
        show qg L xs _ qm_17 16 [some (.ref r), some (.int (nI f)), some (.int (nI z)), some (.retAddr c), some (.int (nI i)), x5, x6] [.int (zat t (f + i))] h _
        refine qg_pls (n := 3) (k' := 19) (lo' := [some (.ref r), some (.int (nI f)), some (.int (nI z)), some (.retAddr c), some (.int (nI i)), some (.int (zat t (f + i))), x6]) (S' := [.int 97, .int (zat t (f + i))]) (h' := h) rfl ?_
        by_cases c1 : (zat t (f + i)) < 97
        · skip
          refine qg_icmp true rfl (qb_ltT c1) rfl ?_
          refine qg_pls (n := 2) (k' := 31) (lo' := [some (.ref r), some (.int (nI f)), some (.int (nI z)), some (.retAddr c), some (.int (nI i)), some (.int (zat t (f + i))), some (.int (zat t (f + i)))]) (S' := []) (h' := h) rfl ?_
          rw [show zgreat (zat t (f + i)) = (zat t (f + i)) from by simp [zgreat, c1]] at hg
          exact hg
        · skip
          refine qg_icmp false rfl (qb_ltF c1) rfl ?_
          refine qg_pls (n := 2) (k' := 22) (lo' := [some (.ref r), some (.int (nI f)), some (.int (nI z)), some (.retAddr c), some (.int (nI i)), some (.int (zat t (f + i))), x6]) (S' := [.int 122, .int (zat t (f + i))]) (h' := h) rfl ?_
          by_cases c2 : 122 < (zat t (f + i))
          · skip
            refine qg_icmp true rfl (qb_gtT c2) rfl ?_
            refine qg_pls (n := 2) (k' := 31) (lo' := [some (.ref r), some (.int (nI f)), some (.int (nI z)), some (.retAddr c), some (.int (nI i)), some (.int (zat t (f + i))), some (.int (zat t (f + i)))]) (S' := []) (h' := h) rfl ?_
            rw [show zgreat (zat t (f + i)) = (zat t (f + i)) from by simp [zgreat, c1, c2]] at hg
            exact hg
          · skip
            refine qg_icmp false rfl (qb_gtF c2) rfl ?_
            refine qg_pls (n := 7) (k' := 31) (lo' := [some (.ref r), some (.int (nI f)), some (.int (nI z)), some (.retAddr c), some (.int (nI i)), some (.int (zat t (f + i))), some (.int (((zat t (f + i)) - 97) + 65))]) (S' := []) (h' := h) rfl ?_
            rw [show zgreat (zat t (f + i)) = (((zat t (f + i)) - 97) + 65) from by simp [zgreat, c1, c2]] at hg
            exact hg
      rw [zup_at hz (by omega), drop_cons (x := 0) (show i < (zt c).length by omega)]
      by_cases heq : zgreat (zat t (f + i)) = (zt c).getD i 0
      · obtain ⟨x, k1, k2⟩ := ih (i + 1) (some (.int (zat t (f + i)))) (some (.int (zgreat (zat t (f + i))))) (by omega) (by omega) (by omega)
        refine ⟨x, road _ ?_, ?_⟩
        · skip
          refine qg_pls (n := 3) (k' := 34) (lo' := [some (.ref r), some (.int (nI f)), some (.int (nI z)), some (.retAddr c), some (.int (nI i)), some (.int (zat t (f + i))), some (.int (zgreat (zat t (f + i))))]) (S' := [.int (nI i), .retAddr c, .int (zgreat (zat t (f + i)))]) (h' := h) rfl ?_
          refine qg_call (v := some (.int ((zt c).getD i 0))) (h' := h) (as := [.retAddr c, .int (nI i)]) rfl rfl rfl rfl rfl rfl rfl (ai_rcv1 rfl rfl hob) (q_char (d := d) c1 c2 (by omega)) ?_
          show qg L xs _ qm_17 35 [some (.ref r), some (.int (nI f)), some (.int (nI z)), some (.retAddr c), some (.int (nI i)), some (.int (zat t (f + i))), some (.int (zgreat (zat t (f + i))))] [.int ((zt c).getD i 0), .int (zgreat (zat t (f + i)))] h _
          refine qg_icmp true rfl (qb_eqT heq) rfl ?_
          refine qg_pls (n := 2) (k' := 2) (lo' := [some (.ref r), some (.int (nI f)), some (.int (nI z)), some (.retAddr c), some (.int ((nI i) + 1)), some (.int (zat t (f + i))), some (.int (zgreat (zat t (f + i))))]) (S' := []) (h' := h) rfl ?_
          rw [nI_1]
          exact k1
        · unfold zsg
          simp only [zord]
          rw [if_pos heq]
          exact k2
      · refine ⟨zgreat (zat t (f + i)) - (zt c).getD i 0, road _ ?_, ?_⟩
        · skip
          refine qg_pls (n := 3) (k' := 34) (lo' := [some (.ref r), some (.int (nI f)), some (.int (nI z)), some (.retAddr c), some (.int (nI i)), some (.int (zat t (f + i))), some (.int (zgreat (zat t (f + i))))]) (S' := [.int (nI i), .retAddr c, .int (zgreat (zat t (f + i)))]) (h' := h) rfl ?_
          refine qg_call (v := some (.int ((zt c).getD i 0))) (h' := h) (as := [.retAddr c, .int (nI i)]) rfl rfl rfl rfl rfl rfl rfl (ai_rcv1 rfl rfl hob) (q_char (d := d) c1 c2 (by omega)) ?_
          show qg L xs _ qm_17 35 [some (.ref r), some (.int (nI f)), some (.int (nI z)), some (.retAddr c), some (.int (nI i)), some (.int (zat t (f + i))), some (.int (zgreat (zat t (f + i))))] [.int ((zt c).getD i 0), .int (zgreat (zat t (f + i)))] h _
          refine qg_icmp false rfl (qb_eqF heq) rfl ?_
          refine qg_pls (n := 3) (k' := 39) (lo' := [some (.ref r), some (.int (nI f)), some (.int (nI z)), some (.retAddr c), some (.int (nI i)), some (.int (zat t (f + i))), some (.int (zgreat (zat t (f + i))))]) (S' := [.int (nI i), .retAddr c, .int (zgreat (zat t (f + i)))]) (h' := h) rfl ?_
          refine qg_call (v := some (.int ((zt c).getD i 0))) (h' := h) (as := [.retAddr c, .int (nI i)]) rfl rfl rfl rfl rfl rfl rfl (ai_rcv1 rfl rfl hob) (q_char (d := d) c1 c2 (by omega)) ?_
          show qg L xs _ qm_17 40 [some (.ref r), some (.int (nI f)), some (.int (nI z)), some (.retAddr c), some (.int (nI i)), some (.int (zat t (f + i))), some (.int (zgreat (zat t (f + i))))] [.int ((zt c).getD i 0), .int (zgreat (zat t (f + i)))] h _
          refine qg_pls (n := 1) (k' := 41) (lo' := [some (.ref r), some (.int (nI f)), some (.int (nI z)), some (.retAddr c), some (.int (nI i)), some (.int (zat t (f + i))), some (.int (zgreat (zat t (f + i))))]) (S' := [.int ((zgreat (zat t (f + i))) - ((zt c).getD i 0))]) (h' := h) rfl ?_
          exact qg_ret5 rfl rfl rfl
        · unfold zsg
          simp only [zord]
          rw [if_neg heq]
          rw [em1, eg1, em2] at heq ⊢
          obtain ⟨s1, s2⟩ := nI_subs (a := g1) (c := m2) (by omega) (by omega)
          rw [s1, s2]
          have hne : g1 ≠ m2 := fun q => heq (by rw [q])
          by_cases hlt : g1 < m2
          · rw [if_pos (nI_lt hlt (by omega))]
            exact ⟨⟨fun q => absurd q hne, fun q => absurd q (by decide)⟩, ⟨fun _ => by decide, fun _ => hlt⟩⟩
          · rw [if_neg (nI_nlt (by omega) (by omega))]
            exact ⟨⟨fun q => absurd q hne, fun q => absurd q (by decide)⟩, ⟨fun q => absurd q hlt, fun q => absurd q (by decide)⟩⟩
theorem q_order (hr : qrow h r b len t) (hl : t.length ≤ 1048576) {c f z : Nat} (c1 : 1000 ≤ c) (c2 : c < 1112) (hfz : f ≤ z) (hz : z ≤ t.length) (hz3 : z - f ≤ 30) : ∃ x, qe L xs (d + 5) 17 [.ref r, .int (nI f), .int (nI z), .retAddr c] h (.inl (some (.int x)), h) ∧ zsg x (zup t f z) (zt c) := by
  obtain ⟨x, k1, k2⟩ := q_ordl (L := L) (xs := xs) (d := d) hr hl c1 c2 hfz hz hz3 _ 0 none none rfl (Nat.zero_le _) hfz
  refine ⟨x, ?_, k2⟩
  refine qe_of (M := qm_17) rfl rfl ?_
  show qg L xs _ qm_17 0 [some (.ref r), some (.int (nI f)), some (.int (nI z)), some (.retAddr c), none, none, none] [] h _
  refine qg_pls (n := 2) (k' := 2) (lo' := [some (.ref r), some (.int (nI f)), some (.int (nI z)), some (.retAddr c), some (.int 0), none, none]) (S' := []) (h' := h) rfl ?_
  exact k1
theorem zhalf0 : (List.range 200).all (fun s => decide (((nI s).toUInt32 >>> (Int32.toUInt32 1 &&& Int32.toUInt32 31)).toInt32 = nI (s / 2))) = true := by decide +kernel
theorem zhalf {s : Nat} (hs : s < 200) : ((nI s).toUInt32 >>> (Int32.toUInt32 1 &&& Int32.toUInt32 31)).toInt32 = nI (s / 2) := of_decide_eq_true (List.all_eq_true.mp zhalf0 s (List.mem_range.mpr hs))
theorem qZ_so : ai_look (qr_Z L xs) h.1 (.retAddr 3000) = some (ai_refs "QueryReader$Sort" 104 (fun j => .retAddr j)) := rfl
/-- Tokens.keywordOrName -/
theorem q_keyl (hr : qrow h r b len t) (hl : t.length ≤ 1048576) {f z : Nat} (hfz : f ≤ z) (hz : z ≤ t.length) (hz3 : z - f ≤ 30) : ∀ (n lo hi i : Nat) (x6 x7 : Option Value), hi - lo = n → lo ≤ hi → hi ≤ 82 → i + (hi - lo) ≤ 82 → (∀ k, k < lo → 0 < zord (zup t f z) (zw k)) → (∀ k, hi ≤ k → k < 82 → zord (zup t f z) (zw k) < 0) → qg L xs (d + 5) qm_16 6 [some (.ref r), some (.int (nI f)), some (.int (nI z)), some (.int (nI lo)), some (.int (nI hi)), some (.int (nI i)), x6, x7] [] h (.inl (some (.retAddr (zkey (zup t f z)))), h) := by
  intro n
  induction n using Nat.strongRecOn with
  | _ n ih =>
    intro lo hi i x6 x7 hn hlh hh hi82 hlow hhigh
    by_cases hlt : lo < hi
    · have hm : (lo + hi) / 2 < 104 := by omega
      have hm2 : lo ≤ (lo + hi) / 2 ∧ (lo + hi) / 2 < hi := by omega
      have hen := q_enr hm
      have hob : ai_look (qr_Z L xs) h.1 (.retAddr ((lo + hi) / 2)) = some (ai_obj 6 [.int (Int32.ofNat ((lo + hi) / 2)), .retAddr (qr_en.getD ((lo + hi) / 2) (0, 0)).1, .int (qr_en.getD ((lo + hi) / 2) (0, 0)).2]) := qZ_en hm
      obtain ⟨x, k1, k2⟩ := q_order (L := L) (xs := xs) (d := d) hr hl hen.1 hen.2.1 hfz hz hz3
      have k2 : zsg x (zup t f z) (zw ((lo + hi) / 2)) := k2
      refine qg_pls (n := 2) (k' := 8) (lo' := [some (.ref r), some (.int (nI f)), some (.int (nI z)), some (.int (nI lo)), some (.int (nI hi)), some (.int (nI i)), x6, x7]) (S' := [.int 82, .int (nI i)]) (h' := h) rfl ?_
      refine qg_icmp false rfl (qc_geF (b := 82) (by omega) (by decide)) rfl ?_
      refine qg_pls (n := 2) (k' := 11) (lo' := [some (.ref r), some (.int (nI f)), some (.int (nI z)), some (.int (nI lo)), some (.int (nI hi)), some (.int (nI i)), x6, x7]) (S' := [.int (nI hi), .int (nI lo)]) (h' := h) rfl ?_
      refine qg_icmp false rfl (qc_geF hlt (by omega)) rfl ?_
      refine qg_pls (n := 2) (k' := 14) (lo' := [some (.ref r), some (.int (nI f)), some (.int (nI z)), some (.int (nI lo)), some (.int (nI hi)), some (.int (nI i)), x6, x7]) (S' := [.retAddr 3000, .int (nI hi)]) (h' := h) rfl ?_
      refine qg_alenq rfl qZ_so ?_
      refine qg_icmp false rfl (qc_gtF (b := 104) (by omega) (by decide)) rfl ?_
      refine qg_pls (n := 4) (k' := 20) (lo' := [some (.ref r), some (.int (nI f)), some (.int (nI z)), some (.int (nI lo)), some (.int (nI hi)), some (.int (nI i)), x6, x7]) (S' := [.int 1, .int ((nI lo) + (nI hi))]) (h' := h) rfl ?_
      rw [show nI lo + nI hi = nI (lo + hi) from nI_add lo hi]
      refine qg_pls (n := 1) (k' := 21) (lo' := [some (.ref r), some (.int (nI f)), some (.int (nI z)), some (.int (nI lo)), some (.int (nI hi)), some (.int (nI i)), x6, x7]) (S' := [.int (Int32.toUInt32 (nI (lo + hi)) >>> (Int32.toUInt32 1 &&& Int32.toUInt32 31)).toInt32]) (h' := h) rfl ?_
      rw [zhalf (s := lo + hi) (by omega)]
      refine qg_pls (n := 6) (k' := 27) (lo' := [some (.ref r), some (.int (nI f)), some (.int (nI z)), some (.int (nI lo)), some (.int (nI hi)), some (.int (nI i)), some (.int (nI ((lo + hi) / 2))), x7]) (S' := [.int (nI ((lo + hi) / 2)), .retAddr 3000, .int (nI z), .int (nI f), .ref r]) (h' := h) rfl ?_
      refine qg_aald rfl qZ_so (by omega) (by decide) (rfl) ?_
      refine qg_getf (v := .retAddr (qr_en.getD ((lo + hi) / 2) (0, 0)).1) rfl hob rfl rfl rfl ?_
      refine qg_call (v := some (.int x)) (h' := h) (as := [.ref r, .int (nI f), .int (nI z), .retAddr (qr_en.getD ((lo + hi) / 2) (0, 0)).1]) rfl rfl rfl rfl rfl rfl rfl rfl (k1) ?_
      show qg L xs _ qm_16 30 [some (.ref r), some (.int (nI f)), some (.int (nI z)), some (.int (nI lo)), some (.int (nI hi)), some (.int (nI i)), some (.int (nI ((lo + hi) / 2))), x7] [.int x] h _
      refine qg_pls (n := 2) (k' := 32) (lo' := [some (.ref r), some (.int (nI f)), some (.int (nI z)), some (.int (nI lo)), some (.int (nI hi)), some (.int (nI i)), some (.int (nI ((lo + hi) / 2))), some (.int x)]) (S' := [.int x]) (h' := h) rfl ?_
      by_cases h0 : x = 0
      · rw [show zkey (zup t f z) = (lo + hi) / 2 from zkey_at (by omega) (zord_0.mp (k2.1.mp h0)).symm]
        refine qg_if false rfl (qb_neF h0) rfl ?_
        refine qg_pls (n := 2) (k' := 35) (lo' := [some (.ref r), some (.int (nI f)), some (.int (nI z)), some (.int (nI lo)), some (.int (nI hi)), some (.int (nI i)), some (.int (nI ((lo + hi) / 2))), some (.int x)]) (S' := [.int (nI ((lo + hi) / 2)), .retAddr 3000]) (h' := h) rfl ?_
        refine qg_aald rfl qZ_so (by omega) (by decide) (rfl) ?_
        exact qg_ret6 rfl rfl
      · skip
        refine qg_if true rfl (qb_neT h0) rfl ?_
        refine qg_pls (n := 1) (k' := 38) (lo' := [some (.ref r), some (.int (nI f)), some (.int (nI z)), some (.int (nI lo)), some (.int (nI hi)), some (.int (nI i)), some (.int (nI ((lo + hi) / 2))), some (.int x)]) (S' := [.int x]) (h' := h) rfl ?_
        by_cases h1 : x < 0
        · skip
          refine qg_if false rfl (qb_geF h1) rfl ?_
          refine qg_pls (n := 5) (k' := 6) (lo' := [some (.ref r), some (.int (nI f)), some (.int (nI z)), some (.int (nI lo)), some (.int (nI ((lo + hi) / 2))), some (.int ((nI i) + 1)), some (.int (nI ((lo + hi) / 2))), some (.int x)]) (S' := []) (h' := h) rfl ?_
          rw [nI_1]
          exact ih ((lo + hi) / 2 - lo) (by omega) lo ((lo + hi) / 2) (i + 1) _ _ rfl (by omega) (by omega) (by omega) hlow (fun k hk hk2 => by
            rcases Nat.lt_or_ge ((lo + hi) / 2) k with q | q
            · exact zord_tr (k2.2.mp h1) (zkey_so q hk2)
            · have : k = (lo + hi) / 2 := by omega
              rw [this]; exact k2.2.mp h1)
        · have h2 : 0 < zord (zup t f z) (zw ((lo + hi) / 2)) := by
            have a1 : ¬ zord (zup t f z) (zw ((lo + hi) / 2)) = 0 := fun q => h0 (k2.1.mpr q)
            have a2 : ¬ zord (zup t f z) (zw ((lo + hi) / 2)) < 0 := fun q => h1 (k2.2.mpr q)
            omega
          refine qg_if true rfl (qb_geT h1) rfl ?_
          refine qg_pls (n := 4) (k' := 46) (lo' := [some (.ref r), some (.int (nI f)), some (.int (nI z)), some (.int ((nI ((lo + hi) / 2)) + 1)), some (.int (nI hi)), some (.int (nI i)), some (.int (nI ((lo + hi) / 2))), some (.int x)]) (S' := []) (h' := h) rfl ?_
          rw [nI_1]
          refine qg_pls (n := 2) (k' := 6) (lo' := [some (.ref r), some (.int (nI f)), some (.int (nI z)), some (.int (nI ((lo + hi) / 2 + 1))), some (.int (nI hi)), some (.int ((nI i) + 1)), some (.int (nI ((lo + hi) / 2))), some (.int x)]) (S' := []) (h' := h) rfl ?_
          rw [nI_1]
          exact ih (hi - ((lo + hi) / 2 + 1)) (by omega) ((lo + hi) / 2 + 1) hi (i + 1) _ _ rfl (by omega) hh (by omega) (fun k hk => by
            rcases Nat.lt_or_ge k ((lo + hi) / 2) with q | q
            · exact zord_sw.mpr (zord_tr (zkey_so q (by omega)) (zord_sw.mp h2))
            · have : k = (lo + hi) / 2 := by omega
              rw [this]; exact h2) hhigh
    · have hno : zkey (zup t f z) = 99 := zkey_no (fun k hk e => by
        have h0 := zord_0.mpr e.symm
        rcases Nat.lt_or_ge k lo with q | q
        · have := hlow k q; omega
        · have := hhigh k (by omega) hk; omega)
      rw [hno]
      refine qg_pls (n := 2) (k' := 8) (lo' := [some (.ref r), some (.int (nI f)), some (.int (nI z)), some (.int (nI lo)), some (.int (nI hi)), some (.int (nI i)), x6, x7]) (S' := [.int 82, .int (nI i)]) (h' := h) rfl ?_
      by_cases hi3 : i < 82
      · skip
        refine qg_icmp false rfl (qc_geF (b := 82) hi3 (by decide)) rfl ?_
        refine qg_pls (n := 2) (k' := 11) (lo' := [some (.ref r), some (.int (nI f)), some (.int (nI z)), some (.int (nI lo)), some (.int (nI hi)), some (.int (nI i)), x6, x7]) (S' := [.int (nI hi), .int (nI lo)]) (h' := h) rfl ?_
        refine qg_icmp true rfl (qc_geT (by omega) (by omega)) rfl ?_
        refine qg_pls (n := 1) (k' := 49) (lo' := [some (.ref r), some (.int (nI f)), some (.int (nI z)), some (.int (nI lo)), some (.int (nI hi)), some (.int (nI i)), x6, x7]) (S' := [.retAddr 99]) (h' := h) rfl ?_
        exact qg_ret6 rfl rfl
      · skip
        refine qg_icmp true rfl (qc_geT (b := 82) (by omega) (by omega)) rfl ?_
        refine qg_pls (n := 1) (k' := 49) (lo' := [some (.ref r), some (.int (nI f)), some (.int (nI z)), some (.int (nI lo)), some (.int (nI hi)), some (.int (nI i)), x6, x7]) (S' := [.retAddr 99]) (h' := h) rfl ?_
        exact qg_ret6 rfl rfl
theorem q_key (hr : qrow h r b len t) (hl : t.length ≤ 1048576) {f z : Nat} (hfz : f ≤ z) (hz : z ≤ t.length) (hz3 : z - f ≤ 30) : qe L xs (d + 6) 16 [.ref r, .int (nI f), .int (nI z)] h (.inl (some (.retAddr (zkey (zup t f z)))), h) := by
  refine qe_of (M := qm_16) rfl rfl ?_
  show qg L xs _ qm_16 0 [some (.ref r), some (.int (nI f)), some (.int (nI z)), none, none, none, none, none] [] h _
  refine qg_pls (n := 6) (k' := 6) (lo' := [some (.ref r), some (.int (nI f)), some (.int (nI z)), some (.int 0), some (.int 82), some (.int 0), none, none]) (S' := []) (h' := h) rfl ?_
  exact q_keyl hr hl hfz hz hz3 82 0 82 0 _ _ rfl (by decide) (by decide) (by decide) (fun k hk => absurd hk (by omega)) (fun k hk hk2 => absurd hk2 (by omega))
end QKE
