/-! THE NAMES IN THE PLAIN FORM ARE THE NAMES AMONG THE ITEMS: items. (Printed by wip/whole/pp.py from wip/whole/src.) -/
section LNL
variable {T Q : List Int32} {J : List zJ}
theorem zkey_s (u : List Int32) : zkey u = 99 ∨ zkey u < 82 := by
  by_cases h : ∃ k, k < 82 ∧ zw k = u
  · obtain ⟨k, h1, h2⟩ := h
    right; rw [zkey_at h1 h2]; exact h1
  · left; exact zkey_no (fun k hk q => h ⟨k, hk, q⟩)
theorem ztok_sort {f : Nat} : ((ztok T f).1 = 99 → ¬ zdig (zat T f) ∧ zofw (zat T f) ∧ ∀ p, f ≤ p → p < (ztok T f).2 → zofw (zat T p)) ∧ ((ztok T f).1 = 100 → ∀ p, f ≤ p → p < (ztok T f).2 → zdig (zat T p)) ∧ ((ztok T f).1 = 101 → zat T f = 39 ∧ (zstr T (T.length - (f + 1)) (f + 1) 0).1 = 101 ∧ (zstr T (T.length - (f + 1)) (f + 1) 0).2 = (ztok T f).2) := by
  by_cases h1 : zat T f = -1
  · rw [show ztok T f = _ from if_pos h1]
    exact ⟨fun q => absurd (show 102 = 99 from q) (by decide), fun q => absurd (show 102 = 100 from q) (by decide), fun q => absurd (show 102 = 101 from q) (by decide)⟩
  by_cases h2 : zdig (zat T f)
  · rw [show ztok T f = _ from (if_neg h1).trans (if_pos h2)]
    refine ⟨fun q => ?_, fun _ p p1 p2 => zrun_ok _ _ p p1 p2, fun q => ?_⟩
    · have q : (if 18 < zrun T zdig (T.length - f) f - f then 103 else 100) = 99 := q
      split at q <;> omega
    · have q : (if 18 < zrun T zdig (T.length - f) f - f then 103 else 100) = 101 := q
      split at q <;> omega
  by_cases h3 : zofw (zat T f)
  · rw [show ztok T f = _ from (if_neg h1).trans ((if_neg h2).trans (if_pos h3))]
    have hz := zkey_s (zup T f (zrun T zofw (T.length - f) f))
    refine ⟨fun _ => ⟨h2, h3, fun p p1 p2 => zrun_ok _ _ p p1 p2⟩, fun q => ?_, fun q => ?_⟩
    · have q : (if 30 < zrun T zofw (T.length - f) f - f then 103 else zkey (zup T f (zrun T zofw (T.length - f) f))) = 100 := q
      split at q <;> omega
    · have q : (if 30 < zrun T zofw (T.length - f) f - f then 103 else zkey (zup T f (zrun T zofw (T.length - f) f))) = 101 := q
      split at q <;> omega
  by_cases h4 : zat T f = 39
  · have e0 := show ztok T f = _ from (if_neg h1).trans ((if_neg h2).trans ((if_neg h3).trans (if_pos h4)))
    have hs := zstr_le (t := T) (T.length - (f + 1)) (f + 1) 0
    rw [e0]
    refine ⟨fun q => ?_, fun q => ?_, fun q => ?_⟩
    · have q : (zstr T (T.length - (f + 1)) (f + 1) 0).1 = 99 := q
      omega
    · have q : (zstr T (T.length - (f + 1)) (f + 1) 0).1 = 100 := q
      omega
    · have q : (zstr T (T.length - (f + 1)) (f + 1) 0).1 = 101 := q
      refine ⟨h4, q, ?_⟩
      show _ = (if (zstr T (T.length - (f + 1)) (f + 1) 0).2 = 0 then f else (zstr T (T.length - (f + 1)) (f + 1) 0).2)
      rw [if_neg (fun z => by have := hs.2.1 z; omega)]
  by_cases h5 : ztwo (zat T f) (zat T (f + 1)) = 103
  · rw [show ztok T f = _ from (if_neg h1).trans ((if_neg h2).trans ((if_neg h3).trans ((if_neg h4).trans (if_pos h5))))]
    have hz := zone_k (zat T f)
    exact ⟨fun q => by have q : zone (zat T f) = 99 := q; omega, fun q => by have q : zone (zat T f) = 100 := q; omega, fun q => by have q : zone (zat T f) = 101 := q; omega⟩
  · rw [show ztok T f = _ from (if_neg h1).trans ((if_neg h2).trans ((if_neg h3).trans ((if_neg h4).trans (if_neg h5))))]
    have hz := ztwo_k (zat T f) (zat T (f + 1))
    exact ⟨fun q => by have q : ztwo (zat T f) (zat T (f + 1)) = 99 := q; omega, fun q => by have q : ztwo (zat T f) (zat T (f + 1)) = 100 := q; omega, fun q => by have q : ztwo (zat T f) (zat T (f + 1)) = 101 := q; omega⟩
theorem zwN0 : (List.range 99).all (fun k => (zw k).all (fun c => decide (c ≠ 39 ∧ c ≠ 32)) && decide (¬ ((zw k).getD 0 0 = 95 ∨ (¬ (zw k).getD 0 0 < 97 ∧ ¬ 122 < (zw k).getD 0 0)))) = true := by decide +kernel
theorem zwN {k : Nat} (hk : k < 99) {X : List Int32} : zscL (zw k ++ 32 :: X) 32 false = zscL X 32 false := by
  have h := List.all_eq_true.mp zwN0 k (List.mem_range.mpr hk)
  rw [Bool.and_eq_true] at h
  refine zsc_N (fun c hc => of_decide_eq_true (List.all_eq_true.mp h.1 c hc)) (fun c V q => ?_)
  have := of_decide_eq_true h.2
  rw [q] at this
  exact this
theorem znmN0 : (List.range 128).all (fun m => decide (zofw (nI m) → zsm (nI m) ≠ 39 ∧ zsm (nI m) ≠ 32 ∧ (¬ zdig (nI m) → zsm (nI m) = 95 ∨ (¬ zsm (nI m) < 97 ∧ ¬ 122 < zsm (nI m))))) = true := by decide +kernel
theorem zdgN0 : (List.range 128).all (fun m => decide (zdig (nI m) → nI m ≠ 39 ∧ nI m ≠ 32 ∧ ¬ (nI m = 95 ∨ (¬ nI m < 97 ∧ ¬ 122 < nI m)))) = true := by decide +kernel
theorem zsl_mem {i : Nat} (hi : i < (zen T).1.length) (hk : ztk (zen T) i < 102) {y : Int32} (hy : y ∈ zsl (zen T) i) : ∃ p, zfr (zen T) i ≤ p ∧ p < zto (zen T) i ∧ y = T.getD p 0 := by
  obtain ⟨j, hj, q⟩ := List.mem_iff_getElem.mp hy
  rw [zsl_len hi hk] at hj
  have hg := zsl_get hi hk hj
  refine ⟨zfr (zen T) i + j, by omega, by omega, ?_⟩
  rw [← hg, ← q, List.getD_eq_getElem?_getD, List.getElem?_eq_getElem]
  rfl
theorem znz_mem : ∀ (u : List Int32) (x : Int32), x ∈ znz u → x ∈ u := by
  intro u
  induction u with
  | nil => intro x hx; exact hx
  | cons y r ih =>
    intro x hx
    unfold znz at hx
    split at hx
    · exact List.mem_cons_of_mem _ (ih x hx)
    · exact hx
theorem zsc_item (hT : ∀ x ∈ T, zb x = x) {a : zJ} (hj : jc (zen T) a) (hlen : (zen T).1.length ≤ 65537) {Y : List Int32} : zscL (a.2.1 ++ 32 :: Y) 32 false = if jisn T a = true then a.2.1 :: zscL Y 32 false else zscL Y 32 false := by
  rcases hj with ⟨i, hi, hk, e1, e2⟩ | ⟨k, hk, e1, e2⟩
  · have hcl : (nI i).toNatClampNeg = i := nI_clamp (by omega)
    have hjs : jisn T a = true ↔ ztk (zen T) i = 99 := by
      unfold jisn
      rw [e1, hcl]
      exact ⟨fun q => (of_decide_eq_true q).2, fun q => decide_eq_true ⟨nI_pos' (by omega), q⟩⟩
    obtain ⟨a1, a2, a3, a4⟩ := zen_tok hi hk
    have hasc := ztok_asc (i := zfr (zen T) i) a1 (by rw [a2]; exact hk)
    obtain ⟨s1, s2, s3⟩ := ztok_sort (T := T) (f := zfr (zen T) i)
    rw [a2] at hasc s1 s2 s3
    have hraw : ∀ p, zfr (zen T) i ≤ p → p < zto (zen T) i → T.getD p 0 = zat T p ∧ ∃ m, m < 128 ∧ zat T p = nI m := fun p p1 p2 => ⟨zasc_raw hT (hasc p p1 p2).1 (hasc p p1 p2).2, (hasc p p1 p2).2⟩
    rw [e2]
    by_cases h9 : ztk (zen T) i < 99
    · rw [if_neg (fun q => by have := hjs.mp q; omega)]
      rw [show zit (zen T) i = zw (ztk (zen T) i) from if_pos h9]
      exact zwN h9
    by_cases h99 : ztk (zen T) i = 99
    · rw [if_pos (hjs.mpr h99)]
      obtain ⟨t1, t2, t3⟩ := s1 h99
      have e3 : zit (zen T) i = (zsl (zen T) i).map zsm := (if_neg h9).trans (if_pos h99)
      have hU : ∀ c ∈ zit (zen T) i, c ≠ 39 ∧ c ≠ 32 := by
        intro c hc
        rw [e3] at hc
        obtain ⟨y, hy, rfl⟩ := List.mem_map.mp hc
        obtain ⟨p, p1, p2, rfl⟩ := zsl_mem hi hk hy
        obtain ⟨q1, m, hm, q2⟩ := hraw p p1 p2
        have hw := t3 p p1 p2
        rw [q1, q2]
        rw [q2] at hw
        have := of_decide_eq_true (List.all_eq_true.mp znmN0 m (List.mem_range.mpr hm)) hw
        exact ⟨this.1, this.2.1⟩
      have hl := zsl_len hi hk
      have hg := zsl_get (j := 0) hi hk (by omega)
      have h0 : ∀ c V, zit (zen T) i = c :: V → c = 95 ∨ (¬ c < 97 ∧ ¬ 122 < c) := by
        intro c V q
        rw [e3] at q
        cases hz : zsl (zen T) i with
        | nil => rw [hz] at q; cases q
        | cons y r =>
          rw [hz] at q hg
          have q3 : zsm y = c := (List.cons.inj q).1
          have hg : y = T.getD (zfr (zen T) i) 0 := hg
          obtain ⟨q1, m, hm, q2⟩ := hraw (zfr (zen T) i) (Nat.le_refl _) a3
          rw [← q3, hg, q1, q2]
          rw [q2] at t1 t2
          exact (of_decide_eq_true (List.all_eq_true.mp znmN0 m (List.mem_range.mpr hm)) t2).2.2 t1
      cases hz : zit (zen T) i with
      | nil =>
        exfalso
        have := congrArg List.length hz
        rw [e3, List.length_map, hl] at this
        have this : zto (zen T) i - zfr (zen T) i = 0 := this
        omega
      | cons c V =>
        rw [hz] at hU
        exact zsc_Y hU (h0 c V hz)
    rw [if_neg (fun q => h99 (hjs.mp q))]
    by_cases h100 : ztk (zen T) i = 100
    · rw [show zit (zen T) i = znz (zsl (zen T) i) from (if_neg h9).trans ((if_neg h99).trans (if_pos h100))]
      have hD : ∀ c ∈ znz (zsl (zen T) i), c ≠ 39 ∧ c ≠ 32 ∧ ¬ (c = 95 ∨ (¬ c < 97 ∧ ¬ 122 < c)) := by
        intro c hc
        obtain ⟨p, p1, p2, rfl⟩ := zsl_mem hi hk (znz_mem _ _ hc)
        obtain ⟨q1, m, hm, q2⟩ := hraw p p1 p2
        have hw := s2 h100 p p1 p2
        rw [q1, q2]
        rw [q2] at hw
        exact of_decide_eq_true (List.all_eq_true.mp zdgN0 m (List.mem_range.mpr hm)) hw
      refine zsc_N (fun c hc => ⟨(hD c hc).1, (hD c hc).2.1⟩) (fun c V q => ?_)
      exact (hD c (by rw [q]; exact List.mem_cons_self)).2.2
    · obtain ⟨t1, t2, t3⟩ := s3 (by omega)
      rw [show zit (zen T) i = zsl (zen T) i from (if_neg h9).trans ((if_neg h99).trans (if_neg h100))]
      obtain ⟨k1, k2⟩ := zsc_str hT _ _ 0 39 (32 :: Y) t2
      have t3 : (zstr T (T.length - (zfr (zen T) i + 1)) (zfr (zen T) i + 1) 0).2 = zto (zen T) i := t3
      rw [t3] at k1 k2
      have g1 : T.getD (zfr (zen T) i) 0 = 39 := by rw [(hraw _ (Nat.le_refl _) a3).1, t1]
      have e4 : zsl (zen T) i = 39 :: (T.drop (zfr (zen T) i + 1)).take (zto (zen T) i - (zfr (zen T) i + 1)) := by
        show (T.drop (zfr (zen T) i)).take (zto (zen T) i - zfr (zen T) i) = _
        rw [drop_cons (x := 0) a1, show zto (zen T) i - zfr (zen T) i = (zto (zen T) i - (zfr (zen T) i + 1)) + 1 by omega, List.take_succ_cons, g1]
      rw [e4, List.cons_append, zsc_39]
      show zscL _ 39 true = _
      rw [k2, zsc_32]
  · have hneg := of_decide_eq_true (List.all_eq_true.mp zneg_1 k (List.mem_range.mpr hk))
    rw [if_neg (fun q => by
      unfold jisn at q
      rw [e1] at q
      exact absurd (of_decide_eq_true q).1 (Int32.not_le.mpr hneg)), e2]
    exact zwN (by omega)
theorem zsc_J (hT : ∀ x ∈ T, zb x = x) (hlen : (zen T).1.length ≤ 65537) : ∀ (J : List zJ), (∀ a ∈ J, jc (zen T) a) → zscL (jr J) 32 false = jnm T J := by
  intro J
  induction J with
  | nil => intro _; rfl
  | cons a J ih =>
    intro hj
    have e1 : jr (a :: J) = jb 40 a.2.2.1 ++ (a.2.1 ++ 32 :: (jb 41 a.2.2.2 ++ jr J)) := by
      show (jb 40 a.2.2.1 ++ a.2.1 ++ [32] ++ jb 41 a.2.2.2) ++ jr J = _
      simp only [List.append_assoc, List.cons_append, List.nil_append]
    rw [e1, zsc_jb (Or.inl rfl), zsc_item hT (hj a List.mem_cons_self) hlen, zsc_jb (Or.inr rfl), ih (fun x hx => hj x (List.mem_cons_of_mem _ hx))]
    unfold jnm
    by_cases h : jisn T a = true
    · rw [if_pos h, List.filter_cons_of_pos h]; rfl
    · rw [if_neg h, List.filter_cons_of_neg h]
end LNL
