/-! WHAT THE PLAIN FORM'S WORDS ARE MADE OF. (Printed by wip/whole/pp.py from wip/whole/src.) -/
section MPA
variable {L : Nat} {xs : Nat → Int32} {d : Nat} {h : ai_H} {T : List Int32}
theorem nI_div {a b : Nat} (ha : a < 2 ^ 31) (hb : b < 2 ^ 31) : nI a / nI b = nI (a / b) := by
  apply Int32.toInt_inj.mp
  have h3 : a / b < 2 ^ 31 := Nat.lt_of_le_of_lt (Nat.div_le_self a b) ha
  have e1 : (nI a).toInt = (a : Int) := Int32.toInt_ofNat_of_lt ha
  have e2 : (nI b).toInt = (b : Int) := Int32.toInt_ofNat_of_lt hb
  have e3 : (nI (a / b)).toInt = ((a / b : Nat) : Int) := Int32.toInt_ofNat_of_lt h3
  rw [Int32.toInt_div, e1, e2, e3, show (a : Int).tdiv b = ((a / b : Nat) : Int) from rfl]
  clear e1 e2 e3
  generalize a / b = q at h3 ⊢
  exact Int.bmod_eq_of_le (by omega) (by omega)
theorem nI_rem {a b : Nat} (ha : a < 2 ^ 31) (hb : b < 2 ^ 31) : nI a - nI a / nI b * nI b = nI (a % b) := by
  rw [nI_div ha hb, nI_mul, nI_sub (Nat.div_mul_le_self a b)]
  have := Nat.div_add_mod a b
  rw [Nat.mul_comm] at this
  exact congrArg nI (by omega)
section RU
variable {M : ai_M} {k : Nat} {lo : ai_L} {S : List Value} {o : ai_O}
theorem nI_nz {b : Nat} (hb0 : 0 < b) (hb : b < 2 ^ 31) : ¬ nI b = 0 := fun q => by
  have := (nI_eq hb (show 0 < 2 ^ 31 by decide)).mp q
  omega
theorem qg_div {a b pc len : Nat} {rs : List Int} {nm : String} (hk : (ai_Mc M)[k]? = some (pc, .idiv, len, 0, rs, nm)) (hb0 : 0 < b) (ha : a < 2 ^ 31) (hb : b < 2 ^ 31) (hg : qg L xs d M (k + 1) lo (.int (nI (a / b)) :: S) h o) : qg L xs d M k lo (.int (nI b) :: .int (nI a) :: S) h o := by
  refine qg_eff (t := 0) (lo' := lo) (S' := .int (nI (a / b)) :: S) (h' := h) hk ?_ rfl hg
  simp only [ai_eff, ai_divs]
  rw [if_neg (nI_nz hb0 hb), nI_div ha hb]
theorem qg_rem {a b pc len : Nat} {rs : List Int} {nm : String} (hk : (ai_Mc M)[k]? = some (pc, .irem, len, 0, rs, nm)) (hb0 : 0 < b) (ha : a < 2 ^ 31) (hb : b < 2 ^ 31) (hg : qg L xs d M (k + 1) lo (.int (nI (a % b)) :: S) h o) : qg L xs d M k lo (.int (nI b) :: .int (nI a) :: S) h o := by
  refine qg_eff (t := 0) (lo' := lo) (S' := .int (nI (a % b)) :: S) (h' := h) hk ?_ rfl hg
  simp only [ai_eff, ai_divs]
  rw [if_neg (nI_nz hb0 hb), nI_rem ha hb]
end RU
/-- without zeros before it: how many go -/
theorem znz_step {x : Int32} {r : List Int32} : znz (x :: r) = if x = 48 ∧ r ≠ [] then znz r else x :: r := rfl
theorem znz_len (l : List Int32) : (znz l).length ≤ l.length ∧ znz l = l.drop (l.length - (znz l).length) := by
  induction l with
  | nil => exact ⟨Nat.le_refl _, rfl⟩
  | cons x r ih =>
    rw [znz_step]
    split
    · rename_i hx
      refine ⟨by rw [List.length_cons]; omega, ?_⟩
      rw [List.length_cons, show r.length + 1 - (znz r).length = r.length - (znz r).length + 1 by omega, List.drop_succ_cons]
      exact ih.2
    · refine ⟨Nat.le_refl _, ?_⟩
      rw [Nat.sub_self]; rfl
/-- bytes that stand for themselves -/
def zasc (x : Int32) : Prop := ∃ m, m < 128 ∧ x = nI m
theorem zasc0 : (List.range 256).all (fun m => decide ((zofw (nI m) ∨ ¬ (nI m < 32 ∨ 126 < nI m)) → m < 128)) = true := by decide +kernel
theorem zasc_at {i : Nat} (hi : i < T.length) (hp : zofw (zat T i) ∨ ¬ (zat T i < 32 ∨ 126 < zat T i)) : zasc (zat T i) := by
  rcases zat_nI T i with ⟨-, q⟩ | ⟨-, m, hm, em⟩
  · exact absurd hi q
  rw [em] at hp ⊢
  exact ⟨m, of_decide_eq_true (List.all_eq_true.mp zasc0 m (List.mem_range.mpr hm)) hp, rfl⟩
theorem zasc_raw {i : Nat} (hT : ∀ x ∈ T, zb x = x) (hi : i < T.length) (ha : zasc (zat T i)) : T.getD i 0 = zat T i := by
  obtain ⟨m, hm, em⟩ := ha
  have hb : zb (T.getD i 0) = T.getD i 0 := hT _ (by
    rw [List.getD_eq_getElem?_getD, List.getElem?_eq_getElem hi]
    exact List.getElem_mem hi)
  rw [em]
  rw [zat_lt hi] at em
  rw [← zb_and hb, em]
  rcases (zsmall_n (show m < 256 by omega)).2 with q | q
  · omega
  · exact q
/-- the bytes of a string -/
theorem zstr_pr : ∀ (m i n : Nat), (zstr T m i n).1 = 101 → ∀ p, i ≤ p → p < (zstr T m i n).2 → ¬ (zat T p < 32 ∨ 126 < zat T p) := by
  have h39 : ¬ ((39 : Int32) < 32 ∨ 126 < (39 : Int32)) := by decide
  intro m
  induction m using Nat.strongRecOn with
  | _ m ih =>
  intro i n h1 p p1 p2
  cases m with
  | zero => cases h1
  | succ m =>
    by_cases q1 : zat T i = 39
    · by_cases q2 : zat T (i + 1) = 39
      · cases m with
        | zero => simp [zstr, q1, q2] at h1
        | succ m =>
          rw [zstr_2 q1 q2] at h1 p2
          by_cases e1 : p = i
          · rw [e1, q1]; exact h39
          · by_cases e2 : p = i + 1
            · rw [e2, q2]; exact h39
            · exact ih m (by omega) (i + 2) (n + 1) h1 p (by omega) p2
      · rw [zstr_1 q1 q2] at p2
        dsimp only at p2
        have : p = i := by omega
        rw [this, q1]; exact h39
    · by_cases q2 : zat T i < 32 ∨ 126 < zat T i
      · rw [zstr_3 q1 q2] at h1; cases h1
      · rw [zstr_4 q1 q2] at h1 p2
        by_cases e1 : p = i
        · rw [e1]; exact q2
        · exact ih m (by omega) (i + 1) (n + 1) h1 p (by omega) p2
theorem zdig_ofw {c : Int32} (h : zdig c) : zofw c := Or.inr (Or.inr (Or.inr h))
theorem zone_asc0 : (List.range 256).all (fun m => decide (zone (nI m) = 103 ∨ m < 128)) = true := by decide +kernel
/-- all bytes of a token stand for themselves -/
theorem ztok_asc {i : Nat} (hi : i < T.length) (hk : (ztok T i).1 < 102) : ∀ p, i ≤ p → p < (ztok T i).2 → p < T.length ∧ zasc (zat T p) := by
  obtain ⟨t1, t2, t3, t4⟩ := ztok_le (t := T) (i := i) (by omega)
  intro p p1 p2
  refine ⟨by omega, ?_⟩
  have hpl : p < T.length := by omega
  clear t1 t2 t3 t4
  unfold ztok at hk p2
  rw [if_neg (zat_ne hi)] at hk p2
  by_cases h1 : zdig (zat T i)
  · rw [if_pos h1] at p2
    exact zasc_at hpl (Or.inl (zdig_ofw (zrun_ok _ _ p p1 p2)))
  · rw [if_neg h1] at hk p2
    by_cases h2 : zofw (zat T i)
    · rw [if_pos h2] at p2
      exact zasc_at hpl (Or.inl (zrun_ok _ _ p p1 p2))
    · rw [if_neg h2] at hk p2
      by_cases h3 : zat T i = 39
      · rw [if_pos h3] at hk p2
        dsimp only at hk p2
        have hs := (zstr_le (t := T) (T.length - (i + 1)) (i + 1) 0)
        have h101 : (zstr T (T.length - (i + 1)) (i + 1) 0).1 = 101 := by omega
        have h0 : ¬ (zstr T (T.length - (i + 1)) (i + 1) 0).2 = 0 := fun z => by
          have := hs.2.1 z
          omega
        rw [if_neg h0] at p2
        by_cases e1 : p = i
        · rw [e1, h3]; exact ⟨39, by decide, rfl⟩
        · exact zasc_at hpl (Or.inr (zstr_pr _ _ _ h101 p (by omega) p2))
      · rw [if_neg h3] at hk p2
        by_cases h4 : ztwo (zat T i) (zat T (i + 1)) = 103
        · rw [if_pos h4] at hk p2
          dsimp only at hk p2
          have e1 : p = i := by omega
          rw [e1]
          rcases zat_nI T i with ⟨-, q⟩ | ⟨-, m, hm, em⟩
          · exact absurd hi q
          rw [em] at hk ⊢
          rcases of_decide_eq_true (List.all_eq_true.mp zone_asc0 m (List.mem_range.mpr hm)) with z | z
          · omega
          · exact ⟨m, z, rfl⟩
        · rw [if_neg h4] at hk p2
          dsimp only at hk p2
          have h5 : (zat T i = 124 ∨ zat T i = 60 ∨ zat T i = 62) ∧ (zat T (i + 1) = 124 ∨ zat T (i + 1) = 62 ∨ zat T (i + 1) = 61) := by
            revert h4
            unfold ztwo
            intro h4
            by_cases a1 : zat T i = 124 ∧ zat T (i + 1) = 124
            · exact ⟨Or.inl a1.1, Or.inl a1.2⟩
            rw [if_neg a1] at h4
            by_cases a2 : zat T i = 60 ∧ zat T (i + 1) = 62
            · exact ⟨Or.inr (Or.inl a2.1), Or.inr (Or.inl a2.2)⟩
            rw [if_neg a2] at h4
            by_cases a3 : zat T i = 60 ∧ zat T (i + 1) = 61
            · exact ⟨Or.inr (Or.inl a3.1), Or.inr (Or.inr a3.2)⟩
            rw [if_neg a3] at h4
            by_cases a4 : zat T i = 62 ∧ zat T (i + 1) = 61
            · exact ⟨Or.inr (Or.inr a4.1), Or.inr (Or.inr a4.2)⟩
            rw [if_neg a4] at h4
            exact absurd rfl h4
          by_cases e1 : p = i
          · rw [e1]
            rcases h5.1 with z | z | z <;> rw [z]
            · exact ⟨124, by decide, rfl⟩
            · exact ⟨60, by decide, rfl⟩
            · exact ⟨62, by decide, rfl⟩
          · have e2 : p = i + 1 := by omega
            rw [e2]
            rcases h5.2 with z | z | z <;> rw [z]
            · exact ⟨124, by decide, rfl⟩
            · exact ⟨62, by decide, rfl⟩
            · exact ⟨61, by decide, rfl⟩
/-- a token of the text: its bytes, and what the plain form makes of them -/
theorem zen_tok {i : Nat} (hi : i < (zen T).1.length) (hk : ztk (zen T) i < 102) : zfr (zen T) i < T.length ∧ ztok T (zfr (zen T) i) = (ztk (zen T) i, zto (zen T) i) ∧ zfr (zen T) i < zto (zen T) i ∧ zto (zen T) i ≤ T.length := by
  obtain ⟨a1, a2, a3, -⟩ := zwf_at _ 0 i (zen_wf (t := T)) hi
  have h3 : ztok T (zfr (zen T) i) = (ztk (zen T) i, zto (zen T) i) := a3
  obtain ⟨-, n2, -⟩ := zen_next (t := T) (i := i) (by omega)
  have n3 : zto (zen T) i ≤ T.length := (zen_ft (t := T) i).2
  exact ⟨by omega, h3, n2, n3⟩
theorem zsl_len {i : Nat} (hi : i < (zen T).1.length) (hk : ztk (zen T) i < 102) : (zsl (zen T) i).length = zto (zen T) i - zfr (zen T) i := by
  obtain ⟨a1, a2, a3, a4⟩ := zen_tok hi hk
  unfold zsl
  rw [List.length_take, List.length_drop]
  show min _ (T.length - _) = _
  omega
theorem zsl_get {i j : Nat} (hi : i < (zen T).1.length) (hk : ztk (zen T) i < 102) (hj : j < zto (zen T) i - zfr (zen T) i) : (zsl (zen T) i).getD j 0 = T.getD (zfr (zen T) i + j) 0 := by
  obtain ⟨a1, a2, a3, a4⟩ := zen_tok hi hk
  unfold zsl
  rw [List.getD_eq_getElem?_getD, List.getElem?_take_of_lt hj, List.getElem?_drop, ← List.getD_eq_getElem?_getD]
  rfl
end MPA
