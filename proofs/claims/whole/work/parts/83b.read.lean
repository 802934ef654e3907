/-! THE CLASS BETWEEN CALLS; READ. (Printed by wip/whole/pp.py from wip/whole/src.) -/
section QRD
variable {L : Nat} {xs : Nat → Int32} {d : Nat} {h h' : ai_H} {T Q : List Int32} {mx kd tb tl pb pl so fr to n : Nat}
/-- the class between calls: the tape's bytes T, the plain form Q, the most that were open, the kind -/
def qst (h : ai_H) (T Q : List Int32) (mx kd tb tl pb pl so fr to n : Nat) : Prop := ∃ (rc a1 a2 a3 a4 : Value) (l : List (Nat × Nat × Nat)) (fm fs : Nat → Int32), qrow h 2 tb tl T ∧ qrow h 4 pb pl Q ∧ qta h so fr to n rc l ∧ h.1[1]? = some (ai_obj 1 [.ref 2, .ref 4, .ref 6, a1, a2, a3, .int (nI mx), .ref 10, .ref 11, a4]) ∧ h.1[10]? = some (ai_num .int 300 fm) ∧ h.1[11]? = some (ai_num .int 300 fs) ∧ h.1[0]? = some (ai_obj 0 [.ref 1, .ref 2, .ref 4, .ref 12, .int (nI kd)]) ∧ tb ≠ pb ∧ (∀ x ∈ T, zb x = x) ∧ ∀ x ∈ Q, zb x = x
/-- cells that stay while a text is read -/
def zY (h : ai_H) (pb : Nat) : Nat → Option ai_C := fun i => if i = 1 ∨ i = 4 ∨ i = 10 ∨ i = 11 ∨ i = pb then none else h.1[i]?
theorem zY_of {i : Nat} {c : ai_C} (h1 : h.1[i]? = some c) (hn : ¬ (i = 1 ∨ i = 4 ∨ i = 10 ∨ i = 11 ∨ i = pb)) : zY h pb i = some c := by
  unfold zY
  rw [if_neg hn]; exact h1
theorem zY_out {i : Nat} {c : ai_C} (h1 : zY h pb i = some c) : ¬ (i = 1 ∨ i = 4 ∨ i = 10 ∨ i = 11 ∨ i = pb) ∧ h.1[i]? = some c := by
  unfold zY at h1
  split at h1
  · cases h1
  · rename_i q; exact ⟨q, h1⟩
theorem num_ne {ty : FieldType} {a c : Nat} {f g : Nat → Int32} (h : a ≠ c) : ai_num ty a f ≠ ai_num ty c g := by
  intro e
  cases e
  exact h rfl
/-- the class while it reads: what its cells were when it began -/
def qsx (h1 : ai_H) (T : List Int32) (kd tb tl pb so fr to n : Nat) : Prop := ∃ (rc a1 a2 a3 a5 a4 : Value) (fm fs : Nat → Int32) (pl : Nat) (Q : List Int32), qrow h1 2 tb tl T ∧ qrow h1 4 pb pl Q ∧ qta h1 so fr to n rc (zen T).1 ∧ h1.1[1]? = some (ai_obj 1 [.ref 2, .ref 4, .ref 6, a1, a2, a3, a5, .ref 10, .ref 11, a4]) ∧ h1.1[10]? = some (ai_num .int 300 fm) ∧ h1.1[11]? = some (ai_num .int 300 fs) ∧ h1.1[0]? = some (ai_obj 0 [.ref 1, .ref 2, .ref 4, .ref 12, .int (nI kd)]) ∧ tb ≠ pb ∧ ∀ x ∈ T, zb x = x
theorem qsx_tk {h1 : ai_H} (hx : qsx h1 T kd tb tl pb so fr to n) : qtk (zen T) (zY h1 pb) := by
  obtain ⟨rc1, a1, a2, a3, a5, a4, fm, fs, pl, Q, q2, q4, hq1, d1, d10, d11, d0, npb, bT⟩ := hx
  obtain ⟨g, f1, f2, s6, sso, sfr, sto, s5, s7, ⟨e1, e11, en1⟩, s8⟩ := id hq1
  obtain ⟨ft, q2a, q2b, q2c, q2d, q2e⟩ := id q2
  obtain ⟨fq, q4a, q4b, q4c, q4d, q4e⟩ := id q4
  refine ⟨tb, tl, so, fr, to, n, n, n, rc1, ft, f1, f2, g, zY_of q2a ?_, zY_of q2b ?_, q2c, q2d, q2e, zY_of s6 ?_, zY_of sso ?_, zY_of sfr ?_, zY_of sto ?_, ?_, fun i hi => s8 i hi, zen_lt, zen_ft, bT⟩
  · have := q_ne q2a q4b (by intro e; cases e); omega
  · have w1 := q_ne q2b d1 (by intro e; cases e)
    have w4 := q_ne q2b q4a (by intro e; cases e)
    have w10 := q_ne q2b d10 (by intro e; cases e)
    have w11 := q_ne q2b d11 (by intro e; cases e)
    omega
  · have := q_ne s6 q4b (by intro e; cases e); omega
  · have w1 := q_ne sso d1 (by intro e; cases e)
    have w4 := q_ne sso q4a (by intro e; cases e)
    have w10 := q_ne sso d10 (by intro e; cases e)
    have w11 := q_ne sso d11 (by intro e; cases e)
    have w := q_ne sso q4b (by intro e; cases e)
    omega
  · have w1 := q_ne sfr d1 (by intro e; cases e)
    have w4 := q_ne sfr q4a (by intro e; cases e)
    have w10 := q_ne sfr d10 (num_ne (by omega))
    have w11 := q_ne sfr d11 (num_ne (by omega))
    have w := q_ne sfr q4b (by intro e; cases e)
    omega
  · have w1 := q_ne sto d1 (by intro e; cases e)
    have w4 := q_ne sto q4a (by intro e; cases e)
    have w10 := q_ne sto d10 (num_ne (by omega))
    have w11 := q_ne sto d11 (num_ne (by omega))
    have w := q_ne sto q4b (by intro e; cases e)
    omega
  · have : 2 ^ e1 ≤ 2 ^ 11 := Nat.pow_le_pow_right (by decide) e11
    have s7 : (zen T).1.length ≤ n := s7
    omega
/-- Grammar.start -/
theorem q_begin (hs : qst h T Q mx kd tb tl pb pl so fr to n) (hT : T.length ≤ 65536) : ∃ h1 h' so' fr' to' n' rc', qe L xs (d + 10) 6 [.ref 1] h (.inl none, h') ∧ qto h so fr to n h1 so' fr' to' n' ∧ qta h1 so' fr' to' n' rc' (zen T).1 ∧ qsx h1 T kd tb tl pb so' fr' to' n' ∧ qcs0 (zen T) (zY h1 pb) (h1.2.1 - pl / 16) (h1.2.2 - 2 * pl) [] (0, 0, 0, 0, []) h' pb pl := by
  obtain ⟨rc, a1, a2, a3, a4, l, fm, fs, r2, r4, hq, c1, c10, c11, c0, npb, bT, bQ⟩ := hs
  obtain ⟨h1, so1, fr1, to1, n1, rc1, k1, hq1, ho1⟩ := q_scan (L := L) (xs := xs) (d := d) hT r2 hq
  obtain ⟨g0, f10, f20, t6, tso, tfr, tto, -, -, ⟨e0, -, en0⟩, -⟩ := id hq
  obtain ⟨g, f1, f2, s6, sso, sfr, sto, s5, s7, ⟨e1, e11, en1⟩, s8⟩ := id hq1
  -- what the scan leaves
  have keep : ∀ {i : Nat} {c : ai_C}, h.1[i]? = some c → c ≠ ai_obj 4 [.ref so, .ref fr, .ref to, .int (nI l.length), rc] → c ≠ ai_refs "QueryReader$Sort" n g0 → c ≠ ai_num .int n f10 → c ≠ ai_num .int n f20 → h1.1[i]? = some c := by
    intro i c hi w1 w2 w3 w4
    rw [ho1.2.1 i (q_ne hi t6 w1) (q_ne hi tso w2) (q_ne hi tfr w3) (q_ne hi tto w4) (q_lt hi)]
    exact hi
  have d1 : h1.1[1]? = some (ai_obj 1 [.ref 2, .ref 4, .ref 6, a1, a2, a3, .int (nI mx), .ref 10, .ref 11, a4]) := keep c1 (by intro e; cases e) (by intro e; cases e) (by intro e; cases e) (by intro e; cases e)
  have d10 : h1.1[10]? = some (ai_num .int 300 fm) := keep c10 (by intro e; cases e) (by intro e; cases e) (num_ne (by omega)) (num_ne (by omega))
  have d11 : h1.1[11]? = some (ai_num .int 300 fs) := keep c11 (by intro e; cases e) (by intro e; cases e) (num_ne (by omega)) (num_ne (by omega))
  have q2 : qrow h1 2 tb tl T := qto_row r2 hq ho1
  have q4 : qrow h1 4 pb pl Q := qto_row r4 hq ho1
  obtain ⟨ft, q2a, q2b, q2c, q2d, q2e⟩ := id q2
  obtain ⟨fq, q4a, q4b, q4c, q4d, q4e⟩ := id q4
  have hx : qsx h1 T kd tb tl pb so1 fr1 to1 n1 := ⟨rc1, a1, a2, a3, .int (nI mx), a4, fm, fs, pl, Q, q2, q4, hq1, d1, d10, d11, keep c0 (by intro e; cases e) (by intro e; cases e) (by intro e; cases e) (by intro e; cases e), npb, bT⟩
  have ht := qsx_tk hx
  have hp : ∀ X, ∀ i c, zY h1 pb i = some c → (h1.1.set 1 X)[i]? = some c := by
    intro X i c hi
    obtain ⟨w1, w2⟩ := zY_out hi
    exact q_stay w2 (fun e => w1 (Or.inl e.symm))
  have d1' := fun X => q_set (y := X) d1
  -- the last heap
  have n1p : 1 ≠ pb := q_ne d1 q4b (by intro e; cases e)
  have q4' : qrow (h1.1.set 1 (qgo (zen T) 0 (0, 0, 0, 0, [])), h1.2) 4 pb pl Q := ⟨fq, q_stay q4a (by decide), q_stay q4b n1p, q4c, q4d, q4e⟩
  obtain ⟨h3, k3, r3, o3⟩ := q_cut (L := L) (xs := xs) (d := d + 8) (n := 0) q4' (by decide)
  have n10 : 10 ≠ pb := q_ne d10 q4b (by intro e; cases e)
  have n11 : 11 ≠ pb := q_ne d11 q4b (by intro e; cases e)
  have keep3 : ∀ {i : Nat} {c : ai_C}, h1.1[i]? = some c → i ≠ 1 → i ≠ 4 → i ≠ pb → h3.1[i]? = some c := by
    intro i c hi w1 w4 wp
    have hi2 : (h1.1.set 1 (qgo (zen T) 0 (0, 0, 0, 0, [])))[i]? = some c := q_stay hi (fun e => w1 e.symm)
    rw [o3.2.1 i w4 wp (q_lt hi2)]
    exact hi2
  refine ⟨h1, h3, so1, fr1, to1, n1, rc1, ?_, ho1, hq1, hx, fm, fs, ?_, r3, keep3 d10 (by decide) (by decide) n10, keep3 d11 (by decide) (by decide) n11, fun i q hi => ?_, ⟨Nat.zero_le _, Nat.zero_le _, Nat.zero_le _, Nat.zero_le _, Nat.zero_le _⟩, fun i c hi => ?_, ⟨rfl, rfl, rfl, rfl, ?_⟩, ?_, ?_⟩
  · skip
    refine qe_of (M := qm_6) rfl rfl ?_
    show qg L xs _ qm_6 0 [some (.ref 1)] [] h _
    refine qg_pls (n := 1) (k' := 1) (lo' := [some (.ref 1)]) (S' := [.ref 1]) (h' := h) rfl ?_
    refine qg_getf (v := .ref 6) rfl c1 rfl rfl rfl ?_
    refine qg_pls (n := 1) (k' := 3) (lo' := [some (.ref 1)]) (S' := [.ref 1, .ref 6]) (h' := h) rfl ?_
    refine qg_getf (v := .ref 2) rfl c1 rfl rfl rfl ?_
    refine qg_call (v := none) (h' := h1) (as := [.ref 6, .ref 2]) rfl rfl rfl rfl rfl rfl rfl (ai_rcv1 rfl rfl t6) (k1) ?_
    show qg L xs _ qm_6 5 [some (.ref 1)] [] h1 _
    refine qg_pls (n := 2) (k' := 7) (lo' := [some (.ref 1)]) (S' := [.int 0, .ref 1]) (h' := h1) rfl ?_
    refine qg_putf rfl d1 rfl rfl (Nat.le_of_ble_eq_true rfl) rfl ?_
    refine qg_pls (n := 2) (k' := 10) (lo' := [some (.ref 1)]) (S' := [.ref 1, .ref 1]) (h' := (h1.1.set 1 (ai_obj 1 [.ref 2, .ref 4, .ref 6, .int 0, a2, a3, .int (nI mx), .ref 10, .ref 11, a4]), h1.2)) rfl ?_
    refine qg_getf (v := .ref 6) rfl (q_set d1) rfl rfl rfl ?_
    refine qg_pls (n := 1) (k' := 12) (lo' := [some (.ref 1)]) (S' := [.int 0, .ref 6, .ref 1]) (h' := (h1.1.set 1 (ai_obj 1 [.ref 2, .ref 4, .ref 6, .int 0, a2, a3, .int (nI mx), .ref 10, .ref 11, a4]), h1.2)) rfl ?_
    refine qg_call (v := some (.retAddr (ztk (zen T) 0))) (h' := (h1.1.set 1 (ai_obj 1 [.ref 2, .ref 4, .ref 6, .int 0, a2, a3, .int (nI mx), .ref 10, .ref 11, a4]), h1.2)) (as := [.ref 6, .int 0]) rfl rfl rfl rfl rfl rfl rfl (ai_rcv1 rfl rfl (q_stay s6 (by decide))) (qe_up (by omega) (q_sort (d := d) ht (hp _) (i := 0) (by decide))) ?_
    show qg L xs _ qm_6 13 [some (.ref 1)] [.retAddr (ztk (zen T) 0), .ref 1] (h1.1.set 1 (ai_obj 1 [.ref 2, .ref 4, .ref 6, .int 0, a2, a3, .int (nI mx), .ref 10, .ref 11, a4]), h1.2) _
    refine qg_putf rfl (q_set d1) rfl rfl (Nat.le_of_ble_eq_true rfl) rfl ?_
    refine qg_pls (n := 2) (k' := 16) (lo' := [some (.ref 1)]) (S' := [.int 0, .ref 1]) (h' := ((h1.1.set 1 (ai_obj 1 [.ref 2, .ref 4, .ref 6, .int 0, a2, a3, .int (nI mx), .ref 10, .ref 11, a4])).set 1 (ai_obj 1 [.ref 2, .ref 4, .ref 6, .int 0, .retAddr (ztk (zen T) 0), a3, .int (nI mx), .ref 10, .ref 11, a4]), h1.2)) rfl ?_
    refine qg_putf rfl (q_set (q_set d1)) rfl rfl (Nat.le_of_ble_eq_true rfl) rfl ?_
    refine qg_pls (n := 2) (k' := 19) (lo' := [some (.ref 1)]) (S' := [.int 0, .ref 1]) (h' := (((h1.1.set 1 (ai_obj 1 [.ref 2, .ref 4, .ref 6, .int 0, a2, a3, .int (nI mx), .ref 10, .ref 11, a4])).set 1 (ai_obj 1 [.ref 2, .ref 4, .ref 6, .int 0, .retAddr (ztk (zen T) 0), a3, .int (nI mx), .ref 10, .ref 11, a4])).set 1 (ai_obj 1 [.ref 2, .ref 4, .ref 6, .int 0, .retAddr (ztk (zen T) 0), .int 0, .int (nI mx), .ref 10, .ref 11, a4]), h1.2)) rfl ?_
    refine qg_putf rfl (q_set (q_set (q_set d1))) rfl rfl (Nat.le_of_ble_eq_true rfl) rfl ?_
    refine qg_pls (n := 2) (k' := 22) (lo' := [some (.ref 1)]) (S' := [.int 0, .ref 1]) (h' := ((((h1.1.set 1 (ai_obj 1 [.ref 2, .ref 4, .ref 6, .int 0, a2, a3, .int (nI mx), .ref 10, .ref 11, a4])).set 1 (ai_obj 1 [.ref 2, .ref 4, .ref 6, .int 0, .retAddr (ztk (zen T) 0), a3, .int (nI mx), .ref 10, .ref 11, a4])).set 1 (ai_obj 1 [.ref 2, .ref 4, .ref 6, .int 0, .retAddr (ztk (zen T) 0), .int 0, .int (nI mx), .ref 10, .ref 11, a4])).set 1 (ai_obj 1 [.ref 2, .ref 4, .ref 6, .int 0, .retAddr (ztk (zen T) 0), .int 0, .int 0, .ref 10, .ref 11, a4]), h1.2)) rfl ?_
    refine qg_putf rfl (q_set (q_set (q_set (q_set d1)))) rfl rfl (Nat.le_of_ble_eq_true rfl) rfl ?_
    refine qg_pls (n := 1) (k' := 24) (lo' := [some (.ref 1)]) (S' := [.ref 1]) (h' := (((((h1.1.set 1 (ai_obj 1 [.ref 2, .ref 4, .ref 6, .int 0, a2, a3, .int (nI mx), .ref 10, .ref 11, a4])).set 1 (ai_obj 1 [.ref 2, .ref 4, .ref 6, .int 0, .retAddr (ztk (zen T) 0), a3, .int (nI mx), .ref 10, .ref 11, a4])).set 1 (ai_obj 1 [.ref 2, .ref 4, .ref 6, .int 0, .retAddr (ztk (zen T) 0), .int 0, .int (nI mx), .ref 10, .ref 11, a4])).set 1 (ai_obj 1 [.ref 2, .ref 4, .ref 6, .int 0, .retAddr (ztk (zen T) 0), .int 0, .int 0, .ref 10, .ref 11, a4])).set 1 (ai_obj 1 [.ref 2, .ref 4, .ref 6, .int 0, .retAddr (ztk (zen T) 0), .int 0, .int 0, .ref 10, .ref 11, .int 0]), h1.2)) rfl ?_
    refine qg_getf (v := .ref 4) rfl (q_set (q_set (q_set (q_set (q_set d1))))) rfl rfl rfl ?_
    refine qg_pls (n := 1) (k' := 26) (lo' := [some (.ref 1)]) (S' := [.int 0, .ref 4]) (h' := (((((h1.1.set 1 (ai_obj 1 [.ref 2, .ref 4, .ref 6, .int 0, a2, a3, .int (nI mx), .ref 10, .ref 11, a4])).set 1 (ai_obj 1 [.ref 2, .ref 4, .ref 6, .int 0, .retAddr (ztk (zen T) 0), a3, .int (nI mx), .ref 10, .ref 11, a4])).set 1 (ai_obj 1 [.ref 2, .ref 4, .ref 6, .int 0, .retAddr (ztk (zen T) 0), .int 0, .int (nI mx), .ref 10, .ref 11, a4])).set 1 (ai_obj 1 [.ref 2, .ref 4, .ref 6, .int 0, .retAddr (ztk (zen T) 0), .int 0, .int 0, .ref 10, .ref 11, a4])).set 1 (ai_obj 1 [.ref 2, .ref 4, .ref 6, .int 0, .retAddr (ztk (zen T) 0), .int 0, .int 0, .ref 10, .ref 11, .int 0]), h1.2)) rfl ?_
    rw [List.set_set, List.set_set, List.set_set, List.set_set]
    refine qg_call (v := none) (h' := h3) (as := [.ref 4, .int 0]) rfl rfl rfl rfl rfl rfl rfl (ai_rcv1 rfl rfl (q_stay q4a (by decide))) (k3) ?_
    show qg L xs _ qm_6 27 [some (.ref 1)] [] h3 _
    exact qg_ret7 rfl
  · rw [o3.2.1 1 (by decide) n1p (by rw [List.length_set]; exact q_lt d1)]
    exact q_set d1
  · rw [List.reverse_nil] at hi; cases hi
  · obtain ⟨w1, w2⟩ := zY_out hi
    exact keep3 w2 (fun e => w1 (Or.inl e)) (fun e => w1 (Or.inr (Or.inl e))) (fun e => w1 (Or.inr (Or.inr (Or.inr (Or.inr e)))))
  · show zY h1 pb pb = none
    unfold zY
    rw [if_pos (Or.inr (Or.inr (Or.inr (Or.inr rfl))))]
  · have := o3.2.2.2.2.1
    have h2 : (h1.1.set 1 (qgo (zen T) 0 (0, 0, 0, 0, [])), h1.2).2.1 = h1.2.1 := rfl
    obtain ⟨ee, -, he⟩ := q4d
    omega
  · have := o3.2.2.2.2.2
    have h2 : (h1.1.set 1 (qgo (zen T) 0 (0, 0, 0, 0, [])), h1.2).2.2 = h1.2.2 := rfl
    omega
end QRD
