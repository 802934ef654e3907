/-! STATEMENTS AND QUERIES. (Printed by wip/whole/pp.py from wip/whole/src.) -/
section QSE
variable {L : Nat} {xs : Nat → Int32} {d : Nat} {h h' : ai_H} {e : zE} {Y : Nat → Option ai_C} {bc bs : Int} {P : zK} {s s' : zS} {ex qy : zP}
theorem zbd_zbd {α β γ : Type} (r : zR α) (f : α → zS → zR β) (g : β → zS → zR γ) : zbd (zbd r f) g = zbd r (fun v s => zbd (f v s) g) := by
  rcases r with _ | ⟨_ | v, s⟩ <;> rfl
theorem zbd_some {α β : Type} (v : α) (s : zS) (f : α → zS → zR β) : zbd (some (some v, s)) f = f v s := rfl
theorem zbd_fault {α β : Type} (s : zS) (f : α → zS → zR β) : zbd (some (none, s)) f = some (none, s) := rfl
theorem zbd_none {α β : Type} (f : α → zS → zR β) : zbd none f = none := rfl
theorem zite0 {α : Type} {a b : α} [i : Decidable ((0 : Nat) = 0)] : @ite α (0 = 0) i a b = a := if_pos rfl
theorem zite1 {α : Type} {a b : α} [i : Decidable ((1 : Nat) = 0)] : @ite α (1 = 0) i a b = b := if_neg Nat.one_ne_zero
theorem zlp_succ {a : zP} {n : Nat} {s : zS} : zlp a (n + 1) s = zbd (a s) fun v s1 => if v = 0 then some (some 0, s1) else if s1.1 ≤ s.1 then none else zlp a n s1 := rfl
theorem zstep_v {v : Nat} {s1 : zS} {k : Nat} {o : Option Nat} (h : zbd (zstep e s) (fun _ s => zv k s) = some (o, s1)) (ho : o = some v) : v = k := by
  subst ho
  rcases zbd_inv h with ⟨-, q⟩ | ⟨a, s2, -, q⟩
  · cases q
  · cases q; rfl
theorem zci_v {k v : Nat} {s1 : zS} (h : zci e k s = some (some v, s1)) : (v = 0 ∧ s1 = s ∧ ztk e s.1 ≠ k) ∨ (v = 1 ∧ ztk e s.1 = k) := by
  unfold zci zc at h
  by_cases hk : ztk e s.1 = k
  · rw [if_pos hk] at h
    rcases zbd_inv h with ⟨-, q⟩ | ⟨a, s2, -, q⟩
    · cases q
    · exact Or.inr ⟨zstep_v q rfl, hk⟩
  · rw [if_neg hk] at h
    cases h; exact Or.inl ⟨rfl, rfl, hk⟩
theorem zsi_v {k v : Nat} {s1 : zS} (h : zsi e k s = some (some v, s1)) : (v = 0 ∧ s1 = s ∧ ztk e s.1 ≠ k) ∨ (v = 1 ∧ ztk e s.1 = k) := by
  unfold zsi zc at h
  by_cases hk : ztk e s.1 = k
  · rw [if_pos hk] at h
    exact Or.inr ⟨zstep_v h rfl, hk⟩
  · rw [if_neg hk] at h
    cases h; exact Or.inl ⟨rfl, rfl, hk⟩
theorem qsm_none {M : ai_M} {k md : Nat} {lo : ai_L} {S : List Value} : qsm L xs e Y bc bs d M k lo S h md P none := fun _ _ q => by cases q
theorem zci_T {k : Nat} (h : ztk e s.1 = k) : zci e k s = zbd (zcp e k s) (fun _ s1 => some (some 1, s1)) := by
  unfold zci zcp zc
  rw [if_pos h, if_pos h]
  unfold zq zv
  rw [zbd_zbd]
theorem zci_F {k : Nat} (h : ¬ ztk e s.1 = k) : zci e k s = some (some 0, s) := by
  unfold zci zc
  rw [if_neg h]
  rfl
/-- two roads that meet -/
theorem qsm_join {M : ai_M} {k md : Nat} {lo : ai_L} {S : List Value} {r : zR Nat} {G : Nat → zS → zR Nat} (k' : Nat) (lo' : ai_L) (S' : List Value) (hh : ∀ G : Nat → zS → zR Nat, (∀ v s1 h1, qcs e Y bc bs P s1 h1 → qsm L xs e Y bc bs d M k' lo' S' h1 md P (G v s1)) → qsm L xs e Y bc bs d M k lo S h md P (zbd r G)) (ht : ∀ v s1 h1, qcs e Y bc bs P s1 h1 → qsm L xs e Y bc bs d M k' lo' S' h1 md P (G v s1)) : qsm L xs e Y bc bs d M k lo S h md P (zbd r G) := hh G ht
/-- Grammar.presetValue() -/
theorem qs_preset (ht : qtk e Y) : qim L xs e Y bc bs (d + 7) 51 [.ref 1] 0 (z_preset e) := by
  have hlt := qtk_lt ht
  refine qim_of (M := qm_51) rfl rfl (fun P s h hc => ?_)
  show qsm L xs e Y bc bs _ qm_51 0 [some (.ref 1)] [] h _ _ _
  simp only [z_preset, zq, zi, zc, zv, zf, zbd_zbd, zbd_some, zbd_fault, zbd_none, zite0, zite1, ↓reduceIte, Nat.one_ne_zero]
  try simp only [zq, zi, zc, zv, zf, zbd_zbd, zbd_some, zbd_fault, zbd_none, zite0, zite1, ↓reduceIte, Nat.one_ne_zero]
  refine qsm_pls (n := 1) (k' := 1) (lo' := [some (.ref 1)]) (S' := [.ref 1]) (h' := h) rfl ?_
  refine qsm_getf (v := .retAddr (ztk e s.1)) rfl (qcs_obj hc) rfl rfl rfl ?_
  refine qsm_pls (n := 1) (k' := 3) (lo' := [some (.ref 1)]) (S' := [.retAddr 101, .retAddr (ztk e s.1)]) (h' := h) rfl ?_
  by_cases t1 : ztk e s.1 = 101
  · first | rw [if_pos t1] | rw [zci_T t1] | skip
    try simp only [zq, zi, zc, zv, zf, zbd_zbd, zbd_some, zbd_fault, zbd_none, zite0, zite1, ↓reduceIte, Nat.one_ne_zero]
    refine qsm_acmp false rfl (qzk (hlt _) (by decide)) (qa_neF t1) rfl ?_
    refine qsm_pls (n := 1) (k' := 5) (lo' := [some (.ref 1)]) (S' := [.ref 1]) (h' := h) rfl ?_
    first
      | refine qsm_call hc (qim_up (qi_string (d := d) ht) (by omega)) rfl rfl rfl rfl rfl rfl rfl rfl (ai_rcv1 rfl rfl (qcs_obj hc)) (fun v2 s2 h2 f2 hc2 => ?_)
      | refine qsm_callL hc (qim_up (qi_string (d := d) ht) (by omega)) rfl rfl rfl rfl rfl rfl rfl rfl (ai_rcv1 rfl rfl (qcs_obj hc)) (fun v2 s2 h2 f2 hc2 => ?_)
    show qsm L xs e Y bc bs _ qm_51 6 [some (.ref 1)] [] h2 _ _ _
    try simp only [zq, zi, zc, zv, zf, zbd_zbd, zbd_some, zbd_fault, zbd_none, zite0, zite1, ↓reduceIte, Nat.one_ne_zero]
    refine qsm_pls (n := 1) (k' := 17) (lo' := [some (.ref 1)]) (S' := []) (h' := h2) rfl ?_
    exact qsm_ret7 hc2 rfl
  · first | rw [if_neg t1] | rw [zci_F t1] | skip
    try simp only [zq, zi, zc, zv, zf, zbd_zbd, zbd_some, zbd_fault, zbd_none, zite0, zite1, ↓reduceIte, Nat.one_ne_zero]
    refine qsm_acmp true rfl (qzk (hlt _) (by decide)) (qa_neT t1) rfl ?_
    refine qsm_pls (n := 2) (k' := 9) (lo' := [some (.ref 1)]) (S' := [.retAddr 50, .ref 1]) (h' := h) rfl ?_
    first
      | refine qsm_call hc (qim_up (qi_copyIf (d := d) (k := 50) ht (by decide)) (by omega)) rfl rfl rfl rfl rfl rfl rfl rfl (ai_rcv1 rfl rfl (qcs_obj hc)) (fun v3 s3 h3 f3 hc3 => ?_)
      | refine qsm_callL hc (qim_up (qi_copyIf (d := d) (k := 50) ht (by decide)) (by omega)) rfl rfl rfl rfl rfl rfl rfl rfl (ai_rcv1 rfl rfl (qcs_obj hc)) (fun v3 s3 h3 f3 hc3 => ?_)
    show qsm L xs e Y bc bs _ qm_51 10 [some (.ref 1)] [.int (nI v3)] h3 _ _ _
    try simp only [zq, zi, zc, zv, zf, zbd_zbd, zbd_some, zbd_fault, zbd_none, zite0, zite1, ↓reduceIte, Nat.one_ne_zero]
    rcases zci_v f3 with ⟨e3, q3, n3⟩ | ⟨e3, n3⟩
    · subst e3
      have t4 : ztk e s3.1 ≠ 101 := by rw [q3]; exact t1
      show qsm L xs e Y bc bs _ qm_51 10 [some (.ref 1)] [.int 0] h3 _ _ _
      try simp only [zq, zi, zc, zv, zf, zbd_zbd, zbd_some, zbd_fault, zbd_none, zite0, zite1, ↓reduceIte, Nat.one_ne_zero]
      refine qsm_if false rfl (rfl) rfl ?_
      refine qsm_pls (n := 2) (k' := 13) (lo' := [some (.ref 1)]) (S' := [.retAddr 88, .ref 1]) (h' := h3) rfl ?_
      first
        | refine qsm_call hc3 (qim_up (qi_copyIf (d := d) (k := 88) ht (by decide)) (by omega)) rfl rfl rfl rfl rfl rfl rfl rfl (ai_rcv1 rfl rfl (qcs_obj hc3)) (fun v5 s5 h5 f5 hc5 => ?_)
        | refine qsm_callL hc3 (qim_up (qi_copyIf (d := d) (k := 88) ht (by decide)) (by omega)) rfl rfl rfl rfl rfl rfl rfl rfl (ai_rcv1 rfl rfl (qcs_obj hc3)) (fun v5 s5 h5 f5 hc5 => ?_)
      show qsm L xs e Y bc bs _ qm_51 14 [some (.ref 1)] [.int (nI v5)] h5 _ _ _
      try simp only [zq, zi, zc, zv, zf, zbd_zbd, zbd_some, zbd_fault, zbd_none, zite0, zite1, ↓reduceIte, Nat.one_ne_zero]
      refine qsm_pls (n := 2) (k' := 16) (lo' := [some (.ref 1)]) (S' := [.ref 1]) (h' := h5) rfl ?_
      first
        | refine qsm_call hc5 (qim_up (qi_number (d := d) ht) (by omega)) rfl rfl rfl rfl rfl rfl rfl rfl (ai_rcv1 rfl rfl (qcs_obj hc5)) (fun v6 s6 h6 f6 hc6 => ?_)
        | refine qsm_callL hc5 (qim_up (qi_number (d := d) ht) (by omega)) rfl rfl rfl rfl rfl rfl rfl rfl (ai_rcv1 rfl rfl (qcs_obj hc5)) (fun v6 s6 h6 f6 hc6 => ?_)
      show qsm L xs e Y bc bs _ qm_51 17 [some (.ref 1)] [] h6 _ _ _
      try simp only [zq, zi, zc, zv, zf, zbd_zbd, zbd_some, zbd_fault, zbd_none, zite0, zite1, ↓reduceIte, Nat.one_ne_zero]
      exact qsm_ret7 hc6 rfl
    · subst e3
      show qsm L xs e Y bc bs _ qm_51 10 [some (.ref 1)] [.int 1] h3 _ _ _
      try simp only [zq, zi, zc, zv, zf, zbd_zbd, zbd_some, zbd_fault, zbd_none, zite0, zite1, ↓reduceIte, Nat.one_ne_zero]
      refine qsm_if true rfl (rfl) rfl ?_
      exact qsm_ret7 hc3 rfl
/-- Grammar.reference() -/
theorem qs_refer (ht : qtk e Y) : qim L xs e Y bc bs (d + 7) 79 [.ref 1] 0 (z_refer e) := by
  have hlt := qtk_lt ht
  refine qim_of (M := qm_79) rfl rfl (fun P s h hc => ?_)
  show qsm L xs e Y bc bs _ qm_79 0 [some (.ref 1)] [] h _ _ _
  simp only [z_refer, zq, zi, zc, zv, zf, zbd_zbd, zbd_some, zbd_fault, zbd_none, zite0, zite1, ↓reduceIte, Nat.one_ne_zero]
  try simp only [zq, zi, zc, zv, zf, zbd_zbd, zbd_some, zbd_fault, zbd_none, zite0, zite1, ↓reduceIte, Nat.one_ne_zero]
  refine qsm_pls (n := 1) (k' := 1) (lo' := [some (.ref 1)]) (S' := [.ref 1]) (h' := h) rfl ?_
  first
    | refine qsm_call hc (qim_up (qi_name (d := d) ht) (by omega)) rfl rfl rfl rfl rfl rfl rfl rfl (ai_rcv1 rfl rfl (qcs_obj hc)) (fun v7 s7 h7 f7 hc7 => ?_)
    | refine qsm_callL hc (qim_up (qi_name (d := d) ht) (by omega)) rfl rfl rfl rfl rfl rfl rfl rfl (ai_rcv1 rfl rfl (qcs_obj hc)) (fun v7 s7 h7 f7 hc7 => ?_)
  show qsm L xs e Y bc bs _ qm_79 2 [some (.ref 1)] [] h7 _ _ _
  try simp only [zq, zi, zc, zv, zf, zbd_zbd, zbd_some, zbd_fault, zbd_none, zite0, zite1, ↓reduceIte, Nat.one_ne_zero]
  refine qsm_pls (n := 2) (k' := 4) (lo' := [some (.ref 1)]) (S' := [.retAddr 53, .ref 1]) (h' := h7) rfl ?_
  first
    | refine qsm_call hc7 (qim_up (qi_copyIf (d := d) (k := 53) ht (by decide)) (by omega)) rfl rfl rfl rfl rfl rfl rfl rfl (ai_rcv1 rfl rfl (qcs_obj hc7)) (fun v8 s8 h8 f8 hc8 => ?_)
    | refine qsm_callL hc7 (qim_up (qi_copyIf (d := d) (k := 53) ht (by decide)) (by omega)) rfl rfl rfl rfl rfl rfl rfl rfl (ai_rcv1 rfl rfl (qcs_obj hc7)) (fun v8 s8 h8 f8 hc8 => ?_)
  show qsm L xs e Y bc bs _ qm_79 5 [some (.ref 1)] [.int (nI v8)] h8 _ _ _
  try simp only [zq, zi, zc, zv, zf, zbd_zbd, zbd_some, zbd_fault, zbd_none, zite0, zite1, ↓reduceIte, Nat.one_ne_zero]
  rcases zci_v f8 with ⟨e8, q8, n8⟩ | ⟨e8, n8⟩
  · subst e8
    show qsm L xs e Y bc bs _ qm_79 5 [some (.ref 1)] [.int 0] h8 _ _ _
    try simp only [zq, zi, zc, zv, zf, zbd_zbd, zbd_some, zbd_fault, zbd_none, zite0, zite1, ↓reduceIte, Nat.one_ne_zero]
    refine qsm_if false rfl (rfl) rfl ?_
    refine qsm_pls (n := 1) (k' := 7) (lo' := [some (.ref 1)]) (S' := [.ref 1]) (h' := h8) rfl ?_
    refine qsm_getf (v := .ref 4) rfl (qcs_obj hc8) rfl rfl rfl ?_
    refine qsm_pls (n := 1) (k' := 9) (lo' := [some (.ref 1)]) (S' := [.retAddr 1009, .ref 4]) (h' := h8) rfl ?_
    obtain ⟨fs9, b9⟩ := qcs_plain hc8
    first
      | refine qsm_call hc8 (qim_up (qi_put (d := d) (c := 1009) (by decide) (by decide)) (by omega)) rfl rfl rfl rfl rfl rfl rfl rfl (ai_rcv1 rfl rfl b9) (fun v9 s9 h9 f9 hc9 => ?_)
      | refine qsm_callL hc8 (qim_up (qi_put (d := d) (c := 1009) (by decide) (by decide)) (by omega)) rfl rfl rfl rfl rfl rfl rfl rfl (ai_rcv1 rfl rfl b9) (fun v9 s9 h9 f9 hc9 => ?_)
    show qsm L xs e Y bc bs _ qm_79 10 [some (.ref 1)] [] h9 _ _ _
    try simp only [zq, zi, zc, zv, zf, zbd_zbd, zbd_some, zbd_fault, zbd_none, zite0, zite1, ↓reduceIte, Nat.one_ne_zero]
    exact qsm_ret7 hc9 rfl
  · subst e8
    show qsm L xs e Y bc bs _ qm_79 5 [some (.ref 1)] [.int 1] h8 _ _ _
    try simp only [zq, zi, zc, zv, zf, zbd_zbd, zbd_some, zbd_fault, zbd_none, zite0, zite1, ↓reduceIte, Nat.one_ne_zero]
    refine qsm_if true rfl (rfl) rfl ?_
    refine qsm_pls (n := 2) (k' := 13) (lo' := [some (.ref 1)]) (S' := [.retAddr 20, .ref 1]) (h' := h8) rfl ?_
    first
      | refine qsm_call hc8 (qim_up (qi_copy (d := d) (k := 20) ht (by decide)) (by omega)) rfl rfl rfl rfl rfl rfl rfl rfl (ai_rcv1 rfl rfl (qcs_obj hc8)) (fun v10 s10 h10 f10 hc10 => ?_)
      | refine qsm_callL hc8 (qim_up (qi_copy (d := d) (k := 20) ht (by decide)) (by omega)) rfl rfl rfl rfl rfl rfl rfl rfl (ai_rcv1 rfl rfl (qcs_obj hc8)) (fun v10 s10 h10 f10 hc10 => ?_)
    show qsm L xs e Y bc bs _ qm_79 14 [some (.ref 1)] [] h10 _ _ _
    try simp only [zq, zi, zc, zv, zf, zbd_zbd, zbd_some, zbd_fault, zbd_none, zite0, zite1, ↓reduceIte, Nat.one_ne_zero]
    refine qsm_pls (n := 2) (k' := 16) (lo' := [some (.ref 1)]) (S' := [.retAddr 67, .ref 1]) (h' := h10) rfl ?_
    first
      | refine qsm_call hc10 (qim_up (qi_copyIf (d := d) (k := 67) ht (by decide)) (by omega)) rfl rfl rfl rfl rfl rfl rfl rfl (ai_rcv1 rfl rfl (qcs_obj hc10)) (fun v11 s11 h11 f11 hc11 => ?_)
      | refine qsm_callL hc10 (qim_up (qi_copyIf (d := d) (k := 67) ht (by decide)) (by omega)) rfl rfl rfl rfl rfl rfl rfl rfl (ai_rcv1 rfl rfl (qcs_obj hc10)) (fun v11 s11 h11 f11 hc11 => ?_)
    show qsm L xs e Y bc bs _ qm_79 17 [some (.ref 1)] [.int (nI v11)] h11 _ _ _
    try simp only [zq, zi, zc, zv, zf, zbd_zbd, zbd_some, zbd_fault, zbd_none, zite0, zite1, ↓reduceIte, Nat.one_ne_zero]
    rcases zci_v f11 with ⟨e11, q11, n11⟩ | ⟨e11, n11⟩
    · subst e11
      show qsm L xs e Y bc bs _ qm_79 17 [some (.ref 1)] [.int 0] h11 _ _ _
      try simp only [zq, zi, zc, zv, zf, zbd_zbd, zbd_some, zbd_fault, zbd_none, zite0, zite1, ↓reduceIte, Nat.one_ne_zero]
      refine qsm_if true rfl (rfl) rfl ?_
      refine qsm_pls (n := 2) (k' := 24) (lo' := [some (.ref 1)]) (S' := [.retAddr 9, .ref 1]) (h' := h11) rfl ?_
      first
        | refine qsm_call hc11 (qim_up (qi_copyIf (d := d) (k := 9) ht (by decide)) (by omega)) rfl rfl rfl rfl rfl rfl rfl rfl (ai_rcv1 rfl rfl (qcs_obj hc11)) (fun v12 s12 h12 f12 hc12 => ?_)
        | refine qsm_callL hc11 (qim_up (qi_copyIf (d := d) (k := 9) ht (by decide)) (by omega)) rfl rfl rfl rfl rfl rfl rfl rfl (ai_rcv1 rfl rfl (qcs_obj hc11)) (fun v12 s12 h12 f12 hc12 => ?_)
      show qsm L xs e Y bc bs _ qm_79 25 [some (.ref 1)] [.int (nI v12)] h12 _ _ _
      try simp only [zq, zi, zc, zv, zf, zbd_zbd, zbd_some, zbd_fault, zbd_none, zite0, zite1, ↓reduceIte, Nat.one_ne_zero]
      rcases zci_v f12 with ⟨e12, q12, n12⟩ | ⟨e12, n12⟩
      · subst e12
        show qsm L xs e Y bc bs _ qm_79 25 [some (.ref 1)] [.int 0] h12 _ _ _
        try simp only [zq, zi, zc, zv, zf, zbd_zbd, zbd_some, zbd_fault, zbd_none, zite0, zite1, ↓reduceIte, Nat.one_ne_zero]
        refine qsm_if false rfl (rfl) rfl ?_
        refine qsm_pls (n := 2) (k' := 28) (lo' := [some (.ref 1)]) (S' := [.retAddr 62, .ref 1]) (h' := h12) rfl ?_
        first
          | refine qsm_call hc12 (qim_up (qi_copy (d := d) (k := 62) ht (by decide)) (by omega)) rfl rfl rfl rfl rfl rfl rfl rfl (ai_rcv1 rfl rfl (qcs_obj hc12)) (fun v13 s13 h13 f13 hc13 => ?_)
          | refine qsm_callL hc12 (qim_up (qi_copy (d := d) (k := 62) ht (by decide)) (by omega)) rfl rfl rfl rfl rfl rfl rfl rfl (ai_rcv1 rfl rfl (qcs_obj hc12)) (fun v13 s13 h13 f13 hc13 => ?_)
        show qsm L xs e Y bc bs _ qm_79 29 [some (.ref 1)] [] h13 _ _ _
        try simp only [zq, zi, zc, zv, zf, zbd_zbd, zbd_some, zbd_fault, zbd_none, zite0, zite1, ↓reduceIte, Nat.one_ne_zero]
        exact qsm_ret7 hc13 rfl
      · subst e12
        show qsm L xs e Y bc bs _ qm_79 25 [some (.ref 1)] [.int 1] h12 _ _ _
        try simp only [zq, zi, zc, zv, zf, zbd_zbd, zbd_some, zbd_fault, zbd_none, zite0, zite1, ↓reduceIte, Nat.one_ne_zero]
        refine qsm_if true rfl (rfl) rfl ?_
        exact qsm_ret7 hc12 rfl
    · subst e11
      show qsm L xs e Y bc bs _ qm_79 17 [some (.ref 1)] [.int 1] h11 _ _ _
      try simp only [zq, zi, zc, zv, zf, zbd_zbd, zbd_some, zbd_fault, zbd_none, zite0, zite1, ↓reduceIte, Nat.one_ne_zero]
      refine qsm_if false rfl (rfl) rfl ?_
      refine qsm_pls (n := 2) (k' := 20) (lo' := [some (.ref 1)]) (S' := [.retAddr 50, .ref 1]) (h' := h11) rfl ?_
      first
        | refine qsm_call hc11 (qim_up (qi_copy (d := d) (k := 50) ht (by decide)) (by omega)) rfl rfl rfl rfl rfl rfl rfl rfl (ai_rcv1 rfl rfl (qcs_obj hc11)) (fun v14 s14 h14 f14 hc14 => ?_)
        | refine qsm_callL hc11 (qim_up (qi_copy (d := d) (k := 50) ht (by decide)) (by omega)) rfl rfl rfl rfl rfl rfl rfl rfl (ai_rcv1 rfl rfl (qcs_obj hc11)) (fun v14 s14 h14 f14 hc14 => ?_)
      show qsm L xs e Y bc bs _ qm_79 21 [some (.ref 1)] [] h14 _ _ _
      try simp only [zq, zi, zc, zv, zf, zbd_zbd, zbd_some, zbd_fault, zbd_none, zite0, zite1, ↓reduceIte, Nat.one_ne_zero]
      refine qsm_pls (n := 1) (k' := 29) (lo' := [some (.ref 1)]) (S' := []) (h' := h14) rfl ?_
      exact qsm_ret7 hc14 rfl
/-- Grammar.namesInBrackets() -/
theorem qs_names (ht : qtk e Y) : qim L xs e Y bc bs (d + 7) 80 [.ref 1] 0 (z_names e) := by
  have hlt := qtk_lt ht
  refine qim_of (M := qm_80) rfl rfl (fun P s h hc => ?_)
  show qsm L xs e Y bc bs _ qm_80 0 [some (.ref 1), none] [] h _ _ _
  have loop : ∀ (G : Nat → zS → zR Nat), (∀ (j : Nat) (s : zS) (h : ai_H), qcs e Y bc bs P s h → qsm L xs e Y bc bs (d + 6) qm_80 18 [some (.ref 1), some (.int (nI j))] [] h 0 P (G 0 s)) → ∀ (n i : Nat) (s : zS) (h : ai_H), i ≤ s.1 → qcs e Y bc bs P s h → qsm L xs e Y bc bs (d + 6) qm_80 7 [some (.ref 1), some (.int (nI i))] [] h 0 P (zbd (zlp (zl_names e) n s) G) := by
    intro G tail n
    induction n with
    | zero => intro i s h hi hc; exact qsm_none
    | succ n ih =>
      intro i s h hi hc
      have hb := qcs_bd hc
      rw [zlp_succ]
      generalize zlp (zl_names e) n = W at ih ⊢
      simp only [zl_names, zq, zi, zc, zv, zf, zbd_zbd, zbd_some, zbd_fault, zbd_none, zite0, zite1, ↓reduceIte, Nat.one_ne_zero]
      refine qsm_pls (n := 2) (k' := 9) (lo' := [some (.ref 1), some (.int (nI i))]) (S' := [.int 1000000, .int (nI i)]) (h' := h) rfl ?_
      refine qsm_icmp false rfl (qc_geF (b := 1000000) (by omega) (by decide)) rfl ?_
      refine qsm_pls (n := 2) (k' := 12) (lo' := [some (.ref 1), some (.int (nI i))]) (S' := [.retAddr 84, .ref 1]) (h' := h) rfl ?_
      first
        | refine qsm_call hc (qim_up (qi_copyIf (d := d) (k := 84) ht (by decide)) (by omega)) rfl rfl rfl rfl rfl rfl rfl rfl (ai_rcv1 rfl rfl (qcs_obj hc)) (fun v15 s15 h15 f15 hc15 => ?_)
        | refine qsm_callL hc (qim_up (qi_copyIf (d := d) (k := 84) ht (by decide)) (by omega)) rfl rfl rfl rfl rfl rfl rfl rfl (ai_rcv1 rfl rfl (qcs_obj hc)) (fun v15 s15 h15 f15 hc15 => ?_)
      show qsm L xs e Y bc bs _ qm_80 13 [some (.ref 1), some (.int (nI i))] [.int (nI v15)] h15 _ _ _
      try simp only [zq, zi, zc, zv, zf, zbd_zbd, zbd_some, zbd_fault, zbd_none, zite0, zite1, ↓reduceIte, Nat.one_ne_zero]
      rcases zci_v f15 with ⟨e15, q15, n15⟩ | ⟨e15, n15⟩
      · subst e15
        show qsm L xs e Y bc bs _ qm_80 13 [some (.ref 1), some (.int (nI i))] [.int 0] h15 _ _ _
        try simp only [zq, zi, zc, zv, zf, zbd_zbd, zbd_some, zbd_fault, zbd_none, zite0, zite1, ↓reduceIte, Nat.one_ne_zero]
        refine qsm_if true rfl (rfl) rfl ?_
        exact tail i _ _ hc15
      · subst e15
        show qsm L xs e Y bc bs _ qm_80 13 [some (.ref 1), some (.int (nI i))] [.int 1] h15 _ _ _
        try simp only [zq, zi, zc, zv, zf, zbd_zbd, zbd_some, zbd_fault, zbd_none, zite0, zite1, ↓reduceIte, Nat.one_ne_zero]
        refine qsm_if false rfl (rfl) rfl ?_
        refine qsm_pls (n := 1) (k' := 15) (lo' := [some (.ref 1), some (.int (nI i))]) (S' := [.ref 1]) (h' := h15) rfl ?_
        first
          | refine qsm_call hc15 (qim_up (qi_name (d := d) ht) (by omega)) rfl rfl rfl rfl rfl rfl rfl rfl (ai_rcv1 rfl rfl (qcs_obj hc15)) (fun v16 s16 h16 f16 hc16 => ?_)
          | refine qsm_callL hc15 (qim_up (qi_name (d := d) ht) (by omega)) rfl rfl rfl rfl rfl rfl rfl rfl (ai_rcv1 rfl rfl (qcs_obj hc15)) (fun v16 s16 h16 f16 hc16 => ?_)
        show qsm L xs e Y bc bs _ qm_80 16 [some (.ref 1), some (.int (nI i))] [] h16 _ _ _
        try simp only [zq, zi, zc, zv, zf, zbd_zbd, zbd_some, zbd_fault, zbd_none, zite0, zite1, ↓reduceIte, Nat.one_ne_zero]
        refine qsm_pls (n := 2) (k' := 7) (lo' := [some (.ref 1), some (.int ((nI i) + 1))]) (S' := []) (h' := h16) rfl ?_
        rw [nI_1]
        by_cases g17 : s16.1 ≤ s.1
        · rw [if_pos g17]; exact qsm_none
        · rw [if_neg g17]; exact ih (i + 1) _ _ (by omega) hc16
  simp only [z_names, zq, zi, zc, zv, zf, zbd_zbd, zbd_some, zbd_fault, zbd_none, zite0, zite1, ↓reduceIte, Nat.one_ne_zero]
  try simp only [zq, zi, zc, zv, zf, zbd_zbd, zbd_some, zbd_fault, zbd_none, zite0, zite1, ↓reduceIte, Nat.one_ne_zero]
  refine qsm_pls (n := 2) (k' := 2) (lo' := [some (.ref 1), none]) (S' := [.retAddr 82, .ref 1]) (h' := h) rfl ?_
  first
    | refine qsm_call hc (qim_up (qi_copy (d := d) (k := 82) ht (by decide)) (by omega)) rfl rfl rfl rfl rfl rfl rfl rfl (ai_rcv1 rfl rfl (qcs_obj hc)) (fun v18 s18 h18 f18 hc18 => ?_)
    | refine qsm_callL hc (qim_up (qi_copy (d := d) (k := 82) ht (by decide)) (by omega)) rfl rfl rfl rfl rfl rfl rfl rfl (ai_rcv1 rfl rfl (qcs_obj hc)) (fun v18 s18 h18 f18 hc18 => ?_)
  show qsm L xs e Y bc bs _ qm_80 3 [some (.ref 1), none] [] h18 _ _ _
  try simp only [zq, zi, zc, zv, zf, zbd_zbd, zbd_some, zbd_fault, zbd_none, zite0, zite1, ↓reduceIte, Nat.one_ne_zero]
  refine qsm_pls (n := 1) (k' := 4) (lo' := [some (.ref 1), none]) (S' := [.ref 1]) (h' := h18) rfl ?_
  first
    | refine qsm_call hc18 (qim_up (qi_name (d := d) ht) (by omega)) rfl rfl rfl rfl rfl rfl rfl rfl (ai_rcv1 rfl rfl (qcs_obj hc18)) (fun v19 s19 h19 f19 hc19 => ?_)
    | refine qsm_callL hc18 (qim_up (qi_name (d := d) ht) (by omega)) rfl rfl rfl rfl rfl rfl rfl rfl (ai_rcv1 rfl rfl (qcs_obj hc18)) (fun v19 s19 h19 f19 hc19 => ?_)
  show qsm L xs e Y bc bs _ qm_80 5 [some (.ref 1), none] [] h19 _ _ _
  try simp only [zq, zi, zc, zv, zf, zbd_zbd, zbd_some, zbd_fault, zbd_none, zite0, zite1, ↓reduceIte, Nat.one_ne_zero]
  refine qsm_pls (n := 2) (k' := 7) (lo' := [some (.ref 1), some (.int 0)]) (S' := []) (h' := h19) rfl ?_
  first
    | refine loop _ (fun j20 s20 h20 hc20 => ?_) zN 0 _ _ (Nat.zero_le _) hc19
    | (rw [← zbd_id (zlp (zl_names e) zN _)]; refine loop _ (fun j20 s20 h20 hc20 => ?_) zN 0 _ _ (Nat.zero_le _) hc19)
  show qsm L xs e Y bc bs _ qm_80 18 [some (.ref 1), some (.int (nI j20))] [] h20 _ _ _
  try simp only [zq, zi, zc, zv, zf, zbd_zbd, zbd_some, zbd_fault, zbd_none, zite0, zite1, ↓reduceIte, Nat.one_ne_zero]
  refine qsm_pls (n := 2) (k' := 20) (lo' := [some (.ref 1), some (.int (nI j20))]) (S' := [.retAddr 83, .ref 1]) (h' := h20) rfl ?_
  first
    | refine qsm_call hc20 (qim_up (qi_copy (d := d) (k := 83) ht (by decide)) (by omega)) rfl rfl rfl rfl rfl rfl rfl rfl (ai_rcv1 rfl rfl (qcs_obj hc20)) (fun v21 s21 h21 f21 hc21 => ?_)
    | refine qsm_callL hc20 (qim_up (qi_copy (d := d) (k := 83) ht (by decide)) (by omega)) rfl rfl rfl rfl rfl rfl rfl rfl (ai_rcv1 rfl rfl (qcs_obj hc20)) (fun v21 s21 h21 f21 hc21 => ?_)
  show qsm L xs e Y bc bs _ qm_80 21 [some (.ref 1), some (.int (nI j20))] [] h21 _ _ _
  try simp only [zq, zi, zc, zv, zf, zbd_zbd, zbd_some, zbd_fault, zbd_none, zite0, zite1, ↓reduceIte, Nat.one_ne_zero]
  exact qsm_ret7 hc21 rfl
/-- Grammar.condition() -/
theorem qs_cond (ht : qtk e Y) (hex : qim L xs e Y bc bs d 55 [.ref 1] 1 ex) : qim L xs e Y bc bs (d + 7) 66 [.ref 1] 0 (z_cond e ex) := by
  have hlt := qtk_lt ht
  refine qim_of (M := qm_66) rfl rfl (fun P s h hc => ?_)
  show qsm L xs e Y bc bs _ qm_66 0 [some (.ref 1)] [] h _ _ _
  simp only [z_cond, zq, zi, zc, zv, zf, zbd_zbd, zbd_some, zbd_fault, zbd_none, zite0, zite1, ↓reduceIte, Nat.one_ne_zero]
  try simp only [zq, zi, zc, zv, zf, zbd_zbd, zbd_some, zbd_fault, zbd_none, zite0, zite1, ↓reduceIte, Nat.one_ne_zero]
  refine qsm_pls (n := 2) (k' := 2) (lo' := [some (.ref 1)]) (S' := [.retAddr 81, .ref 1]) (h' := h) rfl ?_
  first
    | refine qsm_call hc (qim_up (qi_copyIf (d := d) (k := 81) ht (by decide)) (by omega)) rfl rfl rfl rfl rfl rfl rfl rfl (ai_rcv1 rfl rfl (qcs_obj hc)) (fun v22 s22 h22 f22 hc22 => ?_)
    | refine qsm_callL hc (qim_up (qi_copyIf (d := d) (k := 81) ht (by decide)) (by omega)) rfl rfl rfl rfl rfl rfl rfl rfl (ai_rcv1 rfl rfl (qcs_obj hc)) (fun v22 s22 h22 f22 hc22 => ?_)
  show qsm L xs e Y bc bs _ qm_66 3 [some (.ref 1)] [.int (nI v22)] h22 _ _ _
  try simp only [zq, zi, zc, zv, zf, zbd_zbd, zbd_some, zbd_fault, zbd_none, zite0, zite1, ↓reduceIte, Nat.one_ne_zero]
  rcases zci_v f22 with ⟨e22, q22, n22⟩ | ⟨e22, n22⟩
  · subst e22
    show qsm L xs e Y bc bs _ qm_66 3 [some (.ref 1)] [.int 0] h22 _ _ _
    try simp only [zq, zi, zc, zv, zf, zbd_zbd, zbd_some, zbd_fault, zbd_none, zite0, zite1, ↓reduceIte, Nat.one_ne_zero]
    refine qsm_if true rfl (rfl) rfl ?_
    exact qsm_ret7 hc22 rfl
  · subst e22
    show qsm L xs e Y bc bs _ qm_66 3 [some (.ref 1)] [.int 1] h22 _ _ _
    try simp only [zq, zi, zc, zv, zf, zbd_zbd, zbd_some, zbd_fault, zbd_none, zite0, zite1, ↓reduceIte, Nat.one_ne_zero]
    refine qsm_if false rfl (rfl) rfl ?_
    refine qsm_pls (n := 1) (k' := 5) (lo' := [some (.ref 1)]) (S' := [.ref 1]) (h' := h22) rfl ?_
    first
      | refine qsm_call hc22 (qim_up (hex) (by omega)) rfl rfl rfl rfl rfl rfl rfl rfl (ai_rcv1 rfl rfl (qcs_obj hc22)) (fun v23 s23 h23 f23 hc23 => ?_)
      | refine qsm_callL hc22 (qim_up (hex) (by omega)) rfl rfl rfl rfl rfl rfl rfl rfl (ai_rcv1 rfl rfl (qcs_obj hc22)) (fun v23 s23 h23 f23 hc23 => ?_)
    show qsm L xs e Y bc bs _ qm_66 6 [some (.ref 1)] [.int (nI v23)] h23 _ _ _
    try simp only [zq, zi, zc, zv, zf, zbd_zbd, zbd_some, zbd_fault, zbd_none, zite0, zite1, ↓reduceIte, Nat.one_ne_zero]
    refine qsm_pls (n := 1) (k' := 7) (lo' := [some (.ref 1)]) (S' := []) (h' := h23) rfl ?_
    exact qsm_ret7 hc23 rfl
/-- Grammar.expressions() -/
theorem qs_exs (ht : qtk e Y) (hex : qim L xs e Y bc bs d 55 [.ref 1] 1 ex) : qim L xs e Y bc bs (d + 7) 67 [.ref 1] 0 (z_exs e ex) := by
  have hlt := qtk_lt ht
  refine qim_of (M := qm_67) rfl rfl (fun P s h hc => ?_)
  show qsm L xs e Y bc bs _ qm_67 0 [some (.ref 1), none] [] h _ _ _
  have loop : ∀ (G : Nat → zS → zR Nat), (∀ (j : Nat) (s : zS) (h : ai_H), qcs e Y bc bs P s h → qsm L xs e Y bc bs (d + 6) qm_67 17 [some (.ref 1), some (.int (nI j))] [] h 0 P (G 0 s)) → ∀ (n i : Nat) (s : zS) (h : ai_H), i ≤ s.1 → qcs e Y bc bs P s h → qsm L xs e Y bc bs (d + 6) qm_67 5 [some (.ref 1), some (.int (nI i))] [] h 0 P (zbd (zlp (zl_exs e ex) n s) G) := by
    intro G tail n
    induction n with
    | zero => intro i s h hi hc; exact qsm_none
    | succ n ih =>
      intro i s h hi hc
      have hb := qcs_bd hc
      rw [zlp_succ]
      generalize zlp (zl_exs e ex) n = W at ih ⊢
      simp only [zl_exs, zq, zi, zc, zv, zf, zbd_zbd, zbd_some, zbd_fault, zbd_none, zite0, zite1, ↓reduceIte, Nat.one_ne_zero]
      refine qsm_pls (n := 2) (k' := 7) (lo' := [some (.ref 1), some (.int (nI i))]) (S' := [.int 1000000, .int (nI i)]) (h' := h) rfl ?_
      refine qsm_icmp false rfl (qc_geF (b := 1000000) (by omega) (by decide)) rfl ?_
      refine qsm_pls (n := 2) (k' := 10) (lo' := [some (.ref 1), some (.int (nI i))]) (S' := [.retAddr 84, .ref 1]) (h' := h) rfl ?_
      first
        | refine qsm_call hc (qim_up (qi_copyIf (d := d) (k := 84) ht (by decide)) (by omega)) rfl rfl rfl rfl rfl rfl rfl rfl (ai_rcv1 rfl rfl (qcs_obj hc)) (fun v24 s24 h24 f24 hc24 => ?_)
        | refine qsm_callL hc (qim_up (qi_copyIf (d := d) (k := 84) ht (by decide)) (by omega)) rfl rfl rfl rfl rfl rfl rfl rfl (ai_rcv1 rfl rfl (qcs_obj hc)) (fun v24 s24 h24 f24 hc24 => ?_)
      show qsm L xs e Y bc bs _ qm_67 11 [some (.ref 1), some (.int (nI i))] [.int (nI v24)] h24 _ _ _
      try simp only [zq, zi, zc, zv, zf, zbd_zbd, zbd_some, zbd_fault, zbd_none, zite0, zite1, ↓reduceIte, Nat.one_ne_zero]
      rcases zci_v f24 with ⟨e24, q24, n24⟩ | ⟨e24, n24⟩
      · subst e24
        show qsm L xs e Y bc bs _ qm_67 11 [some (.ref 1), some (.int (nI i))] [.int 0] h24 _ _ _
        try simp only [zq, zi, zc, zv, zf, zbd_zbd, zbd_some, zbd_fault, zbd_none, zite0, zite1, ↓reduceIte, Nat.one_ne_zero]
        refine qsm_if true rfl (rfl) rfl ?_
        exact tail i _ _ hc24
      · subst e24
        show qsm L xs e Y bc bs _ qm_67 11 [some (.ref 1), some (.int (nI i))] [.int 1] h24 _ _ _
        try simp only [zq, zi, zc, zv, zf, zbd_zbd, zbd_some, zbd_fault, zbd_none, zite0, zite1, ↓reduceIte, Nat.one_ne_zero]
        refine qsm_if false rfl (rfl) rfl ?_
        refine qsm_pls (n := 1) (k' := 13) (lo' := [some (.ref 1), some (.int (nI i))]) (S' := [.ref 1]) (h' := h24) rfl ?_
        first
          | refine qsm_call hc24 (qim_up (hex) (by omega)) rfl rfl rfl rfl rfl rfl rfl rfl (ai_rcv1 rfl rfl (qcs_obj hc24)) (fun v25 s25 h25 f25 hc25 => ?_)
          | refine qsm_callL hc24 (qim_up (hex) (by omega)) rfl rfl rfl rfl rfl rfl rfl rfl (ai_rcv1 rfl rfl (qcs_obj hc24)) (fun v25 s25 h25 f25 hc25 => ?_)
        show qsm L xs e Y bc bs _ qm_67 14 [some (.ref 1), some (.int (nI i))] [.int (nI v25)] h25 _ _ _
        try simp only [zq, zi, zc, zv, zf, zbd_zbd, zbd_some, zbd_fault, zbd_none, zite0, zite1, ↓reduceIte, Nat.one_ne_zero]
        refine qsm_pls (n := 3) (k' := 5) (lo' := [some (.ref 1), some (.int ((nI i) + 1))]) (S' := []) (h' := h25) rfl ?_
        rw [nI_1]
        by_cases g26 : s25.1 ≤ s.1
        · rw [if_pos g26]; exact qsm_none
        · rw [if_neg g26]; exact ih (i + 1) _ _ (by omega) hc25
  simp only [z_exs, zq, zi, zc, zv, zf, zbd_zbd, zbd_some, zbd_fault, zbd_none, zite0, zite1, ↓reduceIte, Nat.one_ne_zero]
  try simp only [zq, zi, zc, zv, zf, zbd_zbd, zbd_some, zbd_fault, zbd_none, zite0, zite1, ↓reduceIte, Nat.one_ne_zero]
  refine qsm_pls (n := 1) (k' := 1) (lo' := [some (.ref 1), none]) (S' := [.ref 1]) (h' := h) rfl ?_
  first
    | refine qsm_call hc (qim_up (hex) (by omega)) rfl rfl rfl rfl rfl rfl rfl rfl (ai_rcv1 rfl rfl (qcs_obj hc)) (fun v27 s27 h27 f27 hc27 => ?_)
    | refine qsm_callL hc (qim_up (hex) (by omega)) rfl rfl rfl rfl rfl rfl rfl rfl (ai_rcv1 rfl rfl (qcs_obj hc)) (fun v27 s27 h27 f27 hc27 => ?_)
  show qsm L xs e Y bc bs _ qm_67 2 [some (.ref 1), none] [.int (nI v27)] h27 _ _ _
  try simp only [zq, zi, zc, zv, zf, zbd_zbd, zbd_some, zbd_fault, zbd_none, zite0, zite1, ↓reduceIte, Nat.one_ne_zero]
  refine qsm_pls (n := 3) (k' := 5) (lo' := [some (.ref 1), some (.int 0)]) (S' := []) (h' := h27) rfl ?_
  first
    | refine loop _ (fun j28 s28 h28 hc28 => ?_) zN 0 _ _ (Nat.zero_le _) hc27
    | (rw [← zbd_id (zlp (zl_exs e ex) zN _)]; refine loop _ (fun j28 s28 h28 hc28 => ?_) zN 0 _ _ (Nat.zero_le _) hc27)
  show qsm L xs e Y bc bs _ qm_67 17 [some (.ref 1), some (.int (nI j28))] [] h28 _ _ _
  try simp only [zq, zi, zc, zv, zf, zbd_zbd, zbd_some, zbd_fault, zbd_none, zite0, zite1, ↓reduceIte, Nat.one_ne_zero]
  exact qsm_ret7 hc28 rfl
/-- Grammar.column() -/
theorem qs_column (ht : qtk e Y) (hex : qim L xs e Y bc bs d 55 [.ref 1] 1 ex) : qim L xs e Y bc bs (d + 8) 49 [.ref 1] 0 (z_column e ex) := by
  have hlt := qtk_lt ht
  refine qim_of (M := qm_49) rfl rfl (fun P s h hc => ?_)
  show qsm L xs e Y bc bs _ qm_49 0 [some (.ref 1), none, none] [] h _ _ _
  have loop : ∀ (G : Nat → zS → zR Nat), (∀ (j : Nat) (s : zS) (h : ai_H), qcs e Y bc bs P s h → qsm L xs e Y bc bs (d + 7) qm_49 68 [some (.ref 1), some (.int 0), some (.int (nI j))] [] h 0 P (G 0 s)) → ∀ (n i : Nat) (s : zS) (h : ai_H), i ≤ s.1 → qcs e Y bc bs P s h → qsm L xs e Y bc bs (d + 7) qm_49 13 [some (.ref 1), some (.int 1), some (.int (nI i))] [] h 0 P (zbd (zlp (z_option e ex) n s) G) := by
    intro G tail n
    induction n with
    | zero => intro i s h hi hc; exact qsm_none
    | succ n ih =>
      intro i s h hi hc
      have hb := qcs_bd hc
      rw [zlp_succ]
      generalize zlp (z_option e ex) n = W at ih ⊢
      simp only [z_option, z_brex, zq, zi, zc, zv, zf, zbd_zbd, zbd_some, zbd_fault, zbd_none, zite0, zite1, ↓reduceIte, Nat.one_ne_zero]
      refine qsm_pls (n := 2) (k' := 15) (lo' := [some (.ref 1), some (.int 1), some (.int (nI i))]) (S' := [.int 1000000, .int (nI i)]) (h' := h) rfl ?_
      refine qsm_icmp false rfl (qc_geF (b := 1000000) (by omega) (by decide)) rfl ?_
      refine qsm_pls (n := 1) (k' := 17) (lo' := [some (.ref 1), some (.int 1), some (.int (nI i))]) (S' := [.int 1]) (h' := h) rfl ?_
      refine qsm_if false rfl (rfl) rfl ?_
      refine qsm_pls (n := 2) (k' := 20) (lo' := [some (.ref 1), some (.int 1), some (.int (nI i))]) (S' := [.retAddr 49, .ref 1]) (h' := h) rfl ?_
      first
        | refine qsm_call hc (qim_up (qi_copyIf (d := d) (k := 49) ht (by decide)) (by omega)) rfl rfl rfl rfl rfl rfl rfl rfl (ai_rcv1 rfl rfl (qcs_obj hc)) (fun v29 s29 h29 f29 hc29 => ?_)
        | refine qsm_callL hc (qim_up (qi_copyIf (d := d) (k := 49) ht (by decide)) (by omega)) rfl rfl rfl rfl rfl rfl rfl rfl (ai_rcv1 rfl rfl (qcs_obj hc)) (fun v29 s29 h29 f29 hc29 => ?_)
      show qsm L xs e Y bc bs _ qm_49 21 [some (.ref 1), some (.int 1), some (.int (nI i))] [.int (nI v29)] h29 _ _ _
      try simp only [zq, zi, zc, zv, zf, zbd_zbd, zbd_some, zbd_fault, zbd_none, zite0, zite1, ↓reduceIte, Nat.one_ne_zero]
      rcases zci_v f29 with ⟨e29, q29, n29⟩ | ⟨e29, n29⟩
      · subst e29
        show qsm L xs e Y bc bs _ qm_49 21 [some (.ref 1), some (.int 1), some (.int (nI i))] [.int 0] h29 _ _ _
        try simp only [zq, zi, zc, zv, zf, zbd_zbd, zbd_some, zbd_fault, zbd_none, zite0, zite1, ↓reduceIte, Nat.one_ne_zero]
        refine qsm_if true rfl (rfl) rfl ?_
        refine qsm_pls (n := 2) (k' := 28) (lo' := [some (.ref 1), some (.int 1), some (.int (nI i))]) (S' := [.retAddr 59, .ref 1]) (h' := h29) rfl ?_
        first
          | refine qsm_call hc29 (qim_up (qi_copyIf (d := d) (k := 59) ht (by decide)) (by omega)) rfl rfl rfl rfl rfl rfl rfl rfl (ai_rcv1 rfl rfl (qcs_obj hc29)) (fun v30 s30 h30 f30 hc30 => ?_)
          | refine qsm_callL hc29 (qim_up (qi_copyIf (d := d) (k := 59) ht (by decide)) (by omega)) rfl rfl rfl rfl rfl rfl rfl rfl (ai_rcv1 rfl rfl (qcs_obj hc29)) (fun v30 s30 h30 f30 hc30 => ?_)
        show qsm L xs e Y bc bs _ qm_49 29 [some (.ref 1), some (.int 1), some (.int (nI i))] [.int (nI v30)] h30 _ _ _
        try simp only [zq, zi, zc, zv, zf, zbd_zbd, zbd_some, zbd_fault, zbd_none, zite0, zite1, ↓reduceIte, Nat.one_ne_zero]
        rcases zci_v f30 with ⟨e30, q30, n30⟩ | ⟨e30, n30⟩
        · subst e30
          show qsm L xs e Y bc bs _ qm_49 29 [some (.ref 1), some (.int 1), some (.int (nI i))] [.int 0] h30 _ _ _
          try simp only [zq, zi, zc, zv, zf, zbd_zbd, zbd_some, zbd_fault, zbd_none, zite0, zite1, ↓reduceIte, Nat.one_ne_zero]
          refine qsm_if true rfl (rfl) rfl ?_
          refine qsm_pls (n := 2) (k' := 36) (lo' := [some (.ref 1), some (.int 1), some (.int (nI i))]) (S' := [.retAddr 19, .ref 1]) (h' := h30) rfl ?_
          first
            | refine qsm_call hc30 (qim_up (qi_copyIf (d := d) (k := 19) ht (by decide)) (by omega)) rfl rfl rfl rfl rfl rfl rfl rfl (ai_rcv1 rfl rfl (qcs_obj hc30)) (fun v31 s31 h31 f31 hc31 => ?_)
            | refine qsm_callL hc30 (qim_up (qi_copyIf (d := d) (k := 19) ht (by decide)) (by omega)) rfl rfl rfl rfl rfl rfl rfl rfl (ai_rcv1 rfl rfl (qcs_obj hc30)) (fun v31 s31 h31 f31 hc31 => ?_)
          show qsm L xs e Y bc bs _ qm_49 37 [some (.ref 1), some (.int 1), some (.int (nI i))] [.int (nI v31)] h31 _ _ _
          try simp only [zq, zi, zc, zv, zf, zbd_zbd, zbd_some, zbd_fault, zbd_none, zite0, zite1, ↓reduceIte, Nat.one_ne_zero]
          rcases zci_v f31 with ⟨e31, q31, n31⟩ | ⟨e31, n31⟩
          · subst e31
            show qsm L xs e Y bc bs _ qm_49 37 [some (.ref 1), some (.int 1), some (.int (nI i))] [.int 0] h31 _ _ _
            try simp only [zq, zi, zc, zv, zf, zbd_zbd, zbd_some, zbd_fault, zbd_none, zite0, zite1, ↓reduceIte, Nat.one_ne_zero]
            refine qsm_if true rfl (rfl) rfl ?_
            refine qsm_pls (n := 2) (k' := 43) (lo' := [some (.ref 1), some (.int 1), some (.int (nI i))]) (S' := [.retAddr 12, .ref 1]) (h' := h31) rfl ?_
            first
              | refine qsm_call hc31 (qim_up (qi_copyIf (d := d) (k := 12) ht (by decide)) (by omega)) rfl rfl rfl rfl rfl rfl rfl rfl (ai_rcv1 rfl rfl (qcs_obj hc31)) (fun v32 s32 h32 f32 hc32 => ?_)
              | refine qsm_callL hc31 (qim_up (qi_copyIf (d := d) (k := 12) ht (by decide)) (by omega)) rfl rfl rfl rfl rfl rfl rfl rfl (ai_rcv1 rfl rfl (qcs_obj hc31)) (fun v32 s32 h32 f32 hc32 => ?_)
            show qsm L xs e Y bc bs _ qm_49 44 [some (.ref 1), some (.int 1), some (.int (nI i))] [.int (nI v32)] h32 _ _ _
            try simp only [zq, zi, zc, zv, zf, zbd_zbd, zbd_some, zbd_fault, zbd_none, zite0, zite1, ↓reduceIte, Nat.one_ne_zero]
            rcases zci_v f32 with ⟨e32, q32, n32⟩ | ⟨e32, n32⟩
            · subst e32
              show qsm L xs e Y bc bs _ qm_49 44 [some (.ref 1), some (.int 1), some (.int (nI i))] [.int 0] h32 _ _ _
              try simp only [zq, zi, zc, zv, zf, zbd_zbd, zbd_some, zbd_fault, zbd_none, zite0, zite1, ↓reduceIte, Nat.one_ne_zero]
              refine qsm_if true rfl (rfl) rfl ?_
              refine qsm_pls (n := 2) (k' := 57) (lo' := [some (.ref 1), some (.int 1), some (.int (nI i))]) (S' := [.retAddr 61, .ref 1]) (h' := h32) rfl ?_
              first
                | refine qsm_call hc32 (qim_up (qi_copyIf (d := d) (k := 61) ht (by decide)) (by omega)) rfl rfl rfl rfl rfl rfl rfl rfl (ai_rcv1 rfl rfl (qcs_obj hc32)) (fun v33 s33 h33 f33 hc33 => ?_)
                | refine qsm_callL hc32 (qim_up (qi_copyIf (d := d) (k := 61) ht (by decide)) (by omega)) rfl rfl rfl rfl rfl rfl rfl rfl (ai_rcv1 rfl rfl (qcs_obj hc32)) (fun v33 s33 h33 f33 hc33 => ?_)
              show qsm L xs e Y bc bs _ qm_49 58 [some (.ref 1), some (.int 1), some (.int (nI i))] [.int (nI v33)] h33 _ _ _
              try simp only [zq, zi, zc, zv, zf, zbd_zbd, zbd_some, zbd_fault, zbd_none, zite0, zite1, ↓reduceIte, Nat.one_ne_zero]
              rcases zci_v f33 with ⟨e33, q33, n33⟩ | ⟨e33, n33⟩
              · subst e33
                show qsm L xs e Y bc bs _ qm_49 58 [some (.ref 1), some (.int 1), some (.int (nI i))] [.int 0] h33 _ _ _
                try simp only [zq, zi, zc, zv, zf, zbd_zbd, zbd_some, zbd_fault, zbd_none, zite0, zite1, ↓reduceIte, Nat.one_ne_zero]
                refine qsm_if true rfl (rfl) rfl ?_
                refine qsm_pls (n := 2) (k' := 64) (lo' := [some (.ref 1), some (.int 1), some (.int (nI i))]) (S' := [.retAddr 76, .ref 1]) (h' := h33) rfl ?_
                first
                  | refine qsm_call hc33 (qim_up (qi_copyIf (d := d) (k := 76) ht (by decide)) (by omega)) rfl rfl rfl rfl rfl rfl rfl rfl (ai_rcv1 rfl rfl (qcs_obj hc33)) (fun v34 s34 h34 f34 hc34 => ?_)
                  | refine qsm_callL hc33 (qim_up (qi_copyIf (d := d) (k := 76) ht (by decide)) (by omega)) rfl rfl rfl rfl rfl rfl rfl rfl (ai_rcv1 rfl rfl (qcs_obj hc33)) (fun v34 s34 h34 f34 hc34 => ?_)
                show qsm L xs e Y bc bs _ qm_49 65 [some (.ref 1), some (.int 1), some (.int (nI i))] [.int (nI v34)] h34 _ _ _
                try simp only [zq, zi, zc, zv, zf, zbd_zbd, zbd_some, zbd_fault, zbd_none, zite0, zite1, ↓reduceIte, Nat.one_ne_zero]
                rcases zci_v f34 with ⟨e34, q34, n34⟩ | ⟨e34, n34⟩
                · subst e34
                  show qsm L xs e Y bc bs _ qm_49 65 [some (.ref 1), some (.int 1), some (.int (nI i))] [.int 0] h34 _ _ _
                  try simp only [zq, zi, zc, zv, zf, zbd_zbd, zbd_some, zbd_fault, zbd_none, zite0, zite1, ↓reduceIte, Nat.one_ne_zero]
                  refine qsm_pls (n := 3) (k' := 13) (lo' := [some (.ref 1), some (.int 0), some (.int ((nI i) + 1))]) (S' := []) (h' := h34) rfl ?_
                  rw [nI_1]
                  refine qsm_pls (n := 2) (k' := 15) (lo' := [some (.ref 1), some (.int 0), some (.int (nI (i + 1)))]) (S' := [.int 1000000, .int (nI (i + 1))]) (h' := h34) rfl ?_
                  refine qsm_icmp false rfl (qc_geF (b := 1000000) (by omega) (by decide)) rfl ?_
                  refine qsm_pls (n := 1) (k' := 17) (lo' := [some (.ref 1), some (.int 0), some (.int (nI (i + 1)))]) (S' := [.int 0]) (h' := h34) rfl ?_
                  refine qsm_if true rfl (rfl) rfl ?_
                  exact tail (i + 1) _ _ hc34
                · subst e34
                  show qsm L xs e Y bc bs _ qm_49 65 [some (.ref 1), some (.int 1), some (.int (nI i))] [.int 1] h34 _ _ _
                  try simp only [zq, zi, zc, zv, zf, zbd_zbd, zbd_some, zbd_fault, zbd_none, zite0, zite1, ↓reduceIte, Nat.one_ne_zero]
                  refine qsm_pls (n := 3) (k' := 13) (lo' := [some (.ref 1), some (.int 1), some (.int ((nI i) + 1))]) (S' := []) (h' := h34) rfl ?_
                  rw [nI_1]
                  by_cases g35 : s34.1 ≤ s.1
                  · rw [if_pos g35]; exact qsm_none
                  · rw [if_neg g35]; exact ih (i + 1) _ _ (by omega) hc34
              · subst e33
                show qsm L xs e Y bc bs _ qm_49 58 [some (.ref 1), some (.int 1), some (.int (nI i))] [.int 1] h33 _ _ _
                try simp only [zq, zi, zc, zv, zf, zbd_zbd, zbd_some, zbd_fault, zbd_none, zite0, zite1, ↓reduceIte, Nat.one_ne_zero]
                refine qsm_if false rfl (rfl) rfl ?_
                refine qsm_pls (n := 1) (k' := 60) (lo' := [some (.ref 1), some (.int 1), some (.int (nI i))]) (S' := [.ref 1]) (h' := h33) rfl ?_
                first
                  | refine qsm_call hc33 (qim_up (qs_refer (d := d) ht) (by omega)) rfl rfl rfl rfl rfl rfl rfl rfl (ai_rcv1 rfl rfl (qcs_obj hc33)) (fun v36 s36 h36 f36 hc36 => ?_)
                  | refine qsm_callL hc33 (qim_up (qs_refer (d := d) ht) (by omega)) rfl rfl rfl rfl rfl rfl rfl rfl (ai_rcv1 rfl rfl (qcs_obj hc33)) (fun v36 s36 h36 f36 hc36 => ?_)
                show qsm L xs e Y bc bs _ qm_49 61 [some (.ref 1), some (.int 1), some (.int (nI i))] [] h36 _ _ _
                try simp only [zq, zi, zc, zv, zf, zbd_zbd, zbd_some, zbd_fault, zbd_none, zite0, zite1, ↓reduceIte, Nat.one_ne_zero]
                refine qsm_pls (n := 3) (k' := 13) (lo' := [some (.ref 1), some (.int 1), some (.int ((nI i) + 1))]) (S' := []) (h' := h36) rfl ?_
                rw [nI_1]
                by_cases g37 : s36.1 ≤ s.1
                · rw [if_pos g37]; exact qsm_none
                · rw [if_neg g37]; exact ih (i + 1) _ _ (by omega) hc36
            · subst e32
              show qsm L xs e Y bc bs _ qm_49 44 [some (.ref 1), some (.int 1), some (.int (nI i))] [.int 1] h32 _ _ _
              try simp only [zq, zi, zc, zv, zf, zbd_zbd, zbd_some, zbd_fault, zbd_none, zite0, zite1, ↓reduceIte, Nat.one_ne_zero]
              refine qsm_if false rfl (rfl) rfl ?_
              refine qsm_pls (n := 2) (k' := 47) (lo' := [some (.ref 1), some (.int 1), some (.int (nI i))]) (S' := [.retAddr 82, .ref 1]) (h' := h32) rfl ?_
              first
                | refine qsm_call hc32 (qim_up (qi_copy (d := d) (k := 82) ht (by decide)) (by omega)) rfl rfl rfl rfl rfl rfl rfl rfl (ai_rcv1 rfl rfl (qcs_obj hc32)) (fun v38 s38 h38 f38 hc38 => ?_)
                | refine qsm_callL hc32 (qim_up (qi_copy (d := d) (k := 82) ht (by decide)) (by omega)) rfl rfl rfl rfl rfl rfl rfl rfl (ai_rcv1 rfl rfl (qcs_obj hc32)) (fun v38 s38 h38 f38 hc38 => ?_)
              show qsm L xs e Y bc bs _ qm_49 48 [some (.ref 1), some (.int 1), some (.int (nI i))] [] h38 _ _ _
              try simp only [zq, zi, zc, zv, zf, zbd_zbd, zbd_some, zbd_fault, zbd_none, zite0, zite1, ↓reduceIte, Nat.one_ne_zero]
              refine qsm_pls (n := 1) (k' := 49) (lo' := [some (.ref 1), some (.int 1), some (.int (nI i))]) (S' := [.ref 1]) (h' := h38) rfl ?_
              first
                | refine qsm_call hc38 (qim_up (hex) (by omega)) rfl rfl rfl rfl rfl rfl rfl rfl (ai_rcv1 rfl rfl (qcs_obj hc38)) (fun v39 s39 h39 f39 hc39 => ?_)
                | refine qsm_callL hc38 (qim_up (hex) (by omega)) rfl rfl rfl rfl rfl rfl rfl rfl (ai_rcv1 rfl rfl (qcs_obj hc38)) (fun v39 s39 h39 f39 hc39 => ?_)
              show qsm L xs e Y bc bs _ qm_49 50 [some (.ref 1), some (.int 1), some (.int (nI i))] [.int (nI v39)] h39 _ _ _
              try simp only [zq, zi, zc, zv, zf, zbd_zbd, zbd_some, zbd_fault, zbd_none, zite0, zite1, ↓reduceIte, Nat.one_ne_zero]
              refine qsm_pls (n := 3) (k' := 53) (lo' := [some (.ref 1), some (.int 1), some (.int (nI i))]) (S' := [.retAddr 83, .ref 1]) (h' := h39) rfl ?_
              first
                | refine qsm_call hc39 (qim_up (qi_copy (d := d) (k := 83) ht (by decide)) (by omega)) rfl rfl rfl rfl rfl rfl rfl rfl (ai_rcv1 rfl rfl (qcs_obj hc39)) (fun v40 s40 h40 f40 hc40 => ?_)
                | refine qsm_callL hc39 (qim_up (qi_copy (d := d) (k := 83) ht (by decide)) (by omega)) rfl rfl rfl rfl rfl rfl rfl rfl (ai_rcv1 rfl rfl (qcs_obj hc39)) (fun v40 s40 h40 f40 hc40 => ?_)
              show qsm L xs e Y bc bs _ qm_49 54 [some (.ref 1), some (.int 1), some (.int (nI i))] [] h40 _ _ _
              try simp only [zq, zi, zc, zv, zf, zbd_zbd, zbd_some, zbd_fault, zbd_none, zite0, zite1, ↓reduceIte, Nat.one_ne_zero]
              refine qsm_pls (n := 3) (k' := 13) (lo' := [some (.ref 1), some (.int 1), some (.int ((nI i) + 1))]) (S' := []) (h' := h40) rfl ?_
              rw [nI_1]
              by_cases g41 : s40.1 ≤ s.1
              · rw [if_pos g41]; exact qsm_none
              · rw [if_neg g41]; exact ih (i + 1) _ _ (by omega) hc40
          · subst e31
            show qsm L xs e Y bc bs _ qm_49 37 [some (.ref 1), some (.int 1), some (.int (nI i))] [.int 1] h31 _ _ _
            try simp only [zq, zi, zc, zv, zf, zbd_zbd, zbd_some, zbd_fault, zbd_none, zite0, zite1, ↓reduceIte, Nat.one_ne_zero]
            refine qsm_if false rfl (rfl) rfl ?_
            refine qsm_pls (n := 1) (k' := 39) (lo' := [some (.ref 1), some (.int 1), some (.int (nI i))]) (S' := [.ref 1]) (h' := h31) rfl ?_
            first
              | refine qsm_call hc31 (qim_up (qs_preset (d := d) ht) (by omega)) rfl rfl rfl rfl rfl rfl rfl rfl (ai_rcv1 rfl rfl (qcs_obj hc31)) (fun v42 s42 h42 f42 hc42 => ?_)
              | refine qsm_callL hc31 (qim_up (qs_preset (d := d) ht) (by omega)) rfl rfl rfl rfl rfl rfl rfl rfl (ai_rcv1 rfl rfl (qcs_obj hc31)) (fun v42 s42 h42 f42 hc42 => ?_)
            show qsm L xs e Y bc bs _ qm_49 40 [some (.ref 1), some (.int 1), some (.int (nI i))] [] h42 _ _ _
            try simp only [zq, zi, zc, zv, zf, zbd_zbd, zbd_some, zbd_fault, zbd_none, zite0, zite1, ↓reduceIte, Nat.one_ne_zero]
            refine qsm_pls (n := 3) (k' := 13) (lo' := [some (.ref 1), some (.int 1), some (.int ((nI i) + 1))]) (S' := []) (h' := h42) rfl ?_
            rw [nI_1]
            by_cases g43 : s42.1 ≤ s.1
            · rw [if_pos g43]; exact qsm_none
            · rw [if_neg g43]; exact ih (i + 1) _ _ (by omega) hc42
        · subst e30
          show qsm L xs e Y bc bs _ qm_49 29 [some (.ref 1), some (.int 1), some (.int (nI i))] [.int 1] h30 _ _ _
          try simp only [zq, zi, zc, zv, zf, zbd_zbd, zbd_some, zbd_fault, zbd_none, zite0, zite1, ↓reduceIte, Nat.one_ne_zero]
          refine qsm_if false rfl (rfl) rfl ?_
          refine qsm_pls (n := 2) (k' := 32) (lo' := [some (.ref 1), some (.int 1), some (.int (nI i))]) (S' := [.retAddr 39, .ref 1]) (h' := h30) rfl ?_
          first
            | refine qsm_call hc30 (qim_up (qi_copy (d := d) (k := 39) ht (by decide)) (by omega)) rfl rfl rfl rfl rfl rfl rfl rfl (ai_rcv1 rfl rfl (qcs_obj hc30)) (fun v44 s44 h44 f44 hc44 => ?_)
            | refine qsm_callL hc30 (qim_up (qi_copy (d := d) (k := 39) ht (by decide)) (by omega)) rfl rfl rfl rfl rfl rfl rfl rfl (ai_rcv1 rfl rfl (qcs_obj hc30)) (fun v44 s44 h44 f44 hc44 => ?_)
          show qsm L xs e Y bc bs _ qm_49 33 [some (.ref 1), some (.int 1), some (.int (nI i))] [] h44 _ _ _
          try simp only [zq, zi, zc, zv, zf, zbd_zbd, zbd_some, zbd_fault, zbd_none, zite0, zite1, ↓reduceIte, Nat.one_ne_zero]
          refine qsm_pls (n := 3) (k' := 13) (lo' := [some (.ref 1), some (.int 1), some (.int ((nI i) + 1))]) (S' := []) (h' := h44) rfl ?_
          rw [nI_1]
          by_cases g45 : s44.1 ≤ s.1
          · rw [if_pos g45]; exact qsm_none
          · rw [if_neg g45]; exact ih (i + 1) _ _ (by omega) hc44
      · subst e29
        show qsm L xs e Y bc bs _ qm_49 21 [some (.ref 1), some (.int 1), some (.int (nI i))] [.int 1] h29 _ _ _
        try simp only [zq, zi, zc, zv, zf, zbd_zbd, zbd_some, zbd_fault, zbd_none, zite0, zite1, ↓reduceIte, Nat.one_ne_zero]
        refine qsm_if false rfl (rfl) rfl ?_
        refine qsm_pls (n := 2) (k' := 24) (lo' := [some (.ref 1), some (.int 1), some (.int (nI i))]) (S' := [.retAddr 50, .ref 1]) (h' := h29) rfl ?_
        first
          | refine qsm_call hc29 (qim_up (qi_copy (d := d) (k := 50) ht (by decide)) (by omega)) rfl rfl rfl rfl rfl rfl rfl rfl (ai_rcv1 rfl rfl (qcs_obj hc29)) (fun v46 s46 h46 f46 hc46 => ?_)
          | refine qsm_callL hc29 (qim_up (qi_copy (d := d) (k := 50) ht (by decide)) (by omega)) rfl rfl rfl rfl rfl rfl rfl rfl (ai_rcv1 rfl rfl (qcs_obj hc29)) (fun v46 s46 h46 f46 hc46 => ?_)
        show qsm L xs e Y bc bs _ qm_49 25 [some (.ref 1), some (.int 1), some (.int (nI i))] [] h46 _ _ _
        try simp only [zq, zi, zc, zv, zf, zbd_zbd, zbd_some, zbd_fault, zbd_none, zite0, zite1, ↓reduceIte, Nat.one_ne_zero]
        refine qsm_pls (n := 3) (k' := 13) (lo' := [some (.ref 1), some (.int 1), some (.int ((nI i) + 1))]) (S' := []) (h' := h46) rfl ?_
        rw [nI_1]
        by_cases g47 : s46.1 ≤ s.1
        · rw [if_pos g47]; exact qsm_none
        · rw [if_neg g47]; exact ih (i + 1) _ _ (by omega) hc46
  simp only [z_column, z_type, zq, zi, zc, zv, zf, zbd_zbd, zbd_some, zbd_fault, zbd_none, zite0, zite1, ↓reduceIte, Nat.one_ne_zero]
  try simp only [zq, zi, zc, zv, zf, zbd_zbd, zbd_some, zbd_fault, zbd_none, zite0, zite1, ↓reduceIte, Nat.one_ne_zero]
  refine qsm_pls (n := 3) (k' := 3) (lo' := [some (.ref 1), some (.int 1), none]) (S' := [.ref 1]) (h' := h) rfl ?_
  first
    | refine qsm_call hc (qim_up (qi_name (d := d) ht) (by omega)) rfl rfl rfl rfl rfl rfl rfl rfl (ai_rcv1 rfl rfl (qcs_obj hc)) (fun v48 s48 h48 f48 hc48 => ?_)
    | refine qsm_callL hc (qim_up (qi_name (d := d) ht) (by omega)) rfl rfl rfl rfl rfl rfl rfl rfl (ai_rcv1 rfl rfl (qcs_obj hc)) (fun v48 s48 h48 f48 hc48 => ?_)
  show qsm L xs e Y bc bs _ qm_49 4 [some (.ref 1), some (.int 1), none] [] h48 _ _ _
  try simp only [zq, zi, zc, zv, zf, zbd_zbd, zbd_some, zbd_fault, zbd_none, zite0, zite1, ↓reduceIte, Nat.one_ne_zero]
  refine qsm_pls (n := 2) (k' := 6) (lo' := [some (.ref 1), some (.int 1), none]) (S' := [.retAddr 35, .ref 1]) (h' := h48) rfl ?_
  first
    | refine qsm_call hc48 (qim_up (qi_copyIf (d := d) (k := 35) ht (by decide)) (by omega)) rfl rfl rfl rfl rfl rfl rfl rfl (ai_rcv1 rfl rfl (qcs_obj hc48)) (fun v49 s49 h49 f49 hc49 => ?_)
    | refine qsm_callL hc48 (qim_up (qi_copyIf (d := d) (k := 35) ht (by decide)) (by omega)) rfl rfl rfl rfl rfl rfl rfl rfl (ai_rcv1 rfl rfl (qcs_obj hc48)) (fun v49 s49 h49 f49 hc49 => ?_)
  show qsm L xs e Y bc bs _ qm_49 7 [some (.ref 1), some (.int 1), none] [.int (nI v49)] h49 _ _ _
  try simp only [zq, zi, zc, zv, zf, zbd_zbd, zbd_some, zbd_fault, zbd_none, zite0, zite1, ↓reduceIte, Nat.one_ne_zero]
  rcases zci_v f49 with ⟨e49, q49, n49⟩ | ⟨e49, n49⟩
  · subst e49
    show qsm L xs e Y bc bs _ qm_49 7 [some (.ref 1), some (.int 1), none] [.int 0] h49 _ _ _
    try simp only [zq, zi, zc, zv, zf, zbd_zbd, zbd_some, zbd_fault, zbd_none, zite0, zite1, ↓reduceIte, Nat.one_ne_zero]
    refine qsm_if false rfl (rfl) rfl ?_
    refine qsm_pls (n := 2) (k' := 10) (lo' := [some (.ref 1), some (.int 1), none]) (S' := [.retAddr 72, .ref 1]) (h' := h49) rfl ?_
    first
      | refine qsm_call hc49 (qim_up (qi_copy (d := d) (k := 72) ht (by decide)) (by omega)) rfl rfl rfl rfl rfl rfl rfl rfl (ai_rcv1 rfl rfl (qcs_obj hc49)) (fun v50 s50 h50 f50 hc50 => ?_)
      | refine qsm_callL hc49 (qim_up (qi_copy (d := d) (k := 72) ht (by decide)) (by omega)) rfl rfl rfl rfl rfl rfl rfl rfl (ai_rcv1 rfl rfl (qcs_obj hc49)) (fun v50 s50 h50 f50 hc50 => ?_)
    show qsm L xs e Y bc bs _ qm_49 11 [some (.ref 1), some (.int 1), none] [] h50 _ _ _
    try simp only [zq, zi, zc, zv, zf, zbd_zbd, zbd_some, zbd_fault, zbd_none, zite0, zite1, ↓reduceIte, Nat.one_ne_zero]
    refine qsm_pls (n := 2) (k' := 13) (lo' := [some (.ref 1), some (.int 1), some (.int 0)]) (S' := []) (h' := h50) rfl ?_
    first
      | refine loop _ (fun j51 s51 h51 hc51 => ?_) zN 0 _ _ (Nat.zero_le _) hc50
      | (rw [← zbd_id (zlp (z_option e ex) zN _)]; refine loop _ (fun j51 s51 h51 hc51 => ?_) zN 0 _ _ (Nat.zero_le _) hc50)
    show qsm L xs e Y bc bs _ qm_49 68 [some (.ref 1), some (.int 0), some (.int (nI j51))] [] h51 _ _ _
    try simp only [zq, zi, zc, zv, zf, zbd_zbd, zbd_some, zbd_fault, zbd_none, zite0, zite1, ↓reduceIte, Nat.one_ne_zero]
    exact qsm_ret7 hc51 rfl
  · subst e49
    show qsm L xs e Y bc bs _ qm_49 7 [some (.ref 1), some (.int 1), none] [.int 1] h49 _ _ _
    try simp only [zq, zi, zc, zv, zf, zbd_zbd, zbd_some, zbd_fault, zbd_none, zite0, zite1, ↓reduceIte, Nat.one_ne_zero]
    refine qsm_if true rfl (rfl) rfl ?_
    refine qsm_pls (n := 2) (k' := 13) (lo' := [some (.ref 1), some (.int 1), some (.int 0)]) (S' := []) (h' := h49) rfl ?_
    first
      | refine loop _ (fun j52 s52 h52 hc52 => ?_) zN 0 _ _ (Nat.zero_le _) hc49
      | (rw [← zbd_id (zlp (z_option e ex) zN _)]; refine loop _ (fun j52 s52 h52 hc52 => ?_) zN 0 _ _ (Nat.zero_le _) hc49)
    show qsm L xs e Y bc bs _ qm_49 68 [some (.ref 1), some (.int 0), some (.int (nI j52))] [] h52 _ _ _
    try simp only [zq, zi, zc, zv, zf, zbd_zbd, zbd_some, zbd_fault, zbd_none, zite0, zite1, ↓reduceIte, Nat.one_ne_zero]
    exact qsm_ret7 hc52 rfl
/-- Grammar.table() -/
theorem qs_table (ht : qtk e Y) (hex : qim L xs e Y bc bs d 55 [.ref 1] 1 ex) : qim L xs e Y bc bs (d + 9) 44 [.ref 1] 1 (z_table e ex) := by
  have hlt := qtk_lt ht
  refine qim_of (M := qm_44) rfl rfl (fun P s h hc => ?_)
  show qsm L xs e Y bc bs _ qm_44 0 [some (.ref 1), none, none] [] h _ _ _
  have loop : ∀ (G : Nat → zS → zR Nat), (∀ (j : Nat) (s : zS) (h : ai_H), qcs e Y bc bs P s h → qsm L xs e Y bc bs (d + 8) qm_44 56 [some (.ref 1), some (.int 0), some (.int (nI j))] [] h 1 P (G 0 s)) → ∀ (n i : Nat) (s : zS) (h : ai_H), i ≤ s.1 → qcs e Y bc bs P s h → qsm L xs e Y bc bs (d + 8) qm_44 12 [some (.ref 1), some (.int 1), some (.int (nI i))] [] h 1 P (zbd (zlp (zl_elem e ex) n s) G) := by
    intro G tail n
    induction n with
    | zero => intro i s h hi hc; exact qsm_none
    | succ n ih =>
      intro i s h hi hc
      have hb := qcs_bd hc
      rw [zlp_succ]
      generalize zlp (zl_elem e ex) n = W at ih ⊢
      simp only [zl_elem, z_elem, z_brex, zq, zi, zc, zv, zf, zbd_zbd, zbd_some, zbd_fault, zbd_none, zite0, zite1, ↓reduceIte, Nat.one_ne_zero]
      refine qsm_pls (n := 2) (k' := 14) (lo' := [some (.ref 1), some (.int 1), some (.int (nI i))]) (S' := [.int 1000000, .int (nI i)]) (h' := h) rfl ?_
      refine qsm_icmp false rfl (qc_geF (b := 1000000) (by omega) (by decide)) rfl ?_
      refine qsm_pls (n := 1) (k' := 16) (lo' := [some (.ref 1), some (.int 1), some (.int (nI i))]) (S' := [.int 1]) (h' := h) rfl ?_
      refine qsm_if false rfl (rfl) rfl ?_
      refine qsm_pls (n := 1) (k' := 18) (lo' := [some (.ref 1), some (.int 1), some (.int (nI i))]) (S' := [.ref 1]) (h' := h) rfl ?_
      refine qsm_getf (v := .retAddr (ztk e s.1)) rfl (qcs_obj hc) rfl rfl rfl ?_
      refine qsm_pls (n := 1) (k' := 20) (lo' := [some (.ref 1), some (.int 1), some (.int (nI i))]) (S' := [.retAddr 99, .retAddr (ztk e s.1)]) (h' := h) rfl ?_
      refine qsm_join 50 [some (.ref 1), some (.int 1), some (.int (nI i))] [] (fun G54 tail54 => ?_) (fun vj54 sj54 hj54 hcj54 => ?_)
      · skip
        by_cases t53 : ztk e s.1 = 99
        · first | rw [if_pos t53] | rw [zci_T t53] | skip
          try simp only [zq, zi, zc, zv, zf, zbd_zbd, zbd_some, zbd_fault, zbd_none, zite0, zite1, ↓reduceIte, Nat.one_ne_zero]
          refine qsm_acmp false rfl (qzk (hlt _) (by decide)) (qa_neF t53) rfl ?_
          refine qsm_pls (n := 1) (k' := 22) (lo' := [some (.ref 1), some (.int 1), some (.int (nI i))]) (S' := [.ref 1]) (h' := h) rfl ?_
          first
            | refine qsm_call hc (qim_up (qs_column (d := d) ht hex) (by omega)) rfl rfl rfl rfl rfl rfl rfl rfl (ai_rcv1 rfl rfl (qcs_obj hc)) (fun v55 s55 h55 f55 hc55 => ?_)
            | refine qsm_callL hc (qim_up (qs_column (d := d) ht hex) (by omega)) rfl rfl rfl rfl rfl rfl rfl rfl (ai_rcv1 rfl rfl (qcs_obj hc)) (fun v55 s55 h55 f55 hc55 => ?_)
          show qsm L xs e Y bc bs _ qm_44 23 [some (.ref 1), some (.int 1), some (.int (nI i))] [] h55 _ _ _
          try simp only [zq, zi, zc, zv, zf, zbd_zbd, zbd_some, zbd_fault, zbd_none, zite0, zite1, ↓reduceIte, Nat.one_ne_zero]
          refine qsm_pls (n := 1) (k' := 50) (lo' := [some (.ref 1), some (.int 1), some (.int (nI i))]) (S' := []) (h' := h55) rfl ?_
          exact tail54 _ _ _ hc55
        · first | rw [if_neg t53] | rw [zci_F t53] | skip
          try simp only [zq, zi, zc, zv, zf, zbd_zbd, zbd_some, zbd_fault, zbd_none, zite0, zite1, ↓reduceIte, Nat.one_ne_zero]
          refine qsm_acmp true rfl (qzk (hlt _) (by decide)) (qa_neT t53) rfl ?_
          refine qsm_pls (n := 2) (k' := 26) (lo' := [some (.ref 1), some (.int 1), some (.int (nI i))]) (S' := [.retAddr 12, .ref 1]) (h' := h) rfl ?_
          first
            | refine qsm_call hc (qim_up (qi_copyIf (d := d) (k := 12) ht (by decide)) (by omega)) rfl rfl rfl rfl rfl rfl rfl rfl (ai_rcv1 rfl rfl (qcs_obj hc)) (fun v56 s56 h56 f56 hc56 => ?_)
            | refine qsm_callL hc (qim_up (qi_copyIf (d := d) (k := 12) ht (by decide)) (by omega)) rfl rfl rfl rfl rfl rfl rfl rfl (ai_rcv1 rfl rfl (qcs_obj hc)) (fun v56 s56 h56 f56 hc56 => ?_)
          show qsm L xs e Y bc bs _ qm_44 27 [some (.ref 1), some (.int 1), some (.int (nI i))] [.int (nI v56)] h56 _ _ _
          try simp only [zq, zi, zc, zv, zf, zbd_zbd, zbd_some, zbd_fault, zbd_none, zite0, zite1, ↓reduceIte, Nat.one_ne_zero]
          rcases zci_v f56 with ⟨e56, q56, n56⟩ | ⟨e56, n56⟩
          · subst e56
            have t57 : ztk e s56.1 ≠ 99 := by rw [q56]; exact t53
            show qsm L xs e Y bc bs _ qm_44 27 [some (.ref 1), some (.int 1), some (.int (nI i))] [.int 0] h56 _ _ _
            try simp only [zq, zi, zc, zv, zf, zbd_zbd, zbd_some, zbd_fault, zbd_none, zite0, zite1, ↓reduceIte, Nat.one_ne_zero]
            refine qsm_if true rfl (rfl) rfl ?_
            refine qsm_pls (n := 2) (k' := 40) (lo' := [some (.ref 1), some (.int 1), some (.int (nI i))]) (S' := [.retAddr 76, .ref 1]) (h' := h56) rfl ?_
            first
              | refine qsm_call hc56 (qim_up (qi_copyIf (d := d) (k := 76) ht (by decide)) (by omega)) rfl rfl rfl rfl rfl rfl rfl rfl (ai_rcv1 rfl rfl (qcs_obj hc56)) (fun v58 s58 h58 f58 hc58 => ?_)
              | refine qsm_callL hc56 (qim_up (qi_copyIf (d := d) (k := 76) ht (by decide)) (by omega)) rfl rfl rfl rfl rfl rfl rfl rfl (ai_rcv1 rfl rfl (qcs_obj hc56)) (fun v58 s58 h58 f58 hc58 => ?_)
            show qsm L xs e Y bc bs _ qm_44 41 [some (.ref 1), some (.int 1), some (.int (nI i))] [.int (nI v58)] h58 _ _ _
            try simp only [zq, zi, zc, zv, zf, zbd_zbd, zbd_some, zbd_fault, zbd_none, zite0, zite1, ↓reduceIte, Nat.one_ne_zero]
            rcases zci_v f58 with ⟨e58, q58, n58⟩ | ⟨e58, n58⟩
            · subst e58
              have t59 : ztk e s58.1 ≠ 99 := by rw [q58]; exact t57
              show qsm L xs e Y bc bs _ qm_44 41 [some (.ref 1), some (.int 1), some (.int (nI i))] [.int 0] h58 _ _ _
              try simp only [zq, zi, zc, zv, zf, zbd_zbd, zbd_some, zbd_fault, zbd_none, zite0, zite1, ↓reduceIte, Nat.one_ne_zero]
              refine qsm_if false rfl (rfl) rfl ?_
              refine qsm_pls (n := 2) (k' := 44) (lo' := [some (.ref 1), some (.int 1), some (.int (nI i))]) (S' := [.retAddr 59, .ref 1]) (h' := h58) rfl ?_
              first
                | refine qsm_call hc58 (qim_up (qi_copy (d := d) (k := 59) ht (by decide)) (by omega)) rfl rfl rfl rfl rfl rfl rfl rfl (ai_rcv1 rfl rfl (qcs_obj hc58)) (fun v60 s60 h60 f60 hc60 => ?_)
                | refine qsm_callL hc58 (qim_up (qi_copy (d := d) (k := 59) ht (by decide)) (by omega)) rfl rfl rfl rfl rfl rfl rfl rfl (ai_rcv1 rfl rfl (qcs_obj hc58)) (fun v60 s60 h60 f60 hc60 => ?_)
              show qsm L xs e Y bc bs _ qm_44 45 [some (.ref 1), some (.int 1), some (.int (nI i))] [] h60 _ _ _
              try simp only [zq, zi, zc, zv, zf, zbd_zbd, zbd_some, zbd_fault, zbd_none, zite0, zite1, ↓reduceIte, Nat.one_ne_zero]
              refine qsm_pls (n := 2) (k' := 47) (lo' := [some (.ref 1), some (.int 1), some (.int (nI i))]) (S' := [.retAddr 39, .ref 1]) (h' := h60) rfl ?_
              first
                | refine qsm_call hc60 (qim_up (qi_copy (d := d) (k := 39) ht (by decide)) (by omega)) rfl rfl rfl rfl rfl rfl rfl rfl (ai_rcv1 rfl rfl (qcs_obj hc60)) (fun v61 s61 h61 f61 hc61 => ?_)
                | refine qsm_callL hc60 (qim_up (qi_copy (d := d) (k := 39) ht (by decide)) (by omega)) rfl rfl rfl rfl rfl rfl rfl rfl (ai_rcv1 rfl rfl (qcs_obj hc60)) (fun v61 s61 h61 f61 hc61 => ?_)
              show qsm L xs e Y bc bs _ qm_44 48 [some (.ref 1), some (.int 1), some (.int (nI i))] [] h61 _ _ _
              try simp only [zq, zi, zc, zv, zf, zbd_zbd, zbd_some, zbd_fault, zbd_none, zite0, zite1, ↓reduceIte, Nat.one_ne_zero]
              refine qsm_pls (n := 1) (k' := 49) (lo' := [some (.ref 1), some (.int 1), some (.int (nI i))]) (S' := [.ref 1]) (h' := h61) rfl ?_
              first
                | refine qsm_call hc61 (qim_up (qs_names (d := d) ht) (by omega)) rfl rfl rfl rfl rfl rfl rfl rfl (ai_rcv1 rfl rfl (qcs_obj hc61)) (fun v62 s62 h62 f62 hc62 => ?_)
                | refine qsm_callL hc61 (qim_up (qs_names (d := d) ht) (by omega)) rfl rfl rfl rfl rfl rfl rfl rfl (ai_rcv1 rfl rfl (qcs_obj hc61)) (fun v62 s62 h62 f62 hc62 => ?_)
              show qsm L xs e Y bc bs _ qm_44 50 [some (.ref 1), some (.int 1), some (.int (nI i))] [] h62 _ _ _
              try simp only [zq, zi, zc, zv, zf, zbd_zbd, zbd_some, zbd_fault, zbd_none, zite0, zite1, ↓reduceIte, Nat.one_ne_zero]
              exact tail54 _ _ _ hc62
            · subst e58
              show qsm L xs e Y bc bs _ qm_44 41 [some (.ref 1), some (.int 1), some (.int (nI i))] [.int 1] h58 _ _ _
              try simp only [zq, zi, zc, zv, zf, zbd_zbd, zbd_some, zbd_fault, zbd_none, zite0, zite1, ↓reduceIte, Nat.one_ne_zero]
              refine qsm_if true rfl (rfl) rfl ?_
              refine qsm_pls (n := 1) (k' := 49) (lo' := [some (.ref 1), some (.int 1), some (.int (nI i))]) (S' := [.ref 1]) (h' := h58) rfl ?_
              first
                | refine qsm_call hc58 (qim_up (qs_names (d := d) ht) (by omega)) rfl rfl rfl rfl rfl rfl rfl rfl (ai_rcv1 rfl rfl (qcs_obj hc58)) (fun v63 s63 h63 f63 hc63 => ?_)
                | refine qsm_callL hc58 (qim_up (qs_names (d := d) ht) (by omega)) rfl rfl rfl rfl rfl rfl rfl rfl (ai_rcv1 rfl rfl (qcs_obj hc58)) (fun v63 s63 h63 f63 hc63 => ?_)
              show qsm L xs e Y bc bs _ qm_44 50 [some (.ref 1), some (.int 1), some (.int (nI i))] [] h63 _ _ _
              try simp only [zq, zi, zc, zv, zf, zbd_zbd, zbd_some, zbd_fault, zbd_none, zite0, zite1, ↓reduceIte, Nat.one_ne_zero]
              exact tail54 _ _ _ hc63
          · subst e56
            show qsm L xs e Y bc bs _ qm_44 27 [some (.ref 1), some (.int 1), some (.int (nI i))] [.int 1] h56 _ _ _
            try simp only [zq, zi, zc, zv, zf, zbd_zbd, zbd_some, zbd_fault, zbd_none, zite0, zite1, ↓reduceIte, Nat.one_ne_zero]
            refine qsm_if false rfl (rfl) rfl ?_
            refine qsm_pls (n := 2) (k' := 30) (lo' := [some (.ref 1), some (.int 1), some (.int (nI i))]) (S' := [.retAddr 82, .ref 1]) (h' := h56) rfl ?_
            first
              | refine qsm_call hc56 (qim_up (qi_copy (d := d) (k := 82) ht (by decide)) (by omega)) rfl rfl rfl rfl rfl rfl rfl rfl (ai_rcv1 rfl rfl (qcs_obj hc56)) (fun v64 s64 h64 f64 hc64 => ?_)
              | refine qsm_callL hc56 (qim_up (qi_copy (d := d) (k := 82) ht (by decide)) (by omega)) rfl rfl rfl rfl rfl rfl rfl rfl (ai_rcv1 rfl rfl (qcs_obj hc56)) (fun v64 s64 h64 f64 hc64 => ?_)
            show qsm L xs e Y bc bs _ qm_44 31 [some (.ref 1), some (.int 1), some (.int (nI i))] [] h64 _ _ _
            try simp only [zq, zi, zc, zv, zf, zbd_zbd, zbd_some, zbd_fault, zbd_none, zite0, zite1, ↓reduceIte, Nat.one_ne_zero]
            refine qsm_pls (n := 1) (k' := 32) (lo' := [some (.ref 1), some (.int 1), some (.int (nI i))]) (S' := [.ref 1]) (h' := h64) rfl ?_
            first
              | refine qsm_call hc64 (qim_up (hex) (by omega)) rfl rfl rfl rfl rfl rfl rfl rfl (ai_rcv1 rfl rfl (qcs_obj hc64)) (fun v65 s65 h65 f65 hc65 => ?_)
              | refine qsm_callL hc64 (qim_up (hex) (by omega)) rfl rfl rfl rfl rfl rfl rfl rfl (ai_rcv1 rfl rfl (qcs_obj hc64)) (fun v65 s65 h65 f65 hc65 => ?_)
            show qsm L xs e Y bc bs _ qm_44 33 [some (.ref 1), some (.int 1), some (.int (nI i))] [.int (nI v65)] h65 _ _ _
            try simp only [zq, zi, zc, zv, zf, zbd_zbd, zbd_some, zbd_fault, zbd_none, zite0, zite1, ↓reduceIte, Nat.one_ne_zero]
            refine qsm_pls (n := 3) (k' := 36) (lo' := [some (.ref 1), some (.int 1), some (.int (nI i))]) (S' := [.retAddr 83, .ref 1]) (h' := h65) rfl ?_
            first
              | refine qsm_call hc65 (qim_up (qi_copy (d := d) (k := 83) ht (by decide)) (by omega)) rfl rfl rfl rfl rfl rfl rfl rfl (ai_rcv1 rfl rfl (qcs_obj hc65)) (fun v66 s66 h66 f66 hc66 => ?_)
              | refine qsm_callL hc65 (qim_up (qi_copy (d := d) (k := 83) ht (by decide)) (by omega)) rfl rfl rfl rfl rfl rfl rfl rfl (ai_rcv1 rfl rfl (qcs_obj hc65)) (fun v66 s66 h66 f66 hc66 => ?_)
            show qsm L xs e Y bc bs _ qm_44 37 [some (.ref 1), some (.int 1), some (.int (nI i))] [] h66 _ _ _
            try simp only [zq, zi, zc, zv, zf, zbd_zbd, zbd_some, zbd_fault, zbd_none, zite0, zite1, ↓reduceIte, Nat.one_ne_zero]
            refine qsm_pls (n := 1) (k' := 50) (lo' := [some (.ref 1), some (.int 1), some (.int (nI i))]) (S' := []) (h' := h66) rfl ?_
            exact tail54 _ _ _ hc66
      · skip
        show qsm L xs e Y bc bs _ qm_44 50 [some (.ref 1), some (.int 1), some (.int (nI i))] [] hj54 _ _ _
        try simp only [zq, zi, zc, zv, zf, zbd_zbd, zbd_some, zbd_fault, zbd_none, zite0, zite1, ↓reduceIte, Nat.one_ne_zero]
        refine qsm_pls (n := 2) (k' := 52) (lo' := [some (.ref 1), some (.int 1), some (.int (nI i))]) (S' := [.retAddr 84, .ref 1]) (h' := hj54) rfl ?_
        first
          | refine qsm_call hcj54 (qim_up (qi_copyIf (d := d) (k := 84) ht (by decide)) (by omega)) rfl rfl rfl rfl rfl rfl rfl rfl (ai_rcv1 rfl rfl (qcs_obj hcj54)) (fun v67 s67 h67 f67 hc67 => ?_)
          | refine qsm_callL hcj54 (qim_up (qi_copyIf (d := d) (k := 84) ht (by decide)) (by omega)) rfl rfl rfl rfl rfl rfl rfl rfl (ai_rcv1 rfl rfl (qcs_obj hcj54)) (fun v67 s67 h67 f67 hc67 => ?_)
        show qsm L xs e Y bc bs _ qm_44 53 [some (.ref 1), some (.int 1), some (.int (nI i))] [.int (nI v67)] h67 _ _ _
        try simp only [zq, zi, zc, zv, zf, zbd_zbd, zbd_some, zbd_fault, zbd_none, zite0, zite1, ↓reduceIte, Nat.one_ne_zero]
        rcases zci_v f67 with ⟨e67, q67, n67⟩ | ⟨e67, n67⟩
        · subst e67
          show qsm L xs e Y bc bs _ qm_44 53 [some (.ref 1), some (.int 1), some (.int (nI i))] [.int 0] h67 _ _ _
          try simp only [zq, zi, zc, zv, zf, zbd_zbd, zbd_some, zbd_fault, zbd_none, zite0, zite1, ↓reduceIte, Nat.one_ne_zero]
          refine qsm_pls (n := 3) (k' := 12) (lo' := [some (.ref 1), some (.int 0), some (.int ((nI i) + 1))]) (S' := []) (h' := h67) rfl ?_
          rw [nI_1]
          refine qsm_pls (n := 2) (k' := 14) (lo' := [some (.ref 1), some (.int 0), some (.int (nI (i + 1)))]) (S' := [.int 1000000, .int (nI (i + 1))]) (h' := h67) rfl ?_
          refine qsm_icmp false rfl (qc_geF (b := 1000000) (by omega) (by decide)) rfl ?_
          refine qsm_pls (n := 1) (k' := 16) (lo' := [some (.ref 1), some (.int 0), some (.int (nI (i + 1)))]) (S' := [.int 0]) (h' := h67) rfl ?_
          refine qsm_if true rfl (rfl) rfl ?_
          exact tail (i + 1) _ _ hc67
        · subst e67
          show qsm L xs e Y bc bs _ qm_44 53 [some (.ref 1), some (.int 1), some (.int (nI i))] [.int 1] h67 _ _ _
          try simp only [zq, zi, zc, zv, zf, zbd_zbd, zbd_some, zbd_fault, zbd_none, zite0, zite1, ↓reduceIte, Nat.one_ne_zero]
          refine qsm_pls (n := 3) (k' := 12) (lo' := [some (.ref 1), some (.int 1), some (.int ((nI i) + 1))]) (S' := []) (h' := h67) rfl ?_
          rw [nI_1]
          by_cases g68 : s67.1 ≤ s.1
          · rw [if_pos g68]; exact qsm_none
          · rw [if_neg g68]; exact ih (i + 1) _ _ (by omega) hc67
  simp only [z_table, zq, zi, zc, zv, zf, zbd_zbd, zbd_some, zbd_fault, zbd_none, zite0, zite1, ↓reduceIte, Nat.one_ne_zero]
  try simp only [zq, zi, zc, zv, zf, zbd_zbd, zbd_some, zbd_fault, zbd_none, zite0, zite1, ↓reduceIte, Nat.one_ne_zero]
  refine qsm_pls (n := 4) (k' := 4) (lo' := [some (.ref 1), some (.int 1), none]) (S' := [.retAddr 71, .ref 1]) (h' := h) rfl ?_
  first
    | refine qsm_call hc (qim_up (qi_copy (d := d) (k := 71) ht (by decide)) (by omega)) rfl rfl rfl rfl rfl rfl rfl rfl (ai_rcv1 rfl rfl (qcs_obj hc)) (fun v69 s69 h69 f69 hc69 => ?_)
    | refine qsm_callL hc (qim_up (qi_copy (d := d) (k := 71) ht (by decide)) (by omega)) rfl rfl rfl rfl rfl rfl rfl rfl (ai_rcv1 rfl rfl (qcs_obj hc)) (fun v69 s69 h69 f69 hc69 => ?_)
  show qsm L xs e Y bc bs _ qm_44 5 [some (.ref 1), some (.int 1), none] [] h69 _ _ _
  try simp only [zq, zi, zc, zv, zf, zbd_zbd, zbd_some, zbd_fault, zbd_none, zite0, zite1, ↓reduceIte, Nat.one_ne_zero]
  refine qsm_pls (n := 1) (k' := 6) (lo' := [some (.ref 1), some (.int 1), none]) (S' := [.ref 1]) (h' := h69) rfl ?_
  first
    | refine qsm_call hc69 (qim_up (qi_name (d := d) ht) (by omega)) rfl rfl rfl rfl rfl rfl rfl rfl (ai_rcv1 rfl rfl (qcs_obj hc69)) (fun v70 s70 h70 f70 hc70 => ?_)
    | refine qsm_callL hc69 (qim_up (qi_name (d := d) ht) (by omega)) rfl rfl rfl rfl rfl rfl rfl rfl (ai_rcv1 rfl rfl (qcs_obj hc69)) (fun v70 s70 h70 f70 hc70 => ?_)
  show qsm L xs e Y bc bs _ qm_44 7 [some (.ref 1), some (.int 1), none] [] h70 _ _ _
  try simp only [zq, zi, zc, zv, zf, zbd_zbd, zbd_some, zbd_fault, zbd_none, zite0, zite1, ↓reduceIte, Nat.one_ne_zero]
  refine qsm_pls (n := 2) (k' := 9) (lo' := [some (.ref 1), some (.int 1), none]) (S' := [.retAddr 82, .ref 1]) (h' := h70) rfl ?_
  first
    | refine qsm_call hc70 (qim_up (qi_copy (d := d) (k := 82) ht (by decide)) (by omega)) rfl rfl rfl rfl rfl rfl rfl rfl (ai_rcv1 rfl rfl (qcs_obj hc70)) (fun v71 s71 h71 f71 hc71 => ?_)
    | refine qsm_callL hc70 (qim_up (qi_copy (d := d) (k := 82) ht (by decide)) (by omega)) rfl rfl rfl rfl rfl rfl rfl rfl (ai_rcv1 rfl rfl (qcs_obj hc70)) (fun v71 s71 h71 f71 hc71 => ?_)
  show qsm L xs e Y bc bs _ qm_44 10 [some (.ref 1), some (.int 1), none] [] h71 _ _ _
  try simp only [zq, zi, zc, zv, zf, zbd_zbd, zbd_some, zbd_fault, zbd_none, zite0, zite1, ↓reduceIte, Nat.one_ne_zero]
  refine qsm_pls (n := 2) (k' := 12) (lo' := [some (.ref 1), some (.int 1), some (.int 0)]) (S' := []) (h' := h71) rfl ?_
  first
    | refine loop _ (fun j72 s72 h72 hc72 => ?_) zN 0 _ _ (Nat.zero_le _) hc71
    | (rw [← zbd_id (zlp (zl_elem e ex) zN _)]; refine loop _ (fun j72 s72 h72 hc72 => ?_) zN 0 _ _ (Nat.zero_le _) hc71)
  show qsm L xs e Y bc bs _ qm_44 56 [some (.ref 1), some (.int 0), some (.int (nI j72))] [] h72 _ _ _
  try simp only [zq, zi, zc, zv, zf, zbd_zbd, zbd_some, zbd_fault, zbd_none, zite0, zite1, ↓reduceIte, Nat.one_ne_zero]
  refine qsm_pls (n := 2) (k' := 58) (lo' := [some (.ref 1), some (.int 0), some (.int (nI j72))]) (S' := [.retAddr 83, .ref 1]) (h' := h72) rfl ?_
  first
    | refine qsm_call hc72 (qim_up (qi_copy (d := d) (k := 83) ht (by decide)) (by omega)) rfl rfl rfl rfl rfl rfl rfl rfl (ai_rcv1 rfl rfl (qcs_obj hc72)) (fun v73 s73 h73 f73 hc73 => ?_)
    | refine qsm_callL hc72 (qim_up (qi_copy (d := d) (k := 83) ht (by decide)) (by omega)) rfl rfl rfl rfl rfl rfl rfl rfl (ai_rcv1 rfl rfl (qcs_obj hc72)) (fun v73 s73 h73 f73 hc73 => ?_)
  show qsm L xs e Y bc bs _ qm_44 59 [some (.ref 1), some (.int 0), some (.int (nI j72))] [] h73 _ _ _
  try simp only [zq, zi, zc, zv, zf, zbd_zbd, zbd_some, zbd_fault, zbd_none, zite0, zite1, ↓reduceIte, Nat.one_ne_zero]
  refine qsm_pls (n := 1) (k' := 60) (lo' := [some (.ref 1), some (.int 0), some (.int (nI j72))]) (S' := [.int 1]) (h' := h73) rfl ?_
  exact qsm_ret5 (v := 1) hc73 rfl rfl rfl (by decide)
/-- Grammar.index() -/
theorem qs_index (ht : qtk e Y) : qim L xs e Y bc bs (d + 8) 81 [.ref 1] 1 (z_index e) := by
  have hlt := qtk_lt ht
  refine qim_of (M := qm_81) rfl rfl (fun P s h hc => ?_)
  show qsm L xs e Y bc bs _ qm_81 0 [some (.ref 1)] [] h _ _ _
  simp only [z_index, zq, zi, zc, zv, zf, zbd_zbd, zbd_some, zbd_fault, zbd_none, zite0, zite1, ↓reduceIte, Nat.one_ne_zero]
  try simp only [zq, zi, zc, zv, zf, zbd_zbd, zbd_some, zbd_fault, zbd_none, zite0, zite1, ↓reduceIte, Nat.one_ne_zero]
  refine qsm_pls (n := 2) (k' := 2) (lo' := [some (.ref 1)]) (S' := [.retAddr 76, .ref 1]) (h' := h) rfl ?_
  first
    | refine qsm_call hc (qim_up (qi_copyIf (d := d) (k := 76) ht (by decide)) (by omega)) rfl rfl rfl rfl rfl rfl rfl rfl (ai_rcv1 rfl rfl (qcs_obj hc)) (fun v74 s74 h74 f74 hc74 => ?_)
    | refine qsm_callL hc (qim_up (qi_copyIf (d := d) (k := 76) ht (by decide)) (by omega)) rfl rfl rfl rfl rfl rfl rfl rfl (ai_rcv1 rfl rfl (qcs_obj hc)) (fun v74 s74 h74 f74 hc74 => ?_)
  show qsm L xs e Y bc bs _ qm_81 3 [some (.ref 1)] [.int (nI v74)] h74 _ _ _
  try simp only [zq, zi, zc, zv, zf, zbd_zbd, zbd_some, zbd_fault, zbd_none, zite0, zite1, ↓reduceIte, Nat.one_ne_zero]
  refine qsm_pls (n := 3) (k' := 6) (lo' := [some (.ref 1)]) (S' := [.retAddr 32, .ref 1]) (h' := h74) rfl ?_
  first
    | refine qsm_call hc74 (qim_up (qi_copy (d := d) (k := 32) ht (by decide)) (by omega)) rfl rfl rfl rfl rfl rfl rfl rfl (ai_rcv1 rfl rfl (qcs_obj hc74)) (fun v75 s75 h75 f75 hc75 => ?_)
    | refine qsm_callL hc74 (qim_up (qi_copy (d := d) (k := 32) ht (by decide)) (by omega)) rfl rfl rfl rfl rfl rfl rfl rfl (ai_rcv1 rfl rfl (qcs_obj hc74)) (fun v75 s75 h75 f75 hc75 => ?_)
  show qsm L xs e Y bc bs _ qm_81 7 [some (.ref 1)] [] h75 _ _ _
  try simp only [zq, zi, zc, zv, zf, zbd_zbd, zbd_some, zbd_fault, zbd_none, zite0, zite1, ↓reduceIte, Nat.one_ne_zero]
  refine qsm_pls (n := 1) (k' := 8) (lo' := [some (.ref 1)]) (S' := [.ref 1]) (h' := h75) rfl ?_
  first
    | refine qsm_call hc75 (qim_up (qi_name (d := d) ht) (by omega)) rfl rfl rfl rfl rfl rfl rfl rfl (ai_rcv1 rfl rfl (qcs_obj hc75)) (fun v76 s76 h76 f76 hc76 => ?_)
    | refine qsm_callL hc75 (qim_up (qi_name (d := d) ht) (by omega)) rfl rfl rfl rfl rfl rfl rfl rfl (ai_rcv1 rfl rfl (qcs_obj hc75)) (fun v76 s76 h76 f76 hc76 => ?_)
  show qsm L xs e Y bc bs _ qm_81 9 [some (.ref 1)] [] h76 _ _ _
  try simp only [zq, zi, zc, zv, zf, zbd_zbd, zbd_some, zbd_fault, zbd_none, zite0, zite1, ↓reduceIte, Nat.one_ne_zero]
  refine qsm_pls (n := 2) (k' := 11) (lo' := [some (.ref 1)]) (S' := [.retAddr 53, .ref 1]) (h' := h76) rfl ?_
  first
    | refine qsm_call hc76 (qim_up (qi_copy (d := d) (k := 53) ht (by decide)) (by omega)) rfl rfl rfl rfl rfl rfl rfl rfl (ai_rcv1 rfl rfl (qcs_obj hc76)) (fun v77 s77 h77 f77 hc77 => ?_)
    | refine qsm_callL hc76 (qim_up (qi_copy (d := d) (k := 53) ht (by decide)) (by omega)) rfl rfl rfl rfl rfl rfl rfl rfl (ai_rcv1 rfl rfl (qcs_obj hc76)) (fun v77 s77 h77 f77 hc77 => ?_)
  show qsm L xs e Y bc bs _ qm_81 12 [some (.ref 1)] [] h77 _ _ _
  try simp only [zq, zi, zc, zv, zf, zbd_zbd, zbd_some, zbd_fault, zbd_none, zite0, zite1, ↓reduceIte, Nat.one_ne_zero]
  refine qsm_pls (n := 1) (k' := 13) (lo' := [some (.ref 1)]) (S' := [.ref 1]) (h' := h77) rfl ?_
  first
    | refine qsm_call hc77 (qim_up (qi_name (d := d) ht) (by omega)) rfl rfl rfl rfl rfl rfl rfl rfl (ai_rcv1 rfl rfl (qcs_obj hc77)) (fun v78 s78 h78 f78 hc78 => ?_)
    | refine qsm_callL hc77 (qim_up (qi_name (d := d) ht) (by omega)) rfl rfl rfl rfl rfl rfl rfl rfl (ai_rcv1 rfl rfl (qcs_obj hc77)) (fun v78 s78 h78 f78 hc78 => ?_)
  show qsm L xs e Y bc bs _ qm_81 14 [some (.ref 1)] [] h78 _ _ _
  try simp only [zq, zi, zc, zv, zf, zbd_zbd, zbd_some, zbd_fault, zbd_none, zite0, zite1, ↓reduceIte, Nat.one_ne_zero]
  refine qsm_pls (n := 1) (k' := 15) (lo' := [some (.ref 1)]) (S' := [.ref 1]) (h' := h78) rfl ?_
  first
    | refine qsm_call hc78 (qim_up (qs_names (d := d) ht) (by omega)) rfl rfl rfl rfl rfl rfl rfl rfl (ai_rcv1 rfl rfl (qcs_obj hc78)) (fun v79 s79 h79 f79 hc79 => ?_)
    | refine qsm_callL hc78 (qim_up (qs_names (d := d) ht) (by omega)) rfl rfl rfl rfl rfl rfl rfl rfl (ai_rcv1 rfl rfl (qcs_obj hc78)) (fun v79 s79 h79 f79 hc79 => ?_)
  show qsm L xs e Y bc bs _ qm_81 16 [some (.ref 1)] [] h79 _ _ _
  try simp only [zq, zi, zc, zv, zf, zbd_zbd, zbd_some, zbd_fault, zbd_none, zite0, zite1, ↓reduceIte, Nat.one_ne_zero]
  refine qsm_pls (n := 1) (k' := 17) (lo' := [some (.ref 1)]) (S' := [.int 2]) (h' := h79) rfl ?_
  exact qsm_ret5 (v := 2) hc79 rfl rfl rfl (by decide)
/-- Grammar.drop() -/
theorem qs_drop (ht : qtk e Y) : qim L xs e Y bc bs (d + 7) 82 [.ref 1] 1 (z_drop e) := by
  have hlt := qtk_lt ht
  refine qim_of (M := qm_82) rfl rfl (fun P s h hc => ?_)
  show qsm L xs e Y bc bs _ qm_82 0 [some (.ref 1), none] [] h _ _ _
  simp only [z_drop, zq, zi, zc, zv, zf, zbd_zbd, zbd_some, zbd_fault, zbd_none, zite0, zite1, ↓reduceIte, Nat.one_ne_zero]
  try simp only [zq, zi, zc, zv, zf, zbd_zbd, zbd_some, zbd_fault, zbd_none, zite0, zite1, ↓reduceIte, Nat.one_ne_zero]
  refine qsm_pls (n := 2) (k' := 2) (lo' := [some (.ref 1), none]) (S' := [.retAddr 23, .ref 1]) (h' := h) rfl ?_
  first
    | refine qsm_call hc (qim_up (qi_copy (d := d) (k := 23) ht (by decide)) (by omega)) rfl rfl rfl rfl rfl rfl rfl rfl (ai_rcv1 rfl rfl (qcs_obj hc)) (fun v80 s80 h80 f80 hc80 => ?_)
    | refine qsm_callL hc (qim_up (qi_copy (d := d) (k := 23) ht (by decide)) (by omega)) rfl rfl rfl rfl rfl rfl rfl rfl (ai_rcv1 rfl rfl (qcs_obj hc)) (fun v80 s80 h80 f80 hc80 => ?_)
  show qsm L xs e Y bc bs _ qm_82 3 [some (.ref 1), none] [] h80 _ _ _
  try simp only [zq, zi, zc, zv, zf, zbd_zbd, zbd_some, zbd_fault, zbd_none, zite0, zite1, ↓reduceIte, Nat.one_ne_zero]
  refine qsm_pls (n := 1) (k' := 4) (lo' := [some (.ref 1), none]) (S' := [.ref 1]) (h' := h80) rfl ?_
  refine qsm_getf (v := .retAddr (ztk e s80.1)) rfl (qcs_obj hc80) rfl rfl rfl ?_
  refine qsm_pls (n := 1) (k' := 6) (lo' := [some (.ref 1), none]) (S' := [.retAddr 32, .retAddr (ztk e s80.1)]) (h' := h80) rfl ?_
  by_cases t81 : ztk e s80.1 = 32
  · first | rw [if_pos t81] | rw [zci_T t81] | skip
    try simp only [zq, zi, zc, zv, zf, zbd_zbd, zbd_some, zbd_fault, zbd_none, zite0, zite1, ↓reduceIte, Nat.one_ne_zero]
    refine qsm_acmp false rfl (qzk (hlt _) (by decide)) (qa_neF t81) rfl ?_
    refine qsm_pls (n := 5) (k' := 13) (lo' := [some (.ref 1), some (.int 1)]) (S' := [.int 1, .ref 1]) (h' := h80) rfl ?_
    refine qsm_if false rfl (rfl) rfl ?_
    refine qsm_pls (n := 2) (k' := 17) (lo' := [some (.ref 1), some (.int 1)]) (S' := [.retAddr 32, .ref 1]) (h' := h80) rfl ?_
    first
      | refine qsm_call hc80 (qim_up (qi_copy (d := d) (k := 32) ht (by decide)) (by omega)) rfl rfl rfl rfl rfl rfl rfl rfl (ai_rcv1 rfl rfl (qcs_obj hc80)) (fun v82 s82 h82 f82 hc82 => ?_)
      | refine qsm_callL hc80 (qim_up (qi_copy (d := d) (k := 32) ht (by decide)) (by omega)) rfl rfl rfl rfl rfl rfl rfl rfl (ai_rcv1 rfl rfl (qcs_obj hc80)) (fun v82 s82 h82 f82 hc82 => ?_)
    show qsm L xs e Y bc bs _ qm_82 18 [some (.ref 1), some (.int 1)] [] h82 _ _ _
    try simp only [zq, zi, zc, zv, zf, zbd_zbd, zbd_some, zbd_fault, zbd_none, zite0, zite1, ↓reduceIte, Nat.one_ne_zero]
    refine qsm_pls (n := 1) (k' := 19) (lo' := [some (.ref 1), some (.int 1)]) (S' := [.ref 1]) (h' := h82) rfl ?_
    first
      | refine qsm_call hc82 (qim_up (qi_name (d := d) ht) (by omega)) rfl rfl rfl rfl rfl rfl rfl rfl (ai_rcv1 rfl rfl (qcs_obj hc82)) (fun v83 s83 h83 f83 hc83 => ?_)
      | refine qsm_callL hc82 (qim_up (qi_name (d := d) ht) (by omega)) rfl rfl rfl rfl rfl rfl rfl rfl (ai_rcv1 rfl rfl (qcs_obj hc82)) (fun v83 s83 h83 f83 hc83 => ?_)
    show qsm L xs e Y bc bs _ qm_82 20 [some (.ref 1), some (.int 1)] [] h83 _ _ _
    try simp only [zq, zi, zc, zv, zf, zbd_zbd, zbd_some, zbd_fault, zbd_none, zite0, zite1, ↓reduceIte, Nat.one_ne_zero]
    refine qsm_pls (n := 1) (k' := 21) (lo' := [some (.ref 1), some (.int 1)]) (S' := [.int 1]) (h' := h83) rfl ?_
    refine qsm_if false rfl (rfl) rfl ?_
    refine qsm_pls (n := 2) (k' := 25) (lo' := [some (.ref 1), some (.int 1)]) (S' := [.int 4]) (h' := h83) rfl ?_
    exact qsm_ret5 (v := 4) hc83 rfl rfl rfl (by decide)
  · first | rw [if_neg t81] | rw [zci_F t81] | skip
    try simp only [zq, zi, zc, zv, zf, zbd_zbd, zbd_some, zbd_fault, zbd_none, zite0, zite1, ↓reduceIte, Nat.one_ne_zero]
    refine qsm_acmp true rfl (qzk (hlt _) (by decide)) (qa_neT t81) rfl ?_
    refine qsm_pls (n := 4) (k' := 13) (lo' := [some (.ref 1), some (.int 0)]) (S' := [.int 0, .ref 1]) (h' := h80) rfl ?_
    refine qsm_if true rfl (rfl) rfl ?_
    refine qsm_pls (n := 1) (k' := 17) (lo' := [some (.ref 1), some (.int 0)]) (S' := [.retAddr 71, .ref 1]) (h' := h80) rfl ?_
    first
      | refine qsm_call hc80 (qim_up (qi_copy (d := d) (k := 71) ht (by decide)) (by omega)) rfl rfl rfl rfl rfl rfl rfl rfl (ai_rcv1 rfl rfl (qcs_obj hc80)) (fun v84 s84 h84 f84 hc84 => ?_)
      | refine qsm_callL hc80 (qim_up (qi_copy (d := d) (k := 71) ht (by decide)) (by omega)) rfl rfl rfl rfl rfl rfl rfl rfl (ai_rcv1 rfl rfl (qcs_obj hc80)) (fun v84 s84 h84 f84 hc84 => ?_)
    show qsm L xs e Y bc bs _ qm_82 18 [some (.ref 1), some (.int 0)] [] h84 _ _ _
    try simp only [zq, zi, zc, zv, zf, zbd_zbd, zbd_some, zbd_fault, zbd_none, zite0, zite1, ↓reduceIte, Nat.one_ne_zero]
    refine qsm_pls (n := 1) (k' := 19) (lo' := [some (.ref 1), some (.int 0)]) (S' := [.ref 1]) (h' := h84) rfl ?_
    first
      | refine qsm_call hc84 (qim_up (qi_name (d := d) ht) (by omega)) rfl rfl rfl rfl rfl rfl rfl rfl (ai_rcv1 rfl rfl (qcs_obj hc84)) (fun v85 s85 h85 f85 hc85 => ?_)
      | refine qsm_callL hc84 (qim_up (qi_name (d := d) ht) (by omega)) rfl rfl rfl rfl rfl rfl rfl rfl (ai_rcv1 rfl rfl (qcs_obj hc84)) (fun v85 s85 h85 f85 hc85 => ?_)
    show qsm L xs e Y bc bs _ qm_82 20 [some (.ref 1), some (.int 0)] [] h85 _ _ _
    try simp only [zq, zi, zc, zv, zf, zbd_zbd, zbd_some, zbd_fault, zbd_none, zite0, zite1, ↓reduceIte, Nat.one_ne_zero]
    refine qsm_pls (n := 1) (k' := 21) (lo' := [some (.ref 1), some (.int 0)]) (S' := [.int 0]) (h' := h85) rfl ?_
    refine qsm_if true rfl (rfl) rfl ?_
    refine qsm_pls (n := 1) (k' := 25) (lo' := [some (.ref 1), some (.int 0)]) (S' := [.int 3]) (h' := h85) rfl ?_
    exact qsm_ret5 (v := 3) hc85 rfl rfl rfl (by decide)
/-- Grammar.insert() -/
theorem qs_insert (ht : qtk e Y) (hex : qim L xs e Y bc bs d 55 [.ref 1] 1 ex) (hqy : qim L xs e Y bc bs d 62 [.ref 1] 0 qy) : qim L xs e Y bc bs (d + 8) 83 [.ref 1] 1 (z_insert e ex qy) := by
  have hlt := qtk_lt ht
  refine qim_of (M := qm_83) rfl rfl (fun P s h hc => ?_)
  show qsm L xs e Y bc bs _ qm_83 0 [some (.ref 1), none, none] [] h _ _ _
  have loop : ∀ (G : Nat → zS → zR Nat), (∀ (j : Nat) (s : zS) (h : ai_H), qcs e Y bc bs P s h → qsm L xs e Y bc bs (d + 7) qm_83 48 [some (.ref 1), some (.int 0), some (.int (nI j))] [] h 1 P (G 0 s)) → ∀ (n i : Nat) (s : zS) (h : ai_H), i ≤ s.1 → qcs e Y bc bs P s h → qsm L xs e Y bc bs (d + 7) qm_83 29 [some (.ref 1), some (.int 1), some (.int (nI i))] [] h 1 P (zbd (zlp (zl_rows e ex) n s) G) := by
    intro G tail n
    induction n with
    | zero => intro i s h hi hc; exact qsm_none
    | succ n ih =>
      intro i s h hi hc
      have hb := qcs_bd hc
      rw [zlp_succ]
      generalize zlp (zl_rows e ex) n = W at ih ⊢
      simp only [zl_rows, zq, zi, zc, zv, zf, zbd_zbd, zbd_some, zbd_fault, zbd_none, zite0, zite1, ↓reduceIte, Nat.one_ne_zero]
      refine qsm_pls (n := 2) (k' := 31) (lo' := [some (.ref 1), some (.int 1), some (.int (nI i))]) (S' := [.int 1000000, .int (nI i)]) (h' := h) rfl ?_
      refine qsm_icmp false rfl (qc_geF (b := 1000000) (by omega) (by decide)) rfl ?_
      refine qsm_pls (n := 1) (k' := 33) (lo' := [some (.ref 1), some (.int 1), some (.int (nI i))]) (S' := [.int 1]) (h' := h) rfl ?_
      refine qsm_if false rfl (rfl) rfl ?_
      refine qsm_pls (n := 2) (k' := 36) (lo' := [some (.ref 1), some (.int 1), some (.int (nI i))]) (S' := [.retAddr 82, .ref 1]) (h' := h) rfl ?_
      first
        | refine qsm_call hc (qim_up (qi_copy (d := d) (k := 82) ht (by decide)) (by omega)) rfl rfl rfl rfl rfl rfl rfl rfl (ai_rcv1 rfl rfl (qcs_obj hc)) (fun v86 s86 h86 f86 hc86 => ?_)
        | refine qsm_callL hc (qim_up (qi_copy (d := d) (k := 82) ht (by decide)) (by omega)) rfl rfl rfl rfl rfl rfl rfl rfl (ai_rcv1 rfl rfl (qcs_obj hc)) (fun v86 s86 h86 f86 hc86 => ?_)
      show qsm L xs e Y bc bs _ qm_83 37 [some (.ref 1), some (.int 1), some (.int (nI i))] [] h86 _ _ _
      try simp only [zq, zi, zc, zv, zf, zbd_zbd, zbd_some, zbd_fault, zbd_none, zite0, zite1, ↓reduceIte, Nat.one_ne_zero]
      refine qsm_pls (n := 1) (k' := 38) (lo' := [some (.ref 1), some (.int 1), some (.int (nI i))]) (S' := [.ref 1]) (h' := h86) rfl ?_
      first
        | refine qsm_call hc86 (qim_up (qs_exs (d := d) ht hex) (by omega)) rfl rfl rfl rfl rfl rfl rfl rfl (ai_rcv1 rfl rfl (qcs_obj hc86)) (fun v87 s87 h87 f87 hc87 => ?_)
        | refine qsm_callL hc86 (qim_up (qs_exs (d := d) ht hex) (by omega)) rfl rfl rfl rfl rfl rfl rfl rfl (ai_rcv1 rfl rfl (qcs_obj hc86)) (fun v87 s87 h87 f87 hc87 => ?_)
      show qsm L xs e Y bc bs _ qm_83 39 [some (.ref 1), some (.int 1), some (.int (nI i))] [] h87 _ _ _
      try simp only [zq, zi, zc, zv, zf, zbd_zbd, zbd_some, zbd_fault, zbd_none, zite0, zite1, ↓reduceIte, Nat.one_ne_zero]
      refine qsm_pls (n := 2) (k' := 41) (lo' := [some (.ref 1), some (.int 1), some (.int (nI i))]) (S' := [.retAddr 83, .ref 1]) (h' := h87) rfl ?_
      first
        | refine qsm_call hc87 (qim_up (qi_copy (d := d) (k := 83) ht (by decide)) (by omega)) rfl rfl rfl rfl rfl rfl rfl rfl (ai_rcv1 rfl rfl (qcs_obj hc87)) (fun v88 s88 h88 f88 hc88 => ?_)
        | refine qsm_callL hc87 (qim_up (qi_copy (d := d) (k := 83) ht (by decide)) (by omega)) rfl rfl rfl rfl rfl rfl rfl rfl (ai_rcv1 rfl rfl (qcs_obj hc87)) (fun v88 s88 h88 f88 hc88 => ?_)
      show qsm L xs e Y bc bs _ qm_83 42 [some (.ref 1), some (.int 1), some (.int (nI i))] [] h88 _ _ _
      try simp only [zq, zi, zc, zv, zf, zbd_zbd, zbd_some, zbd_fault, zbd_none, zite0, zite1, ↓reduceIte, Nat.one_ne_zero]
      refine qsm_pls (n := 2) (k' := 44) (lo' := [some (.ref 1), some (.int 1), some (.int (nI i))]) (S' := [.retAddr 84, .ref 1]) (h' := h88) rfl ?_
      first
        | refine qsm_call hc88 (qim_up (qi_copyIf (d := d) (k := 84) ht (by decide)) (by omega)) rfl rfl rfl rfl rfl rfl rfl rfl (ai_rcv1 rfl rfl (qcs_obj hc88)) (fun v89 s89 h89 f89 hc89 => ?_)
        | refine qsm_callL hc88 (qim_up (qi_copyIf (d := d) (k := 84) ht (by decide)) (by omega)) rfl rfl rfl rfl rfl rfl rfl rfl (ai_rcv1 rfl rfl (qcs_obj hc88)) (fun v89 s89 h89 f89 hc89 => ?_)
      show qsm L xs e Y bc bs _ qm_83 45 [some (.ref 1), some (.int 1), some (.int (nI i))] [.int (nI v89)] h89 _ _ _
      try simp only [zq, zi, zc, zv, zf, zbd_zbd, zbd_some, zbd_fault, zbd_none, zite0, zite1, ↓reduceIte, Nat.one_ne_zero]
      rcases zci_v f89 with ⟨e89, q89, n89⟩ | ⟨e89, n89⟩
      · subst e89
        show qsm L xs e Y bc bs _ qm_83 45 [some (.ref 1), some (.int 1), some (.int (nI i))] [.int 0] h89 _ _ _
        try simp only [zq, zi, zc, zv, zf, zbd_zbd, zbd_some, zbd_fault, zbd_none, zite0, zite1, ↓reduceIte, Nat.one_ne_zero]
        refine qsm_pls (n := 3) (k' := 29) (lo' := [some (.ref 1), some (.int 0), some (.int ((nI i) + 1))]) (S' := []) (h' := h89) rfl ?_
        rw [nI_1]
        refine qsm_pls (n := 2) (k' := 31) (lo' := [some (.ref 1), some (.int 0), some (.int (nI (i + 1)))]) (S' := [.int 1000000, .int (nI (i + 1))]) (h' := h89) rfl ?_
        refine qsm_icmp false rfl (qc_geF (b := 1000000) (by omega) (by decide)) rfl ?_
        refine qsm_pls (n := 1) (k' := 33) (lo' := [some (.ref 1), some (.int 0), some (.int (nI (i + 1)))]) (S' := [.int 0]) (h' := h89) rfl ?_
        refine qsm_if true rfl (rfl) rfl ?_
        exact tail (i + 1) _ _ hc89
      · subst e89
        show qsm L xs e Y bc bs _ qm_83 45 [some (.ref 1), some (.int 1), some (.int (nI i))] [.int 1] h89 _ _ _
        try simp only [zq, zi, zc, zv, zf, zbd_zbd, zbd_some, zbd_fault, zbd_none, zite0, zite1, ↓reduceIte, Nat.one_ne_zero]
        refine qsm_pls (n := 3) (k' := 29) (lo' := [some (.ref 1), some (.int 1), some (.int ((nI i) + 1))]) (S' := []) (h' := h89) rfl ?_
        rw [nI_1]
        by_cases g90 : s89.1 ≤ s.1
        · rw [if_pos g90]; exact qsm_none
        · rw [if_neg g90]; exact ih (i + 1) _ _ (by omega) hc89
  simp only [z_insert, zq, zi, zc, zv, zf, zbd_zbd, zbd_some, zbd_fault, zbd_none, zite0, zite1, ↓reduceIte, Nat.one_ne_zero]
  try simp only [zq, zi, zc, zv, zf, zbd_zbd, zbd_some, zbd_fault, zbd_none, zite0, zite1, ↓reduceIte, Nat.one_ne_zero]
  refine qsm_pls (n := 2) (k' := 2) (lo' := [some (.ref 1), none, none]) (S' := [.retAddr 34, .ref 1]) (h' := h) rfl ?_
  first
    | refine qsm_call hc (qim_up (qi_copy (d := d) (k := 34) ht (by decide)) (by omega)) rfl rfl rfl rfl rfl rfl rfl rfl (ai_rcv1 rfl rfl (qcs_obj hc)) (fun v91 s91 h91 f91 hc91 => ?_)
    | refine qsm_callL hc (qim_up (qi_copy (d := d) (k := 34) ht (by decide)) (by omega)) rfl rfl rfl rfl rfl rfl rfl rfl (ai_rcv1 rfl rfl (qcs_obj hc)) (fun v91 s91 h91 f91 hc91 => ?_)
  show qsm L xs e Y bc bs _ qm_83 3 [some (.ref 1), none, none] [] h91 _ _ _
  try simp only [zq, zi, zc, zv, zf, zbd_zbd, zbd_some, zbd_fault, zbd_none, zite0, zite1, ↓reduceIte, Nat.one_ne_zero]
  refine qsm_pls (n := 2) (k' := 5) (lo' := [some (.ref 1), none, none]) (S' := [.retAddr 36, .ref 1]) (h' := h91) rfl ?_
  first
    | refine qsm_call hc91 (qim_up (qi_copy (d := d) (k := 36) ht (by decide)) (by omega)) rfl rfl rfl rfl rfl rfl rfl rfl (ai_rcv1 rfl rfl (qcs_obj hc91)) (fun v92 s92 h92 f92 hc92 => ?_)
    | refine qsm_callL hc91 (qim_up (qi_copy (d := d) (k := 36) ht (by decide)) (by omega)) rfl rfl rfl rfl rfl rfl rfl rfl (ai_rcv1 rfl rfl (qcs_obj hc91)) (fun v92 s92 h92 f92 hc92 => ?_)
  show qsm L xs e Y bc bs _ qm_83 6 [some (.ref 1), none, none] [] h92 _ _ _
  try simp only [zq, zi, zc, zv, zf, zbd_zbd, zbd_some, zbd_fault, zbd_none, zite0, zite1, ↓reduceIte, Nat.one_ne_zero]
  refine qsm_pls (n := 1) (k' := 7) (lo' := [some (.ref 1), none, none]) (S' := [.ref 1]) (h' := h92) rfl ?_
  first
    | refine qsm_call hc92 (qim_up (qi_name (d := d) ht) (by omega)) rfl rfl rfl rfl rfl rfl rfl rfl (ai_rcv1 rfl rfl (qcs_obj hc92)) (fun v93 s93 h93 f93 hc93 => ?_)
    | refine qsm_callL hc92 (qim_up (qi_name (d := d) ht) (by omega)) rfl rfl rfl rfl rfl rfl rfl rfl (ai_rcv1 rfl rfl (qcs_obj hc92)) (fun v93 s93 h93 f93 hc93 => ?_)
  show qsm L xs e Y bc bs _ qm_83 8 [some (.ref 1), none, none] [] h93 _ _ _
  try simp only [zq, zi, zc, zv, zf, zbd_zbd, zbd_some, zbd_fault, zbd_none, zite0, zite1, ↓reduceIte, Nat.one_ne_zero]
  refine qsm_pls (n := 1) (k' := 9) (lo' := [some (.ref 1), none, none]) (S' := [.ref 1]) (h' := h93) rfl ?_
  refine qsm_getf (v := .retAddr (ztk e s93.1)) rfl (qcs_obj hc93) rfl rfl rfl ?_
  refine qsm_pls (n := 1) (k' := 11) (lo' := [some (.ref 1), none, none]) (S' := [.retAddr 82, .retAddr (ztk e s93.1)]) (h' := h93) rfl ?_
  refine qsm_join 14 [some (.ref 1), none, none] [] (fun G95 tail95 => ?_) (fun vj95 sj95 hj95 hcj95 => ?_)
  · skip
    by_cases t94 : ztk e s93.1 = 82
    · first | rw [if_pos t94] | rw [zci_T t94] | skip
      try simp only [zq, zi, zc, zv, zf, zbd_zbd, zbd_some, zbd_fault, zbd_none, zite0, zite1, ↓reduceIte, Nat.one_ne_zero]
      refine qsm_acmp false rfl (qzk (hlt _) (by decide)) (qa_neF t94) rfl ?_
      refine qsm_pls (n := 1) (k' := 13) (lo' := [some (.ref 1), none, none]) (S' := [.ref 1]) (h' := h93) rfl ?_
      first
        | refine qsm_call hc93 (qim_up (qs_names (d := d) ht) (by omega)) rfl rfl rfl rfl rfl rfl rfl rfl (ai_rcv1 rfl rfl (qcs_obj hc93)) (fun v96 s96 h96 f96 hc96 => ?_)
        | refine qsm_callL hc93 (qim_up (qs_names (d := d) ht) (by omega)) rfl rfl rfl rfl rfl rfl rfl rfl (ai_rcv1 rfl rfl (qcs_obj hc93)) (fun v96 s96 h96 f96 hc96 => ?_)
      show qsm L xs e Y bc bs _ qm_83 14 [some (.ref 1), none, none] [] h96 _ _ _
      try simp only [zq, zi, zc, zv, zf, zbd_zbd, zbd_some, zbd_fault, zbd_none, zite0, zite1, ↓reduceIte, Nat.one_ne_zero]
      exact tail95 _ _ _ hc96
    · first | rw [if_neg t94] | rw [zci_F t94] | skip
      try simp only [zq, zi, zc, zv, zf, zbd_zbd, zbd_some, zbd_fault, zbd_none, zite0, zite1, ↓reduceIte, Nat.one_ne_zero]
      refine qsm_acmp true rfl (qzk (hlt _) (by decide)) (qa_neT t94) rfl ?_
      exact tail95 _ _ _ hc93
  · skip
    show qsm L xs e Y bc bs _ qm_83 14 [some (.ref 1), none, none] [] hj95 _ _ _
    try simp only [zq, zi, zc, zv, zf, zbd_zbd, zbd_some, zbd_fault, zbd_none, zite0, zite1, ↓reduceIte, Nat.one_ne_zero]
    refine qsm_pls (n := 1) (k' := 15) (lo' := [some (.ref 1), none, none]) (S' := [.ref 1]) (h' := hj95) rfl ?_
    refine qsm_getf (v := .retAddr (ztk e sj95.1)) rfl (qcs_obj hcj95) rfl rfl rfl ?_
    refine qsm_pls (n := 1) (k' := 17) (lo' := [some (.ref 1), none, none]) (S' := [.retAddr 65, .retAddr (ztk e sj95.1)]) (h' := hj95) rfl ?_
    by_cases t97 : ztk e sj95.1 = 65
    · first | rw [if_pos t97] | rw [zci_T t97] | skip
      try simp only [zq, zi, zc, zv, zf, zbd_zbd, zbd_some, zbd_fault, zbd_none, zite0, zite1, ↓reduceIte, Nat.one_ne_zero]
      refine qsm_acmp false rfl (qzk (hlt _) (by decide)) (qa_neF t97) rfl ?_
      refine qsm_pls (n := 1) (k' := 19) (lo' := [some (.ref 1), none, none]) (S' := [.ref 1]) (h' := hj95) rfl ?_
      first
        | refine qsm_call hcj95 (qim_up (hqy) (by omega)) rfl rfl rfl rfl rfl rfl rfl rfl (ai_rcv1 rfl rfl (qcs_obj hcj95)) (fun v98 s98 h98 f98 hc98 => ?_)
        | refine qsm_callL hcj95 (qim_up (hqy) (by omega)) rfl rfl rfl rfl rfl rfl rfl rfl (ai_rcv1 rfl rfl (qcs_obj hcj95)) (fun v98 s98 h98 f98 hc98 => ?_)
      show qsm L xs e Y bc bs _ qm_83 20 [some (.ref 1), none, none] [] h98 _ _ _
      try simp only [zq, zi, zc, zv, zf, zbd_zbd, zbd_some, zbd_fault, zbd_none, zite0, zite1, ↓reduceIte, Nat.one_ne_zero]
      refine qsm_pls (n := 1) (k' := 21) (lo' := [some (.ref 1), none, none]) (S' := [.int 5]) (h' := h98) rfl ?_
      exact qsm_ret5 (v := 5) hc98 rfl rfl rfl (by decide)
    · first | rw [if_neg t97] | rw [zci_F t97] | skip
      try simp only [zq, zi, zc, zv, zf, zbd_zbd, zbd_some, zbd_fault, zbd_none, zite0, zite1, ↓reduceIte, Nat.one_ne_zero]
      refine qsm_acmp true rfl (qzk (hlt _) (by decide)) (qa_neT t97) rfl ?_
      refine qsm_pls (n := 4) (k' := 26) (lo' := [some (.ref 1), some (.int 1), none]) (S' := [.retAddr 79, .ref 1]) (h' := hj95) rfl ?_
      first
        | refine qsm_call hcj95 (qim_up (qi_copy (d := d) (k := 79) ht (by decide)) (by omega)) rfl rfl rfl rfl rfl rfl rfl rfl (ai_rcv1 rfl rfl (qcs_obj hcj95)) (fun v99 s99 h99 f99 hc99 => ?_)
        | refine qsm_callL hcj95 (qim_up (qi_copy (d := d) (k := 79) ht (by decide)) (by omega)) rfl rfl rfl rfl rfl rfl rfl rfl (ai_rcv1 rfl rfl (qcs_obj hcj95)) (fun v99 s99 h99 f99 hc99 => ?_)
      show qsm L xs e Y bc bs _ qm_83 27 [some (.ref 1), some (.int 1), none] [] h99 _ _ _
      try simp only [zq, zi, zc, zv, zf, zbd_zbd, zbd_some, zbd_fault, zbd_none, zite0, zite1, ↓reduceIte, Nat.one_ne_zero]
      refine qsm_pls (n := 2) (k' := 29) (lo' := [some (.ref 1), some (.int 1), some (.int 0)]) (S' := []) (h' := h99) rfl ?_
      first
        | refine loop _ (fun j100 s100 h100 hc100 => ?_) zN 0 _ _ (Nat.zero_le _) hc99
        | (rw [← zbd_id (zlp (zl_rows e ex) zN _)]; refine loop _ (fun j100 s100 h100 hc100 => ?_) zN 0 _ _ (Nat.zero_le _) hc99)
      show qsm L xs e Y bc bs _ qm_83 48 [some (.ref 1), some (.int 0), some (.int (nI j100))] [] h100 _ _ _
      try simp only [zq, zi, zc, zv, zf, zbd_zbd, zbd_some, zbd_fault, zbd_none, zite0, zite1, ↓reduceIte, Nat.one_ne_zero]
      refine qsm_pls (n := 1) (k' := 49) (lo' := [some (.ref 1), some (.int 0), some (.int (nI j100))]) (S' := [.int 5]) (h' := h100) rfl ?_
      exact qsm_ret5 (v := 5) hc100 rfl rfl rfl (by decide)
/-- Grammar.update() -/
theorem qs_update (ht : qtk e Y) (hex : qim L xs e Y bc bs d 55 [.ref 1] 1 ex) : qim L xs e Y bc bs (d + 8) 84 [.ref 1] 1 (z_update e ex) := by
  have hlt := qtk_lt ht
  refine qim_of (M := qm_84) rfl rfl (fun P s h hc => ?_)
  show qsm L xs e Y bc bs _ qm_84 0 [some (.ref 1), none, none] [] h _ _ _
  have loop : ∀ (G : Nat → zS → zR Nat), (∀ (j : Nat) (s : zS) (h : ai_H), qcs e Y bc bs P s h → qsm L xs e Y bc bs (d + 7) qm_84 31 [some (.ref 1), some (.int 0), some (.int (nI j))] [] h 1 P (G 0 s)) → ∀ (n i : Nat) (s : zS) (h : ai_H), i ≤ s.1 → qcs e Y bc bs P s h → qsm L xs e Y bc bs (d + 7) qm_84 12 [some (.ref 1), some (.int 1), some (.int (nI i))] [] h 1 P (zbd (zlp (zl_set e ex) n s) G) := by
    intro G tail n
    induction n with
    | zero => intro i s h hi hc; exact qsm_none
    | succ n ih =>
      intro i s h hi hc
      have hb := qcs_bd hc
      rw [zlp_succ]
      generalize zlp (zl_set e ex) n = W at ih ⊢
      simp only [zl_set, zq, zi, zc, zv, zf, zbd_zbd, zbd_some, zbd_fault, zbd_none, zite0, zite1, ↓reduceIte, Nat.one_ne_zero]
      refine qsm_pls (n := 2) (k' := 14) (lo' := [some (.ref 1), some (.int 1), some (.int (nI i))]) (S' := [.int 1000000, .int (nI i)]) (h' := h) rfl ?_
      refine qsm_icmp false rfl (qc_geF (b := 1000000) (by omega) (by decide)) rfl ?_
      refine qsm_pls (n := 1) (k' := 16) (lo' := [some (.ref 1), some (.int 1), some (.int (nI i))]) (S' := [.int 1]) (h' := h) rfl ?_
      refine qsm_if false rfl (rfl) rfl ?_
      refine qsm_pls (n := 1) (k' := 18) (lo' := [some (.ref 1), some (.int 1), some (.int (nI i))]) (S' := [.ref 1]) (h' := h) rfl ?_
      first
        | refine qsm_call hc (qim_up (qi_name (d := d) ht) (by omega)) rfl rfl rfl rfl rfl rfl rfl rfl (ai_rcv1 rfl rfl (qcs_obj hc)) (fun v101 s101 h101 f101 hc101 => ?_)
        | refine qsm_callL hc (qim_up (qi_name (d := d) ht) (by omega)) rfl rfl rfl rfl rfl rfl rfl rfl (ai_rcv1 rfl rfl (qcs_obj hc)) (fun v101 s101 h101 f101 hc101 => ?_)
      show qsm L xs e Y bc bs _ qm_84 19 [some (.ref 1), some (.int 1), some (.int (nI i))] [] h101 _ _ _
      try simp only [zq, zi, zc, zv, zf, zbd_zbd, zbd_some, zbd_fault, zbd_none, zite0, zite1, ↓reduceIte, Nat.one_ne_zero]
      refine qsm_pls (n := 2) (k' := 21) (lo' := [some (.ref 1), some (.int 1), some (.int (nI i))]) (S' := [.retAddr 93, .ref 1]) (h' := h101) rfl ?_
      first
        | refine qsm_call hc101 (qim_up (qi_copy (d := d) (k := 93) ht (by decide)) (by omega)) rfl rfl rfl rfl rfl rfl rfl rfl (ai_rcv1 rfl rfl (qcs_obj hc101)) (fun v102 s102 h102 f102 hc102 => ?_)
        | refine qsm_callL hc101 (qim_up (qi_copy (d := d) (k := 93) ht (by decide)) (by omega)) rfl rfl rfl rfl rfl rfl rfl rfl (ai_rcv1 rfl rfl (qcs_obj hc101)) (fun v102 s102 h102 f102 hc102 => ?_)
      show qsm L xs e Y bc bs _ qm_84 22 [some (.ref 1), some (.int 1), some (.int (nI i))] [] h102 _ _ _
      try simp only [zq, zi, zc, zv, zf, zbd_zbd, zbd_some, zbd_fault, zbd_none, zite0, zite1, ↓reduceIte, Nat.one_ne_zero]
      refine qsm_pls (n := 1) (k' := 23) (lo' := [some (.ref 1), some (.int 1), some (.int (nI i))]) (S' := [.ref 1]) (h' := h102) rfl ?_
      first
        | refine qsm_call hc102 (qim_up (hex) (by omega)) rfl rfl rfl rfl rfl rfl rfl rfl (ai_rcv1 rfl rfl (qcs_obj hc102)) (fun v103 s103 h103 f103 hc103 => ?_)
        | refine qsm_callL hc102 (qim_up (hex) (by omega)) rfl rfl rfl rfl rfl rfl rfl rfl (ai_rcv1 rfl rfl (qcs_obj hc102)) (fun v103 s103 h103 f103 hc103 => ?_)
      show qsm L xs e Y bc bs _ qm_84 24 [some (.ref 1), some (.int 1), some (.int (nI i))] [.int (nI v103)] h103 _ _ _
      try simp only [zq, zi, zc, zv, zf, zbd_zbd, zbd_some, zbd_fault, zbd_none, zite0, zite1, ↓reduceIte, Nat.one_ne_zero]
      refine qsm_pls (n := 3) (k' := 27) (lo' := [some (.ref 1), some (.int 1), some (.int (nI i))]) (S' := [.retAddr 84, .ref 1]) (h' := h103) rfl ?_
      first
        | refine qsm_call hc103 (qim_up (qi_copyIf (d := d) (k := 84) ht (by decide)) (by omega)) rfl rfl rfl rfl rfl rfl rfl rfl (ai_rcv1 rfl rfl (qcs_obj hc103)) (fun v104 s104 h104 f104 hc104 => ?_)
        | refine qsm_callL hc103 (qim_up (qi_copyIf (d := d) (k := 84) ht (by decide)) (by omega)) rfl rfl rfl rfl rfl rfl rfl rfl (ai_rcv1 rfl rfl (qcs_obj hc103)) (fun v104 s104 h104 f104 hc104 => ?_)
      show qsm L xs e Y bc bs _ qm_84 28 [some (.ref 1), some (.int 1), some (.int (nI i))] [.int (nI v104)] h104 _ _ _
      try simp only [zq, zi, zc, zv, zf, zbd_zbd, zbd_some, zbd_fault, zbd_none, zite0, zite1, ↓reduceIte, Nat.one_ne_zero]
      rcases zci_v f104 with ⟨e104, q104, n104⟩ | ⟨e104, n104⟩
      · subst e104
        show qsm L xs e Y bc bs _ qm_84 28 [some (.ref 1), some (.int 1), some (.int (nI i))] [.int 0] h104 _ _ _
        try simp only [zq, zi, zc, zv, zf, zbd_zbd, zbd_some, zbd_fault, zbd_none, zite0, zite1, ↓reduceIte, Nat.one_ne_zero]
        refine qsm_pls (n := 3) (k' := 12) (lo' := [some (.ref 1), some (.int 0), some (.int ((nI i) + 1))]) (S' := []) (h' := h104) rfl ?_
        rw [nI_1]
        refine qsm_pls (n := 2) (k' := 14) (lo' := [some (.ref 1), some (.int 0), some (.int (nI (i + 1)))]) (S' := [.int 1000000, .int (nI (i + 1))]) (h' := h104) rfl ?_
        refine qsm_icmp false rfl (qc_geF (b := 1000000) (by omega) (by decide)) rfl ?_
        refine qsm_pls (n := 1) (k' := 16) (lo' := [some (.ref 1), some (.int 0), some (.int (nI (i + 1)))]) (S' := [.int 0]) (h' := h104) rfl ?_
        refine qsm_if true rfl (rfl) rfl ?_
        exact tail (i + 1) _ _ hc104
      · subst e104
        show qsm L xs e Y bc bs _ qm_84 28 [some (.ref 1), some (.int 1), some (.int (nI i))] [.int 1] h104 _ _ _
        try simp only [zq, zi, zc, zv, zf, zbd_zbd, zbd_some, zbd_fault, zbd_none, zite0, zite1, ↓reduceIte, Nat.one_ne_zero]
        refine qsm_pls (n := 3) (k' := 12) (lo' := [some (.ref 1), some (.int 1), some (.int ((nI i) + 1))]) (S' := []) (h' := h104) rfl ?_
        rw [nI_1]
        by_cases g105 : s104.1 ≤ s.1
        · rw [if_pos g105]; exact qsm_none
        · rw [if_neg g105]; exact ih (i + 1) _ _ (by omega) hc104
  simp only [z_update, zq, zi, zc, zv, zf, zbd_zbd, zbd_some, zbd_fault, zbd_none, zite0, zite1, ↓reduceIte, Nat.one_ne_zero]
  try simp only [zq, zi, zc, zv, zf, zbd_zbd, zbd_some, zbd_fault, zbd_none, zite0, zite1, ↓reduceIte, Nat.one_ne_zero]
  refine qsm_pls (n := 4) (k' := 4) (lo' := [some (.ref 1), some (.int 1), none]) (S' := [.retAddr 77, .ref 1]) (h' := h) rfl ?_
  first
    | refine qsm_call hc (qim_up (qi_copy (d := d) (k := 77) ht (by decide)) (by omega)) rfl rfl rfl rfl rfl rfl rfl rfl (ai_rcv1 rfl rfl (qcs_obj hc)) (fun v106 s106 h106 f106 hc106 => ?_)
    | refine qsm_callL hc (qim_up (qi_copy (d := d) (k := 77) ht (by decide)) (by omega)) rfl rfl rfl rfl rfl rfl rfl rfl (ai_rcv1 rfl rfl (qcs_obj hc)) (fun v106 s106 h106 f106 hc106 => ?_)
  show qsm L xs e Y bc bs _ qm_84 5 [some (.ref 1), some (.int 1), none] [] h106 _ _ _
  try simp only [zq, zi, zc, zv, zf, zbd_zbd, zbd_some, zbd_fault, zbd_none, zite0, zite1, ↓reduceIte, Nat.one_ne_zero]
  refine qsm_pls (n := 1) (k' := 6) (lo' := [some (.ref 1), some (.int 1), none]) (S' := [.ref 1]) (h' := h106) rfl ?_
  first
    | refine qsm_call hc106 (qim_up (qi_name (d := d) ht) (by omega)) rfl rfl rfl rfl rfl rfl rfl rfl (ai_rcv1 rfl rfl (qcs_obj hc106)) (fun v107 s107 h107 f107 hc107 => ?_)
    | refine qsm_callL hc106 (qim_up (qi_name (d := d) ht) (by omega)) rfl rfl rfl rfl rfl rfl rfl rfl (ai_rcv1 rfl rfl (qcs_obj hc106)) (fun v107 s107 h107 f107 hc107 => ?_)
  show qsm L xs e Y bc bs _ qm_84 7 [some (.ref 1), some (.int 1), none] [] h107 _ _ _
  try simp only [zq, zi, zc, zv, zf, zbd_zbd, zbd_some, zbd_fault, zbd_none, zite0, zite1, ↓reduceIte, Nat.one_ne_zero]
  refine qsm_pls (n := 2) (k' := 9) (lo' := [some (.ref 1), some (.int 1), none]) (S' := [.retAddr 67, .ref 1]) (h' := h107) rfl ?_
  first
    | refine qsm_call hc107 (qim_up (qi_copy (d := d) (k := 67) ht (by decide)) (by omega)) rfl rfl rfl rfl rfl rfl rfl rfl (ai_rcv1 rfl rfl (qcs_obj hc107)) (fun v108 s108 h108 f108 hc108 => ?_)
    | refine qsm_callL hc107 (qim_up (qi_copy (d := d) (k := 67) ht (by decide)) (by omega)) rfl rfl rfl rfl rfl rfl rfl rfl (ai_rcv1 rfl rfl (qcs_obj hc107)) (fun v108 s108 h108 f108 hc108 => ?_)
  show qsm L xs e Y bc bs _ qm_84 10 [some (.ref 1), some (.int 1), none] [] h108 _ _ _
  try simp only [zq, zi, zc, zv, zf, zbd_zbd, zbd_some, zbd_fault, zbd_none, zite0, zite1, ↓reduceIte, Nat.one_ne_zero]
  refine qsm_pls (n := 2) (k' := 12) (lo' := [some (.ref 1), some (.int 1), some (.int 0)]) (S' := []) (h' := h108) rfl ?_
  first
    | refine loop _ (fun j109 s109 h109 hc109 => ?_) zN 0 _ _ (Nat.zero_le _) hc108
    | (rw [← zbd_id (zlp (zl_set e ex) zN _)]; refine loop _ (fun j109 s109 h109 hc109 => ?_) zN 0 _ _ (Nat.zero_le _) hc108)
  show qsm L xs e Y bc bs _ qm_84 31 [some (.ref 1), some (.int 0), some (.int (nI j109))] [] h109 _ _ _
  try simp only [zq, zi, zc, zv, zf, zbd_zbd, zbd_some, zbd_fault, zbd_none, zite0, zite1, ↓reduceIte, Nat.one_ne_zero]
  refine qsm_pls (n := 1) (k' := 32) (lo' := [some (.ref 1), some (.int 0), some (.int (nI j109))]) (S' := [.ref 1]) (h' := h109) rfl ?_
  first
    | refine qsm_call hc109 (qim_up (qs_cond (d := d) ht hex) (by omega)) rfl rfl rfl rfl rfl rfl rfl rfl (ai_rcv1 rfl rfl (qcs_obj hc109)) (fun v110 s110 h110 f110 hc110 => ?_)
    | refine qsm_callL hc109 (qim_up (qs_cond (d := d) ht hex) (by omega)) rfl rfl rfl rfl rfl rfl rfl rfl (ai_rcv1 rfl rfl (qcs_obj hc109)) (fun v110 s110 h110 f110 hc110 => ?_)
  show qsm L xs e Y bc bs _ qm_84 33 [some (.ref 1), some (.int 0), some (.int (nI j109))] [] h110 _ _ _
  try simp only [zq, zi, zc, zv, zf, zbd_zbd, zbd_some, zbd_fault, zbd_none, zite0, zite1, ↓reduceIte, Nat.one_ne_zero]
  refine qsm_pls (n := 1) (k' := 34) (lo' := [some (.ref 1), some (.int 0), some (.int (nI j109))]) (S' := [.int 6]) (h' := h110) rfl ?_
  exact qsm_ret5 (v := 6) hc110 rfl rfl rfl (by decide)
/-- Grammar.delete() -/
theorem qs_delete (ht : qtk e Y) (hex : qim L xs e Y bc bs d 55 [.ref 1] 1 ex) : qim L xs e Y bc bs (d + 8) 85 [.ref 1] 1 (z_delete e ex) := by
  have hlt := qtk_lt ht
  refine qim_of (M := qm_85) rfl rfl (fun P s h hc => ?_)
  show qsm L xs e Y bc bs _ qm_85 0 [some (.ref 1)] [] h _ _ _
  simp only [z_delete, zq, zi, zc, zv, zf, zbd_zbd, zbd_some, zbd_fault, zbd_none, zite0, zite1, ↓reduceIte, Nat.one_ne_zero]
  try simp only [zq, zi, zc, zv, zf, zbd_zbd, zbd_some, zbd_fault, zbd_none, zite0, zite1, ↓reduceIte, Nat.one_ne_zero]
  refine qsm_pls (n := 2) (k' := 2) (lo' := [some (.ref 1)]) (S' := [.retAddr 20, .ref 1]) (h' := h) rfl ?_
  first
    | refine qsm_call hc (qim_up (qi_copy (d := d) (k := 20) ht (by decide)) (by omega)) rfl rfl rfl rfl rfl rfl rfl rfl (ai_rcv1 rfl rfl (qcs_obj hc)) (fun v111 s111 h111 f111 hc111 => ?_)
    | refine qsm_callL hc (qim_up (qi_copy (d := d) (k := 20) ht (by decide)) (by omega)) rfl rfl rfl rfl rfl rfl rfl rfl (ai_rcv1 rfl rfl (qcs_obj hc)) (fun v111 s111 h111 f111 hc111 => ?_)
  show qsm L xs e Y bc bs _ qm_85 3 [some (.ref 1)] [] h111 _ _ _
  try simp only [zq, zi, zc, zv, zf, zbd_zbd, zbd_some, zbd_fault, zbd_none, zite0, zite1, ↓reduceIte, Nat.one_ne_zero]
  refine qsm_pls (n := 2) (k' := 5) (lo' := [some (.ref 1)]) (S' := [.retAddr 28, .ref 1]) (h' := h111) rfl ?_
  first
    | refine qsm_call hc111 (qim_up (qi_copy (d := d) (k := 28) ht (by decide)) (by omega)) rfl rfl rfl rfl rfl rfl rfl rfl (ai_rcv1 rfl rfl (qcs_obj hc111)) (fun v112 s112 h112 f112 hc112 => ?_)
    | refine qsm_callL hc111 (qim_up (qi_copy (d := d) (k := 28) ht (by decide)) (by omega)) rfl rfl rfl rfl rfl rfl rfl rfl (ai_rcv1 rfl rfl (qcs_obj hc111)) (fun v112 s112 h112 f112 hc112 => ?_)
  show qsm L xs e Y bc bs _ qm_85 6 [some (.ref 1)] [] h112 _ _ _
  try simp only [zq, zi, zc, zv, zf, zbd_zbd, zbd_some, zbd_fault, zbd_none, zite0, zite1, ↓reduceIte, Nat.one_ne_zero]
  refine qsm_pls (n := 1) (k' := 7) (lo' := [some (.ref 1)]) (S' := [.ref 1]) (h' := h112) rfl ?_
  first
    | refine qsm_call hc112 (qim_up (qi_name (d := d) ht) (by omega)) rfl rfl rfl rfl rfl rfl rfl rfl (ai_rcv1 rfl rfl (qcs_obj hc112)) (fun v113 s113 h113 f113 hc113 => ?_)
    | refine qsm_callL hc112 (qim_up (qi_name (d := d) ht) (by omega)) rfl rfl rfl rfl rfl rfl rfl rfl (ai_rcv1 rfl rfl (qcs_obj hc112)) (fun v113 s113 h113 f113 hc113 => ?_)
  show qsm L xs e Y bc bs _ qm_85 8 [some (.ref 1)] [] h113 _ _ _
  try simp only [zq, zi, zc, zv, zf, zbd_zbd, zbd_some, zbd_fault, zbd_none, zite0, zite1, ↓reduceIte, Nat.one_ne_zero]
  refine qsm_pls (n := 1) (k' := 9) (lo' := [some (.ref 1)]) (S' := [.ref 1]) (h' := h113) rfl ?_
  first
    | refine qsm_call hc113 (qim_up (qs_cond (d := d) ht hex) (by omega)) rfl rfl rfl rfl rfl rfl rfl rfl (ai_rcv1 rfl rfl (qcs_obj hc113)) (fun v114 s114 h114 f114 hc114 => ?_)
    | refine qsm_callL hc113 (qim_up (qs_cond (d := d) ht hex) (by omega)) rfl rfl rfl rfl rfl rfl rfl rfl (ai_rcv1 rfl rfl (qcs_obj hc113)) (fun v114 s114 h114 f114 hc114 => ?_)
  show qsm L xs e Y bc bs _ qm_85 10 [some (.ref 1)] [] h114 _ _ _
  try simp only [zq, zi, zc, zv, zf, zbd_zbd, zbd_some, zbd_fault, zbd_none, zite0, zite1, ↓reduceIte, Nat.one_ne_zero]
  refine qsm_pls (n := 1) (k' := 11) (lo' := [some (.ref 1)]) (S' := [.int 7]) (h' := h114) rfl ?_
  exact qsm_ret5 (v := 7) hc114 rfl rfl rfl (by decide)
/-- Grammar.beginning() -/
theorem qs_begin (ht : qtk e Y) : qim L xs e Y bc bs (d + 7) 86 [.ref 1] 1 (z_begin e) := by
  have hlt := qtk_lt ht
  refine qim_of (M := qm_86) rfl rfl (fun P s h hc => ?_)
  show qsm L xs e Y bc bs _ qm_86 0 [some (.ref 1)] [] h _ _ _
  simp only [z_begin, zq, zi, zc, zv, zf, zbd_zbd, zbd_some, zbd_fault, zbd_none, zite0, zite1, ↓reduceIte, Nat.one_ne_zero]
  try simp only [zq, zi, zc, zv, zf, zbd_zbd, zbd_some, zbd_fault, zbd_none, zite0, zite1, ↓reduceIte, Nat.one_ne_zero]
  refine qsm_pls (n := 2) (k' := 2) (lo' := [some (.ref 1)]) (S' := [.retAddr 6, .ref 1]) (h' := h) rfl ?_
  first
    | refine qsm_call hc (qim_up (qi_copy (d := d) (k := 6) ht (by decide)) (by omega)) rfl rfl rfl rfl rfl rfl rfl rfl (ai_rcv1 rfl rfl (qcs_obj hc)) (fun v115 s115 h115 f115 hc115 => ?_)
    | refine qsm_callL hc (qim_up (qi_copy (d := d) (k := 6) ht (by decide)) (by omega)) rfl rfl rfl rfl rfl rfl rfl rfl (ai_rcv1 rfl rfl (qcs_obj hc)) (fun v115 s115 h115 f115 hc115 => ?_)
  show qsm L xs e Y bc bs _ qm_86 3 [some (.ref 1)] [] h115 _ _ _
  try simp only [zq, zi, zc, zv, zf, zbd_zbd, zbd_some, zbd_fault, zbd_none, zite0, zite1, ↓reduceIte, Nat.one_ne_zero]
  refine qsm_pls (n := 2) (k' := 5) (lo' := [some (.ref 1)]) (S' := [.retAddr 60, .ref 1]) (h' := h115) rfl ?_
  first
    | refine qsm_call hc115 (qim_up (qi_copyIf (d := d) (k := 60) ht (by decide)) (by omega)) rfl rfl rfl rfl rfl rfl rfl rfl (ai_rcv1 rfl rfl (qcs_obj hc115)) (fun v116 s116 h116 f116 hc116 => ?_)
    | refine qsm_callL hc115 (qim_up (qi_copyIf (d := d) (k := 60) ht (by decide)) (by omega)) rfl rfl rfl rfl rfl rfl rfl rfl (ai_rcv1 rfl rfl (qcs_obj hc115)) (fun v116 s116 h116 f116 hc116 => ?_)
  show qsm L xs e Y bc bs _ qm_86 6 [some (.ref 1)] [.int (nI v116)] h116 _ _ _
  try simp only [zq, zi, zc, zv, zf, zbd_zbd, zbd_some, zbd_fault, zbd_none, zite0, zite1, ↓reduceIte, Nat.one_ne_zero]
  rcases zci_v f116 with ⟨e116, q116, n116⟩ | ⟨e116, n116⟩
  · subst e116
    show qsm L xs e Y bc bs _ qm_86 6 [some (.ref 1)] [.int 0] h116 _ _ _
    try simp only [zq, zi, zc, zv, zf, zbd_zbd, zbd_some, zbd_fault, zbd_none, zite0, zite1, ↓reduceIte, Nat.one_ne_zero]
    refine qsm_if true rfl (rfl) rfl ?_
    refine qsm_pls (n := 2) (k' := 17) (lo' := [some (.ref 1)]) (S' := [.retAddr 66, .ref 1]) (h' := h116) rfl ?_
    first
      | refine qsm_call hc116 (qim_up (qi_copyIf (d := d) (k := 66) ht (by decide)) (by omega)) rfl rfl rfl rfl rfl rfl rfl rfl (ai_rcv1 rfl rfl (qcs_obj hc116)) (fun v117 s117 h117 f117 hc117 => ?_)
      | refine qsm_callL hc116 (qim_up (qi_copyIf (d := d) (k := 66) ht (by decide)) (by omega)) rfl rfl rfl rfl rfl rfl rfl rfl (ai_rcv1 rfl rfl (qcs_obj hc116)) (fun v117 s117 h117 f117 hc117 => ?_)
    show qsm L xs e Y bc bs _ qm_86 18 [some (.ref 1)] [.int (nI v117)] h117 _ _ _
    try simp only [zq, zi, zc, zv, zf, zbd_zbd, zbd_some, zbd_fault, zbd_none, zite0, zite1, ↓reduceIte, Nat.one_ne_zero]
    rcases zci_v f117 with ⟨e117, q117, n117⟩ | ⟨e117, n117⟩
    · subst e117
      show qsm L xs e Y bc bs _ qm_86 18 [some (.ref 1)] [.int 0] h117 _ _ _
      try simp only [zq, zi, zc, zv, zf, zbd_zbd, zbd_some, zbd_fault, zbd_none, zite0, zite1, ↓reduceIte, Nat.one_ne_zero]
      refine qsm_if false rfl (rfl) rfl ?_
      refine qsm_pls (n := 1) (k' := 20) (lo' := [some (.ref 1)]) (S' := [.ref 1]) (h' := h117) rfl ?_
      refine qsm_getf (v := .ref 4) rfl (qcs_obj hc117) rfl rfl rfl ?_
      refine qsm_pls (n := 1) (k' := 22) (lo' := [some (.ref 1)]) (S' := [.retAddr 1010, .ref 4]) (h' := h117) rfl ?_
      obtain ⟨fs118, b118⟩ := qcs_plain hc117
      first
        | refine qsm_call hc117 (qim_up (qi_put (d := d) (c := 1010) (by decide) (by decide)) (by omega)) rfl rfl rfl rfl rfl rfl rfl rfl (ai_rcv1 rfl rfl b118) (fun v118 s118 h118 f118 hc118 => ?_)
        | refine qsm_callL hc117 (qim_up (qi_put (d := d) (c := 1010) (by decide) (by decide)) (by omega)) rfl rfl rfl rfl rfl rfl rfl rfl (ai_rcv1 rfl rfl b118) (fun v118 s118 h118 f118 hc118 => ?_)
      show qsm L xs e Y bc bs _ qm_86 23 [some (.ref 1)] [] h118 _ _ _
      try simp only [zq, zi, zc, zv, zf, zbd_zbd, zbd_some, zbd_fault, zbd_none, zite0, zite1, ↓reduceIte, Nat.one_ne_zero]
      refine qsm_pls (n := 1) (k' := 24) (lo' := [some (.ref 1)]) (S' := [.int 9]) (h' := h118) rfl ?_
      exact qsm_ret5 (v := 9) hc118 rfl rfl rfl (by decide)
    · subst e117
      show qsm L xs e Y bc bs _ qm_86 18 [some (.ref 1)] [.int 1] h117 _ _ _
      try simp only [zq, zi, zc, zv, zf, zbd_zbd, zbd_some, zbd_fault, zbd_none, zite0, zite1, ↓reduceIte, Nat.one_ne_zero]
      refine qsm_if true rfl (rfl) rfl ?_
      refine qsm_pls (n := 1) (k' := 24) (lo' := [some (.ref 1)]) (S' := [.int 9]) (h' := h117) rfl ?_
      exact qsm_ret5 (v := 9) hc117 rfl rfl rfl (by decide)
  · subst e116
    show qsm L xs e Y bc bs _ qm_86 6 [some (.ref 1)] [.int 1] h116 _ _ _
    try simp only [zq, zi, zc, zv, zf, zbd_zbd, zbd_some, zbd_fault, zbd_none, zite0, zite1, ↓reduceIte, Nat.one_ne_zero]
    refine qsm_if false rfl (rfl) rfl ?_
    refine qsm_pls (n := 2) (k' := 9) (lo' := [some (.ref 1)]) (S' := [.retAddr 15, .ref 1]) (h' := h116) rfl ?_
    first
      | refine qsm_call hc116 (qim_up (qi_copyIf (d := d) (k := 15) ht (by decide)) (by omega)) rfl rfl rfl rfl rfl rfl rfl rfl (ai_rcv1 rfl rfl (qcs_obj hc116)) (fun v119 s119 h119 f119 hc119 => ?_)
      | refine qsm_callL hc116 (qim_up (qi_copyIf (d := d) (k := 15) ht (by decide)) (by omega)) rfl rfl rfl rfl rfl rfl rfl rfl (ai_rcv1 rfl rfl (qcs_obj hc116)) (fun v119 s119 h119 f119 hc119 => ?_)
    show qsm L xs e Y bc bs _ qm_86 10 [some (.ref 1)] [.int (nI v119)] h119 _ _ _
    try simp only [zq, zi, zc, zv, zf, zbd_zbd, zbd_some, zbd_fault, zbd_none, zite0, zite1, ↓reduceIte, Nat.one_ne_zero]
    rcases zci_v f119 with ⟨e119, q119, n119⟩ | ⟨e119, n119⟩
    · subst e119
      show qsm L xs e Y bc bs _ qm_86 10 [some (.ref 1)] [.int 0] h119 _ _ _
      try simp only [zq, zi, zc, zv, zf, zbd_zbd, zbd_some, zbd_fault, zbd_none, zite0, zite1, ↓reduceIte, Nat.one_ne_zero]
      refine qsm_if false rfl (rfl) rfl ?_
      refine qsm_pls (n := 2) (k' := 13) (lo' := [some (.ref 1)]) (S' := [.retAddr 75, .ref 1]) (h' := h119) rfl ?_
      first
        | refine qsm_call hc119 (qim_up (qi_copy (d := d) (k := 75) ht (by decide)) (by omega)) rfl rfl rfl rfl rfl rfl rfl rfl (ai_rcv1 rfl rfl (qcs_obj hc119)) (fun v120 s120 h120 f120 hc120 => ?_)
        | refine qsm_callL hc119 (qim_up (qi_copy (d := d) (k := 75) ht (by decide)) (by omega)) rfl rfl rfl rfl rfl rfl rfl rfl (ai_rcv1 rfl rfl (qcs_obj hc119)) (fun v120 s120 h120 f120 hc120 => ?_)
      show qsm L xs e Y bc bs _ qm_86 14 [some (.ref 1)] [] h120 _ _ _
      try simp only [zq, zi, zc, zv, zf, zbd_zbd, zbd_some, zbd_fault, zbd_none, zite0, zite1, ↓reduceIte, Nat.one_ne_zero]
      refine qsm_pls (n := 2) (k' := 24) (lo' := [some (.ref 1)]) (S' := [.int 9]) (h' := h120) rfl ?_
      exact qsm_ret5 (v := 9) hc120 rfl rfl rfl (by decide)
    · subst e119
      show qsm L xs e Y bc bs _ qm_86 10 [some (.ref 1)] [.int 1] h119 _ _ _
      try simp only [zq, zi, zc, zv, zf, zbd_zbd, zbd_some, zbd_fault, zbd_none, zite0, zite1, ↓reduceIte, Nat.one_ne_zero]
      refine qsm_if true rfl (rfl) rfl ?_
      refine qsm_pls (n := 1) (k' := 24) (lo' := [some (.ref 1)]) (S' := [.int 9]) (h' := h119) rfl ?_
      exact qsm_ret5 (v := 9) hc119 rfl rfl rfl (by decide)
/-- Grammar.commit() -/
theorem qs_commit (ht : qtk e Y) : qim L xs e Y bc bs (d + 7) 87 [.ref 1] 1 (z_commit e) := by
  have hlt := qtk_lt ht
  refine qim_of (M := qm_87) rfl rfl (fun P s h hc => ?_)
  show qsm L xs e Y bc bs _ qm_87 0 [some (.ref 1)] [] h _ _ _
  simp only [z_commit, zq, zi, zc, zv, zf, zbd_zbd, zbd_some, zbd_fault, zbd_none, zite0, zite1, ↓reduceIte, Nat.one_ne_zero]
  try simp only [zq, zi, zc, zv, zf, zbd_zbd, zbd_some, zbd_fault, zbd_none, zite0, zite1, ↓reduceIte, Nat.one_ne_zero]
  refine qsm_pls (n := 2) (k' := 2) (lo' := [some (.ref 1)]) (S' := [.retAddr 14, .ref 1]) (h' := h) rfl ?_
  first
    | refine qsm_call hc (qim_up (qi_copy (d := d) (k := 14) ht (by decide)) (by omega)) rfl rfl rfl rfl rfl rfl rfl rfl (ai_rcv1 rfl rfl (qcs_obj hc)) (fun v121 s121 h121 f121 hc121 => ?_)
    | refine qsm_callL hc (qim_up (qi_copy (d := d) (k := 14) ht (by decide)) (by omega)) rfl rfl rfl rfl rfl rfl rfl rfl (ai_rcv1 rfl rfl (qcs_obj hc)) (fun v121 s121 h121 f121 hc121 => ?_)
  show qsm L xs e Y bc bs _ qm_87 3 [some (.ref 1)] [] h121 _ _ _
  try simp only [zq, zi, zc, zv, zf, zbd_zbd, zbd_some, zbd_fault, zbd_none, zite0, zite1, ↓reduceIte, Nat.one_ne_zero]
  refine qsm_pls (n := 2) (k' := 5) (lo' := [some (.ref 1)]) (S' := [.retAddr 58, .ref 1]) (h' := h121) rfl ?_
  first
    | refine qsm_call hc121 (qim_up (qi_copyIf (d := d) (k := 58) ht (by decide)) (by omega)) rfl rfl rfl rfl rfl rfl rfl rfl (ai_rcv1 rfl rfl (qcs_obj hc121)) (fun v122 s122 h122 f122 hc122 => ?_)
    | refine qsm_callL hc121 (qim_up (qi_copyIf (d := d) (k := 58) ht (by decide)) (by omega)) rfl rfl rfl rfl rfl rfl rfl rfl (ai_rcv1 rfl rfl (qcs_obj hc121)) (fun v122 s122 h122 f122 hc122 => ?_)
  show qsm L xs e Y bc bs _ qm_87 6 [some (.ref 1)] [.int (nI v122)] h122 _ _ _
  try simp only [zq, zi, zc, zv, zf, zbd_zbd, zbd_some, zbd_fault, zbd_none, zite0, zite1, ↓reduceIte, Nat.one_ne_zero]
  rcases zci_v f122 with ⟨e122, q122, n122⟩ | ⟨e122, n122⟩
  · subst e122
    show qsm L xs e Y bc bs _ qm_87 6 [some (.ref 1)] [.int 0] h122 _ _ _
    try simp only [zq, zi, zc, zv, zf, zbd_zbd, zbd_some, zbd_fault, zbd_none, zite0, zite1, ↓reduceIte, Nat.one_ne_zero]
    refine qsm_if false rfl (rfl) rfl ?_
    refine qsm_pls (n := 1) (k' := 8) (lo' := [some (.ref 1)]) (S' := [.int 10]) (h' := h122) rfl ?_
    exact qsm_ret5 (v := 10) hc122 rfl rfl rfl (by decide)
  · subst e122
    show qsm L xs e Y bc bs _ qm_87 6 [some (.ref 1)] [.int 1] h122 _ _ _
    try simp only [zq, zi, zc, zv, zf, zbd_zbd, zbd_some, zbd_fault, zbd_none, zite0, zite1, ↓reduceIte, Nat.one_ne_zero]
    refine qsm_if true rfl (rfl) rfl ?_
    refine qsm_pls (n := 1) (k' := 10) (lo' := [some (.ref 1)]) (S' := [.ref 1]) (h' := h122) rfl ?_
    first
      | refine qsm_call hc122 (qim_up (qi_number (d := d) ht) (by omega)) rfl rfl rfl rfl rfl rfl rfl rfl (ai_rcv1 rfl rfl (qcs_obj hc122)) (fun v123 s123 h123 f123 hc123 => ?_)
      | refine qsm_callL hc122 (qim_up (qi_number (d := d) ht) (by omega)) rfl rfl rfl rfl rfl rfl rfl rfl (ai_rcv1 rfl rfl (qcs_obj hc122)) (fun v123 s123 h123 f123 hc123 => ?_)
    show qsm L xs e Y bc bs _ qm_87 11 [some (.ref 1)] [] h123 _ _ _
    try simp only [zq, zi, zc, zv, zf, zbd_zbd, zbd_some, zbd_fault, zbd_none, zite0, zite1, ↓reduceIte, Nat.one_ne_zero]
    refine qsm_pls (n := 1) (k' := 12) (lo' := [some (.ref 1)]) (S' := [.int 16]) (h' := h123) rfl ?_
    exact qsm_ret5 (v := 16) hc123 rfl rfl rfl (by decide)
/-- Grammar.rollback() -/
theorem qs_rollback (ht : qtk e Y) : qim L xs e Y bc bs (d + 7) 88 [.ref 1] 1 (z_rollback e) := by
  have hlt := qtk_lt ht
  refine qim_of (M := qm_88) rfl rfl (fun P s h hc => ?_)
  show qsm L xs e Y bc bs _ qm_88 0 [some (.ref 1)] [] h _ _ _
  simp only [z_rollback, zq, zi, zc, zv, zf, zbd_zbd, zbd_some, zbd_fault, zbd_none, zite0, zite1, ↓reduceIte, Nat.one_ne_zero]
  try simp only [zq, zi, zc, zv, zf, zbd_zbd, zbd_some, zbd_fault, zbd_none, zite0, zite1, ↓reduceIte, Nat.one_ne_zero]
  refine qsm_pls (n := 2) (k' := 2) (lo' := [some (.ref 1)]) (S' := [.retAddr 63, .ref 1]) (h' := h) rfl ?_
  first
    | refine qsm_call hc (qim_up (qi_copy (d := d) (k := 63) ht (by decide)) (by omega)) rfl rfl rfl rfl rfl rfl rfl rfl (ai_rcv1 rfl rfl (qcs_obj hc)) (fun v124 s124 h124 f124 hc124 => ?_)
    | refine qsm_callL hc (qim_up (qi_copy (d := d) (k := 63) ht (by decide)) (by omega)) rfl rfl rfl rfl rfl rfl rfl rfl (ai_rcv1 rfl rfl (qcs_obj hc)) (fun v124 s124 h124 f124 hc124 => ?_)
  show qsm L xs e Y bc bs _ qm_88 3 [some (.ref 1)] [] h124 _ _ _
  try simp only [zq, zi, zc, zv, zf, zbd_zbd, zbd_some, zbd_fault, zbd_none, zite0, zite1, ↓reduceIte, Nat.one_ne_zero]
  refine qsm_pls (n := 2) (k' := 5) (lo' := [some (.ref 1)]) (S' := [.retAddr 74, .ref 1]) (h' := h124) rfl ?_
  first
    | refine qsm_call hc124 (qim_up (qi_copyIf (d := d) (k := 74) ht (by decide)) (by omega)) rfl rfl rfl rfl rfl rfl rfl rfl (ai_rcv1 rfl rfl (qcs_obj hc124)) (fun v125 s125 h125 f125 hc125 => ?_)
    | refine qsm_callL hc124 (qim_up (qi_copyIf (d := d) (k := 74) ht (by decide)) (by omega)) rfl rfl rfl rfl rfl rfl rfl rfl (ai_rcv1 rfl rfl (qcs_obj hc124)) (fun v125 s125 h125 f125 hc125 => ?_)
  show qsm L xs e Y bc bs _ qm_88 6 [some (.ref 1)] [.int (nI v125)] h125 _ _ _
  try simp only [zq, zi, zc, zv, zf, zbd_zbd, zbd_some, zbd_fault, zbd_none, zite0, zite1, ↓reduceIte, Nat.one_ne_zero]
  rcases zci_v f125 with ⟨e125, q125, n125⟩ | ⟨e125, n125⟩
  · subst e125
    show qsm L xs e Y bc bs _ qm_88 6 [some (.ref 1)] [.int 0] h125 _ _ _
    try simp only [zq, zi, zc, zv, zf, zbd_zbd, zbd_some, zbd_fault, zbd_none, zite0, zite1, ↓reduceIte, Nat.one_ne_zero]
    refine qsm_if true rfl (rfl) rfl ?_
    refine qsm_pls (n := 2) (k' := 13) (lo' := [some (.ref 1)]) (S' := [.retAddr 58, .ref 1]) (h' := h125) rfl ?_
    first
      | refine qsm_call hc125 (qim_up (qi_copyIf (d := d) (k := 58) ht (by decide)) (by omega)) rfl rfl rfl rfl rfl rfl rfl rfl (ai_rcv1 rfl rfl (qcs_obj hc125)) (fun v126 s126 h126 f126 hc126 => ?_)
      | refine qsm_callL hc125 (qim_up (qi_copyIf (d := d) (k := 58) ht (by decide)) (by omega)) rfl rfl rfl rfl rfl rfl rfl rfl (ai_rcv1 rfl rfl (qcs_obj hc125)) (fun v126 s126 h126 f126 hc126 => ?_)
    show qsm L xs e Y bc bs _ qm_88 14 [some (.ref 1)] [.int (nI v126)] h126 _ _ _
    try simp only [zq, zi, zc, zv, zf, zbd_zbd, zbd_some, zbd_fault, zbd_none, zite0, zite1, ↓reduceIte, Nat.one_ne_zero]
    rcases zci_v f126 with ⟨e126, q126, n126⟩ | ⟨e126, n126⟩
    · subst e126
      show qsm L xs e Y bc bs _ qm_88 14 [some (.ref 1)] [.int 0] h126 _ _ _
      try simp only [zq, zi, zc, zv, zf, zbd_zbd, zbd_some, zbd_fault, zbd_none, zite0, zite1, ↓reduceIte, Nat.one_ne_zero]
      refine qsm_if true rfl (rfl) rfl ?_
      refine qsm_pls (n := 1) (k' := 20) (lo' := [some (.ref 1)]) (S' := [.int 11]) (h' := h126) rfl ?_
      exact qsm_ret5 (v := 11) hc126 rfl rfl rfl (by decide)
    · subst e126
      show qsm L xs e Y bc bs _ qm_88 14 [some (.ref 1)] [.int 1] h126 _ _ _
      try simp only [zq, zi, zc, zv, zf, zbd_zbd, zbd_some, zbd_fault, zbd_none, zite0, zite1, ↓reduceIte, Nat.one_ne_zero]
      refine qsm_if false rfl (rfl) rfl ?_
      refine qsm_pls (n := 1) (k' := 16) (lo' := [some (.ref 1)]) (S' := [.ref 1]) (h' := h126) rfl ?_
      first
        | refine qsm_call hc126 (qim_up (qi_number (d := d) ht) (by omega)) rfl rfl rfl rfl rfl rfl rfl rfl (ai_rcv1 rfl rfl (qcs_obj hc126)) (fun v127 s127 h127 f127 hc127 => ?_)
        | refine qsm_callL hc126 (qim_up (qi_number (d := d) ht) (by omega)) rfl rfl rfl rfl rfl rfl rfl rfl (ai_rcv1 rfl rfl (qcs_obj hc126)) (fun v127 s127 h127 f127 hc127 => ?_)
      show qsm L xs e Y bc bs _ qm_88 17 [some (.ref 1)] [] h127 _ _ _
      try simp only [zq, zi, zc, zv, zf, zbd_zbd, zbd_some, zbd_fault, zbd_none, zite0, zite1, ↓reduceIte, Nat.one_ne_zero]
      refine qsm_pls (n := 1) (k' := 18) (lo' := [some (.ref 1)]) (S' := [.int 17]) (h' := h127) rfl ?_
      exact qsm_ret5 (v := 17) hc127 rfl rfl rfl (by decide)
  · subst e125
    show qsm L xs e Y bc bs _ qm_88 6 [some (.ref 1)] [.int 1] h125 _ _ _
    try simp only [zq, zi, zc, zv, zf, zbd_zbd, zbd_some, zbd_fault, zbd_none, zite0, zite1, ↓reduceIte, Nat.one_ne_zero]
    refine qsm_if false rfl (rfl) rfl ?_
    refine qsm_pls (n := 1) (k' := 8) (lo' := [some (.ref 1)]) (S' := [.ref 1]) (h' := h125) rfl ?_
    first
      | refine qsm_call hc125 (qim_up (qi_name (d := d) ht) (by omega)) rfl rfl rfl rfl rfl rfl rfl rfl (ai_rcv1 rfl rfl (qcs_obj hc125)) (fun v128 s128 h128 f128 hc128 => ?_)
      | refine qsm_callL hc125 (qim_up (qi_name (d := d) ht) (by omega)) rfl rfl rfl rfl rfl rfl rfl rfl (ai_rcv1 rfl rfl (qcs_obj hc125)) (fun v128 s128 h128 f128 hc128 => ?_)
    show qsm L xs e Y bc bs _ qm_88 9 [some (.ref 1)] [] h128 _ _ _
    try simp only [zq, zi, zc, zv, zf, zbd_zbd, zbd_some, zbd_fault, zbd_none, zite0, zite1, ↓reduceIte, Nat.one_ne_zero]
    refine qsm_pls (n := 1) (k' := 10) (lo' := [some (.ref 1)]) (S' := [.int 13]) (h' := h128) rfl ?_
    exact qsm_ret5 (v := 13) hc128 rfl rfl rfl (by decide)
/-- Grammar.lock() -/
theorem qs_lock (ht : qtk e Y) : qim L xs e Y bc bs (d + 7) 89 [.ref 1] 1 (z_lock e) := by
  have hlt := qtk_lt ht
  refine qim_of (M := qm_89) rfl rfl (fun P s h hc => ?_)
  show qsm L xs e Y bc bs _ qm_89 0 [some (.ref 1)] [] h _ _ _
  simp only [z_lock, zq, zi, zc, zv, zf, zbd_zbd, zbd_some, zbd_fault, zbd_none, zite0, zite1, ↓reduceIte, Nat.one_ne_zero]
  try simp only [zq, zi, zc, zv, zf, zbd_zbd, zbd_some, zbd_fault, zbd_none, zite0, zite1, ↓reduceIte, Nat.one_ne_zero]
  refine qsm_pls (n := 2) (k' := 2) (lo' := [some (.ref 1)]) (S' := [.retAddr 44, .ref 1]) (h' := h) rfl ?_
  first
    | refine qsm_call hc (qim_up (qi_copy (d := d) (k := 44) ht (by decide)) (by omega)) rfl rfl rfl rfl rfl rfl rfl rfl (ai_rcv1 rfl rfl (qcs_obj hc)) (fun v129 s129 h129 f129 hc129 => ?_)
    | refine qsm_callL hc (qim_up (qi_copy (d := d) (k := 44) ht (by decide)) (by omega)) rfl rfl rfl rfl rfl rfl rfl rfl (ai_rcv1 rfl rfl (qcs_obj hc)) (fun v129 s129 h129 f129 hc129 => ?_)
  show qsm L xs e Y bc bs _ qm_89 3 [some (.ref 1)] [] h129 _ _ _
  try simp only [zq, zi, zc, zv, zf, zbd_zbd, zbd_some, zbd_fault, zbd_none, zite0, zite1, ↓reduceIte, Nat.one_ne_zero]
  refine qsm_pls (n := 2) (k' := 5) (lo' := [some (.ref 1)]) (S' := [.retAddr 71, .ref 1]) (h' := h129) rfl ?_
  first
    | refine qsm_call hc129 (qim_up (qi_copy (d := d) (k := 71) ht (by decide)) (by omega)) rfl rfl rfl rfl rfl rfl rfl rfl (ai_rcv1 rfl rfl (qcs_obj hc129)) (fun v130 s130 h130 f130 hc130 => ?_)
    | refine qsm_callL hc129 (qim_up (qi_copy (d := d) (k := 71) ht (by decide)) (by omega)) rfl rfl rfl rfl rfl rfl rfl rfl (ai_rcv1 rfl rfl (qcs_obj hc129)) (fun v130 s130 h130 f130 hc130 => ?_)
  show qsm L xs e Y bc bs _ qm_89 6 [some (.ref 1)] [] h130 _ _ _
  try simp only [zq, zi, zc, zv, zf, zbd_zbd, zbd_some, zbd_fault, zbd_none, zite0, zite1, ↓reduceIte, Nat.one_ne_zero]
  refine qsm_pls (n := 1) (k' := 7) (lo' := [some (.ref 1)]) (S' := [.ref 1]) (h' := h130) rfl ?_
  first
    | refine qsm_call hc130 (qim_up (qi_name (d := d) ht) (by omega)) rfl rfl rfl rfl rfl rfl rfl rfl (ai_rcv1 rfl rfl (qcs_obj hc130)) (fun v131 s131 h131 f131 hc131 => ?_)
    | refine qsm_callL hc130 (qim_up (qi_name (d := d) ht) (by omega)) rfl rfl rfl rfl rfl rfl rfl rfl (ai_rcv1 rfl rfl (qcs_obj hc130)) (fun v131 s131 h131 f131 hc131 => ?_)
  show qsm L xs e Y bc bs _ qm_89 8 [some (.ref 1)] [] h131 _ _ _
  try simp only [zq, zi, zc, zv, zf, zbd_zbd, zbd_some, zbd_fault, zbd_none, zite0, zite1, ↓reduceIte, Nat.one_ne_zero]
  refine qsm_pls (n := 2) (k' := 10) (lo' := [some (.ref 1)]) (S' := [.retAddr 31, .ref 1]) (h' := h131) rfl ?_
  first
    | refine qsm_call hc131 (qim_up (qi_copy (d := d) (k := 31) ht (by decide)) (by omega)) rfl rfl rfl rfl rfl rfl rfl rfl (ai_rcv1 rfl rfl (qcs_obj hc131)) (fun v132 s132 h132 f132 hc132 => ?_)
    | refine qsm_callL hc131 (qim_up (qi_copy (d := d) (k := 31) ht (by decide)) (by omega)) rfl rfl rfl rfl rfl rfl rfl rfl (ai_rcv1 rfl rfl (qcs_obj hc131)) (fun v132 s132 h132 f132 hc132 => ?_)
  show qsm L xs e Y bc bs _ qm_89 11 [some (.ref 1)] [] h132 _ _ _
  try simp only [zq, zi, zc, zv, zf, zbd_zbd, zbd_some, zbd_fault, zbd_none, zite0, zite1, ↓reduceIte, Nat.one_ne_zero]
  refine qsm_pls (n := 2) (k' := 13) (lo' := [some (.ref 1)]) (S' := [.retAddr 68, .ref 1]) (h' := h132) rfl ?_
  first
    | refine qsm_call hc132 (qim_up (qi_copyIf (d := d) (k := 68) ht (by decide)) (by omega)) rfl rfl rfl rfl rfl rfl rfl rfl (ai_rcv1 rfl rfl (qcs_obj hc132)) (fun v133 s133 h133 f133 hc133 => ?_)
    | refine qsm_callL hc132 (qim_up (qi_copyIf (d := d) (k := 68) ht (by decide)) (by omega)) rfl rfl rfl rfl rfl rfl rfl rfl (ai_rcv1 rfl rfl (qcs_obj hc132)) (fun v133 s133 h133 f133 hc133 => ?_)
  show qsm L xs e Y bc bs _ qm_89 14 [some (.ref 1)] [.int (nI v133)] h133 _ _ _
  try simp only [zq, zi, zc, zv, zf, zbd_zbd, zbd_some, zbd_fault, zbd_none, zite0, zite1, ↓reduceIte, Nat.one_ne_zero]
  rcases zci_v f133 with ⟨e133, q133, n133⟩ | ⟨e133, n133⟩
  · subst e133
    show qsm L xs e Y bc bs _ qm_89 14 [some (.ref 1)] [.int 0] h133 _ _ _
    try simp only [zq, zi, zc, zv, zf, zbd_zbd, zbd_some, zbd_fault, zbd_none, zite0, zite1, ↓reduceIte, Nat.one_ne_zero]
    refine qsm_if false rfl (rfl) rfl ?_
    refine qsm_pls (n := 2) (k' := 17) (lo' := [some (.ref 1)]) (S' := [.retAddr 26, .ref 1]) (h' := h133) rfl ?_
    first
      | refine qsm_call hc133 (qim_up (qi_copy (d := d) (k := 26) ht (by decide)) (by omega)) rfl rfl rfl rfl rfl rfl rfl rfl (ai_rcv1 rfl rfl (qcs_obj hc133)) (fun v134 s134 h134 f134 hc134 => ?_)
      | refine qsm_callL hc133 (qim_up (qi_copy (d := d) (k := 26) ht (by decide)) (by omega)) rfl rfl rfl rfl rfl rfl rfl rfl (ai_rcv1 rfl rfl (qcs_obj hc133)) (fun v134 s134 h134 f134 hc134 => ?_)
    show qsm L xs e Y bc bs _ qm_89 18 [some (.ref 1)] [] h134 _ _ _
    try simp only [zq, zi, zc, zv, zf, zbd_zbd, zbd_some, zbd_fault, zbd_none, zite0, zite1, ↓reduceIte, Nat.one_ne_zero]
    refine qsm_pls (n := 2) (k' := 20) (lo' := [some (.ref 1)]) (S' := [.retAddr 48, .ref 1]) (h' := h134) rfl ?_
    first
      | refine qsm_call hc134 (qim_up (qi_copy (d := d) (k := 48) ht (by decide)) (by omega)) rfl rfl rfl rfl rfl rfl rfl rfl (ai_rcv1 rfl rfl (qcs_obj hc134)) (fun v135 s135 h135 f135 hc135 => ?_)
      | refine qsm_callL hc134 (qim_up (qi_copy (d := d) (k := 48) ht (by decide)) (by omega)) rfl rfl rfl rfl rfl rfl rfl rfl (ai_rcv1 rfl rfl (qcs_obj hc134)) (fun v135 s135 h135 f135 hc135 => ?_)
    show qsm L xs e Y bc bs _ qm_89 21 [some (.ref 1)] [] h135 _ _ _
    try simp only [zq, zi, zc, zv, zf, zbd_zbd, zbd_some, zbd_fault, zbd_none, zite0, zite1, ↓reduceIte, Nat.one_ne_zero]
    refine qsm_pls (n := 1) (k' := 22) (lo' := [some (.ref 1)]) (S' := [.int 14]) (h' := h135) rfl ?_
    exact qsm_ret5 (v := 14) hc135 rfl rfl rfl (by decide)
  · subst e133
    show qsm L xs e Y bc bs _ qm_89 14 [some (.ref 1)] [.int 1] h133 _ _ _
    try simp only [zq, zi, zc, zv, zf, zbd_zbd, zbd_some, zbd_fault, zbd_none, zite0, zite1, ↓reduceIte, Nat.one_ne_zero]
    refine qsm_if true rfl (rfl) rfl ?_
    refine qsm_pls (n := 2) (k' := 20) (lo' := [some (.ref 1)]) (S' := [.retAddr 48, .ref 1]) (h' := h133) rfl ?_
    first
      | refine qsm_call hc133 (qim_up (qi_copy (d := d) (k := 48) ht (by decide)) (by omega)) rfl rfl rfl rfl rfl rfl rfl rfl (ai_rcv1 rfl rfl (qcs_obj hc133)) (fun v136 s136 h136 f136 hc136 => ?_)
      | refine qsm_callL hc133 (qim_up (qi_copy (d := d) (k := 48) ht (by decide)) (by omega)) rfl rfl rfl rfl rfl rfl rfl rfl (ai_rcv1 rfl rfl (qcs_obj hc133)) (fun v136 s136 h136 f136 hc136 => ?_)
    show qsm L xs e Y bc bs _ qm_89 21 [some (.ref 1)] [] h136 _ _ _
    try simp only [zq, zi, zc, zv, zf, zbd_zbd, zbd_some, zbd_fault, zbd_none, zite0, zite1, ↓reduceIte, Nat.one_ne_zero]
    refine qsm_pls (n := 1) (k' := 22) (lo' := [some (.ref 1)]) (S' := [.int 14]) (h' := h136) rfl ?_
    exact qsm_ret5 (v := 14) hc136 rfl rfl rfl (by decide)
/-- Grammar.items() -/
theorem qs_items (ht : qtk e Y) (hex : qim L xs e Y bc bs d 55 [.ref 1] 1 ex) : qim L xs e Y bc bs (d + 7) 63 [.ref 1] 0 (z_items e ex) := by
  have hlt := qtk_lt ht
  refine qim_of (M := qm_63) rfl rfl (fun P s h hc => ?_)
  show qsm L xs e Y bc bs _ qm_63 0 [some (.ref 1), none, none] [] h _ _ _
  have loop : ∀ (G : Nat → zS → zR Nat), (∀ (j : Nat) (s : zS) (h : ai_H), qcs e Y bc bs P s h → qsm L xs e Y bc bs (d + 6) qm_63 55 [some (.ref 1), some (.int 0), some (.int (nI j))] [] h 0 P (G 0 s)) → ∀ (n i : Nat) (s : zS) (h : ai_H), i ≤ s.1 → qcs e Y bc bs P s h → qsm L xs e Y bc bs (d + 6) qm_63 4 [some (.ref 1), some (.int 1), some (.int (nI i))] [] h 0 P (zbd (zlp (zl_items e ex) n s) G) := by
    intro G tail n
    induction n with
    | zero => intro i s h hi hc; exact qsm_none
    | succ n ih =>
      intro i s h hi hc
      have hb := qcs_bd hc
      rw [zlp_succ]
      generalize zlp (zl_items e ex) n = W at ih ⊢
      simp only [zl_items, z_item, z_alias, zq, zi, zc, zv, zf, zbd_zbd, zbd_some, zbd_fault, zbd_none, zite0, zite1, ↓reduceIte, Nat.one_ne_zero]
      refine qsm_pls (n := 2) (k' := 6) (lo' := [some (.ref 1), some (.int 1), some (.int (nI i))]) (S' := [.int 1000000, .int (nI i)]) (h' := h) rfl ?_
      refine qsm_icmp false rfl (qc_geF (b := 1000000) (by omega) (by decide)) rfl ?_
      refine qsm_pls (n := 1) (k' := 8) (lo' := [some (.ref 1), some (.int 1), some (.int (nI i))]) (S' := [.int 1]) (h' := h) rfl ?_
      refine qsm_if false rfl (rfl) rfl ?_
      refine qsm_pls (n := 1) (k' := 10) (lo' := [some (.ref 1), some (.int 1), some (.int (nI i))]) (S' := [.ref 1]) (h' := h) rfl ?_
      refine qsm_getf (v := .retAddr (ztk e s.1)) rfl (qcs_obj hc) rfl rfl rfl ?_
      refine qsm_pls (n := 1) (k' := 12) (lo' := [some (.ref 1), some (.int 1), some (.int (nI i))]) (S' := [.retAddr 99, .retAddr (ztk e s.1)]) (h' := h) rfl ?_
      by_cases t137 : ztk e s.1 = 99
      · first | rw [if_pos t137] | rw [zci_T t137] | skip
        try simp only [zq, zi, zc, zv, zf, zbd_zbd, zbd_some, zbd_fault, zbd_none, zite0, zite1, ↓reduceIte, Nat.one_ne_zero]
        refine qsm_acmp false rfl (qzk (hlt _) (by decide)) (qa_neF t137) rfl ?_
        refine qsm_pls (n := 1) (k' := 14) (lo' := [some (.ref 1), some (.int 1), some (.int (nI i))]) (S' := [.ref 1]) (h' := h) rfl ?_
        refine qsm_getf (v := .ref 6) rfl (qcs_obj hc) rfl rfl rfl ?_
        refine qsm_pls (n := 1) (k' := 16) (lo' := [some (.ref 1), some (.int 1), some (.int (nI i))]) (S' := [.ref 1, .ref 6]) (h' := h) rfl ?_
        refine qsm_getf (v := .int (nI s.1)) rfl (qcs_obj hc) rfl rfl rfl ?_
        refine qsm_pls (n := 2) (k' := 19) (lo' := [some (.ref 1), some (.int 1), some (.int (nI i))]) (S' := [.int ((nI s.1) + 1), .ref 6]) (h' := h) rfl ?_
        rw [show nI s.1 + 1 = nI (s.1 + 1) from nI_add _ 1]
        obtain ⟨fs138, b138⟩ := qtk_tok ht (qcs_prot hc)
        have hb138 := qcs_bd hc
        refine qsm_ask (qe_up (by omega) (q_sort (d := d) ht (qcs_prot hc) (i := s.1 + 1) (by omega))) rfl rfl rfl rfl rfl rfl rfl (ai_rcv1 rfl rfl b138) ?_
        show qsm L xs e Y bc bs _ qm_63 20 [some (.ref 1), some (.int 1), some (.int (nI i))] [.retAddr (ztk e (s.1 + 1))] h _ _ _
        refine qsm_pls (n := 1) (k' := 21) (lo' := [some (.ref 1), some (.int 1), some (.int (nI i))]) (S' := [.retAddr 85, .retAddr (ztk e (s.1 + 1))]) (h' := h) rfl ?_
        by_cases t139 : ztk e (s.1 + 1) = 85
        · first | rw [if_pos t139] | rw [zci_T t139] | skip
          try simp only [zq, zi, zc, zv, zf, zbd_zbd, zbd_some, zbd_fault, zbd_none, zite0, zite1, ↓reduceIte, Nat.one_ne_zero]
          refine qsm_acmp false rfl (qzk (hlt _) (by decide)) (qa_neF t139) rfl ?_
          refine qsm_pls (n := 1) (k' := 23) (lo' := [some (.ref 1), some (.int 1), some (.int (nI i))]) (S' := [.ref 1]) (h' := h) rfl ?_
          refine qsm_getf (v := .ref 6) rfl (qcs_obj hc) rfl rfl rfl ?_
          refine qsm_pls (n := 1) (k' := 25) (lo' := [some (.ref 1), some (.int 1), some (.int (nI i))]) (S' := [.ref 1, .ref 6]) (h' := h) rfl ?_
          refine qsm_getf (v := .int (nI s.1)) rfl (qcs_obj hc) rfl rfl rfl ?_
          refine qsm_pls (n := 2) (k' := 28) (lo' := [some (.ref 1), some (.int 1), some (.int (nI i))]) (S' := [.int ((nI s.1) + 2), .ref 6]) (h' := h) rfl ?_
          rw [show nI s.1 + 2 = nI (s.1 + 2) from nI_add _ 2]
          obtain ⟨fs140, b140⟩ := qtk_tok ht (qcs_prot hc)
          have hb140 := qcs_bd hc
          refine qsm_ask (qe_up (by omega) (q_sort (d := d) ht (qcs_prot hc) (i := s.1 + 2) (by omega))) rfl rfl rfl rfl rfl rfl rfl (ai_rcv1 rfl rfl b140) ?_
          show qsm L xs e Y bc bs _ qm_63 29 [some (.ref 1), some (.int 1), some (.int (nI i))] [.retAddr (ztk e (s.1 + 2))] h _ _ _
          refine qsm_pls (n := 1) (k' := 30) (lo' := [some (.ref 1), some (.int 1), some (.int (nI i))]) (S' := [.retAddr 89, .retAddr (ztk e (s.1 + 2))]) (h' := h) rfl ?_
          by_cases t141 : ztk e (s.1 + 2) = 89
          · first | rw [if_pos t141] | rw [zci_T t141] | skip
            try simp only [zq, zi, zc, zv, zf, zbd_zbd, zbd_some, zbd_fault, zbd_none, zite0, zite1, ↓reduceIte, Nat.one_ne_zero]
            refine qsm_acmp false rfl (qzk (hlt _) (by decide)) (qa_neF t141) rfl ?_
            refine qsm_pls (n := 1) (k' := 32) (lo' := [some (.ref 1), some (.int 1), some (.int (nI i))]) (S' := [.ref 1]) (h' := h) rfl ?_
            first
              | refine qsm_call hc (qim_up (qi_name (d := d) ht) (by omega)) rfl rfl rfl rfl rfl rfl rfl rfl (ai_rcv1 rfl rfl (qcs_obj hc)) (fun v142 s142 h142 f142 hc142 => ?_)
              | refine qsm_callL hc (qim_up (qi_name (d := d) ht) (by omega)) rfl rfl rfl rfl rfl rfl rfl rfl (ai_rcv1 rfl rfl (qcs_obj hc)) (fun v142 s142 h142 f142 hc142 => ?_)
            show qsm L xs e Y bc bs _ qm_63 33 [some (.ref 1), some (.int 1), some (.int (nI i))] [] h142 _ _ _
            try simp only [zq, zi, zc, zv, zf, zbd_zbd, zbd_some, zbd_fault, zbd_none, zite0, zite1, ↓reduceIte, Nat.one_ne_zero]
            refine qsm_pls (n := 2) (k' := 35) (lo' := [some (.ref 1), some (.int 1), some (.int (nI i))]) (S' := [.retAddr 85, .ref 1]) (h' := h142) rfl ?_
            first
              | refine qsm_call hc142 (qim_up (qi_copy (d := d) (k := 85) ht (by decide)) (by omega)) rfl rfl rfl rfl rfl rfl rfl rfl (ai_rcv1 rfl rfl (qcs_obj hc142)) (fun v143 s143 h143 f143 hc143 => ?_)
              | refine qsm_callL hc142 (qim_up (qi_copy (d := d) (k := 85) ht (by decide)) (by omega)) rfl rfl rfl rfl rfl rfl rfl rfl (ai_rcv1 rfl rfl (qcs_obj hc142)) (fun v143 s143 h143 f143 hc143 => ?_)
            show qsm L xs e Y bc bs _ qm_63 36 [some (.ref 1), some (.int 1), some (.int (nI i))] [] h143 _ _ _
            try simp only [zq, zi, zc, zv, zf, zbd_zbd, zbd_some, zbd_fault, zbd_none, zite0, zite1, ↓reduceIte, Nat.one_ne_zero]
            refine qsm_pls (n := 2) (k' := 38) (lo' := [some (.ref 1), some (.int 1), some (.int (nI i))]) (S' := [.retAddr 89, .ref 1]) (h' := h143) rfl ?_
            first
              | refine qsm_call hc143 (qim_up (qi_copy (d := d) (k := 89) ht (by decide)) (by omega)) rfl rfl rfl rfl rfl rfl rfl rfl (ai_rcv1 rfl rfl (qcs_obj hc143)) (fun v144 s144 h144 f144 hc144 => ?_)
              | refine qsm_callL hc143 (qim_up (qi_copy (d := d) (k := 89) ht (by decide)) (by omega)) rfl rfl rfl rfl rfl rfl rfl rfl (ai_rcv1 rfl rfl (qcs_obj hc143)) (fun v144 s144 h144 f144 hc144 => ?_)
            show qsm L xs e Y bc bs _ qm_63 39 [some (.ref 1), some (.int 1), some (.int (nI i))] [] h144 _ _ _
            try simp only [zq, zi, zc, zv, zf, zbd_zbd, zbd_some, zbd_fault, zbd_none, zite0, zite1, ↓reduceIte, Nat.one_ne_zero]
            refine qsm_pls (n := 3) (k' := 51) (lo' := [some (.ref 1), some (.int 1), some (.int (nI i))]) (S' := [.retAddr 84, .ref 1]) (h' := h144) rfl ?_
            first
              | refine qsm_call hc144 (qim_up (qi_copyIf (d := d) (k := 84) ht (by decide)) (by omega)) rfl rfl rfl rfl rfl rfl rfl rfl (ai_rcv1 rfl rfl (qcs_obj hc144)) (fun v145 s145 h145 f145 hc145 => ?_)
              | refine qsm_callL hc144 (qim_up (qi_copyIf (d := d) (k := 84) ht (by decide)) (by omega)) rfl rfl rfl rfl rfl rfl rfl rfl (ai_rcv1 rfl rfl (qcs_obj hc144)) (fun v145 s145 h145 f145 hc145 => ?_)
            show qsm L xs e Y bc bs _ qm_63 52 [some (.ref 1), some (.int 1), some (.int (nI i))] [.int (nI v145)] h145 _ _ _
            try simp only [zq, zi, zc, zv, zf, zbd_zbd, zbd_some, zbd_fault, zbd_none, zite0, zite1, ↓reduceIte, Nat.one_ne_zero]
            rcases zci_v f145 with ⟨e145, q145, n145⟩ | ⟨e145, n145⟩
            · subst e145
              show qsm L xs e Y bc bs _ qm_63 52 [some (.ref 1), some (.int 1), some (.int (nI i))] [.int 0] h145 _ _ _
              try simp only [zq, zi, zc, zv, zf, zbd_zbd, zbd_some, zbd_fault, zbd_none, zite0, zite1, ↓reduceIte, Nat.one_ne_zero]
              refine qsm_pls (n := 3) (k' := 4) (lo' := [some (.ref 1), some (.int 0), some (.int ((nI i) + 1))]) (S' := []) (h' := h145) rfl ?_
              rw [nI_1]
              refine qsm_pls (n := 2) (k' := 6) (lo' := [some (.ref 1), some (.int 0), some (.int (nI (i + 1)))]) (S' := [.int 1000000, .int (nI (i + 1))]) (h' := h145) rfl ?_
              refine qsm_icmp false rfl (qc_geF (b := 1000000) (by omega) (by decide)) rfl ?_
              refine qsm_pls (n := 1) (k' := 8) (lo' := [some (.ref 1), some (.int 0), some (.int (nI (i + 1)))]) (S' := [.int 0]) (h' := h145) rfl ?_
              refine qsm_if true rfl (rfl) rfl ?_
              exact tail (i + 1) _ _ hc145
            · subst e145
              show qsm L xs e Y bc bs _ qm_63 52 [some (.ref 1), some (.int 1), some (.int (nI i))] [.int 1] h145 _ _ _
              try simp only [zq, zi, zc, zv, zf, zbd_zbd, zbd_some, zbd_fault, zbd_none, zite0, zite1, ↓reduceIte, Nat.one_ne_zero]
              refine qsm_pls (n := 3) (k' := 4) (lo' := [some (.ref 1), some (.int 1), some (.int ((nI i) + 1))]) (S' := []) (h' := h145) rfl ?_
              rw [nI_1]
              by_cases g146 : s145.1 ≤ s.1
              · rw [if_pos g146]; exact qsm_none
              · rw [if_neg g146]; exact ih (i + 1) _ _ (by omega) hc145
          · first | rw [if_neg t141] | rw [zci_F t141] | skip
            try simp only [zq, zi, zc, zv, zf, zbd_zbd, zbd_some, zbd_fault, zbd_none, zite0, zite1, ↓reduceIte, Nat.one_ne_zero]
            refine qsm_acmp true rfl (qzk (hlt _) (by decide)) (qa_neT t141) rfl ?_
            refine qsm_pls (n := 1) (k' := 41) (lo' := [some (.ref 1), some (.int 1), some (.int (nI i))]) (S' := [.ref 1]) (h' := h) rfl ?_
            first
              | refine qsm_call hc (qim_up (hex) (by omega)) rfl rfl rfl rfl rfl rfl rfl rfl (ai_rcv1 rfl rfl (qcs_obj hc)) (fun v147 s147 h147 f147 hc147 => ?_)
              | refine qsm_callL hc (qim_up (hex) (by omega)) rfl rfl rfl rfl rfl rfl rfl rfl (ai_rcv1 rfl rfl (qcs_obj hc)) (fun v147 s147 h147 f147 hc147 => ?_)
            show qsm L xs e Y bc bs _ qm_63 42 [some (.ref 1), some (.int 1), some (.int (nI i))] [.int (nI v147)] h147 _ _ _
            try simp only [zq, zi, zc, zv, zf, zbd_zbd, zbd_some, zbd_fault, zbd_none, zite0, zite1, ↓reduceIte, Nat.one_ne_zero]
            refine qsm_pls (n := 3) (k' := 45) (lo' := [some (.ref 1), some (.int 1), some (.int (nI i))]) (S' := [.retAddr 3, .ref 1]) (h' := h147) rfl ?_
            first
              | refine qsm_call hc147 (qim_up (qi_copyIf (d := d) (k := 3) ht (by decide)) (by omega)) rfl rfl rfl rfl rfl rfl rfl rfl (ai_rcv1 rfl rfl (qcs_obj hc147)) (fun v148 s148 h148 f148 hc148 => ?_)
              | refine qsm_callL hc147 (qim_up (qi_copyIf (d := d) (k := 3) ht (by decide)) (by omega)) rfl rfl rfl rfl rfl rfl rfl rfl (ai_rcv1 rfl rfl (qcs_obj hc147)) (fun v148 s148 h148 f148 hc148 => ?_)
            show qsm L xs e Y bc bs _ qm_63 46 [some (.ref 1), some (.int 1), some (.int (nI i))] [.int (nI v148)] h148 _ _ _
            try simp only [zq, zi, zc, zv, zf, zbd_zbd, zbd_some, zbd_fault, zbd_none, zite0, zite1, ↓reduceIte, Nat.one_ne_zero]
            rcases zci_v f148 with ⟨e148, q148, n148⟩ | ⟨e148, n148⟩
            · subst e148
              show qsm L xs e Y bc bs _ qm_63 46 [some (.ref 1), some (.int 1), some (.int (nI i))] [.int 0] h148 _ _ _
              try simp only [zq, zi, zc, zv, zf, zbd_zbd, zbd_some, zbd_fault, zbd_none, zite0, zite1, ↓reduceIte, Nat.one_ne_zero]
              refine qsm_if true rfl (rfl) rfl ?_
              refine qsm_pls (n := 2) (k' := 51) (lo' := [some (.ref 1), some (.int 1), some (.int (nI i))]) (S' := [.retAddr 84, .ref 1]) (h' := h148) rfl ?_
              first
                | refine qsm_call hc148 (qim_up (qi_copyIf (d := d) (k := 84) ht (by decide)) (by omega)) rfl rfl rfl rfl rfl rfl rfl rfl (ai_rcv1 rfl rfl (qcs_obj hc148)) (fun v149 s149 h149 f149 hc149 => ?_)
                | refine qsm_callL hc148 (qim_up (qi_copyIf (d := d) (k := 84) ht (by decide)) (by omega)) rfl rfl rfl rfl rfl rfl rfl rfl (ai_rcv1 rfl rfl (qcs_obj hc148)) (fun v149 s149 h149 f149 hc149 => ?_)
              show qsm L xs e Y bc bs _ qm_63 52 [some (.ref 1), some (.int 1), some (.int (nI i))] [.int (nI v149)] h149 _ _ _
              try simp only [zq, zi, zc, zv, zf, zbd_zbd, zbd_some, zbd_fault, zbd_none, zite0, zite1, ↓reduceIte, Nat.one_ne_zero]
              rcases zci_v f149 with ⟨e149, q149, n149⟩ | ⟨e149, n149⟩
              · subst e149
                show qsm L xs e Y bc bs _ qm_63 52 [some (.ref 1), some (.int 1), some (.int (nI i))] [.int 0] h149 _ _ _
                try simp only [zq, zi, zc, zv, zf, zbd_zbd, zbd_some, zbd_fault, zbd_none, zite0, zite1, ↓reduceIte, Nat.one_ne_zero]
                refine qsm_pls (n := 3) (k' := 4) (lo' := [some (.ref 1), some (.int 0), some (.int ((nI i) + 1))]) (S' := []) (h' := h149) rfl ?_
                rw [nI_1]
                refine qsm_pls (n := 2) (k' := 6) (lo' := [some (.ref 1), some (.int 0), some (.int (nI (i + 1)))]) (S' := [.int 1000000, .int (nI (i + 1))]) (h' := h149) rfl ?_
                refine qsm_icmp false rfl (qc_geF (b := 1000000) (by omega) (by decide)) rfl ?_
                refine qsm_pls (n := 1) (k' := 8) (lo' := [some (.ref 1), some (.int 0), some (.int (nI (i + 1)))]) (S' := [.int 0]) (h' := h149) rfl ?_
                refine qsm_if true rfl (rfl) rfl ?_
                exact tail (i + 1) _ _ hc149
              · subst e149
                show qsm L xs e Y bc bs _ qm_63 52 [some (.ref 1), some (.int 1), some (.int (nI i))] [.int 1] h149 _ _ _
                try simp only [zq, zi, zc, zv, zf, zbd_zbd, zbd_some, zbd_fault, zbd_none, zite0, zite1, ↓reduceIte, Nat.one_ne_zero]
                refine qsm_pls (n := 3) (k' := 4) (lo' := [some (.ref 1), some (.int 1), some (.int ((nI i) + 1))]) (S' := []) (h' := h149) rfl ?_
                rw [nI_1]
                by_cases g150 : s149.1 ≤ s.1
                · rw [if_pos g150]; exact qsm_none
                · rw [if_neg g150]; exact ih (i + 1) _ _ (by omega) hc149
            · subst e148
              show qsm L xs e Y bc bs _ qm_63 46 [some (.ref 1), some (.int 1), some (.int (nI i))] [.int 1] h148 _ _ _
              try simp only [zq, zi, zc, zv, zf, zbd_zbd, zbd_some, zbd_fault, zbd_none, zite0, zite1, ↓reduceIte, Nat.one_ne_zero]
              refine qsm_if false rfl (rfl) rfl ?_
              refine qsm_pls (n := 1) (k' := 48) (lo' := [some (.ref 1), some (.int 1), some (.int (nI i))]) (S' := [.ref 1]) (h' := h148) rfl ?_
              first
                | refine qsm_call hc148 (qim_up (qi_name (d := d) ht) (by omega)) rfl rfl rfl rfl rfl rfl rfl rfl (ai_rcv1 rfl rfl (qcs_obj hc148)) (fun v151 s151 h151 f151 hc151 => ?_)
                | refine qsm_callL hc148 (qim_up (qi_name (d := d) ht) (by omega)) rfl rfl rfl rfl rfl rfl rfl rfl (ai_rcv1 rfl rfl (qcs_obj hc148)) (fun v151 s151 h151 f151 hc151 => ?_)
              show qsm L xs e Y bc bs _ qm_63 49 [some (.ref 1), some (.int 1), some (.int (nI i))] [] h151 _ _ _
              try simp only [zq, zi, zc, zv, zf, zbd_zbd, zbd_some, zbd_fault, zbd_none, zite0, zite1, ↓reduceIte, Nat.one_ne_zero]
              refine qsm_pls (n := 2) (k' := 51) (lo' := [some (.ref 1), some (.int 1), some (.int (nI i))]) (S' := [.retAddr 84, .ref 1]) (h' := h151) rfl ?_
              first
                | refine qsm_call hc151 (qim_up (qi_copyIf (d := d) (k := 84) ht (by decide)) (by omega)) rfl rfl rfl rfl rfl rfl rfl rfl (ai_rcv1 rfl rfl (qcs_obj hc151)) (fun v152 s152 h152 f152 hc152 => ?_)
                | refine qsm_callL hc151 (qim_up (qi_copyIf (d := d) (k := 84) ht (by decide)) (by omega)) rfl rfl rfl rfl rfl rfl rfl rfl (ai_rcv1 rfl rfl (qcs_obj hc151)) (fun v152 s152 h152 f152 hc152 => ?_)
              show qsm L xs e Y bc bs _ qm_63 52 [some (.ref 1), some (.int 1), some (.int (nI i))] [.int (nI v152)] h152 _ _ _
              try simp only [zq, zi, zc, zv, zf, zbd_zbd, zbd_some, zbd_fault, zbd_none, zite0, zite1, ↓reduceIte, Nat.one_ne_zero]
              rcases zci_v f152 with ⟨e152, q152, n152⟩ | ⟨e152, n152⟩
              · subst e152
                show qsm L xs e Y bc bs _ qm_63 52 [some (.ref 1), some (.int 1), some (.int (nI i))] [.int 0] h152 _ _ _
                try simp only [zq, zi, zc, zv, zf, zbd_zbd, zbd_some, zbd_fault, zbd_none, zite0, zite1, ↓reduceIte, Nat.one_ne_zero]
                refine qsm_pls (n := 3) (k' := 4) (lo' := [some (.ref 1), some (.int 0), some (.int ((nI i) + 1))]) (S' := []) (h' := h152) rfl ?_
                rw [nI_1]
                refine qsm_pls (n := 2) (k' := 6) (lo' := [some (.ref 1), some (.int 0), some (.int (nI (i + 1)))]) (S' := [.int 1000000, .int (nI (i + 1))]) (h' := h152) rfl ?_
                refine qsm_icmp false rfl (qc_geF (b := 1000000) (by omega) (by decide)) rfl ?_
                refine qsm_pls (n := 1) (k' := 8) (lo' := [some (.ref 1), some (.int 0), some (.int (nI (i + 1)))]) (S' := [.int 0]) (h' := h152) rfl ?_
                refine qsm_if true rfl (rfl) rfl ?_
                exact tail (i + 1) _ _ hc152
              · subst e152
                show qsm L xs e Y bc bs _ qm_63 52 [some (.ref 1), some (.int 1), some (.int (nI i))] [.int 1] h152 _ _ _
                try simp only [zq, zi, zc, zv, zf, zbd_zbd, zbd_some, zbd_fault, zbd_none, zite0, zite1, ↓reduceIte, Nat.one_ne_zero]
                refine qsm_pls (n := 3) (k' := 4) (lo' := [some (.ref 1), some (.int 1), some (.int ((nI i) + 1))]) (S' := []) (h' := h152) rfl ?_
                rw [nI_1]
                by_cases g153 : s152.1 ≤ s.1
                · rw [if_pos g153]; exact qsm_none
                · rw [if_neg g153]; exact ih (i + 1) _ _ (by omega) hc152
        · first | rw [if_neg t139] | rw [zci_F t139] | skip
          try simp only [zq, zi, zc, zv, zf, zbd_zbd, zbd_some, zbd_fault, zbd_none, zite0, zite1, ↓reduceIte, Nat.one_ne_zero]
          refine qsm_acmp true rfl (qzk (hlt _) (by decide)) (qa_neT t139) rfl ?_
          refine qsm_pls (n := 1) (k' := 41) (lo' := [some (.ref 1), some (.int 1), some (.int (nI i))]) (S' := [.ref 1]) (h' := h) rfl ?_
          first
            | refine qsm_call hc (qim_up (hex) (by omega)) rfl rfl rfl rfl rfl rfl rfl rfl (ai_rcv1 rfl rfl (qcs_obj hc)) (fun v154 s154 h154 f154 hc154 => ?_)
            | refine qsm_callL hc (qim_up (hex) (by omega)) rfl rfl rfl rfl rfl rfl rfl rfl (ai_rcv1 rfl rfl (qcs_obj hc)) (fun v154 s154 h154 f154 hc154 => ?_)
          show qsm L xs e Y bc bs _ qm_63 42 [some (.ref 1), some (.int 1), some (.int (nI i))] [.int (nI v154)] h154 _ _ _
          try simp only [zq, zi, zc, zv, zf, zbd_zbd, zbd_some, zbd_fault, zbd_none, zite0, zite1, ↓reduceIte, Nat.one_ne_zero]
          refine qsm_pls (n := 3) (k' := 45) (lo' := [some (.ref 1), some (.int 1), some (.int (nI i))]) (S' := [.retAddr 3, .ref 1]) (h' := h154) rfl ?_
          first
            | refine qsm_call hc154 (qim_up (qi_copyIf (d := d) (k := 3) ht (by decide)) (by omega)) rfl rfl rfl rfl rfl rfl rfl rfl (ai_rcv1 rfl rfl (qcs_obj hc154)) (fun v155 s155 h155 f155 hc155 => ?_)
            | refine qsm_callL hc154 (qim_up (qi_copyIf (d := d) (k := 3) ht (by decide)) (by omega)) rfl rfl rfl rfl rfl rfl rfl rfl (ai_rcv1 rfl rfl (qcs_obj hc154)) (fun v155 s155 h155 f155 hc155 => ?_)
          show qsm L xs e Y bc bs _ qm_63 46 [some (.ref 1), some (.int 1), some (.int (nI i))] [.int (nI v155)] h155 _ _ _
          try simp only [zq, zi, zc, zv, zf, zbd_zbd, zbd_some, zbd_fault, zbd_none, zite0, zite1, ↓reduceIte, Nat.one_ne_zero]
          rcases zci_v f155 with ⟨e155, q155, n155⟩ | ⟨e155, n155⟩
          · subst e155
            show qsm L xs e Y bc bs _ qm_63 46 [some (.ref 1), some (.int 1), some (.int (nI i))] [.int 0] h155 _ _ _
            try simp only [zq, zi, zc, zv, zf, zbd_zbd, zbd_some, zbd_fault, zbd_none, zite0, zite1, ↓reduceIte, Nat.one_ne_zero]
            refine qsm_if true rfl (rfl) rfl ?_
            refine qsm_pls (n := 2) (k' := 51) (lo' := [some (.ref 1), some (.int 1), some (.int (nI i))]) (S' := [.retAddr 84, .ref 1]) (h' := h155) rfl ?_
            first
              | refine qsm_call hc155 (qim_up (qi_copyIf (d := d) (k := 84) ht (by decide)) (by omega)) rfl rfl rfl rfl rfl rfl rfl rfl (ai_rcv1 rfl rfl (qcs_obj hc155)) (fun v156 s156 h156 f156 hc156 => ?_)
              | refine qsm_callL hc155 (qim_up (qi_copyIf (d := d) (k := 84) ht (by decide)) (by omega)) rfl rfl rfl rfl rfl rfl rfl rfl (ai_rcv1 rfl rfl (qcs_obj hc155)) (fun v156 s156 h156 f156 hc156 => ?_)
            show qsm L xs e Y bc bs _ qm_63 52 [some (.ref 1), some (.int 1), some (.int (nI i))] [.int (nI v156)] h156 _ _ _
            try simp only [zq, zi, zc, zv, zf, zbd_zbd, zbd_some, zbd_fault, zbd_none, zite0, zite1, ↓reduceIte, Nat.one_ne_zero]
            rcases zci_v f156 with ⟨e156, q156, n156⟩ | ⟨e156, n156⟩
            · subst e156
              show qsm L xs e Y bc bs _ qm_63 52 [some (.ref 1), some (.int 1), some (.int (nI i))] [.int 0] h156 _ _ _
              try simp only [zq, zi, zc, zv, zf, zbd_zbd, zbd_some, zbd_fault, zbd_none, zite0, zite1, ↓reduceIte, Nat.one_ne_zero]
              refine qsm_pls (n := 3) (k' := 4) (lo' := [some (.ref 1), some (.int 0), some (.int ((nI i) + 1))]) (S' := []) (h' := h156) rfl ?_
              rw [nI_1]
              refine qsm_pls (n := 2) (k' := 6) (lo' := [some (.ref 1), some (.int 0), some (.int (nI (i + 1)))]) (S' := [.int 1000000, .int (nI (i + 1))]) (h' := h156) rfl ?_
              refine qsm_icmp false rfl (qc_geF (b := 1000000) (by omega) (by decide)) rfl ?_
              refine qsm_pls (n := 1) (k' := 8) (lo' := [some (.ref 1), some (.int 0), some (.int (nI (i + 1)))]) (S' := [.int 0]) (h' := h156) rfl ?_
              refine qsm_if true rfl (rfl) rfl ?_
              exact tail (i + 1) _ _ hc156
            · subst e156
              show qsm L xs e Y bc bs _ qm_63 52 [some (.ref 1), some (.int 1), some (.int (nI i))] [.int 1] h156 _ _ _
              try simp only [zq, zi, zc, zv, zf, zbd_zbd, zbd_some, zbd_fault, zbd_none, zite0, zite1, ↓reduceIte, Nat.one_ne_zero]
              refine qsm_pls (n := 3) (k' := 4) (lo' := [some (.ref 1), some (.int 1), some (.int ((nI i) + 1))]) (S' := []) (h' := h156) rfl ?_
              rw [nI_1]
              by_cases g157 : s156.1 ≤ s.1
              · rw [if_pos g157]; exact qsm_none
              · rw [if_neg g157]; exact ih (i + 1) _ _ (by omega) hc156
          · subst e155
            show qsm L xs e Y bc bs _ qm_63 46 [some (.ref 1), some (.int 1), some (.int (nI i))] [.int 1] h155 _ _ _
            try simp only [zq, zi, zc, zv, zf, zbd_zbd, zbd_some, zbd_fault, zbd_none, zite0, zite1, ↓reduceIte, Nat.one_ne_zero]
            refine qsm_if false rfl (rfl) rfl ?_
            refine qsm_pls (n := 1) (k' := 48) (lo' := [some (.ref 1), some (.int 1), some (.int (nI i))]) (S' := [.ref 1]) (h' := h155) rfl ?_
            first
              | refine qsm_call hc155 (qim_up (qi_name (d := d) ht) (by omega)) rfl rfl rfl rfl rfl rfl rfl rfl (ai_rcv1 rfl rfl (qcs_obj hc155)) (fun v158 s158 h158 f158 hc158 => ?_)
              | refine qsm_callL hc155 (qim_up (qi_name (d := d) ht) (by omega)) rfl rfl rfl rfl rfl rfl rfl rfl (ai_rcv1 rfl rfl (qcs_obj hc155)) (fun v158 s158 h158 f158 hc158 => ?_)
            show qsm L xs e Y bc bs _ qm_63 49 [some (.ref 1), some (.int 1), some (.int (nI i))] [] h158 _ _ _
            try simp only [zq, zi, zc, zv, zf, zbd_zbd, zbd_some, zbd_fault, zbd_none, zite0, zite1, ↓reduceIte, Nat.one_ne_zero]
            refine qsm_pls (n := 2) (k' := 51) (lo' := [some (.ref 1), some (.int 1), some (.int (nI i))]) (S' := [.retAddr 84, .ref 1]) (h' := h158) rfl ?_
            first
              | refine qsm_call hc158 (qim_up (qi_copyIf (d := d) (k := 84) ht (by decide)) (by omega)) rfl rfl rfl rfl rfl rfl rfl rfl (ai_rcv1 rfl rfl (qcs_obj hc158)) (fun v159 s159 h159 f159 hc159 => ?_)
              | refine qsm_callL hc158 (qim_up (qi_copyIf (d := d) (k := 84) ht (by decide)) (by omega)) rfl rfl rfl rfl rfl rfl rfl rfl (ai_rcv1 rfl rfl (qcs_obj hc158)) (fun v159 s159 h159 f159 hc159 => ?_)
            show qsm L xs e Y bc bs _ qm_63 52 [some (.ref 1), some (.int 1), some (.int (nI i))] [.int (nI v159)] h159 _ _ _
            try simp only [zq, zi, zc, zv, zf, zbd_zbd, zbd_some, zbd_fault, zbd_none, zite0, zite1, ↓reduceIte, Nat.one_ne_zero]
            rcases zci_v f159 with ⟨e159, q159, n159⟩ | ⟨e159, n159⟩
            · subst e159
              show qsm L xs e Y bc bs _ qm_63 52 [some (.ref 1), some (.int 1), some (.int (nI i))] [.int 0] h159 _ _ _
              try simp only [zq, zi, zc, zv, zf, zbd_zbd, zbd_some, zbd_fault, zbd_none, zite0, zite1, ↓reduceIte, Nat.one_ne_zero]
              refine qsm_pls (n := 3) (k' := 4) (lo' := [some (.ref 1), some (.int 0), some (.int ((nI i) + 1))]) (S' := []) (h' := h159) rfl ?_
              rw [nI_1]
              refine qsm_pls (n := 2) (k' := 6) (lo' := [some (.ref 1), some (.int 0), some (.int (nI (i + 1)))]) (S' := [.int 1000000, .int (nI (i + 1))]) (h' := h159) rfl ?_
              refine qsm_icmp false rfl (qc_geF (b := 1000000) (by omega) (by decide)) rfl ?_
              refine qsm_pls (n := 1) (k' := 8) (lo' := [some (.ref 1), some (.int 0), some (.int (nI (i + 1)))]) (S' := [.int 0]) (h' := h159) rfl ?_
              refine qsm_if true rfl (rfl) rfl ?_
              exact tail (i + 1) _ _ hc159
            · subst e159
              show qsm L xs e Y bc bs _ qm_63 52 [some (.ref 1), some (.int 1), some (.int (nI i))] [.int 1] h159 _ _ _
              try simp only [zq, zi, zc, zv, zf, zbd_zbd, zbd_some, zbd_fault, zbd_none, zite0, zite1, ↓reduceIte, Nat.one_ne_zero]
              refine qsm_pls (n := 3) (k' := 4) (lo' := [some (.ref 1), some (.int 1), some (.int ((nI i) + 1))]) (S' := []) (h' := h159) rfl ?_
              rw [nI_1]
              by_cases g160 : s159.1 ≤ s.1
              · rw [if_pos g160]; exact qsm_none
              · rw [if_neg g160]; exact ih (i + 1) _ _ (by omega) hc159
      · first | rw [if_neg t137] | rw [zci_F t137] | skip
        try simp only [zq, zi, zc, zv, zf, zbd_zbd, zbd_some, zbd_fault, zbd_none, zite0, zite1, ↓reduceIte, Nat.one_ne_zero]
        refine qsm_acmp true rfl (qzk (hlt _) (by decide)) (qa_neT t137) rfl ?_
        refine qsm_pls (n := 1) (k' := 41) (lo' := [some (.ref 1), some (.int 1), some (.int (nI i))]) (S' := [.ref 1]) (h' := h) rfl ?_
        first
          | refine qsm_call hc (qim_up (hex) (by omega)) rfl rfl rfl rfl rfl rfl rfl rfl (ai_rcv1 rfl rfl (qcs_obj hc)) (fun v161 s161 h161 f161 hc161 => ?_)
          | refine qsm_callL hc (qim_up (hex) (by omega)) rfl rfl rfl rfl rfl rfl rfl rfl (ai_rcv1 rfl rfl (qcs_obj hc)) (fun v161 s161 h161 f161 hc161 => ?_)
        show qsm L xs e Y bc bs _ qm_63 42 [some (.ref 1), some (.int 1), some (.int (nI i))] [.int (nI v161)] h161 _ _ _
        try simp only [zq, zi, zc, zv, zf, zbd_zbd, zbd_some, zbd_fault, zbd_none, zite0, zite1, ↓reduceIte, Nat.one_ne_zero]
        refine qsm_pls (n := 3) (k' := 45) (lo' := [some (.ref 1), some (.int 1), some (.int (nI i))]) (S' := [.retAddr 3, .ref 1]) (h' := h161) rfl ?_
        first
          | refine qsm_call hc161 (qim_up (qi_copyIf (d := d) (k := 3) ht (by decide)) (by omega)) rfl rfl rfl rfl rfl rfl rfl rfl (ai_rcv1 rfl rfl (qcs_obj hc161)) (fun v162 s162 h162 f162 hc162 => ?_)
          | refine qsm_callL hc161 (qim_up (qi_copyIf (d := d) (k := 3) ht (by decide)) (by omega)) rfl rfl rfl rfl rfl rfl rfl rfl (ai_rcv1 rfl rfl (qcs_obj hc161)) (fun v162 s162 h162 f162 hc162 => ?_)
        show qsm L xs e Y bc bs _ qm_63 46 [some (.ref 1), some (.int 1), some (.int (nI i))] [.int (nI v162)] h162 _ _ _
        try simp only [zq, zi, zc, zv, zf, zbd_zbd, zbd_some, zbd_fault, zbd_none, zite0, zite1, ↓reduceIte, Nat.one_ne_zero]
        rcases zci_v f162 with ⟨e162, q162, n162⟩ | ⟨e162, n162⟩
        · subst e162
          show qsm L xs e Y bc bs _ qm_63 46 [some (.ref 1), some (.int 1), some (.int (nI i))] [.int 0] h162 _ _ _
          try simp only [zq, zi, zc, zv, zf, zbd_zbd, zbd_some, zbd_fault, zbd_none, zite0, zite1, ↓reduceIte, Nat.one_ne_zero]
          refine qsm_if true rfl (rfl) rfl ?_
          refine qsm_pls (n := 2) (k' := 51) (lo' := [some (.ref 1), some (.int 1), some (.int (nI i))]) (S' := [.retAddr 84, .ref 1]) (h' := h162) rfl ?_
          first
            | refine qsm_call hc162 (qim_up (qi_copyIf (d := d) (k := 84) ht (by decide)) (by omega)) rfl rfl rfl rfl rfl rfl rfl rfl (ai_rcv1 rfl rfl (qcs_obj hc162)) (fun v163 s163 h163 f163 hc163 => ?_)
            | refine qsm_callL hc162 (qim_up (qi_copyIf (d := d) (k := 84) ht (by decide)) (by omega)) rfl rfl rfl rfl rfl rfl rfl rfl (ai_rcv1 rfl rfl (qcs_obj hc162)) (fun v163 s163 h163 f163 hc163 => ?_)
          show qsm L xs e Y bc bs _ qm_63 52 [some (.ref 1), some (.int 1), some (.int (nI i))] [.int (nI v163)] h163 _ _ _
          try simp only [zq, zi, zc, zv, zf, zbd_zbd, zbd_some, zbd_fault, zbd_none, zite0, zite1, ↓reduceIte, Nat.one_ne_zero]
          rcases zci_v f163 with ⟨e163, q163, n163⟩ | ⟨e163, n163⟩
          · subst e163
            show qsm L xs e Y bc bs _ qm_63 52 [some (.ref 1), some (.int 1), some (.int (nI i))] [.int 0] h163 _ _ _
            try simp only [zq, zi, zc, zv, zf, zbd_zbd, zbd_some, zbd_fault, zbd_none, zite0, zite1, ↓reduceIte, Nat.one_ne_zero]
            refine qsm_pls (n := 3) (k' := 4) (lo' := [some (.ref 1), some (.int 0), some (.int ((nI i) + 1))]) (S' := []) (h' := h163) rfl ?_
            rw [nI_1]
            refine qsm_pls (n := 2) (k' := 6) (lo' := [some (.ref 1), some (.int 0), some (.int (nI (i + 1)))]) (S' := [.int 1000000, .int (nI (i + 1))]) (h' := h163) rfl ?_
            refine qsm_icmp false rfl (qc_geF (b := 1000000) (by omega) (by decide)) rfl ?_
            refine qsm_pls (n := 1) (k' := 8) (lo' := [some (.ref 1), some (.int 0), some (.int (nI (i + 1)))]) (S' := [.int 0]) (h' := h163) rfl ?_
            refine qsm_if true rfl (rfl) rfl ?_
            exact tail (i + 1) _ _ hc163
          · subst e163
            show qsm L xs e Y bc bs _ qm_63 52 [some (.ref 1), some (.int 1), some (.int (nI i))] [.int 1] h163 _ _ _
            try simp only [zq, zi, zc, zv, zf, zbd_zbd, zbd_some, zbd_fault, zbd_none, zite0, zite1, ↓reduceIte, Nat.one_ne_zero]
            refine qsm_pls (n := 3) (k' := 4) (lo' := [some (.ref 1), some (.int 1), some (.int ((nI i) + 1))]) (S' := []) (h' := h163) rfl ?_
            rw [nI_1]
            by_cases g164 : s163.1 ≤ s.1
            · rw [if_pos g164]; exact qsm_none
            · rw [if_neg g164]; exact ih (i + 1) _ _ (by omega) hc163
        · subst e162
          show qsm L xs e Y bc bs _ qm_63 46 [some (.ref 1), some (.int 1), some (.int (nI i))] [.int 1] h162 _ _ _
          try simp only [zq, zi, zc, zv, zf, zbd_zbd, zbd_some, zbd_fault, zbd_none, zite0, zite1, ↓reduceIte, Nat.one_ne_zero]
          refine qsm_if false rfl (rfl) rfl ?_
          refine qsm_pls (n := 1) (k' := 48) (lo' := [some (.ref 1), some (.int 1), some (.int (nI i))]) (S' := [.ref 1]) (h' := h162) rfl ?_
          first
            | refine qsm_call hc162 (qim_up (qi_name (d := d) ht) (by omega)) rfl rfl rfl rfl rfl rfl rfl rfl (ai_rcv1 rfl rfl (qcs_obj hc162)) (fun v165 s165 h165 f165 hc165 => ?_)
            | refine qsm_callL hc162 (qim_up (qi_name (d := d) ht) (by omega)) rfl rfl rfl rfl rfl rfl rfl rfl (ai_rcv1 rfl rfl (qcs_obj hc162)) (fun v165 s165 h165 f165 hc165 => ?_)
          show qsm L xs e Y bc bs _ qm_63 49 [some (.ref 1), some (.int 1), some (.int (nI i))] [] h165 _ _ _
          try simp only [zq, zi, zc, zv, zf, zbd_zbd, zbd_some, zbd_fault, zbd_none, zite0, zite1, ↓reduceIte, Nat.one_ne_zero]
          refine qsm_pls (n := 2) (k' := 51) (lo' := [some (.ref 1), some (.int 1), some (.int (nI i))]) (S' := [.retAddr 84, .ref 1]) (h' := h165) rfl ?_
          first
            | refine qsm_call hc165 (qim_up (qi_copyIf (d := d) (k := 84) ht (by decide)) (by omega)) rfl rfl rfl rfl rfl rfl rfl rfl (ai_rcv1 rfl rfl (qcs_obj hc165)) (fun v166 s166 h166 f166 hc166 => ?_)
            | refine qsm_callL hc165 (qim_up (qi_copyIf (d := d) (k := 84) ht (by decide)) (by omega)) rfl rfl rfl rfl rfl rfl rfl rfl (ai_rcv1 rfl rfl (qcs_obj hc165)) (fun v166 s166 h166 f166 hc166 => ?_)
          show qsm L xs e Y bc bs _ qm_63 52 [some (.ref 1), some (.int 1), some (.int (nI i))] [.int (nI v166)] h166 _ _ _
          try simp only [zq, zi, zc, zv, zf, zbd_zbd, zbd_some, zbd_fault, zbd_none, zite0, zite1, ↓reduceIte, Nat.one_ne_zero]
          rcases zci_v f166 with ⟨e166, q166, n166⟩ | ⟨e166, n166⟩
          · subst e166
            show qsm L xs e Y bc bs _ qm_63 52 [some (.ref 1), some (.int 1), some (.int (nI i))] [.int 0] h166 _ _ _
            try simp only [zq, zi, zc, zv, zf, zbd_zbd, zbd_some, zbd_fault, zbd_none, zite0, zite1, ↓reduceIte, Nat.one_ne_zero]
            refine qsm_pls (n := 3) (k' := 4) (lo' := [some (.ref 1), some (.int 0), some (.int ((nI i) + 1))]) (S' := []) (h' := h166) rfl ?_
            rw [nI_1]
            refine qsm_pls (n := 2) (k' := 6) (lo' := [some (.ref 1), some (.int 0), some (.int (nI (i + 1)))]) (S' := [.int 1000000, .int (nI (i + 1))]) (h' := h166) rfl ?_
            refine qsm_icmp false rfl (qc_geF (b := 1000000) (by omega) (by decide)) rfl ?_
            refine qsm_pls (n := 1) (k' := 8) (lo' := [some (.ref 1), some (.int 0), some (.int (nI (i + 1)))]) (S' := [.int 0]) (h' := h166) rfl ?_
            refine qsm_if true rfl (rfl) rfl ?_
            exact tail (i + 1) _ _ hc166
          · subst e166
            show qsm L xs e Y bc bs _ qm_63 52 [some (.ref 1), some (.int 1), some (.int (nI i))] [.int 1] h166 _ _ _
            try simp only [zq, zi, zc, zv, zf, zbd_zbd, zbd_some, zbd_fault, zbd_none, zite0, zite1, ↓reduceIte, Nat.one_ne_zero]
            refine qsm_pls (n := 3) (k' := 4) (lo' := [some (.ref 1), some (.int 1), some (.int ((nI i) + 1))]) (S' := []) (h' := h166) rfl ?_
            rw [nI_1]
            by_cases g167 : s166.1 ≤ s.1
            · rw [if_pos g167]; exact qsm_none
            · rw [if_neg g167]; exact ih (i + 1) _ _ (by omega) hc166
  simp only [z_items, zq, zi, zc, zv, zf, zbd_zbd, zbd_some, zbd_fault, zbd_none, zite0, zite1, ↓reduceIte, Nat.one_ne_zero]
  try simp only [zq, zi, zc, zv, zf, zbd_zbd, zbd_some, zbd_fault, zbd_none, zite0, zite1, ↓reduceIte, Nat.one_ne_zero]
  refine qsm_pls (n := 4) (k' := 4) (lo' := [some (.ref 1), some (.int 1), some (.int 0)]) (S' := []) (h' := h) rfl ?_
  first
    | refine loop _ (fun j168 s168 h168 hc168 => ?_) zN 0 _ _ (Nat.zero_le _) hc
    | (rw [← zbd_id (zlp (zl_items e ex) zN _)]; refine loop _ (fun j168 s168 h168 hc168 => ?_) zN 0 _ _ (Nat.zero_le _) hc)
  show qsm L xs e Y bc bs _ qm_63 55 [some (.ref 1), some (.int 0), some (.int (nI j168))] [] h168 _ _ _
  try simp only [zq, zi, zc, zv, zf, zbd_zbd, zbd_some, zbd_fault, zbd_none, zite0, zite1, ↓reduceIte, Nat.one_ne_zero]
  exact qsm_ret7 hc168 rfl
/-- Grammar.orders() -/
theorem qs_orders (ht : qtk e Y) (hex : qim L xs e Y bc bs d 55 [.ref 1] 1 ex) : qim L xs e Y bc bs (d + 7) 68 [.ref 1] 0 (z_orders e ex) := by
  have hlt := qtk_lt ht
  refine qim_of (M := qm_68) rfl rfl (fun P s h hc => ?_)
  show qsm L xs e Y bc bs _ qm_68 0 [some (.ref 1), none, none] [] h _ _ _
  have loop : ∀ (G : Nat → zS → zR Nat), (∀ (j : Nat) (s : zS) (h : ai_H), qcs e Y bc bs P s h → qsm L xs e Y bc bs (d + 6) qm_68 26 [some (.ref 1), some (.int 0), some (.int (nI j))] [] h 0 P (G 0 s)) → ∀ (n i : Nat) (s : zS) (h : ai_H), i ≤ s.1 → qcs e Y bc bs P s h → qsm L xs e Y bc bs (d + 6) qm_68 4 [some (.ref 1), some (.int 1), some (.int (nI i))] [] h 0 P (zbd (zlp (zl_orders e ex) n s) G) := by
    intro G tail n
    induction n with
    | zero => intro i s h hi hc; exact qsm_none
    | succ n ih =>
      intro i s h hi hc
      have hb := qcs_bd hc
      rw [zlp_succ]
      generalize zlp (zl_orders e ex) n = W at ih ⊢
      simp only [zl_orders, z_order, zq, zi, zc, zv, zf, zbd_zbd, zbd_some, zbd_fault, zbd_none, zite0, zite1, ↓reduceIte, Nat.one_ne_zero]
      refine qsm_pls (n := 2) (k' := 6) (lo' := [some (.ref 1), some (.int 1), some (.int (nI i))]) (S' := [.int 1000000, .int (nI i)]) (h' := h) rfl ?_
      refine qsm_icmp false rfl (qc_geF (b := 1000000) (by omega) (by decide)) rfl ?_
      refine qsm_pls (n := 1) (k' := 8) (lo' := [some (.ref 1), some (.int 1), some (.int (nI i))]) (S' := [.int 1]) (h' := h) rfl ?_
      refine qsm_if false rfl (rfl) rfl ?_
      refine qsm_pls (n := 1) (k' := 10) (lo' := [some (.ref 1), some (.int 1), some (.int (nI i))]) (S' := [.ref 1]) (h' := h) rfl ?_
      first
        | refine qsm_call hc (qim_up (hex) (by omega)) rfl rfl rfl rfl rfl rfl rfl rfl (ai_rcv1 rfl rfl (qcs_obj hc)) (fun v169 s169 h169 f169 hc169 => ?_)
        | refine qsm_callL hc (qim_up (hex) (by omega)) rfl rfl rfl rfl rfl rfl rfl rfl (ai_rcv1 rfl rfl (qcs_obj hc)) (fun v169 s169 h169 f169 hc169 => ?_)
      show qsm L xs e Y bc bs _ qm_68 11 [some (.ref 1), some (.int 1), some (.int (nI i))] [.int (nI v169)] h169 _ _ _
      try simp only [zq, zi, zc, zv, zf, zbd_zbd, zbd_some, zbd_fault, zbd_none, zite0, zite1, ↓reduceIte, Nat.one_ne_zero]
      refine qsm_pls (n := 3) (k' := 14) (lo' := [some (.ref 1), some (.int 1), some (.int (nI i))]) (S' := [.retAddr 4, .ref 1]) (h' := h169) rfl ?_
      first
        | refine qsm_call hc169 (qim_up (qi_skipIf (d := d) (k := 4) ht (by decide)) (by omega)) rfl rfl rfl rfl rfl rfl rfl rfl (ai_rcv1 rfl rfl (qcs_obj hc169)) (fun v170 s170 h170 f170 hc170 => ?_)
        | refine qsm_callL hc169 (qim_up (qi_skipIf (d := d) (k := 4) ht (by decide)) (by omega)) rfl rfl rfl rfl rfl rfl rfl rfl (ai_rcv1 rfl rfl (qcs_obj hc169)) (fun v170 s170 h170 f170 hc170 => ?_)
      show qsm L xs e Y bc bs _ qm_68 15 [some (.ref 1), some (.int 1), some (.int (nI i))] [.int (nI v170)] h170 _ _ _
      try simp only [zq, zi, zc, zv, zf, zbd_zbd, zbd_some, zbd_fault, zbd_none, zite0, zite1, ↓reduceIte, Nat.one_ne_zero]
      rcases zsi_v f170 with ⟨e170, q170, n170⟩ | ⟨e170, n170⟩
      · subst e170
        show qsm L xs e Y bc bs _ qm_68 15 [some (.ref 1), some (.int 1), some (.int (nI i))] [.int 0] h170 _ _ _
        try simp only [zq, zi, zc, zv, zf, zbd_zbd, zbd_some, zbd_fault, zbd_none, zite0, zite1, ↓reduceIte, Nat.one_ne_zero]
        refine qsm_if false rfl (rfl) rfl ?_
        refine qsm_pls (n := 2) (k' := 18) (lo' := [some (.ref 1), some (.int 1), some (.int (nI i))]) (S' := [.retAddr 21, .ref 1]) (h' := h170) rfl ?_
        first
          | refine qsm_call hc170 (qim_up (qi_copyIf (d := d) (k := 21) ht (by decide)) (by omega)) rfl rfl rfl rfl rfl rfl rfl rfl (ai_rcv1 rfl rfl (qcs_obj hc170)) (fun v171 s171 h171 f171 hc171 => ?_)
          | refine qsm_callL hc170 (qim_up (qi_copyIf (d := d) (k := 21) ht (by decide)) (by omega)) rfl rfl rfl rfl rfl rfl rfl rfl (ai_rcv1 rfl rfl (qcs_obj hc170)) (fun v171 s171 h171 f171 hc171 => ?_)
        show qsm L xs e Y bc bs _ qm_68 19 [some (.ref 1), some (.int 1), some (.int (nI i))] [.int (nI v171)] h171 _ _ _
        try simp only [zq, zi, zc, zv, zf, zbd_zbd, zbd_some, zbd_fault, zbd_none, zite0, zite1, ↓reduceIte, Nat.one_ne_zero]
        refine qsm_pls (n := 3) (k' := 22) (lo' := [some (.ref 1), some (.int 1), some (.int (nI i))]) (S' := [.retAddr 84, .ref 1]) (h' := h171) rfl ?_
        first
          | refine qsm_call hc171 (qim_up (qi_copyIf (d := d) (k := 84) ht (by decide)) (by omega)) rfl rfl rfl rfl rfl rfl rfl rfl (ai_rcv1 rfl rfl (qcs_obj hc171)) (fun v172 s172 h172 f172 hc172 => ?_)
          | refine qsm_callL hc171 (qim_up (qi_copyIf (d := d) (k := 84) ht (by decide)) (by omega)) rfl rfl rfl rfl rfl rfl rfl rfl (ai_rcv1 rfl rfl (qcs_obj hc171)) (fun v172 s172 h172 f172 hc172 => ?_)
        show qsm L xs e Y bc bs _ qm_68 23 [some (.ref 1), some (.int 1), some (.int (nI i))] [.int (nI v172)] h172 _ _ _
        try simp only [zq, zi, zc, zv, zf, zbd_zbd, zbd_some, zbd_fault, zbd_none, zite0, zite1, ↓reduceIte, Nat.one_ne_zero]
        rcases zci_v f172 with ⟨e172, q172, n172⟩ | ⟨e172, n172⟩
        · subst e172
          show qsm L xs e Y bc bs _ qm_68 23 [some (.ref 1), some (.int 1), some (.int (nI i))] [.int 0] h172 _ _ _
          try simp only [zq, zi, zc, zv, zf, zbd_zbd, zbd_some, zbd_fault, zbd_none, zite0, zite1, ↓reduceIte, Nat.one_ne_zero]
          refine qsm_pls (n := 3) (k' := 4) (lo' := [some (.ref 1), some (.int 0), some (.int ((nI i) + 1))]) (S' := []) (h' := h172) rfl ?_
          rw [nI_1]
          refine qsm_pls (n := 2) (k' := 6) (lo' := [some (.ref 1), some (.int 0), some (.int (nI (i + 1)))]) (S' := [.int 1000000, .int (nI (i + 1))]) (h' := h172) rfl ?_
          refine qsm_icmp false rfl (qc_geF (b := 1000000) (by omega) (by decide)) rfl ?_
          refine qsm_pls (n := 1) (k' := 8) (lo' := [some (.ref 1), some (.int 0), some (.int (nI (i + 1)))]) (S' := [.int 0]) (h' := h172) rfl ?_
          refine qsm_if true rfl (rfl) rfl ?_
          exact tail (i + 1) _ _ hc172
        · subst e172
          show qsm L xs e Y bc bs _ qm_68 23 [some (.ref 1), some (.int 1), some (.int (nI i))] [.int 1] h172 _ _ _
          try simp only [zq, zi, zc, zv, zf, zbd_zbd, zbd_some, zbd_fault, zbd_none, zite0, zite1, ↓reduceIte, Nat.one_ne_zero]
          refine qsm_pls (n := 3) (k' := 4) (lo' := [some (.ref 1), some (.int 1), some (.int ((nI i) + 1))]) (S' := []) (h' := h172) rfl ?_
          rw [nI_1]
          by_cases g173 : s172.1 ≤ s.1
          · rw [if_pos g173]; exact qsm_none
          · rw [if_neg g173]; exact ih (i + 1) _ _ (by omega) hc172
      · subst e170
        show qsm L xs e Y bc bs _ qm_68 15 [some (.ref 1), some (.int 1), some (.int (nI i))] [.int 1] h170 _ _ _
        try simp only [zq, zi, zc, zv, zf, zbd_zbd, zbd_some, zbd_fault, zbd_none, zite0, zite1, ↓reduceIte, Nat.one_ne_zero]
        refine qsm_if true rfl (rfl) rfl ?_
        refine qsm_pls (n := 2) (k' := 22) (lo' := [some (.ref 1), some (.int 1), some (.int (nI i))]) (S' := [.retAddr 84, .ref 1]) (h' := h170) rfl ?_
        first
          | refine qsm_call hc170 (qim_up (qi_copyIf (d := d) (k := 84) ht (by decide)) (by omega)) rfl rfl rfl rfl rfl rfl rfl rfl (ai_rcv1 rfl rfl (qcs_obj hc170)) (fun v174 s174 h174 f174 hc174 => ?_)
          | refine qsm_callL hc170 (qim_up (qi_copyIf (d := d) (k := 84) ht (by decide)) (by omega)) rfl rfl rfl rfl rfl rfl rfl rfl (ai_rcv1 rfl rfl (qcs_obj hc170)) (fun v174 s174 h174 f174 hc174 => ?_)
        show qsm L xs e Y bc bs _ qm_68 23 [some (.ref 1), some (.int 1), some (.int (nI i))] [.int (nI v174)] h174 _ _ _
        try simp only [zq, zi, zc, zv, zf, zbd_zbd, zbd_some, zbd_fault, zbd_none, zite0, zite1, ↓reduceIte, Nat.one_ne_zero]
        rcases zci_v f174 with ⟨e174, q174, n174⟩ | ⟨e174, n174⟩
        · subst e174
          show qsm L xs e Y bc bs _ qm_68 23 [some (.ref 1), some (.int 1), some (.int (nI i))] [.int 0] h174 _ _ _
          try simp only [zq, zi, zc, zv, zf, zbd_zbd, zbd_some, zbd_fault, zbd_none, zite0, zite1, ↓reduceIte, Nat.one_ne_zero]
          refine qsm_pls (n := 3) (k' := 4) (lo' := [some (.ref 1), some (.int 0), some (.int ((nI i) + 1))]) (S' := []) (h' := h174) rfl ?_
          rw [nI_1]
          refine qsm_pls (n := 2) (k' := 6) (lo' := [some (.ref 1), some (.int 0), some (.int (nI (i + 1)))]) (S' := [.int 1000000, .int (nI (i + 1))]) (h' := h174) rfl ?_
          refine qsm_icmp false rfl (qc_geF (b := 1000000) (by omega) (by decide)) rfl ?_
          refine qsm_pls (n := 1) (k' := 8) (lo' := [some (.ref 1), some (.int 0), some (.int (nI (i + 1)))]) (S' := [.int 0]) (h' := h174) rfl ?_
          refine qsm_if true rfl (rfl) rfl ?_
          exact tail (i + 1) _ _ hc174
        · subst e174
          show qsm L xs e Y bc bs _ qm_68 23 [some (.ref 1), some (.int 1), some (.int (nI i))] [.int 1] h174 _ _ _
          try simp only [zq, zi, zc, zv, zf, zbd_zbd, zbd_some, zbd_fault, zbd_none, zite0, zite1, ↓reduceIte, Nat.one_ne_zero]
          refine qsm_pls (n := 3) (k' := 4) (lo' := [some (.ref 1), some (.int 1), some (.int ((nI i) + 1))]) (S' := []) (h' := h174) rfl ?_
          rw [nI_1]
          by_cases g175 : s174.1 ≤ s.1
          · rw [if_pos g175]; exact qsm_none
          · rw [if_neg g175]; exact ih (i + 1) _ _ (by omega) hc174
  simp only [z_orders, zq, zi, zc, zv, zf, zbd_zbd, zbd_some, zbd_fault, zbd_none, zite0, zite1, ↓reduceIte, Nat.one_ne_zero]
  try simp only [zq, zi, zc, zv, zf, zbd_zbd, zbd_some, zbd_fault, zbd_none, zite0, zite1, ↓reduceIte, Nat.one_ne_zero]
  refine qsm_pls (n := 4) (k' := 4) (lo' := [some (.ref 1), some (.int 1), some (.int 0)]) (S' := []) (h' := h) rfl ?_
  first
    | refine loop _ (fun j176 s176 h176 hc176 => ?_) zN 0 _ _ (Nat.zero_le _) hc
    | (rw [← zbd_id (zlp (zl_orders e ex) zN _)]; refine loop _ (fun j176 s176 h176 hc176 => ?_) zN 0 _ _ (Nat.zero_le _) hc)
  show qsm L xs e Y bc bs _ qm_68 26 [some (.ref 1), some (.int 0), some (.int (nI j176))] [] h176 _ _ _
  try simp only [zq, zi, zc, zv, zf, zbd_zbd, zbd_some, zbd_fault, zbd_none, zite0, zite1, ↓reduceIte, Nat.one_ne_zero]
  exact qsm_ret7 hc176 rfl
/-- Grammar.sources() -/
theorem qs_sources (ht : qtk e Y) (hex : qim L xs e Y bc bs d 55 [.ref 1] 1 ex) : qim L xs e Y bc bs (d + 7) 64 [.ref 1] 0 (z_sources e ex) := by
  have hlt := qtk_lt ht
  refine qim_of (M := qm_64) rfl rfl (fun P s h hc => ?_)
  show qsm L xs e Y bc bs _ qm_64 0 [some (.ref 1), none, none, none] [] h _ _ _
  have loop : ∀ (n i jn : Nat) (s : zS) (h : ai_H), i ≤ s.1 → qcs e Y bc bs P s h → qsm L xs e Y bc bs (d + 6) qm_64 27 [some (.ref 1), some (.int 1), some (.int (nI jn)), some (.int (nI i))] [] h 0 P (zlp (z_join e ex) n s) := by
    intro n
    induction n with
    | zero => intro i jn s h hi hc; exact qsm_none
    | succ n ih =>
      intro i jn s h hi hc
      have hb := qcs_bd hc
      rw [zlp_succ]
      generalize zlp (z_join e ex) n = W at ih ⊢
      simp only [z_join, z_source, z_alias, z_on, zq, zi, zc, zv, zf, zbd_zbd, zbd_some, zbd_fault, zbd_none, zite0, zite1, ↓reduceIte, Nat.one_ne_zero]
      refine qsm_pls (n := 1) (k' := 28) (lo' := [some (.ref 1), some (.int 1), some (.int (nI jn)), some (.int (nI i))]) (S' := [.ref 1]) (h' := h) rfl ?_
      try simp only [zq, zi, zc, zv, zf, zbd_zbd, zbd_some, zbd_fault, zbd_none, zite0, zite1, ↓reduceIte, Nat.one_ne_zero]
      refine qsm_getf (v := .retAddr (ztk e s.1)) rfl (qcs_obj hc) rfl rfl rfl ?_
      refine qsm_pls (n := 1) (k' := 30) (lo' := [some (.ref 1), some (.int 1), some (.int (nI jn)), some (.int (nI i))]) (S' := [.retAddr 84, .retAddr (ztk e s.1)]) (h' := h) rfl ?_
      by_cases t177 : ztk e s.1 = 84
      · first | rw [if_pos t177] | rw [zci_T t177] | skip
        try simp only [zq, zi, zc, zv, zf, zbd_zbd, zbd_some, zbd_fault, zbd_none, zite0, zite1, ↓reduceIte, Nat.one_ne_zero]
        refine qsm_acmp true rfl (qzk (hlt _) (by decide)) (qa_eqT t177) rfl ?_
        refine qsm_pls (n := 4) (k' := 41) (lo' := [some (.ref 1), some (.int 1), some (.int 0), some (.int (nI i))]) (S' := [.retAddr 84, .ref 1]) (h' := h) rfl ?_
        first
          | refine qsm_call hc (qim_up (qi_skipIf (d := d) (k := 84) ht (by decide)) (by omega)) rfl rfl rfl rfl rfl rfl rfl rfl (ai_rcv1 rfl rfl (qcs_obj hc)) (fun v178 s178 h178 f178 hc178 => ?_)
          | refine qsm_callL hc (qim_up (qi_skipIf (d := d) (k := 84) ht (by decide)) (by omega)) rfl rfl rfl rfl rfl rfl rfl rfl (ai_rcv1 rfl rfl (qcs_obj hc)) (fun v178 s178 h178 f178 hc178 => ?_)
        show qsm L xs e Y bc bs _ qm_64 42 [some (.ref 1), some (.int 1), some (.int 0), some (.int (nI i))] [.int (nI v178)] h178 _ _ _
        try simp only [zq, zi, zc, zv, zf, zbd_zbd, zbd_some, zbd_fault, zbd_none, zite0, zite1, ↓reduceIte, Nat.one_ne_zero]
        rcases zsi_v f178 with ⟨e178, q178, n178⟩ | ⟨e178, n178⟩
        · subst e178
          exact absurd t177 n178
        · subst e178
          show qsm L xs e Y bc bs _ qm_64 42 [some (.ref 1), some (.int 1), some (.int 0), some (.int (nI i))] [.int 1] h178 _ _ _
          try simp only [zq, zi, zc, zv, zf, zbd_zbd, zbd_some, zbd_fault, zbd_none, zite0, zite1, ↓reduceIte, Nat.one_ne_zero]
          refine qsm_if false rfl (rfl) rfl ?_
          refine qsm_pls (n := 1) (k' := 44) (lo' := [some (.ref 1), some (.int 1), some (.int 0), some (.int (nI i))]) (S' := [.ref 1]) (h' := h178) rfl ?_
          refine qsm_getf (v := .ref 4) rfl (qcs_obj hc178) rfl rfl rfl ?_
          refine qsm_pls (n := 1) (k' := 46) (lo' := [some (.ref 1), some (.int 1), some (.int 0), some (.int (nI i))]) (S' := [.retAddr 1006, .ref 4]) (h' := h178) rfl ?_
          obtain ⟨fs179, b179⟩ := qcs_plain hc178
          first
            | refine qsm_call hc178 (qim_up (qi_put (d := d) (c := 1006) (by decide) (by decide)) (by omega)) rfl rfl rfl rfl rfl rfl rfl rfl (ai_rcv1 rfl rfl b179) (fun v179 s179 h179 f179 hc179 => ?_)
            | refine qsm_callL hc178 (qim_up (qi_put (d := d) (c := 1006) (by decide) (by decide)) (by omega)) rfl rfl rfl rfl rfl rfl rfl rfl (ai_rcv1 rfl rfl b179) (fun v179 s179 h179 f179 hc179 => ?_)
          show qsm L xs e Y bc bs _ qm_64 47 [some (.ref 1), some (.int 1), some (.int 0), some (.int (nI i))] [] h179 _ _ _
          try simp only [zq, zi, zc, zv, zf, zbd_zbd, zbd_some, zbd_fault, zbd_none, zite0, zite1, ↓reduceIte, Nat.one_ne_zero]
          refine qsm_pls (n := 3) (k' := 6) (lo' := [some (.ref 1), some (.int 1), some (.int 0), some (.int ((nI i) + 1))]) (S' := []) (h' := h179) rfl ?_
          rw [nI_1]
          refine qsm_pls (n := 2) (k' := 8) (lo' := [some (.ref 1), some (.int 1), some (.int 0), some (.int (nI (i + 1)))]) (S' := [.int 1000000, .int (nI (i + 1))]) (h' := h179) rfl ?_
          refine qsm_icmp false rfl (qc_geF (b := 1000000) (by omega) (by decide)) rfl ?_
          refine qsm_pls (n := 1) (k' := 10) (lo' := [some (.ref 1), some (.int 1), some (.int 0), some (.int (nI (i + 1)))]) (S' := [.int 1]) (h' := h179) rfl ?_
          refine qsm_if false rfl (rfl) rfl ?_
          refine qsm_pls (n := 1) (k' := 12) (lo' := [some (.ref 1), some (.int 1), some (.int 0), some (.int (nI (i + 1)))]) (S' := [.ref 1]) (h' := h179) rfl ?_
          first
            | refine qsm_call hc179 (qim_up (qi_name (d := d) ht) (by omega)) rfl rfl rfl rfl rfl rfl rfl rfl (ai_rcv1 rfl rfl (qcs_obj hc179)) (fun v180 s180 h180 f180 hc180 => ?_)
            | refine qsm_callL hc179 (qim_up (qi_name (d := d) ht) (by omega)) rfl rfl rfl rfl rfl rfl rfl rfl (ai_rcv1 rfl rfl (qcs_obj hc179)) (fun v180 s180 h180 f180 hc180 => ?_)
          show qsm L xs e Y bc bs _ qm_64 13 [some (.ref 1), some (.int 1), some (.int 0), some (.int (nI (i + 1)))] [] h180 _ _ _
          try simp only [zq, zi, zc, zv, zf, zbd_zbd, zbd_some, zbd_fault, zbd_none, zite0, zite1, ↓reduceIte, Nat.one_ne_zero]
          refine qsm_pls (n := 2) (k' := 15) (lo' := [some (.ref 1), some (.int 1), some (.int 0), some (.int (nI (i + 1)))]) (S' := [.retAddr 3, .ref 1]) (h' := h180) rfl ?_
          first
            | refine qsm_call hc180 (qim_up (qi_copyIf (d := d) (k := 3) ht (by decide)) (by omega)) rfl rfl rfl rfl rfl rfl rfl rfl (ai_rcv1 rfl rfl (qcs_obj hc180)) (fun v181 s181 h181 f181 hc181 => ?_)
            | refine qsm_callL hc180 (qim_up (qi_copyIf (d := d) (k := 3) ht (by decide)) (by omega)) rfl rfl rfl rfl rfl rfl rfl rfl (ai_rcv1 rfl rfl (qcs_obj hc180)) (fun v181 s181 h181 f181 hc181 => ?_)
          show qsm L xs e Y bc bs _ qm_64 16 [some (.ref 1), some (.int 1), some (.int 0), some (.int (nI (i + 1)))] [.int (nI v181)] h181 _ _ _
          try simp only [zq, zi, zc, zv, zf, zbd_zbd, zbd_some, zbd_fault, zbd_none, zite0, zite1, ↓reduceIte, Nat.one_ne_zero]
          rcases zci_v f181 with ⟨e181, q181, n181⟩ | ⟨e181, n181⟩
          · subst e181
            show qsm L xs e Y bc bs _ qm_64 16 [some (.ref 1), some (.int 1), some (.int 0), some (.int (nI (i + 1)))] [.int 0] h181 _ _ _
            try simp only [zq, zi, zc, zv, zf, zbd_zbd, zbd_some, zbd_fault, zbd_none, zite0, zite1, ↓reduceIte, Nat.one_ne_zero]
            refine qsm_if true rfl (rfl) rfl ?_
            refine qsm_pls (n := 1) (k' := 20) (lo' := [some (.ref 1), some (.int 1), some (.int 0), some (.int (nI (i + 1)))]) (S' := [.int 0]) (h' := h181) rfl ?_
            refine qsm_if true rfl (rfl) rfl ?_
            by_cases gg : s181.1 ≤ s.1
            · rw [if_pos gg]; exact qsm_none
            · rw [if_neg gg]; exact ih (i + 1) _ _ _ (by omega) hc181
          · subst e181
            show qsm L xs e Y bc bs _ qm_64 16 [some (.ref 1), some (.int 1), some (.int 0), some (.int (nI (i + 1)))] [.int 1] h181 _ _ _
            try simp only [zq, zi, zc, zv, zf, zbd_zbd, zbd_some, zbd_fault, zbd_none, zite0, zite1, ↓reduceIte, Nat.one_ne_zero]
            refine qsm_if false rfl (rfl) rfl ?_
            refine qsm_pls (n := 1) (k' := 18) (lo' := [some (.ref 1), some (.int 1), some (.int 0), some (.int (nI (i + 1)))]) (S' := [.ref 1]) (h' := h181) rfl ?_
            first
              | refine qsm_call hc181 (qim_up (qi_name (d := d) ht) (by omega)) rfl rfl rfl rfl rfl rfl rfl rfl (ai_rcv1 rfl rfl (qcs_obj hc181)) (fun v182 s182 h182 f182 hc182 => ?_)
              | refine qsm_callL hc181 (qim_up (qi_name (d := d) ht) (by omega)) rfl rfl rfl rfl rfl rfl rfl rfl (ai_rcv1 rfl rfl (qcs_obj hc181)) (fun v182 s182 h182 f182 hc182 => ?_)
            show qsm L xs e Y bc bs _ qm_64 19 [some (.ref 1), some (.int 1), some (.int 0), some (.int (nI (i + 1)))] [] h182 _ _ _
            try simp only [zq, zi, zc, zv, zf, zbd_zbd, zbd_some, zbd_fault, zbd_none, zite0, zite1, ↓reduceIte, Nat.one_ne_zero]
            refine qsm_pls (n := 1) (k' := 20) (lo' := [some (.ref 1), some (.int 1), some (.int 0), some (.int (nI (i + 1)))]) (S' := [.int 0]) (h' := h182) rfl ?_
            refine qsm_if true rfl (rfl) rfl ?_
            by_cases gg : s182.1 ≤ s.1
            · rw [if_pos gg]; exact qsm_none
            · rw [if_neg gg]; exact ih (i + 1) _ _ _ (by omega) hc182
      · first | rw [if_neg t177] | rw [zci_F t177] | skip
        try simp only [zq, zi, zc, zv, zf, zbd_zbd, zbd_some, zbd_fault, zbd_none, zite0, zite1, ↓reduceIte, Nat.one_ne_zero]
        refine qsm_acmp false rfl (qzk (hlt _) (by decide)) (qa_eqF t177) rfl ?_
        refine qsm_pls (n := 1) (k' := 32) (lo' := [some (.ref 1), some (.int 1), some (.int (nI jn)), some (.int (nI i))]) (S' := [.ref 1]) (h' := h) rfl ?_
        refine qsm_getf (v := .retAddr (ztk e s.1)) rfl (qcs_obj hc) rfl rfl rfl ?_
        refine qsm_pls (n := 1) (k' := 34) (lo' := [some (.ref 1), some (.int 1), some (.int (nI jn)), some (.int (nI i))]) (S' := [.retAddr 18, .retAddr (ztk e s.1)]) (h' := h) rfl ?_
        by_cases t183 : ztk e s.1 = 18
        · first | rw [if_pos t183] | rw [zci_T t183] | skip
          try simp only [zq, zi, zc, zv, zf, zbd_zbd, zbd_some, zbd_fault, zbd_none, zite0, zite1, ↓reduceIte, Nat.one_ne_zero]
          refine qsm_acmp true rfl (qzk (hlt _) (by decide)) (qa_eqT t183) rfl ?_
          refine qsm_pls (n := 4) (k' := 41) (lo' := [some (.ref 1), some (.int 1), some (.int 0), some (.int (nI i))]) (S' := [.retAddr 84, .ref 1]) (h' := h) rfl ?_
          first
            | refine qsm_call hc (qim_up (qi_skipIf (d := d) (k := 84) ht (by decide)) (by omega)) rfl rfl rfl rfl rfl rfl rfl rfl (ai_rcv1 rfl rfl (qcs_obj hc)) (fun v184 s184 h184 f184 hc184 => ?_)
            | refine qsm_callL hc (qim_up (qi_skipIf (d := d) (k := 84) ht (by decide)) (by omega)) rfl rfl rfl rfl rfl rfl rfl rfl (ai_rcv1 rfl rfl (qcs_obj hc)) (fun v184 s184 h184 f184 hc184 => ?_)
          show qsm L xs e Y bc bs _ qm_64 42 [some (.ref 1), some (.int 1), some (.int 0), some (.int (nI i))] [.int (nI v184)] h184 _ _ _
          try simp only [zq, zi, zc, zv, zf, zbd_zbd, zbd_some, zbd_fault, zbd_none, zite0, zite1, ↓reduceIte, Nat.one_ne_zero]
          rcases zsi_v f184 with ⟨e184, q184, n184⟩ | ⟨e184, n184⟩
          · subst e184
            have t185 : ztk e s184.1 ≠ 84 := by rw [q184]; exact t177
            have t186 : ztk e s184.1 = 18 := by rw [q184]; exact t183
            show qsm L xs e Y bc bs _ qm_64 42 [some (.ref 1), some (.int 1), some (.int 0), some (.int (nI i))] [.int 0] h184 _ _ _
            try simp only [zq, zi, zc, zv, zf, zbd_zbd, zbd_some, zbd_fault, zbd_none, zite0, zite1, ↓reduceIte, Nat.one_ne_zero]
            refine qsm_if true rfl (rfl) rfl ?_
            refine qsm_pls (n := 2) (k' := 50) (lo' := [some (.ref 1), some (.int 1), some (.int 0), some (.int (nI i))]) (S' := [.retAddr 40, .ref 1]) (h' := h184) rfl ?_
            first
              | refine qsm_call hc184 (qim_up (qi_copyIf (d := d) (k := 40) ht (by decide)) (by omega)) rfl rfl rfl rfl rfl rfl rfl rfl (ai_rcv1 rfl rfl (qcs_obj hc184)) (fun v187 s187 h187 f187 hc187 => ?_)
              | refine qsm_callL hc184 (qim_up (qi_copyIf (d := d) (k := 40) ht (by decide)) (by omega)) rfl rfl rfl rfl rfl rfl rfl rfl (ai_rcv1 rfl rfl (qcs_obj hc184)) (fun v187 s187 h187 f187 hc187 => ?_)
            show qsm L xs e Y bc bs _ qm_64 51 [some (.ref 1), some (.int 1), some (.int 0), some (.int (nI i))] [.int (nI v187)] h187 _ _ _
            try simp only [zq, zi, zc, zv, zf, zbd_zbd, zbd_some, zbd_fault, zbd_none, zite0, zite1, ↓reduceIte, Nat.one_ne_zero]
            rcases zci_v f187 with ⟨e187, q187, n187⟩ | ⟨e187, n187⟩
            · subst e187
              have t188 : ztk e s187.1 ≠ 84 := by rw [q187]; exact t185
              have t189 : ztk e s187.1 = 18 := by rw [q187]; exact t186
              show qsm L xs e Y bc bs _ qm_64 51 [some (.ref 1), some (.int 1), some (.int 0), some (.int (nI i))] [.int 0] h187 _ _ _
              try simp only [zq, zi, zc, zv, zf, zbd_zbd, zbd_some, zbd_fault, zbd_none, zite0, zite1, ↓reduceIte, Nat.one_ne_zero]
              refine qsm_if true rfl (rfl) rfl ?_
              refine qsm_pls (n := 2) (k' := 62) (lo' := [some (.ref 1), some (.int 1), some (.int 0), some (.int (nI i))]) (S' := [.retAddr 18, .ref 1]) (h' := h187) rfl ?_
              first
                | refine qsm_call hc187 (qim_up (qi_copyIf (d := d) (k := 18) ht (by decide)) (by omega)) rfl rfl rfl rfl rfl rfl rfl rfl (ai_rcv1 rfl rfl (qcs_obj hc187)) (fun v190 s190 h190 f190 hc190 => ?_)
                | refine qsm_callL hc187 (qim_up (qi_copyIf (d := d) (k := 18) ht (by decide)) (by omega)) rfl rfl rfl rfl rfl rfl rfl rfl (ai_rcv1 rfl rfl (qcs_obj hc187)) (fun v190 s190 h190 f190 hc190 => ?_)
              show qsm L xs e Y bc bs _ qm_64 63 [some (.ref 1), some (.int 1), some (.int 0), some (.int (nI i))] [.int (nI v190)] h190 _ _ _
              try simp only [zq, zi, zc, zv, zf, zbd_zbd, zbd_some, zbd_fault, zbd_none, zite0, zite1, ↓reduceIte, Nat.one_ne_zero]
              rcases zci_v f190 with ⟨e190, q190, n190⟩ | ⟨e190, n190⟩
              · subst e190
                have t191 : ztk e s190.1 ≠ 84 := by rw [q190]; exact t188
                exact absurd t189 n190
              · subst e190
                show qsm L xs e Y bc bs _ qm_64 63 [some (.ref 1), some (.int 1), some (.int 0), some (.int (nI i))] [.int 1] h190 _ _ _
                try simp only [zq, zi, zc, zv, zf, zbd_zbd, zbd_some, zbd_fault, zbd_none, zite0, zite1, ↓reduceIte, Nat.one_ne_zero]
                refine qsm_if true rfl (rfl) rfl ?_
                refine qsm_pls (n := 2) (k' := 74) (lo' := [some (.ref 1), some (.int 1), some (.int 0), some (.int (nI i))]) (S' := [.retAddr 38, .ref 1]) (h' := h190) rfl ?_
                first
                  | refine qsm_call hc190 (qim_up (qi_copy (d := d) (k := 38) ht (by decide)) (by omega)) rfl rfl rfl rfl rfl rfl rfl rfl (ai_rcv1 rfl rfl (qcs_obj hc190)) (fun v192 s192 h192 f192 hc192 => ?_)
                  | refine qsm_callL hc190 (qim_up (qi_copy (d := d) (k := 38) ht (by decide)) (by omega)) rfl rfl rfl rfl rfl rfl rfl rfl (ai_rcv1 rfl rfl (qcs_obj hc190)) (fun v192 s192 h192 f192 hc192 => ?_)
                show qsm L xs e Y bc bs _ qm_64 75 [some (.ref 1), some (.int 1), some (.int 0), some (.int (nI i))] [] h192 _ _ _
                try simp only [zq, zi, zc, zv, zf, zbd_zbd, zbd_some, zbd_fault, zbd_none, zite0, zite1, ↓reduceIte, Nat.one_ne_zero]
                refine qsm_pls (n := 3) (k' := 6) (lo' := [some (.ref 1), some (.int 1), some (.int 0), some (.int ((nI i) + 1))]) (S' := []) (h' := h192) rfl ?_
                rw [nI_1]
                refine qsm_pls (n := 2) (k' := 8) (lo' := [some (.ref 1), some (.int 1), some (.int 0), some (.int (nI (i + 1)))]) (S' := [.int 1000000, .int (nI (i + 1))]) (h' := h192) rfl ?_
                refine qsm_icmp false rfl (qc_geF (b := 1000000) (by omega) (by decide)) rfl ?_
                refine qsm_pls (n := 1) (k' := 10) (lo' := [some (.ref 1), some (.int 1), some (.int 0), some (.int (nI (i + 1)))]) (S' := [.int 1]) (h' := h192) rfl ?_
                refine qsm_if false rfl (rfl) rfl ?_
                refine qsm_pls (n := 1) (k' := 12) (lo' := [some (.ref 1), some (.int 1), some (.int 0), some (.int (nI (i + 1)))]) (S' := [.ref 1]) (h' := h192) rfl ?_
                first
                  | refine qsm_call hc192 (qim_up (qi_name (d := d) ht) (by omega)) rfl rfl rfl rfl rfl rfl rfl rfl (ai_rcv1 rfl rfl (qcs_obj hc192)) (fun v193 s193 h193 f193 hc193 => ?_)
                  | refine qsm_callL hc192 (qim_up (qi_name (d := d) ht) (by omega)) rfl rfl rfl rfl rfl rfl rfl rfl (ai_rcv1 rfl rfl (qcs_obj hc192)) (fun v193 s193 h193 f193 hc193 => ?_)
                show qsm L xs e Y bc bs _ qm_64 13 [some (.ref 1), some (.int 1), some (.int 0), some (.int (nI (i + 1)))] [] h193 _ _ _
                try simp only [zq, zi, zc, zv, zf, zbd_zbd, zbd_some, zbd_fault, zbd_none, zite0, zite1, ↓reduceIte, Nat.one_ne_zero]
                refine qsm_pls (n := 2) (k' := 15) (lo' := [some (.ref 1), some (.int 1), some (.int 0), some (.int (nI (i + 1)))]) (S' := [.retAddr 3, .ref 1]) (h' := h193) rfl ?_
                first
                  | refine qsm_call hc193 (qim_up (qi_copyIf (d := d) (k := 3) ht (by decide)) (by omega)) rfl rfl rfl rfl rfl rfl rfl rfl (ai_rcv1 rfl rfl (qcs_obj hc193)) (fun v194 s194 h194 f194 hc194 => ?_)
                  | refine qsm_callL hc193 (qim_up (qi_copyIf (d := d) (k := 3) ht (by decide)) (by omega)) rfl rfl rfl rfl rfl rfl rfl rfl (ai_rcv1 rfl rfl (qcs_obj hc193)) (fun v194 s194 h194 f194 hc194 => ?_)
                show qsm L xs e Y bc bs _ qm_64 16 [some (.ref 1), some (.int 1), some (.int 0), some (.int (nI (i + 1)))] [.int (nI v194)] h194 _ _ _
                try simp only [zq, zi, zc, zv, zf, zbd_zbd, zbd_some, zbd_fault, zbd_none, zite0, zite1, ↓reduceIte, Nat.one_ne_zero]
                rcases zci_v f194 with ⟨e194, q194, n194⟩ | ⟨e194, n194⟩
                · subst e194
                  show qsm L xs e Y bc bs _ qm_64 16 [some (.ref 1), some (.int 1), some (.int 0), some (.int (nI (i + 1)))] [.int 0] h194 _ _ _
                  try simp only [zq, zi, zc, zv, zf, zbd_zbd, zbd_some, zbd_fault, zbd_none, zite0, zite1, ↓reduceIte, Nat.one_ne_zero]
                  refine qsm_if true rfl (rfl) rfl ?_
                  refine qsm_pls (n := 1) (k' := 20) (lo' := [some (.ref 1), some (.int 1), some (.int 0), some (.int (nI (i + 1)))]) (S' := [.int 0]) (h' := h194) rfl ?_
                  refine qsm_if true rfl (rfl) rfl ?_
                  by_cases gg : s194.1 ≤ s.1
                  · rw [if_pos gg]; exact qsm_none
                  · rw [if_neg gg]; exact ih (i + 1) _ _ _ (by omega) hc194
                · subst e194
                  show qsm L xs e Y bc bs _ qm_64 16 [some (.ref 1), some (.int 1), some (.int 0), some (.int (nI (i + 1)))] [.int 1] h194 _ _ _
                  try simp only [zq, zi, zc, zv, zf, zbd_zbd, zbd_some, zbd_fault, zbd_none, zite0, zite1, ↓reduceIte, Nat.one_ne_zero]
                  refine qsm_if false rfl (rfl) rfl ?_
                  refine qsm_pls (n := 1) (k' := 18) (lo' := [some (.ref 1), some (.int 1), some (.int 0), some (.int (nI (i + 1)))]) (S' := [.ref 1]) (h' := h194) rfl ?_
                  first
                    | refine qsm_call hc194 (qim_up (qi_name (d := d) ht) (by omega)) rfl rfl rfl rfl rfl rfl rfl rfl (ai_rcv1 rfl rfl (qcs_obj hc194)) (fun v195 s195 h195 f195 hc195 => ?_)
                    | refine qsm_callL hc194 (qim_up (qi_name (d := d) ht) (by omega)) rfl rfl rfl rfl rfl rfl rfl rfl (ai_rcv1 rfl rfl (qcs_obj hc194)) (fun v195 s195 h195 f195 hc195 => ?_)
                  show qsm L xs e Y bc bs _ qm_64 19 [some (.ref 1), some (.int 1), some (.int 0), some (.int (nI (i + 1)))] [] h195 _ _ _
                  try simp only [zq, zi, zc, zv, zf, zbd_zbd, zbd_some, zbd_fault, zbd_none, zite0, zite1, ↓reduceIte, Nat.one_ne_zero]
                  refine qsm_pls (n := 1) (k' := 20) (lo' := [some (.ref 1), some (.int 1), some (.int 0), some (.int (nI (i + 1)))]) (S' := [.int 0]) (h' := h195) rfl ?_
                  refine qsm_if true rfl (rfl) rfl ?_
                  by_cases gg : s195.1 ≤ s.1
                  · rw [if_pos gg]; exact qsm_none
                  · rw [if_neg gg]; exact ih (i + 1) _ _ _ (by omega) hc195
            · subst e187
              exact absurd (t186.symm.trans n187) (by decide)
          · subst e184
            exact absurd n184 t177
        · first | rw [if_neg t183] | rw [zci_F t183] | skip
          try simp only [zq, zi, zc, zv, zf, zbd_zbd, zbd_some, zbd_fault, zbd_none, zite0, zite1, ↓reduceIte, Nat.one_ne_zero]
          refine qsm_acmp false rfl (qzk (hlt _) (by decide)) (qa_eqF t183) rfl ?_
          refine qsm_pls (n := 5) (k' := 41) (lo' := [some (.ref 1), some (.int 1), some (.int 1), some (.int (nI i))]) (S' := [.retAddr 84, .ref 1]) (h' := h) rfl ?_
          first
            | refine qsm_call hc (qim_up (qi_skipIf (d := d) (k := 84) ht (by decide)) (by omega)) rfl rfl rfl rfl rfl rfl rfl rfl (ai_rcv1 rfl rfl (qcs_obj hc)) (fun v196 s196 h196 f196 hc196 => ?_)
            | refine qsm_callL hc (qim_up (qi_skipIf (d := d) (k := 84) ht (by decide)) (by omega)) rfl rfl rfl rfl rfl rfl rfl rfl (ai_rcv1 rfl rfl (qcs_obj hc)) (fun v196 s196 h196 f196 hc196 => ?_)
          show qsm L xs e Y bc bs _ qm_64 42 [some (.ref 1), some (.int 1), some (.int 1), some (.int (nI i))] [.int (nI v196)] h196 _ _ _
          try simp only [zq, zi, zc, zv, zf, zbd_zbd, zbd_some, zbd_fault, zbd_none, zite0, zite1, ↓reduceIte, Nat.one_ne_zero]
          rcases zsi_v f196 with ⟨e196, q196, n196⟩ | ⟨e196, n196⟩
          · subst e196
            have t197 : ztk e s196.1 ≠ 84 := by rw [q196]; exact t177
            have t198 : ztk e s196.1 ≠ 18 := by rw [q196]; exact t183
            show qsm L xs e Y bc bs _ qm_64 42 [some (.ref 1), some (.int 1), some (.int 1), some (.int (nI i))] [.int 0] h196 _ _ _
            try simp only [zq, zi, zc, zv, zf, zbd_zbd, zbd_some, zbd_fault, zbd_none, zite0, zite1, ↓reduceIte, Nat.one_ne_zero]
            refine qsm_if true rfl (rfl) rfl ?_
            refine qsm_pls (n := 2) (k' := 50) (lo' := [some (.ref 1), some (.int 1), some (.int 1), some (.int (nI i))]) (S' := [.retAddr 40, .ref 1]) (h' := h196) rfl ?_
            first
              | refine qsm_call hc196 (qim_up (qi_copyIf (d := d) (k := 40) ht (by decide)) (by omega)) rfl rfl rfl rfl rfl rfl rfl rfl (ai_rcv1 rfl rfl (qcs_obj hc196)) (fun v199 s199 h199 f199 hc199 => ?_)
              | refine qsm_callL hc196 (qim_up (qi_copyIf (d := d) (k := 40) ht (by decide)) (by omega)) rfl rfl rfl rfl rfl rfl rfl rfl (ai_rcv1 rfl rfl (qcs_obj hc196)) (fun v199 s199 h199 f199 hc199 => ?_)
            show qsm L xs e Y bc bs _ qm_64 51 [some (.ref 1), some (.int 1), some (.int 1), some (.int (nI i))] [.int (nI v199)] h199 _ _ _
            try simp only [zq, zi, zc, zv, zf, zbd_zbd, zbd_some, zbd_fault, zbd_none, zite0, zite1, ↓reduceIte, Nat.one_ne_zero]
            rcases zci_v f199 with ⟨e199, q199, n199⟩ | ⟨e199, n199⟩
            · subst e199
              have t200 : ztk e s199.1 ≠ 84 := by rw [q199]; exact t197
              have t201 : ztk e s199.1 ≠ 18 := by rw [q199]; exact t198
              show qsm L xs e Y bc bs _ qm_64 51 [some (.ref 1), some (.int 1), some (.int 1), some (.int (nI i))] [.int 0] h199 _ _ _
              try simp only [zq, zi, zc, zv, zf, zbd_zbd, zbd_some, zbd_fault, zbd_none, zite0, zite1, ↓reduceIte, Nat.one_ne_zero]
              refine qsm_if true rfl (rfl) rfl ?_
              refine qsm_pls (n := 2) (k' := 62) (lo' := [some (.ref 1), some (.int 1), some (.int 1), some (.int (nI i))]) (S' := [.retAddr 18, .ref 1]) (h' := h199) rfl ?_
              first
                | refine qsm_call hc199 (qim_up (qi_copyIf (d := d) (k := 18) ht (by decide)) (by omega)) rfl rfl rfl rfl rfl rfl rfl rfl (ai_rcv1 rfl rfl (qcs_obj hc199)) (fun v202 s202 h202 f202 hc202 => ?_)
                | refine qsm_callL hc199 (qim_up (qi_copyIf (d := d) (k := 18) ht (by decide)) (by omega)) rfl rfl rfl rfl rfl rfl rfl rfl (ai_rcv1 rfl rfl (qcs_obj hc199)) (fun v202 s202 h202 f202 hc202 => ?_)
              show qsm L xs e Y bc bs _ qm_64 63 [some (.ref 1), some (.int 1), some (.int 1), some (.int (nI i))] [.int (nI v202)] h202 _ _ _
              try simp only [zq, zi, zc, zv, zf, zbd_zbd, zbd_some, zbd_fault, zbd_none, zite0, zite1, ↓reduceIte, Nat.one_ne_zero]
              rcases zci_v f202 with ⟨e202, q202, n202⟩ | ⟨e202, n202⟩
              · subst e202
                have t203 : ztk e s202.1 ≠ 84 := by rw [q202]; exact t200
                have t204 : ztk e s202.1 ≠ 18 := by rw [q202]; exact t201
                show qsm L xs e Y bc bs _ qm_64 63 [some (.ref 1), some (.int 1), some (.int 1), some (.int (nI i))] [.int 0] h202 _ _ _
                try simp only [zq, zi, zc, zv, zf, zbd_zbd, zbd_some, zbd_fault, zbd_none, zite0, zite1, ↓reduceIte, Nat.one_ne_zero]
                refine qsm_if false rfl (rfl) rfl ?_
                refine qsm_pls (n := 2) (k' := 66) (lo' := [some (.ref 1), some (.int 1), some (.int 1), some (.int (nI i))]) (S' := [.retAddr 33, .ref 1]) (h' := h202) rfl ?_
                first
                  | refine qsm_call hc202 (qim_up (qi_skipIf (d := d) (k := 33) ht (by decide)) (by omega)) rfl rfl rfl rfl rfl rfl rfl rfl (ai_rcv1 rfl rfl (qcs_obj hc202)) (fun v205 s205 h205 f205 hc205 => ?_)
                  | refine qsm_callL hc202 (qim_up (qi_skipIf (d := d) (k := 33) ht (by decide)) (by omega)) rfl rfl rfl rfl rfl rfl rfl rfl (ai_rcv1 rfl rfl (qcs_obj hc202)) (fun v205 s205 h205 f205 hc205 => ?_)
                show qsm L xs e Y bc bs _ qm_64 67 [some (.ref 1), some (.int 1), some (.int 1), some (.int (nI i))] [.int (nI v205)] h205 _ _ _
                try simp only [zq, zi, zc, zv, zf, zbd_zbd, zbd_some, zbd_fault, zbd_none, zite0, zite1, ↓reduceIte, Nat.one_ne_zero]
                rcases zsi_v f205 with ⟨e205, q205, n205⟩ | ⟨e205, n205⟩
                · subst e205
                  have t206 : ztk e s205.1 ≠ 84 := by rw [q205]; exact t203
                  have t207 : ztk e s205.1 ≠ 18 := by rw [q205]; exact t204
                  show qsm L xs e Y bc bs _ qm_64 67 [some (.ref 1), some (.int 1), some (.int 1), some (.int (nI i))] [.int 0] h205 _ _ _
                  try simp only [zq, zi, zc, zv, zf, zbd_zbd, zbd_some, zbd_fault, zbd_none, zite0, zite1, ↓reduceIte, Nat.one_ne_zero]
                  refine qsm_if false rfl (rfl) rfl ?_
                  refine qsm_pls (n := 1) (k' := 69) (lo' := [some (.ref 1), some (.int 1), some (.int 1), some (.int (nI i))]) (S' := [.ref 1]) (h' := h205) rfl ?_
                  refine qsm_getf (v := .retAddr (ztk e s205.1)) rfl (qcs_obj hc205) rfl rfl rfl ?_
                  refine qsm_pls (n := 1) (k' := 71) (lo' := [some (.ref 1), some (.int 1), some (.int 1), some (.int (nI i))]) (S' := [.retAddr 38, .retAddr (ztk e s205.1)]) (h' := h205) rfl ?_
                  by_cases t208 : ztk e s205.1 = 38
                  · first | rw [if_pos t208] | rw [zci_T t208] | skip
                    try simp only [zq, zi, zc, zv, zf, zbd_zbd, zbd_some, zbd_fault, zbd_none, zite0, zite1, ↓reduceIte, Nat.one_ne_zero]
                    refine qsm_acmp false rfl (qzk (hlt _) (by decide)) (qa_neF t208) rfl ?_
                    refine qsm_pls (n := 2) (k' := 74) (lo' := [some (.ref 1), some (.int 1), some (.int 1), some (.int (nI i))]) (S' := [.retAddr 38, .ref 1]) (h' := h205) rfl ?_
                    first
                      | refine qsm_call hc205 (qim_up (qi_copy (d := d) (k := 38) ht (by decide)) (by omega)) rfl rfl rfl rfl rfl rfl rfl rfl (ai_rcv1 rfl rfl (qcs_obj hc205)) (fun v209 s209 h209 f209 hc209 => ?_)
                      | refine qsm_callL hc205 (qim_up (qi_copy (d := d) (k := 38) ht (by decide)) (by omega)) rfl rfl rfl rfl rfl rfl rfl rfl (ai_rcv1 rfl rfl (qcs_obj hc205)) (fun v209 s209 h209 f209 hc209 => ?_)
                    show qsm L xs e Y bc bs _ qm_64 75 [some (.ref 1), some (.int 1), some (.int 1), some (.int (nI i))] [] h209 _ _ _
                    try simp only [zq, zi, zc, zv, zf, zbd_zbd, zbd_some, zbd_fault, zbd_none, zite0, zite1, ↓reduceIte, Nat.one_ne_zero]
                    refine qsm_pls (n := 3) (k' := 6) (lo' := [some (.ref 1), some (.int 1), some (.int 1), some (.int ((nI i) + 1))]) (S' := []) (h' := h209) rfl ?_
                    rw [nI_1]
                    refine qsm_pls (n := 2) (k' := 8) (lo' := [some (.ref 1), some (.int 1), some (.int 1), some (.int (nI (i + 1)))]) (S' := [.int 1000000, .int (nI (i + 1))]) (h' := h209) rfl ?_
                    refine qsm_icmp false rfl (qc_geF (b := 1000000) (by omega) (by decide)) rfl ?_
                    refine qsm_pls (n := 1) (k' := 10) (lo' := [some (.ref 1), some (.int 1), some (.int 1), some (.int (nI (i + 1)))]) (S' := [.int 1]) (h' := h209) rfl ?_
                    refine qsm_if false rfl (rfl) rfl ?_
                    refine qsm_pls (n := 1) (k' := 12) (lo' := [some (.ref 1), some (.int 1), some (.int 1), some (.int (nI (i + 1)))]) (S' := [.ref 1]) (h' := h209) rfl ?_
                    first
                      | refine qsm_call hc209 (qim_up (qi_name (d := d) ht) (by omega)) rfl rfl rfl rfl rfl rfl rfl rfl (ai_rcv1 rfl rfl (qcs_obj hc209)) (fun v210 s210 h210 f210 hc210 => ?_)
                      | refine qsm_callL hc209 (qim_up (qi_name (d := d) ht) (by omega)) rfl rfl rfl rfl rfl rfl rfl rfl (ai_rcv1 rfl rfl (qcs_obj hc209)) (fun v210 s210 h210 f210 hc210 => ?_)
                    show qsm L xs e Y bc bs _ qm_64 13 [some (.ref 1), some (.int 1), some (.int 1), some (.int (nI (i + 1)))] [] h210 _ _ _
                    try simp only [zq, zi, zc, zv, zf, zbd_zbd, zbd_some, zbd_fault, zbd_none, zite0, zite1, ↓reduceIte, Nat.one_ne_zero]
                    refine qsm_pls (n := 2) (k' := 15) (lo' := [some (.ref 1), some (.int 1), some (.int 1), some (.int (nI (i + 1)))]) (S' := [.retAddr 3, .ref 1]) (h' := h210) rfl ?_
                    first
                      | refine qsm_call hc210 (qim_up (qi_copyIf (d := d) (k := 3) ht (by decide)) (by omega)) rfl rfl rfl rfl rfl rfl rfl rfl (ai_rcv1 rfl rfl (qcs_obj hc210)) (fun v211 s211 h211 f211 hc211 => ?_)
                      | refine qsm_callL hc210 (qim_up (qi_copyIf (d := d) (k := 3) ht (by decide)) (by omega)) rfl rfl rfl rfl rfl rfl rfl rfl (ai_rcv1 rfl rfl (qcs_obj hc210)) (fun v211 s211 h211 f211 hc211 => ?_)
                    show qsm L xs e Y bc bs _ qm_64 16 [some (.ref 1), some (.int 1), some (.int 1), some (.int (nI (i + 1)))] [.int (nI v211)] h211 _ _ _
                    try simp only [zq, zi, zc, zv, zf, zbd_zbd, zbd_some, zbd_fault, zbd_none, zite0, zite1, ↓reduceIte, Nat.one_ne_zero]
                    rcases zci_v f211 with ⟨e211, q211, n211⟩ | ⟨e211, n211⟩
                    · subst e211
                      show qsm L xs e Y bc bs _ qm_64 16 [some (.ref 1), some (.int 1), some (.int 1), some (.int (nI (i + 1)))] [.int 0] h211 _ _ _
                      try simp only [zq, zi, zc, zv, zf, zbd_zbd, zbd_some, zbd_fault, zbd_none, zite0, zite1, ↓reduceIte, Nat.one_ne_zero]
                      refine qsm_if true rfl (rfl) rfl ?_
                      refine qsm_pls (n := 1) (k' := 20) (lo' := [some (.ref 1), some (.int 1), some (.int 1), some (.int (nI (i + 1)))]) (S' := [.int 1]) (h' := h211) rfl ?_
                      refine qsm_if false rfl (rfl) rfl ?_
                      refine qsm_pls (n := 2) (k' := 23) (lo' := [some (.ref 1), some (.int 1), some (.int 1), some (.int (nI (i + 1)))]) (S' := [.retAddr 53, .ref 1]) (h' := h211) rfl ?_
                      first
                        | refine qsm_call hc211 (qim_up (qi_copy (d := d) (k := 53) ht (by decide)) (by omega)) rfl rfl rfl rfl rfl rfl rfl rfl (ai_rcv1 rfl rfl (qcs_obj hc211)) (fun v212 s212 h212 f212 hc212 => ?_)
                        | refine qsm_callL hc211 (qim_up (qi_copy (d := d) (k := 53) ht (by decide)) (by omega)) rfl rfl rfl rfl rfl rfl rfl rfl (ai_rcv1 rfl rfl (qcs_obj hc211)) (fun v212 s212 h212 f212 hc212 => ?_)
                      show qsm L xs e Y bc bs _ qm_64 24 [some (.ref 1), some (.int 1), some (.int 1), some (.int (nI (i + 1)))] [] h212 _ _ _
                      try simp only [zq, zi, zc, zv, zf, zbd_zbd, zbd_some, zbd_fault, zbd_none, zite0, zite1, ↓reduceIte, Nat.one_ne_zero]
                      refine qsm_pls (n := 1) (k' := 25) (lo' := [some (.ref 1), some (.int 1), some (.int 1), some (.int (nI (i + 1)))]) (S' := [.ref 1]) (h' := h212) rfl ?_
                      first
                        | refine qsm_call hc212 (qim_up (hex) (by omega)) rfl rfl rfl rfl rfl rfl rfl rfl (ai_rcv1 rfl rfl (qcs_obj hc212)) (fun v213 s213 h213 f213 hc213 => ?_)
                        | refine qsm_callL hc212 (qim_up (hex) (by omega)) rfl rfl rfl rfl rfl rfl rfl rfl (ai_rcv1 rfl rfl (qcs_obj hc212)) (fun v213 s213 h213 f213 hc213 => ?_)
                      show qsm L xs e Y bc bs _ qm_64 26 [some (.ref 1), some (.int 1), some (.int 1), some (.int (nI (i + 1)))] [.int (nI v213)] h213 _ _ _
                      try simp only [zq, zi, zc, zv, zf, zbd_zbd, zbd_some, zbd_fault, zbd_none, zite0, zite1, ↓reduceIte, Nat.one_ne_zero]
                      refine qsm_pls (n := 1) (k' := 27) (lo' := [some (.ref 1), some (.int 1), some (.int 1), some (.int (nI (i + 1)))]) (S' := []) (h' := h213) rfl ?_
                      by_cases gg : s213.1 ≤ s.1
                      · rw [if_pos gg]; exact qsm_none
                      · rw [if_neg gg]; exact ih (i + 1) _ _ _ (by omega) hc213
                    · subst e211
                      show qsm L xs e Y bc bs _ qm_64 16 [some (.ref 1), some (.int 1), some (.int 1), some (.int (nI (i + 1)))] [.int 1] h211 _ _ _
                      try simp only [zq, zi, zc, zv, zf, zbd_zbd, zbd_some, zbd_fault, zbd_none, zite0, zite1, ↓reduceIte, Nat.one_ne_zero]
                      refine qsm_if false rfl (rfl) rfl ?_
                      refine qsm_pls (n := 1) (k' := 18) (lo' := [some (.ref 1), some (.int 1), some (.int 1), some (.int (nI (i + 1)))]) (S' := [.ref 1]) (h' := h211) rfl ?_
                      first
                        | refine qsm_call hc211 (qim_up (qi_name (d := d) ht) (by omega)) rfl rfl rfl rfl rfl rfl rfl rfl (ai_rcv1 rfl rfl (qcs_obj hc211)) (fun v214 s214 h214 f214 hc214 => ?_)
                        | refine qsm_callL hc211 (qim_up (qi_name (d := d) ht) (by omega)) rfl rfl rfl rfl rfl rfl rfl rfl (ai_rcv1 rfl rfl (qcs_obj hc211)) (fun v214 s214 h214 f214 hc214 => ?_)
                      show qsm L xs e Y bc bs _ qm_64 19 [some (.ref 1), some (.int 1), some (.int 1), some (.int (nI (i + 1)))] [] h214 _ _ _
                      try simp only [zq, zi, zc, zv, zf, zbd_zbd, zbd_some, zbd_fault, zbd_none, zite0, zite1, ↓reduceIte, Nat.one_ne_zero]
                      refine qsm_pls (n := 1) (k' := 20) (lo' := [some (.ref 1), some (.int 1), some (.int 1), some (.int (nI (i + 1)))]) (S' := [.int 1]) (h' := h214) rfl ?_
                      refine qsm_if false rfl (rfl) rfl ?_
                      refine qsm_pls (n := 2) (k' := 23) (lo' := [some (.ref 1), some (.int 1), some (.int 1), some (.int (nI (i + 1)))]) (S' := [.retAddr 53, .ref 1]) (h' := h214) rfl ?_
                      first
                        | refine qsm_call hc214 (qim_up (qi_copy (d := d) (k := 53) ht (by decide)) (by omega)) rfl rfl rfl rfl rfl rfl rfl rfl (ai_rcv1 rfl rfl (qcs_obj hc214)) (fun v215 s215 h215 f215 hc215 => ?_)
                        | refine qsm_callL hc214 (qim_up (qi_copy (d := d) (k := 53) ht (by decide)) (by omega)) rfl rfl rfl rfl rfl rfl rfl rfl (ai_rcv1 rfl rfl (qcs_obj hc214)) (fun v215 s215 h215 f215 hc215 => ?_)
                      show qsm L xs e Y bc bs _ qm_64 24 [some (.ref 1), some (.int 1), some (.int 1), some (.int (nI (i + 1)))] [] h215 _ _ _
                      try simp only [zq, zi, zc, zv, zf, zbd_zbd, zbd_some, zbd_fault, zbd_none, zite0, zite1, ↓reduceIte, Nat.one_ne_zero]
                      refine qsm_pls (n := 1) (k' := 25) (lo' := [some (.ref 1), some (.int 1), some (.int 1), some (.int (nI (i + 1)))]) (S' := [.ref 1]) (h' := h215) rfl ?_
                      first
                        | refine qsm_call hc215 (qim_up (hex) (by omega)) rfl rfl rfl rfl rfl rfl rfl rfl (ai_rcv1 rfl rfl (qcs_obj hc215)) (fun v216 s216 h216 f216 hc216 => ?_)
                        | refine qsm_callL hc215 (qim_up (hex) (by omega)) rfl rfl rfl rfl rfl rfl rfl rfl (ai_rcv1 rfl rfl (qcs_obj hc215)) (fun v216 s216 h216 f216 hc216 => ?_)
                      show qsm L xs e Y bc bs _ qm_64 26 [some (.ref 1), some (.int 1), some (.int 1), some (.int (nI (i + 1)))] [.int (nI v216)] h216 _ _ _
                      try simp only [zq, zi, zc, zv, zf, zbd_zbd, zbd_some, zbd_fault, zbd_none, zite0, zite1, ↓reduceIte, Nat.one_ne_zero]
                      refine qsm_pls (n := 1) (k' := 27) (lo' := [some (.ref 1), some (.int 1), some (.int 1), some (.int (nI (i + 1)))]) (S' := []) (h' := h216) rfl ?_
                      by_cases gg : s216.1 ≤ s.1
                      · rw [if_pos gg]; exact qsm_none
                      · rw [if_neg gg]; exact ih (i + 1) _ _ _ (by omega) hc216
                  · first | rw [if_neg t208] | rw [zci_F t208] | skip
                    try simp only [zq, zi, zc, zv, zf, zbd_zbd, zbd_some, zbd_fault, zbd_none, zite0, zite1, ↓reduceIte, Nat.one_ne_zero]
                    refine qsm_acmp true rfl (qzk (hlt _) (by decide)) (qa_neT t208) rfl ?_
                    refine qsm_pls (n := 4) (k' := 6) (lo' := [some (.ref 1), some (.int 0), some (.int 1), some (.int ((nI i) + 1))]) (S' := []) (h' := h205) rfl ?_
                    rw [nI_1]
                    refine qsm_pls (n := 2) (k' := 8) (lo' := [some (.ref 1), some (.int 0), some (.int 1), some (.int (nI (i + 1)))]) (S' := [.int 1000000, .int (nI (i + 1))]) (h' := h205) rfl ?_
                    refine qsm_icmp false rfl (qc_geF (b := 1000000) (by omega) (by decide)) rfl ?_
                    refine qsm_pls (n := 1) (k' := 10) (lo' := [some (.ref 1), some (.int 0), some (.int 1), some (.int (nI (i + 1)))]) (S' := [.int 0]) (h' := h205) rfl ?_
                    refine qsm_if true rfl (rfl) rfl ?_
                    exact qsm_ret7 hc205 rfl
                · subst e205
                  show qsm L xs e Y bc bs _ qm_64 67 [some (.ref 1), some (.int 1), some (.int 1), some (.int (nI i))] [.int 1] h205 _ _ _
                  try simp only [zq, zi, zc, zv, zf, zbd_zbd, zbd_some, zbd_fault, zbd_none, zite0, zite1, ↓reduceIte, Nat.one_ne_zero]
                  refine qsm_if true rfl (rfl) rfl ?_
                  refine qsm_pls (n := 2) (k' := 74) (lo' := [some (.ref 1), some (.int 1), some (.int 1), some (.int (nI i))]) (S' := [.retAddr 38, .ref 1]) (h' := h205) rfl ?_
                  first
                    | refine qsm_call hc205 (qim_up (qi_copy (d := d) (k := 38) ht (by decide)) (by omega)) rfl rfl rfl rfl rfl rfl rfl rfl (ai_rcv1 rfl rfl (qcs_obj hc205)) (fun v217 s217 h217 f217 hc217 => ?_)
                    | refine qsm_callL hc205 (qim_up (qi_copy (d := d) (k := 38) ht (by decide)) (by omega)) rfl rfl rfl rfl rfl rfl rfl rfl (ai_rcv1 rfl rfl (qcs_obj hc205)) (fun v217 s217 h217 f217 hc217 => ?_)
                  show qsm L xs e Y bc bs _ qm_64 75 [some (.ref 1), some (.int 1), some (.int 1), some (.int (nI i))] [] h217 _ _ _
                  try simp only [zq, zi, zc, zv, zf, zbd_zbd, zbd_some, zbd_fault, zbd_none, zite0, zite1, ↓reduceIte, Nat.one_ne_zero]
                  refine qsm_pls (n := 3) (k' := 6) (lo' := [some (.ref 1), some (.int 1), some (.int 1), some (.int ((nI i) + 1))]) (S' := []) (h' := h217) rfl ?_
                  rw [nI_1]
                  refine qsm_pls (n := 2) (k' := 8) (lo' := [some (.ref 1), some (.int 1), some (.int 1), some (.int (nI (i + 1)))]) (S' := [.int 1000000, .int (nI (i + 1))]) (h' := h217) rfl ?_
                  refine qsm_icmp false rfl (qc_geF (b := 1000000) (by omega) (by decide)) rfl ?_
                  refine qsm_pls (n := 1) (k' := 10) (lo' := [some (.ref 1), some (.int 1), some (.int 1), some (.int (nI (i + 1)))]) (S' := [.int 1]) (h' := h217) rfl ?_
                  refine qsm_if false rfl (rfl) rfl ?_
                  refine qsm_pls (n := 1) (k' := 12) (lo' := [some (.ref 1), some (.int 1), some (.int 1), some (.int (nI (i + 1)))]) (S' := [.ref 1]) (h' := h217) rfl ?_
                  first
                    | refine qsm_call hc217 (qim_up (qi_name (d := d) ht) (by omega)) rfl rfl rfl rfl rfl rfl rfl rfl (ai_rcv1 rfl rfl (qcs_obj hc217)) (fun v218 s218 h218 f218 hc218 => ?_)
                    | refine qsm_callL hc217 (qim_up (qi_name (d := d) ht) (by omega)) rfl rfl rfl rfl rfl rfl rfl rfl (ai_rcv1 rfl rfl (qcs_obj hc217)) (fun v218 s218 h218 f218 hc218 => ?_)
                  show qsm L xs e Y bc bs _ qm_64 13 [some (.ref 1), some (.int 1), some (.int 1), some (.int (nI (i + 1)))] [] h218 _ _ _
                  try simp only [zq, zi, zc, zv, zf, zbd_zbd, zbd_some, zbd_fault, zbd_none, zite0, zite1, ↓reduceIte, Nat.one_ne_zero]
                  refine qsm_pls (n := 2) (k' := 15) (lo' := [some (.ref 1), some (.int 1), some (.int 1), some (.int (nI (i + 1)))]) (S' := [.retAddr 3, .ref 1]) (h' := h218) rfl ?_
                  first
                    | refine qsm_call hc218 (qim_up (qi_copyIf (d := d) (k := 3) ht (by decide)) (by omega)) rfl rfl rfl rfl rfl rfl rfl rfl (ai_rcv1 rfl rfl (qcs_obj hc218)) (fun v219 s219 h219 f219 hc219 => ?_)
                    | refine qsm_callL hc218 (qim_up (qi_copyIf (d := d) (k := 3) ht (by decide)) (by omega)) rfl rfl rfl rfl rfl rfl rfl rfl (ai_rcv1 rfl rfl (qcs_obj hc218)) (fun v219 s219 h219 f219 hc219 => ?_)
                  show qsm L xs e Y bc bs _ qm_64 16 [some (.ref 1), some (.int 1), some (.int 1), some (.int (nI (i + 1)))] [.int (nI v219)] h219 _ _ _
                  try simp only [zq, zi, zc, zv, zf, zbd_zbd, zbd_some, zbd_fault, zbd_none, zite0, zite1, ↓reduceIte, Nat.one_ne_zero]
                  rcases zci_v f219 with ⟨e219, q219, n219⟩ | ⟨e219, n219⟩
                  · subst e219
                    show qsm L xs e Y bc bs _ qm_64 16 [some (.ref 1), some (.int 1), some (.int 1), some (.int (nI (i + 1)))] [.int 0] h219 _ _ _
                    try simp only [zq, zi, zc, zv, zf, zbd_zbd, zbd_some, zbd_fault, zbd_none, zite0, zite1, ↓reduceIte, Nat.one_ne_zero]
                    refine qsm_if true rfl (rfl) rfl ?_
                    refine qsm_pls (n := 1) (k' := 20) (lo' := [some (.ref 1), some (.int 1), some (.int 1), some (.int (nI (i + 1)))]) (S' := [.int 1]) (h' := h219) rfl ?_
                    refine qsm_if false rfl (rfl) rfl ?_
                    refine qsm_pls (n := 2) (k' := 23) (lo' := [some (.ref 1), some (.int 1), some (.int 1), some (.int (nI (i + 1)))]) (S' := [.retAddr 53, .ref 1]) (h' := h219) rfl ?_
                    first
                      | refine qsm_call hc219 (qim_up (qi_copy (d := d) (k := 53) ht (by decide)) (by omega)) rfl rfl rfl rfl rfl rfl rfl rfl (ai_rcv1 rfl rfl (qcs_obj hc219)) (fun v220 s220 h220 f220 hc220 => ?_)
                      | refine qsm_callL hc219 (qim_up (qi_copy (d := d) (k := 53) ht (by decide)) (by omega)) rfl rfl rfl rfl rfl rfl rfl rfl (ai_rcv1 rfl rfl (qcs_obj hc219)) (fun v220 s220 h220 f220 hc220 => ?_)
                    show qsm L xs e Y bc bs _ qm_64 24 [some (.ref 1), some (.int 1), some (.int 1), some (.int (nI (i + 1)))] [] h220 _ _ _
                    try simp only [zq, zi, zc, zv, zf, zbd_zbd, zbd_some, zbd_fault, zbd_none, zite0, zite1, ↓reduceIte, Nat.one_ne_zero]
                    refine qsm_pls (n := 1) (k' := 25) (lo' := [some (.ref 1), some (.int 1), some (.int 1), some (.int (nI (i + 1)))]) (S' := [.ref 1]) (h' := h220) rfl ?_
                    first
                      | refine qsm_call hc220 (qim_up (hex) (by omega)) rfl rfl rfl rfl rfl rfl rfl rfl (ai_rcv1 rfl rfl (qcs_obj hc220)) (fun v221 s221 h221 f221 hc221 => ?_)
                      | refine qsm_callL hc220 (qim_up (hex) (by omega)) rfl rfl rfl rfl rfl rfl rfl rfl (ai_rcv1 rfl rfl (qcs_obj hc220)) (fun v221 s221 h221 f221 hc221 => ?_)
                    show qsm L xs e Y bc bs _ qm_64 26 [some (.ref 1), some (.int 1), some (.int 1), some (.int (nI (i + 1)))] [.int (nI v221)] h221 _ _ _
                    try simp only [zq, zi, zc, zv, zf, zbd_zbd, zbd_some, zbd_fault, zbd_none, zite0, zite1, ↓reduceIte, Nat.one_ne_zero]
                    refine qsm_pls (n := 1) (k' := 27) (lo' := [some (.ref 1), some (.int 1), some (.int 1), some (.int (nI (i + 1)))]) (S' := []) (h' := h221) rfl ?_
                    by_cases gg : s221.1 ≤ s.1
                    · rw [if_pos gg]; exact qsm_none
                    · rw [if_neg gg]; exact ih (i + 1) _ _ _ (by omega) hc221
                  · subst e219
                    show qsm L xs e Y bc bs _ qm_64 16 [some (.ref 1), some (.int 1), some (.int 1), some (.int (nI (i + 1)))] [.int 1] h219 _ _ _
                    try simp only [zq, zi, zc, zv, zf, zbd_zbd, zbd_some, zbd_fault, zbd_none, zite0, zite1, ↓reduceIte, Nat.one_ne_zero]
                    refine qsm_if false rfl (rfl) rfl ?_
                    refine qsm_pls (n := 1) (k' := 18) (lo' := [some (.ref 1), some (.int 1), some (.int 1), some (.int (nI (i + 1)))]) (S' := [.ref 1]) (h' := h219) rfl ?_
                    first
                      | refine qsm_call hc219 (qim_up (qi_name (d := d) ht) (by omega)) rfl rfl rfl rfl rfl rfl rfl rfl (ai_rcv1 rfl rfl (qcs_obj hc219)) (fun v222 s222 h222 f222 hc222 => ?_)
                      | refine qsm_callL hc219 (qim_up (qi_name (d := d) ht) (by omega)) rfl rfl rfl rfl rfl rfl rfl rfl (ai_rcv1 rfl rfl (qcs_obj hc219)) (fun v222 s222 h222 f222 hc222 => ?_)
                    show qsm L xs e Y bc bs _ qm_64 19 [some (.ref 1), some (.int 1), some (.int 1), some (.int (nI (i + 1)))] [] h222 _ _ _
                    try simp only [zq, zi, zc, zv, zf, zbd_zbd, zbd_some, zbd_fault, zbd_none, zite0, zite1, ↓reduceIte, Nat.one_ne_zero]
                    refine qsm_pls (n := 1) (k' := 20) (lo' := [some (.ref 1), some (.int 1), some (.int 1), some (.int (nI (i + 1)))]) (S' := [.int 1]) (h' := h222) rfl ?_
                    refine qsm_if false rfl (rfl) rfl ?_
                    refine qsm_pls (n := 2) (k' := 23) (lo' := [some (.ref 1), some (.int 1), some (.int 1), some (.int (nI (i + 1)))]) (S' := [.retAddr 53, .ref 1]) (h' := h222) rfl ?_
                    first
                      | refine qsm_call hc222 (qim_up (qi_copy (d := d) (k := 53) ht (by decide)) (by omega)) rfl rfl rfl rfl rfl rfl rfl rfl (ai_rcv1 rfl rfl (qcs_obj hc222)) (fun v223 s223 h223 f223 hc223 => ?_)
                      | refine qsm_callL hc222 (qim_up (qi_copy (d := d) (k := 53) ht (by decide)) (by omega)) rfl rfl rfl rfl rfl rfl rfl rfl (ai_rcv1 rfl rfl (qcs_obj hc222)) (fun v223 s223 h223 f223 hc223 => ?_)
                    show qsm L xs e Y bc bs _ qm_64 24 [some (.ref 1), some (.int 1), some (.int 1), some (.int (nI (i + 1)))] [] h223 _ _ _
                    try simp only [zq, zi, zc, zv, zf, zbd_zbd, zbd_some, zbd_fault, zbd_none, zite0, zite1, ↓reduceIte, Nat.one_ne_zero]
                    refine qsm_pls (n := 1) (k' := 25) (lo' := [some (.ref 1), some (.int 1), some (.int 1), some (.int (nI (i + 1)))]) (S' := [.ref 1]) (h' := h223) rfl ?_
                    first
                      | refine qsm_call hc223 (qim_up (hex) (by omega)) rfl rfl rfl rfl rfl rfl rfl rfl (ai_rcv1 rfl rfl (qcs_obj hc223)) (fun v224 s224 h224 f224 hc224 => ?_)
                      | refine qsm_callL hc223 (qim_up (hex) (by omega)) rfl rfl rfl rfl rfl rfl rfl rfl (ai_rcv1 rfl rfl (qcs_obj hc223)) (fun v224 s224 h224 f224 hc224 => ?_)
                    show qsm L xs e Y bc bs _ qm_64 26 [some (.ref 1), some (.int 1), some (.int 1), some (.int (nI (i + 1)))] [.int (nI v224)] h224 _ _ _
                    try simp only [zq, zi, zc, zv, zf, zbd_zbd, zbd_some, zbd_fault, zbd_none, zite0, zite1, ↓reduceIte, Nat.one_ne_zero]
                    refine qsm_pls (n := 1) (k' := 27) (lo' := [some (.ref 1), some (.int 1), some (.int 1), some (.int (nI (i + 1)))]) (S' := []) (h' := h224) rfl ?_
                    by_cases gg : s224.1 ≤ s.1
                    · rw [if_pos gg]; exact qsm_none
                    · rw [if_neg gg]; exact ih (i + 1) _ _ _ (by omega) hc224
              · subst e202
                exact absurd n202 t201
            · subst e199
              show qsm L xs e Y bc bs _ qm_64 51 [some (.ref 1), some (.int 1), some (.int 1), some (.int (nI i))] [.int 1] h199 _ _ _
              try simp only [zq, zi, zc, zv, zf, zbd_zbd, zbd_some, zbd_fault, zbd_none, zite0, zite1, ↓reduceIte, Nat.one_ne_zero]
              refine qsm_if false rfl (rfl) rfl ?_
              refine qsm_pls (n := 2) (k' := 54) (lo' := [some (.ref 1), some (.int 1), some (.int 1), some (.int (nI i))]) (S' := [.retAddr 56, .ref 1]) (h' := h199) rfl ?_
              first
                | refine qsm_call hc199 (qim_up (qi_skipIf (d := d) (k := 56) ht (by decide)) (by omega)) rfl rfl rfl rfl rfl rfl rfl rfl (ai_rcv1 rfl rfl (qcs_obj hc199)) (fun v225 s225 h225 f225 hc225 => ?_)
                | refine qsm_callL hc199 (qim_up (qi_skipIf (d := d) (k := 56) ht (by decide)) (by omega)) rfl rfl rfl rfl rfl rfl rfl rfl (ai_rcv1 rfl rfl (qcs_obj hc199)) (fun v225 s225 h225 f225 hc225 => ?_)
              show qsm L xs e Y bc bs _ qm_64 55 [some (.ref 1), some (.int 1), some (.int 1), some (.int (nI i))] [.int (nI v225)] h225 _ _ _
              try simp only [zq, zi, zc, zv, zf, zbd_zbd, zbd_some, zbd_fault, zbd_none, zite0, zite1, ↓reduceIte, Nat.one_ne_zero]
              refine qsm_pls (n := 3) (k' := 58) (lo' := [some (.ref 1), some (.int 1), some (.int 1), some (.int (nI i))]) (S' := [.retAddr 38, .ref 1]) (h' := h225) rfl ?_
              first
                | refine qsm_call hc225 (qim_up (qi_copy (d := d) (k := 38) ht (by decide)) (by omega)) rfl rfl rfl rfl rfl rfl rfl rfl (ai_rcv1 rfl rfl (qcs_obj hc225)) (fun v226 s226 h226 f226 hc226 => ?_)
                | refine qsm_callL hc225 (qim_up (qi_copy (d := d) (k := 38) ht (by decide)) (by omega)) rfl rfl rfl rfl rfl rfl rfl rfl (ai_rcv1 rfl rfl (qcs_obj hc225)) (fun v226 s226 h226 f226 hc226 => ?_)
              show qsm L xs e Y bc bs _ qm_64 59 [some (.ref 1), some (.int 1), some (.int 1), some (.int (nI i))] [] h226 _ _ _
              try simp only [zq, zi, zc, zv, zf, zbd_zbd, zbd_some, zbd_fault, zbd_none, zite0, zite1, ↓reduceIte, Nat.one_ne_zero]
              refine qsm_pls (n := 3) (k' := 6) (lo' := [some (.ref 1), some (.int 1), some (.int 1), some (.int ((nI i) + 1))]) (S' := []) (h' := h226) rfl ?_
              rw [nI_1]
              refine qsm_pls (n := 2) (k' := 8) (lo' := [some (.ref 1), some (.int 1), some (.int 1), some (.int (nI (i + 1)))]) (S' := [.int 1000000, .int (nI (i + 1))]) (h' := h226) rfl ?_
              refine qsm_icmp false rfl (qc_geF (b := 1000000) (by omega) (by decide)) rfl ?_
              refine qsm_pls (n := 1) (k' := 10) (lo' := [some (.ref 1), some (.int 1), some (.int 1), some (.int (nI (i + 1)))]) (S' := [.int 1]) (h' := h226) rfl ?_
              refine qsm_if false rfl (rfl) rfl ?_
              refine qsm_pls (n := 1) (k' := 12) (lo' := [some (.ref 1), some (.int 1), some (.int 1), some (.int (nI (i + 1)))]) (S' := [.ref 1]) (h' := h226) rfl ?_
              first
                | refine qsm_call hc226 (qim_up (qi_name (d := d) ht) (by omega)) rfl rfl rfl rfl rfl rfl rfl rfl (ai_rcv1 rfl rfl (qcs_obj hc226)) (fun v227 s227 h227 f227 hc227 => ?_)
                | refine qsm_callL hc226 (qim_up (qi_name (d := d) ht) (by omega)) rfl rfl rfl rfl rfl rfl rfl rfl (ai_rcv1 rfl rfl (qcs_obj hc226)) (fun v227 s227 h227 f227 hc227 => ?_)
              show qsm L xs e Y bc bs _ qm_64 13 [some (.ref 1), some (.int 1), some (.int 1), some (.int (nI (i + 1)))] [] h227 _ _ _
              try simp only [zq, zi, zc, zv, zf, zbd_zbd, zbd_some, zbd_fault, zbd_none, zite0, zite1, ↓reduceIte, Nat.one_ne_zero]
              refine qsm_pls (n := 2) (k' := 15) (lo' := [some (.ref 1), some (.int 1), some (.int 1), some (.int (nI (i + 1)))]) (S' := [.retAddr 3, .ref 1]) (h' := h227) rfl ?_
              first
                | refine qsm_call hc227 (qim_up (qi_copyIf (d := d) (k := 3) ht (by decide)) (by omega)) rfl rfl rfl rfl rfl rfl rfl rfl (ai_rcv1 rfl rfl (qcs_obj hc227)) (fun v228 s228 h228 f228 hc228 => ?_)
                | refine qsm_callL hc227 (qim_up (qi_copyIf (d := d) (k := 3) ht (by decide)) (by omega)) rfl rfl rfl rfl rfl rfl rfl rfl (ai_rcv1 rfl rfl (qcs_obj hc227)) (fun v228 s228 h228 f228 hc228 => ?_)
              show qsm L xs e Y bc bs _ qm_64 16 [some (.ref 1), some (.int 1), some (.int 1), some (.int (nI (i + 1)))] [.int (nI v228)] h228 _ _ _
              try simp only [zq, zi, zc, zv, zf, zbd_zbd, zbd_some, zbd_fault, zbd_none, zite0, zite1, ↓reduceIte, Nat.one_ne_zero]
              rcases zci_v f228 with ⟨e228, q228, n228⟩ | ⟨e228, n228⟩
              · subst e228
                show qsm L xs e Y bc bs _ qm_64 16 [some (.ref 1), some (.int 1), some (.int 1), some (.int (nI (i + 1)))] [.int 0] h228 _ _ _
                try simp only [zq, zi, zc, zv, zf, zbd_zbd, zbd_some, zbd_fault, zbd_none, zite0, zite1, ↓reduceIte, Nat.one_ne_zero]
                refine qsm_if true rfl (rfl) rfl ?_
                refine qsm_pls (n := 1) (k' := 20) (lo' := [some (.ref 1), some (.int 1), some (.int 1), some (.int (nI (i + 1)))]) (S' := [.int 1]) (h' := h228) rfl ?_
                refine qsm_if false rfl (rfl) rfl ?_
                refine qsm_pls (n := 2) (k' := 23) (lo' := [some (.ref 1), some (.int 1), some (.int 1), some (.int (nI (i + 1)))]) (S' := [.retAddr 53, .ref 1]) (h' := h228) rfl ?_
                first
                  | refine qsm_call hc228 (qim_up (qi_copy (d := d) (k := 53) ht (by decide)) (by omega)) rfl rfl rfl rfl rfl rfl rfl rfl (ai_rcv1 rfl rfl (qcs_obj hc228)) (fun v229 s229 h229 f229 hc229 => ?_)
                  | refine qsm_callL hc228 (qim_up (qi_copy (d := d) (k := 53) ht (by decide)) (by omega)) rfl rfl rfl rfl rfl rfl rfl rfl (ai_rcv1 rfl rfl (qcs_obj hc228)) (fun v229 s229 h229 f229 hc229 => ?_)
                show qsm L xs e Y bc bs _ qm_64 24 [some (.ref 1), some (.int 1), some (.int 1), some (.int (nI (i + 1)))] [] h229 _ _ _
                try simp only [zq, zi, zc, zv, zf, zbd_zbd, zbd_some, zbd_fault, zbd_none, zite0, zite1, ↓reduceIte, Nat.one_ne_zero]
                refine qsm_pls (n := 1) (k' := 25) (lo' := [some (.ref 1), some (.int 1), some (.int 1), some (.int (nI (i + 1)))]) (S' := [.ref 1]) (h' := h229) rfl ?_
                first
                  | refine qsm_call hc229 (qim_up (hex) (by omega)) rfl rfl rfl rfl rfl rfl rfl rfl (ai_rcv1 rfl rfl (qcs_obj hc229)) (fun v230 s230 h230 f230 hc230 => ?_)
                  | refine qsm_callL hc229 (qim_up (hex) (by omega)) rfl rfl rfl rfl rfl rfl rfl rfl (ai_rcv1 rfl rfl (qcs_obj hc229)) (fun v230 s230 h230 f230 hc230 => ?_)
                show qsm L xs e Y bc bs _ qm_64 26 [some (.ref 1), some (.int 1), some (.int 1), some (.int (nI (i + 1)))] [.int (nI v230)] h230 _ _ _
                try simp only [zq, zi, zc, zv, zf, zbd_zbd, zbd_some, zbd_fault, zbd_none, zite0, zite1, ↓reduceIte, Nat.one_ne_zero]
                refine qsm_pls (n := 1) (k' := 27) (lo' := [some (.ref 1), some (.int 1), some (.int 1), some (.int (nI (i + 1)))]) (S' := []) (h' := h230) rfl ?_
                by_cases gg : s230.1 ≤ s.1
                · rw [if_pos gg]; exact qsm_none
                · rw [if_neg gg]; exact ih (i + 1) _ _ _ (by omega) hc230
              · subst e228
                show qsm L xs e Y bc bs _ qm_64 16 [some (.ref 1), some (.int 1), some (.int 1), some (.int (nI (i + 1)))] [.int 1] h228 _ _ _
                try simp only [zq, zi, zc, zv, zf, zbd_zbd, zbd_some, zbd_fault, zbd_none, zite0, zite1, ↓reduceIte, Nat.one_ne_zero]
                refine qsm_if false rfl (rfl) rfl ?_
                refine qsm_pls (n := 1) (k' := 18) (lo' := [some (.ref 1), some (.int 1), some (.int 1), some (.int (nI (i + 1)))]) (S' := [.ref 1]) (h' := h228) rfl ?_
                first
                  | refine qsm_call hc228 (qim_up (qi_name (d := d) ht) (by omega)) rfl rfl rfl rfl rfl rfl rfl rfl (ai_rcv1 rfl rfl (qcs_obj hc228)) (fun v231 s231 h231 f231 hc231 => ?_)
                  | refine qsm_callL hc228 (qim_up (qi_name (d := d) ht) (by omega)) rfl rfl rfl rfl rfl rfl rfl rfl (ai_rcv1 rfl rfl (qcs_obj hc228)) (fun v231 s231 h231 f231 hc231 => ?_)
                show qsm L xs e Y bc bs _ qm_64 19 [some (.ref 1), some (.int 1), some (.int 1), some (.int (nI (i + 1)))] [] h231 _ _ _
                try simp only [zq, zi, zc, zv, zf, zbd_zbd, zbd_some, zbd_fault, zbd_none, zite0, zite1, ↓reduceIte, Nat.one_ne_zero]
                refine qsm_pls (n := 1) (k' := 20) (lo' := [some (.ref 1), some (.int 1), some (.int 1), some (.int (nI (i + 1)))]) (S' := [.int 1]) (h' := h231) rfl ?_
                refine qsm_if false rfl (rfl) rfl ?_
                refine qsm_pls (n := 2) (k' := 23) (lo' := [some (.ref 1), some (.int 1), some (.int 1), some (.int (nI (i + 1)))]) (S' := [.retAddr 53, .ref 1]) (h' := h231) rfl ?_
                first
                  | refine qsm_call hc231 (qim_up (qi_copy (d := d) (k := 53) ht (by decide)) (by omega)) rfl rfl rfl rfl rfl rfl rfl rfl (ai_rcv1 rfl rfl (qcs_obj hc231)) (fun v232 s232 h232 f232 hc232 => ?_)
                  | refine qsm_callL hc231 (qim_up (qi_copy (d := d) (k := 53) ht (by decide)) (by omega)) rfl rfl rfl rfl rfl rfl rfl rfl (ai_rcv1 rfl rfl (qcs_obj hc231)) (fun v232 s232 h232 f232 hc232 => ?_)
                show qsm L xs e Y bc bs _ qm_64 24 [some (.ref 1), some (.int 1), some (.int 1), some (.int (nI (i + 1)))] [] h232 _ _ _
                try simp only [zq, zi, zc, zv, zf, zbd_zbd, zbd_some, zbd_fault, zbd_none, zite0, zite1, ↓reduceIte, Nat.one_ne_zero]
                refine qsm_pls (n := 1) (k' := 25) (lo' := [some (.ref 1), some (.int 1), some (.int 1), some (.int (nI (i + 1)))]) (S' := [.ref 1]) (h' := h232) rfl ?_
                first
                  | refine qsm_call hc232 (qim_up (hex) (by omega)) rfl rfl rfl rfl rfl rfl rfl rfl (ai_rcv1 rfl rfl (qcs_obj hc232)) (fun v233 s233 h233 f233 hc233 => ?_)
                  | refine qsm_callL hc232 (qim_up (hex) (by omega)) rfl rfl rfl rfl rfl rfl rfl rfl (ai_rcv1 rfl rfl (qcs_obj hc232)) (fun v233 s233 h233 f233 hc233 => ?_)
                show qsm L xs e Y bc bs _ qm_64 26 [some (.ref 1), some (.int 1), some (.int 1), some (.int (nI (i + 1)))] [.int (nI v233)] h233 _ _ _
                try simp only [zq, zi, zc, zv, zf, zbd_zbd, zbd_some, zbd_fault, zbd_none, zite0, zite1, ↓reduceIte, Nat.one_ne_zero]
                refine qsm_pls (n := 1) (k' := 27) (lo' := [some (.ref 1), some (.int 1), some (.int 1), some (.int (nI (i + 1)))]) (S' := []) (h' := h233) rfl ?_
                by_cases gg : s233.1 ≤ s.1
                · rw [if_pos gg]; exact qsm_none
                · rw [if_neg gg]; exact ih (i + 1) _ _ _ (by omega) hc233
          · subst e196
            exact absurd n196 t177
  simp only [z_sources, z_source, z_alias, zq, zi, zc, zv, zf, zbd_zbd, zbd_some, zbd_fault, zbd_none, zite0, zite1, ↓reduceIte, Nat.one_ne_zero]
  try simp only [zq, zi, zc, zv, zf, zbd_zbd, zbd_some, zbd_fault, zbd_none, zite0, zite1, ↓reduceIte, Nat.one_ne_zero]
  refine qsm_pls (n := 8) (k' := 8) (lo' := [some (.ref 1), some (.int 1), some (.int 0), some (.int 0)]) (S' := [.int 1000000, .int 0]) (h' := h) rfl ?_
  refine qsm_icmp false rfl (by decide) rfl ?_
  refine qsm_pls (n := 1) (k' := 10) (lo' := [some (.ref 1), some (.int 1), some (.int 0), some (.int 0)]) (S' := [.int 1]) (h' := h) rfl ?_
  refine qsm_if false rfl (rfl) rfl ?_
  refine qsm_pls (n := 1) (k' := 12) (lo' := [some (.ref 1), some (.int 1), some (.int 0), some (.int 0)]) (S' := [.ref 1]) (h' := h) rfl ?_
  first
    | refine qsm_call hc (qim_up (qi_name (d := d) ht) (by omega)) rfl rfl rfl rfl rfl rfl rfl rfl (ai_rcv1 rfl rfl (qcs_obj hc)) (fun v234 s234 h234 f234 hc234 => ?_)
    | refine qsm_callL hc (qim_up (qi_name (d := d) ht) (by omega)) rfl rfl rfl rfl rfl rfl rfl rfl (ai_rcv1 rfl rfl (qcs_obj hc)) (fun v234 s234 h234 f234 hc234 => ?_)
  show qsm L xs e Y bc bs _ qm_64 13 [some (.ref 1), some (.int 1), some (.int 0), some (.int 0)] [] h234 _ _ _
  try simp only [zq, zi, zc, zv, zf, zbd_zbd, zbd_some, zbd_fault, zbd_none, zite0, zite1, ↓reduceIte, Nat.one_ne_zero]
  refine qsm_pls (n := 2) (k' := 15) (lo' := [some (.ref 1), some (.int 1), some (.int 0), some (.int 0)]) (S' := [.retAddr 3, .ref 1]) (h' := h234) rfl ?_
  first
    | refine qsm_call hc234 (qim_up (qi_copyIf (d := d) (k := 3) ht (by decide)) (by omega)) rfl rfl rfl rfl rfl rfl rfl rfl (ai_rcv1 rfl rfl (qcs_obj hc234)) (fun v235 s235 h235 f235 hc235 => ?_)
    | refine qsm_callL hc234 (qim_up (qi_copyIf (d := d) (k := 3) ht (by decide)) (by omega)) rfl rfl rfl rfl rfl rfl rfl rfl (ai_rcv1 rfl rfl (qcs_obj hc234)) (fun v235 s235 h235 f235 hc235 => ?_)
  show qsm L xs e Y bc bs _ qm_64 16 [some (.ref 1), some (.int 1), some (.int 0), some (.int 0)] [.int (nI v235)] h235 _ _ _
  try simp only [zq, zi, zc, zv, zf, zbd_zbd, zbd_some, zbd_fault, zbd_none, zite0, zite1, ↓reduceIte, Nat.one_ne_zero]
  rcases zci_v f235 with ⟨e235, q235, n235⟩ | ⟨e235, n235⟩
  · subst e235
    show qsm L xs e Y bc bs _ qm_64 16 [some (.ref 1), some (.int 1), some (.int 0), some (.int 0)] [.int 0] h235 _ _ _
    try simp only [zq, zi, zc, zv, zf, zbd_zbd, zbd_some, zbd_fault, zbd_none, zite0, zite1, ↓reduceIte, Nat.one_ne_zero]
    refine qsm_if true rfl (rfl) rfl ?_
    refine qsm_pls (n := 1) (k' := 20) (lo' := [some (.ref 1), some (.int 1), some (.int 0), some (.int 0)]) (S' := [.int 0]) (h' := h235) rfl ?_
    refine qsm_if true rfl (rfl) rfl ?_
    exact loop zN 0 0 _ _ (Nat.zero_le _) hc235
  · subst e235
    show qsm L xs e Y bc bs _ qm_64 16 [some (.ref 1), some (.int 1), some (.int 0), some (.int 0)] [.int 1] h235 _ _ _
    try simp only [zq, zi, zc, zv, zf, zbd_zbd, zbd_some, zbd_fault, zbd_none, zite0, zite1, ↓reduceIte, Nat.one_ne_zero]
    refine qsm_if false rfl (rfl) rfl ?_
    refine qsm_pls (n := 1) (k' := 18) (lo' := [some (.ref 1), some (.int 1), some (.int 0), some (.int 0)]) (S' := [.ref 1]) (h' := h235) rfl ?_
    first
      | refine qsm_call hc235 (qim_up (qi_name (d := d) ht) (by omega)) rfl rfl rfl rfl rfl rfl rfl rfl (ai_rcv1 rfl rfl (qcs_obj hc235)) (fun v236 s236 h236 f236 hc236 => ?_)
      | refine qsm_callL hc235 (qim_up (qi_name (d := d) ht) (by omega)) rfl rfl rfl rfl rfl rfl rfl rfl (ai_rcv1 rfl rfl (qcs_obj hc235)) (fun v236 s236 h236 f236 hc236 => ?_)
    show qsm L xs e Y bc bs _ qm_64 19 [some (.ref 1), some (.int 1), some (.int 0), some (.int 0)] [] h236 _ _ _
    try simp only [zq, zi, zc, zv, zf, zbd_zbd, zbd_some, zbd_fault, zbd_none, zite0, zite1, ↓reduceIte, Nat.one_ne_zero]
    refine qsm_pls (n := 1) (k' := 20) (lo' := [some (.ref 1), some (.int 1), some (.int 0), some (.int 0)]) (S' := [.int 0]) (h' := h236) rfl ?_
    refine qsm_if true rfl (rfl) rfl ?_
    exact loop zN 0 0 _ _ (Nat.zero_le _) hc236
/-- Grammar.query() -/
theorem qs_query (ht : qtk e Y) (hex : qim L xs e Y bc bs d 55 [.ref 1] 1 ex) : qim L xs e Y bc bs (d + 8) 62 [.ref 1] 0 (z_query e ex) := by
  have hlt := qtk_lt ht
  refine qim_of (M := qm_62) rfl rfl (fun P s h hc => ?_)
  show qsm L xs e Y bc bs _ qm_62 0 [some (.ref 1)] [] h _ _ _
  simp only [z_query, zq, zi, zc, zv, zf, zbd_zbd, zbd_some, zbd_fault, zbd_none, zite0, zite1, ↓reduceIte, Nat.one_ne_zero]
  try simp only [zq, zi, zc, zv, zf, zbd_zbd, zbd_some, zbd_fault, zbd_none, zite0, zite1, ↓reduceIte, Nat.one_ne_zero]
  refine qsm_pls (n := 2) (k' := 2) (lo' := [some (.ref 1)]) (S' := [.retAddr 65, .ref 1]) (h' := h) rfl ?_
  first
    | refine qsm_call hc (qim_up (qi_copy (d := d) (k := 65) ht (by decide)) (by omega)) rfl rfl rfl rfl rfl rfl rfl rfl (ai_rcv1 rfl rfl (qcs_obj hc)) (fun v237 s237 h237 f237 hc237 => ?_)
    | refine qsm_callL hc (qim_up (qi_copy (d := d) (k := 65) ht (by decide)) (by omega)) rfl rfl rfl rfl rfl rfl rfl rfl (ai_rcv1 rfl rfl (qcs_obj hc)) (fun v237 s237 h237 f237 hc237 => ?_)
  show qsm L xs e Y bc bs _ qm_62 3 [some (.ref 1)] [] h237 _ _ _
  try simp only [zq, zi, zc, zv, zf, zbd_zbd, zbd_some, zbd_fault, zbd_none, zite0, zite1, ↓reduceIte, Nat.one_ne_zero]
  refine qsm_pls (n := 2) (k' := 5) (lo' := [some (.ref 1)]) (S' := [.retAddr 22, .ref 1]) (h' := h237) rfl ?_
  first
    | refine qsm_call hc237 (qim_up (qi_copyIf (d := d) (k := 22) ht (by decide)) (by omega)) rfl rfl rfl rfl rfl rfl rfl rfl (ai_rcv1 rfl rfl (qcs_obj hc237)) (fun v238 s238 h238 f238 hc238 => ?_)
    | refine qsm_callL hc237 (qim_up (qi_copyIf (d := d) (k := 22) ht (by decide)) (by omega)) rfl rfl rfl rfl rfl rfl rfl rfl (ai_rcv1 rfl rfl (qcs_obj hc237)) (fun v238 s238 h238 f238 hc238 => ?_)
  show qsm L xs e Y bc bs _ qm_62 6 [some (.ref 1)] [.int (nI v238)] h238 _ _ _
  try simp only [zq, zi, zc, zv, zf, zbd_zbd, zbd_some, zbd_fault, zbd_none, zite0, zite1, ↓reduceIte, Nat.one_ne_zero]
  refine qsm_pls (n := 3) (k' := 9) (lo' := [some (.ref 1)]) (S' := [.retAddr 89, .ref 1]) (h' := h238) rfl ?_
  first
    | refine qsm_call hc238 (qim_up (qi_copyIf (d := d) (k := 89) ht (by decide)) (by omega)) rfl rfl rfl rfl rfl rfl rfl rfl (ai_rcv1 rfl rfl (qcs_obj hc238)) (fun v239 s239 h239 f239 hc239 => ?_)
    | refine qsm_callL hc238 (qim_up (qi_copyIf (d := d) (k := 89) ht (by decide)) (by omega)) rfl rfl rfl rfl rfl rfl rfl rfl (ai_rcv1 rfl rfl (qcs_obj hc238)) (fun v239 s239 h239 f239 hc239 => ?_)
  show qsm L xs e Y bc bs _ qm_62 10 [some (.ref 1)] [.int (nI v239)] h239 _ _ _
  try simp only [zq, zi, zc, zv, zf, zbd_zbd, zbd_some, zbd_fault, zbd_none, zite0, zite1, ↓reduceIte, Nat.one_ne_zero]
  refine qsm_join 13 [some (.ref 1)] [] (fun G240 tail240 => ?_) (fun vj240 sj240 hj240 hcj240 => ?_)
  · skip
    rcases zci_v f239 with ⟨e239, q239, n239⟩ | ⟨e239, n239⟩
    · subst e239
      show qsm L xs e Y bc bs _ qm_62 10 [some (.ref 1)] [.int 0] h239 _ _ _
      try simp only [zq, zi, zc, zv, zf, zbd_zbd, zbd_some, zbd_fault, zbd_none, zite0, zite1, ↓reduceIte, Nat.one_ne_zero]
      refine qsm_if false rfl (rfl) rfl ?_
      refine qsm_pls (n := 1) (k' := 12) (lo' := [some (.ref 1)]) (S' := [.ref 1]) (h' := h239) rfl ?_
      first
        | refine qsm_call hc239 (qim_up (qs_items (d := d) ht hex) (by omega)) rfl rfl rfl rfl rfl rfl rfl rfl (ai_rcv1 rfl rfl (qcs_obj hc239)) (fun v241 s241 h241 f241 hc241 => ?_)
        | refine qsm_callL hc239 (qim_up (qs_items (d := d) ht hex) (by omega)) rfl rfl rfl rfl rfl rfl rfl rfl (ai_rcv1 rfl rfl (qcs_obj hc239)) (fun v241 s241 h241 f241 hc241 => ?_)
      show qsm L xs e Y bc bs _ qm_62 13 [some (.ref 1)] [] h241 _ _ _
      try simp only [zq, zi, zc, zv, zf, zbd_zbd, zbd_some, zbd_fault, zbd_none, zite0, zite1, ↓reduceIte, Nat.one_ne_zero]
      exact tail240 _ _ _ hc241
    · subst e239
      show qsm L xs e Y bc bs _ qm_62 10 [some (.ref 1)] [.int 1] h239 _ _ _
      try simp only [zq, zi, zc, zv, zf, zbd_zbd, zbd_some, zbd_fault, zbd_none, zite0, zite1, ↓reduceIte, Nat.one_ne_zero]
      refine qsm_if true rfl (rfl) rfl ?_
      exact tail240 _ _ _ hc239
  · skip
    show qsm L xs e Y bc bs _ qm_62 13 [some (.ref 1)] [] hj240 _ _ _
    try simp only [zq, zi, zc, zv, zf, zbd_zbd, zbd_some, zbd_fault, zbd_none, zite0, zite1, ↓reduceIte, Nat.one_ne_zero]
    refine qsm_pls (n := 2) (k' := 15) (lo' := [some (.ref 1)]) (S' := [.retAddr 28, .ref 1]) (h' := hj240) rfl ?_
    first
      | refine qsm_call hcj240 (qim_up (qi_copyIf (d := d) (k := 28) ht (by decide)) (by omega)) rfl rfl rfl rfl rfl rfl rfl rfl (ai_rcv1 rfl rfl (qcs_obj hcj240)) (fun v242 s242 h242 f242 hc242 => ?_)
      | refine qsm_callL hcj240 (qim_up (qi_copyIf (d := d) (k := 28) ht (by decide)) (by omega)) rfl rfl rfl rfl rfl rfl rfl rfl (ai_rcv1 rfl rfl (qcs_obj hcj240)) (fun v242 s242 h242 f242 hc242 => ?_)
    show qsm L xs e Y bc bs _ qm_62 16 [some (.ref 1)] [.int (nI v242)] h242 _ _ _
    try simp only [zq, zi, zc, zv, zf, zbd_zbd, zbd_some, zbd_fault, zbd_none, zite0, zite1, ↓reduceIte, Nat.one_ne_zero]
    refine qsm_join 19 [some (.ref 1)] [] (fun G243 tail243 => ?_) (fun vj243 sj243 hj243 hcj243 => ?_)
    · skip
      rcases zci_v f242 with ⟨e242, q242, n242⟩ | ⟨e242, n242⟩
      · subst e242
        show qsm L xs e Y bc bs _ qm_62 16 [some (.ref 1)] [.int 0] h242 _ _ _
        try simp only [zq, zi, zc, zv, zf, zbd_zbd, zbd_some, zbd_fault, zbd_none, zite0, zite1, ↓reduceIte, Nat.one_ne_zero]
        refine qsm_if true rfl (rfl) rfl ?_
        exact tail243 _ _ _ hc242
      · subst e242
        show qsm L xs e Y bc bs _ qm_62 16 [some (.ref 1)] [.int 1] h242 _ _ _
        try simp only [zq, zi, zc, zv, zf, zbd_zbd, zbd_some, zbd_fault, zbd_none, zite0, zite1, ↓reduceIte, Nat.one_ne_zero]
        refine qsm_if false rfl (rfl) rfl ?_
        refine qsm_pls (n := 1) (k' := 18) (lo' := [some (.ref 1)]) (S' := [.ref 1]) (h' := h242) rfl ?_
        first
          | refine qsm_call hc242 (qim_up (qs_sources (d := d) ht hex) (by omega)) rfl rfl rfl rfl rfl rfl rfl rfl (ai_rcv1 rfl rfl (qcs_obj hc242)) (fun v244 s244 h244 f244 hc244 => ?_)
          | refine qsm_callL hc242 (qim_up (qs_sources (d := d) ht hex) (by omega)) rfl rfl rfl rfl rfl rfl rfl rfl (ai_rcv1 rfl rfl (qcs_obj hc242)) (fun v244 s244 h244 f244 hc244 => ?_)
        show qsm L xs e Y bc bs _ qm_62 19 [some (.ref 1)] [] h244 _ _ _
        try simp only [zq, zi, zc, zv, zf, zbd_zbd, zbd_some, zbd_fault, zbd_none, zite0, zite1, ↓reduceIte, Nat.one_ne_zero]
        exact tail243 _ _ _ hc244
    · skip
      show qsm L xs e Y bc bs _ qm_62 19 [some (.ref 1)] [] hj243 _ _ _
      try simp only [zq, zi, zc, zv, zf, zbd_zbd, zbd_some, zbd_fault, zbd_none, zite0, zite1, ↓reduceIte, Nat.one_ne_zero]
      refine qsm_pls (n := 1) (k' := 20) (lo' := [some (.ref 1)]) (S' := [.ref 1]) (h' := hj243) rfl ?_
      first
        | refine qsm_call hcj243 (qim_up (qs_cond (d := d) ht hex) (by omega)) rfl rfl rfl rfl rfl rfl rfl rfl (ai_rcv1 rfl rfl (qcs_obj hcj243)) (fun v245 s245 h245 f245 hc245 => ?_)
        | refine qsm_callL hcj243 (qim_up (qs_cond (d := d) ht hex) (by omega)) rfl rfl rfl rfl rfl rfl rfl rfl (ai_rcv1 rfl rfl (qcs_obj hcj243)) (fun v245 s245 h245 f245 hc245 => ?_)
      show qsm L xs e Y bc bs _ qm_62 21 [some (.ref 1)] [] h245 _ _ _
      try simp only [zq, zi, zc, zv, zf, zbd_zbd, zbd_some, zbd_fault, zbd_none, zite0, zite1, ↓reduceIte, Nat.one_ne_zero]
      refine qsm_pls (n := 2) (k' := 23) (lo' := [some (.ref 1)]) (S' := [.retAddr 29, .ref 1]) (h' := h245) rfl ?_
      first
        | refine qsm_call hc245 (qim_up (qi_copyIf (d := d) (k := 29) ht (by decide)) (by omega)) rfl rfl rfl rfl rfl rfl rfl rfl (ai_rcv1 rfl rfl (qcs_obj hc245)) (fun v246 s246 h246 f246 hc246 => ?_)
        | refine qsm_callL hc245 (qim_up (qi_copyIf (d := d) (k := 29) ht (by decide)) (by omega)) rfl rfl rfl rfl rfl rfl rfl rfl (ai_rcv1 rfl rfl (qcs_obj hc245)) (fun v246 s246 h246 f246 hc246 => ?_)
      show qsm L xs e Y bc bs _ qm_62 24 [some (.ref 1)] [.int (nI v246)] h246 _ _ _
      try simp only [zq, zi, zc, zv, zf, zbd_zbd, zbd_some, zbd_fault, zbd_none, zite0, zite1, ↓reduceIte, Nat.one_ne_zero]
      refine qsm_join 30 [some (.ref 1)] [] (fun G247 tail247 => ?_) (fun vj247 sj247 hj247 hcj247 => ?_)
      · skip
        rcases zci_v f246 with ⟨e246, q246, n246⟩ | ⟨e246, n246⟩
        · subst e246
          show qsm L xs e Y bc bs _ qm_62 24 [some (.ref 1)] [.int 0] h246 _ _ _
          try simp only [zq, zi, zc, zv, zf, zbd_zbd, zbd_some, zbd_fault, zbd_none, zite0, zite1, ↓reduceIte, Nat.one_ne_zero]
          refine qsm_if true rfl (rfl) rfl ?_
          exact tail247 _ _ _ hc246
        · subst e246
          show qsm L xs e Y bc bs _ qm_62 24 [some (.ref 1)] [.int 1] h246 _ _ _
          try simp only [zq, zi, zc, zv, zf, zbd_zbd, zbd_some, zbd_fault, zbd_none, zite0, zite1, ↓reduceIte, Nat.one_ne_zero]
          refine qsm_if false rfl (rfl) rfl ?_
          refine qsm_pls (n := 2) (k' := 27) (lo' := [some (.ref 1)]) (S' := [.retAddr 8, .ref 1]) (h' := h246) rfl ?_
          first
            | refine qsm_call hc246 (qim_up (qi_copy (d := d) (k := 8) ht (by decide)) (by omega)) rfl rfl rfl rfl rfl rfl rfl rfl (ai_rcv1 rfl rfl (qcs_obj hc246)) (fun v248 s248 h248 f248 hc248 => ?_)
            | refine qsm_callL hc246 (qim_up (qi_copy (d := d) (k := 8) ht (by decide)) (by omega)) rfl rfl rfl rfl rfl rfl rfl rfl (ai_rcv1 rfl rfl (qcs_obj hc246)) (fun v248 s248 h248 f248 hc248 => ?_)
          show qsm L xs e Y bc bs _ qm_62 28 [some (.ref 1)] [] h248 _ _ _
          try simp only [zq, zi, zc, zv, zf, zbd_zbd, zbd_some, zbd_fault, zbd_none, zite0, zite1, ↓reduceIte, Nat.one_ne_zero]
          refine qsm_pls (n := 1) (k' := 29) (lo' := [some (.ref 1)]) (S' := [.ref 1]) (h' := h248) rfl ?_
          first
            | refine qsm_call hc248 (qim_up (qs_exs (d := d) ht hex) (by omega)) rfl rfl rfl rfl rfl rfl rfl rfl (ai_rcv1 rfl rfl (qcs_obj hc248)) (fun v249 s249 h249 f249 hc249 => ?_)
            | refine qsm_callL hc248 (qim_up (qs_exs (d := d) ht hex) (by omega)) rfl rfl rfl rfl rfl rfl rfl rfl (ai_rcv1 rfl rfl (qcs_obj hc248)) (fun v249 s249 h249 f249 hc249 => ?_)
          show qsm L xs e Y bc bs _ qm_62 30 [some (.ref 1)] [] h249 _ _ _
          try simp only [zq, zi, zc, zv, zf, zbd_zbd, zbd_some, zbd_fault, zbd_none, zite0, zite1, ↓reduceIte, Nat.one_ne_zero]
          exact tail247 _ _ _ hc249
      · skip
        show qsm L xs e Y bc bs _ qm_62 30 [some (.ref 1)] [] hj247 _ _ _
        try simp only [zq, zi, zc, zv, zf, zbd_zbd, zbd_some, zbd_fault, zbd_none, zite0, zite1, ↓reduceIte, Nat.one_ne_zero]
        refine qsm_pls (n := 2) (k' := 32) (lo' := [some (.ref 1)]) (S' := [.retAddr 30, .ref 1]) (h' := hj247) rfl ?_
        first
          | refine qsm_call hcj247 (qim_up (qi_copyIf (d := d) (k := 30) ht (by decide)) (by omega)) rfl rfl rfl rfl rfl rfl rfl rfl (ai_rcv1 rfl rfl (qcs_obj hcj247)) (fun v250 s250 h250 f250 hc250 => ?_)
          | refine qsm_callL hcj247 (qim_up (qi_copyIf (d := d) (k := 30) ht (by decide)) (by omega)) rfl rfl rfl rfl rfl rfl rfl rfl (ai_rcv1 rfl rfl (qcs_obj hcj247)) (fun v250 s250 h250 f250 hc250 => ?_)
        show qsm L xs e Y bc bs _ qm_62 33 [some (.ref 1)] [.int (nI v250)] h250 _ _ _
        try simp only [zq, zi, zc, zv, zf, zbd_zbd, zbd_some, zbd_fault, zbd_none, zite0, zite1, ↓reduceIte, Nat.one_ne_zero]
        refine qsm_join 37 [some (.ref 1)] [] (fun G251 tail251 => ?_) (fun vj251 sj251 hj251 hcj251 => ?_)
        · skip
          rcases zci_v f250 with ⟨e250, q250, n250⟩ | ⟨e250, n250⟩
          · subst e250
            show qsm L xs e Y bc bs _ qm_62 33 [some (.ref 1)] [.int 0] h250 _ _ _
            try simp only [zq, zi, zc, zv, zf, zbd_zbd, zbd_some, zbd_fault, zbd_none, zite0, zite1, ↓reduceIte, Nat.one_ne_zero]
            refine qsm_if true rfl (rfl) rfl ?_
            exact tail251 _ _ _ hc250
          · subst e250
            show qsm L xs e Y bc bs _ qm_62 33 [some (.ref 1)] [.int 1] h250 _ _ _
            try simp only [zq, zi, zc, zv, zf, zbd_zbd, zbd_some, zbd_fault, zbd_none, zite0, zite1, ↓reduceIte, Nat.one_ne_zero]
            refine qsm_if false rfl (rfl) rfl ?_
            refine qsm_pls (n := 1) (k' := 35) (lo' := [some (.ref 1)]) (S' := [.ref 1]) (h' := h250) rfl ?_
            first
              | refine qsm_call hc250 (qim_up (hex) (by omega)) rfl rfl rfl rfl rfl rfl rfl rfl (ai_rcv1 rfl rfl (qcs_obj hc250)) (fun v252 s252 h252 f252 hc252 => ?_)
              | refine qsm_callL hc250 (qim_up (hex) (by omega)) rfl rfl rfl rfl rfl rfl rfl rfl (ai_rcv1 rfl rfl (qcs_obj hc250)) (fun v252 s252 h252 f252 hc252 => ?_)
            show qsm L xs e Y bc bs _ qm_62 36 [some (.ref 1)] [.int (nI v252)] h252 _ _ _
            try simp only [zq, zi, zc, zv, zf, zbd_zbd, zbd_some, zbd_fault, zbd_none, zite0, zite1, ↓reduceIte, Nat.one_ne_zero]
            refine qsm_pls (n := 1) (k' := 37) (lo' := [some (.ref 1)]) (S' := []) (h' := h252) rfl ?_
            exact tail251 _ _ _ hc252
        · skip
          show qsm L xs e Y bc bs _ qm_62 37 [some (.ref 1)] [] hj251 _ _ _
          try simp only [zq, zi, zc, zv, zf, zbd_zbd, zbd_some, zbd_fault, zbd_none, zite0, zite1, ↓reduceIte, Nat.one_ne_zero]
          refine qsm_pls (n := 2) (k' := 39) (lo' := [some (.ref 1)]) (S' := [.retAddr 55, .ref 1]) (h' := hj251) rfl ?_
          first
            | refine qsm_call hcj251 (qim_up (qi_copyIf (d := d) (k := 55) ht (by decide)) (by omega)) rfl rfl rfl rfl rfl rfl rfl rfl (ai_rcv1 rfl rfl (qcs_obj hcj251)) (fun v253 s253 h253 f253 hc253 => ?_)
            | refine qsm_callL hcj251 (qim_up (qi_copyIf (d := d) (k := 55) ht (by decide)) (by omega)) rfl rfl rfl rfl rfl rfl rfl rfl (ai_rcv1 rfl rfl (qcs_obj hcj251)) (fun v253 s253 h253 f253 hc253 => ?_)
          show qsm L xs e Y bc bs _ qm_62 40 [some (.ref 1)] [.int (nI v253)] h253 _ _ _
          try simp only [zq, zi, zc, zv, zf, zbd_zbd, zbd_some, zbd_fault, zbd_none, zite0, zite1, ↓reduceIte, Nat.one_ne_zero]
          refine qsm_join 46 [some (.ref 1)] [] (fun G254 tail254 => ?_) (fun vj254 sj254 hj254 hcj254 => ?_)
          · skip
            rcases zci_v f253 with ⟨e253, q253, n253⟩ | ⟨e253, n253⟩
            · subst e253
              show qsm L xs e Y bc bs _ qm_62 40 [some (.ref 1)] [.int 0] h253 _ _ _
              try simp only [zq, zi, zc, zv, zf, zbd_zbd, zbd_some, zbd_fault, zbd_none, zite0, zite1, ↓reduceIte, Nat.one_ne_zero]
              refine qsm_if true rfl (rfl) rfl ?_
              exact tail254 _ _ _ hc253
            · subst e253
              show qsm L xs e Y bc bs _ qm_62 40 [some (.ref 1)] [.int 1] h253 _ _ _
              try simp only [zq, zi, zc, zv, zf, zbd_zbd, zbd_some, zbd_fault, zbd_none, zite0, zite1, ↓reduceIte, Nat.one_ne_zero]
              refine qsm_if false rfl (rfl) rfl ?_
              refine qsm_pls (n := 2) (k' := 43) (lo' := [some (.ref 1)]) (S' := [.retAddr 8, .ref 1]) (h' := h253) rfl ?_
              first
                | refine qsm_call hc253 (qim_up (qi_copy (d := d) (k := 8) ht (by decide)) (by omega)) rfl rfl rfl rfl rfl rfl rfl rfl (ai_rcv1 rfl rfl (qcs_obj hc253)) (fun v255 s255 h255 f255 hc255 => ?_)
                | refine qsm_callL hc253 (qim_up (qi_copy (d := d) (k := 8) ht (by decide)) (by omega)) rfl rfl rfl rfl rfl rfl rfl rfl (ai_rcv1 rfl rfl (qcs_obj hc253)) (fun v255 s255 h255 f255 hc255 => ?_)
              show qsm L xs e Y bc bs _ qm_62 44 [some (.ref 1)] [] h255 _ _ _
              try simp only [zq, zi, zc, zv, zf, zbd_zbd, zbd_some, zbd_fault, zbd_none, zite0, zite1, ↓reduceIte, Nat.one_ne_zero]
              refine qsm_pls (n := 1) (k' := 45) (lo' := [some (.ref 1)]) (S' := [.ref 1]) (h' := h255) rfl ?_
              first
                | refine qsm_call hc255 (qim_up (qs_orders (d := d) ht hex) (by omega)) rfl rfl rfl rfl rfl rfl rfl rfl (ai_rcv1 rfl rfl (qcs_obj hc255)) (fun v256 s256 h256 f256 hc256 => ?_)
                | refine qsm_callL hc255 (qim_up (qs_orders (d := d) ht hex) (by omega)) rfl rfl rfl rfl rfl rfl rfl rfl (ai_rcv1 rfl rfl (qcs_obj hc255)) (fun v256 s256 h256 f256 hc256 => ?_)
              show qsm L xs e Y bc bs _ qm_62 46 [some (.ref 1)] [] h256 _ _ _
              try simp only [zq, zi, zc, zv, zf, zbd_zbd, zbd_some, zbd_fault, zbd_none, zite0, zite1, ↓reduceIte, Nat.one_ne_zero]
              exact tail254 _ _ _ hc256
          · skip
            show qsm L xs e Y bc bs _ qm_62 46 [some (.ref 1)] [] hj254 _ _ _
            try simp only [zq, zi, zc, zv, zf, zbd_zbd, zbd_some, zbd_fault, zbd_none, zite0, zite1, ↓reduceIte, Nat.one_ne_zero]
            refine qsm_pls (n := 2) (k' := 48) (lo' := [some (.ref 1)]) (S' := [.retAddr 43, .ref 1]) (h' := hj254) rfl ?_
            first
              | refine qsm_call hcj254 (qim_up (qi_copyIf (d := d) (k := 43) ht (by decide)) (by omega)) rfl rfl rfl rfl rfl rfl rfl rfl (ai_rcv1 rfl rfl (qcs_obj hcj254)) (fun v257 s257 h257 f257 hc257 => ?_)
              | refine qsm_callL hcj254 (qim_up (qi_copyIf (d := d) (k := 43) ht (by decide)) (by omega)) rfl rfl rfl rfl rfl rfl rfl rfl (ai_rcv1 rfl rfl (qcs_obj hcj254)) (fun v257 s257 h257 f257 hc257 => ?_)
            show qsm L xs e Y bc bs _ qm_62 49 [some (.ref 1)] [.int (nI v257)] h257 _ _ _
            try simp only [zq, zi, zc, zv, zf, zbd_zbd, zbd_some, zbd_fault, zbd_none, zite0, zite1, ↓reduceIte, Nat.one_ne_zero]
            rcases zci_v f257 with ⟨e257, q257, n257⟩ | ⟨e257, n257⟩
            · subst e257
              show qsm L xs e Y bc bs _ qm_62 49 [some (.ref 1)] [.int 0] h257 _ _ _
              try simp only [zq, zi, zc, zv, zf, zbd_zbd, zbd_some, zbd_fault, zbd_none, zite0, zite1, ↓reduceIte, Nat.one_ne_zero]
              refine qsm_if true rfl (rfl) rfl ?_
              exact qsm_ret7 hc257 rfl
            · subst e257
              show qsm L xs e Y bc bs _ qm_62 49 [some (.ref 1)] [.int 1] h257 _ _ _
              try simp only [zq, zi, zc, zv, zf, zbd_zbd, zbd_some, zbd_fault, zbd_none, zite0, zite1, ↓reduceIte, Nat.one_ne_zero]
              refine qsm_if false rfl (rfl) rfl ?_
              refine qsm_pls (n := 1) (k' := 51) (lo' := [some (.ref 1)]) (S' := [.ref 1]) (h' := h257) rfl ?_
              first
                | refine qsm_call hc257 (qim_up (qi_number (d := d) ht) (by omega)) rfl rfl rfl rfl rfl rfl rfl rfl (ai_rcv1 rfl rfl (qcs_obj hc257)) (fun v258 s258 h258 f258 hc258 => ?_)
                | refine qsm_callL hc257 (qim_up (qi_number (d := d) ht) (by omega)) rfl rfl rfl rfl rfl rfl rfl rfl (ai_rcv1 rfl rfl (qcs_obj hc257)) (fun v258 s258 h258 f258 hc258 => ?_)
              show qsm L xs e Y bc bs _ qm_62 52 [some (.ref 1)] [] h258 _ _ _
              try simp only [zq, zi, zc, zv, zf, zbd_zbd, zbd_some, zbd_fault, zbd_none, zite0, zite1, ↓reduceIte, Nat.one_ne_zero]
              refine qsm_pls (n := 2) (k' := 54) (lo' := [some (.ref 1)]) (S' := [.retAddr 52, .ref 1]) (h' := h258) rfl ?_
              first
                | refine qsm_call hc258 (qim_up (qi_copyIf (d := d) (k := 52) ht (by decide)) (by omega)) rfl rfl rfl rfl rfl rfl rfl rfl (ai_rcv1 rfl rfl (qcs_obj hc258)) (fun v259 s259 h259 f259 hc259 => ?_)
                | refine qsm_callL hc258 (qim_up (qi_copyIf (d := d) (k := 52) ht (by decide)) (by omega)) rfl rfl rfl rfl rfl rfl rfl rfl (ai_rcv1 rfl rfl (qcs_obj hc258)) (fun v259 s259 h259 f259 hc259 => ?_)
              show qsm L xs e Y bc bs _ qm_62 55 [some (.ref 1)] [.int (nI v259)] h259 _ _ _
              try simp only [zq, zi, zc, zv, zf, zbd_zbd, zbd_some, zbd_fault, zbd_none, zite0, zite1, ↓reduceIte, Nat.one_ne_zero]
              rcases zci_v f259 with ⟨e259, q259, n259⟩ | ⟨e259, n259⟩
              · subst e259
                show qsm L xs e Y bc bs _ qm_62 55 [some (.ref 1)] [.int 0] h259 _ _ _
                try simp only [zq, zi, zc, zv, zf, zbd_zbd, zbd_some, zbd_fault, zbd_none, zite0, zite1, ↓reduceIte, Nat.one_ne_zero]
                refine qsm_if true rfl (rfl) rfl ?_
                exact qsm_ret7 hc259 rfl
              · subst e259
                show qsm L xs e Y bc bs _ qm_62 55 [some (.ref 1)] [.int 1] h259 _ _ _
                try simp only [zq, zi, zc, zv, zf, zbd_zbd, zbd_some, zbd_fault, zbd_none, zite0, zite1, ↓reduceIte, Nat.one_ne_zero]
                refine qsm_if false rfl (rfl) rfl ?_
                refine qsm_pls (n := 1) (k' := 57) (lo' := [some (.ref 1)]) (S' := [.ref 1]) (h' := h259) rfl ?_
                first
                  | refine qsm_call hc259 (qim_up (qi_number (d := d) ht) (by omega)) rfl rfl rfl rfl rfl rfl rfl rfl (ai_rcv1 rfl rfl (qcs_obj hc259)) (fun v260 s260 h260 f260 hc260 => ?_)
                  | refine qsm_callL hc259 (qim_up (qi_number (d := d) ht) (by omega)) rfl rfl rfl rfl rfl rfl rfl rfl (ai_rcv1 rfl rfl (qcs_obj hc259)) (fun v260 s260 h260 f260 hc260 => ?_)
                show qsm L xs e Y bc bs _ qm_62 58 [some (.ref 1)] [] h260 _ _ _
                try simp only [zq, zi, zc, zv, zf, zbd_zbd, zbd_some, zbd_fault, zbd_none, zite0, zite1, ↓reduceIte, Nat.one_ne_zero]
                exact qsm_ret7 hc260 rfl
/-- Grammar.cases() -/
theorem qs_cases (ht : qtk e Y) (hex : qim L xs e Y bc bs d 55 [.ref 1] 1 ex) : qim L xs e Y bc bs (d + 7) 69 [.ref 1] 0 (z_cases e ex) := by
  have hlt := qtk_lt ht
  refine qim_of (M := qm_69) rfl rfl (fun P s h hc => ?_)
  show qsm L xs e Y bc bs _ qm_69 0 [some (.ref 1), none, none] [] h _ _ _
  have loop : ∀ (G : Nat → zS → zR Nat), (∀ (j : Nat) (s : zS) (h : ai_H), qcs e Y bc bs P s h → qsm L xs e Y bc bs (d + 6) qm_69 34 [some (.ref 1), some (.int 0), some (.int (nI j))] [] h 0 P (G 0 s)) → ∀ (n i : Nat) (s : zS) (h : ai_H), i ≤ s.1 → qcs e Y bc bs P s h → qsm L xs e Y bc bs (d + 6) qm_69 7 [some (.ref 1), some (.int 1), some (.int (nI i))] [] h 0 P (zbd (zlp (zl_whens e ex) n s) G) := by
    intro G tail n
    induction n with
    | zero => intro i s h hi hc; exact qsm_none
    | succ n ih =>
      intro i s h hi hc
      have hb := qcs_bd hc
      rw [zlp_succ]
      generalize zlp (zl_whens e ex) n = W at ih ⊢
      simp only [zl_whens, zq, zi, zc, zv, zf, zbd_zbd, zbd_some, zbd_fault, zbd_none, zite0, zite1, ↓reduceIte, Nat.one_ne_zero]
      refine qsm_pls (n := 2) (k' := 9) (lo' := [some (.ref 1), some (.int 1), some (.int (nI i))]) (S' := [.int 1000000, .int (nI i)]) (h' := h) rfl ?_
      refine qsm_icmp false rfl (qc_geF (b := 1000000) (by omega) (by decide)) rfl ?_
      refine qsm_pls (n := 1) (k' := 11) (lo' := [some (.ref 1), some (.int 1), some (.int (nI i))]) (S' := [.int 1]) (h' := h) rfl ?_
      refine qsm_if false rfl (rfl) rfl ?_
      refine qsm_pls (n := 2) (k' := 14) (lo' := [some (.ref 1), some (.int 1), some (.int (nI i))]) (S' := [.retAddr 80, .ref 1]) (h' := h) rfl ?_
      first
        | refine qsm_call hc (qim_up (qi_copy (d := d) (k := 80) ht (by decide)) (by omega)) rfl rfl rfl rfl rfl rfl rfl rfl (ai_rcv1 rfl rfl (qcs_obj hc)) (fun v261 s261 h261 f261 hc261 => ?_)
        | refine qsm_callL hc (qim_up (qi_copy (d := d) (k := 80) ht (by decide)) (by omega)) rfl rfl rfl rfl rfl rfl rfl rfl (ai_rcv1 rfl rfl (qcs_obj hc)) (fun v261 s261 h261 f261 hc261 => ?_)
      show qsm L xs e Y bc bs _ qm_69 15 [some (.ref 1), some (.int 1), some (.int (nI i))] [] h261 _ _ _
      try simp only [zq, zi, zc, zv, zf, zbd_zbd, zbd_some, zbd_fault, zbd_none, zite0, zite1, ↓reduceIte, Nat.one_ne_zero]
      refine qsm_pls (n := 1) (k' := 16) (lo' := [some (.ref 1), some (.int 1), some (.int (nI i))]) (S' := [.ref 1]) (h' := h261) rfl ?_
      first
        | refine qsm_call hc261 (qim_up (hex) (by omega)) rfl rfl rfl rfl rfl rfl rfl rfl (ai_rcv1 rfl rfl (qcs_obj hc261)) (fun v262 s262 h262 f262 hc262 => ?_)
        | refine qsm_callL hc261 (qim_up (hex) (by omega)) rfl rfl rfl rfl rfl rfl rfl rfl (ai_rcv1 rfl rfl (qcs_obj hc261)) (fun v262 s262 h262 f262 hc262 => ?_)
      show qsm L xs e Y bc bs _ qm_69 17 [some (.ref 1), some (.int 1), some (.int (nI i))] [.int (nI v262)] h262 _ _ _
      try simp only [zq, zi, zc, zv, zf, zbd_zbd, zbd_some, zbd_fault, zbd_none, zite0, zite1, ↓reduceIte, Nat.one_ne_zero]
      refine qsm_pls (n := 3) (k' := 20) (lo' := [some (.ref 1), some (.int 1), some (.int (nI i))]) (S' := [.retAddr 73, .ref 1]) (h' := h262) rfl ?_
      first
        | refine qsm_call hc262 (qim_up (qi_copy (d := d) (k := 73) ht (by decide)) (by omega)) rfl rfl rfl rfl rfl rfl rfl rfl (ai_rcv1 rfl rfl (qcs_obj hc262)) (fun v263 s263 h263 f263 hc263 => ?_)
        | refine qsm_callL hc262 (qim_up (qi_copy (d := d) (k := 73) ht (by decide)) (by omega)) rfl rfl rfl rfl rfl rfl rfl rfl (ai_rcv1 rfl rfl (qcs_obj hc262)) (fun v263 s263 h263 f263 hc263 => ?_)
      show qsm L xs e Y bc bs _ qm_69 21 [some (.ref 1), some (.int 1), some (.int (nI i))] [] h263 _ _ _
      try simp only [zq, zi, zc, zv, zf, zbd_zbd, zbd_some, zbd_fault, zbd_none, zite0, zite1, ↓reduceIte, Nat.one_ne_zero]
      refine qsm_pls (n := 1) (k' := 22) (lo' := [some (.ref 1), some (.int 1), some (.int (nI i))]) (S' := [.ref 1]) (h' := h263) rfl ?_
      first
        | refine qsm_call hc263 (qim_up (hex) (by omega)) rfl rfl rfl rfl rfl rfl rfl rfl (ai_rcv1 rfl rfl (qcs_obj hc263)) (fun v264 s264 h264 f264 hc264 => ?_)
        | refine qsm_callL hc263 (qim_up (hex) (by omega)) rfl rfl rfl rfl rfl rfl rfl rfl (ai_rcv1 rfl rfl (qcs_obj hc263)) (fun v264 s264 h264 f264 hc264 => ?_)
      show qsm L xs e Y bc bs _ qm_69 23 [some (.ref 1), some (.int 1), some (.int (nI i))] [.int (nI v264)] h264 _ _ _
      try simp only [zq, zi, zc, zv, zf, zbd_zbd, zbd_some, zbd_fault, zbd_none, zite0, zite1, ↓reduceIte, Nat.one_ne_zero]
      refine qsm_pls (n := 2) (k' := 25) (lo' := [some (.ref 1), some (.int 1), some (.int (nI i))]) (S' := [.ref 1]) (h' := h264) rfl ?_
      refine qsm_getf (v := .retAddr (ztk e s264.1)) rfl (qcs_obj hc264) rfl rfl rfl ?_
      refine qsm_pls (n := 1) (k' := 27) (lo' := [some (.ref 1), some (.int 1), some (.int (nI i))]) (S' := [.retAddr 80, .retAddr (ztk e s264.1)]) (h' := h264) rfl ?_
      by_cases t265 : ztk e s264.1 = 80
      · first | rw [if_pos t265] | rw [zci_T t265] | skip
        try simp only [zq, zi, zc, zv, zf, zbd_zbd, zbd_some, zbd_fault, zbd_none, zite0, zite1, ↓reduceIte, Nat.one_ne_zero]
        refine qsm_acmp false rfl (qzk (hlt _) (by decide)) (qa_neF t265) rfl ?_
        refine qsm_pls (n := 5) (k' := 7) (lo' := [some (.ref 1), some (.int 1), some (.int ((nI i) + 1))]) (S' := []) (h' := h264) rfl ?_
        rw [nI_1]
        by_cases g266 : s264.1 ≤ s.1
        · rw [if_pos g266]; exact qsm_none
        · rw [if_neg g266]; exact ih (i + 1) _ _ (by omega) hc264
      · first | rw [if_neg t265] | rw [zci_F t265] | skip
        try simp only [zq, zi, zc, zv, zf, zbd_zbd, zbd_some, zbd_fault, zbd_none, zite0, zite1, ↓reduceIte, Nat.one_ne_zero]
        refine qsm_acmp true rfl (qzk (hlt _) (by decide)) (qa_neT t265) rfl ?_
        refine qsm_pls (n := 4) (k' := 7) (lo' := [some (.ref 1), some (.int 0), some (.int ((nI i) + 1))]) (S' := []) (h' := h264) rfl ?_
        rw [nI_1]
        refine qsm_pls (n := 2) (k' := 9) (lo' := [some (.ref 1), some (.int 0), some (.int (nI (i + 1)))]) (S' := [.int 1000000, .int (nI (i + 1))]) (h' := h264) rfl ?_
        refine qsm_icmp false rfl (qc_geF (b := 1000000) (by omega) (by decide)) rfl ?_
        refine qsm_pls (n := 1) (k' := 11) (lo' := [some (.ref 1), some (.int 0), some (.int (nI (i + 1)))]) (S' := [.int 0]) (h' := h264) rfl ?_
        refine qsm_if true rfl (rfl) rfl ?_
        exact tail (i + 1) _ _ hc264
  simp only [z_cases, zq, zi, zc, zv, zf, zbd_zbd, zbd_some, zbd_fault, zbd_none, zite0, zite1, ↓reduceIte, Nat.one_ne_zero]
  try simp only [zq, zi, zc, zv, zf, zbd_zbd, zbd_some, zbd_fault, zbd_none, zite0, zite1, ↓reduceIte, Nat.one_ne_zero]
  refine qsm_pls (n := 4) (k' := 4) (lo' := [some (.ref 1), some (.int 1), none]) (S' := [.retAddr 10, .ref 1]) (h' := h) rfl ?_
  first
    | refine qsm_call hc (qim_up (qi_copy (d := d) (k := 10) ht (by decide)) (by omega)) rfl rfl rfl rfl rfl rfl rfl rfl (ai_rcv1 rfl rfl (qcs_obj hc)) (fun v267 s267 h267 f267 hc267 => ?_)
    | refine qsm_callL hc (qim_up (qi_copy (d := d) (k := 10) ht (by decide)) (by omega)) rfl rfl rfl rfl rfl rfl rfl rfl (ai_rcv1 rfl rfl (qcs_obj hc)) (fun v267 s267 h267 f267 hc267 => ?_)
  show qsm L xs e Y bc bs _ qm_69 5 [some (.ref 1), some (.int 1), none] [] h267 _ _ _
  try simp only [zq, zi, zc, zv, zf, zbd_zbd, zbd_some, zbd_fault, zbd_none, zite0, zite1, ↓reduceIte, Nat.one_ne_zero]
  refine qsm_pls (n := 2) (k' := 7) (lo' := [some (.ref 1), some (.int 1), some (.int 0)]) (S' := []) (h' := h267) rfl ?_
  first
    | refine loop _ (fun j268 s268 h268 hc268 => ?_) zN 0 _ _ (Nat.zero_le _) hc267
    | (rw [← zbd_id (zlp (zl_whens e ex) zN _)]; refine loop _ (fun j268 s268 h268 hc268 => ?_) zN 0 _ _ (Nat.zero_le _) hc267)
  show qsm L xs e Y bc bs _ qm_69 34 [some (.ref 1), some (.int 0), some (.int (nI j268))] [] h268 _ _ _
  try simp only [zq, zi, zc, zv, zf, zbd_zbd, zbd_some, zbd_fault, zbd_none, zite0, zite1, ↓reduceIte, Nat.one_ne_zero]
  refine qsm_pls (n := 2) (k' := 36) (lo' := [some (.ref 1), some (.int 0), some (.int (nI j268))]) (S' := [.retAddr 24, .ref 1]) (h' := h268) rfl ?_
  first
    | refine qsm_call hc268 (qim_up (qi_copyIf (d := d) (k := 24) ht (by decide)) (by omega)) rfl rfl rfl rfl rfl rfl rfl rfl (ai_rcv1 rfl rfl (qcs_obj hc268)) (fun v269 s269 h269 f269 hc269 => ?_)
    | refine qsm_callL hc268 (qim_up (qi_copyIf (d := d) (k := 24) ht (by decide)) (by omega)) rfl rfl rfl rfl rfl rfl rfl rfl (ai_rcv1 rfl rfl (qcs_obj hc268)) (fun v269 s269 h269 f269 hc269 => ?_)
  show qsm L xs e Y bc bs _ qm_69 37 [some (.ref 1), some (.int 0), some (.int (nI j268))] [.int (nI v269)] h269 _ _ _
  try simp only [zq, zi, zc, zv, zf, zbd_zbd, zbd_some, zbd_fault, zbd_none, zite0, zite1, ↓reduceIte, Nat.one_ne_zero]
  rcases zci_v f269 with ⟨e269, q269, n269⟩ | ⟨e269, n269⟩
  · subst e269
    show qsm L xs e Y bc bs _ qm_69 37 [some (.ref 1), some (.int 0), some (.int (nI j268))] [.int 0] h269 _ _ _
    try simp only [zq, zi, zc, zv, zf, zbd_zbd, zbd_some, zbd_fault, zbd_none, zite0, zite1, ↓reduceIte, Nat.one_ne_zero]
    refine qsm_if true rfl (rfl) rfl ?_
    refine qsm_pls (n := 2) (k' := 43) (lo' := [some (.ref 1), some (.int 0), some (.int (nI j268))]) (S' := [.retAddr 25, .ref 1]) (h' := h269) rfl ?_
    first
      | refine qsm_call hc269 (qim_up (qi_copy (d := d) (k := 25) ht (by decide)) (by omega)) rfl rfl rfl rfl rfl rfl rfl rfl (ai_rcv1 rfl rfl (qcs_obj hc269)) (fun v270 s270 h270 f270 hc270 => ?_)
      | refine qsm_callL hc269 (qim_up (qi_copy (d := d) (k := 25) ht (by decide)) (by omega)) rfl rfl rfl rfl rfl rfl rfl rfl (ai_rcv1 rfl rfl (qcs_obj hc269)) (fun v270 s270 h270 f270 hc270 => ?_)
    show qsm L xs e Y bc bs _ qm_69 44 [some (.ref 1), some (.int 0), some (.int (nI j268))] [] h270 _ _ _
    try simp only [zq, zi, zc, zv, zf, zbd_zbd, zbd_some, zbd_fault, zbd_none, zite0, zite1, ↓reduceIte, Nat.one_ne_zero]
    exact qsm_ret7 hc270 rfl
  · subst e269
    show qsm L xs e Y bc bs _ qm_69 37 [some (.ref 1), some (.int 0), some (.int (nI j268))] [.int 1] h269 _ _ _
    try simp only [zq, zi, zc, zv, zf, zbd_zbd, zbd_some, zbd_fault, zbd_none, zite0, zite1, ↓reduceIte, Nat.one_ne_zero]
    refine qsm_if false rfl (rfl) rfl ?_
    refine qsm_pls (n := 1) (k' := 39) (lo' := [some (.ref 1), some (.int 0), some (.int (nI j268))]) (S' := [.ref 1]) (h' := h269) rfl ?_
    first
      | refine qsm_call hc269 (qim_up (hex) (by omega)) rfl rfl rfl rfl rfl rfl rfl rfl (ai_rcv1 rfl rfl (qcs_obj hc269)) (fun v271 s271 h271 f271 hc271 => ?_)
      | refine qsm_callL hc269 (qim_up (hex) (by omega)) rfl rfl rfl rfl rfl rfl rfl rfl (ai_rcv1 rfl rfl (qcs_obj hc269)) (fun v271 s271 h271 f271 hc271 => ?_)
    show qsm L xs e Y bc bs _ qm_69 40 [some (.ref 1), some (.int 0), some (.int (nI j268))] [.int (nI v271)] h271 _ _ _
    try simp only [zq, zi, zc, zv, zf, zbd_zbd, zbd_some, zbd_fault, zbd_none, zite0, zite1, ↓reduceIte, Nat.one_ne_zero]
    refine qsm_pls (n := 3) (k' := 43) (lo' := [some (.ref 1), some (.int 0), some (.int (nI j268))]) (S' := [.retAddr 25, .ref 1]) (h' := h271) rfl ?_
    first
      | refine qsm_call hc271 (qim_up (qi_copy (d := d) (k := 25) ht (by decide)) (by omega)) rfl rfl rfl rfl rfl rfl rfl rfl (ai_rcv1 rfl rfl (qcs_obj hc271)) (fun v272 s272 h272 f272 hc272 => ?_)
      | refine qsm_callL hc271 (qim_up (qi_copy (d := d) (k := 25) ht (by decide)) (by omega)) rfl rfl rfl rfl rfl rfl rfl rfl (ai_rcv1 rfl rfl (qcs_obj hc271)) (fun v272 s272 h272 f272 hc272 => ?_)
    show qsm L xs e Y bc bs _ qm_69 44 [some (.ref 1), some (.int 0), some (.int (nI j268))] [] h272 _ _ _
    try simp only [zq, zi, zc, zv, zf, zbd_zbd, zbd_some, zbd_fault, zbd_none, zite0, zite1, ↓reduceIte, Nat.one_ne_zero]
    exact qsm_ret7 hc272 rfl
/-- Grammar.cast() -/
theorem qs_cast (ht : qtk e Y) (hex : qim L xs e Y bc bs d 55 [.ref 1] 1 ex) : qim L xs e Y bc bs (d + 7) 72 [.ref 1] 0 (z_cast e ex) := by
  have hlt := qtk_lt ht
  refine qim_of (M := qm_72) rfl rfl (fun P s h hc => ?_)
  show qsm L xs e Y bc bs _ qm_72 0 [some (.ref 1)] [] h _ _ _
  simp only [z_cast, z_type, zq, zi, zc, zv, zf, zbd_zbd, zbd_some, zbd_fault, zbd_none, zite0, zite1, ↓reduceIte, Nat.one_ne_zero]
  try simp only [zq, zi, zc, zv, zf, zbd_zbd, zbd_some, zbd_fault, zbd_none, zite0, zite1, ↓reduceIte, Nat.one_ne_zero]
  refine qsm_pls (n := 2) (k' := 2) (lo' := [some (.ref 1)]) (S' := [.retAddr 11, .ref 1]) (h' := h) rfl ?_
  first
    | refine qsm_call hc (qim_up (qi_copy (d := d) (k := 11) ht (by decide)) (by omega)) rfl rfl rfl rfl rfl rfl rfl rfl (ai_rcv1 rfl rfl (qcs_obj hc)) (fun v273 s273 h273 f273 hc273 => ?_)
    | refine qsm_callL hc (qim_up (qi_copy (d := d) (k := 11) ht (by decide)) (by omega)) rfl rfl rfl rfl rfl rfl rfl rfl (ai_rcv1 rfl rfl (qcs_obj hc)) (fun v273 s273 h273 f273 hc273 => ?_)
  show qsm L xs e Y bc bs _ qm_72 3 [some (.ref 1)] [] h273 _ _ _
  try simp only [zq, zi, zc, zv, zf, zbd_zbd, zbd_some, zbd_fault, zbd_none, zite0, zite1, ↓reduceIte, Nat.one_ne_zero]
  refine qsm_pls (n := 2) (k' := 5) (lo' := [some (.ref 1)]) (S' := [.retAddr 82, .ref 1]) (h' := h273) rfl ?_
  first
    | refine qsm_call hc273 (qim_up (qi_copy (d := d) (k := 82) ht (by decide)) (by omega)) rfl rfl rfl rfl rfl rfl rfl rfl (ai_rcv1 rfl rfl (qcs_obj hc273)) (fun v274 s274 h274 f274 hc274 => ?_)
    | refine qsm_callL hc273 (qim_up (qi_copy (d := d) (k := 82) ht (by decide)) (by omega)) rfl rfl rfl rfl rfl rfl rfl rfl (ai_rcv1 rfl rfl (qcs_obj hc273)) (fun v274 s274 h274 f274 hc274 => ?_)
  show qsm L xs e Y bc bs _ qm_72 6 [some (.ref 1)] [] h274 _ _ _
  try simp only [zq, zi, zc, zv, zf, zbd_zbd, zbd_some, zbd_fault, zbd_none, zite0, zite1, ↓reduceIte, Nat.one_ne_zero]
  refine qsm_pls (n := 1) (k' := 7) (lo' := [some (.ref 1)]) (S' := [.ref 1]) (h' := h274) rfl ?_
  first
    | refine qsm_call hc274 (qim_up (hex) (by omega)) rfl rfl rfl rfl rfl rfl rfl rfl (ai_rcv1 rfl rfl (qcs_obj hc274)) (fun v275 s275 h275 f275 hc275 => ?_)
    | refine qsm_callL hc274 (qim_up (hex) (by omega)) rfl rfl rfl rfl rfl rfl rfl rfl (ai_rcv1 rfl rfl (qcs_obj hc274)) (fun v275 s275 h275 f275 hc275 => ?_)
  show qsm L xs e Y bc bs _ qm_72 8 [some (.ref 1)] [.int (nI v275)] h275 _ _ _
  try simp only [zq, zi, zc, zv, zf, zbd_zbd, zbd_some, zbd_fault, zbd_none, zite0, zite1, ↓reduceIte, Nat.one_ne_zero]
  refine qsm_pls (n := 3) (k' := 11) (lo' := [some (.ref 1)]) (S' := [.retAddr 3, .ref 1]) (h' := h275) rfl ?_
  first
    | refine qsm_call hc275 (qim_up (qi_copy (d := d) (k := 3) ht (by decide)) (by omega)) rfl rfl rfl rfl rfl rfl rfl rfl (ai_rcv1 rfl rfl (qcs_obj hc275)) (fun v276 s276 h276 f276 hc276 => ?_)
    | refine qsm_callL hc275 (qim_up (qi_copy (d := d) (k := 3) ht (by decide)) (by omega)) rfl rfl rfl rfl rfl rfl rfl rfl (ai_rcv1 rfl rfl (qcs_obj hc275)) (fun v276 s276 h276 f276 hc276 => ?_)
  show qsm L xs e Y bc bs _ qm_72 12 [some (.ref 1)] [] h276 _ _ _
  try simp only [zq, zi, zc, zv, zf, zbd_zbd, zbd_some, zbd_fault, zbd_none, zite0, zite1, ↓reduceIte, Nat.one_ne_zero]
  refine qsm_pls (n := 2) (k' := 14) (lo' := [some (.ref 1)]) (S' := [.retAddr 35, .ref 1]) (h' := h276) rfl ?_
  first
    | refine qsm_call hc276 (qim_up (qi_copyIf (d := d) (k := 35) ht (by decide)) (by omega)) rfl rfl rfl rfl rfl rfl rfl rfl (ai_rcv1 rfl rfl (qcs_obj hc276)) (fun v277 s277 h277 f277 hc277 => ?_)
    | refine qsm_callL hc276 (qim_up (qi_copyIf (d := d) (k := 35) ht (by decide)) (by omega)) rfl rfl rfl rfl rfl rfl rfl rfl (ai_rcv1 rfl rfl (qcs_obj hc276)) (fun v277 s277 h277 f277 hc277 => ?_)
  show qsm L xs e Y bc bs _ qm_72 15 [some (.ref 1)] [.int (nI v277)] h277 _ _ _
  try simp only [zq, zi, zc, zv, zf, zbd_zbd, zbd_some, zbd_fault, zbd_none, zite0, zite1, ↓reduceIte, Nat.one_ne_zero]
  rcases zci_v f277 with ⟨e277, q277, n277⟩ | ⟨e277, n277⟩
  · subst e277
    show qsm L xs e Y bc bs _ qm_72 15 [some (.ref 1)] [.int 0] h277 _ _ _
    try simp only [zq, zi, zc, zv, zf, zbd_zbd, zbd_some, zbd_fault, zbd_none, zite0, zite1, ↓reduceIte, Nat.one_ne_zero]
    refine qsm_if false rfl (rfl) rfl ?_
    refine qsm_pls (n := 2) (k' := 18) (lo' := [some (.ref 1)]) (S' := [.retAddr 72, .ref 1]) (h' := h277) rfl ?_
    first
      | refine qsm_call hc277 (qim_up (qi_copy (d := d) (k := 72) ht (by decide)) (by omega)) rfl rfl rfl rfl rfl rfl rfl rfl (ai_rcv1 rfl rfl (qcs_obj hc277)) (fun v278 s278 h278 f278 hc278 => ?_)
      | refine qsm_callL hc277 (qim_up (qi_copy (d := d) (k := 72) ht (by decide)) (by omega)) rfl rfl rfl rfl rfl rfl rfl rfl (ai_rcv1 rfl rfl (qcs_obj hc277)) (fun v278 s278 h278 f278 hc278 => ?_)
    show qsm L xs e Y bc bs _ qm_72 19 [some (.ref 1)] [] h278 _ _ _
    try simp only [zq, zi, zc, zv, zf, zbd_zbd, zbd_some, zbd_fault, zbd_none, zite0, zite1, ↓reduceIte, Nat.one_ne_zero]
    refine qsm_pls (n := 2) (k' := 21) (lo' := [some (.ref 1)]) (S' := [.retAddr 83, .ref 1]) (h' := h278) rfl ?_
    first
      | refine qsm_call hc278 (qim_up (qi_copy (d := d) (k := 83) ht (by decide)) (by omega)) rfl rfl rfl rfl rfl rfl rfl rfl (ai_rcv1 rfl rfl (qcs_obj hc278)) (fun v279 s279 h279 f279 hc279 => ?_)
      | refine qsm_callL hc278 (qim_up (qi_copy (d := d) (k := 83) ht (by decide)) (by omega)) rfl rfl rfl rfl rfl rfl rfl rfl (ai_rcv1 rfl rfl (qcs_obj hc278)) (fun v279 s279 h279 f279 hc279 => ?_)
    show qsm L xs e Y bc bs _ qm_72 22 [some (.ref 1)] [] h279 _ _ _
    try simp only [zq, zi, zc, zv, zf, zbd_zbd, zbd_some, zbd_fault, zbd_none, zite0, zite1, ↓reduceIte, Nat.one_ne_zero]
    exact qsm_ret7 hc279 rfl
  · subst e277
    show qsm L xs e Y bc bs _ qm_72 15 [some (.ref 1)] [.int 1] h277 _ _ _
    try simp only [zq, zi, zc, zv, zf, zbd_zbd, zbd_some, zbd_fault, zbd_none, zite0, zite1, ↓reduceIte, Nat.one_ne_zero]
    refine qsm_if true rfl (rfl) rfl ?_
    refine qsm_pls (n := 2) (k' := 21) (lo' := [some (.ref 1)]) (S' := [.retAddr 83, .ref 1]) (h' := h277) rfl ?_
    first
      | refine qsm_call hc277 (qim_up (qi_copy (d := d) (k := 83) ht (by decide)) (by omega)) rfl rfl rfl rfl rfl rfl rfl rfl (ai_rcv1 rfl rfl (qcs_obj hc277)) (fun v280 s280 h280 f280 hc280 => ?_)
      | refine qsm_callL hc277 (qim_up (qi_copy (d := d) (k := 83) ht (by decide)) (by omega)) rfl rfl rfl rfl rfl rfl rfl rfl (ai_rcv1 rfl rfl (qcs_obj hc277)) (fun v280 s280 h280 f280 hc280 => ?_)
    show qsm L xs e Y bc bs _ qm_72 22 [some (.ref 1)] [] h280 _ _ _
    try simp only [zq, zi, zc, zv, zf, zbd_zbd, zbd_some, zbd_fault, zbd_none, zite0, zite1, ↓reduceIte, Nat.one_ne_zero]
    exact qsm_ret7 hc280 rfl
/-- Grammar.aggregate() -/
theorem qs_agg (ht : qtk e Y) (hex : qim L xs e Y bc bs d 55 [.ref 1] 1 ex) : qim L xs e Y bc bs (d + 7) 73 [.ref 1] 0 (z_agg e ex) := by
  have hlt := qtk_lt ht
  refine qim_of (M := qm_73) rfl rfl (fun P s h hc => ?_)
  show qsm L xs e Y bc bs _ qm_73 0 [some (.ref 1), none] [] h _ _ _
  simp only [z_agg, zq, zi, zc, zv, zf, zbd_zbd, zbd_some, zbd_fault, zbd_none, zite0, zite1, ↓reduceIte, Nat.one_ne_zero]
  try simp only [zq, zi, zc, zv, zf, zbd_zbd, zbd_some, zbd_fault, zbd_none, zite0, zite1, ↓reduceIte, Nat.one_ne_zero]
  refine qsm_pls (n := 1) (k' := 1) (lo' := [some (.ref 1), none]) (S' := [.ref 1]) (h' := h) rfl ?_
  refine qsm_getf (v := .retAddr (ztk e s.1)) rfl (qcs_obj hc) rfl rfl rfl ?_
  refine qsm_pls (n := 1) (k' := 3) (lo' := [some (.ref 1), none]) (S' := [.retAddr 16, .retAddr (ztk e s.1)]) (h' := h) rfl ?_
  by_cases t281 : ztk e s.1 = 16
  · first | rw [if_pos t281] | rw [zci_T t281] | skip
    try simp only [zq, zi, zc, zv, zf, zbd_zbd, zbd_some, zbd_fault, zbd_none, zite0, zite1, ↓reduceIte, Nat.one_ne_zero]
    refine qsm_acmp false rfl (qzk (hlt _) (by decide)) (qa_neF t281) rfl ?_
    refine qsm_pls (n := 5) (k' := 10) (lo' := [some (.ref 1), some (.int 1)]) (S' := [.ref 1, .ref 1]) (h' := h) rfl ?_
    refine qsm_getf (v := .retAddr (ztk e s.1)) rfl (qcs_obj hc) rfl rfl rfl ?_
    first
      | refine qsm_call hc (qim_up (qi_copy (d := d) (k := (ztk e s.1)) ht (hlt _)) (by omega)) rfl rfl rfl rfl rfl rfl rfl rfl (ai_rcv1 rfl rfl (qcs_obj hc)) (fun v282 s282 h282 f282 hc282 => ?_)
      | refine qsm_callL hc (qim_up (qi_copy (d := d) (k := (ztk e s.1)) ht (hlt _)) (by omega)) rfl rfl rfl rfl rfl rfl rfl rfl (ai_rcv1 rfl rfl (qcs_obj hc)) (fun v282 s282 h282 f282 hc282 => ?_)
    show qsm L xs e Y bc bs _ qm_73 12 [some (.ref 1), some (.int 1)] [] h282 _ _ _
    try simp only [zq, zi, zc, zv, zf, zbd_zbd, zbd_some, zbd_fault, zbd_none, zite0, zite1, ↓reduceIte, Nat.one_ne_zero]
    refine qsm_pls (n := 2) (k' := 14) (lo' := [some (.ref 1), some (.int 1)]) (S' := [.retAddr 82, .ref 1]) (h' := h282) rfl ?_
    first
      | refine qsm_call hc282 (qim_up (qi_copy (d := d) (k := 82) ht (by decide)) (by omega)) rfl rfl rfl rfl rfl rfl rfl rfl (ai_rcv1 rfl rfl (qcs_obj hc282)) (fun v283 s283 h283 f283 hc283 => ?_)
      | refine qsm_callL hc282 (qim_up (qi_copy (d := d) (k := 82) ht (by decide)) (by omega)) rfl rfl rfl rfl rfl rfl rfl rfl (ai_rcv1 rfl rfl (qcs_obj hc282)) (fun v283 s283 h283 f283 hc283 => ?_)
    show qsm L xs e Y bc bs _ qm_73 15 [some (.ref 1), some (.int 1)] [] h283 _ _ _
    try simp only [zq, zi, zc, zv, zf, zbd_zbd, zbd_some, zbd_fault, zbd_none, zite0, zite1, ↓reduceIte, Nat.one_ne_zero]
    refine qsm_pls (n := 1) (k' := 16) (lo' := [some (.ref 1), some (.int 1)]) (S' := [.int 1]) (h' := h283) rfl ?_
    refine qsm_if false rfl (rfl) rfl ?_
    refine qsm_pls (n := 2) (k' := 19) (lo' := [some (.ref 1), some (.int 1)]) (S' := [.retAddr 89, .ref 1]) (h' := h283) rfl ?_
    first
      | refine qsm_call hc283 (qim_up (qi_copyIf (d := d) (k := 89) ht (by decide)) (by omega)) rfl rfl rfl rfl rfl rfl rfl rfl (ai_rcv1 rfl rfl (qcs_obj hc283)) (fun v284 s284 h284 f284 hc284 => ?_)
      | refine qsm_callL hc283 (qim_up (qi_copyIf (d := d) (k := 89) ht (by decide)) (by omega)) rfl rfl rfl rfl rfl rfl rfl rfl (ai_rcv1 rfl rfl (qcs_obj hc283)) (fun v284 s284 h284 f284 hc284 => ?_)
    show qsm L xs e Y bc bs _ qm_73 20 [some (.ref 1), some (.int 1)] [.int (nI v284)] h284 _ _ _
    try simp only [zq, zi, zc, zv, zf, zbd_zbd, zbd_some, zbd_fault, zbd_none, zite0, zite1, ↓reduceIte, Nat.one_ne_zero]
    rcases zci_v f284 with ⟨e284, q284, n284⟩ | ⟨e284, n284⟩
    · subst e284
      show qsm L xs e Y bc bs _ qm_73 20 [some (.ref 1), some (.int 1)] [.int 0] h284 _ _ _
      try simp only [zq, zi, zc, zv, zf, zbd_zbd, zbd_some, zbd_fault, zbd_none, zite0, zite1, ↓reduceIte, Nat.one_ne_zero]
      refine qsm_if false rfl (rfl) rfl ?_
      refine qsm_pls (n := 2) (k' := 23) (lo' := [some (.ref 1), some (.int 1)]) (S' := [.retAddr 22, .ref 1]) (h' := h284) rfl ?_
      first
        | refine qsm_call hc284 (qim_up (qi_copyIf (d := d) (k := 22) ht (by decide)) (by omega)) rfl rfl rfl rfl rfl rfl rfl rfl (ai_rcv1 rfl rfl (qcs_obj hc284)) (fun v285 s285 h285 f285 hc285 => ?_)
        | refine qsm_callL hc284 (qim_up (qi_copyIf (d := d) (k := 22) ht (by decide)) (by omega)) rfl rfl rfl rfl rfl rfl rfl rfl (ai_rcv1 rfl rfl (qcs_obj hc284)) (fun v285 s285 h285 f285 hc285 => ?_)
      show qsm L xs e Y bc bs _ qm_73 24 [some (.ref 1), some (.int 1)] [.int (nI v285)] h285 _ _ _
      try simp only [zq, zi, zc, zv, zf, zbd_zbd, zbd_some, zbd_fault, zbd_none, zite0, zite1, ↓reduceIte, Nat.one_ne_zero]
      refine qsm_pls (n := 2) (k' := 26) (lo' := [some (.ref 1), some (.int 1)]) (S' := [.ref 1]) (h' := h285) rfl ?_
      first
        | refine qsm_call hc285 (qim_up (hex) (by omega)) rfl rfl rfl rfl rfl rfl rfl rfl (ai_rcv1 rfl rfl (qcs_obj hc285)) (fun v286 s286 h286 f286 hc286 => ?_)
        | refine qsm_callL hc285 (qim_up (hex) (by omega)) rfl rfl rfl rfl rfl rfl rfl rfl (ai_rcv1 rfl rfl (qcs_obj hc285)) (fun v286 s286 h286 f286 hc286 => ?_)
      show qsm L xs e Y bc bs _ qm_73 27 [some (.ref 1), some (.int 1)] [.int (nI v286)] h286 _ _ _
      try simp only [zq, zi, zc, zv, zf, zbd_zbd, zbd_some, zbd_fault, zbd_none, zite0, zite1, ↓reduceIte, Nat.one_ne_zero]
      refine qsm_pls (n := 3) (k' := 30) (lo' := [some (.ref 1), some (.int 1)]) (S' := [.retAddr 83, .ref 1]) (h' := h286) rfl ?_
      first
        | refine qsm_call hc286 (qim_up (qi_copy (d := d) (k := 83) ht (by decide)) (by omega)) rfl rfl rfl rfl rfl rfl rfl rfl (ai_rcv1 rfl rfl (qcs_obj hc286)) (fun v287 s287 h287 f287 hc287 => ?_)
        | refine qsm_callL hc286 (qim_up (qi_copy (d := d) (k := 83) ht (by decide)) (by omega)) rfl rfl rfl rfl rfl rfl rfl rfl (ai_rcv1 rfl rfl (qcs_obj hc286)) (fun v287 s287 h287 f287 hc287 => ?_)
      show qsm L xs e Y bc bs _ qm_73 31 [some (.ref 1), some (.int 1)] [] h287 _ _ _
      try simp only [zq, zi, zc, zv, zf, zbd_zbd, zbd_some, zbd_fault, zbd_none, zite0, zite1, ↓reduceIte, Nat.one_ne_zero]
      exact qsm_ret7 hc287 rfl
    · subst e284
      show qsm L xs e Y bc bs _ qm_73 20 [some (.ref 1), some (.int 1)] [.int 1] h284 _ _ _
      try simp only [zq, zi, zc, zv, zf, zbd_zbd, zbd_some, zbd_fault, zbd_none, zite0, zite1, ↓reduceIte, Nat.one_ne_zero]
      refine qsm_if true rfl (rfl) rfl ?_
      refine qsm_pls (n := 2) (k' := 30) (lo' := [some (.ref 1), some (.int 1)]) (S' := [.retAddr 83, .ref 1]) (h' := h284) rfl ?_
      first
        | refine qsm_call hc284 (qim_up (qi_copy (d := d) (k := 83) ht (by decide)) (by omega)) rfl rfl rfl rfl rfl rfl rfl rfl (ai_rcv1 rfl rfl (qcs_obj hc284)) (fun v288 s288 h288 f288 hc288 => ?_)
        | refine qsm_callL hc284 (qim_up (qi_copy (d := d) (k := 83) ht (by decide)) (by omega)) rfl rfl rfl rfl rfl rfl rfl rfl (ai_rcv1 rfl rfl (qcs_obj hc284)) (fun v288 s288 h288 f288 hc288 => ?_)
      show qsm L xs e Y bc bs _ qm_73 31 [some (.ref 1), some (.int 1)] [] h288 _ _ _
      try simp only [zq, zi, zc, zv, zf, zbd_zbd, zbd_some, zbd_fault, zbd_none, zite0, zite1, ↓reduceIte, Nat.one_ne_zero]
      exact qsm_ret7 hc288 rfl
  · first | rw [if_neg t281] | rw [zci_F t281] | skip
    try simp only [zq, zi, zc, zv, zf, zbd_zbd, zbd_some, zbd_fault, zbd_none, zite0, zite1, ↓reduceIte, Nat.one_ne_zero]
    refine qsm_acmp true rfl (qzk (hlt _) (by decide)) (qa_neT t281) rfl ?_
    refine qsm_pls (n := 4) (k' := 10) (lo' := [some (.ref 1), some (.int 0)]) (S' := [.ref 1, .ref 1]) (h' := h) rfl ?_
    refine qsm_getf (v := .retAddr (ztk e s.1)) rfl (qcs_obj hc) rfl rfl rfl ?_
    first
      | refine qsm_call hc (qim_up (qi_copy (d := d) (k := (ztk e s.1)) ht (hlt _)) (by omega)) rfl rfl rfl rfl rfl rfl rfl rfl (ai_rcv1 rfl rfl (qcs_obj hc)) (fun v289 s289 h289 f289 hc289 => ?_)
      | refine qsm_callL hc (qim_up (qi_copy (d := d) (k := (ztk e s.1)) ht (hlt _)) (by omega)) rfl rfl rfl rfl rfl rfl rfl rfl (ai_rcv1 rfl rfl (qcs_obj hc)) (fun v289 s289 h289 f289 hc289 => ?_)
    show qsm L xs e Y bc bs _ qm_73 12 [some (.ref 1), some (.int 0)] [] h289 _ _ _
    try simp only [zq, zi, zc, zv, zf, zbd_zbd, zbd_some, zbd_fault, zbd_none, zite0, zite1, ↓reduceIte, Nat.one_ne_zero]
    refine qsm_pls (n := 2) (k' := 14) (lo' := [some (.ref 1), some (.int 0)]) (S' := [.retAddr 82, .ref 1]) (h' := h289) rfl ?_
    first
      | refine qsm_call hc289 (qim_up (qi_copy (d := d) (k := 82) ht (by decide)) (by omega)) rfl rfl rfl rfl rfl rfl rfl rfl (ai_rcv1 rfl rfl (qcs_obj hc289)) (fun v290 s290 h290 f290 hc290 => ?_)
      | refine qsm_callL hc289 (qim_up (qi_copy (d := d) (k := 82) ht (by decide)) (by omega)) rfl rfl rfl rfl rfl rfl rfl rfl (ai_rcv1 rfl rfl (qcs_obj hc289)) (fun v290 s290 h290 f290 hc290 => ?_)
    show qsm L xs e Y bc bs _ qm_73 15 [some (.ref 1), some (.int 0)] [] h290 _ _ _
    try simp only [zq, zi, zc, zv, zf, zbd_zbd, zbd_some, zbd_fault, zbd_none, zite0, zite1, ↓reduceIte, Nat.one_ne_zero]
    refine qsm_pls (n := 1) (k' := 16) (lo' := [some (.ref 1), some (.int 0)]) (S' := [.int 0]) (h' := h290) rfl ?_
    refine qsm_if true rfl (rfl) rfl ?_
    refine qsm_pls (n := 2) (k' := 23) (lo' := [some (.ref 1), some (.int 0)]) (S' := [.retAddr 22, .ref 1]) (h' := h290) rfl ?_
    first
      | refine qsm_call hc290 (qim_up (qi_copyIf (d := d) (k := 22) ht (by decide)) (by omega)) rfl rfl rfl rfl rfl rfl rfl rfl (ai_rcv1 rfl rfl (qcs_obj hc290)) (fun v291 s291 h291 f291 hc291 => ?_)
      | refine qsm_callL hc290 (qim_up (qi_copyIf (d := d) (k := 22) ht (by decide)) (by omega)) rfl rfl rfl rfl rfl rfl rfl rfl (ai_rcv1 rfl rfl (qcs_obj hc290)) (fun v291 s291 h291 f291 hc291 => ?_)
    show qsm L xs e Y bc bs _ qm_73 24 [some (.ref 1), some (.int 0)] [.int (nI v291)] h291 _ _ _
    try simp only [zq, zi, zc, zv, zf, zbd_zbd, zbd_some, zbd_fault, zbd_none, zite0, zite1, ↓reduceIte, Nat.one_ne_zero]
    refine qsm_pls (n := 2) (k' := 26) (lo' := [some (.ref 1), some (.int 0)]) (S' := [.ref 1]) (h' := h291) rfl ?_
    first
      | refine qsm_call hc291 (qim_up (hex) (by omega)) rfl rfl rfl rfl rfl rfl rfl rfl (ai_rcv1 rfl rfl (qcs_obj hc291)) (fun v292 s292 h292 f292 hc292 => ?_)
      | refine qsm_callL hc291 (qim_up (hex) (by omega)) rfl rfl rfl rfl rfl rfl rfl rfl (ai_rcv1 rfl rfl (qcs_obj hc291)) (fun v292 s292 h292 f292 hc292 => ?_)
    show qsm L xs e Y bc bs _ qm_73 27 [some (.ref 1), some (.int 0)] [.int (nI v292)] h292 _ _ _
    try simp only [zq, zi, zc, zv, zf, zbd_zbd, zbd_some, zbd_fault, zbd_none, zite0, zite1, ↓reduceIte, Nat.one_ne_zero]
    refine qsm_pls (n := 3) (k' := 30) (lo' := [some (.ref 1), some (.int 0)]) (S' := [.retAddr 83, .ref 1]) (h' := h292) rfl ?_
    first
      | refine qsm_call hc292 (qim_up (qi_copy (d := d) (k := 83) ht (by decide)) (by omega)) rfl rfl rfl rfl rfl rfl rfl rfl (ai_rcv1 rfl rfl (qcs_obj hc292)) (fun v293 s293 h293 f293 hc293 => ?_)
      | refine qsm_callL hc292 (qim_up (qi_copy (d := d) (k := 83) ht (by decide)) (by omega)) rfl rfl rfl rfl rfl rfl rfl rfl (ai_rcv1 rfl rfl (qcs_obj hc292)) (fun v293 s293 h293 f293 hc293 => ?_)
    show qsm L xs e Y bc bs _ qm_73 31 [some (.ref 1), some (.int 0)] [] h293 _ _ _
    try simp only [zq, zi, zc, zv, zf, zbd_zbd, zbd_some, zbd_fault, zbd_none, zite0, zite1, ↓reduceIte, Nat.one_ne_zero]
    exact qsm_ret7 hc293 rfl
/-- Grammar.members() -/
theorem qs_members (ht : qtk e Y) (hex : qim L xs e Y bc bs d 55 [.ref 1] 1 ex) (hqy : qim L xs e Y bc bs d 62 [.ref 1] 0 qy) : qim L xs e Y bc bs (d + 8) 78 [.ref 1] 0 (z_members e ex qy) := by
  have hlt := qtk_lt ht
  refine qim_of (M := qm_78) rfl rfl (fun P s h hc => ?_)
  show qsm L xs e Y bc bs _ qm_78 0 [some (.ref 1)] [] h _ _ _
  simp only [z_members, zq, zi, zc, zv, zf, zbd_zbd, zbd_some, zbd_fault, zbd_none, zite0, zite1, ↓reduceIte, Nat.one_ne_zero]
  try simp only [zq, zi, zc, zv, zf, zbd_zbd, zbd_some, zbd_fault, zbd_none, zite0, zite1, ↓reduceIte, Nat.one_ne_zero]
  refine qsm_pls (n := 2) (k' := 2) (lo' := [some (.ref 1)]) (S' := [.retAddr 82, .ref 1]) (h' := h) rfl ?_
  first
    | refine qsm_call hc (qim_up (qi_copy (d := d) (k := 82) ht (by decide)) (by omega)) rfl rfl rfl rfl rfl rfl rfl rfl (ai_rcv1 rfl rfl (qcs_obj hc)) (fun v294 s294 h294 f294 hc294 => ?_)
    | refine qsm_callL hc (qim_up (qi_copy (d := d) (k := 82) ht (by decide)) (by omega)) rfl rfl rfl rfl rfl rfl rfl rfl (ai_rcv1 rfl rfl (qcs_obj hc)) (fun v294 s294 h294 f294 hc294 => ?_)
  show qsm L xs e Y bc bs _ qm_78 3 [some (.ref 1)] [] h294 _ _ _
  try simp only [zq, zi, zc, zv, zf, zbd_zbd, zbd_some, zbd_fault, zbd_none, zite0, zite1, ↓reduceIte, Nat.one_ne_zero]
  refine qsm_pls (n := 1) (k' := 4) (lo' := [some (.ref 1)]) (S' := [.ref 1]) (h' := h294) rfl ?_
  refine qsm_getf (v := .retAddr (ztk e s294.1)) rfl (qcs_obj hc294) rfl rfl rfl ?_
  refine qsm_pls (n := 1) (k' := 6) (lo' := [some (.ref 1)]) (S' := [.retAddr 65, .retAddr (ztk e s294.1)]) (h' := h294) rfl ?_
  by_cases t295 : ztk e s294.1 = 65
  · first | rw [if_pos t295] | rw [zci_T t295] | skip
    try simp only [zq, zi, zc, zv, zf, zbd_zbd, zbd_some, zbd_fault, zbd_none, zite0, zite1, ↓reduceIte, Nat.one_ne_zero]
    refine qsm_acmp false rfl (qzk (hlt _) (by decide)) (qa_neF t295) rfl ?_
    refine qsm_pls (n := 1) (k' := 8) (lo' := [some (.ref 1)]) (S' := [.ref 1]) (h' := h294) rfl ?_
    first
      | refine qsm_call hc294 (qim_up (hqy) (by omega)) rfl rfl rfl rfl rfl rfl rfl rfl (ai_rcv1 rfl rfl (qcs_obj hc294)) (fun v296 s296 h296 f296 hc296 => ?_)
      | refine qsm_callL hc294 (qim_up (hqy) (by omega)) rfl rfl rfl rfl rfl rfl rfl rfl (ai_rcv1 rfl rfl (qcs_obj hc294)) (fun v296 s296 h296 f296 hc296 => ?_)
    show qsm L xs e Y bc bs _ qm_78 9 [some (.ref 1)] [] h296 _ _ _
    try simp only [zq, zi, zc, zv, zf, zbd_zbd, zbd_some, zbd_fault, zbd_none, zite0, zite1, ↓reduceIte, Nat.one_ne_zero]
    refine qsm_pls (n := 3) (k' := 14) (lo' := [some (.ref 1)]) (S' := [.retAddr 83, .ref 1]) (h' := h296) rfl ?_
    first
      | refine qsm_call hc296 (qim_up (qi_copy (d := d) (k := 83) ht (by decide)) (by omega)) rfl rfl rfl rfl rfl rfl rfl rfl (ai_rcv1 rfl rfl (qcs_obj hc296)) (fun v297 s297 h297 f297 hc297 => ?_)
      | refine qsm_callL hc296 (qim_up (qi_copy (d := d) (k := 83) ht (by decide)) (by omega)) rfl rfl rfl rfl rfl rfl rfl rfl (ai_rcv1 rfl rfl (qcs_obj hc296)) (fun v297 s297 h297 f297 hc297 => ?_)
    show qsm L xs e Y bc bs _ qm_78 15 [some (.ref 1)] [] h297 _ _ _
    try simp only [zq, zi, zc, zv, zf, zbd_zbd, zbd_some, zbd_fault, zbd_none, zite0, zite1, ↓reduceIte, Nat.one_ne_zero]
    exact qsm_ret7 hc297 rfl
  · first | rw [if_neg t295] | rw [zci_F t295] | skip
    try simp only [zq, zi, zc, zv, zf, zbd_zbd, zbd_some, zbd_fault, zbd_none, zite0, zite1, ↓reduceIte, Nat.one_ne_zero]
    refine qsm_acmp true rfl (qzk (hlt _) (by decide)) (qa_neT t295) rfl ?_
    refine qsm_pls (n := 1) (k' := 11) (lo' := [some (.ref 1)]) (S' := [.ref 1]) (h' := h294) rfl ?_
    first
      | refine qsm_call hc294 (qim_up (qs_exs (d := d) ht hex) (by omega)) rfl rfl rfl rfl rfl rfl rfl rfl (ai_rcv1 rfl rfl (qcs_obj hc294)) (fun v298 s298 h298 f298 hc298 => ?_)
      | refine qsm_callL hc294 (qim_up (qs_exs (d := d) ht hex) (by omega)) rfl rfl rfl rfl rfl rfl rfl rfl (ai_rcv1 rfl rfl (qcs_obj hc294)) (fun v298 s298 h298 f298 hc298 => ?_)
    show qsm L xs e Y bc bs _ qm_78 12 [some (.ref 1)] [] h298 _ _ _
    try simp only [zq, zi, zc, zv, zf, zbd_zbd, zbd_some, zbd_fault, zbd_none, zite0, zite1, ↓reduceIte, Nat.one_ne_zero]
    refine qsm_pls (n := 2) (k' := 14) (lo' := [some (.ref 1)]) (S' := [.retAddr 83, .ref 1]) (h' := h298) rfl ?_
    first
      | refine qsm_call hc298 (qim_up (qi_copy (d := d) (k := 83) ht (by decide)) (by omega)) rfl rfl rfl rfl rfl rfl rfl rfl (ai_rcv1 rfl rfl (qcs_obj hc298)) (fun v299 s299 h299 f299 hc299 => ?_)
      | refine qsm_callL hc298 (qim_up (qi_copy (d := d) (k := 83) ht (by decide)) (by omega)) rfl rfl rfl rfl rfl rfl rfl rfl (ai_rcv1 rfl rfl (qcs_obj hc298)) (fun v299 s299 h299 f299 hc299 => ?_)
    show qsm L xs e Y bc bs _ qm_78 15 [some (.ref 1)] [] h299 _ _ _
    try simp only [zq, zi, zc, zv, zf, zbd_zbd, zbd_some, zbd_fault, zbd_none, zite0, zite1, ↓reduceIte, Nat.one_ne_zero]
    exact qsm_ret7 hc299 rfl
end QSE
