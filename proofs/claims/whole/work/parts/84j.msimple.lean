/-! THE MODEL'S STATEMENTS. (Printed by wip/whole/pp.py from wip/whole/src.) -/
section MSI
variable {L : Nat} {xs : Nat → Int32} {d : Nat} {h h' : ai_H} {e : zE} {Y : Nat → Option ai_C} {K : mK} {W P : zK} {s s' : zS} {ex qy : zP}
theorem mcs_rcv (hc : mcs e Y K P s h) : ∃ fs, h.1[14]? = some (ai_obj 5 fs) := by
  obtain ⟨kept, bg, en, md, hob⟩ := mcs_obj hc
  exact ⟨_, hob⟩
theorem zci_eq {k : Nat} {s : zS} : zci e k s = if ztk e s.1 = k then zbd (zcp e k s) (fun _ s1 => some (some 1, s1)) else some (some 0, s) := by
  by_cases h1 : ztk e s.1 = k
  · rw [if_pos h1, zci_T h1]
  · rw [if_neg h1, zci_F h1]
theorem zsi_eq {k : Nat} {s : zS} : zsi e k s = if ztk e s.1 = k then zbd (zstep e s) (fun _ s1 => some (some 1, s1)) else some (some 0, s) := rfl
theorem zsk_eq {k : Nat} {s : zS} : zsk e k s = if ztk e s.1 = k then zstep e s else some (none, s) := rfl
/-- a word that may be there, and is -/
theorem msm_took {M : ai_M} {k : Nat} {lo : ai_L} {S : List Value} {md kk : Nat} {g : Nat → zS → zR Nat} {pc len n mi : Nat} {i : Instr} {rs : List Int} {nm : String} {as S0 : List Value} (hc : mcs e Y K P s h) (him : mim L xs e Y K d mi as 1 (zci e kk)) (ht : ztk e s.1 = kk) (hk : (ai_Mc M)[k]? = some (pc, i, len, 1, rs, nm)) (hmi : (ai_nth (1, rs, nm) 0).toNat = mi) (hn : (ai_nth (1, rs, nm) 1).toNat = n) (has : (S.take n).reverse = as) (hS0 : S.drop n = S0) (hw : Nat.ble (ai_wt S0) 8 = true) (hle : Nat.ble n S.length = true) (hx : ai_catch (ai_Mh M) k = none) (hrc : ai_rcv (qr_Z L xs) (1, rs, nm) as.head? h = true)
    (hs : ∀ v s1 h1, zcp e kk s = some (some v, s1) → mcs e Y K P s1 h1 → msm L xs e Y K d M (k + 1) lo (.int 1 :: S0) h1 md P (g v s1)) : msm L xs e Y K d M k lo S h md P (zbd (zcp e kk s) g) := by
  intro v s' hr
  rcases zbd_inv hr with ⟨h1, rfl⟩ | ⟨a, s1, h1, h2⟩
  · have hz : zci e kk s = some (none, s') := by rw [zci_T ht, h1]; rfl
    obtain ⟨h1', g1, g2⟩ := him P s h _ _ hc hz
    exact ⟨h1', qg_callT hk hmi hn has hS0 hw hle hrc hx g1, g2⟩
  · have hz : zci e kk s = some (some 1, s1) := by rw [zci_T ht, h1]; rfl
    obtain ⟨h1', g1, g2⟩ := him P s h _ _ hc hz
    obtain ⟨h2', g3, g4⟩ := hs a s1 h1' h1 g2 v s' h2
    exact ⟨h2', qg_call hk hmi hn has hS0 hw hle hrc g1 g3, g4⟩
/-- and isn't -/
theorem msm_left {M : ai_M} {k : Nat} {lo : ai_L} {S : List Value} {md kk : Nat} {r : zR Nat} {pc len n mi : Nat} {i : Instr} {rs : List Int} {nm : String} {as S0 : List Value} (hc : mcs e Y K P s h) (him : mim L xs e Y K d mi as 1 (zci e kk)) (ht : ¬ ztk e s.1 = kk) (hk : (ai_Mc M)[k]? = some (pc, i, len, 1, rs, nm)) (hmi : (ai_nth (1, rs, nm) 0).toNat = mi) (hn : (ai_nth (1, rs, nm) 1).toNat = n) (has : (S.take n).reverse = as) (hS0 : S.drop n = S0) (hw : Nat.ble (ai_wt S0) 8 = true) (hle : Nat.ble n S.length = true) (hx : ai_catch (ai_Mh M) k = none) (hrc : ai_rcv (qr_Z L xs) (1, rs, nm) as.head? h = true)
    (hs : ∀ h1, mcs e Y K P s h1 → msm L xs e Y K d M (k + 1) lo (.int 0 :: S0) h1 md P r) : msm L xs e Y K d M k lo S h md P r := by
  intro v s' hr
  obtain ⟨h1', g1, g2⟩ := him P s h _ _ hc (zci_F ht)
  obtain ⟨h2', g3, g4⟩ := hs h1' g2 v s' hr
  exact ⟨h2', qg_call hk hmi hn has hS0 hw hle hrc g1 g3, g4⟩
theorem zcp_no {k : Nat} {s : zS} (h : ¬ ztk e s.1 = k) : zcp e k s = some (none, s) := by
  unfold zcp zc
  rw [if_neg h]; rfl
theorem znm_no {s : zS} (h : ¬ ztk e s.1 = 99) : znm e s = some (none, s) := by
  unfold znm zc
  rw [if_neg h]; rfl
theorem znu_no {s : zS} (h : ¬ ztk e s.1 = 100) : znu e s = some (none, s) := by
  unfold znu zc
  rw [if_neg h]; rfl
theorem msm_threw {M : ai_M} {k : Nat} {lo : ai_L} {S : List Value} {md mdc : Nat} {f : zP} {pc len n mi : Nat} {i : Instr} {rs : List Int} {nm : String} {as S0 : List Value} (hc : mcs e Y K P s h) (him : mim L xs e Y K d mi as mdc f) (hf : f s = some (none, s)) (hk : (ai_Mc M)[k]? = some (pc, i, len, 1, rs, nm)) (hmi : (ai_nth (1, rs, nm) 0).toNat = mi) (hn : (ai_nth (1, rs, nm) 1).toNat = n) (has : (S.take n).reverse = as) (hS0 : S.drop n = S0) (hw : Nat.ble (ai_wt S0) 8 = true) (hle : Nat.ble n S.length = true) (hx : ai_catch (ai_Mh M) k = none) (hrc : ai_rcv (qr_Z L xs) (1, rs, nm) as.head? h = true) : msm L xs e Y K d M k lo S h md P (some (none, s)) := by
  intro v s' hr
  cases hr
  obtain ⟨h1', g1, g2⟩ := him P s h _ _ hc hf
  exact ⟨h1', qg_callT hk hmi hn has hS0 hw hle hrc hx g1, g2⟩
/-- QueryReaderModel.type -/
theorem ms_type (ht : mtk e Y) : mim L xs e Y K (d + 9) 151 [.ref 14] 0 (z_type e) := by
  refine mim_of (M := qm_151) rfl rfl (fun P s h hc => ?_)
  show msm L xs e Y K _ qm_151 0 [some (.ref 14)] [] h _ _ _
  simp only [z_type, zq, zi, zc, zv, zf, zci_eq, zsi_eq, zsk_eq, zbd_zbd, zbd_some, zbd_fault, zbd_none, zite0, zite1, ↓reduceIte, Nat.one_ne_zero, Nat.reduceEqDiff]
  refine msm_pls (n := 2) (k' := 2) (lo' := [some (.ref 14)]) (S' := [.retAddr 1050, .ref 14]) (h' := h) rfl ?_
  by_cases t1 : ztk e s.1 = 35
  · skip
    try simp only [zq, zi, zc, zv, zf, zci_eq, zsi_eq, zsk_eq, zbd_zbd, zbd_some, zbd_fault, zbd_none, zite0, zite1, ↓reduceIte, Nat.one_ne_zero, Nat.reduceEqDiff, t1]
    refine msm_took hc (mim_up (mi_takes (d := d) (k := 35) ht (by decide) (by decide)) (by omega)) t1 rfl rfl rfl rfl rfl rfl rfl rfl (ai_rcv1 rfl rfl (mcs_rcv hc).choose_spec) (fun v2 s2 h2 f2 hc2 => ?_)
    show msm L xs e Y K _ qm_151 3 [some (.ref 14)] [.int 1] h2 _ _ _
    try simp only [zq, zi, zc, zv, zf, zci_eq, zsi_eq, zsk_eq, zbd_zbd, zbd_some, zbd_fault, zbd_none, zite0, zite1, ↓reduceIte, Nat.one_ne_zero, Nat.reduceEqDiff]
    refine msm_if true rfl (rfl) rfl ?_
    exact msm_ret7 hc2 rfl
  · skip
    try simp only [zq, zi, zc, zv, zf, zci_eq, zsi_eq, zsk_eq, zbd_zbd, zbd_some, zbd_fault, zbd_none, zite0, zite1, ↓reduceIte, Nat.one_ne_zero, Nat.reduceEqDiff, t1]
    refine msm_left hc (mim_up (mi_takes (d := d) (k := 35) ht (by decide) (by decide)) (by omega)) t1 rfl rfl rfl rfl rfl rfl rfl rfl (ai_rcv1 rfl rfl (mcs_rcv hc).choose_spec) (fun h3 hc3 => ?_)
    show msm L xs e Y K _ qm_151 3 [some (.ref 14)] [.int 0] h3 _ _ _
    refine msm_if false rfl (rfl) rfl ?_
    refine msm_pls (n := 2) (k' := 6) (lo' := [some (.ref 14)]) (S' := [.retAddr 1086, .ref 14]) (h' := h3) rfl ?_
    by_cases t4 : ztk e s.1 = 72
    · skip
      try simp only [zq, zi, zc, zv, zf, zci_eq, zsi_eq, zsk_eq, zbd_zbd, zbd_some, zbd_fault, zbd_none, zite0, zite1, ↓reduceIte, Nat.one_ne_zero, Nat.reduceEqDiff, t1, t4]
      first
        | refine msm_call hc3 (mim_up (mi_word (d := d) (k := 72) ht (by decide) (by decide)) (by omega)) rfl rfl rfl rfl rfl rfl rfl rfl (ai_rcv1 rfl rfl (mcs_rcv hc3).choose_spec) (fun v5 s5 h5 f5 hc5 => ?_)
        | refine msm_callL hc3 (mim_up (mi_word (d := d) (k := 72) ht (by decide) (by decide)) (by omega)) rfl rfl rfl rfl rfl rfl rfl rfl (ai_rcv1 rfl rfl (mcs_rcv hc3).choose_spec) (fun v5 s5 h5 f5 hc5 => ?_)
      show msm L xs e Y K _ qm_151 7 [some (.ref 14)] [] h5 _ _ _
      try simp only [zq, zi, zc, zv, zf, zci_eq, zsi_eq, zsk_eq, zbd_zbd, zbd_some, zbd_fault, zbd_none, zite0, zite1, ↓reduceIte, Nat.one_ne_zero, Nat.reduceEqDiff]
      exact msm_ret7 hc5 rfl
    · simp only [zq, zi, zc, zv, zf, zci_eq, zsi_eq, zsk_eq, zbd_zbd, zbd_some, zbd_fault, zbd_none, zite0, zite1, ↓reduceIte, Nat.one_ne_zero, Nat.reduceEqDiff, t1, t4, zcp_no t1, zcp_no t4]
      exact msm_threw hc3 (mim_up (mi_word (d := d) (k := 72) ht (by decide) (by decide)) (by omega)) (zcp_no t4) rfl rfl rfl rfl rfl rfl rfl rfl (ai_rcv1 rfl rfl (mcs_rcv hc3).choose_spec)
theorem ms_where (ht : mtk e Y) (hex : mim L xs e Y K d 140 [.ref 14] 0 ex) : mim L xs e Y K (d + 9) 168 [.ref 14] 0 (z_cond e ex) := by
  refine mim_of (M := qm_168) rfl rfl (fun P s h hc => ?_)
  show msm L xs e Y K _ qm_168 0 [some (.ref 14)] [] h _ _ _
  simp only [z_cond, zq, zi, zc, zv, zf, zci_eq, zsi_eq, zsk_eq, zbd_zbd, zbd_some, zbd_fault, zbd_none, zite0, zite1, ↓reduceIte, Nat.one_ne_zero, Nat.reduceEqDiff]
  refine msm_pls (n := 2) (k' := 2) (lo' := [some (.ref 14)]) (S' := [.retAddr 1095, .ref 14]) (h' := h) rfl ?_
  by_cases t6 : ztk e s.1 = 81
  · skip
    try simp only [zq, zi, zc, zv, zf, zci_eq, zsi_eq, zsk_eq, zbd_zbd, zbd_some, zbd_fault, zbd_none, zite0, zite1, ↓reduceIte, Nat.one_ne_zero, Nat.reduceEqDiff, t6]
    refine msm_took hc (mim_up (mi_takes (d := d) (k := 81) ht (by decide) (by decide)) (by omega)) t6 rfl rfl rfl rfl rfl rfl rfl rfl (ai_rcv1 rfl rfl (mcs_rcv hc).choose_spec) (fun v7 s7 h7 f7 hc7 => ?_)
    show msm L xs e Y K _ qm_168 3 [some (.ref 14)] [.int 1] h7 _ _ _
    try simp only [zq, zi, zc, zv, zf, zci_eq, zsi_eq, zsk_eq, zbd_zbd, zbd_some, zbd_fault, zbd_none, zite0, zite1, ↓reduceIte, Nat.one_ne_zero, Nat.reduceEqDiff]
    refine msm_if false rfl (rfl) rfl ?_
    refine msm_pls (n := 1) (k' := 5) (lo' := [some (.ref 14)]) (S' := [.ref 14]) (h' := h7) rfl ?_
    first
      | refine msm_call hc7 (mim_up (hex) (by omega)) rfl rfl rfl rfl rfl rfl rfl rfl (ai_rcv1 rfl rfl (mcs_rcv hc7).choose_spec) (fun v8 s8 h8 f8 hc8 => ?_)
      | refine msm_callL hc7 (mim_up (hex) (by omega)) rfl rfl rfl rfl rfl rfl rfl rfl (ai_rcv1 rfl rfl (mcs_rcv hc7).choose_spec) (fun v8 s8 h8 f8 hc8 => ?_)
    show msm L xs e Y K _ qm_168 6 [some (.ref 14)] [] h8 _ _ _
    try simp only [zq, zi, zc, zv, zf, zci_eq, zsi_eq, zsk_eq, zbd_zbd, zbd_some, zbd_fault, zbd_none, zite0, zite1, ↓reduceIte, Nat.one_ne_zero, Nat.reduceEqDiff]
    exact msm_ret7 hc8 rfl
  · skip
    try simp only [zq, zi, zc, zv, zf, zci_eq, zsi_eq, zsk_eq, zbd_zbd, zbd_some, zbd_fault, zbd_none, zite0, zite1, ↓reduceIte, Nat.one_ne_zero, Nat.reduceEqDiff, t6]
    refine msm_left hc (mim_up (mi_takes (d := d) (k := 81) ht (by decide) (by decide)) (by omega)) t6 rfl rfl rfl rfl rfl rfl rfl rfl (ai_rcv1 rfl rfl (mcs_rcv hc).choose_spec) (fun h9 hc9 => ?_)
    show msm L xs e Y K _ qm_168 3 [some (.ref 14)] [.int 0] h9 _ _ _
    refine msm_if true rfl (rfl) rfl ?_
    exact msm_ret7 hc9 rfl
theorem ms_alias (ht : mtk e Y) : mim L xs e Y K (d + 9) 162 [.ref 14] 0 (z_alias e) := by
  refine mim_of (M := qm_162) rfl rfl (fun P s h hc => ?_)
  show msm L xs e Y K _ qm_162 0 [some (.ref 14)] [] h _ _ _
  simp only [z_alias, zq, zi, zc, zv, zf, zci_eq, zsi_eq, zsk_eq, zbd_zbd, zbd_some, zbd_fault, zbd_none, zite0, zite1, ↓reduceIte, Nat.one_ne_zero, Nat.reduceEqDiff]
  refine msm_pls (n := 2) (k' := 2) (lo' := [some (.ref 14)]) (S' := [.retAddr 1018, .ref 14]) (h' := h) rfl ?_
  by_cases t10 : ztk e s.1 = 3
  · skip
    try simp only [zq, zi, zc, zv, zf, zci_eq, zsi_eq, zsk_eq, zbd_zbd, zbd_some, zbd_fault, zbd_none, zite0, zite1, ↓reduceIte, Nat.one_ne_zero, Nat.reduceEqDiff, t10]
    refine msm_took hc (mim_up (mi_takes (d := d) (k := 3) ht (by decide) (by decide)) (by omega)) t10 rfl rfl rfl rfl rfl rfl rfl rfl (ai_rcv1 rfl rfl (mcs_rcv hc).choose_spec) (fun v11 s11 h11 f11 hc11 => ?_)
    show msm L xs e Y K _ qm_162 3 [some (.ref 14)] [.int 1] h11 _ _ _
    try simp only [zq, zi, zc, zv, zf, zci_eq, zsi_eq, zsk_eq, zbd_zbd, zbd_some, zbd_fault, zbd_none, zite0, zite1, ↓reduceIte, Nat.one_ne_zero, Nat.reduceEqDiff]
    refine msm_if false rfl (rfl) rfl ?_
    refine msm_pls (n := 2) (k' := 6) (lo' := [some (.ref 14)]) (S' := [.int 2, .ref 14]) (h' := h11) rfl ?_
    first
      | refine msm_call hc11 (mim_up (mi_name (d := d) ht) (by omega)) rfl rfl rfl rfl rfl rfl rfl rfl (ai_rcv1 rfl rfl (mcs_rcv hc11).choose_spec) (fun v12 s12 h12 f12 hc12 => ?_)
      | refine msm_callL hc11 (mim_up (mi_name (d := d) ht) (by omega)) rfl rfl rfl rfl rfl rfl rfl rfl (ai_rcv1 rfl rfl (mcs_rcv hc11).choose_spec) (fun v12 s12 h12 f12 hc12 => ?_)
    show msm L xs e Y K _ qm_162 7 [some (.ref 14)] [] h12 _ _ _
    try simp only [zq, zi, zc, zv, zf, zci_eq, zsi_eq, zsk_eq, zbd_zbd, zbd_some, zbd_fault, zbd_none, zite0, zite1, ↓reduceIte, Nat.one_ne_zero, Nat.reduceEqDiff]
    exact msm_ret7 hc12 rfl
  · skip
    try simp only [zq, zi, zc, zv, zf, zci_eq, zsi_eq, zsk_eq, zbd_zbd, zbd_some, zbd_fault, zbd_none, zite0, zite1, ↓reduceIte, Nat.one_ne_zero, Nat.reduceEqDiff, t10]
    refine msm_left hc (mim_up (mi_takes (d := d) (k := 3) ht (by decide) (by decide)) (by omega)) t10 rfl rfl rfl rfl rfl rfl rfl rfl (ai_rcv1 rfl rfl (mcs_rcv hc).choose_spec) (fun h13 hc13 => ?_)
    show msm L xs e Y K _ qm_162 3 [some (.ref 14)] [.int 0] h13 _ _ _
    refine msm_if true rfl (rfl) rfl ?_
    exact msm_ret7 hc13 rfl
theorem ms_source (ht : mtk e Y) : mim L xs e Y K (d + 10) 163 [.ref 14] 0 (z_source e) := by
  refine mim_of (M := qm_163) rfl rfl (fun P s h hc => ?_)
  show msm L xs e Y K _ qm_163 0 [some (.ref 14)] [] h _ _ _
  simp only [z_source, zq, zi, zc, zv, zf, zci_eq, zsi_eq, zsk_eq, zbd_zbd, zbd_some, zbd_fault, zbd_none, zite0, zite1, ↓reduceIte, Nat.one_ne_zero, Nat.reduceEqDiff]
  refine msm_pls (n := 2) (k' := 2) (lo' := [some (.ref 14)]) (S' := [.int 2, .ref 14]) (h' := h) rfl ?_
  first
    | refine msm_call hc (mim_up (mi_name (d := d) ht) (by omega)) rfl rfl rfl rfl rfl rfl rfl rfl (ai_rcv1 rfl rfl (mcs_rcv hc).choose_spec) (fun v14 s14 h14 f14 hc14 => ?_)
    | refine msm_callL hc (mim_up (mi_name (d := d) ht) (by omega)) rfl rfl rfl rfl rfl rfl rfl rfl (ai_rcv1 rfl rfl (mcs_rcv hc).choose_spec) (fun v14 s14 h14 f14 hc14 => ?_)
  show msm L xs e Y K _ qm_163 3 [some (.ref 14)] [] h14 _ _ _
  try simp only [zq, zi, zc, zv, zf, zci_eq, zsi_eq, zsk_eq, zbd_zbd, zbd_some, zbd_fault, zbd_none, zite0, zite1, ↓reduceIte, Nat.one_ne_zero, Nat.reduceEqDiff]
  refine msm_pls (n := 1) (k' := 4) (lo' := [some (.ref 14)]) (S' := [.ref 14]) (h' := h14) rfl ?_
  first
    | refine msm_call hc14 (mim_up (ms_alias (d := d) ht) (by omega)) rfl rfl rfl rfl rfl rfl rfl rfl (ai_rcv1 rfl rfl (mcs_rcv hc14).choose_spec) (fun v15 s15 h15 f15 hc15 => ?_)
    | refine msm_callL hc14 (mim_up (ms_alias (d := d) ht) (by omega)) rfl rfl rfl rfl rfl rfl rfl rfl (ai_rcv1 rfl rfl (mcs_rcv hc14).choose_spec) (fun v15 s15 h15 f15 hc15 => ?_)
  show msm L xs e Y K _ qm_163 5 [some (.ref 14)] [] h15 _ _ _
  try simp only [zq, zi, zc, zv, zf, zci_eq, zsi_eq, zsk_eq, zbd_zbd, zbd_some, zbd_fault, zbd_none, zite0, zite1, ↓reduceIte, Nat.one_ne_zero, Nat.reduceEqDiff]
  exact msm_ret7 hc15 rfl
theorem ms_check (ht : mtk e Y) (hex : mim L xs e Y K d 140 [.ref 14] 0 ex) : mim L xs e Y K (d + 10) 173 [.ref 14] 0 (z_brex e ex) := by
  refine mim_of (M := qm_173) rfl rfl (fun P s h hc => ?_)
  show msm L xs e Y K _ qm_173 0 [some (.ref 14)] [] h _ _ _
  simp only [z_brex, zq, zi, zc, zv, zf, zci_eq, zsi_eq, zsk_eq, zbd_zbd, zbd_some, zbd_fault, zbd_none, zite0, zite1, ↓reduceIte, Nat.one_ne_zero, Nat.reduceEqDiff]
  refine msm_pls (n := 1) (k' := 1) (lo' := [some (.ref 14)]) (S' := [.ref 14]) (h' := h) rfl ?_
  first
    | refine msm_call hc (mim_up (mi_open (d := d) ht) (by omega)) rfl rfl rfl rfl rfl rfl rfl rfl (ai_rcv1 rfl rfl (mcs_rcv hc).choose_spec) (fun v16 s16 h16 f16 hc16 => ?_)
    | refine msm_callL hc (mim_up (mi_open (d := d) ht) (by omega)) rfl rfl rfl rfl rfl rfl rfl rfl (ai_rcv1 rfl rfl (mcs_rcv hc).choose_spec) (fun v16 s16 h16 f16 hc16 => ?_)
  show msm L xs e Y K _ qm_173 2 [some (.ref 14)] [] h16 _ _ _
  try simp only [zq, zi, zc, zv, zf, zci_eq, zsi_eq, zsk_eq, zbd_zbd, zbd_some, zbd_fault, zbd_none, zite0, zite1, ↓reduceIte, Nat.one_ne_zero, Nat.reduceEqDiff]
  refine msm_pls (n := 1) (k' := 3) (lo' := [some (.ref 14)]) (S' := [.ref 14]) (h' := h16) rfl ?_
  first
    | refine msm_call hc16 (mim_up (hex) (by omega)) rfl rfl rfl rfl rfl rfl rfl rfl (ai_rcv1 rfl rfl (mcs_rcv hc16).choose_spec) (fun v17 s17 h17 f17 hc17 => ?_)
    | refine msm_callL hc16 (mim_up (hex) (by omega)) rfl rfl rfl rfl rfl rfl rfl rfl (ai_rcv1 rfl rfl (mcs_rcv hc16).choose_spec) (fun v17 s17 h17 f17 hc17 => ?_)
  show msm L xs e Y K _ qm_173 4 [some (.ref 14)] [] h17 _ _ _
  try simp only [zq, zi, zc, zv, zf, zci_eq, zsi_eq, zsk_eq, zbd_zbd, zbd_some, zbd_fault, zbd_none, zite0, zite1, ↓reduceIte, Nat.one_ne_zero, Nat.reduceEqDiff]
  refine msm_pls (n := 1) (k' := 5) (lo' := [some (.ref 14)]) (S' := [.ref 14]) (h' := h17) rfl ?_
  first
    | refine msm_call hc17 (mim_up (mi_close (d := d) ht) (by omega)) rfl rfl rfl rfl rfl rfl rfl rfl (ai_rcv1 rfl rfl (mcs_rcv hc17).choose_spec) (fun v18 s18 h18 f18 hc18 => ?_)
    | refine msm_callL hc17 (mim_up (mi_close (d := d) ht) (by omega)) rfl rfl rfl rfl rfl rfl rfl rfl (ai_rcv1 rfl rfl (mcs_rcv hc17).choose_spec) (fun v18 s18 h18 f18 hc18 => ?_)
  show msm L xs e Y K _ qm_173 6 [some (.ref 14)] [] h18 _ _ _
  try simp only [zq, zi, zc, zv, zf, zci_eq, zsi_eq, zsk_eq, zbd_zbd, zbd_some, zbd_fault, zbd_none, zite0, zite1, ↓reduceIte, Nat.one_ne_zero, Nat.reduceEqDiff]
  exact msm_ret7 hc18 rfl
end MSI
