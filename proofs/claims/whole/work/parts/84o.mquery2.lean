/-! THE MODEL'S QUERY. (Printed by wip/whole/pp.py from wip/whole/src.) -/
section MQ2
variable {L : Nat} {xs : Nat → Int32} {d : Nat} {h h' : ai_H} {e : zE} {Y : Nat → Option ai_C} {K : mK} {W P : zK} {s s' : zS} {ex qy : zP}
theorem msm_join3 {α : Type} {M : ai_M} {k md : Nat} {lo : ai_L} {S : List Value} {r : zR Nat} {f R : Nat → zS → zR Nat} (k' : Nat) (lo' : α → ai_L) (S' : List Value) (hh : ∀ G : Nat → zS → zR Nat, (∀ x v s1 h1, mcs e Y K P s1 h1 → msm L xs e Y K d M k' (lo' x) S' h1 md P (G v s1)) → msm L xs e Y K d M k lo S h md P (zbd r fun v s => zbd (f v s) G)) (ht : ∀ x v s1 h1, mcs e Y K P s1 h1 → msm L xs e Y K d M k' (lo' x) S' h1 md P (R v s1)) : msm L xs e Y K d M k lo S h md P (zbd r fun v s => zbd (f v s) R) := hh R ht
/-- answers 0 or 1 -/
def z01 (f : zP) : Prop := ∀ s v s', f s = some (some v, s') → v = 0 ∨ v = 1
theorem z01_q {a b : zP} (hb : z01 b) : z01 (zq a b) := by
  intro s v s' h
  rcases zbd_inv h with ⟨-, q⟩ | ⟨a1, s1, h1, h2⟩
  · cases q
  · exact hb _ _ _ h2
theorem z01_i {a b c : zP} (hb : z01 b) (hc : z01 c) : z01 (zi a b c) := by
  intro s v s' h
  rcases zbd_inv h with ⟨-, q⟩ | ⟨a1, s1, h1, h2⟩
  · cases q
  · split at h2
    · exact hc _ _ _ h2
    · exact hb _ _ _ h2
theorem z01_c {k : Nat} {b c : zP} (hb : z01 b) (hc : z01 c) : z01 (zc e k b c) := by
  intro s v s' h
  unfold zc at h
  split at h
  · exact hb _ _ _ h
  · exact hc _ _ _ h
theorem z01_0 : z01 (zv 0) := by intro s v s' h; cases h; exact Or.inl rfl
theorem z01_1 : z01 (zv 1) := by intro s v s' h; cases h; exact Or.inr rfl
theorem z01_ci {k : Nat} : z01 (zci e k) := by
  intro s v s' h
  rcases zci_v h with ⟨q, -⟩ | ⟨q, -⟩
  · exact Or.inl q
  · exact Or.inr q
theorem zjoin_v {s s' : zS} {v : Nat} (h : z_join e ex s = some (some v, s')) : v = 0 ∨ v = 1 := by
  have on : z01 (z_on e ex) := z01_q (z01_q (z01_q z01_1))
  exact z01_i (z01_q (z01_q z01_1)) (z01_i (z01_q (z01_q on)) (z01_i (z01_q (z01_q z01_1)) (z01_i (z01_q on) (z01_c (z01_q on) z01_0)))) s v s' h
theorem zopt_v {s s' : zS} {v : Nat} (h : z_option e ex s = some (some v, s')) : v = 0 ∨ v = 1 := z01_i (z01_q z01_1) (z01_i (z01_q z01_1) (z01_i (z01_q z01_1) (z01_i (z01_q z01_1) (z01_i (z01_q z01_1) z01_ci)))) s v s' h
/-- a query, behind its first word -/
def zd_query (e : zE) (ex : zP) : zP := zq (zci e 22) (zq (zi (zci e 89) (zv 0) (z_items e ex)) (zq (zi (zci e 28) (z_sources e ex) (zv 0)) (zq (z_cond e ex) (zq (zi (zci e 29) (zq (zcp e 8) (z_exs e ex)) (zv 0)) (zq (zi (zci e 30) (zq ex (zv 0)) (zv 0)) (zq (zi (zci e 55) (zq (zcp e 8) (z_orders e ex)) (zv 0)) (zi (zci e 43) (zq (znu e) (zi (zci e 52) (zq (znu e) (zv 0)) (zv 0))) (zv 0))))))))
theorem z_query_eq : z_query e ex = zq (zcp e 65) (zd_query e ex) := rfl
theorem m_query3 (ht : mtk e Y) (hex : mim L xs e Y K d 140 [.ref 14] 0 ex) (hit : mim L xs e Y K (d + 10) 139 [.ref 14] 0 (z_item e ex)) (hc : mcs e Y K P s h) : msm L xs e Y K (d + 12) qm_133 3 [some (.ref 14), none] [] h 0 P (zd_query e ex s) := by
  have jl : ∀ (G : Nat → zS → zR Nat), (∀ (s : zS) (h : ai_H), mcs e Y K P s h → msm L xs e Y K (d + 12) qm_133 37 [some (.ref 14), some (.int 0)] [] h 0 P (G 0 s)) → ∀ (n : Nat) (s : zS) (h : ai_H), mcs e Y K P s h → msm L xs e Y K (d + 12) qm_133 33 [some (.ref 14), some (.int 1)] [] h 0 P (zbd (zlp (z_join e ex) n s) G) := by
    intro G tail n
    induction n with
    | zero => intro s h hc; exact msm_none
    | succ n ih =>
      intro s h hc
      rw [zlp_succ]
      generalize zlp (z_join e ex) n = W at ih ⊢
      simp only [zbd_zbd]
      refine msm_pls (n := 1) (k' := 34) (lo' := [some (.ref 14), some (.int 1)]) (S' := [.ref 14]) (h' := h) rfl ?_
      first
        | refine msm_call hc (mim_up (ms_join (d := d) ht hex) (by omega)) rfl rfl rfl rfl rfl rfl rfl rfl (ai_rcv1 rfl rfl (mcs_rcv hc).choose_spec) (fun v1 s1 h1 f1 hc1 => ?_)
        | refine msm_callL hc (mim_up (ms_join (d := d) ht hex) (by omega)) rfl rfl rfl rfl rfl rfl rfl rfl (ai_rcv1 rfl rfl (mcs_rcv hc).choose_spec) (fun v1 s1 h1 f1 hc1 => ?_)
      show msm L xs e Y K _ qm_133 35 [some (.ref 14), some (.int 1)] [.int (nI v1)] h1 _ _ _
      try simp only [zq, zi, zc, zv, zf, zci_eq, zsi_eq, zsk_eq, zbd_zbd, zbd_some, zbd_fault, zbd_none, zite0, zite1, ↓reduceIte, Nat.one_ne_zero, Nat.reduceEqDiff]
      rcases zjoin_v f1 with e1 | e1
      · subst e1
        show msm L xs e Y K _ qm_133 35 [some (.ref 14), some (.int 1)] [.int 0] h1 _ _ _
        try simp only [zq, zi, zc, zv, zf, zci_eq, zsi_eq, zsk_eq, zbd_zbd, zbd_some, zbd_fault, zbd_none, zite0, zite1, ↓reduceIte, Nat.one_ne_zero, Nat.reduceEqDiff]
        refine msm_pls (n := 3) (k' := 32) (lo' := [some (.ref 14), some (.int 0)]) (S' := [.int 0]) (h' := h1) rfl ?_
        refine msm_if true rfl (rfl) rfl ?_
        show msm L xs e Y K _ qm_133 37 [some (.ref 14), some (.int 0)] [] h1 _ _ _
        exact tail _ _ hc1
      · subst e1
        show msm L xs e Y K _ qm_133 35 [some (.ref 14), some (.int 1)] [.int 1] h1 _ _ _
        try simp only [zq, zi, zc, zv, zf, zci_eq, zsi_eq, zsk_eq, zbd_zbd, zbd_some, zbd_fault, zbd_none, zite0, zite1, ↓reduceIte, Nat.one_ne_zero, Nat.reduceEqDiff]
        refine msm_pls (n := 3) (k' := 32) (lo' := [some (.ref 14), some (.int 1)]) (S' := [.int 1]) (h' := h1) rfl ?_
        refine msm_if false rfl (rfl) rfl ?_
        show msm L xs e Y K _ qm_133 33 [some (.ref 14), some (.int 1)] [] h1 _ _ _
        by_cases gg : s1.1 ≤ s.1
        · rw [if_pos gg]; exact msm_none
        · rw [if_neg gg]; exact ih _ _ hc1
  have itl : ∀ (G : Nat → zS → zR Nat), (∀ (s : zS) (h : ai_H), mcs e Y K P s h → msm L xs e Y K (d + 12) qm_133 22 [some (.ref 14), none] [] h 0 P (G 0 s)) → ∀ (n : Nat) (s0 s : zS) (h : ai_H), mcs e Y K P s h → msm L xs e Y K (d + 12) qm_133 16 [some (.ref 14), none] [] h 0 P (zbd (if ztk e s.1 = 84 then zbd (zcp e 84 s) fun _ s1 => some (some 1, s1) else some (some 0, s)) fun v s1 => zbd (if v = 0 then some (some 0, s1) else if s1.1 ≤ s0.1 then none else zlp (zl_items e ex) n s1) G) := by
    intro G tail n
    induction n with
    | zero =>
      intro s0 s h hc
      simp only [show zlp (zl_items e ex) 0 = fun _ => none from rfl]
      refine msm_pls (n := 1) (k' := 17) (lo' := [some (.ref 14), none]) (S' := [.ref 14]) (h' := h) rfl ?_
      by_cases t4 : ztk e s.1 = 84
      · skip
        try simp only [zq, zi, zc, zv, zf, zci_eq, zsi_eq, zsk_eq, zbd_zbd, zbd_some, zbd_fault, zbd_none, zite0, zite1, ↓reduceIte, Nat.one_ne_zero, Nat.reduceEqDiff, t4]
        refine msm_took hc (mim_up (mi_comma (d := d) ht) (by omega)) t4 rfl rfl rfl rfl rfl rfl rfl rfl (ai_rcv1 rfl rfl (mcs_rcv hc).choose_spec) (fun v5 s5 h5 f5 hc5 => ?_)
        show msm L xs e Y K _ qm_133 18 [some (.ref 14), none] [.int 1] h5 _ _ _
        try simp only [zq, zi, zc, zv, zf, zci_eq, zsi_eq, zsk_eq, zbd_zbd, zbd_some, zbd_fault, zbd_none, zite0, zite1, ↓reduceIte, Nat.one_ne_zero, Nat.reduceEqDiff]
        refine msm_if false rfl (rfl) rfl ?_
        by_cases g6 : s5.1 ≤ s0.1
        · rw [if_pos g6]; exact msm_none
        · rw [if_neg g6]; exact msm_none
      · skip
        try simp only [zq, zi, zc, zv, zf, zci_eq, zsi_eq, zsk_eq, zbd_zbd, zbd_some, zbd_fault, zbd_none, zite0, zite1, ↓reduceIte, Nat.one_ne_zero, Nat.reduceEqDiff, t4]
        refine msm_left hc (mim_up (mi_comma (d := d) ht) (by omega)) t4 rfl rfl rfl rfl rfl rfl rfl rfl (ai_rcv1 rfl rfl (mcs_rcv hc).choose_spec) (fun h7 hc7 => ?_)
        show msm L xs e Y K _ qm_133 18 [some (.ref 14), none] [.int 0] h7 _ _ _
        refine msm_if true rfl (rfl) rfl ?_
        exact tail _ _ hc7
    | succ n ih =>
      intro s0 s h hc
      simp only [zlp_succ]
      generalize hW : zlp (zl_items e ex) n = W at ih ⊢
      refine msm_pls (n := 1) (k' := 17) (lo' := [some (.ref 14), none]) (S' := [.ref 14]) (h' := h) rfl ?_
      by_cases t8 : ztk e s.1 = 84
      · skip
        try simp only [zq, zi, zc, zv, zf, zci_eq, zsi_eq, zsk_eq, zbd_zbd, zbd_some, zbd_fault, zbd_none, zite0, zite1, ↓reduceIte, Nat.one_ne_zero, Nat.reduceEqDiff, t8]
        refine msm_took hc (mim_up (mi_comma (d := d) ht) (by omega)) t8 rfl rfl rfl rfl rfl rfl rfl rfl (ai_rcv1 rfl rfl (mcs_rcv hc).choose_spec) (fun v9 s9 h9 f9 hc9 => ?_)
        show msm L xs e Y K _ qm_133 18 [some (.ref 14), none] [.int 1] h9 _ _ _
        try simp only [zq, zi, zc, zv, zf, zci_eq, zsi_eq, zsk_eq, zbd_zbd, zbd_some, zbd_fault, zbd_none, zite0, zite1, ↓reduceIte, Nat.one_ne_zero, Nat.reduceEqDiff]
        refine msm_if false rfl (rfl) rfl ?_
        by_cases g10 : s9.1 ≤ s0.1
        · rw [if_pos g10]; exact msm_none
        rw [if_neg g10]
        simp only [zl_items, zq, zi, zc, zv, zf, zci_eq, zsi_eq, zsk_eq, zbd_zbd, zbd_some, zbd_fault, zbd_none, zite0, zite1, ↓reduceIte, Nat.one_ne_zero, Nat.reduceEqDiff]
        refine msm_pls (n := 1) (k' := 20) (lo' := [some (.ref 14), none]) (S' := [.ref 14]) (h' := h9) rfl ?_
        first
          | refine msm_call hc9 (mim_up (hit) (by omega)) rfl rfl rfl rfl rfl rfl rfl rfl (ai_rcv1 rfl rfl (mcs_rcv hc9).choose_spec) (fun v11 s11 h11 f11 hc11 => ?_)
          | refine msm_callL hc9 (mim_up (hit) (by omega)) rfl rfl rfl rfl rfl rfl rfl rfl (ai_rcv1 rfl rfl (mcs_rcv hc9).choose_spec) (fun v11 s11 h11 f11 hc11 => ?_)
        show msm L xs e Y K _ qm_133 21 [some (.ref 14), none] [] h11 _ _ _
        try simp only [zq, zi, zc, zv, zf, zci_eq, zsi_eq, zsk_eq, zbd_zbd, zbd_some, zbd_fault, zbd_none, zite0, zite1, ↓reduceIte, Nat.one_ne_zero, Nat.reduceEqDiff]
        refine msm_pls (n := 1) (k' := 16) (lo' := [some (.ref 14), none]) (S' := []) (h' := h11) rfl ?_
        exact ih _ _ _ hc11
      · skip
        try simp only [zq, zi, zc, zv, zf, zci_eq, zsi_eq, zsk_eq, zbd_zbd, zbd_some, zbd_fault, zbd_none, zite0, zite1, ↓reduceIte, Nat.one_ne_zero, Nat.reduceEqDiff, t8]
        refine msm_left hc (mim_up (mi_comma (d := d) ht) (by omega)) t8 rfl rfl rfl rfl rfl rfl rfl rfl (ai_rcv1 rfl rfl (mcs_rcv hc).choose_spec) (fun h12 hc12 => ?_)
        show msm L xs e Y K _ qm_133 18 [some (.ref 14), none] [.int 0] h12 _ _ _
        refine msm_if true rfl (rfl) rfl ?_
        exact tail _ _ hc12
  have orl : ∀ (X : Option Value) (G : Nat → zS → zR Nat), (∀ (s : zS) (h : ai_H), mcs e Y K P s h → msm L xs e Y K (d + 12) qm_133 69 [some (.ref 14), X] [] h 0 P (G 0 s)) → ∀ (n : Nat) (s0 s : zS) (h : ai_H), mcs e Y K P s h → msm L xs e Y K (d + 12) qm_133 63 [some (.ref 14), X] [] h 0 P (zbd (if ztk e s.1 = 84 then zbd (zcp e 84 s) fun _ s1 => some (some 1, s1) else some (some 0, s)) fun v s1 => zbd (if v = 0 then some (some 0, s1) else if s1.1 ≤ s0.1 then none else zlp (zl_orders e ex) n s1) G) := by
    intro X G tail n
    induction n with
    | zero =>
      intro s0 s h hc
      simp only [show zlp (zl_orders e ex) 0 = fun _ => none from rfl]
      refine msm_pls (n := 1) (k' := 64) (lo' := [some (.ref 14), X]) (S' := [.ref 14]) (h' := h) rfl ?_
      by_cases t13 : ztk e s.1 = 84
      · skip
        try simp only [zq, zi, zc, zv, zf, zci_eq, zsi_eq, zsk_eq, zbd_zbd, zbd_some, zbd_fault, zbd_none, zite0, zite1, ↓reduceIte, Nat.one_ne_zero, Nat.reduceEqDiff, t13]
        refine msm_took hc (mim_up (mi_comma (d := d) ht) (by omega)) t13 rfl rfl rfl rfl rfl rfl rfl rfl (ai_rcv1 rfl rfl (mcs_rcv hc).choose_spec) (fun v14 s14 h14 f14 hc14 => ?_)
        show msm L xs e Y K _ qm_133 65 [some (.ref 14), X] [.int 1] h14 _ _ _
        try simp only [zq, zi, zc, zv, zf, zci_eq, zsi_eq, zsk_eq, zbd_zbd, zbd_some, zbd_fault, zbd_none, zite0, zite1, ↓reduceIte, Nat.one_ne_zero, Nat.reduceEqDiff]
        refine msm_if false rfl (rfl) rfl ?_
        by_cases g15 : s14.1 ≤ s0.1
        · rw [if_pos g15]; exact msm_none
        · rw [if_neg g15]; exact msm_none
      · skip
        try simp only [zq, zi, zc, zv, zf, zci_eq, zsi_eq, zsk_eq, zbd_zbd, zbd_some, zbd_fault, zbd_none, zite0, zite1, ↓reduceIte, Nat.one_ne_zero, Nat.reduceEqDiff, t13]
        refine msm_left hc (mim_up (mi_comma (d := d) ht) (by omega)) t13 rfl rfl rfl rfl rfl rfl rfl rfl (ai_rcv1 rfl rfl (mcs_rcv hc).choose_spec) (fun h16 hc16 => ?_)
        show msm L xs e Y K _ qm_133 65 [some (.ref 14), X] [.int 0] h16 _ _ _
        refine msm_if true rfl (rfl) rfl ?_
        exact tail _ _ hc16
    | succ n ih =>
      intro s0 s h hc
      simp only [zlp_succ]
      generalize hW : zlp (zl_orders e ex) n = W at ih ⊢
      refine msm_pls (n := 1) (k' := 64) (lo' := [some (.ref 14), X]) (S' := [.ref 14]) (h' := h) rfl ?_
      by_cases t17 : ztk e s.1 = 84
      · skip
        try simp only [zq, zi, zc, zv, zf, zci_eq, zsi_eq, zsk_eq, zbd_zbd, zbd_some, zbd_fault, zbd_none, zite0, zite1, ↓reduceIte, Nat.one_ne_zero, Nat.reduceEqDiff, t17]
        refine msm_took hc (mim_up (mi_comma (d := d) ht) (by omega)) t17 rfl rfl rfl rfl rfl rfl rfl rfl (ai_rcv1 rfl rfl (mcs_rcv hc).choose_spec) (fun v18 s18 h18 f18 hc18 => ?_)
        show msm L xs e Y K _ qm_133 65 [some (.ref 14), X] [.int 1] h18 _ _ _
        try simp only [zq, zi, zc, zv, zf, zci_eq, zsi_eq, zsk_eq, zbd_zbd, zbd_some, zbd_fault, zbd_none, zite0, zite1, ↓reduceIte, Nat.one_ne_zero, Nat.reduceEqDiff]
        refine msm_if false rfl (rfl) rfl ?_
        by_cases g19 : s18.1 ≤ s0.1
        · rw [if_pos g19]; exact msm_none
        rw [if_neg g19]
        simp only [zl_orders, zq, zi, zc, zv, zf, zci_eq, zsi_eq, zsk_eq, zbd_zbd, zbd_some, zbd_fault, zbd_none, zite0, zite1, ↓reduceIte, Nat.one_ne_zero, Nat.reduceEqDiff]
        refine msm_pls (n := 1) (k' := 67) (lo' := [some (.ref 14), X]) (S' := [.ref 14]) (h' := h18) rfl ?_
        first
          | refine msm_call hc18 (mim_up (ms_order (d := d) ht hex) (by omega)) rfl rfl rfl rfl rfl rfl rfl rfl (ai_rcv1 rfl rfl (mcs_rcv hc18).choose_spec) (fun v20 s20 h20 f20 hc20 => ?_)
          | refine msm_callL hc18 (mim_up (ms_order (d := d) ht hex) (by omega)) rfl rfl rfl rfl rfl rfl rfl rfl (ai_rcv1 rfl rfl (mcs_rcv hc18).choose_spec) (fun v20 s20 h20 f20 hc20 => ?_)
        show msm L xs e Y K _ qm_133 68 [some (.ref 14), X] [] h20 _ _ _
        try simp only [zq, zi, zc, zv, zf, zci_eq, zsi_eq, zsk_eq, zbd_zbd, zbd_some, zbd_fault, zbd_none, zite0, zite1, ↓reduceIte, Nat.one_ne_zero, Nat.reduceEqDiff]
        refine msm_pls (n := 1) (k' := 63) (lo' := [some (.ref 14), X]) (S' := []) (h' := h20) rfl ?_
        exact ih _ _ _ hc20
      · skip
        try simp only [zq, zi, zc, zv, zf, zci_eq, zsi_eq, zsk_eq, zbd_zbd, zbd_some, zbd_fault, zbd_none, zite0, zite1, ↓reduceIte, Nat.one_ne_zero, Nat.reduceEqDiff, t17]
        refine msm_left hc (mim_up (mi_comma (d := d) ht) (by omega)) t17 rfl rfl rfl rfl rfl rfl rfl rfl (ai_rcv1 rfl rfl (mcs_rcv hc).choose_spec) (fun h21 hc21 => ?_)
        show msm L xs e Y K _ qm_133 65 [some (.ref 14), X] [.int 0] h21 _ _ _
        refine msm_if true rfl (rfl) rfl ?_
        exact tail _ _ hc21
  simp only [zd_query, z_items, z_sources, z_orders, zq, zi, zc, zv, zf, zci_eq, zsi_eq, zsk_eq, zbd_zbd, zbd_some, zbd_fault, zbd_none, zite0, zite1, ↓reduceIte, Nat.one_ne_zero, Nat.reduceEqDiff]
  refine msm_pls (n := 2) (k' := 5) (lo' := [some (.ref 14), none]) (S' := [.retAddr 1037, .ref 14]) (h' := h) rfl ?_
  refine msm_join 7 [some (.ref 14), none] [] (fun G23 tail23 => ?_) (fun vj23 s23 h23 hc23 => ?_)
  · skip
    by_cases t24 : ztk e s.1 = 22
    · skip
      try simp only [zq, zi, zc, zv, zf, zci_eq, zsi_eq, zsk_eq, zbd_zbd, zbd_some, zbd_fault, zbd_none, zite0, zite1, ↓reduceIte, Nat.one_ne_zero, Nat.reduceEqDiff, t24]
      refine msm_took hc (mim_up (mi_takes (d := d) (k := 22) ht (by decide) (by decide)) (by omega)) t24 rfl rfl rfl rfl rfl rfl rfl rfl (ai_rcv1 rfl rfl (mcs_rcv hc).choose_spec) (fun v25 s25 h25 f25 hc25 => ?_)
      show msm L xs e Y K _ qm_133 6 [some (.ref 14), none] [.int 1] h25 _ _ _
      try simp only [zq, zi, zc, zv, zf, zci_eq, zsi_eq, zsk_eq, zbd_zbd, zbd_some, zbd_fault, zbd_none, zite0, zite1, ↓reduceIte, Nat.one_ne_zero, Nat.reduceEqDiff]
      refine msm_pls (n := 1) (k' := 7) (lo' := [some (.ref 14), none]) (S' := []) (h' := h25) rfl ?_
      exact tail23 _ _ _ hc25
    · skip
      try simp only [zq, zi, zc, zv, zf, zci_eq, zsi_eq, zsk_eq, zbd_zbd, zbd_some, zbd_fault, zbd_none, zite0, zite1, ↓reduceIte, Nat.one_ne_zero, Nat.reduceEqDiff, t24]
      refine msm_left hc (mim_up (mi_takes (d := d) (k := 22) ht (by decide) (by decide)) (by omega)) t24 rfl rfl rfl rfl rfl rfl rfl rfl (ai_rcv1 rfl rfl (mcs_rcv hc).choose_spec) (fun h26 hc26 => ?_)
      show msm L xs e Y K _ qm_133 6 [some (.ref 14), none] [.int 0] h26 _ _ _
      refine msm_pls (n := 1) (k' := 7) (lo' := [some (.ref 14), none]) (S' := []) (h' := h26) rfl ?_
      exact tail23 _ _ _ hc26
  · skip
    show msm L xs e Y K _ qm_133 7 [some (.ref 14), none] [] h23 _ _ _
    try simp only [zq, zi, zc, zv, zf, zci_eq, zsi_eq, zsk_eq, zbd_zbd, zbd_some, zbd_fault, zbd_none, zite0, zite1, ↓reduceIte, Nat.one_ne_zero, Nat.reduceEqDiff]
    refine msm_pls (n := 2) (k' := 9) (lo' := [some (.ref 14), none]) (S' := [.retAddr 1096, .ref 14]) (h' := h23) rfl ?_
    refine msm_join2 22 [some (.ref 14), none] [] (fun G28 tail28 => ?_) (fun vj28 s28 h28 hc28 => ?_)
    · skip
      by_cases t29 : ztk e s23.1 = 89
      · skip
        try simp only [zq, zi, zc, zv, zf, zci_eq, zsi_eq, zsk_eq, zbd_zbd, zbd_some, zbd_fault, zbd_none, zite0, zite1, ↓reduceIte, Nat.one_ne_zero, Nat.reduceEqDiff, t29]
        refine msm_ask (by have hh := m_isMark (L := L) (xs := xs) (d := d) ht hc23 (k := 89) (by decide); rw [if_pos t29] at hh; exact qe_up (by omega) hh) rfl rfl rfl rfl rfl rfl rfl (ai_rcv1 rfl rfl (mcs_rcv hc23).choose_spec) ?_
        show msm L xs e Y K _ qm_133 10 [some (.ref 14), none] [.int 1] h23 _ _ _
        refine msm_if false rfl (rfl) rfl ?_
        refine msm_pls (n := 1) (k' := 12) (lo' := [some (.ref 14), none]) (S' := [.ref 14]) (h' := h23) rfl ?_
        first
          | refine msm_keep ht hc23 (kk := 89) (by decide) (by decide) t29 rfl rfl rfl rfl rfl rfl rfl rfl (ai_rcv1 rfl rfl (mcs_rcv hc23).choose_spec) (fun s30 h30 hc30 => ?_)
        show msm L xs e Y K _ qm_133 13 [some (.ref 14), none] [] h30 _ _ _
        try simp only [zq, zi, zc, zv, zf, zci_eq, zsi_eq, zsk_eq, zbd_zbd, zbd_some, zbd_fault, zbd_none, zite0, zite1, ↓reduceIte, Nat.one_ne_zero, Nat.reduceEqDiff]
        refine msm_pls (n := 1) (k' := 22) (lo' := [some (.ref 14), none]) (S' := []) (h' := h30) rfl ?_
        exact tail28 _ _ _ hc30
      · skip
        try simp only [zq, zi, zc, zv, zf, zci_eq, zsi_eq, zsk_eq, zbd_zbd, zbd_some, zbd_fault, zbd_none, zite0, zite1, ↓reduceIte, Nat.one_ne_zero, Nat.reduceEqDiff, t29]
        refine msm_ask (by have hh := m_isMark (L := L) (xs := xs) (d := d) ht hc23 (k := 89) (by decide); rw [if_neg t29] at hh; exact qe_up (by omega) hh) rfl rfl rfl rfl rfl rfl rfl (ai_rcv1 rfl rfl (mcs_rcv hc23).choose_spec) ?_
        show msm L xs e Y K _ qm_133 10 [some (.ref 14), none] [.int 0] h23 _ _ _
        refine msm_if true rfl (rfl) rfl ?_
        show msm L xs e Y K _ qm_133 14 [some (.ref 14), none] [] h23 _ _ _
        rw [show zN = 69999 + 1 from rfl, zlp_succ]
        simp only [zl_items, zq, zi, zc, zv, zf, zci_eq, zbd_zbd, zbd_some, zbd_fault, zbd_none]
        refine msm_pls (n := 1) (k' := 15) (lo' := [some (.ref 14), none]) (S' := [.ref 14]) (h' := h23) rfl ?_
        first
          | refine msm_call hc23 (mim_up (hit) (by omega)) rfl rfl rfl rfl rfl rfl rfl rfl (ai_rcv1 rfl rfl (mcs_rcv hc23).choose_spec) (fun v32 s32 h32 f32 hc32 => ?_)
          | refine msm_callL hc23 (mim_up (hit) (by omega)) rfl rfl rfl rfl rfl rfl rfl rfl (ai_rcv1 rfl rfl (mcs_rcv hc23).choose_spec) (fun v32 s32 h32 f32 hc32 => ?_)
        show msm L xs e Y K _ qm_133 16 [some (.ref 14), none] [] h32 _ _ _
        try simp only [zq, zi, zc, zv, zf, zci_eq, zsi_eq, zsk_eq, zbd_zbd, zbd_some, zbd_fault, zbd_none, zite0, zite1, ↓reduceIte, Nat.one_ne_zero, Nat.reduceEqDiff]
        refine itl _ (fun s33 h33 hc33 => ?_) _ _ _ _ hc32
        show msm L xs e Y K _ qm_133 22 [some (.ref 14), none] [] h33 _ _ _
        try simp only [zq, zi, zc, zv, zf, zci_eq, zsi_eq, zsk_eq, zbd_zbd, zbd_some, zbd_fault, zbd_none, zite0, zite1, ↓reduceIte, Nat.one_ne_zero, Nat.reduceEqDiff]
        exact tail28 _ _ _ hc33
    · skip
      show msm L xs e Y K _ qm_133 22 [some (.ref 14), none] [] h28 _ _ _
      try simp only [zq, zi, zc, zv, zf, zci_eq, zsi_eq, zsk_eq, zbd_zbd, zbd_some, zbd_fault, zbd_none, zite0, zite1, ↓reduceIte, Nat.one_ne_zero, Nat.reduceEqDiff]
      refine msm_pls (n := 2) (k' := 24) (lo' := [some (.ref 14), none]) (S' := [.retAddr 1043, .ref 14]) (h' := h28) rfl ?_
      refine msm_join3 37 (fun (x : Option Value) => [some (.ref 14), x]) [] (fun G35 tail35 => ?_) (fun xj35 vj35 s35 h35 hc35 => ?_)
      · skip
        by_cases t36 : ztk e s28.1 = 28
        · skip
          try simp only [zq, zi, zc, zv, zf, zci_eq, zsi_eq, zsk_eq, zbd_zbd, zbd_some, zbd_fault, zbd_none, zite0, zite1, ↓reduceIte, Nat.one_ne_zero, Nat.reduceEqDiff, t36]
          refine msm_took hc28 (mim_up (mi_takes (d := d) (k := 28) ht (by decide) (by decide)) (by omega)) t36 rfl rfl rfl rfl rfl rfl rfl rfl (ai_rcv1 rfl rfl (mcs_rcv hc28).choose_spec) (fun v37 s37 h37 f37 hc37 => ?_)
          show msm L xs e Y K _ qm_133 25 [some (.ref 14), none] [.int 1] h37 _ _ _
          try simp only [zq, zi, zc, zv, zf, zci_eq, zsi_eq, zsk_eq, zbd_zbd, zbd_some, zbd_fault, zbd_none, zite0, zite1, ↓reduceIte, Nat.one_ne_zero, Nat.reduceEqDiff]
          refine msm_if false rfl (rfl) rfl ?_
          refine msm_pls (n := 1) (k' := 27) (lo' := [some (.ref 14), none]) (S' := [.ref 14]) (h' := h37) rfl ?_
          first
            | refine msm_call hc37 (mim_up (ms_source (d := d) ht) (by omega)) rfl rfl rfl rfl rfl rfl rfl rfl (ai_rcv1 rfl rfl (mcs_rcv hc37).choose_spec) (fun v38 s38 h38 f38 hc38 => ?_)
            | refine msm_callL hc37 (mim_up (ms_source (d := d) ht) (by omega)) rfl rfl rfl rfl rfl rfl rfl rfl (ai_rcv1 rfl rfl (mcs_rcv hc37).choose_spec) (fun v38 s38 h38 f38 hc38 => ?_)
          show msm L xs e Y K _ qm_133 28 [some (.ref 14), none] [] h38 _ _ _
          try simp only [zq, zi, zc, zv, zf, zci_eq, zsi_eq, zsk_eq, zbd_zbd, zbd_some, zbd_fault, zbd_none, zite0, zite1, ↓reduceIte, Nat.one_ne_zero, Nat.reduceEqDiff]
          show msm L xs e Y K _ qm_133 28 [some (.ref 14), none] [] h38 _ _ _
          rw [show zN = 69999 + 1 from rfl, zlp_succ]
          simp only [zbd_zbd]
          refine msm_pls (n := 1) (k' := 29) (lo' := [some (.ref 14), none]) (S' := [.ref 14]) (h' := h38) rfl ?_
          first
            | refine msm_call hc38 (mim_up (ms_join (d := d) ht hex) (by omega)) rfl rfl rfl rfl rfl rfl rfl rfl (ai_rcv1 rfl rfl (mcs_rcv hc38).choose_spec) (fun v40 s40 h40 f40 hc40 => ?_)
            | refine msm_callL hc38 (mim_up (ms_join (d := d) ht hex) (by omega)) rfl rfl rfl rfl rfl rfl rfl rfl (ai_rcv1 rfl rfl (mcs_rcv hc38).choose_spec) (fun v40 s40 h40 f40 hc40 => ?_)
          show msm L xs e Y K _ qm_133 30 [some (.ref 14), none] [.int (nI v40)] h40 _ _ _
          try simp only [zq, zi, zc, zv, zf, zci_eq, zsi_eq, zsk_eq, zbd_zbd, zbd_some, zbd_fault, zbd_none, zite0, zite1, ↓reduceIte, Nat.one_ne_zero, Nat.reduceEqDiff]
          rcases zjoin_v f40 with e40 | e40
          · subst e40
            show msm L xs e Y K _ qm_133 30 [some (.ref 14), none] [.int 0] h40 _ _ _
            try simp only [zq, zi, zc, zv, zf, zci_eq, zsi_eq, zsk_eq, zbd_zbd, zbd_some, zbd_fault, zbd_none, zite0, zite1, ↓reduceIte, Nat.one_ne_zero, Nat.reduceEqDiff]
            refine msm_pls (n := 2) (k' := 32) (lo' := [some (.ref 14), some (.int 0)]) (S' := [.int 0]) (h' := h40) rfl ?_
            refine msm_if true rfl (rfl) rfl ?_
            exact tail35 _ _ _ _ hc40
          · subst e40
            show msm L xs e Y K _ qm_133 30 [some (.ref 14), none] [.int 1] h40 _ _ _
            try simp only [zq, zi, zc, zv, zf, zci_eq, zsi_eq, zsk_eq, zbd_zbd, zbd_some, zbd_fault, zbd_none, zite0, zite1, ↓reduceIte, Nat.one_ne_zero, Nat.reduceEqDiff]
            refine msm_pls (n := 2) (k' := 32) (lo' := [some (.ref 14), some (.int 1)]) (S' := [.int 1]) (h' := h40) rfl ?_
            refine msm_if false rfl (rfl) rfl ?_
            show msm L xs e Y K _ qm_133 33 [some (.ref 14), some (.int 1)] [] h40 _ _ _
            split
            · exact msm_none
            refine jl _ (fun s41 h41 hc41 => ?_) _ _ _ hc40
            show msm L xs e Y K _ qm_133 37 [some (.ref 14), some (.int 0)] [] h41 _ _ _
            try simp only [zq, zi, zc, zv, zf, zci_eq, zsi_eq, zsk_eq, zbd_zbd, zbd_some, zbd_fault, zbd_none, zite0, zite1, ↓reduceIte, Nat.one_ne_zero, Nat.reduceEqDiff]
            exact tail35 _ _ _ _ hc41
        · skip
          try simp only [zq, zi, zc, zv, zf, zci_eq, zsi_eq, zsk_eq, zbd_zbd, zbd_some, zbd_fault, zbd_none, zite0, zite1, ↓reduceIte, Nat.one_ne_zero, Nat.reduceEqDiff, t36]
          refine msm_left hc28 (mim_up (mi_takes (d := d) (k := 28) ht (by decide) (by decide)) (by omega)) t36 rfl rfl rfl rfl rfl rfl rfl rfl (ai_rcv1 rfl rfl (mcs_rcv hc28).choose_spec) (fun h42 hc42 => ?_)
          show msm L xs e Y K _ qm_133 25 [some (.ref 14), none] [.int 0] h42 _ _ _
          refine msm_if true rfl (rfl) rfl ?_
          exact tail35 _ _ _ _ hc42
      · skip
        show msm L xs e Y K _ qm_133 37 [some (.ref 14), xj35] [] h35 _ _ _
        try simp only [zq, zi, zc, zv, zf, zci_eq, zsi_eq, zsk_eq, zbd_zbd, zbd_some, zbd_fault, zbd_none, zite0, zite1, ↓reduceIte, Nat.one_ne_zero, Nat.reduceEqDiff]
        refine msm_pls (n := 1) (k' := 38) (lo' := [some (.ref 14), xj35]) (S' := [.ref 14]) (h' := h35) rfl ?_
        first
          | refine msm_call hc35 (mim_up (ms_where (d := d) ht hex) (by omega)) rfl rfl rfl rfl rfl rfl rfl rfl (ai_rcv1 rfl rfl (mcs_rcv hc35).choose_spec) (fun v43 s43 h43 f43 hc43 => ?_)
          | refine msm_callL hc35 (mim_up (ms_where (d := d) ht hex) (by omega)) rfl rfl rfl rfl rfl rfl rfl rfl (ai_rcv1 rfl rfl (mcs_rcv hc35).choose_spec) (fun v43 s43 h43 f43 hc43 => ?_)
        show msm L xs e Y K _ qm_133 39 [some (.ref 14), xj35] [] h43 _ _ _
        try simp only [zq, zi, zc, zv, zf, zci_eq, zsi_eq, zsk_eq, zbd_zbd, zbd_some, zbd_fault, zbd_none, zite0, zite1, ↓reduceIte, Nat.one_ne_zero, Nat.reduceEqDiff]
        refine msm_pls (n := 2) (k' := 41) (lo' := [some (.ref 14), xj35]) (S' := [.retAddr 1044, .ref 14]) (h' := h43) rfl ?_
        refine msm_join2 48 [some (.ref 14), xj35] [] (fun G45 tail45 => ?_) (fun vj45 s45 h45 hc45 => ?_)
        · skip
          by_cases t46 : ztk e s43.1 = 29
          · skip
            try simp only [zq, zi, zc, zv, zf, zci_eq, zsi_eq, zsk_eq, zbd_zbd, zbd_some, zbd_fault, zbd_none, zite0, zite1, ↓reduceIte, Nat.one_ne_zero, Nat.reduceEqDiff, t46]
            refine msm_took hc43 (mim_up (mi_takes (d := d) (k := 29) ht (by decide) (by decide)) (by omega)) t46 rfl rfl rfl rfl rfl rfl rfl rfl (ai_rcv1 rfl rfl (mcs_rcv hc43).choose_spec) (fun v47 s47 h47 f47 hc47 => ?_)
            show msm L xs e Y K _ qm_133 42 [some (.ref 14), xj35] [.int 1] h47 _ _ _
            try simp only [zq, zi, zc, zv, zf, zci_eq, zsi_eq, zsk_eq, zbd_zbd, zbd_some, zbd_fault, zbd_none, zite0, zite1, ↓reduceIte, Nat.one_ne_zero, Nat.reduceEqDiff]
            refine msm_if false rfl (rfl) rfl ?_
            refine msm_pls (n := 2) (k' := 45) (lo' := [some (.ref 14), xj35]) (S' := [.retAddr 1023, .ref 14]) (h' := h47) rfl ?_
            first
              | refine msm_call hc47 (mim_up (mi_word (d := d) (k := 8) ht (by decide) (by decide)) (by omega)) rfl rfl rfl rfl rfl rfl rfl rfl (ai_rcv1 rfl rfl (mcs_rcv hc47).choose_spec) (fun v48 s48 h48 f48 hc48 => ?_)
              | refine msm_callL hc47 (mim_up (mi_word (d := d) (k := 8) ht (by decide) (by decide)) (by omega)) rfl rfl rfl rfl rfl rfl rfl rfl (ai_rcv1 rfl rfl (mcs_rcv hc47).choose_spec) (fun v48 s48 h48 f48 hc48 => ?_)
            show msm L xs e Y K _ qm_133 46 [some (.ref 14), xj35] [] h48 _ _ _
            try simp only [zq, zi, zc, zv, zf, zci_eq, zsi_eq, zsk_eq, zbd_zbd, zbd_some, zbd_fault, zbd_none, zite0, zite1, ↓reduceIte, Nat.one_ne_zero, Nat.reduceEqDiff]
            refine msm_pls (n := 1) (k' := 47) (lo' := [some (.ref 14), xj35]) (S' := [.ref 14]) (h' := h48) rfl ?_
            first
              | refine msm_call hc48 (mim_up (ms_list (d := d) ht hex) (by omega)) rfl rfl rfl rfl rfl rfl rfl rfl (ai_rcv1 rfl rfl (mcs_rcv hc48).choose_spec) (fun v49 s49 h49 f49 hc49 => ?_)
              | refine msm_callL hc48 (mim_up (ms_list (d := d) ht hex) (by omega)) rfl rfl rfl rfl rfl rfl rfl rfl (ai_rcv1 rfl rfl (mcs_rcv hc48).choose_spec) (fun v49 s49 h49 f49 hc49 => ?_)
            show msm L xs e Y K _ qm_133 48 [some (.ref 14), xj35] [] h49 _ _ _
            try simp only [zq, zi, zc, zv, zf, zci_eq, zsi_eq, zsk_eq, zbd_zbd, zbd_some, zbd_fault, zbd_none, zite0, zite1, ↓reduceIte, Nat.one_ne_zero, Nat.reduceEqDiff]
            exact tail45 _ _ _ hc49
          · skip
            try simp only [zq, zi, zc, zv, zf, zci_eq, zsi_eq, zsk_eq, zbd_zbd, zbd_some, zbd_fault, zbd_none, zite0, zite1, ↓reduceIte, Nat.one_ne_zero, Nat.reduceEqDiff, t46]
            refine msm_left hc43 (mim_up (mi_takes (d := d) (k := 29) ht (by decide) (by decide)) (by omega)) t46 rfl rfl rfl rfl rfl rfl rfl rfl (ai_rcv1 rfl rfl (mcs_rcv hc43).choose_spec) (fun h50 hc50 => ?_)
            show msm L xs e Y K _ qm_133 42 [some (.ref 14), xj35] [.int 0] h50 _ _ _
            refine msm_if true rfl (rfl) rfl ?_
            exact tail45 _ _ _ hc50
        · skip
          show msm L xs e Y K _ qm_133 48 [some (.ref 14), xj35] [] h45 _ _ _
          try simp only [zq, zi, zc, zv, zf, zci_eq, zsi_eq, zsk_eq, zbd_zbd, zbd_some, zbd_fault, zbd_none, zite0, zite1, ↓reduceIte, Nat.one_ne_zero, Nat.reduceEqDiff]
          refine msm_pls (n := 2) (k' := 50) (lo' := [some (.ref 14), xj35]) (S' := [.retAddr 1045, .ref 14]) (h' := h45) rfl ?_
          refine msm_join2 54 [some (.ref 14), xj35] [] (fun G52 tail52 => ?_) (fun vj52 s52 h52 hc52 => ?_)
          · skip
            by_cases t53 : ztk e s45.1 = 30
            · skip
              try simp only [zq, zi, zc, zv, zf, zci_eq, zsi_eq, zsk_eq, zbd_zbd, zbd_some, zbd_fault, zbd_none, zite0, zite1, ↓reduceIte, Nat.one_ne_zero, Nat.reduceEqDiff, t53]
              refine msm_took hc45 (mim_up (mi_takes (d := d) (k := 30) ht (by decide) (by decide)) (by omega)) t53 rfl rfl rfl rfl rfl rfl rfl rfl (ai_rcv1 rfl rfl (mcs_rcv hc45).choose_spec) (fun v54 s54 h54 f54 hc54 => ?_)
              show msm L xs e Y K _ qm_133 51 [some (.ref 14), xj35] [.int 1] h54 _ _ _
              try simp only [zq, zi, zc, zv, zf, zci_eq, zsi_eq, zsk_eq, zbd_zbd, zbd_some, zbd_fault, zbd_none, zite0, zite1, ↓reduceIte, Nat.one_ne_zero, Nat.reduceEqDiff]
              refine msm_if false rfl (rfl) rfl ?_
              refine msm_pls (n := 1) (k' := 53) (lo' := [some (.ref 14), xj35]) (S' := [.ref 14]) (h' := h54) rfl ?_
              first
                | refine msm_call hc54 (mim_up (hex) (by omega)) rfl rfl rfl rfl rfl rfl rfl rfl (ai_rcv1 rfl rfl (mcs_rcv hc54).choose_spec) (fun v55 s55 h55 f55 hc55 => ?_)
                | refine msm_callL hc54 (mim_up (hex) (by omega)) rfl rfl rfl rfl rfl rfl rfl rfl (ai_rcv1 rfl rfl (mcs_rcv hc54).choose_spec) (fun v55 s55 h55 f55 hc55 => ?_)
              show msm L xs e Y K _ qm_133 54 [some (.ref 14), xj35] [] h55 _ _ _
              try simp only [zq, zi, zc, zv, zf, zci_eq, zsi_eq, zsk_eq, zbd_zbd, zbd_some, zbd_fault, zbd_none, zite0, zite1, ↓reduceIte, Nat.one_ne_zero, Nat.reduceEqDiff]
              exact tail52 _ _ _ hc55
            · skip
              try simp only [zq, zi, zc, zv, zf, zci_eq, zsi_eq, zsk_eq, zbd_zbd, zbd_some, zbd_fault, zbd_none, zite0, zite1, ↓reduceIte, Nat.one_ne_zero, Nat.reduceEqDiff, t53]
              refine msm_left hc45 (mim_up (mi_takes (d := d) (k := 30) ht (by decide) (by decide)) (by omega)) t53 rfl rfl rfl rfl rfl rfl rfl rfl (ai_rcv1 rfl rfl (mcs_rcv hc45).choose_spec) (fun h56 hc56 => ?_)
              show msm L xs e Y K _ qm_133 51 [some (.ref 14), xj35] [.int 0] h56 _ _ _
              refine msm_if true rfl (rfl) rfl ?_
              exact tail52 _ _ _ hc56
          · skip
            show msm L xs e Y K _ qm_133 54 [some (.ref 14), xj35] [] h52 _ _ _
            try simp only [zq, zi, zc, zv, zf, zci_eq, zsi_eq, zsk_eq, zbd_zbd, zbd_some, zbd_fault, zbd_none, zite0, zite1, ↓reduceIte, Nat.one_ne_zero, Nat.reduceEqDiff]
            refine msm_pls (n := 2) (k' := 56) (lo' := [some (.ref 14), xj35]) (S' := [.retAddr 1070, .ref 14]) (h' := h52) rfl ?_
            refine msm_join2 69 [some (.ref 14), xj35] [] (fun G58 tail58 => ?_) (fun vj58 s58 h58 hc58 => ?_)
            · skip
              by_cases t59 : ztk e s52.1 = 55
              · skip
                try simp only [zq, zi, zc, zv, zf, zci_eq, zsi_eq, zsk_eq, zbd_zbd, zbd_some, zbd_fault, zbd_none, zite0, zite1, ↓reduceIte, Nat.one_ne_zero, Nat.reduceEqDiff, t59]
                refine msm_took hc52 (mim_up (mi_takes (d := d) (k := 55) ht (by decide) (by decide)) (by omega)) t59 rfl rfl rfl rfl rfl rfl rfl rfl (ai_rcv1 rfl rfl (mcs_rcv hc52).choose_spec) (fun v60 s60 h60 f60 hc60 => ?_)
                show msm L xs e Y K _ qm_133 57 [some (.ref 14), xj35] [.int 1] h60 _ _ _
                try simp only [zq, zi, zc, zv, zf, zci_eq, zsi_eq, zsk_eq, zbd_zbd, zbd_some, zbd_fault, zbd_none, zite0, zite1, ↓reduceIte, Nat.one_ne_zero, Nat.reduceEqDiff]
                refine msm_if false rfl (rfl) rfl ?_
                refine msm_pls (n := 2) (k' := 60) (lo' := [some (.ref 14), xj35]) (S' := [.retAddr 1023, .ref 14]) (h' := h60) rfl ?_
                first
                  | refine msm_call hc60 (mim_up (mi_word (d := d) (k := 8) ht (by decide) (by decide)) (by omega)) rfl rfl rfl rfl rfl rfl rfl rfl (ai_rcv1 rfl rfl (mcs_rcv hc60).choose_spec) (fun v61 s61 h61 f61 hc61 => ?_)
                  | refine msm_callL hc60 (mim_up (mi_word (d := d) (k := 8) ht (by decide) (by decide)) (by omega)) rfl rfl rfl rfl rfl rfl rfl rfl (ai_rcv1 rfl rfl (mcs_rcv hc60).choose_spec) (fun v61 s61 h61 f61 hc61 => ?_)
                show msm L xs e Y K _ qm_133 61 [some (.ref 14), xj35] [] h61 _ _ _
                try simp only [zq, zi, zc, zv, zf, zci_eq, zsi_eq, zsk_eq, zbd_zbd, zbd_some, zbd_fault, zbd_none, zite0, zite1, ↓reduceIte, Nat.one_ne_zero, Nat.reduceEqDiff]
                show msm L xs e Y K _ qm_133 61 [some (.ref 14), xj35] [] h61 _ _ _
                rw [show zN = 69999 + 1 from rfl, zlp_succ]
                simp only [zl_orders, zq, zi, zc, zv, zf, zci_eq, zbd_zbd, zbd_some, zbd_fault, zbd_none]
                refine msm_pls (n := 1) (k' := 62) (lo' := [some (.ref 14), xj35]) (S' := [.ref 14]) (h' := h61) rfl ?_
                first
                  | refine msm_call hc61 (mim_up (ms_order (d := d) ht hex) (by omega)) rfl rfl rfl rfl rfl rfl rfl rfl (ai_rcv1 rfl rfl (mcs_rcv hc61).choose_spec) (fun v63 s63 h63 f63 hc63 => ?_)
                  | refine msm_callL hc61 (mim_up (ms_order (d := d) ht hex) (by omega)) rfl rfl rfl rfl rfl rfl rfl rfl (ai_rcv1 rfl rfl (mcs_rcv hc61).choose_spec) (fun v63 s63 h63 f63 hc63 => ?_)
                show msm L xs e Y K _ qm_133 63 [some (.ref 14), xj35] [] h63 _ _ _
                try simp only [zq, zi, zc, zv, zf, zci_eq, zsi_eq, zsk_eq, zbd_zbd, zbd_some, zbd_fault, zbd_none, zite0, zite1, ↓reduceIte, Nat.one_ne_zero, Nat.reduceEqDiff]
                refine orl _ _ (fun s64 h64 hc64 => ?_) _ _ _ _ hc63
                show msm L xs e Y K _ qm_133 69 [some (.ref 14), xj35] [] h64 _ _ _
                try simp only [zq, zi, zc, zv, zf, zci_eq, zsi_eq, zsk_eq, zbd_zbd, zbd_some, zbd_fault, zbd_none, zite0, zite1, ↓reduceIte, Nat.one_ne_zero, Nat.reduceEqDiff]
                exact tail58 _ _ _ hc64
              · skip
                try simp only [zq, zi, zc, zv, zf, zci_eq, zsi_eq, zsk_eq, zbd_zbd, zbd_some, zbd_fault, zbd_none, zite0, zite1, ↓reduceIte, Nat.one_ne_zero, Nat.reduceEqDiff, t59]
                refine msm_left hc52 (mim_up (mi_takes (d := d) (k := 55) ht (by decide) (by decide)) (by omega)) t59 rfl rfl rfl rfl rfl rfl rfl rfl (ai_rcv1 rfl rfl (mcs_rcv hc52).choose_spec) (fun h65 hc65 => ?_)
                show msm L xs e Y K _ qm_133 57 [some (.ref 14), xj35] [.int 0] h65 _ _ _
                refine msm_if true rfl (rfl) rfl ?_
                exact tail58 _ _ _ hc65
            · skip
              show msm L xs e Y K _ qm_133 69 [some (.ref 14), xj35] [] h58 _ _ _
              try simp only [zq, zi, zc, zv, zf, zci_eq, zsi_eq, zsk_eq, zbd_zbd, zbd_some, zbd_fault, zbd_none, zite0, zite1, ↓reduceIte, Nat.one_ne_zero, Nat.reduceEqDiff]
              refine msm_pls (n := 2) (k' := 71) (lo' := [some (.ref 14), xj35]) (S' := [.retAddr 1058, .ref 14]) (h' := h58) rfl ?_
              by_cases t66 : ztk e s58.1 = 43
              · skip
                try simp only [zq, zi, zc, zv, zf, zci_eq, zsi_eq, zsk_eq, zbd_zbd, zbd_some, zbd_fault, zbd_none, zite0, zite1, ↓reduceIte, Nat.one_ne_zero, Nat.reduceEqDiff, t66]
                refine msm_took hc58 (mim_up (mi_takes (d := d) (k := 43) ht (by decide) (by decide)) (by omega)) t66 rfl rfl rfl rfl rfl rfl rfl rfl (ai_rcv1 rfl rfl (mcs_rcv hc58).choose_spec) (fun v67 s67 h67 f67 hc67 => ?_)
                show msm L xs e Y K _ qm_133 72 [some (.ref 14), xj35] [.int 1] h67 _ _ _
                try simp only [zq, zi, zc, zv, zf, zci_eq, zsi_eq, zsk_eq, zbd_zbd, zbd_some, zbd_fault, zbd_none, zite0, zite1, ↓reduceIte, Nat.one_ne_zero, Nat.reduceEqDiff]
                refine msm_if false rfl (rfl) rfl ?_
                refine msm_pls (n := 2) (k' := 75) (lo' := [some (.ref 14), xj35]) (S' := [.int 3, .ref 14]) (h' := h67) rfl ?_
                first
                  | refine msm_call hc67 (mim_up (mi_number (d := d) ht) (by omega)) rfl rfl rfl rfl rfl rfl rfl rfl (ai_rcv1 rfl rfl (mcs_rcv hc67).choose_spec) (fun v68 s68 h68 f68 hc68 => ?_)
                  | refine msm_callL hc67 (mim_up (mi_number (d := d) ht) (by omega)) rfl rfl rfl rfl rfl rfl rfl rfl (ai_rcv1 rfl rfl (mcs_rcv hc67).choose_spec) (fun v68 s68 h68 f68 hc68 => ?_)
                show msm L xs e Y K _ qm_133 76 [some (.ref 14), xj35] [] h68 _ _ _
                try simp only [zq, zi, zc, zv, zf, zci_eq, zsi_eq, zsk_eq, zbd_zbd, zbd_some, zbd_fault, zbd_none, zite0, zite1, ↓reduceIte, Nat.one_ne_zero, Nat.reduceEqDiff]
                refine msm_pls (n := 2) (k' := 78) (lo' := [some (.ref 14), xj35]) (S' := [.retAddr 1067, .ref 14]) (h' := h68) rfl ?_
                by_cases t69 : ztk e s68.1 = 52
                · skip
                  try simp only [zq, zi, zc, zv, zf, zci_eq, zsi_eq, zsk_eq, zbd_zbd, zbd_some, zbd_fault, zbd_none, zite0, zite1, ↓reduceIte, Nat.one_ne_zero, Nat.reduceEqDiff, t69]
                  refine msm_took hc68 (mim_up (mi_takes (d := d) (k := 52) ht (by decide) (by decide)) (by omega)) t69 rfl rfl rfl rfl rfl rfl rfl rfl (ai_rcv1 rfl rfl (mcs_rcv hc68).choose_spec) (fun v70 s70 h70 f70 hc70 => ?_)
                  show msm L xs e Y K _ qm_133 79 [some (.ref 14), xj35] [.int 1] h70 _ _ _
                  try simp only [zq, zi, zc, zv, zf, zci_eq, zsi_eq, zsk_eq, zbd_zbd, zbd_some, zbd_fault, zbd_none, zite0, zite1, ↓reduceIte, Nat.one_ne_zero, Nat.reduceEqDiff]
                  refine msm_if false rfl (rfl) rfl ?_
                  refine msm_pls (n := 2) (k' := 82) (lo' := [some (.ref 14), xj35]) (S' := [.int 3, .ref 14]) (h' := h70) rfl ?_
                  first
                    | refine msm_call hc70 (mim_up (mi_number (d := d) ht) (by omega)) rfl rfl rfl rfl rfl rfl rfl rfl (ai_rcv1 rfl rfl (mcs_rcv hc70).choose_spec) (fun v71 s71 h71 f71 hc71 => ?_)
                    | refine msm_callL hc70 (mim_up (mi_number (d := d) ht) (by omega)) rfl rfl rfl rfl rfl rfl rfl rfl (ai_rcv1 rfl rfl (mcs_rcv hc70).choose_spec) (fun v71 s71 h71 f71 hc71 => ?_)
                  show msm L xs e Y K _ qm_133 83 [some (.ref 14), xj35] [] h71 _ _ _
                  try simp only [zq, zi, zc, zv, zf, zci_eq, zsi_eq, zsk_eq, zbd_zbd, zbd_some, zbd_fault, zbd_none, zite0, zite1, ↓reduceIte, Nat.one_ne_zero, Nat.reduceEqDiff]
                  exact msm_ret7 hc71 rfl
                · skip
                  try simp only [zq, zi, zc, zv, zf, zci_eq, zsi_eq, zsk_eq, zbd_zbd, zbd_some, zbd_fault, zbd_none, zite0, zite1, ↓reduceIte, Nat.one_ne_zero, Nat.reduceEqDiff, t69]
                  refine msm_left hc68 (mim_up (mi_takes (d := d) (k := 52) ht (by decide) (by decide)) (by omega)) t69 rfl rfl rfl rfl rfl rfl rfl rfl (ai_rcv1 rfl rfl (mcs_rcv hc68).choose_spec) (fun h72 hc72 => ?_)
                  show msm L xs e Y K _ qm_133 79 [some (.ref 14), xj35] [.int 0] h72 _ _ _
                  refine msm_if true rfl (rfl) rfl ?_
                  exact msm_ret7 hc72 rfl
              · skip
                try simp only [zq, zi, zc, zv, zf, zci_eq, zsi_eq, zsk_eq, zbd_zbd, zbd_some, zbd_fault, zbd_none, zite0, zite1, ↓reduceIte, Nat.one_ne_zero, Nat.reduceEqDiff, t66]
                refine msm_left hc58 (mim_up (mi_takes (d := d) (k := 43) ht (by decide) (by decide)) (by omega)) t66 rfl rfl rfl rfl rfl rfl rfl rfl (ai_rcv1 rfl rfl (mcs_rcv hc58).choose_spec) (fun h73 hc73 => ?_)
                show msm L xs e Y K _ qm_133 72 [some (.ref 14), xj35] [.int 0] h73 _ _ _
                refine msm_if true rfl (rfl) rfl ?_
                exact msm_ret7 hc73 rfl
theorem ms_query (ht : mtk e Y) (hex : mim L xs e Y K d 140 [.ref 14] 0 ex) (hit : mim L xs e Y K (d + 10) 139 [.ref 14] 0 (z_item e ex)) : mim L xs e Y K (d + 13) 133 [.ref 14] 0 (z_query e ex) := by
  rw [z_query_eq]
  refine mim_of (M := qm_133) rfl rfl (fun P s h hc => ?_)
  show msm L xs e Y K _ qm_133 0 [some (.ref 14), none] [] h _ _ _
  simp only [zq, zq, zi, zc, zv, zf, zci_eq, zsi_eq, zsk_eq, zbd_zbd, zbd_some, zbd_fault, zbd_none, zite0, zite1, ↓reduceIte, Nat.one_ne_zero, Nat.reduceEqDiff]
  refine msm_pls (n := 2) (k' := 2) (lo' := [some (.ref 14), none]) (S' := [.retAddr 1080, .ref 14]) (h' := h) rfl ?_
  first
    | refine msm_call hc (mim_up (mi_word (d := d) (k := 65) ht (by decide) (by decide)) (by omega)) rfl rfl rfl rfl rfl rfl rfl rfl (ai_rcv1 rfl rfl (mcs_rcv hc).choose_spec) (fun v74 s74 h74 f74 hc74 => ?_)
    | refine msm_callL hc (mim_up (mi_word (d := d) (k := 65) ht (by decide) (by decide)) (by omega)) rfl rfl rfl rfl rfl rfl rfl rfl (ai_rcv1 rfl rfl (mcs_rcv hc).choose_spec) (fun v74 s74 h74 f74 hc74 => ?_)
  show msm L xs e Y K _ qm_133 3 [some (.ref 14), none] [] h74 _ _ _
  try simp only [zq, zi, zc, zv, zf, zci_eq, zsi_eq, zsk_eq, zbd_zbd, zbd_some, zbd_fault, zbd_none, zite0, zite1, ↓reduceIte, Nat.one_ne_zero, Nat.reduceEqDiff]
  show msm L xs e Y K _ qm_133 3 [some (.ref 14), none] [] h74 _ _ _
  exact m_query3 ht hex hit hc74
end MQ2
