/-! THE MODEL: EXPRESSIONS. (Printed by wip/whole/pp.py from wip/whole/src.) -/
section MEX
variable {L : Nat} {xs : Nat → Int32} {d : Nat} {h h' : ai_H} {e : zE} {Y : Nat → Option ai_C} {K : mK} {W P Q : zK} {s s' : zS} {pr ex qy : zP} {x4 x5 : Option Value}
/-- the expression's operands -/
abbrev zaE (e : zE) (pr ex qy : zP) : Nat → zS → zK → Nat → Nat → zS → zR Nat := zaft e 49 3 zfamE (z_cmp e pr ex qy)
/-- behind an operand of AND, OR: for so many turns it goes well -/
def xE (L : Nat) (xs : Nat → Int32) (e : zE) (Y : Nat → Option ai_C) (K : mK) (d : Nat) (P : zK) (l0 : Nat) (pr ex qy : zP) (n : Nat) : Prop := ∀ (s0 : zS) (Q : zK) (st ma : Nat) (s : zS) (h : ai_H) (r : Nat) (x5 : Option Value), mxp e Y K (Q ++ P) s h st ma → mso l0 st Q → (∀ q ∈ Q, 1 ≤ q.2 ∧ q.2 ≤ 4) → (∀ q Q', Q = q :: Q' → ∀ x ∈ Q', x.2 ≤ 3) → zbot Q st = l0 → 4 ≤ r → r ≤ 9 → (znk e s.1 = 4 → r = 4 ∨ ∃ q Q', Q = q :: Q' ∧ q.2 = 4) → (5 ≤ znk e s.1 → r = 4) → xsm L xs e Y K d P l0 26 [some (.ref 14), some (.int (nI P.length)), some (.int 1), some (.int (nI r)), some (.int (nI (znk e s.1))), x5] h (zaE e pr ex qy n s0 Q st ma s)
theorem zaft_T {kp mp n c c' ma : Nat} {fam : Nat → Bool} {od : zP} {s0 : zS} {p : zK} {v : Option Nat} (hfam : ∀ m, fam m = true → m ≤ 4) (hz : zbd (zpop s) (fun _ s => zbd (zput (zt 1008) s) fun _ s => zaft e kp mp fam od n s0 p c 4 s) = some (v, s')) : zaft e kp mp fam od n s0 ((c, 4) :: p) c' ma s = some (v, s') := by
  rcases zbd_inv hz with ⟨z1, -⟩ | ⟨a1, s1, z1, hz⟩
  · obtain ⟨-, x, -⟩ := zpop_inv z1; cases x
  have e1 := (zpop_inv z1).2.2
  rcases zbd_inv hz with ⟨z2, -⟩ | ⟨a2, s2, z2, hz⟩
  · obtain ⟨-, x, -⟩ := zput_inv z2; cases x
  have e2 := (zput_inv z2).2.2
  have e3 : s2.1 = s.1 := by rw [e2, e1]
  unfold zaft zcomb at hz ⊢
  rw [e3] at hz
  have key : zcb (if fam (zmk e s.1) = true then zmk e s.1 else 0) ((c, 4) :: p) c' ma s = zcb (if fam (zmk e s.1) = true then zmk e s.1 else 0) p c 4 s2 := by
    have hle : (if fam (zmk e s.1) = true then zmk e s.1 else 0) ≤ 4 := by
      split
      · rename_i hf; exact hfam _ hf
      · exact Nat.zero_le _
    conv => lhs; unfold zcb
    rw [if_pos hle, z1]
    simp only [zbd_some]
    rw [z2]
    simp only [zbd_some]
    rw [if_neg (by decide)]
    rfl
  rw [key]
  exact hz
theorem zfamE_le (m : Nat) (h : zfamE m = true) : m ≤ 4 := by
  have := of_decide_eq_true h
  omega
/-- the prefixes of an operand of AND and OR, then the sum, then the test -/
theorem zE_turn {n : Nat} {p : zK} : zops e 49 3 zfamE (z_cmp e pr ex qy) (n + 1) p s = zbd (zpre e 49 3 42 p s) fun p1 s1 => zbd (zpre e 88 8 42 [] s1) fun p2 s2 => zbd (pr s2) fun ma s4 => zbd (zaft e 88 8 zfamS pr 69999 s1 p2 s2.2.2.2.2.length ma s4) fun ma s2 => zbd (if zmk e s2.1 = 4 ∨ ztk e s2.1 = 37 ∨ ztk e s2.1 = 49 ∨ ztk e s2.1 = 31 ∨ ztk e s2.1 = 7 ∨ ztk e s2.1 = 42 then z_test e pr ex qy s1.2.2.2.2.length s2 else some (some ma, s2)) fun ma s4 => zaE e pr ex qy n s p1 s1.2.2.2.2.length ma s4 := by
  have h1 : ∀ s1, z_cmp e pr ex qy s1 = zbd (zpre e 88 8 42 [] s1) fun p2 s2 => zbd (pr s2) fun ma s4 => zbd (zaft e 88 8 zfamS pr 69999 s1 p2 s2.2.2.2.2.length ma s4) fun ma s2 => if zmk e s2.1 = 4 ∨ ztk e s2.1 = 37 ∨ ztk e s2.1 = 49 ∨ ztk e s2.1 = 31 ∨ ztk e s2.1 = 7 ∨ ztk e s2.1 = 42 then z_test e pr ex qy s1.2.2.2.2.length s2 else some (some ma, s2) := by
    intro s1
    show zbd (z_sum e pr s1) _ = _
    unfold z_sum
    rw [zN_1, zops_succ]
    simp only [zbd_zbd]
  rw [zops_succ]
  simp only [h1, zbd_zbd]
/-- a test's answer -/
theorem m_goOn4 {base k : Nat} {kept : Nat} {en md : Value} {wt : Nat} {o : ai_O} (hob : h.1[14]? = some (mobj K.2.2.2.1 s.1 kept s.2.1 s.2.2.1 (.int (nI k)) en md wt)) (hv : ∀ v h', o = (.inl (some v), h') → ∃ n : Nat, v = .int (nI n)) (ho : (∃ h', o = (.inr "java/lang/IllegalArgumentException", h')) ∨ ∃ n h', o = (.inl (some (.int (nI n))), h')) (hg : qg L xs (d + 9) qm_161 0 [some (.ref 14), some (.int (nI base)), some (.int (nI k)), none, none] [] h o) : qe L xs (d + 11) 160 [.ref 14, .int (nI base), .int (nI 4)] h o := by
  have hq : qe L xs (d + 10) 161 [.ref 14, .int (nI base), .int (nI k)] h o := qe_of (M := qm_161) rfl rfl hg
  rcases ho with ⟨h', rfl⟩ | ⟨n, h', rfl⟩
  · skip
    refine qe_of (M := qm_160) rfl rfl ?_
    show qg L xs _ qm_160 0 [some (.ref 14), some (.int (nI base)), some (.int (nI 4)), none] [] h _
    refine qg_pls (n := 1) (k' := 1) (lo' := [some (.ref 14), some (.int (nI base)), some (.int (nI 4)), none]) (S' := [.ref 14]) (h' := h) rfl ?_
    refine qg_getf (v := .int (nI k)) rfl hob rfl rfl rfl ?_
    refine qg_pls (n := 3) (k' := 5) (lo' := [some (.ref 14), some (.int (nI base)), some (.int (nI 4)), some (.int (nI k))]) (S' := [.int 4, .int (nI 4)]) (h' := h) rfl ?_
    refine qg_icmp false rfl (rfl) rfl ?_
    refine qg_pls (n := 3) (k' := 9) (lo' := [some (.ref 14), some (.int (nI base)), some (.int (nI 4)), some (.int (nI k))]) (S' := [.int (nI k), .int (nI base), .ref 14]) (h' := h) rfl ?_
    exact qg_callT rfl rfl rfl rfl rfl rfl rfl (ai_rcv1 rfl rfl hob) rfl (hq)
  · skip
    refine qe_of (M := qm_160) rfl rfl ?_
    show qg L xs _ qm_160 0 [some (.ref 14), some (.int (nI base)), some (.int (nI 4)), none] [] h _
    refine qg_pls (n := 1) (k' := 1) (lo' := [some (.ref 14), some (.int (nI base)), some (.int (nI 4)), none]) (S' := [.ref 14]) (h' := h) rfl ?_
    refine qg_getf (v := .int (nI k)) rfl hob rfl rfl rfl ?_
    refine qg_pls (n := 3) (k' := 5) (lo' := [some (.ref 14), some (.int (nI base)), some (.int (nI 4)), some (.int (nI k))]) (S' := [.int 4, .int (nI 4)]) (h' := h) rfl ?_
    refine qg_icmp false rfl (rfl) rfl ?_
    refine qg_pls (n := 3) (k' := 9) (lo' := [some (.ref 14), some (.int (nI base)), some (.int (nI 4)), some (.int (nI k))]) (S' := [.int (nI k), .int (nI base), .ref 14]) (h' := h) rfl ?_
    refine qg_call (v := some (.int (nI n))) (h' := h') (as := [.ref 14, .int (nI base), .int (nI k)]) rfl rfl rfl rfl rfl rfl rfl (ai_rcv1 rfl rfl hob) (hq) ?_
    show qg L xs _ qm_160 10 [some (.ref 14), some (.int (nI base)), some (.int (nI 4)), some (.int (nI k))] [.int (nI n)] h' _
    exact qg_ret5 rfl rfl rfl
/-- settleTo settles nothing, and its answer is the rank -/
theorem m_sto00 (ht : mtk e Y) {nx r : Nat} {R : zK} (hn8 : nx ≤ 8) (hR : ∀ q R', R = q :: R' → q.2 < nx ∨ q.2 = 9) (hc : mcs e Y K (R ++ P) s h) : qe L xs (d + 4) 157 [.ref 14, .int (nI P.length), .int (nI nx), .int (nI r)] h (.inl (some (.int (nI r))), h) := by
  have hbd := mcs_bd hc
  obtain ⟨kept, bg, en, md, hob⟩ := mcs_obj hc
  refine qe_of (M := qm_157) rfl rfl ?_
  show qg L xs _ qm_157 0 [some (.ref 14), some (.int (nI P.length)), some (.int (nI nx)), some (.int (nI r)), none] [] h _
  refine qg_pls (n := 3) (k' := 3) (lo' := [some (.ref 14), some (.int (nI P.length)), some (.int (nI nx)), some (.int (nI r)), some (.int (nI r))]) (S' := [.ref 14]) (h' := h) rfl ?_
  refine qg_getf (v := .int (nI ((R ++ P).length))) rfl hob rfl rfl rfl ?_
  refine qg_pls (n := 1) (k' := 5) (lo' := [some (.ref 14), some (.int (nI P.length)), some (.int (nI nx)), some (.int (nI r)), some (.int (nI r))]) (S' := [.int (nI P.length), .int (nI ((R ++ P).length))]) (h' := h) rfl ?_
  cases R with
  | nil =>
    refine qg_icmp true rfl (qc_leT (Nat.le_refl _) (by have : P.length ≤ 300 := hbd.2.2.2.2; omega)) rfl ?_
    refine qg_pls (n := 1) (k' := 36) (lo' := [some (.ref 14), some (.int (nI P.length)), some (.int (nI nx)), some (.int (nI r)), some (.int (nI r))]) (S' := [.int (nI r)]) (h' := h) rfl ?_
    exact qg_ret5 rfl rfl rfl
  | cons q R =>
    obtain ⟨kept2, bg2, en2, md2, wr, o1, o2, w1, w2, w3⟩ := m_top (W := R ++ P) hc
    have hl2 : P.length ≤ (R ++ P).length := by rw [List.length_append]; omega
    refine qg_icmp false rfl (qc_leF (by show P.length < (R ++ P).length + 1; omega) (by show (R ++ P).length + 1 < _; omega)) rfl ?_
    refine qg_pls (n := 1) (k' := 7) (lo' := [some (.ref 14), some (.int (nI P.length)), some (.int (nI nx)), some (.int (nI r)), some (.int (nI r))]) (S' := [.ref 14]) (h' := h) rfl ?_
    refine qg_getf (v := .ref 23) rfl o1 rfl rfl rfl ?_
    refine qg_pls (n := 1) (k' := 9) (lo' := [some (.ref 14), some (.int (nI P.length)), some (.int (nI nx)), some (.int (nI r)), some (.int (nI r))]) (S' := [.ref 14, .ref 23]) (h' := h) rfl ?_
    refine qg_getf (v := .int (nI ((R ++ P).length + 1))) rfl o1 rfl rfl rfl ?_
    refine qg_pls (n := 2) (k' := 12) (lo' := [some (.ref 14), some (.int (nI P.length)), some (.int (nI nx)), some (.int (nI r)), some (.int (nI r))]) (S' := [.int ((nI ((R ++ P).length + 1)) - 1), .ref 23]) (h' := h) rfl ?_
    rw [show nI ((R ++ P).length + 1) - 1 = nI (R ++ P).length from nI_sub (b := 1) (by omega)]
    refine qg_ald rfl (fun _ _ _ => rfl) o2 (by omega) (by decide) ?_
    rw [w1]
    refine qg_pls (n := 1) (k' := 14) (lo' := [some (.ref 14), some (.int (nI P.length)), some (.int (nI nx)), some (.int (nI r)), some (.int (nI r))]) (S' := [.int (nI nx), .int (nI q.2)]) (h' := h) rfl ?_
    by_cases hlt : q.2 < nx
    · skip
      refine qg_icmp true rfl (qc_ltT hlt (by omega)) rfl ?_
      refine qg_pls (n := 1) (k' := 36) (lo' := [some (.ref 14), some (.int (nI P.length)), some (.int (nI nx)), some (.int (nI r)), some (.int (nI r))]) (S' := [.int (nI r)]) (h' := h) rfl ?_
      exact qg_ret5 rfl rfl rfl
    · have q9 : q.2 = 9 := by
        rcases hR q R rfl with z | z
        · omega
        · exact z
      refine qg_icmp false rfl (qc_ltF (by omega) (by omega)) rfl ?_
      refine qg_pls (n := 1) (k' := 16) (lo' := [some (.ref 14), some (.int (nI P.length)), some (.int (nI nx)), some (.int (nI r)), some (.int (nI r))]) (S' := [.ref 14]) (h' := h) rfl ?_
      refine qg_getf (v := .ref 23) rfl o1 rfl rfl rfl ?_
      refine qg_pls (n := 1) (k' := 18) (lo' := [some (.ref 14), some (.int (nI P.length)), some (.int (nI nx)), some (.int (nI r)), some (.int (nI r))]) (S' := [.ref 14, .ref 23]) (h' := h) rfl ?_
      refine qg_getf (v := .int (nI ((R ++ P).length + 1))) rfl o1 rfl rfl rfl ?_
      refine qg_pls (n := 2) (k' := 21) (lo' := [some (.ref 14), some (.int (nI P.length)), some (.int (nI nx)), some (.int (nI r)), some (.int (nI r))]) (S' := [.int ((nI ((R ++ P).length + 1)) - 1), .ref 23]) (h' := h) rfl ?_
      rw [show nI ((R ++ P).length + 1) - 1 = nI (R ++ P).length from nI_sub (b := 1) (by omega)]
      refine qg_ald rfl (fun _ _ _ => rfl) o2 (by omega) (by decide) ?_
      rw [w1]
      refine qg_pls (n := 1) (k' := 23) (lo' := [some (.ref 14), some (.int (nI P.length)), some (.int (nI nx)), some (.int (nI r)), some (.int (nI r))]) (S' := [.int 9, .int (nI q.2)]) (h' := h) rfl ?_
      refine qg_icmp true rfl (qc_eqT (b := 9) q9) rfl ?_
      refine qg_pls (n := 1) (k' := 36) (lo' := [some (.ref 14), some (.int (nI P.length)), some (.int (nI nx)), some (.int (nI r)), some (.int (nI r))]) (S' := [.int (nI r)]) (h' := h) rfl ?_
      exact qg_ret5 rfl rfl rfl
/-- the end of a sum, of a test, of a NOT: AND and OR, or the end -/
theorem x_and (ht : mtk e Y) (hod : mop L xs e Y K (d + 8) 144 pr) {l0 : Nat} (hl : mle K P l0) (n : Nat) (turn : ∀ m, m + 1 = n → ∀ (s0 : zS) (p1 : zK) (s1 : zS) (p2 : zK) (st ma : Nat) (s : zS) (h : ai_H) (x4 x5 : Option Value), mxp e Y K (p2 ++ p1 ++ P) s h st ma → mso l0 st (p2 ++ p1) → (∀ q ∈ p1, 1 ≤ q.2 ∧ q.2 ≤ 3) → (∀ q ∈ p2, q.2 = 8) → zbot p1 s1.2.2.2.2.length = l0 → zbot p2 st = s1.2.2.2.2.length → mso l0 s1.2.2.2.2.length p1 → xsm L xs e Y K (d + 11) P l0 10 [some (.ref 14), some (.int (nI P.length)), some (.int 1), some (.int (nI 9)), x4, x5] h (zbd (zaft e 88 8 zfamS pr 69999 s1 p2 st ma s) fun ma s2 => zbd (if zmk e s2.1 = 4 ∨ ztk e s2.1 = 37 ∨ ztk e s2.1 = 49 ∨ ztk e s2.1 = 31 ∨ ztk e s2.1 = 7 ∨ ztk e s2.1 = 42 then z_test e pr ex qy s1.2.2.2.2.length s2 else some (some ma, s2)) fun ma s4 => zaE e pr ex qy m s0 p1 s1.2.2.2.2.length ma s4)) : xE L xs e Y K (d + 11) P l0 pr ex qy n := by
  intro s0 Q st ma s h r x5 hx hm hq hq3 hb hr4 hr9 hc4 hc5 v s' hz
  have hrf := znk_f ht s.1
  have hro := znk_of ht s.1
  have top9 : Q = [] ∨ ∃ q Q', Q = q :: Q' ∧ q.2 ≠ 9 := by
    cases Q with
    | nil => exact Or.inl rfl
    | cons q Q' => exact Or.inr ⟨q, Q', rfl, by have := hq q (List.mem_cons_self ..); omega⟩
  have hz : zbd (zaE e pr ex qy n s0 Q st ma s) (fun v s => some (some v, s)) = some (v, s') := by rw [zbd_id]; exact hz
  by_cases hf : zfamE (zmk e s.1) = true
  · have h12 : zmk e s.1 = 1 ∨ zmk e s.1 = 2 := of_decide_eq_true hf
    have hrk := hrf.2.2.2.1 h12
    obtain ⟨p', st', ma', s5, z1, a1, w5, hz⟩ := zaft_yes ht hf rfl (by omega) hrk hz
    obtain ⟨h1, p1, st1, ma1, r1, i1, i2, i3, i4, i5, i6, i7, i8, i9⟩ := m_stoC (L := L) (xs := xs) (d := d + 7) (r := r) (p := Q) (R := []) (P := P) ht hl (nx := zmk e s.1) (by omega) (by omega) (fun q R' e1 => by cases e1) (by rw [List.append_nil]; exact hx) (by rw [List.append_nil]; exact hm) (fun q hq1 => by have := hq q hq1; omega) z1
    have i1 := Option.some.inj i1
    obtain ⟨rfl, e2⟩ := Prod.mk.inj i1
    obtain ⟨rfl, rfl⟩ := Prod.mk.inj e2
    rw [List.append_nil] at i3 i4
    obtain ⟨_, _, _, sx, -, suf, -⟩ := zcb_ok _ _ _ _ _ _ z1
    have sx := Option.some.inj sx
    obtain ⟨rfl, -⟩ := Prod.mk.inj sx
    have hz3 : zmk e s.1 ≤ 3 := by omega
    have hp3 : ∀ q ∈ p', 1 ≤ q.2 ∧ q.2 ≤ 3 := by
      intro q hqp
      have b1 := hq q (i5 q hqp)
      refine ⟨b1.1, ?_⟩
      cases Q with
      | nil => cases i5 q hqp
      | cons q0 Q' =>
        rcases List.suffix_cons_iff.mp suf with z | z
        · rw [z] at hqp
          have := i6 q0 Q' z
          rcases List.mem_cons.mp hqp with rfl | y
          · exact Nat.le_trans (Nat.le_of_lt this) hz3
          · exact hq3 q0 Q' rfl q y
        · exact hq3 q0 Q' rfl q (z.subset hqp)
    have hr1 : zmk e s.1 ≤ r1 ∧ r1 ≤ 9 := by omega
    have hb3 := mcs_bd (mxp_mcs i3)
    have hl3 : mle K (p' ++ P) st' := mle_of i4 hl
    obtain ⟨k1, k2, k3, k4, k5⟩ := hro.2.2.2.1 (by omega)
    have top9' : p' = [] ∨ ∃ q Q', p' = q :: Q' ∧ q.2 ≠ 9 := by
      cases p' with
      | nil => exact Or.inl rfl
      | cons q Q' => exact Or.inr ⟨q, Q', rfl, by have := hp3 q (List.mem_cons_self ..); omega⟩
    have hroad : ∀ o, qg L xs (d + 11) qm_140 134 [some (.ref 14), some (.int (nI P.length)), some (.int 1), some (.int (nI r1)), some (.int (nI (znk e s.1))), some (.int 0)] [.int (nI (znk e s.1)), .int (nI P.length), .ref 14] h1 o → qg L xs (d + 11) qm_140 26 [some (.ref 14), some (.int (nI P.length)), some (.int 1), some (.int (nI r)), some (.int (nI (znk e s.1))), x5] [] h o := by
      intro o hg
      refine x_26 (d := d + 3) (Q := Q) (mxp_mcs hx) (by omega) (Or.inr top9) o ?_
      refine x_58 (d := d + 3) (mxp_mcs hx) (by omega) (by omega) (r' := r1) (h' := h1) (by rw [if_neg (by omega), hrk]; exact qe_up (by omega) i2) o ?_
      refine x_73 (d := d + 3) (Q := p') (mxp_mcs i3) (by omega) (Or.inr top9') o ?_
      exact x_100y (d := d + 3) (Q := p') (mxp_mcs i3) (by omega) (by omega) (by omega) (Or.inr ⟨by omega, by omega⟩) o hg
    cases n with
    | zero => cases hz
    | succ m =>
      rw [zbd_id, zE_turn] at hz
      have hgo := m_goOn (L := L) (xs := xs) (d := d) (base := P.length) (W := p' ++ P) (by' := zmk e s.1) (good := fun h2 => ∃ p1 s1 p2 st6 ma6 s6, mxp e Y K (p2 ++ p1 ++ P) s6 h2 st6 ma6 ∧ mso l0 st6 (p2 ++ p1) ∧ (∀ q ∈ p1, q ∈ (st', zmk e s.1) :: p' ∨ q.2 = 3) ∧ (∀ q ∈ p2, q.2 = 8) ∧ zbot p1 s1.2.2.2.2.length = zbot p' st' ∧ zbot p2 st6 = s1.2.2.2.2.length ∧ mso l0 s1.2.2.2.2.length p1 ∧ (zbd (zaft e 88 8 zfamS pr 69999 s1 p2 st6 ma6 s6) fun ma s2 => zbd (if zmk e s2.1 = 4 ∨ ztk e s2.1 = 37 ∨ ztk e s2.1 = 49 ∨ ztk e s2.1 = 31 ∨ ztk e s2.1 = 7 ∨ ztk e s2.1 = 42 then z_test e pr ex qy s1.2.2.2.2.length s2 else some (some ma, s2)) fun ma s4 => zaE e pr ex qy m (s5.1 + 1, s5.2.1, s5.2.2.1, s5.2.2.2.1 + 1, (if ma' = zmk e s.1 then s5.2.2.2.2.take (s5.2.2.2.2.length - 2) else s5.2.2.2.2.take st' ++ [40, 32] ++ s5.2.2.2.2.drop st') ++ zit e s5.1 ++ [32]) p1 s1.2.2.2.2.length ma s4) = some (v, s')) (bad := fun h2 => v = none ∧ mbad e Y K s' h2) ht i3 hl3 (by rw [a1]; omega) (by omega) (by omega) (by omega) (by omega) (fun h1 hc1 => by
        have hm1 : mso l0 ((if ma' = zmk e s.1 then s5.2.2.2.2.take (s5.2.2.2.2.length - 2) else s5.2.2.2.2.take st' ++ [40, 32] ++ s5.2.2.2.2.drop st') ++ zit e s5.1 ++ [32]).length ((st', zmk e s.1) :: p') := by
          refine ⟨?_, i4⟩
          have := (mcs0_lt hc1.choose_spec.choose_spec.choose_spec.choose_spec).1.1 (st', zmk e s.1) (List.mem_cons_self ..)
          exact this
        rcases m_prE (F := fun p1 s1 p2 st ma s4 => zbd (zaft e 88 8 zfamS pr 69999 s1 p2 st ma s4) fun ma s2 => zbd (if zmk e s2.1 = 4 ∨ ztk e s2.1 = 37 ∨ ztk e s2.1 = 49 ∨ ztk e s2.1 = 31 ∨ ztk e s2.1 = 7 ∨ ztk e s2.1 = 42 then z_test e pr ex qy s1.2.2.2.2.length s2 else some (some ma, s2)) fun ma s4 => zaE e pr ex qy m (s5.1 + 1, s5.2.1, s5.2.2.1, s5.2.2.2.1 + 1, (if ma' = zmk e s.1 then s5.2.2.2.2.take (s5.2.2.2.2.length - 2) else s5.2.2.2.2.take st' ++ [40, 32] ++ s5.2.2.2.2.drop st') ++ zit e s5.1 ++ [32]) p1 s1.2.2.2.2.length ma s4) (p := (st', zmk e s.1) :: p') ht hod hc1 hm1 (fun q hq1 => by
          rcases List.mem_cons.mp hq1 with rfl | y
          · show zmk e s.1 ≤ 3; omega
          · exact (hp3 q y).2) hz with ⟨h2, g1, g2⟩ | ⟨h2, p1, s1, p2, st6, ma6, s6, g1, g2, g3, g4, g5, g6, g7, g8, g9⟩
        · exact ⟨h2, Or.inr ⟨g1, g2⟩⟩
        · exact ⟨h2, Or.inl ⟨g1, p1, s1, p2, st6, ma6, s6, g2, g3, g4, g5, g6, g7, g8, g9⟩⟩)
      obtain ⟨h6, ⟨g1, p1, s1, p2, st6, ma6, s6, g2, g3, g4, g5, g6, g7, g8, g9⟩ | ⟨g1, rfl, g2⟩⟩ := hgo
      · obtain ⟨h7, y1, y2⟩ := turn m rfl _ p1 s1 p2 st6 ma6 s6 h6 (some (.int (nI (znk e s.1)))) (some (.int 0)) g2 g3 (fun q hq1 => by
          rcases g4 q hq1 with z | z
          · rcases List.mem_cons.mp z with rfl | z
            · exact ⟨by show 1 ≤ zmk e s.1; omega, by show zmk e s.1 ≤ 3; omega⟩
            · exact hp3 q z
          · omega) g5 (by rw [g6, i7]; exact hb) g7 g8 v s' g9
        rw [← hrk] at g1
        exact ⟨h7, hroad _ (x_go (d := d + 3) (mxp_mcs i3) (qe_up (by omega) g1) y1), y2⟩
      · rw [← hrk] at g1
        exact ⟨h6, hroad _ (x_goT (d := d + 3) (mxp_mcs i3) (qe_up (by omega) g1)), g2⟩
  · have h12 : ¬ (zmk e s.1 = 1 ∨ zmk e s.1 = 2) := fun q => hf (decide_eq_true q)
    have hrk : ¬ (znk e s.1 = 1 ∨ znk e s.1 = 2) := fun q => h12 (by rw [hrf.2.2.1 q]; exact q)
    obtain ⟨p', st', ma', s5, z1, a1, hz⟩ := zaft_no hf hz
    rw [zcb_lo (nx := 1) Q st ma s (fun q hq1 => (hq q hq1).1)] at z1
    cases hz
    obtain ⟨h7, ma7, y1, y2, y3⟩ := x_137 (L := L) (xs := xs) (d := d + 3) (r := r) (x4 := some (.int (nI (znk e s.1)))) (x5 := some (.int 0)) (x3 := none) ht hl hx hm (fun q hq1 => by have := hq q hq1; omega) z1
    have y1 := Option.some.inj y1
    obtain ⟨-, e2⟩ := Prod.mk.inj y1
    obtain ⟨-, rfl⟩ := Prod.mk.inj e2
    rw [hb] at y3
    refine ⟨h7, ?_, y3⟩
    refine x_26 (d := d + 3) (Q := Q) (mxp_mcs hx) (by omega) (Or.inr top9) _ ?_
    have hstay : ∀ nx, 5 ≤ nx → nx ≤ 8 → qe L xs (d + 11) 157 [.ref 14, .int (nI P.length), .int (nI nx), .int (nI r)] h (.inl (some (.int (nI r))), h) := fun nx n5 n8 => qe_up (by omega) (m_sto00 (L := L) (xs := xs) (d := d + 7) ht n8 (fun q R' e1 => by subst e1; have := hq q (List.mem_cons_self ..); omega) (mxp_mcs hx))
    have r73 : ∀ o, qg L xs (d + 11) qm_140 73 [some (.ref 14), some (.int (nI P.length)), some (.int 1), some (.int (nI r)), some (.int (nI (znk e s.1))), x5] [] h o → qg L xs (d + 11) qm_140 58 [some (.ref 14), some (.int (nI P.length)), some (.int 1), some (.int (nI r)), some (.int (nI (znk e s.1))), x5] [] h o := by
      intro o hg
      by_cases h0 : znk e s.1 = 0
      · rw [h0] at hg ⊢
        exact x_58z (d := d + 3) o hg
      · refine x_58 (d := d + 3) (mxp_mcs hx) (by omega) (by omega) (r' := r) (h' := h) ?_ o hg
        by_cases h4 : znk e s.1 = 4
        · rw [if_pos h4]; exact hstay 5 (by decide) (by decide)
        · rw [if_neg h4]; exact hstay _ (by have := hro.2.1; omega) (by omega)
    refine r73 _ (x_73 (d := d + 3) (Q := Q) (mxp_mcs hx) (by omega) (Or.inr top9) _ (x_100n (d := d + 3) (Q := Q) (mxp_mcs hx) (by omega) hr9 ?_ _ y2))
    by_cases h0 : znk e s.1 = 0
    · exact Or.inl h0
    · by_cases h4 : znk e s.1 = 4
      · refine Or.inr (Or.inl ⟨h4, ?_⟩)
        rcases hc4 h4 with z | z
        · exact Or.inl (by omega)
        · exact Or.inr z
      · have h5 : 5 ≤ znk e s.1 := by have := hro.2.1; omega
        have := hc5 h5
        exact Or.inr (Or.inr ⟨by omega, h4, by omega⟩)
/-- behind a sum that ends a comparison -/
theorem x_cmpE (ht : mtk e Y) (hod : mop L xs e Y K (d + 8) 144 pr) {l0 : Nat} (hl : mle K P l0) {m : Nat} (hE : xE L xs e Y K (d + 11) P l0 pr ex qy m) {s0 : zS} {p1 : zK} {c0 : Nat} (hm1 : mso l0 c0 p1) (hp1 : ∀ q ∈ p1, 1 ≤ q.2 ∧ q.2 ≤ 3) (hb1 : zbot p1 c0 = l0) {p2 : zK} {st ma : Nat} {sX : zS} (hx : mxp e Y K (p2 ++ ((c0, 4) :: p1) ++ P) s h st ma) (hm : mso l0 st (p2 ++ ((c0, 4) :: p1))) (hp2 : ∀ q ∈ p2, q.2 = 8) : xsm L xs e Y K (d + 11) P l0 10 [some (.ref 14), some (.int (nI P.length)), some (.int 1), some (.int (nI 9)), x4, x5] h (zbd (zaft e 88 8 zfamS pr 69999 sX p2 st ma s) (fun _ s => zbd (zpop s) fun _ s => zbd (zput (zt 1008) s) fun _ s => zaE e pr ex qy m s0 p1 c0 4 s)) := by
  refine x_sum (c0 := zbot p2 st) (R := (c0, 4) :: p1) ht hod hl (fun q R' e1 => by cases e1; exact Or.inl (Nat.le_refl _)) (fun ma s h r x5 hx hm hr hr4 hr9 v s' hz => ?_) _ _ _ _ _ _ _ _ _ hx hm (fun q hq => by have := hp2 q hq; omega) rfl
  refine hE s0 ((c0, 4) :: p1) (zbot p2 st) ma s h r x5 hx hm (fun q hq => ?_) (fun q Q' e1 x hx => ?_) hb1 (by omega) hr9 (fun _ => Or.inr ⟨(c0, 4), p1, rfl, rfl⟩) (fun h5 => by omega) v s' (zaft_T zfamE_le hz)
  · rcases List.mem_cons.mp hq with rfl | hq
    · exact ⟨(by show 1 ≤ 4; decide), (by show 4 ≤ 4; decide)⟩
    · have := hp1 q hq; omega
  · cases e1
    exact (hp1 x hx).2
/-- the uppermost that waits: LOW turns to TEST -/
theorem m_retop {c r : Nat} (hc : mcs e Y K ((c, r) :: W) s h) : ∃ kept bg en md wr h', h.1[14]? = some (mobj K.2.2.2.1 s.1 kept s.2.1 s.2.2.1 bg en md (W.length + 1)) ∧ h.1[23]? = some (ai_num .int 512 wr) ∧ h' = (h.1.set 23 (ai_num .int 512 (upd wr W.length (nI 4))), h.2) ∧ W.length < 300 ∧ mcs e Y K ((c, 4) :: W) s h' := by
  obtain ⟨J, bg, en, md, hc⟩ := hc
  obtain ⟨rf, bf, wr, wf, h5, c6, c7, c8, ⟨cu, c9, c10, c11⟩, c14⟩ := mcs0_5 hc
  have hw : W.length + 1 ≤ 300 := c9.2.2.2.2
  refine ⟨J.length, bg, en, md, wr, _, h5.1, h5.2.2.2.1, rfl, by omega, J, bg, en, md, mcs0_of (m5_23 h5) c6 c7 (fun i q hq => ?_) ⟨cu, c9, c10, c11⟩ c14⟩
  rw [List.reverse_cons] at hq
  rcases Nat.lt_or_ge i W.length with hi | hi
  · have hq2 : W.reverse[i]? = some q := by
      rw [List.getElem?_append_left (by rw [List.length_reverse]; exact hi)] at hq
      exact hq
    obtain ⟨w1, w2⟩ := c8 i q (by rw [List.reverse_cons, List.getElem?_append_left (by rw [List.length_reverse]; exact hi)]; exact hq2)
    unfold upd
    rw [if_neg (by omega)]
    exact ⟨w1, w2⟩
  · have h2 : i = W.length := by
      have := (List.getElem?_eq_some_iff.mp hq).1
      rw [List.length_append, List.length_reverse] at this
      simp only [List.length_cons, List.length_nil] at this
      omega
    subst h2
    obtain ⟨w1, w2, w3⟩ := c8 W.length (c, r) (by rw [List.reverse_cons, List.getElem?_append_right (by rw [List.length_reverse]; exact Nat.le_refl _), List.length_reverse, Nat.sub_self]; rfl)
    rw [List.getElem?_append_right (by rw [List.length_reverse]; exact Nat.le_refl _), List.length_reverse, Nat.sub_self] at hq
    cases hq
    unfold upd
    rw [if_pos rfl]
    exact ⟨rfl, (by show 4 ≤ 9; decide), w3⟩
/-- the first end of a BETWEEN -/
theorem x_low (ht : mtk e Y) (hod : mop L xs e Y K (d + 8) 144 pr) {l0 : Nat} (hl : mle K P l0) {m : Nat} (hE : xE L xs e Y K (d + 11) P l0 pr ex qy m) {s0 : zS} {p1 : zK} {c0 : Nat} (hm1 : mso l0 c0 p1) (hp1 : ∀ q ∈ p1, 1 ≤ q.2 ∧ q.2 ≤ 3) (hb1 : zbot p1 c0 = l0) {p2 : zK} {st ma : Nat} {sX : zS} (hx : mxp e Y K (p2 ++ ((c0, 9) :: p1) ++ P) s h st ma) (hm : mso l0 st (p2 ++ ((c0, 9) :: p1))) (hp2 : ∀ q ∈ p2, q.2 = 8) : xsm L xs e Y K (d + 11) P l0 10 [some (.ref 14), some (.int (nI P.length)), some (.int 1), some (.int (nI 9)), x4, x5] h (zbd (zaft e 88 8 zfamS pr 69999 sX p2 st ma s) (fun _ s => zbd (zcp e 2 s) fun _ s => zbd (z_sum e pr s) fun _ s => zbd (zpop s) fun _ s => zbd (zput (zt 1008) s) fun _ s => zaE e pr ex qy m s0 p1 c0 4 s)) := by
  refine x_sum (c0 := zbot p2 st) (R := (c0, 9) :: p1) ht hod hl (fun q R' e1 => by cases e1; exact Or.inr rfl) (fun ma s h r x5 hx hm hr hr4 hr9 v s' hz => ?_) _ _ _ _ _ _ _ _ _ hx hm (fun q hq => by have := hp2 q hq; omega) rfl
  have hro := znk_of ht s.1
  have hc : mcs e Y K ((c0, 9) :: (p1 ++ P)) s h := mxp_mcs hx
  by_cases t : ztk e s.1 = 2
  · have hrk : znk e s.1 = 2 := hro.2.2.2.2.mpr t
    rcases zbd_inv hz with ⟨z1, -⟩ | ⟨a1, s1, z1, hz⟩
    · unfold zcp zc at z1
      rw [if_pos t] at z1
      obtain ⟨x, -⟩ := zkp_inv t (by decide) z1; cases x
    unfold zcp zc at z1
    rw [if_pos t] at z1
    obtain ⟨-, e1⟩ := zkp_inv t (by decide) z1
    obtain ⟨kept, bg, en, md, wr, h1, o1, o2, eh1, hw, hc1⟩ := m_retop hc
    obtain ⟨h2, g2, hc2⟩ := m_keepw (L := L) (xs := xs) (d := d + 10) ht hc1 t (by decide)
    rw [← e1] at hc2
    have hl2 : P.length ≤ (p1 ++ P).length := by rw [List.length_append]; omega
    obtain ⟨_, _, _, _, wr', o1', o2', w1, -, -⟩ := m_top hc
    have ew : wr' = wr := by
      rw [o2] at o2'
      have := Option.some.inj o2'
      cases this; rfl
    subst ew
    have hm2 : mso l0 s1.2.2.2.2.length ([] ++ (c0, 4) :: p1) := ⟨(mcs0_lt hc2.choose_spec.choose_spec.choose_spec.choose_spec).1.1 (c0, 4) (List.mem_cons_self ..), hm1⟩
    have road : ∀ o, qg L xs (d + 11) qm_140 54 [some (.ref 14), some (.int (nI P.length)), some (.int 1), some (.int (nI r)), some (.int (nI (znk e s.1))), x5] [.int (nI P.length), .ref 14] h2 o → qg L xs (d + 11) qm_140 26 [some (.ref 14), some (.int (nI P.length)), some (.int 1), some (.int (nI r)), some (.int (nI (znk e s.1))), x5] [] h o := by
      intro o hg
      rw [hrk] at hg ⊢
      refine qg_pls (n := 2) (k' := 28) (lo' := [some (.ref 14), some (.int (nI P.length)), some (.int 1), some (.int (nI r)), some (.int (nI 2)), x5]) (S' := [.int 2, .int (nI 2)]) (h' := h) rfl ?_
      refine qg_icmp false rfl (qc_neF (b := 2) rfl) rfl ?_
      refine qg_pls (n := 1) (k' := 30) (lo' := [some (.ref 14), some (.int (nI P.length)), some (.int 1), some (.int (nI r)), some (.int (nI 2)), x5]) (S' := [.ref 14]) (h' := h) rfl ?_
      refine qg_getf (v := .int (nI ((p1 ++ P).length + 1))) rfl o1 rfl rfl rfl ?_
      refine qg_pls (n := 1) (k' := 32) (lo' := [some (.ref 14), some (.int (nI P.length)), some (.int 1), some (.int (nI r)), some (.int (nI 2)), x5]) (S' := [.int (nI P.length), .int (nI ((p1 ++ P).length + 1))]) (h' := h) rfl ?_
      refine qg_icmp false rfl (qc_leF (by omega) (by omega)) rfl ?_
      refine qg_pls (n := 1) (k' := 34) (lo' := [some (.ref 14), some (.int (nI P.length)), some (.int 1), some (.int (nI r)), some (.int (nI 2)), x5]) (S' := [.ref 14]) (h' := h) rfl ?_
      refine qg_getf (v := .ref 23) rfl o1 rfl rfl rfl ?_
      refine qg_pls (n := 1) (k' := 36) (lo' := [some (.ref 14), some (.int (nI P.length)), some (.int 1), some (.int (nI r)), some (.int (nI 2)), x5]) (S' := [.ref 14, .ref 23]) (h' := h) rfl ?_
      refine qg_getf (v := .int (nI ((p1 ++ P).length + 1))) rfl o1 rfl rfl rfl ?_
      refine qg_pls (n := 2) (k' := 39) (lo' := [some (.ref 14), some (.int (nI P.length)), some (.int 1), some (.int (nI r)), some (.int (nI 2)), x5]) (S' := [.int ((nI ((p1 ++ P).length + 1)) - 1), .ref 23]) (h' := h) rfl ?_
      rw [show nI ((p1 ++ P).length + 1) - 1 = nI (p1 ++ P).length from nI_sub (b := 1) (by omega)]
      refine qg_ald rfl (fun _ _ _ => rfl) o2 (by omega) (by decide) ?_
      rw [w1]
      refine qg_pls (n := 1) (k' := 41) (lo' := [some (.ref 14), some (.int (nI P.length)), some (.int 1), some (.int (nI r)), some (.int (nI 2)), x5]) (S' := [.int 9, .int (nI 9)]) (h' := h) rfl ?_
      refine qg_icmp false rfl (qc_neF (b := 9) rfl) rfl ?_
      refine qg_pls (n := 1) (k' := 43) (lo' := [some (.ref 14), some (.int (nI P.length)), some (.int 1), some (.int (nI r)), some (.int (nI 2)), x5]) (S' := [.ref 14]) (h' := h) rfl ?_
      refine qg_getf (v := .ref 23) rfl o1 rfl rfl rfl ?_
      refine qg_pls (n := 1) (k' := 45) (lo' := [some (.ref 14), some (.int (nI P.length)), some (.int 1), some (.int (nI r)), some (.int (nI 2)), x5]) (S' := [.ref 14, .ref 23]) (h' := h) rfl ?_
      refine qg_getf (v := .int (nI ((p1 ++ P).length + 1))) rfl o1 rfl rfl rfl ?_
      refine qg_pls (n := 3) (k' := 49) (lo' := [some (.ref 14), some (.int (nI P.length)), some (.int 1), some (.int (nI r)), some (.int (nI 2)), x5]) (S' := [.int 4, .int ((nI ((p1 ++ P).length + 1)) - 1), .ref 23]) (h' := h) rfl ?_
      rw [show nI ((p1 ++ P).length + 1) - 1 = nI (p1 ++ P).length from nI_sub (b := 1) (by omega)]
      refine qg_ast rfl (fun _ _ _ => rfl) o2 (by omega) (by decide) ?_
      show qg L xs _ qm_140 50 [some (.ref 14), some (.int (nI P.length)), some (.int 1), some (.int (nI r)), some (.int (nI 2)), x5] [] (h.1.set 23 (ai_num .int 512 (upd wr' (p1 ++ P).length (nI 4))), h.2) _
      rw [← eh1]
      show qg L xs _ qm_140 50 [some (.ref 14), some (.int (nI P.length)), some (.int 1), some (.int (nI r)), some (.int (nI 2)), x5] [] h1 _
      refine qg_pls (n := 1) (k' := 51) (lo' := [some (.ref 14), some (.int (nI P.length)), some (.int 1), some (.int (nI r)), some (.int (nI 2)), x5]) (S' := [.ref 14]) (h' := h1) rfl ?_
      refine qg_call (v := none) (h' := h2) (as := [.ref 14]) rfl rfl rfl rfl rfl rfl rfl (ai_rcv1 rfl rfl ((mcs_rcv hc1).choose_spec)) (g2) ?_
      show qg L xs _ qm_140 52 [some (.ref 14), some (.int (nI P.length)), some (.int 1), some (.int (nI r)), some (.int (nI 2)), x5] [] h2 _
      refine qg_pls (n := 2) (k' := 54) (lo' := [some (.ref 14), some (.int (nI P.length)), some (.int 1), some (.int (nI r)), some (.int (nI 2)), x5]) (S' := [.int (nI P.length), .ref 14]) (h' := h2) rfl ?_
      exact hg
    unfold z_sum at hz
    rw [zN_1, zops_succ, zbd_zbd] at hz
    simp only [zbd_zbd] at hz
    rcases m_prS (F := fun p st ma s4 => zbd (zaft e 88 8 zfamS pr 69999 s1 p st ma s4) (fun _ s => zbd (zpop s) fun _ s => zbd (zput (zt 1008) s) fun _ s => zaE e pr ex qy m s0 p1 c0 4 s)) (p := []) (R := (c0, 4) :: p1) ht hod hc2 hm2 (Or.inr ⟨(c0, 4), p1, rfl, (by show 3 < 4; decide)⟩) hz with ⟨h3, g3, rfl, g4⟩ | ⟨h3, p3, st3, ma3, s3, g3, g4, g5, g6, g7, g8⟩
    · refine ⟨h3, road _ ?_, g4⟩
      exact qg_callT rfl rfl rfl rfl rfl rfl rfl (ai_rcv1 rfl rfl ((mcs_rcv hc2).choose_spec)) rfl ((qe_up (by omega) g3))
    · obtain ⟨h7, y1, y2⟩ := x_cmpE (x4 := some (.int (nI (znk e s.1)))) (x5 := x5) ht hod hl hE (s0 := s0) hm1 hp1 hb1 g4 g5 (fun q hq => by
        rcases g6 q hq with z | z
        · cases z
        · exact z) v s' g8
      refine ⟨h7, road _ ?_, y2⟩
      refine qg_call (v := none) (h' := h3) (as := [.ref 14, .int (nI P.length)]) rfl rfl rfl rfl rfl rfl rfl (ai_rcv1 rfl rfl ((mcs_rcv hc2).choose_spec)) ((qe_up (by omega) g3)) ?_
      show qg L xs _ qm_140 55 [some (.ref 14), some (.int (nI P.length)), some (.int 1), some (.int (nI r)), some (.int (nI (znk e s.1))), x5] [] h3 _
      refine qg_pls (n := 4) (k' := 10) (lo' := [some (.ref 14), some (.int (nI P.length)), some (.int 1), some (.int 9), some (.int (nI (znk e s.1))), x5]) (S' := []) (h' := h3) rfl ?_
      exact y1
  · have hrk : znk e s.1 ≠ 2 := fun q => t (hro.2.2.2.2.mp q)
    rw [zcp_no t] at hz
    simp only [zbd_fault] at hz
    cases hz
    refine ⟨_, ?_, mcs_bad hc⟩
    refine x_26 (d := d + 3) (Q := (c0, 9) :: p1) hc (by omega) (Or.inl hrk) _ ?_
    have r73 : ∀ o, qg L xs (d + 11) qm_140 73 [some (.ref 14), some (.int (nI P.length)), some (.int 1), some (.int (nI r)), some (.int (nI (znk e s.1))), x5] [] h o → qg L xs (d + 11) qm_140 58 [some (.ref 14), some (.int (nI P.length)), some (.int 1), some (.int (nI r)), some (.int (nI (znk e s.1))), x5] [] h o := by
      intro o hg
      by_cases h0 : znk e s.1 = 0
      · rw [h0] at hg ⊢
        exact x_58z (d := d + 3) o hg
      · refine x_58 (d := d + 3) hc (by omega) (by omega) (r' := r) (h' := h) ?_ o hg
        refine qe_up (by omega) (m_sto00 (L := L) (xs := xs) (d := d + 7) (R := (c0, 9) :: p1) ht (by split <;> omega) (fun q R' e1 => by cases e1; exact Or.inr rfl) hc)
    exact r73 _ (x_73s (d := d + 3) (Q' := p1) hc hr rfl)
/-- one operand of AND and OR, behind its first operand -/
theorem x_turn (ht : mtk e Y) (hod : mop L xs e Y K (d + 8) 144 pr) {l0 : Nat} (hl : mle K P l0) (hU : K.2.2.1.length + 1 ≤ 95) (hex : ∀ c k, mim L xs e Y (mgh K c k) d 140 [.ref 14] 0 ex) (hqy : ∀ c k, mim L xs e Y (mgh K c k) (d + 9) 133 [.ref 14] 0 qy) {m : Nat} (hE : xE L xs e Y K (d + 11) P l0 pr ex qy m) {s0 : zS} {p1 : zK} {s1 : zS} {p2 : zK} {st ma : Nat} (hx : mxp e Y K (p2 ++ p1 ++ P) s h st ma) (hm : mso l0 st (p2 ++ p1)) (hp1 : ∀ q ∈ p1, 1 ≤ q.2 ∧ q.2 ≤ 3) (hp2 : ∀ q ∈ p2, q.2 = 8) (hb1 : zbot p1 s1.2.2.2.2.length = l0) (hb2 : zbot p2 st = s1.2.2.2.2.length) (hm1 : mso l0 s1.2.2.2.2.length p1) : xsm L xs e Y K (d + 11) P l0 10 [some (.ref 14), some (.int (nI P.length)), some (.int 1), some (.int (nI 9)), x4, x5] h (zbd (zaft e 88 8 zfamS pr 69999 s1 p2 st ma s) fun ma s2 => zbd (if zmk e s2.1 = 4 ∨ ztk e s2.1 = 37 ∨ ztk e s2.1 = 49 ∨ ztk e s2.1 = 31 ∨ ztk e s2.1 = 7 ∨ ztk e s2.1 = 42 then z_test e pr ex qy s1.2.2.2.2.length s2 else some (some ma, s2)) fun ma s4 => zaE e pr ex qy m s0 p1 s1.2.2.2.2.length ma s4) := by
  refine x_sum (c0 := s1.2.2.2.2.length) (R := p1) ht hod hl (fun q R' e1 => by subst e1; have := hp1 q (List.mem_cons_self ..); omega) (fun ma s h r x5 hx hm hr hr4 hr9 v s' hz => ?_) _ _ _ _ _ _ _ _ _ hx hm (fun q hq => by have := hp2 q hq; omega) hb2
  have hrf := znk_f ht s.1
  have hQ4 : ∀ q ∈ p1, 1 ≤ q.2 ∧ q.2 ≤ 4 := fun q hq => by have := hp1 q hq; omega
  have hQ3 : ∀ q Q', p1 = q :: Q' → ∀ x ∈ Q', x.2 ≤ 3 := fun q Q' e1 x hx' => (hp1 x (by rw [e1]; exact List.mem_cons_of_mem _ hx')).2
  by_cases t : zmk e s.1 = 4 ∨ ztk e s.1 = 37 ∨ ztk e s.1 = 49 ∨ ztk e s.1 = 31 ∨ ztk e s.1 = 7 ∨ ztk e s.1 = 42
  · rw [if_pos t] at hz
    have h4 := hrf.2.2.2.2.mp t
    -- to the call of goOn
    have hstay : qe L xs (d + 11) 157 [.ref 14, .int (nI P.length), .int (nI 5), .int (nI r)] h (.inl (some (.int (nI r))), h) := qe_up (by omega) (m_sto00 (L := L) (xs := xs) (d := d + 7) (R := p1) ht (by decide) (fun q R' e1 => by subst e1; have := hp1 q (List.mem_cons_self ..); omega) (mxp_mcs hx))
    have top9 : p1 = [] ∨ ∃ q Q', p1 = q :: Q' ∧ q.2 ≠ 9 := by
      cases p1 with
      | nil => exact Or.inl rfl
      | cons q Q' => exact Or.inr ⟨q, Q', rfl, by have := hp1 q (List.mem_cons_self ..); omega⟩
    have top4 : p1 = [] ∨ ∃ q Q', p1 = q :: Q' ∧ q.2 ≠ 4 := by
      cases p1 with
      | nil => exact Or.inl rfl
      | cons q Q' => exact Or.inr ⟨q, Q', rfl, by have := hp1 q (List.mem_cons_self ..); omega⟩
    have hroad : ∀ o, qg L xs (d + 11) qm_140 134 [some (.ref 14), some (.int (nI P.length)), some (.int 1), some (.int (nI r)), some (.int (nI 4)), some (.int 0)] [.int (nI 4), .int (nI P.length), .ref 14] h o → qg L xs (d + 11) qm_140 26 [some (.ref 14), some (.int (nI P.length)), some (.int 1), some (.int (nI r)), some (.int (nI (znk e s.1))), x5] [] h o := by
      intro o hg
      rw [h4]
      refine x_26 (d := d + 3) (Q := p1) (mxp_mcs hx) (by decide) (Or.inl (by decide)) o ?_
      refine x_58 (d := d + 3) (mxp_mcs hx) (by decide) (by decide) (r' := r) (h' := h) (by rw [if_pos rfl]; exact hstay) o ?_
      refine x_73 (d := d + 3) (Q := p1) (mxp_mcs hx) (by decide) (Or.inr top9) o ?_
      exact x_100y (d := d + 3) (Q := p1) (mxp_mcs hx) (by decide) hr9 (by decide) (Or.inl ⟨rfl, hr4, top4⟩) o hg
    obtain ⟨J, k, hc0, hk, hjo, -⟩ := id hx
    have hob := mcs0_ob hc0
    have hto := m_test (k := k) ht hod hl hm1 hU (hex _ _) (hqy _ _) hc0 hk hjo h4 hz
    rcases hto with ⟨h2, g1, rfl, g2⟩ | ⟨h2, s5, g1, g2, g3⟩ | ⟨h2, r2, p3, st3, ma3, s3, sX, g1, g2, g3, g4, ⟨rfl, g5⟩ | ⟨rfl, g5⟩⟩
    · have q1 := m_goOn4 hob (fun v h' e1 => by cases e1) (Or.inl ⟨h2, rfl⟩) g1
      exact ⟨h2, hroad _ (x_goT (d := d + 3) (mxp_mcs hx) q1), g2⟩
    · have q1 := m_goOn4 hob (fun v h' e1 => by cases e1; exact ⟨4, rfl⟩) (Or.inr ⟨4, h2, rfl⟩) g1
      have hst2 := m_sto00 (L := L) (xs := xs) (d := d + 7) (R := p1) (nx := if 4 < znk e s5.1 then znk e s5.1 else 5) (r := 4) ht (by have := (znk_of ht s5.1).1; split <;> omega) (fun q R' e1 => by subst e1; have := hp1 q (List.mem_cons_self ..); split <;> omega) (mxp_mcs g2)
      obtain ⟨h7, y1, y2⟩ := hE s0 p1 _ 4 s5 h2 4 (some (.int 0)) g2 hm1 hQ4 hQ3 hb1 (by decide) (by decide) (fun _ => Or.inl rfl) (fun _ => rfl) v s' g3
      exact ⟨h7, hroad _ (x_go (d := d + 3) (mxp_mcs hx) q1 (x_10 (d := d + 3) ht (mxp_mcs g2) (qe_up (by omega) hst2) _ y1)), y2⟩
    · have q1 := m_goOn4 hob (fun v h' e1 => by cases e1; exact ⟨9, rfl⟩) (Or.inr ⟨9, h2, rfl⟩) g1
      obtain ⟨h7, y1, y2⟩ := x_cmpE (x4 := some (.int (nI 4))) (x5 := some (.int 0)) ht hod hl hE (s0 := s0) hm1 hp1 hb1 g2 g3 g4 v s' g5
      exact ⟨h7, hroad _ (x_go (d := d + 3) (mxp_mcs hx) q1 y1), y2⟩
    · have q1 := m_goOn4 hob (fun v h' e1 => by cases e1; exact ⟨9, rfl⟩) (Or.inr ⟨9, h2, rfl⟩) g1
      obtain ⟨h7, y1, y2⟩ := x_low (x4 := some (.int (nI 4))) (x5 := some (.int 0)) ht hod hl hE (s0 := s0) hm1 hp1 hb1 g2 g3 g4 v s' g5
      exact ⟨h7, hroad _ (x_go (d := d + 3) (mxp_mcs hx) q1 y1), y2⟩
  · rw [if_neg t] at hz
    simp only [zbd_some] at hz
    have h4 : znk e s.1 ≠ 4 := fun q => t (hrf.2.2.2.2.mpr q)
    exact hE s0 p1 _ ma s h r x5 hx hm1 hQ4 hQ3 hb1 (by omega) hr9 (fun q => absurd q h4) (fun q => by omega) v s' hz
/-- QueryReaderModel.expression -/
theorem m_expr (ht : mtk e Y) (hod : mop L xs e Y K (d + 8) 144 (z_prim e ex qy)) (hU : K.2.2.1.length + 1 ≤ 95) (hex : ∀ c k, mim L xs e Y (mgh K c k) d 140 [.ref 14] 0 ex) (hqy : ∀ c k, mim L xs e Y (mgh K c k) (d + 9) 133 [.ref 14] 0 qy) : mop L xs e Y K (d + 12) 140 (z_ex e ex qy) := by
  intro P s h v s' hc hz
  obtain ⟨J, bg, en, md, hc0⟩ := id hc
  have hl : mle K P s.2.2.2.2.length := (mcs0_lt hc0).1
  have hE : ∀ n, xE L xs e Y K (d + 11) P s.2.2.2.2.length (z_prim e ex qy) ex qy n := by
    intro n
    induction n with
    | zero => exact x_and ht hod hl 0 (fun m hm => by omega)
    | succ n ih =>
      refine x_and ht hod hl (n + 1) (fun m hm => ?_)
      have hmn : m = n := by omega
      subst hmn
      intro s0 p1 s1 p2 st ma s h x4 x5 hx hm hp1 hp2 hb1 hb2 hm1
      exact x_turn ht hod hl hU hex hqy ih hx hm hp1 hp2 hb1 hb2 hm1
  unfold z_ex at hz
  rw [zN_1, zE_turn] at hz
  have hob := mcs0_ob hc0
  rcases m_prE (d := d) (F := fun p1 s1 p2 st ma s4 => zbd (zaft e 88 8 zfamS (z_prim e ex qy) 69999 s1 p2 st ma s4) fun ma s2 => zbd (if zmk e s2.1 = 4 ∨ ztk e s2.1 = 37 ∨ ztk e s2.1 = 49 ∨ ztk e s2.1 = 31 ∨ ztk e s2.1 = 7 ∨ ztk e s2.1 = 42 then z_test e (z_prim e ex qy) ex qy s1.2.2.2.2.length s2 else some (some ma, s2)) fun ma s4 => zaE e (z_prim e ex qy) ex qy 69999 s p1 s1.2.2.2.2.length ma s4) (p := []) ht hod hc (Nat.le_refl _) (fun q hq => by cases hq) hz with ⟨h2, g1, rfl, g2⟩ | ⟨h2, p1, s1, p2, st6, ma6, s6, g1, g2, g3, g4, g5, g6, g7, g8, g9⟩
  · refine ⟨h2, ?_, g2⟩
    refine qe_of (M := qm_140) rfl rfl ?_
    show qg L xs _ qm_140 0 [some (.ref 14), none, none, none, none, none] [] h _
    refine qg_pls (n := 1) (k' := 1) (lo' := [some (.ref 14), none, none, none, none, none]) (S' := [.ref 14]) (h' := h) rfl ?_
    refine qg_getf (v := .int (nI P.length)) rfl hob rfl rfl rfl ?_
    refine qg_pls (n := 3) (k' := 5) (lo' := [some (.ref 14), some (.int (nI P.length)), none, none, none, none]) (S' := [.int (nI P.length), .ref 14]) (h' := h) rfl ?_
    exact qg_callT rfl rfl rfl rfl rfl rfl rfl (ai_rcv1 rfl rfl hob) rfl ((qe_up (by omega) g1))
  · obtain ⟨h7, y1, y2⟩ := x_turn (x4 := none) (x5 := none) ht hod hl hU hex hqy (hE 69999) g2 g3 (fun q hq => by
      rcases g4 q hq with z | z
      · cases z
      · omega) g5 g6 g7 g8 v s' g9
    refine ⟨h7, ?_, y2⟩
    refine qe_of (M := qm_140) rfl rfl ?_
    show qg L xs _ qm_140 0 [some (.ref 14), none, none, none, none, none] [] h _
    refine qg_pls (n := 1) (k' := 1) (lo' := [some (.ref 14), none, none, none, none, none]) (S' := [.ref 14]) (h' := h) rfl ?_
    refine qg_getf (v := .int (nI P.length)) rfl hob rfl rfl rfl ?_
    refine qg_pls (n := 3) (k' := 5) (lo' := [some (.ref 14), some (.int (nI P.length)), none, none, none, none]) (S' := [.int (nI P.length), .ref 14]) (h' := h) rfl ?_
    refine qg_call (v := none) (h' := h2) (as := [.ref 14, .int (nI P.length)]) rfl rfl rfl rfl rfl rfl rfl (ai_rcv1 rfl rfl hob) ((qe_up (by omega) g1)) ?_
    show qg L xs _ qm_140 6 [some (.ref 14), some (.int (nI P.length)), none, none, none, none] [] h2 _
    refine qg_pls (n := 4) (k' := 10) (lo' := [some (.ref 14), some (.int (nI P.length)), some (.int 1), some (.int 9), none, none]) (S' := []) (h' := h2) rfl ?_
    exact y1
end MEX
