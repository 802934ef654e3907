/-! THE MODEL: THE SUMS OF AN EXPRESSION. (Printed by wip/whole/pp.py from wip/whole/src.) -/
section MXS
variable {L : Nat} {xs : Nat → Int32} {d : Nat} {h h' : ai_H} {e : zE} {Y : Nat → Option ai_C} {K : mK} {W P Q : zK} {s s' : zS} {pr : zP} {x4 x5 : Option Value}
/-- behind an operand -/
def zaft (e : zE) (kp mp : Nat) (fam : Nat → Bool) (od : zP) (n : Nat) (s0 : zS) (p : zK) (st ma : Nat) (s4 : zS) : zR Nat := zbd (zcomb (if fam (zmk e s4.1) = true then zmk e s4.1 else 0) st ma p s4) fun q s2 => if fam (zmk e s2.1) = true then zbd (zcp e (ztk e s2.1) s2) fun _ s3 => if s3.1 ≤ s0.1 then none else zops e kp mp fam od n q.1 s3 else some (some q.2, s2)
theorem zops_succ {kp mp : Nat} {fam : Nat → Bool} {od : zP} {n : Nat} {p : zK} : zops e kp mp fam od (n + 1) p s = zbd (zpre e kp mp 42 p s) fun p s1 => zbd (od s1) fun ma s4 => zaft e kp mp fam od n s p s1.2.2.2.2.length ma s4 := rfl
theorem zN_1 : zN = 69999 + 1 := rfl
theorem znk_2 : (List.range 104).all (fun k => decide ((5 ≤ (qr_en.getD k (0, 0)).2.toNatClampNeg → znkk k = (qr_en.getD k (0, 0)).2.toNatClampNeg) ∧ ((qr_en.getD k (0, 0)).2.toNatClampNeg < 5 → znkk k ≤ 4) ∧ ((znkk k = 1 ∨ znkk k = 2) → (qr_en.getD k (0, 0)).2.toNatClampNeg = znkk k) ∧ (((qr_en.getD k (0, 0)).2.toNatClampNeg = 1 ∨ (qr_en.getD k (0, 0)).2.toNatClampNeg = 2) → znkk k = (qr_en.getD k (0, 0)).2.toNatClampNeg) ∧ (((qr_en.getD k (0, 0)).2.toNatClampNeg = 4 ∨ k = 37 ∨ k = 49 ∨ k = 31 ∨ k = 7 ∨ k = 42) ↔ znkk k = 4))) = true := by decide +kernel
theorem znk_f (ht : mtk e Y) (i : Nat) : (5 ≤ zmk e i → znk e i = zmk e i) ∧ (zmk e i < 5 → znk e i ≤ 4) ∧ ((znk e i = 1 ∨ znk e i = 2) → zmk e i = znk e i) ∧ ((zmk e i = 1 ∨ zmk e i = 2) → znk e i = zmk e i) ∧ ((zmk e i = 4 ∨ ztk e i = 37 ∨ ztk e i = 49 ∨ ztk e i = 31 ∨ ztk e i = 7 ∨ ztk e i = 42) ↔ znk e i = 4) := of_decide_eq_true (List.all_eq_true.mp znk_2 (ztk e i) (List.mem_range.mpr (mtk_lt ht i)))
theorem zcb_ok {nx : Nat} : ∀ (p : zK) (st ma : Nat) (s s' : zS) (v : Option (zK × Nat × Nat)), zcb nx p st ma s = some (v, s') → ∃ p' st' ma', v = some (p', st', ma') ∧ s'.1 = s.1 ∧ p' <:+ p ∧ ∀ q p'', p' = q :: p'' → q.2 < nx := by
  intro p
  induction p with
  | nil =>
    intro st ma s s' v hz
    cases hz
    exact ⟨[], st, ma, rfl, rfl, List.suffix_refl _, (fun q p'' e1 => by cases e1)⟩
  | cons q p ih =>
    intro st ma s s' v hz
    unfold zcb at hz
    by_cases hle : nx ≤ q.2
    · rw [if_pos hle] at hz
      rcases zbd_inv hz with ⟨z1, -⟩ | ⟨a1, s1, z1, hz⟩
      · obtain ⟨-, x, -⟩ := zpop_inv z1; cases x
      obtain ⟨-, -, e1⟩ := zpop_inv z1
      rcases zbd_inv hz with ⟨z2, -⟩ | ⟨a2, s2, z2, hz⟩
      · obtain ⟨-, x, -⟩ := zput_inv z2; cases x
      obtain ⟨-, -, e2⟩ := zput_inv z2
      rcases zbd_inv hz with ⟨z3, -⟩ | ⟨a3, s3, z3, hz⟩
      · split at z3
        · obtain ⟨-, x, -⟩ := zdown_inv z3; cases x
        · cases z3
      have e3 : s3.1 = s2.1 := by
        split at z3
        · obtain ⟨-, -, x⟩ := zdown_inv z3; rw [x]
        · cases z3; rfl
      obtain ⟨p', st', ma', i1, i2, i3, i4⟩ := ih _ _ _ _ _ hz
      exact ⟨p', st', ma', i1, by rw [i2, e3, e2, e1], List.IsSuffix.trans i3 (List.suffix_cons _ _), i4⟩
    · rw [if_neg hle] at hz
      cases hz
      exact ⟨q :: p, st, ma, rfl, rfl, List.suffix_refl _, (fun q' p'' e1 => by cases e1; omega)⟩
theorem zcb_lo {nx : Nat} : ∀ (p : zK) (st ma : Nat) (s : zS), (∀ q ∈ p, nx ≤ q.2) → zcb 0 p st ma s = zcb nx p st ma s := by
  intro p
  induction p with
  | nil => intro st ma s _; rfl
  | cons q p ih =>
    intro st ma s hq
    unfold zcb
    rw [if_pos (Nat.zero_le _), if_pos (hq q (List.mem_cons_self ..))]
    simp only [ih _ _ _ (fun x hx => hq x (List.mem_cons_of_mem _ hx))]
/-- an operator of the family follows -/
theorem zaft_yes (ht : mtk e Y) {kp mp n st ma nx : Nat} {fam : Nat → Bool} {od : zP} {s0 : zS} {p : zK} {G : Nat → zS → zR Nat} {v : Option Nat} (hf : fam (zmk e s.1) = true) (hnx : zmk e s.1 = nx) (h0 : 1 ≤ nx) (hrk : znk e s.1 = nx) (hz : zbd (zaft e kp mp fam od n s0 p st ma s) G = some (v, s')) : ∃ p' st' ma' s5, zcb nx p st ma s = some (some (p', st', ma'), s5) ∧ s5.1 = s.1 ∧ s5.2.2.2.1 < 300 ∧ zbd (zops e kp mp fam od n ((st', nx) :: p') (s5.1 + 1, s5.2.1, s5.2.2.1, s5.2.2.2.1 + 1, (if ma' = nx then s5.2.2.2.2.take (s5.2.2.2.2.length - 2) else s5.2.2.2.2.take st' ++ [40, 32] ++ s5.2.2.2.2.drop st') ++ zit e s5.1 ++ [32])) G = some (v, s') := by
  unfold zaft zcomb at hz
  rw [if_pos hf, hnx] at hz
  simp only [zbd_zbd] at hz
  rcases zbd_inv hz with ⟨z1, -⟩ | ⟨⟨p', st', ma'⟩, s5, z1, hz⟩
  · obtain ⟨_, _, _, x, -⟩ := zcb_ok _ _ _ _ _ _ z1; cases x
  obtain ⟨_, _, _, -, a1, -⟩ := zcb_ok _ _ _ _ _ _ z1
  rw [if_neg (by omega)] at hz
  simp only [zbd_zbd] at hz
  rcases zbd_inv hz with ⟨z2, -⟩ | ⟨p6, s6, z2, hz⟩
  · obtain ⟨-, x, -⟩ := zpush_inv z2; cases x
  obtain ⟨w6, x6, e6⟩ := zpush_inv z2
  have x6 := Option.some.inj x6
  try simp only [zbd_zbd] at hz
  have hst : ∃ s7, s7 = (s5.1, s5.2.1, s5.2.2.1, s5.2.2.2.1 + 1, (if ma' = nx then s5.2.2.2.2.take (s5.2.2.2.2.length - 2) else s5.2.2.2.2.take st' ++ [40, 32] ++ s5.2.2.2.2.drop st')) ∧ zbd (if fam (zmk e s7.1) = true then zbd (zcp e (ztk e s7.1) s7) fun _ s3 => if s3.1 ≤ s0.1 then none else zops e kp mp fam od n p6 s3 else some (some ma', s7)) G = some (v, s') := by
    rcases zbd_inv hz with ⟨z3, -⟩ | ⟨a7, s7, z3, hz⟩
    · split at z3
      · obtain ⟨-, x, -⟩ := zreopen_inv z3; cases x
      · obtain ⟨-, -, x, -⟩ := zopen_inv z3; cases x
    simp only [zbd_some] at hz
    refine ⟨s7, ?_, hz⟩
    by_cases hm : ma' = nx
    · rw [if_pos hm] at z3 ⊢
      obtain ⟨-, -, x⟩ := zreopen_inv z3
      rw [x, e6]
    · rw [if_neg hm] at z3 ⊢
      obtain ⟨-, -, -, x⟩ := zopen_inv z3
      rw [x, e6]
  obtain ⟨s7, e7, hz⟩ := hst
  have t7 : s7.1 = s.1 := by rw [e7]; exact a1
  rw [t7, if_pos hf, zbd_zbd] at hz
  obtain ⟨k1, k2, k3, k4, k5⟩ := (znk_of ht s.1).2.2.2.1 (by omega)
  rcases zbd_inv hz with ⟨z8, -⟩ | ⟨a8, s8, z8, hz⟩
  · unfold zcp zc at z8
    rw [t7, if_pos rfl] at z8
    obtain ⟨x, -⟩ := zkp_inv (k := ztk e s.1) (by rw [t7]) ⟨by omega, by omega⟩ z8
    cases x
  unfold zcp zc at z8
  rw [t7, if_pos rfl] at z8
  obtain ⟨-, e8⟩ := zkp_inv (k := ztk e s.1) (by rw [t7]) ⟨by omega, by omega⟩ z8
  by_cases hg : s8.1 ≤ s0.1
  · rw [if_pos hg] at hz; cases hz
  rw [if_neg hg] at hz
  refine ⟨p', st', ma', s5, z1, a1, w6, ?_⟩
  rw [x6, e8, e7] at hz
  rw [a1, zit_w (s := s) rfl k1]
  rw [a1] at hz
  exact hz
/-- none follows -/
theorem zaft_no {kp mp n st ma : Nat} {fam : Nat → Bool} {od : zP} {s0 : zS} {p : zK} {G : Nat → zS → zR Nat} {v : Option Nat} (hf : ¬ fam (zmk e s.1) = true) (hz : zbd (zaft e kp mp fam od n s0 p st ma s) G = some (v, s')) : ∃ p' st' ma' s5, zcb 0 p st ma s = some (some (p', st', ma'), s5) ∧ s5.1 = s.1 ∧ G ma' s5 = some (v, s') := by
  unfold zaft zcomb at hz
  rw [if_neg hf] at hz
  simp only [zbd_zbd] at hz
  rcases zbd_inv hz with ⟨z1, -⟩ | ⟨⟨p', st', ma'⟩, s5, z1, hz⟩
  · obtain ⟨_, _, _, x, -⟩ := zcb_ok _ _ _ _ _ _ z1; cases x
  obtain ⟨_, _, _, -, a1, -⟩ := zcb_ok _ _ _ _ _ _ z1
  first | rw [if_pos rfl] at hz | rw [if_pos trivial] at hz
  simp only [zbd_some] at hz
  rw [a1, if_neg hf] at hz
  simp only [zbd_some] at hz
  exact ⟨p', st', ma', s5, z1, a1, hz⟩
/-- from this place of expression the body does what r says -/
def xsm (L : Nat) (xs : Nat → Int32) (e : zE) (Y : Nat → Option ai_C) (K : mK) (d : Nat) (P : zK) (l0 k : Nat) (lo : ai_L) (h : ai_H) (r : zR Nat) : Prop := ∀ v s', r = some (v, s') → ∃ h', qg L xs d qm_140 k lo [] h (qout 0 v, h') ∧ mxpost e Y K P l0 v s' h'
/-- the loop's rows with a call of goOn, its answer 9 -/
theorem x_go {base r by' : Nat} (hc : mcs e Y K W s h) {o : ai_O} {r' : Nat} (g : qe L xs (d + 8) 160 [.ref 14, .int (nI base), .int (nI by')] h (.inl (some (.int (nI r'))), h')) (hg : qg L xs (d + 8) qm_140 10 [some (.ref 14), some (.int (nI base)), some (.int 1), some (.int (nI r')), some (.int (nI by')), x5] [] h' o) : qg L xs (d + 8) qm_140 134 [some (.ref 14), some (.int (nI base)), some (.int 1), some (.int (nI r)), some (.int (nI by')), x5] [.int (nI by'), .int (nI base), .ref 14] h o := by
  obtain ⟨fs, hob⟩ := mcs_rcv hc
  refine qg_call (v := some (.int (nI r'))) (h' := h') (as := [.ref 14, .int (nI base), .int (nI by')]) rfl rfl rfl rfl rfl rfl rfl (ai_rcv1 rfl rfl hob) (g) ?_
  show qg L xs _ qm_140 135 [some (.ref 14), some (.int (nI base)), some (.int 1), some (.int (nI r)), some (.int (nI by')), x5] [.int (nI r')] h' _
  refine qg_pls (n := 2) (k' := 10) (lo' := [some (.ref 14), some (.int (nI base)), some (.int 1), some (.int (nI r')), some (.int (nI by')), x5]) (S' := []) (h' := h') rfl ?_
  exact hg
theorem x_goT {base r by' : Nat} (hc : mcs e Y K W s h) (g : qe L xs (d + 8) 160 [.ref 14, .int (nI base), .int (nI by')] h (.inr "java/lang/IllegalArgumentException", h')) : qg L xs (d + 8) qm_140 134 [some (.ref 14), some (.int (nI base)), some (.int 1), some (.int (nI r)), some (.int (nI by')), x5] [.int (nI by'), .int (nI base), .ref 14] h (.inr "java/lang/IllegalArgumentException", h') := by
  obtain ⟨fs, hob⟩ := mcs_rcv hc
  exact qg_callT rfl rfl rfl rfl rfl rfl rfl (ai_rcv1 rfl rfl hob) rfl (g)
/-- a sum, behind an operand -/
theorem x_sum (ht : mtk e Y) (hod : mop L xs e Y K (d + 8) 144 pr) {l0 c0 : Nat} {R : zK} (hl : mle K P l0) (hR : ∀ q R', R = q :: R' → q.2 ≤ 4 ∨ q.2 = 9) {G : Nat → zS → zR Nat} (tail : ∀ ma s h r x5, mxp e Y K (R ++ P) s h c0 ma → mso l0 c0 R → znk e s.1 ≤ 4 → 4 < r → r ≤ 9 → xsm L xs e Y K (d + 11) P l0 26 [some (.ref 14), some (.int (nI P.length)), some (.int 1), some (.int (nI r)), some (.int (nI (znk e s.1))), x5] h (G ma s)) : ∀ (n : Nat) (s0 : zS) (p : zK) (st ma : Nat) (s : zS) (h : ai_H) (x4 x5 : Option Value), mxp e Y K (p ++ R ++ P) s h st ma → mso l0 st (p ++ R) → (∀ q ∈ p, 5 ≤ q.2 ∧ q.2 ≤ 8) → zbot p st = c0 → xsm L xs e Y K (d + 11) P l0 10 [some (.ref 14), some (.int (nI P.length)), some (.int 1), some (.int (nI 9)), x4, x5] h (zbd (zaft e 88 8 zfamS pr n s0 p st ma s) G) := by
  intro n
  induction n using Nat.strongRecOn with
  | _ n ih =>
  intro s0 p st ma s h x4 x5 hx hm hq hb v s' hz
  have hrf := znk_f ht s.1
  have hro := znk_of ht s.1
  by_cases hf : zfamS (zmk e s.1) = true
  · have h5 : 5 ≤ zmk e s.1 := of_decide_eq_true hf
    have hrk := hrf.1 h5
    obtain ⟨p', st', ma', s5, z1, a1, w5, hz⟩ := zaft_yes ht hf rfl (by omega) hrk hz
    obtain ⟨h1, p1, st1, ma1, r1, i1, i2, i3, i4, i5, i6, i7, i8, i9⟩ := m_stoC (L := L) (xs := xs) (d := d + 7) (r := 9) (R := R) ht hl (by omega) (by omega) (fun q R' e1 => by have := hR q R' e1; omega) hx hm (fun q hq1 => by have := hq q hq1; omega) z1
    have i1 := Option.some.inj i1
    obtain ⟨rfl, e2⟩ := Prod.mk.inj i1
    obtain ⟨rfl, rfl⟩ := Prod.mk.inj e2
    have hr1 : zmk e s.1 ≤ r1 ∧ r1 ≤ 9 := by omega
    -- the second settleTo settles nothing
    obtain ⟨h2, p2, st2, ma2, r2, j1, j2, j3, j4, j5, j6, j7, j8, j9⟩ := m_stoC (L := L) (xs := xs) (d := d + 7) (r := r1) (R := R) ht hl (nx := zmk e s.1) (by omega) (by omega) (fun q R' e1 => by have := hR q R' e1; omega) i3 i4 (fun q hq1 => by have := hq q (i5 q hq1); omega) (zcb_stop i6)
    have j1 := Option.some.inj j1
    obtain ⟨rfl, e2⟩ := Prod.mk.inj j1
    obtain ⟨rfl, rfl⟩ := Prod.mk.inj e2
    have hr2 : zmk e s.1 ≤ r2 ∧ r2 ≤ 9 := by omega
    have hb3 := mcs_bd (mxp_mcs j3)
    have hl3 : mle K (p' ++ R ++ P) st' := mle_of i4 hl
    obtain ⟨k1, k2, k3, k4, k5⟩ := hro.2.2.2.1 (by omega)
    have hroad : ∀ o, qg L xs (d + 11) qm_140 134 [some (.ref 14), some (.int (nI P.length)), some (.int 1), some (.int (nI r2)), some (.int (nI (znk e s.1))), some (.int 0)] [.int (nI (znk e s.1)), .int (nI P.length), .ref 14] h2 o → qg L xs (d + 11) qm_140 10 [some (.ref 14), some (.int (nI P.length)), some (.int 1), some (.int (nI 9)), x4, x5] [] h o := by
      intro o hg
      refine x_10 (d := d + 3) ht (mxp_mcs hx) (r := 9) (r' := r1) (h' := h1) (by rw [if_pos (by omega), hrk]; exact qe_up (by omega) i2) o ?_
      refine x_26 (d := d + 3) (Q := p' ++ R) (mxp_mcs i3) (by omega) (Or.inl (by omega)) o ?_
      refine x_58 (d := d + 3) (mxp_mcs i3) (by omega) (by omega) (r' := r2) (h' := h2) (by rw [if_neg (by omega), hrk]; exact qe_up (by omega) j2) o ?_
      refine x_73 (d := d + 3) (Q := p' ++ R) (mxp_mcs j3) (by omega) (Or.inl (by omega)) o ?_
      exact x_100y (d := d + 3) (Q := p' ++ R) (mxp_mcs j3) (by omega) (by omega) (by omega) (Or.inr ⟨by omega, by omega⟩) o hg
    cases n with
    | zero => cases hz
    | succ m =>
      rw [zops_succ, zbd_zbd] at hz
      simp only [zbd_zbd] at hz
      have hgo := m_goOn (L := L) (xs := xs) (d := d) (base := P.length) (W := p' ++ R ++ P) (by' := zmk e s.1) (good := fun h2 => ∃ p6 st6 ma6 s6, mxp e Y K (p6 ++ R ++ P) s6 h2 st6 ma6 ∧ mso l0 st6 (p6 ++ R) ∧ (∀ q ∈ p6, q ∈ (st', zmk e s.1) :: p' ∨ q.2 = 8) ∧ zbot p6 st6 = zbot p' st' ∧ zbd (zaft e 88 8 zfamS pr m (s5.1 + 1, s5.2.1, s5.2.2.1, s5.2.2.2.1 + 1, (if ma' = zmk e s.1 then s5.2.2.2.2.take (s5.2.2.2.2.length - 2) else s5.2.2.2.2.take st' ++ [40, 32] ++ s5.2.2.2.2.drop st') ++ zit e s5.1 ++ [32]) p6 st6 ma6 s6) G = some (v, s')) (bad := fun h2 => v = none ∧ mbad e Y K s' h2) ht j3 hl3 (by rw [a1]; omega) (by omega) (by omega) (by omega) (by omega) (fun h1 hc1 => by
        have hm1 : mso l0 ((if ma' = zmk e s.1 then s5.2.2.2.2.take (s5.2.2.2.2.length - 2) else s5.2.2.2.2.take st' ++ [40, 32] ++ s5.2.2.2.2.drop st') ++ zit e s5.1 ++ [32]).length ((st', zmk e s.1) :: p' ++ R) := by
          refine ⟨?_, i4⟩
          have := (mcs0_lt hc1.choose_spec.choose_spec.choose_spec.choose_spec).1.1 (st', zmk e s.1) (List.mem_cons_self ..)
          exact this
        rcases m_prS (F := fun p st ma s4 => zbd (zaft e 88 8 zfamS pr m (s5.1 + 1, s5.2.1, s5.2.2.1, s5.2.2.2.1 + 1, (if ma' = zmk e s.1 then s5.2.2.2.2.take (s5.2.2.2.2.length - 2) else s5.2.2.2.2.take st' ++ [40, 32] ++ s5.2.2.2.2.drop st') ++ zit e s5.1 ++ [32]) p st ma s4) G) (p := (st', zmk e s.1) :: p') (R := R) ht hod hc1 hm1 (Or.inr ⟨_, _, rfl, by show 3 < zmk e s.1; omega⟩) hz with ⟨h2, g1, g2⟩ | ⟨h2, p6, st6, ma6, s6, g1, g2, g3, g4, g5, g6⟩
        · exact ⟨h2, Or.inr ⟨g1, g2⟩⟩
        · exact ⟨h2, Or.inl ⟨g1, p6, st6, ma6, s6, g2, g3, g4, g5, g6⟩⟩)
      obtain ⟨h6, ⟨g1, p6, st6, ma6, s6, g2, g3, g4, g5, g6⟩ | ⟨g1, rfl, g2⟩⟩ := hgo
      · obtain ⟨h7, y1, y2⟩ := ih m (by omega) _ p6 st6 ma6 s6 h6 (some (.int (nI (znk e s.1)))) (some (.int 0)) g2 g3 (fun q hq1 => by
          rcases g4 q hq1 with z | z
          · rcases List.mem_cons.mp z with rfl | z
            · exact ⟨h5, by show zmk e s.1 ≤ 8; omega⟩
            · exact hq q (i5 q z)
          · omega) (by rw [g5, i7]; exact hb) v s' g6
        rw [← hrk] at g1
        exact ⟨h7, hroad _ (x_go (d := d + 3) (mxp_mcs j3) (qe_up (by omega) g1) y1), y2⟩
      · rw [← hrk] at g1
        exact ⟨h6, hroad _ (x_goT (d := d + 3) (mxp_mcs j3) (qe_up (by omega) g1)), g2⟩
  · have h5 : zmk e s.1 < 5 := by
      rcases Nat.lt_or_ge (zmk e s.1) 5 with z | z
      · exact z
      · exact absurd (decide_eq_true z) hf
    have hrk := hrf.2.1 h5
    obtain ⟨p', st', ma', s5, z1, a1, hz⟩ := zaft_no hf hz
    rw [zcb_lo (nx := 5) p st ma s (fun q hq1 => (hq q hq1).1)] at z1
    obtain ⟨h1, p1, st1, ma1, r1, i1, i2, i3, i4, i5, i6, i7, i8, i9⟩ := m_stoC (L := L) (xs := xs) (d := d + 7) (r := 9) (R := R) ht hl (by decide) (by decide) (fun q R' e1 => by have := hR q R' e1; omega) hx hm (fun q hq1 => by have := hq q hq1; omega) z1
    have i1 := Option.some.inj i1
    obtain ⟨rfl, e2⟩ := Prod.mk.inj i1
    obtain ⟨rfl, rfl⟩ := Prod.mk.inj e2
    have hp : p' = [] := by
      cases p' with
      | nil => rfl
      | cons q p'' =>
        have a := i6 q p'' rfl
        have b := (hq q (i5 q (List.mem_cons_self ..))).1
        omega
    subst hp
    have e1 : st' = c0 := i7.trans hb
    subst e1
    obtain ⟨h7, y1, y2⟩ := tail ma' s5 h1 r1 x5 i3 i4 (by rw [a1]; exact hrk) (by omega) (by omega) v s' hz
    rw [a1] at y1
    exact ⟨h7, x_10 (d := d + 3) ht (mxp_mcs hx) (r := 9) (r' := r1) (h' := h1) (by rw [if_neg (by omega)]; exact qe_up (by omega) i2) _ y1, y2⟩
end MXS
