/-! THE MODEL: TESTS WHOSE BRACKET IS TO COME; PREFIXES. (Printed by wip/whole/pp.py from wip/whole/src.) -/
section MPF
variable {L : Nat} {xs : Nat → Int32} {d : Nat} {h h' : ai_H} {e : zE} {Y : Nat → Option ai_C} {K : mK} {W P : zK} {s s' : zS} {J : List zJ} {bg en md : Value}
/-- K with a bracket more that is to come, before the k-th item at the place st -/
abbrev mgh (K : mK) (st k : Nat) : mK := (K.1, K.2.1, st :: K.2.2.1, K.2.2.2.1, K.2.2.2.2.1, (st, k) :: K.2.2.2.2.2)
/-- the bracket of a test, behind the test's first token -/
theorem m_ghost {k : Nat} (hc : mcs0 e Y (K.1 + 1, K.2) W s h J bg en md) (hk : k < J.length) (hl : mle K W (jo J k)) (hlast : ∀ a, J[J.length - 1]? = some a → a.2.2.2 = 0) (hkl : k < J.length - 1) (hU : K.2.2.1.length + 1 ≤ 95) : mcs0 e Y (mgh K (jo J k) k) W (s.1, s.2.1, s.2.2.1, s.2.2.2.1, s.2.2.2.2.take (jo J k) ++ [40, 32] ++ s.2.2.2.2.drop (jo J k)) h (jopen J k) bg en md := by
  obtain ⟨rf, bf, wr, wf, h5, c6, c7, c8, ⟨⟨cu, cv⟩, c9, c10, c11⟩, c14⟩ := mcs0_5 hc
  have v1 := mjv_open (k0 := k) c7 hk (fun x hx => by
    rcases List.mem_append.mp hx with q | q
    · obtain ⟨p, hp, rfl⟩ := List.mem_map.mp q
      exact hl.1 p hp
    · exact hl.2.1 x q)
  obtain ⟨r1, r2⟩ := jr_open hk
  have hold : ∀ i, i < J.length → jo J i ≤ jo J k → i < (jopen J k).length ∧ jo (jopen J k) i = jo J i := by
    intro i hi hle
    have hkk : i ≤ k := by
      rcases Nat.lt_or_ge k i with q | q
      · have := jo_lt (J := J) q (by omega); omega
      · exact q
    exact ⟨by rw [jopen_length]; exact hi, r2 i hkk⟩
  have hv : mjv e (W.map Prod.fst ++ (mgh K (jo J k) k).2.2.1) (jopen J k) rf bf := by
    intro i a ha
    have hcnt : ∀ x, (W.map Prod.fst ++ jo J k :: K.2.2.1).count x = (jo J k :: (W.map Prod.fst ++ K.2.2.1)).count x := by
      intro x
      simp only [List.count_append, List.count_cons]
      omega
    have := v1 i a ha
    rw [← hcnt] at this
    exact this
  refine mcs0_of (rf := rf) (bf := bf) (wr := wr) (wf := wf) ?_ ?_ hv (mww_same c8 (fun i hi hq => ?_)) ⟨⟨fun u hu => ?_, fun m hm => ?_⟩, c9, ⟨?_, ?_, hU⟩, fun a ha => ?_⟩ c14
  · rw [jopen_length]; exact h5
  · rw [r1, ← c6]
  · obtain ⟨q, hq1, hq2⟩ := hq
    exact hold i hi (by rw [hq2]; exact hl.1 q hq1)
  · rcases List.mem_cons.mp hu with rfl | hu
    · exact ⟨k, by rw [jopen_length]; exact hk, r2 k (Nat.le_refl _)⟩
    · obtain ⟨i, i1, i2⟩ := cu u hu
      obtain ⟨y1, y2⟩ := hold i i1 (by rw [i2]; exact hl.2.1 u hu)
      exact ⟨i, y1, by rw [y2]; exact i2⟩
  · rcases List.mem_cons.mp hm with rfl | hm
    · exact ⟨by rw [jopen_length]; exact Nat.le_of_lt hk, r2 k (Nat.le_refl _)⟩
    · obtain ⟨i1, i2⟩ := cv m hm
      have i3 := jo_inv i1 hk (by rw [i2]; exact hl.2.2 m hm)
      obtain ⟨y1, y2⟩ := hold m.2 (by omega) (by rw [i2]; exact hl.2.2 m hm)
      exact ⟨Nat.le_of_lt y1, by rw [y2]; exact i2⟩
  · rw [jopen_length]; exact c10.1
  · rw [jsum_open hk]
    have : jsum J + (K.1 + 1) ≤ zfr e s.1 := c10.2.1
    show jsum J + 1 + K.1 ≤ zfr e s.1
    omega
  · rw [jopen_length] at ha
    obtain ⟨b, hb, rfl⟩ := jopen_get hk ha
    have := hlast b hb
    have hw : W.length ≤ 300 := c9.2.2.2.2
    show b.2.2.2 + W.length + (K.2.2.1.length + 1) ≤ 400
    omega
/-- the bracket to come waits now -/
theorem m_tpark {st k r : Nat} (hc : mcs0 e Y (mgh K st k) W s h J bg en md) (hw : W.length < 300) (hr : r ≤ 9) : ∃ h', qe L xs (d + 1) 143 [.ref 14, .int (nI r), .int (nI k)] h (.inl none, h') ∧ mcs e Y K ((st, r) :: W) (s.1, s.2.1, s.2.2.1, s.2.2.2.1 + 1, s.2.2.2.2) h' := by
  obtain ⟨rf, bf, wr, wf, h5, c6, c7, c8, ⟨⟨cu, cv⟩, c9, c10, c11⟩, c14⟩ := mcs0_5 hc
  obtain ⟨h2, g2, b5, e2⟩ := m_parkR (L := L) (xs := xs) (d := d) (K := mgh K st k) (s := s) (r := r) (k := k) h5 (by omega)
  have hkJ : k < J.length ∧ jo J k = st := by
    obtain ⟨i, i1, i2⟩ := cu st (List.mem_cons_self ..)
    obtain ⟨k1, k2⟩ := cv (st, k) (List.mem_cons_self ..)
    have k2 : jo J k = st := k2
    have : k = i := jo_inj k1 (by omega) (by rw [k2, i2])
    exact ⟨by omega, k2⟩
  have hv : mjv e (((st, r) :: W).map Prod.fst ++ K.2.2.1) J rf bf := by
    intro i a ha
    have hcnt : ∀ x, (((st, r) :: W).map Prod.fst ++ K.2.2.1).count x = (W.map Prod.fst ++ (mgh K st k).2.2.1).count x := by
      intro x
      simp only [List.map_cons, List.cons_append, List.count_append, List.count_cons]
      omega
    have := c7 i a ha
    rw [← hcnt] at this
    exact this
  refine ⟨h2, g2, J, bg, en, md, mcs0_of (rf := rf) (bf := bf) (wr := upd wr W.length (nI r)) (wf := upd wf W.length (nI k)) b5 c6 hv (mww_push c8 (fun i hi _ => ⟨hi, rfl⟩) hkJ hr) ⟨⟨fun u hu => cu u (List.mem_cons_of_mem _ hu), fun m hm => cv m (List.mem_cons_of_mem _ hm)⟩, ⟨c9.1, c9.2.1, c9.2.2.1, ?_, ?_⟩, ⟨c10.1, c10.2.1, ?_⟩, fun a ha => ?_⟩ ?_⟩
  · show s.2.2.2.1 + 1 = W.length + 1
    have := c9.2.2.2.1
    omega
  · show W.length + 1 ≤ 300; omega
  · have : K.2.2.1.length + 1 ≤ 95 := c10.2.2
    omega
  · have : a.2.2.2 + W.length + (K.2.2.1.length + 1) ≤ 400 := c11 a ha
    show a.2.2.2 + (W.length + 1) + K.2.2.1.length ≤ 400
    omega
  · rw [e2]; exact c14
/-- the bracket to come is there, and closed -/
theorem m_gwrap (ht : mtk e Y) {st k : Nat} (hl : mle K W st) (hc : mcs0 e Y (mgh K st k) W s h J bg en md) : ∃ h', qe L xs (d + 1) 159 [.ref 14, .int (nI k), .int 4] h (.inl none, h') ∧ mxp e Y K W (s.1, s.2.1, s.2.2.1, s.2.2.2.1, s.2.2.2.2 ++ [41, 32]) h' st 4 := by
  have hfr := mtk_fr ht s.1
  obtain ⟨rf, bf, wr, wf, h5, c6, c7, c8, ⟨⟨cu, cv⟩, c9, c10, c11⟩, c14⟩ := mcs0_5 hc
  obtain ⟨k1, k3⟩ : k < J.length ∧ jo J k = st := by
    obtain ⟨i, i1, i2⟩ := cu st (List.mem_cons_self ..)
    obtain ⟨k1, k2⟩ := cv (st, k) (List.mem_cons_self ..)
    have k2 : jo J k = st := k2
    have : k = i := jo_inj k1 (by omega) (by rw [k2, i2])
    exact ⟨by omega, k2⟩
  have hJ : J.length ≤ 131072 := by
    have : J.length + K.2.1 ≤ 2 * zfr e s.1 := c10.1
    omega
  obtain ⟨h3, g3, d5, e3⟩ := m_wrapR (L := L) (xs := xs) (d := d) (K := mgh K st k) (s := s) (r := 4) (k := k) h5 (by omega) (by omega) hJ
  have lastg : ∀ a, J[J.length - 1]? = some a → a.2.2.2 + W.length + (K.2.2.1.length + 1) ≤ 400 := c11
  have hcnt : ∀ x, (W.map Prod.fst ++ (mgh K st k).2.2.1).count x = (W.map Prod.fst ++ K.2.2.1).count x + if x = jo J k then 1 else 0 := by
    intro x
    rw [k3]
    show (W.map Prod.fst ++ st :: K.2.2.1).count x = _
    rw [List.count_append, List.count_append]
    by_cases hx : x = st
    · rw [if_pos hx, hx, List.count_cons_self]
      omega
    · rw [if_neg hx, List.count_cons_of_ne (fun z => hx z.symm), Nat.add_zero]
  have v1 := mjv_close (k0 := k) c7 k1 hcnt (fun a ha => by have := lastg a ha; omega)
  obtain ⟨r1, r2⟩ := jr_close (J := J) (by omega)
  refine ⟨h3, g3, jclose J (J.length - 1), k, ?_, by rw [jclose_length]; exact k1, by rw [r2 k k1]; exact k3, by decide, fun _ => ⟨fun a ha => ?_, fun b hb => ?_⟩⟩
  · refine mcs0_of (rf := rf) (bf := upd (upd bf k (bf k + 1)) (J.length - 1) (upd bf k (bf k + 1) (J.length - 1) + 65536)) (wr := wr) (wf := wf) ?_ ?_ v1 (mww_same c8 (fun i hi _ => ⟨by rw [jclose_length]; exact hi, r2 i hi⟩)) ⟨⟨fun u hu => ?_, fun m hm => ?_⟩, c9, ⟨?_, ?_, ?_⟩, fun a ha => ?_⟩ ?_
    · rw [jclose_length]; exact d5
    · rw [r1, ← c6]
    · obtain ⟨i, i1, i2⟩ := cu u (List.mem_cons_of_mem _ hu)
      exact ⟨i, by rw [jclose_length]; exact i1, by rw [r2 i i1]; exact i2⟩
    · obtain ⟨i1, i2⟩ := cv m (List.mem_cons_of_mem _ hm)
      have i3 := jo_inv i1 k1 (by rw [i2, k3]; exact hl.2.2 m hm)
      exact ⟨by rw [jclose_length]; exact i1, by rw [r2 _ (by omega)]; exact i2⟩
    · rw [jclose_length]; exact c10.1
    · rw [jsum_close (by omega)]; exact c10.2.1
    · have : K.2.2.1.length + 1 ≤ 95 := c10.2.2
      omega
    · rw [jclose_length] at ha
      obtain ⟨b, hb, rfl⟩ := jclose_get (by omega) ha
      have := lastg b hb
      dsimp only
      rw [if_pos rfl]
      omega
    · rw [e3]; exact c14
  · obtain ⟨b, hb, rfl⟩ := jclose_get (by omega) ha
    obtain ⟨x1, x2, x3, x4, x5⟩ := c7 k b hb
    have := hcnt (jo J k)
    rw [if_pos rfl, k3] at this
    rw [k3] at x4
    dsimp only
    omega
  · rw [jclose_length] at hb
    obtain ⟨b0, hb0, rfl⟩ := jclose_get (by omega) hb
    dsimp only
    rw [if_pos rfl]
    omega
/-- after an operand or an expression -/
def mxpost (e : zE) (Y : Nat → Option ai_C) (K : mK) (W : zK) (st : Nat) (v : Option Nat) (s' : zS) (h' : ai_H) : Prop := match v with
  | some ma => mxp e Y K W s' h' st ma
  | none => mbad e Y K s' h'
/-- the call reads an operand or an expression as the piece f does -/
def mop (L : Nat) (xs : Nat → Int32) (e : zE) (Y : Nat → Option ai_C) (K : mK) (d mi : Nat) (f : zP) : Prop := ∀ P s h v s', mcs e Y K P s h → f s = some (v, s') → ∃ h', qe L xs d mi [.ref 14] h (qout 0 v, h') ∧ mxpost e Y K P s.2.2.2.2.length v s' h'
theorem mop_mim {mi : Nat} {f : zP} (hf : mop L xs e Y K d mi f) : mim L xs e Y K d mi [.ref 14] 0 f := by
  intro P s h v s' hc hz
  obtain ⟨h', g1, g2⟩ := hf P s h v s' hc hz
  refine ⟨h', g1, ?_⟩
  cases v with
  | none => exact g2
  | some ma => exact mxp_mcs g2
theorem mop_up {d' mi : Nat} {f : zP} (hf : mop L xs e Y K d mi f) (hd : d ≤ d') : mop L xs e Y K d' mi f := by
  intro P s h v s' hc hz
  obtain ⟨h', g1, g2⟩ := hf P s h v s' hc hz
  exact ⟨h', qe_up hd g1, g2⟩
/-- what one prefix does -/
theorem zpre_inv {k ma n : Nat} {p : zK} {v : Option zK} (hk : k = 49 ∨ k = 88) (hz : zpre e k ma (n + 1) p s = some (v, s')) : (¬ ztk e s.1 = k ∧ v = some p ∧ s' = s) ∨ (ztk e s.1 = k ∧ 40 ≤ s.2.1 ∧ v = none ∧ s' = s) ∨ (ztk e s.1 = k ∧ s.2.1 < 40 ∧ s.2.2.2.1 < 300 ∧ zpre e k ma n ((s.2.2.2.2.length, ma) :: p) (s.1 + 1, s.2.1 + 1, max s.2.2.1 (s.2.1 + 1), s.2.2.2.1 + 1, s.2.2.2.2 ++ [40, 32] ++ zw k ++ [32]) = some (v, s')) := by
  unfold zpre at hz
  by_cases t : ztk e s.1 = k
  · rw [if_pos t] at hz
    right
    rcases zbd_inv hz with ⟨z1, rfl⟩ | ⟨a1, s1, z1, hz⟩
    · rcases zrise_inv z1 with ⟨-, e1, h40⟩ | ⟨-, x, -⟩
      · exact Or.inl ⟨t, h40, rfl, e1⟩
      · cases x
    rcases zrise_inv z1 with ⟨x, -, -⟩ | ⟨h40, -, e1⟩
    · cases x
    right
    rcases zbd_inv hz with ⟨z2, -⟩ | ⟨a2, s2, z2, hz⟩
    · obtain ⟨-, x, -⟩ := zpush_inv z2; cases x
    obtain ⟨hw, x2, e2⟩ := zpush_inv z2
    rcases zbd_inv hz with ⟨z3, -⟩ | ⟨a3, s3, z3, hz⟩
    · obtain ⟨-, x, -⟩ := zput_inv z3; cases x
    obtain ⟨-, -, e3⟩ := zput_inv z3
    rcases zbd_inv hz with ⟨z4, -⟩ | ⟨a4, s4, z4, hz⟩
    · obtain ⟨-, x, -⟩ := zput_inv z4; cases x
    obtain ⟨-, -, e4⟩ := zput_inv z4
    have t4 : ztk e s4.1 = k := by rw [e4, e3, e2, e1]; exact t
    have hst : zstep e s4 = znext s4 := by
      unfold zstep
      rw [t4, if_neg (by omega), if_neg (by omega)]
    rw [hst] at hz
    rcases zbd_inv hz with ⟨z5, -⟩ | ⟨a5, s5, z5, hz⟩
    · obtain ⟨-, x, -⟩ := znext_inv z5; cases x
    obtain ⟨-, -, e5⟩ := znext_inv z5
    have x2' := Option.some.inj x2
    refine ⟨t, h40, by rw [e1] at hw; exact hw, ?_⟩
    rw [e5, e4, e3, e2, e1, zt_op, x2', e1] at hz
    simp only [List.append_assoc, List.cons_append, List.nil_append] at hz ⊢
    exact hz
  · rw [if_neg t] at hz
    cases hz
    exact Or.inl ⟨t, rfl, rfl⟩
/-- one turn of prefixes that takes a prefix -/
theorem m_turnN {base : Nat} {x3 : Option Value} (ht : mtk e Y) (hc : mcs e Y K W s h) (t : ztk e s.1 = 49) (ho : s.2.1 < 40) (hw : s.2.2.2.1 < 300) : ∃ h', (∀ o, qg L xs (d + 8) qm_141 2 [some (.ref 14), some (.int (nI base)), some (.int 1), x3] [] h' o → qg L xs (d + 8) qm_141 27 [some (.ref 14), some (.int (nI base)), some (.int 1), x3] [] h o) ∧ mcs e Y K ((s.2.2.2.2.length, 3) :: W) (s.1 + 1, s.2.1 + 1, max s.2.2.1 (s.2.1 + 1), s.2.2.2.1 + 1, s.2.2.2.2 ++ [40, 32] ++ zw 49 ++ [32]) h' := by
  have hb := mcs_bd hc
  obtain ⟨J, bg, en, md, hc0⟩ := hc
  obtain ⟨h1, h2, h3, g1, o1, g2, ⟨o2, o2'⟩, g3, hc3⟩ := m_pre1 (L := L) (xs := xs) (d := d + 6) ht hc0 (by omega) (by omega) ho (r := 3) (by decide)
  rw [zit_w t (by decide)] at hc3
  refine ⟨h3, ?_, _, _, _, _, hc3⟩
  intro o hg
  refine qg_pls (n := 1) (k' := 28) (lo' := [some (.ref 14), some (.int (nI base)), some (.int 1), x3]) (S' := [.ref 14]) (h' := h) rfl ?_
  refine qg_call (v := none) (h' := h1) (as := [.ref 14]) rfl rfl rfl rfl rfl rfl rfl (ai_rcv1 rfl rfl (mcs0_ob hc0)) (g1) ?_
  show qg L xs _ qm_141 29 [some (.ref 14), some (.int (nI base)), some (.int 1), x3] [] h1 _
  refine qg_pls (n := 3) (k' := 32) (lo' := [some (.ref 14), some (.int (nI base)), some (.int 1), x3]) (S' := [.ref 14, .int 3, .ref 14]) (h' := h1) rfl ?_
  refine qg_getf (v := .int (nI J.length)) rfl o1 rfl rfl rfl ?_
  refine qg_call (v := none) (h' := h2) (as := [.ref 14, .int 3, .int (nI J.length)]) rfl rfl rfl rfl rfl rfl rfl (ai_rcv1 rfl rfl o1) ((qe_up (by omega) g2)) ?_
  show qg L xs _ qm_141 34 [some (.ref 14), some (.int (nI base)), some (.int 1), x3] [] h2 _
  refine qg_pls (n := 1) (k' := 35) (lo' := [some (.ref 14), some (.int (nI base)), some (.int 1), x3]) (S' := [.ref 14]) (h' := h2) rfl ?_
  refine qg_call (v := none) (h' := h3) (as := [.ref 14]) rfl rfl rfl rfl rfl rfl rfl (ai_rcv1 rfl rfl o2') ((qe_up (by omega) g3)) ?_
  show qg L xs _ qm_141 36 [some (.ref 14), some (.int (nI base)), some (.int 1), x3] [] h3 _
  refine qg_pls (n := 2) (k' := 2) (lo' := [some (.ref 14), some (.int (nI base)), some (.int 1), x3]) (S' := []) (h' := h3) rfl ?_
  exact hg
/-- one that finds none to take, or cannot -/
theorem m_turnN0 {base : Nat} {x3 : Option Value} (hc : mcs e Y K W s h) (ho : 40 ≤ s.2.1) : qg L xs (d + 8) qm_141 27 [some (.ref 14), some (.int (nI base)), some (.int 1), x3] [] h (.inr "java/lang/IllegalArgumentException", (h.1, h.2.1 + 1, h.2.2 + 6)) := by
  obtain ⟨J, bg, en, md, hc0⟩ := hc
  refine qg_pls (n := 1) (k' := 28) (lo' := [some (.ref 14), some (.int (nI base)), some (.int 1), x3]) (S' := [.ref 14]) (h' := h) rfl ?_
  exact qg_callT rfl rfl rfl rfl rfl rfl rfl (ai_rcv1 rfl rfl (mcs0_ob hc0)) rfl (m_opens0 (d := d + 6) hc0 ho)
/-- one turn of prefixes that takes a prefix -/
theorem m_turnM {base : Nat} {x3 : Option Value} (ht : mtk e Y) (hc : mcs e Y K W s h) (t : ztk e s.1 = 88) (ho : s.2.1 < 40) (hw : s.2.2.2.1 < 300) : ∃ h', (∀ o, qg L xs (d + 8) qm_141 2 [some (.ref 14), some (.int (nI base)), some (.int 1), x3] [] h' o → qg L xs (d + 8) qm_141 41 [some (.ref 14), some (.int (nI base)), some (.int 1), x3] [] h o) ∧ mcs e Y K ((s.2.2.2.2.length, 8) :: W) (s.1 + 1, s.2.1 + 1, max s.2.2.1 (s.2.1 + 1), s.2.2.2.1 + 1, s.2.2.2.2 ++ [40, 32] ++ zw 88 ++ [32]) h' := by
  have hb := mcs_bd hc
  obtain ⟨J, bg, en, md, hc0⟩ := hc
  obtain ⟨h1, h2, h3, g1, o1, g2, ⟨o2, o2'⟩, g3, hc3⟩ := m_pre1 (L := L) (xs := xs) (d := d + 6) ht hc0 (by omega) (by omega) ho (r := 8) (by decide)
  rw [zit_w t (by decide)] at hc3
  refine ⟨h3, ?_, _, _, _, _, hc3⟩
  intro o hg
  refine qg_pls (n := 1) (k' := 42) (lo' := [some (.ref 14), some (.int (nI base)), some (.int 1), x3]) (S' := [.ref 14]) (h' := h) rfl ?_
  refine qg_call (v := none) (h' := h1) (as := [.ref 14]) rfl rfl rfl rfl rfl rfl rfl (ai_rcv1 rfl rfl (mcs0_ob hc0)) (g1) ?_
  show qg L xs _ qm_141 43 [some (.ref 14), some (.int (nI base)), some (.int 1), x3] [] h1 _
  refine qg_pls (n := 3) (k' := 46) (lo' := [some (.ref 14), some (.int (nI base)), some (.int 1), x3]) (S' := [.ref 14, .int 8, .ref 14]) (h' := h1) rfl ?_
  refine qg_getf (v := .int (nI J.length)) rfl o1 rfl rfl rfl ?_
  refine qg_call (v := none) (h' := h2) (as := [.ref 14, .int 8, .int (nI J.length)]) rfl rfl rfl rfl rfl rfl rfl (ai_rcv1 rfl rfl o1) ((qe_up (by omega) g2)) ?_
  show qg L xs _ qm_141 48 [some (.ref 14), some (.int (nI base)), some (.int 1), x3] [] h2 _
  refine qg_pls (n := 1) (k' := 49) (lo' := [some (.ref 14), some (.int (nI base)), some (.int 1), x3]) (S' := [.ref 14]) (h' := h2) rfl ?_
  refine qg_call (v := none) (h' := h3) (as := [.ref 14]) rfl rfl rfl rfl rfl rfl rfl (ai_rcv1 rfl rfl o2') ((qe_up (by omega) g3)) ?_
  show qg L xs _ qm_141 50 [some (.ref 14), some (.int (nI base)), some (.int 1), x3] [] h3 _
  refine qg_pls (n := 2) (k' := 2) (lo' := [some (.ref 14), some (.int (nI base)), some (.int 1), x3]) (S' := []) (h' := h3) rfl ?_
  exact hg
/-- one that finds none to take, or cannot -/
theorem m_turnM0 {base : Nat} {x3 : Option Value} (hc : mcs e Y K W s h) (ho : 40 ≤ s.2.1) : qg L xs (d + 8) qm_141 41 [some (.ref 14), some (.int (nI base)), some (.int 1), x3] [] h (.inr "java/lang/IllegalArgumentException", (h.1, h.2.1 + 1, h.2.2 + 6)) := by
  obtain ⟨J, bg, en, md, hc0⟩ := hc
  refine qg_pls (n := 1) (k' := 42) (lo' := [some (.ref 14), some (.int (nI base)), some (.int 1), x3]) (S' := [.ref 14]) (h' := h) rfl ?_
  exact qg_callT rfl rfl rfl rfl rfl rfl rfl (ai_rcv1 rfl rfl (mcs0_ob hc0)) rfl (m_opens0 (d := d + 6) hc0 ho)
/-- may a NOT stand here? -/
theorem m_may {Q : zK} {x3 : Option Value} (hc : mcs e Y K (Q ++ P) s h) {b : Nat} (hb : (Q = [] ∧ b = 1) ∨ ∃ q Q', Q = q :: Q' ∧ (q.2 ≤ 3 ∧ b = 1 ∨ 3 < q.2 ∧ b = 0)) : ∀ o, qg L xs (d + 8) qm_141 21 [some (.ref 14), some (.int (nI P.length)), some (.int 1), some (.int (nI b))] [] h o → qg L xs (d + 8) qm_141 2 [some (.ref 14), some (.int (nI P.length)), some (.int 1), x3] [] h o := by
  intro o hg
  obtain ⟨J, bg, en, md, hc⟩ := hc
  obtain ⟨rf, bf, wr, wf, h5, c6, c7, c8, ⟨cu, c9, c10, c11⟩, c14⟩ := mcs0_5 hc
  have hl3 : (Q ++ P).length ≤ 300 := c9.2.2.2.2
  refine qg_pls (n := 1) (k' := 3) (lo' := [some (.ref 14), some (.int (nI P.length)), some (.int 1), x3]) (S' := [.int 1]) (h' := h) rfl ?_
  refine qg_if false rfl (rfl) rfl ?_
  refine qg_pls (n := 1) (k' := 5) (lo' := [some (.ref 14), some (.int (nI P.length)), some (.int 1), x3]) (S' := [.ref 14]) (h' := h) rfl ?_
  refine qg_getf (v := .int (nI ((Q ++ P).length))) rfl h5.1 rfl rfl rfl ?_
  refine qg_pls (n := 1) (k' := 7) (lo' := [some (.ref 14), some (.int (nI P.length)), some (.int 1), x3]) (S' := [.int (nI P.length), .int (nI ((Q ++ P).length))]) (h' := h) rfl ?_
  rcases hb with ⟨rfl, rfl⟩ | ⟨q, Q', rfl, hb⟩
  · skip
    refine qg_icmp true rfl (qc_eqT rfl) rfl ?_
    refine qg_pls (n := 3) (k' := 21) (lo' := [some (.ref 14), some (.int (nI P.length)), some (.int 1), some (.int 1)]) (S' := []) (h' := h) rfl ?_
    exact hg
  · have hl1 : (q :: Q' ++ P).length = (Q' ++ P).length + 1 := rfl
    have hl2 : P.length ≤ (Q' ++ P).length := by rw [List.length_append]; omega
    obtain ⟨-, w1, w2, -⟩ := mww_pop (W := Q' ++ P) c8
    refine qg_icmp false rfl (qc_eqF (by omega) (by omega) (by omega)) rfl ?_
    refine qg_pls (n := 1) (k' := 9) (lo' := [some (.ref 14), some (.int (nI P.length)), some (.int 1), x3]) (S' := [.ref 14]) (h' := h) rfl ?_
    refine qg_getf (v := .ref 23) rfl h5.1 rfl rfl rfl ?_
    refine qg_pls (n := 1) (k' := 11) (lo' := [some (.ref 14), some (.int (nI P.length)), some (.int 1), x3]) (S' := [.ref 14, .ref 23]) (h' := h) rfl ?_
    refine qg_getf (v := .int (nI ((q :: Q' ++ P).length))) rfl h5.1 rfl rfl rfl ?_
    refine qg_pls (n := 2) (k' := 14) (lo' := [some (.ref 14), some (.int (nI P.length)), some (.int 1), x3]) (S' := [.int ((nI ((q :: Q' ++ P).length)) - 1), .ref 23]) (h' := h) rfl ?_
    rw [show nI (q :: Q' ++ P).length - 1 = nI (Q' ++ P).length from nI_sub (b := 1) (by omega)]
    refine qg_ald rfl (fun _ _ _ => rfl) h5.2.2.2.1 (by omega) (by decide) ?_
    rw [w1]
    refine qg_pls (n := 1) (k' := 16) (lo' := [some (.ref 14), some (.int (nI P.length)), some (.int 1), x3]) (S' := [.int 3, .int (nI q.2)]) (h' := h) rfl ?_
    rcases hb with ⟨hq, rfl⟩ | ⟨hq, rfl⟩
    · skip
      refine qg_icmp false rfl (qc_gtF (b := 3) hq (by decide)) rfl ?_
      refine qg_pls (n := 3) (k' := 21) (lo' := [some (.ref 14), some (.int (nI P.length)), some (.int 1), some (.int 1)]) (S' := []) (h' := h) rfl ?_
      exact hg
    · skip
      refine qg_icmp true rfl (qc_gtT (b := 3) hq (by omega)) rfl ?_
      refine qg_pls (n := 2) (k' := 21) (lo' := [some (.ref 14), some (.int (nI P.length)), some (.int 1), some (.int 0)]) (S' := []) (h' := h) rfl ?_
      exact hg
/-- prefixes: -, and then an operand -/
theorem m_preM {l0 : Nat} {R : zK} (ht : mtk e Y) : ∀ (n : Nat) (p : zK) (s s' : zS) (h : ai_H) (v : Option zK) (x3 : Option Value), mcs e Y K (p ++ R ++ P) s h → mso l0 s.2.2.2.2.length (p ++ R) → (ztk e s.1 ≠ 49 ∨ ∃ q Q', p ++ R = q :: Q' ∧ 3 < q.2) → zpre e 88 8 n p s = some (v, s') → match v with
    | none => ∃ h', qg L xs (d + 8) qm_141 2 [some (.ref 14), some (.int (nI P.length)), some (.int 1), x3] [] h (.inr "java/lang/IllegalArgumentException", h') ∧ mbad e Y K s' h'
    | some p' => ∃ h' x3', (∀ o, qg L xs (d + 8) qm_141 54 [some (.ref 14), some (.int (nI P.length)), some (.int 0), x3'] [] h' o → qg L xs (d + 8) qm_141 2 [some (.ref 14), some (.int (nI P.length)), some (.int 1), x3] [] h o) ∧ mcs e Y K (p' ++ R ++ P) s' h' ∧ mso l0 s'.2.2.2.2.length (p' ++ R) ∧ (∀ q ∈ p', q ∈ p ∨ q.2 = 8) ∧ zbot p' s'.2.2.2.2.length = zbot p s.2.2.2.2.length := by
  intro n
  induction n with
  | zero => intro p s s' h v x3 hc hm hn hz; cases hz
  | succ n ih =>
    intro p s s' h v x3 hc hm hn hz
    have hb : ∃ b, ((p ++ R = [] ∧ b = 1) ∨ ∃ q Q', p ++ R = q :: Q' ∧ (q.2 ≤ 3 ∧ b = 1 ∨ 3 < q.2 ∧ b = 0)) := by
      cases hpr : p ++ R with
      | nil => exact ⟨1, Or.inl ⟨rfl, rfl⟩⟩
      | cons q Q' =>
        rcases Nat.lt_or_ge 3 q.2 with z | z
        · exact ⟨0, Or.inr ⟨q, Q', rfl, Or.inr ⟨z, rfl⟩⟩⟩
        · exact ⟨1, Or.inr ⟨q, Q', rfl, Or.inl ⟨z, rfl⟩⟩⟩
    obtain ⟨b, hb⟩ := hb
    have hmay := m_may (L := L) (xs := xs) (d := d) (x3 := x3) hc hb
    -- either may is no, or there is no NOT
    have r37 : ∀ o, qg L xs (d + 8) qm_141 37 [some (.ref 14), some (.int (nI P.length)), some (.int 1), some (.int (nI b))] [] h o → qg L xs (d + 8) qm_141 2 [some (.ref 14), some (.int (nI P.length)), some (.int 1), x3] [] h o := by
      intro o hg
      refine hmay o ?_
      refine qg_pls (n := 1) (k' := 22) (lo' := [some (.ref 14), some (.int (nI P.length)), some (.int 1), some (.int (nI b))]) (S' := [.int (nI b)]) (h' := h) rfl ?_
      by_cases hb0 : b = 0
      · subst hb0
        refine qg_if true rfl (rfl) rfl ?_
        exact hg
      · have hb1 : b = 1 := by
          rcases hb with ⟨-, z⟩ | ⟨q, Q', -, ⟨-, z⟩ | ⟨-, z⟩⟩ <;> omega
        have hnot : ¬ ztk e s.1 = 49 := by
          rcases hn with z | ⟨q, Q', z1, z2⟩
          · exact z
          · rcases hb with ⟨z3, -⟩ | ⟨q2, Q2, z3, ⟨z4, -⟩ | ⟨-, z5⟩⟩
            · rw [z3] at z1; cases z1
            · rw [z3] at z1; cases z1; omega
            · omega
        have his := m_isWord (L := L) (xs := xs) (d := d) ht hc (k := 49) (by decide)
        rw [if_neg hnot] at his
        refine qg_if false rfl ((by rw [hb1]; rfl)) rfl ?_
        refine qg_pls (n := 2) (k' := 25) (lo' := [some (.ref 14), some (.int (nI P.length)), some (.int 1), some (.int (nI b))]) (S' := [.retAddr 1064, .ref 14]) (h' := h) rfl ?_
        refine qg_call (v := some (.int 0)) (h' := h) (as := [.ref 14, .retAddr 1064]) rfl rfl rfl rfl rfl rfl rfl (ai_rcv1 rfl rfl ((mcs_rcv hc).choose_spec)) ((qe_up (by omega) his)) ?_
        show qg L xs _ qm_141 26 [some (.ref 14), some (.int (nI P.length)), some (.int 1), some (.int (nI b))] [.int 0] h _
        refine qg_if true rfl (rfl) rfl ?_
        exact hg
    have his := m_isMark (L := L) (xs := xs) (d := d) ht hc (k := 88) (by decide)
    rcases zpre_inv (Or.inr rfl) hz with ⟨t, rfl, rfl⟩ | ⟨t, ho, rfl, rfl⟩ | ⟨t, ho, hw, hz2⟩
    · rw [if_neg t] at his
      refine ⟨h, some (.int (nI b)), fun o hg => r37 o ?_, hc, hm, fun q hq => Or.inl hq, rfl⟩
      refine qg_pls (n := 2) (k' := 39) (lo' := [some (.ref 14), some (.int (nI P.length)), some (.int 1), some (.int (nI b))]) (S' := [.retAddr 1097, .ref 14]) (h' := h) rfl ?_
      refine qg_call (v := some (.int 0)) (h' := h) (as := [.ref 14, .retAddr 1097]) rfl rfl rfl rfl rfl rfl rfl (ai_rcv1 rfl rfl ((mcs_rcv hc).choose_spec)) ((qe_up (by omega) his)) ?_
      show qg L xs _ qm_141 40 [some (.ref 14), some (.int (nI P.length)), some (.int 1), some (.int (nI b))] [.int 0] h _
      refine qg_if true rfl (rfl) rfl ?_
      refine qg_pls (n := 4) (k' := 3) (lo' := [some (.ref 14), some (.int (nI P.length)), some (.int 0), some (.int (nI b))]) (S' := [.int 0]) (h' := h) rfl ?_
      refine qg_if true rfl (rfl) rfl ?_
      exact hg
    · rw [if_pos t] at his
      refine ⟨_, r37 _ ?_, mcs_bad hc⟩
      refine qg_pls (n := 2) (k' := 39) (lo' := [some (.ref 14), some (.int (nI P.length)), some (.int 1), some (.int (nI b))]) (S' := [.retAddr 1097, .ref 14]) (h' := h) rfl ?_
      refine qg_call (v := some (.int 1)) (h' := h) (as := [.ref 14, .retAddr 1097]) rfl rfl rfl rfl rfl rfl rfl (ai_rcv1 rfl rfl ((mcs_rcv hc).choose_spec)) ((qe_up (by omega) his)) ?_
      show qg L xs _ qm_141 40 [some (.ref 14), some (.int (nI P.length)), some (.int 1), some (.int (nI b))] [.int 1] h _
      refine qg_if false rfl (rfl) rfl ?_
      exact m_turnM0 hc ho
    · rw [if_pos t] at his
      obtain ⟨h1, g1, hc1⟩ := m_turnM (L := L) (xs := xs) (d := d) (base := P.length) (x3 := some (.int (nI b))) ht hc t ho hw
      have hm1 : mso l0 (s.2.2.2.2 ++ [40, 32] ++ zw 88 ++ [32]).length ((s.2.2.2.2.length, 8) :: p ++ R) := ⟨by simp only [List.length_append]; omega, hm⟩
      have := ih ((s.2.2.2.2.length, 8) :: p) _ s' h1 v (some (.int (nI b))) hc1 hm1 (Or.inr ⟨_, _, rfl, (by show 3 < 8; decide)⟩) hz2
      have r2 : ∀ o, qg L xs (d + 8) qm_141 2 [some (.ref 14), some (.int (nI P.length)), some (.int 1), some (.int (nI b))] [] h1 o → qg L xs (d + 8) qm_141 2 [some (.ref 14), some (.int (nI P.length)), some (.int 1), x3] [] h o := by
        intro o hg
        refine r37 o ?_
        refine qg_pls (n := 2) (k' := 39) (lo' := [some (.ref 14), some (.int (nI P.length)), some (.int 1), some (.int (nI b))]) (S' := [.retAddr 1097, .ref 14]) (h' := h) rfl ?_
        refine qg_call (v := some (.int 1)) (h' := h) (as := [.ref 14, .retAddr 1097]) rfl rfl rfl rfl rfl rfl rfl (ai_rcv1 rfl rfl ((mcs_rcv hc).choose_spec)) ((qe_up (by omega) his)) ?_
        show qg L xs _ qm_141 40 [some (.ref 14), some (.int (nI P.length)), some (.int 1), some (.int (nI b))] [.int 1] h _
        refine qg_if false rfl (rfl) rfl ?_
        exact g1 o hg
      cases v with
      | none =>
        obtain ⟨h', g2, g3⟩ := this
        exact ⟨h', r2 _ g2, g3⟩
      | some p' =>
        obtain ⟨h', x3', g2, g3, g4, g5, g6⟩ := this
        refine ⟨h', x3', fun o hg => r2 o (g2 o hg), g3, g4, fun q hq => ?_, g6⟩
        rcases g5 q hq with z | z
        · rcases List.mem_cons.mp z with rfl | z
          · exact Or.inr rfl
          · exact Or.inl z
        · exact Or.inr z
/-- prefixes: NOT -/
theorem m_preN {l0 : Nat} (ht : mtk e Y) : ∀ (n : Nat) (p : zK) (s s' : zS) (h : ai_H) (v : Option zK) (x3 : Option Value), mcs e Y K (p ++ P) s h → mso l0 s.2.2.2.2.length p → (∀ q ∈ p, q.2 ≤ 3) → zpre e 49 3 n p s = some (v, s') → match v with
    | none => ∃ h', qg L xs (d + 8) qm_141 2 [some (.ref 14), some (.int (nI P.length)), some (.int 1), x3] [] h (.inr "java/lang/IllegalArgumentException", h') ∧ mbad e Y K s' h'
    | some p' => ∃ h' x3', (∀ o, qg L xs (d + 8) qm_141 2 [some (.ref 14), some (.int (nI P.length)), some (.int 1), x3'] [] h' o → qg L xs (d + 8) qm_141 2 [some (.ref 14), some (.int (nI P.length)), some (.int 1), x3] [] h o) ∧ mcs e Y K (p' ++ P) s' h' ∧ mso l0 s'.2.2.2.2.length p' ∧ (∀ q ∈ p', q ∈ p ∨ q.2 = 3) ∧ zbot p' s'.2.2.2.2.length = zbot p s.2.2.2.2.length ∧ ztk e s'.1 ≠ 49 := by
  intro n
  induction n with
  | zero => intro p s s' h v x3 hc hm hn hz; cases hz
  | succ n ih =>
    intro p s s' h v x3 hc hm hn hz
    have hb : (p = [] ∧ 1 = 1) ∨ ∃ q Q', p = q :: Q' ∧ (q.2 ≤ 3 ∧ 1 = 1 ∨ 3 < q.2 ∧ 1 = 0) := by
      cases p with
      | nil => exact Or.inl ⟨rfl, rfl⟩
      | cons q Q' => exact Or.inr ⟨q, Q', rfl, Or.inl ⟨hn q (List.mem_cons_self ..), rfl⟩⟩
    have hmay := m_may (L := L) (xs := xs) (d := d) (x3 := x3) hc hb
    rcases zpre_inv (Or.inl rfl) hz with ⟨t, rfl, rfl⟩ | ⟨t, ho, rfl, rfl⟩ | ⟨t, ho, hw, hz2⟩
    · exact ⟨h, x3, fun o hg => hg, hc, hm, fun q hq => Or.inl hq, rfl, t⟩
    · have his := m_isWord (L := L) (xs := xs) (d := d) ht hc (k := 49) (by decide)
      rw [if_pos t] at his
      refine ⟨_, hmay _ ?_, mcs_bad hc⟩
      refine qg_pls (n := 1) (k' := 22) (lo' := [some (.ref 14), some (.int (nI P.length)), some (.int 1), some (.int (nI 1))]) (S' := [.int (nI 1)]) (h' := h) rfl ?_
      refine qg_if false rfl (rfl) rfl ?_
      refine qg_pls (n := 2) (k' := 25) (lo' := [some (.ref 14), some (.int (nI P.length)), some (.int 1), some (.int (nI 1))]) (S' := [.retAddr 1064, .ref 14]) (h' := h) rfl ?_
      refine qg_call (v := some (.int 1)) (h' := h) (as := [.ref 14, .retAddr 1064]) rfl rfl rfl rfl rfl rfl rfl (ai_rcv1 rfl rfl ((mcs_rcv hc).choose_spec)) ((qe_up (by omega) his)) ?_
      show qg L xs _ qm_141 26 [some (.ref 14), some (.int (nI P.length)), some (.int 1), some (.int (nI 1))] [.int 1] h _
      refine qg_if false rfl (rfl) rfl ?_
      exact m_turnN0 hc ho
    · have his := m_isWord (L := L) (xs := xs) (d := d) ht hc (k := 49) (by decide)
      rw [if_pos t] at his
      obtain ⟨h1, g1, hc1⟩ := m_turnN (L := L) (xs := xs) (d := d) (base := P.length) (x3 := some (.int (nI 1))) ht hc t ho hw
      have hm1 : mso l0 (s.2.2.2.2 ++ [40, 32] ++ zw 49 ++ [32]).length ((s.2.2.2.2.length, 3) :: p) := ⟨by simp only [List.length_append]; omega, hm⟩
      have := ih ((s.2.2.2.2.length, 3) :: p) _ s' h1 v (some (.int (nI 1))) hc1 hm1 (fun q hq => by
        rcases List.mem_cons.mp hq with rfl | z
        · exact Nat.le_refl _
        · exact hn q z) hz2
      have r2 : ∀ o, qg L xs (d + 8) qm_141 2 [some (.ref 14), some (.int (nI P.length)), some (.int 1), some (.int (nI 1))] [] h1 o → qg L xs (d + 8) qm_141 2 [some (.ref 14), some (.int (nI P.length)), some (.int 1), x3] [] h o := by
        intro o hg
        refine hmay o ?_
        refine qg_pls (n := 1) (k' := 22) (lo' := [some (.ref 14), some (.int (nI P.length)), some (.int 1), some (.int (nI 1))]) (S' := [.int (nI 1)]) (h' := h) rfl ?_
        refine qg_if false rfl (rfl) rfl ?_
        refine qg_pls (n := 2) (k' := 25) (lo' := [some (.ref 14), some (.int (nI P.length)), some (.int 1), some (.int (nI 1))]) (S' := [.retAddr 1064, .ref 14]) (h' := h) rfl ?_
        refine qg_call (v := some (.int 1)) (h' := h) (as := [.ref 14, .retAddr 1064]) rfl rfl rfl rfl rfl rfl rfl (ai_rcv1 rfl rfl ((mcs_rcv hc).choose_spec)) ((qe_up (by omega) his)) ?_
        show qg L xs _ qm_141 26 [some (.ref 14), some (.int (nI P.length)), some (.int 1), some (.int (nI 1))] [.int 1] h _
        refine qg_if false rfl (rfl) rfl ?_
        exact g1 o hg
      cases v with
      | none =>
        obtain ⟨h', g2, g3⟩ := this
        exact ⟨h', r2 _ g2, g3⟩
      | some p' =>
        obtain ⟨h', x3', g2, g3, g4, g5, g6, g7⟩ := this
        refine ⟨h', x3', fun o hg => r2 o (g2 o hg), g3, g4, fun q hq => ?_, g6, g7⟩
        rcases g5 q hq with z | z
        · rcases List.mem_cons.mp z with rfl | z
          · exact Or.inr rfl
          · exact Or.inl z
        · exact Or.inr z
end MPF
