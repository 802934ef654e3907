/-! READ, WHOLE. (Printed by wip/whole/pp.py from wip/whole/src.) -/
section QR3
variable {L : Nat} {xs : Nat → Int32} {d : Nat} {h h' h1 h2 : ai_H} {T Q : List Int32} {mx kd tb tl pb pl so fr to n : Nat}
/-- what read answers, the plain form and the kind then -/
def zrv (e : zE) (v : Option Nat) (s : zS) : Nat := match v with
  | none => zfr e s.1 + 1
  | some _ => 0
def zrq (v : Option Nat) (s : zS) : List Int32 := match v with
  | none => []
  | some _ => s.2.2.2.2
def zrk (v : Option Nat) : Nat := match v with
  | none => 0
  | some k => k
theorem q_mvof {h5 : ai_H} {pb5 pl5 so1 fr1 to1 n1 mx' kd' : Nat} {T' Q' : List Int32} (hs : qst h T Q mx kd tb tl pb pl so fr to n) (ho1 : qto h so fr to n h1 so1 fr1 to1 n1) (hx : qsx h1 T kd tb tl pb so1 fr1 to1 n1) (s5 : qst h5 T' Q' mx' kd' tb tl pb5 pl5 so1 fr1 to1 n1) (hk : ∀ i c, i ≠ 0 → i ≠ 2 → i ≠ 4 → i ≠ tb → i ≠ pb5 → zY h1 pb i = some c → h5.1[i]? = some c) (y5 : zY h1 pb pb5 = none) (m1 : 16 * (h5.2.1 : Int) ≤ 16 * (h1.2.1 - pl / 16 + 1) + pl5) (m2 : (h5.2.2 : Int) ≤ h1.2.2 - 2 * pl + 6 + 2 * pl5) : qmv h tb tl pb pl so fr to n h5 tb tl pb5 pl5 so1 fr1 to1 n1 := by
  obtain ⟨rc, a1, a2, a3, a4, l, fm, fs, r2, r4, hq, c1, c10, c11, c0, npb, bT, bQ⟩ := id hs
  obtain ⟨f4, -, -, -, ⟨ee, -, hple⟩, -⟩ := id r4
  obtain ⟨rcx, xa1, xa2, xa3, xa5, xa4, xfm, xfs, xpl, xQ, x2, x4, xq, xd1, xd10, xd11, xd0, xnp, xbT⟩ := id hx
  obtain ⟨r5, b1, b2, b3, b4, l5, fm5, fs5, u2, u4, uq, u1, u10, u11, u0, unp, uT, uQ⟩ := id s5
  obtain ⟨g2, u2a, u2b, -⟩ := id u2
  obtain ⟨g4, u4a, u4b, -⟩ := id u4
  have w1 := q_ne u4b u1 (by intro e; cases e)
  have w4 := q_ne u4b u4a (by intro e; cases e)
  have w10 := q_ne u4b u10 (by intro e; cases e)
  have w11 := q_ne u4b u11 (by intro e; cases e)
  have hpb : pb5 = pb ∨ h1.1.length ≤ pb5 := by
    unfold zY at y5
    split at y5
    · omega
    · exact Or.inr (List.getElem?_eq_none_iff.mp y5)
  have l11 := q_lt xd11
  have hlen : h1.1.length ≤ h5.1.length := by
    have v11 := q_lt u11
    have vtb := q_lt u2b
    have vpb := q_lt u4b
    by_cases k11 : h1.1.length - 1 = 11
    · omega
    by_cases kt : h1.1.length - 1 = tb
    · omega
    by_cases kp : h1.1.length - 1 = pb
    · omega
    by_cases kp5 : h1.1.length - 1 = pb5
    · omega
    have := q_lt (hk (h1.1.length - 1) _ (by omega) (by omega) (by omega) kt kp5 (zY_of (List.getElem?_eq_getElem (show h1.1.length - 1 < h1.1.length by omega)) (by omega)))
    omega
  obtain ⟨o1, o2, o3, o4, o5, o6, o7, o8⟩ := ho1
  refine ⟨by omega, fun i i0 i1 i2 i4 i6 i10 i11 it ip is if_ io il => ?_, Or.inl rfl, by omega, o3, o4, o5, by omega, by omega⟩
  have hi := o2 i i6 is if_ io il
  have hc : h.1[i]? = some h.1[i] := List.getElem?_eq_getElem il
  rw [hc]
  exact hk i _ i0 i2 i4 it (by omega) (zY_of (hi.trans hc) (by omega))
/-- QueryReader.read -/
theorem q_read {m : Nat} {v : Option Nat} {s' : zS} (hs : qst h T Q mx kd tb tl pb pl so fr to n) (hT : T.length ≤ 65536) (hz : zread (zen T) m = some (v, s')) (hB : ∀ x ∈ s'.2.2.2.2, zb x = x) : ∃ h' pb' pl' so' fr' to' n', qe L xs (d + 12 * m + 11) 5 [.ref 0] h (.inl (some (.int (nI (zrv (zen T) v s')))), h') ∧ qst h' [] (zrq v s') s'.2.2.1 (zrk v) tb tl pb' pl' so' fr' to' n' ∧ qmv h tb tl pb pl so fr to n h' tb tl pb' pl' so' fr' to' n' := by
  obtain ⟨h1, h2, so1, fr1, to1, n1, rc1, k1, ho1, hq1, hx, hc0⟩ := q_begin (L := L) (xs := xs) (d := d + 12 * m) hs hT
  obtain ⟨rc, a1, a2, a3, a4, l, fm, fs, r2, r4, hq, c1, c10, c11, c0, npb, bT, bQ⟩ := id hs
  obtain ⟨g0, f10, f20, t6, tso, tfr, tto, -⟩ := id hq
  have hc : qcs (zen T) (zY h1 pb) (h1.2.1 - pl / 16) (h1.2.2 - 2 * pl) [] (0, 0, 0, 0, []) h2 := ⟨pb, pl, hc0⟩
  have htk := qsx_tk hx
  obtain ⟨rcx, xa1, xa2, xa3, xa5, xa4, xfm, xfs, xpl, xQ, x2, x4, xq, xd1, xd10, xd11, xd0, xnp, xbT⟩ := id hx
  obtain ⟨fx4, x4a, x4b, x4c⟩ := id x4
  have y0 : zY h1 pb 0 = some (ai_obj 0 [.ref 1, .ref 2, .ref 4, .ref 12, .int (nI kd)]) := zY_of xd0 (by have := q_ne xd0 x4b (by intro e; cases e); omega)
  have e0 := qcs_prot hc 0 _ y0
  have hple : ∃ k, pl = 256 * k := by
    obtain ⟨f4, -, -, -, ⟨ee, -, he⟩, -⟩ := id r4
    exact ⟨_, he⟩
  obtain ⟨kpl, hpl⟩ := hple
  unfold zread at hz
  rcases zbd_inv hz with ⟨hz1, rfl⟩ | ⟨k, s1, hz1, hz⟩
  · obtain ⟨h3, g3, P', hc3⟩ := q_all (L := L) (xs := xs) (d := d) htk m _ _ _ _ _ hc hz1
    obtain ⟨h5, pb5, pl5, k5, s5, l1, l2, l3, ⟨y5, l4, l5, u4⟩, o5⟩ := q_readbad (L := L) (xs := xs) (d := d + 12 * m + 1) hx hc3
    refine ⟨h5, pb5, pl5, so1, fr1, to1, n1, ?_, s5, ?_⟩
    · skip
      refine qe_of (d := d + 12 * m + 10) (M := qm_5) rfl rfl ?_
      show qg L xs _ qm_5 0 [some (.ref 0), none, none] [] h _
      refine qg_pls (n := 3) (k' := 3) (lo' := [some (.ref 0), some (.int 0), none]) (S' := [.ref 0]) (h' := h) rfl ?_
      refine qg_getf (v := .ref 1) rfl c0 rfl rfl rfl ?_
      refine qg_call (v := none) (h' := h2) (as := [.ref 1]) rfl rfl rfl rfl rfl rfl rfl (ai_rcv1 rfl rfl c1) (k1) ?_
      show qg L xs _ qm_5 5 [some (.ref 0), some (.int 0), none] [] h2 _
      refine qg_pls (n := 2) (k' := 7) (lo' := [some (.ref 0), some (.int 0), none]) (S' := [.ref 0, .ref 0]) (h' := h2) rfl ?_
      refine qg_getf (v := .ref 1) rfl e0 rfl rfl rfl ?_
      refine qg_callH rfl rfl rfl rfl rfl rfl rfl (ai_rcv1 rfl rfl (qcs_obj hc)) rfl g3 ?_
      exact k5
    · exact q_mvof hs ho1 hx s5 (fun i c i0 i2 i4 it ip hy => by
        have h3i := qcs_prot hc3 i c hy
        rw [o5 i i0 i2 i4 it ip (q_lt h3i)]
        exact h3i) y5 (by omega) (by omega)
  obtain ⟨h3, g3, hc3⟩ := q_all (L := L) (xs := xs) (d := d) htk m _ _ _ _ _ hc hz1
  have hc3 : qcs (zen T) (zY h1 pb) (h1.2.1 - pl / 16) (h1.2.2 - 2 * pl) [] s1 h3 := hc3
  obtain ⟨hc4, hx4, e3⟩ := qcs_k0 (k := k) hx hc3
  have htk4 := qsx_tk hx4
  have e4 := q_set (y := ai_obj 0 [.ref 1, .ref 2, .ref 4, .ref 12, .int (nI k)]) e3
  have yy : ∀ {i : Nat} {c : ai_C}, i ≠ 0 → zY h1 pb i = some c → zY (h1.1.set 0 (ai_obj 0 [.ref 1, .ref 2, .ref 4, .ref 12, .int (nI k)]), h1.2) pb i = some c := by
    intro i c i0 hy
    obtain ⟨w1, w2⟩ := zY_out hy
    exact zY_of (q_stay w2 (fun e => i0 e.symm)) w1
  have yn : ∀ {i : Nat}, i ≠ 0 → zY (h1.1.set 0 (ai_obj 0 [.ref 1, .ref 2, .ref 4, .ref 12, .int (nI k)]), h1.2) pb i = none → zY h1 pb i = none := by
    intro i i0 hy
    cases hc : zY h1 pb i with
    | none => rfl
    | some c => rw [yy i0 hc] at hy; cases hy
  have road : ∀ o, qg L xs (d + 12 * m + 10) qm_5 12 [some (.ref 0), some (.int 0), none] [.ref 1] (h3.1.set 0 (ai_obj 0 [.ref 1, .ref 2, .ref 4, .ref 12, .int (nI k)]), h3.2) o → qg L xs (d + 12 * m + 10) qm_5 0 [some (.ref 0), none, none] [] h o := by
    intro o hg
    refine qg_pls (n := 3) (k' := 3) (lo' := [some (.ref 0), some (.int 0), none]) (S' := [.ref 0]) (h' := h) rfl ?_
    refine qg_getf (v := .ref 1) rfl c0 rfl rfl rfl ?_
    refine qg_call (v := none) (h' := h2) (as := [.ref 1]) rfl rfl rfl rfl rfl rfl rfl (ai_rcv1 rfl rfl c1) (k1) ?_
    show qg L xs _ qm_5 5 [some (.ref 0), some (.int 0), none] [] h2 _
    refine qg_pls (n := 2) (k' := 7) (lo' := [some (.ref 0), some (.int 0), none]) (S' := [.ref 0, .ref 0]) (h' := h2) rfl ?_
    refine qg_getf (v := .ref 1) rfl e0 rfl rfl rfl ?_
    refine qg_call (v := some (.int (nI k))) (h' := h3) (as := [.ref 1]) rfl rfl rfl rfl rfl rfl rfl (ai_rcv1 rfl rfl (qcs_obj hc)) (g3) ?_
    show qg L xs _ qm_5 9 [some (.ref 0), some (.int 0), none] [.int (nI k), .ref 0] h3 _
    refine qg_putf rfl e3 rfl rfl (Nat.le_of_ble_eq_true rfl) rfl ?_
    refine qg_pls (n := 1) (k' := 11) (lo' := [some (.ref 0), some (.int 0), none]) (S' := [.ref 0]) (h' := (h3.1.set 0 (ai_obj 0 [.ref 1, .ref 2, .ref 4, .ref 12, .int (nI k)]), h3.2)) rfl ?_
    refine qg_getf (v := .ref 1) rfl (q_set e3) rfl rfl rfl ?_
    exact hg
  rcases zbd_inv hz with ⟨hz2, rfl⟩ | ⟨a2, s2, hz2, hz⟩
  · obtain ⟨h5, g5, P', hc5⟩ := q_finish (L := L) (xs := xs) (d := d + 12 * m + 3) htk4 _ _ _ _ _ hc4 hz2
    obtain ⟨h6, pb6, pl6, k6, s6, l1, l2, l3, ⟨y6, l4, l5, u6⟩, o6⟩ := q_readbad (L := L) (xs := xs) (d := d + 12 * m + 1) hx4 hc5
    have np6 : pb6 ≠ 0 := by
      obtain ⟨r5, b1, b2, b3, b4, l5, fm5, fs5, -, ⟨fz, -, u4b, -⟩, -, -, -, -, u0, -⟩ := id s6
      exact q_ne u4b u0 (by intro e; cases e)
    refine ⟨h6, pb6, pl6, so1, fr1, to1, n1, ?_, s6, q_mvof hs ho1 hx s6 (fun i c i0 i2 i4 it ip hy => ?_) (yn np6 y6) (by omega) (by omega)⟩
    · refine qe_of (d := d + 12 * m + 10) (M := qm_5) rfl rfl (road _ ?_)
      refine qg_callH rfl rfl rfl rfl rfl rfl rfl (ai_rcv1 rfl rfl (qcs_obj hc4)) rfl g5 ?_
      exact k6
    · have h3i := qcs_prot hc5 i c (yy i0 hy)
      rw [o6 i i0 i2 i4 it ip (q_lt h3i)]
      exact h3i
  · cases hz
    obtain ⟨h5, g5, hc5⟩ := q_finish (L := L) (xs := xs) (d := d + 12 * m + 3) htk4 _ _ _ _ _ hc4 hz2
    have hc5 : qcs (zen T) (zY (h1.1.set 0 (ai_obj 0 [.ref 1, .ref 2, .ref 4, .ref 12, .int (nI k)]), h1.2) pb) (h1.2.1 - pl / 16) (h1.2.2 - 2 * pl) [] s' h5 := hc5
    have hp5 := qcs_prot hc5
    obtain ⟨pb5, pl5, gm, gs, v1, v2, v3, v4, v5, v6, v7, ⟨y1, y2, y3, y4, y5⟩, v9, v10⟩ := id hc5
    obtain ⟨h6, k6, s6, l1, l2, l3, o6⟩ := q_readend (L := L) (xs := xs) (d := d + 12 * m + 1) (P := []) (s := s') (bc := 0) (bs := 0) (ft := 0) (x2 := none) hx4 hp5 v1 v2 ⟨gm, v3⟩ ⟨gs, v4⟩ y5 hB
    have np5 : pb5 ≠ 0 := by
      obtain ⟨fp, -, u4b, -⟩ := v2
      have e5 := hp5 0 _ (zY_of (q_set xd0) (by have := q_ne xd0 x4b (by intro e; cases e); omega))
      exact q_ne u4b e5 (by intro e; cases e)
    refine ⟨h6, pb5, pl5, so1, fr1, to1, n1, ?_, s6, q_mvof hs ho1 hx s6 (fun i c i0 i2 i4 it ip hy => ?_) (yn np5 y5) (by omega) (by omega)⟩
    · refine qe_of (d := d + 12 * m + 10) (M := qm_5) rfl rfl (road _ ?_)
      refine qg_call (v := none) (h' := h5) (as := [.ref 1]) rfl rfl rfl rfl rfl rfl rfl (ai_rcv1 rfl rfl (qcs_obj hc4)) (g5) ?_
      show qg L xs _ qm_5 13 [some (.ref 0), some (.int 0), none] [] h5 _
      refine qg_pls (n := 1) (k' := 28) (lo' := [some (.ref 0), some (.int 0), none]) (S' := []) (h' := h5) rfl ?_
      exact k6
    · have h3i := hp5 i c (yy i0 hy)
      rw [o6 i i2 it (q_lt h3i)]
      exact h3i
end QR3
