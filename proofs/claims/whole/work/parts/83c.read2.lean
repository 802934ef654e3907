/-! READ. (Printed by wip/whole/pp.py from wip/whole/src.) -/
section QR2
variable {L : Nat} {xs : Nat → Int32} {d : Nat} {h h' h1 h2 : ai_H} {T Q : List Int32} {mx kd tb tl pb pl so fr to n : Nat}
/-- a text is read: its kind and its plain form, or none; e: what it is made of, m: how deep -/
def zread (e : zE) (m : Nat) : zR Nat := zbd (z_stmt e (zsp e m true) (zsp e m false) (0, 0, 0, 0, [])) fun k s => zbd (z_finish e s) fun _ s => some (some k, s)
/-- what a call may change, and how much room it takes -/
def qmv (h : ai_H) (tb tl pb pl so fr to n : Nat) (h' : ai_H) (tb' tl' pb' pl' so' fr' to' n' : Nat) : Prop := h.1.length ≤ h'.1.length ∧ (∀ i, i ≠ 0 → i ≠ 1 → i ≠ 2 → i ≠ 4 → i ≠ 6 → i ≠ 10 → i ≠ 11 → i ≠ tb → i ≠ pb → i ≠ so → i ≠ fr → i ≠ to → i < h.1.length → h'.1[i]? = h.1[i]?) ∧ (tb' = tb ∨ h.1.length ≤ tb') ∧ (pb' = pb ∨ h.1.length ≤ pb') ∧ (so' = so ∨ h.1.length ≤ so') ∧ (fr' = fr ∨ h.1.length ≤ fr') ∧ (to' = to ∨ h.1.length ≤ to') ∧ 64 * h'.2.1 + 4 * tl + 4 * pl + 3 * n ≤ 64 * h.2.1 + 4 * tl' + 4 * pl' + 3 * n' + 64 ∧ h'.2.2 + 2 * tl + 2 * pl + 6 * n ≤ h.2.2 + 2 * tl' + 2 * pl' + 6 * n' + 6
theorem qcs_k0 {P : zK} {s : zS} {bc bs : Int} {k : Nat} (hx : qsx h1 T kd tb tl pb so fr to n) (hc : qcs (zen T) (zY h1 pb) bc bs P s h2) : qcs (zen T) (zY (h1.1.set 0 (ai_obj 0 [.ref 1, .ref 2, .ref 4, .ref 12, .int (nI k)]), h1.2) pb) bc bs P s (h2.1.set 0 (ai_obj 0 [.ref 1, .ref 2, .ref 4, .ref 12, .int (nI k)]), h2.2) ∧ qsx (h1.1.set 0 (ai_obj 0 [.ref 1, .ref 2, .ref 4, .ref 12, .int (nI k)]), h1.2) T k tb tl pb so fr to n ∧ h2.1[0]? = some (ai_obj 0 [.ref 1, .ref 2, .ref 4, .ref 12, .int (nI kd)]) := by
  obtain ⟨rc, a1, a2, a3, a5, a4, fm, fs, pl0, Q0, q2, q4, hq1, d1, d10, d11, d0, npb, bT⟩ := hx
  obtain ⟨g, f1, f2, s6, sso, sfr, sto, s5, s7, s9, s8⟩ := id hq1
  obtain ⟨ft, q2a, q2b, q2c⟩ := id q2
  obtain ⟨fq, q4a, q4b, q4c⟩ := id q4
  have n0b : 0 ≠ pb := q_ne d0 q4b (by intro e; cases e)
  have y0 : zY h1 pb 0 = some (ai_obj 0 [.ref 1, .ref 2, .ref 4, .ref 12, .int (nI kd)]) := zY_of d0 (by omega)
  have e0 := qcs_prot hc 0 _ y0
  refine ⟨?_, ⟨rc, a1, a2, a3, a5, a4, fm, fs, pl0, Q0, ⟨ft, q_stay q2a (by decide), q_stay q2b (q_ne d0 q2b (by intro e; cases e)), q2c⟩, ⟨fq, q_stay q4a (by decide), q_stay q4b n0b, q4c⟩, ⟨g, f1, f2, q_stay s6 (by decide), q_stay sso (q_ne d0 sso (by intro e; cases e)), q_stay sfr (q_ne d0 sfr (by intro e; cases e)), q_stay sto (q_ne d0 sto (by intro e; cases e)), s5, s7, s9, s8⟩, q_stay d1 (by decide), q_stay d10 (by decide), q_stay d11 (by decide), q_set d0, npb, bT⟩, e0⟩
  obtain ⟨pb2, len2, gm, gs, c1, ⟨fp, r1, r2, r3⟩, c3, c4, c5, c6, c7, ⟨y1, y2, y3, y4, y5⟩, c9⟩ := hc
  have n0p : 0 ≠ pb2 := q_ne e0 r2 (by intro e; cases e)
  refine ⟨pb2, len2, gm, gs, q_stay c1 (by decide), ⟨fp, q_stay r1 (by decide), q_stay r2 n0p, r3⟩, q_stay c3 (by decide), q_stay c4 (by decide), c5, c6, fun i c hi => ?_, ⟨rfl, rfl, rfl, rfl, ?_⟩, c9⟩
  · obtain ⟨w1, w2⟩ := zY_out hi
    by_cases hi0 : i = 0
    · subst hi0
      rw [q_set d0] at w2
      cases w2
      exact q_set e0
    · have w3 : h1.1[i]? = some c := by
        have : (h1.1.set 0 (ai_obj 0 [.ref 1, .ref 2, .ref 4, .ref 12, .int (nI k)]))[i]? = some c := w2
        rw [List.getElem?_set_ne (fun e => hi0 e.symm)] at this
        exact this
      exact q_stay (c7 i c (zY_of w3 w1)) (fun e => hi0 e.symm)
  · unfold zY at y5 ⊢
    split at y5
    · rename_i q; rw [if_pos q]
    · rename_i q
      rw [if_neg q]
      show (h1.1.set 0 _)[pb2]? = none
      rw [List.getElem?_set_ne n0p]
      exact y5
/-- Grammar.place() -/
theorem q_place {s : zS} {p : Nat} {e : zE} {Y : Nat → Option ai_C} (ht : qtk e Y) (hp : ∀ i c, Y i = some c → h.1[i]? = some c) (hob : h.1[1]? = some (qgo e p s)) (hs : s.1 ≤ 100000) : qe L xs (d + 9) 92 [.ref 1] h (.inl (some (.int (nI (zfr e s.1)))), h) := by
  obtain ⟨fs6, e6⟩ := qtk_tok ht hp
  have hob' : h.1[1]? = some (ai_obj 1 [.ref 2, .ref 4, .ref 6, .int (nI s.1), .retAddr (ztk e s.1), .int (nI s.2.1), .int (nI s.2.2.1), .ref 10, .ref 11, .int (nI p)]) := hob
  refine qe_of (M := qm_92) rfl rfl ?_
  show qg L xs _ qm_92 0 [some (.ref 1)] [] h _
  refine qg_pls (n := 1) (k' := 1) (lo' := [some (.ref 1)]) (S' := [.ref 1]) (h' := h) rfl ?_
  refine qg_getf (v := .ref 6) rfl hob' rfl rfl rfl ?_
  refine qg_pls (n := 1) (k' := 3) (lo' := [some (.ref 1)]) (S' := [.ref 1, .ref 6]) (h' := h) rfl ?_
  refine qg_getf (v := .int (nI s.1)) rfl hob' rfl rfl rfl ?_
  refine qg_call (v := some (.int (nI (zfr e s.1)))) (h' := h) (as := [.ref 6, .int (nI s.1)]) rfl rfl rfl rfl rfl rfl rfl (ai_rcv1 rfl rfl e6) (qe_up (by omega) (q_from (d := d) ht hp (by omega))) ?_
  show qg L xs _ qm_92 5 [some (.ref 1)] [.int (nI (zfr e s.1))] h _
  exact qg_ret5 rfl rfl rfl
/-- the last rows of read -/
theorem q_readend {P : zK} {s : zS} {bc bs : Int} {ft : Nat} {Q : List Int32} {x2 : Option Value} {pb2 pl2 : Nat} (hx : qsx h1 T kd tb tl pb so fr to n) (hp : ∀ i c, zY h1 pb i = some c → h2.1[i]? = some c) (hob : h2.1[1]? = some (qgo (zen T) P.length s)) (hrow : qrow h2 4 pb2 pl2 Q) (hm : ∃ gm, h2.1[10]? = some (ai_num .int 300 gm)) (hs : ∃ gs, h2.1[11]? = some (ai_num .int 300 gs)) (hy : zY h1 pb pb2 = none) (hQ : ∀ x ∈ Q, zb x = x) : ∃ h', qg L xs (d + 9) qm_5 28 [some (.ref 0), some (.int (nI ft)), x2] [] h2 (.inl (some (.int (nI ft))), h') ∧ qst h' [] Q s.2.2.1 kd tb tl pb2 pl2 so fr to n ∧ h'.2.1 ≤ h2.2.1 ∧ h'.2.2 ≤ h2.2.2 ∧ h2.1.length ≤ h'.1.length ∧ ∀ i, i ≠ 2 → i ≠ tb → i < h2.1.length → h'.1[i]? = h2.1[i]? := by
  obtain ⟨rc, a1, a2, a3, a5, a4, fm, fs, pl0, Q0, q2, q4, hq1, d1, d10, d11, d0, npb, bT⟩ := id hx
  obtain ⟨g, f1, f2, s6, sso, sfr, sto, s5, s7, s9, s8⟩ := id hq1
  have htk := qsx_tk hx
  obtain ⟨fT, q2a, q2b, q2c⟩ := id q2
  obtain ⟨fq, q4a, q4b, q4c⟩ := id q4
  obtain ⟨tb', tl', so', fr', to', -⟩ := id htk
  have z2 : h2.1[2]? = _ := hp _ _ (zY_of q2a (by have := q_ne q2a q4b (by intro e; cases e); omega))
  have ztb : h2.1[tb]? = _ := hp _ _ (zY_of q2b (by
    have w1 := q_ne q2b d1 (by intro e; cases e)
    have w4 := q_ne q2b q4a (by intro e; cases e)
    have w10 := q_ne q2b d10 (by intro e; cases e)
    have w11 := q_ne q2b d11 (by intro e; cases e)
    omega))
  have z6 : h2.1[6]? = _ := hp _ _ (zY_of s6 (by have := q_ne s6 q4b (by intro e; cases e); omega))
  obtain ⟨e1, e11, en1⟩ := id s9
  have zso : h2.1[so]? = _ := hp _ _ (zY_of sso (by
    have w1 := q_ne sso d1 (by intro e; cases e)
    have w4 := q_ne sso q4a (by intro e; cases e)
    have w10 := q_ne sso d10 (by intro e; cases e)
    have w11 := q_ne sso d11 (by intro e; cases e)
    have w := q_ne sso q4b (by intro e; cases e)
    omega))
  have zfr' : h2.1[fr]? = _ := hp _ _ (zY_of sfr (by
    have w1 := q_ne sfr d1 (by intro e; cases e)
    have w4 := q_ne sfr q4a (by intro e; cases e)
    have w10 := q_ne sfr d10 (num_ne (by omega))
    have w11 := q_ne sfr d11 (num_ne (by omega))
    have w := q_ne sfr q4b (by intro e; cases e)
    omega))
  have zto' : h2.1[to]? = _ := hp _ _ (zY_of sto (by
    have w1 := q_ne sto d1 (by intro e; cases e)
    have w4 := q_ne sto q4a (by intro e; cases e)
    have w10 := q_ne sto d10 (num_ne (by omega))
    have w11 := q_ne sto d11 (num_ne (by omega))
    have w := q_ne sto q4b (by intro e; cases e)
    omega))
  have z0 : h2.1[0]? = some (ai_obj 0 [.ref 1, .ref 2, .ref 4, .ref 12, .int (nI kd)]) := hp _ _ (zY_of d0 (by have := q_ne d0 q4b (by intro e; cases e); omega))
  have r2 : qrow h2 2 tb tl T := ⟨fT, z2, ztb, q2c⟩
  obtain ⟨h3, k3, r3, o3⟩ := q_cut (L := L) (xs := xs) (d := d + 8) (n := 0) r2 (by decide)
  obtain ⟨fr4, ra, rb, rcx⟩ := id hrow
  obtain ⟨gm, c10⟩ := hm
  obtain ⟨gs, c11⟩ := hs
  have nb2 : pb2 ≠ tb := by
    intro e
    rw [e, zY_of q2b (by
      have w1 := q_ne q2b d1 (by intro e; cases e)
      have w4 := q_ne q2b q4a (by intro e; cases e)
      have w10 := q_ne q2b d10 (by intro e; cases e)
      have w11 := q_ne q2b d11 (by intro e; cases e)
      omega)] at hy
    cases hy
  have keep : ∀ {i : Nat} {c : ai_C}, h2.1[i]? = some c → i ≠ 2 → i ≠ tb → h3.1[i]? = some c := by
    intro i c hi w1 w2
    rw [o3.2.1 i w1 w2 (q_lt hi)]
    exact hi
  have l3 := o3.2.2.2.2.1
  have l4 := o3.2.2.2.2.2
  refine ⟨h3, ?_, ⟨rc, .int (nI s.1), .retAddr (ztk (zen T) s.1), .int (nI s.2.1), .int (nI P.length), (zen T).1, gm, gs, r3, ⟨fr4, keep ra (by decide) (q_ne ra ztb (by intro e; cases e)), keep rb (q_ne rb z2 (by intro e; cases e)) nb2, rcx⟩, ⟨g, f1, f2, keep z6 (by decide) (q_ne z6 ztb (by intro e; cases e)), keep zso (q_ne zso z2 (by intro e; cases e)) (q_ne zso ztb (by intro e; cases e)), keep zfr' (q_ne zfr' z2 (by intro e; cases e)) (q_ne zfr' ztb (by intro e; cases e)), keep zto' (q_ne zto' z2 (by intro e; cases e)) (q_ne zto' ztb (by intro e; cases e)), s5, s7, s9, s8⟩, keep hob (by decide) (q_ne hob ztb (by intro e; cases e)), keep c10 (by decide) (q_ne c10 ztb (by intro e; cases e)), keep c11 (by decide) (q_ne c11 ztb (by intro e; cases e)), keep z0 (by decide) (q_ne z0 ztb (by intro e; cases e)), fun e => nb2 e.symm, (fun x hx => by cases hx), hQ⟩, by omega, by omega, o3.1, fun i w1 w2 w3 => o3.2.1 i w1 w2 w3⟩
  refine qg_pls (n := 1) (k' := 29) (lo' := [some (.ref 0), some (.int (nI ft)), x2]) (S' := [.ref 0]) (h' := h2) rfl ?_
  refine qg_getf (v := .ref 2) rfl z0 rfl rfl rfl ?_
  refine qg_pls (n := 1) (k' := 31) (lo' := [some (.ref 0), some (.int (nI ft)), x2]) (S' := [.int 0, .ref 2]) (h' := h2) rfl ?_
  refine qg_call (v := none) (h' := h3) (as := [.ref 2, .int 0]) rfl rfl rfl rfl rfl rfl rfl (ai_rcv1 rfl rfl z2) (k3) ?_
  show qg L xs _ qm_5 32 [some (.ref 0), some (.int (nI ft)), x2] [] h3 _
  refine qg_pls (n := 1) (k' := 33) (lo' := [some (.ref 0), some (.int (nI ft)), x2]) (S' := [.int (nI ft)]) (h' := h3) rfl ?_
  exact qg_ret5 rfl rfl rfl
/-- where the text was refused -/
theorem q_readbad {P : zK} {s : zS} {bc bs : Int} (hx : qsx h1 T kd tb tl pb so fr to n) (hc : qcs (zen T) (zY h1 pb) bc bs P s h2) : ∃ h' pb' pl', qg L xs (d + 9) qm_5 14 [some (.ref 0), some (.int 0), none] [.float 0] h2 (.inl (some (.int (nI (zfr (zen T) s.1 + 1)))), h') ∧ qst h' [] [] s.2.2.1 0 tb tl pb' pl' so fr to n ∧ h'.2.1 ≤ h2.2.1 ∧ h'.2.2 ≤ h2.2.2 ∧ h2.1.length ≤ h'.1.length ∧ (zY h1 pb pb' = none ∧ 16 * (h2.2.1 : Int) ≤ 16 * bc + pl' ∧ (h2.2.2 : Int) ≤ bs + 2 * pl' ∧ qrow h' 4 pb' pl' []) ∧ ∀ i, i ≠ 0 → i ≠ 2 → i ≠ 4 → i ≠ tb → i ≠ pb' → i < h2.1.length → h'.1[i]? = h2.1[i]? := by
  have hbd := qcs_bd hc
  obtain ⟨hc3, hx3, e0⟩ := qcs_k0 (k := 0) hx hc
  have htk := qsx_tk hx3
  obtain ⟨pb2, pl2, gm, gs, c1, c2, c3, c4, c5, c6, c7, ⟨y1, y2, y3, y4, y5⟩, c9, c10⟩ := id hc3
  obtain ⟨h4, k4, r4, o4⟩ := q_cut (L := L) (xs := xs) (d := d + 8) (n := 0) c2 (by decide)
  obtain ⟨fp, ra, rb, rcx⟩ := id c2
  have keep : ∀ {i : Nat} {c : ai_C}, (h2.1.set 0 (ai_obj 0 [.ref 1, .ref 2, .ref 4, .ref 12, .int (nI 0)]))[i]? = some c → i ≠ 4 → i ≠ pb2 → h4.1[i]? = some c := by
    intro i c hi w1 w2
    rw [o4.2.1 i w1 w2 (q_lt hi)]
    exact hi
  have hob : h4.1[1]? = some (qgo (zen T) P.length s) := keep c1 (by decide) (q_ne c1 rb (by intro e; cases e))
  have hp : ∀ i c, zY (h1.1.set 0 (ai_obj 0 [.ref 1, .ref 2, .ref 4, .ref 12, .int (nI 0)]), h1.2) pb i = some c → h4.1[i]? = some c := by
    intro i c hi
    refine keep (c7 i c hi) (fun e => by rw [e, y2] at hi; cases hi) (fun e => by rw [e, y5] at hi; cases hi)
  obtain ⟨h5, k5, s5, l5, l6, l7, o5⟩ := q_readend (L := L) (xs := xs) (d := d) (P := P) (s := s) (bc := bc) (bs := bs) (ft := zfr (zen T) s.1 + 1) (x2 := some (.float 0)) hx3 hp hob r4 ⟨gm, keep c3 (by decide) (q_ne c3 rb (by intro e; cases e))⟩ ⟨gs, keep c4 (by decide) (q_ne c4 rb (by intro e; cases e))⟩ y5 (fun x hx => by cases hx)
  have l1 := o4.2.2.2.2.1
  have l2 := o4.2.2.2.2.2
  have g1 : (h2.1.set 0 (ai_obj 0 [.ref 1, .ref 2, .ref 4, .ref 12, .int (nI 0)]), h2.2).2.1 = h2.2.1 := rfl
  have g2 : (h2.1.set 0 (ai_obj 0 [.ref 1, .ref 2, .ref 4, .ref 12, .int (nI 0)]), h2.2).2.2 = h2.2.2 := rfl
  have g3 : (h2.1.set 0 (ai_obj 0 [.ref 1, .ref 2, .ref 4, .ref 12, .int (nI 0)]), h2.2).1.length = h2.1.length := List.length_set
  have l8 := o4.1
  obtain ⟨rc, b1, b2, b3, b4, lx, gm5, gs5, u2, u4, -⟩ := id s5
  refine ⟨h5, pb2, pl2, ?_, s5, by omega, by omega, by omega, ⟨?_, by omega, by omega, u4⟩, fun i i0 i2 i4 it ip il => ?_⟩
  · obtain ⟨fs6, e6⟩ := qtk_tok htk hp
    refine qg_pls (n := 3) (k' := 17) (lo' := [some (.ref 0), some (.int 0), some (.float 0)]) (S' := [.int 0, .ref 0]) (h' := h2) rfl ?_
    refine qg_putf rfl e0 rfl rfl (Nat.le_of_ble_eq_true rfl) rfl ?_
    refine qg_pls (n := 1) (k' := 19) (lo' := [some (.ref 0), some (.int 0), some (.float 0)]) (S' := [.ref 0]) (h' := (h2.1.set 0 (ai_obj 0 [.ref 1, .ref 2, .ref 4, .ref 12, .int 0]), h2.2)) rfl ?_
    refine qg_getf (v := .ref 4) rfl (q_set e0) rfl rfl rfl ?_
    refine qg_pls (n := 1) (k' := 21) (lo' := [some (.ref 0), some (.int 0), some (.float 0)]) (S' := [.int 0, .ref 4]) (h' := (h2.1.set 0 (ai_obj 0 [.ref 1, .ref 2, .ref 4, .ref 12, .int 0]), h2.2)) rfl ?_
    refine qg_call (v := none) (h' := h4) (as := [.ref 4, .int 0]) rfl rfl rfl rfl rfl rfl rfl (ai_rcv1 rfl rfl ra) (k4) ?_
    show qg L xs _ qm_5 22 [some (.ref 0), some (.int 0), some (.float 0)] [] h4 _
    refine qg_pls (n := 1) (k' := 23) (lo' := [some (.ref 0), some (.int 0), some (.float 0)]) (S' := [.ref 0]) (h' := h4) rfl ?_
    refine qg_getf (v := .ref 1) rfl (keep (q_set e0) (by decide) (q_ne (q_set e0) rb (by intro e; cases e))) rfl rfl rfl ?_
    refine qg_call (v := some (.int (nI (zfr (zen T) s.1)))) (h' := h4) (as := [.ref 1]) rfl rfl rfl rfl rfl rfl rfl (ai_rcv1 rfl rfl hob) (q_place (d := d) htk hp hob hbd.2.1) ?_
    show qg L xs _ qm_5 25 [some (.ref 0), some (.int 0), some (.float 0)] [.int (nI (zfr (zen T) s.1))] h4 _
    refine qg_pls (n := 3) (k' := 28) (lo' := [some (.ref 0), some (.int ((nI (zfr (zen T) s.1)) + 1)), some (.float 0)]) (S' := []) (h' := h4) rfl ?_
    rw [nI_1]
    exact k5
  · unfold zY at y5 ⊢
    split at y5
    · rename_i q; rw [if_pos q]
    · rename_i q
      rw [if_neg q]
      have y6 : (h1.1.set 0 (ai_obj 0 [.ref 1, .ref 2, .ref 4, .ref 12, .int (nI 0)]))[pb2]? = none := y5
      rw [List.getElem?_set_ne (q_ne (q_set e0) rb (by intro e; cases e))] at y6
      exact y6
  · rw [o5 i i2 it (by omega), o4.2.1 i i4 ip (by omega)]
    exact List.getElem?_set_ne (fun e => i0 e.symm)
end QR2
