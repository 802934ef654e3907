/-! THE MODEL READS ITS TEXT: ALL TOKENS. (Printed by wip/whole/pp.py from wip/whole/src.) -/
section MRE2
variable {L : Nat} {xs : Nat → Int32} {d : Nat} {h h' : ai_H} {T : List Int32} {A : mA} {cnt : Nat}
theorem zat_ne {i : Nat} (hi : i < T.length) : ¬ zat T i = -1 := by
  rcases zat_nI T i with ⟨-, q⟩ | ⟨-, m, hm, em⟩
  · exact absurd hi q
  · rw [em]
    intro q
    have := nI_pos (n := m) (by omega)
    rw [q] at this
    exact this (by decide)
theorem zone_ge (a : Int32) : zone a = 103 ∨ 82 ≤ zone a ∧ zone a < 99 := by
  unfold zone
  (repeat' split) <;> omega
theorem ztwo_ge (a b : Int32) : ztwo a b = 103 ∨ 82 ≤ ztwo a b ∧ ztwo a b < 99 := by
  unfold ztwo
  (repeat' split) <;> omega
/-- what a token is: a word, or none -/
theorem ztok_w {i : Nat} (hi : i < T.length) : (ztok T i).1 ≠ 102 ∧ (((ztok T i).1 < 82 ∨ (ztok T i).1 = 99) → i ≤ (ztok T i).2 ∧ (ztok T i).2 ≤ T.length ∧ (ztok T i).2 - i ≤ 30 ∧ (ztok T i).1 = zkey (zup T i (ztok T i).2) ∧ ∀ p, i ≤ p → p < (ztok T i).2 → zofw (zat T p)) := by
  have hle := ztok_le (t := T) (i := i) (by omega)
  unfold ztok at hle ⊢
  rw [if_neg (zat_ne hi)] at hle ⊢
  by_cases h1 : zdig (zat T i)
  · rw [if_pos h1]
    dsimp only
    refine ⟨by split <;> omega, fun q => ?_⟩
    exfalso
    revert q
    split <;> omega
  · rw [if_neg h1] at hle ⊢
    by_cases h2 : zofw (zat T i)
    · rw [if_pos h2] at hle ⊢
      dsimp only at hle ⊢
      have hz := zrun_le (t := T) (p := zofw) (T.length - i) i
      have hk := zkey_lt (zup T i (zrun T zofw (T.length - i) i))
      by_cases h3 : 30 < zrun T zofw (T.length - i) i - i
      · rw [if_pos h3]
        exact ⟨by omega, fun q => by omega⟩
      · rw [if_neg h3]
        exact ⟨by omega, fun _ => ⟨hz.1, by omega, by omega, rfl, fun p p1 p2 => zrun_ok _ _ p p1 p2⟩⟩
    · rw [if_neg h2] at hle ⊢
      by_cases h3 : zat T i = 39
      · rw [if_pos h3]
        dsimp only
        have hs := (zstr_le (t := T) (T.length - (i + 1)) (i + 1) 0).1
        exact ⟨by omega, fun q => by omega⟩
      · rw [if_neg h3]
        have ha := zone_ge (zat T i)
        have hb := ztwo_ge (zat T i) (zat T (i + 1))
        by_cases h4 : ztwo (zat T i) (zat T (i + 1)) = 103
        · rw [if_pos h4]
          dsimp only
          exact ⟨by omega, fun q => by omega⟩
        · rw [if_neg h4]
          dsimp only
          exact ⟨by omega, fun q => by omega⟩
theorem zlen_tok {i : Nat} (hi : i < T.length) (h6 : (ztok T i).1 ≠ 103) : (ztok T i).2 - i < 1000 := by
  unfold ztok at h6 ⊢
  rw [if_neg (zat_ne hi)] at h6 ⊢
  by_cases h1 : zdig (zat T i)
  · rw [if_pos h1] at h6 ⊢
    dsimp only at h6 ⊢
    by_cases h3 : 18 < zrun T zdig (T.length - i) i - i
    · rw [if_pos h3] at h6; exact absurd rfl h6
    · omega
  · rw [if_neg h1] at h6 ⊢
    by_cases h2 : zofw (zat T i)
    · rw [if_pos h2] at h6 ⊢
      dsimp only at h6 ⊢
      by_cases h3 : 30 < zrun T zofw (T.length - i) i - i
      · rw [if_pos h3] at h6; exact absurd rfl h6
      · omega
    · rw [if_neg h2] at h6 ⊢
      by_cases h3 : zat T i = 39
      · rw [if_pos h3] at h6 ⊢
        dsimp only at h6 ⊢
        have hs := (zstr_le (t := T) (T.length - (i + 1)) (i + 1) 0).1
        have hl := zstr_len (T := T) (T.length - (i + 1)) (i + 1) 0 (by decide) (by omega)
        split <;> omega
      · rw [if_neg h3] at h6 ⊢
        split
        · dsimp only; omega
        · dsimp only; omega
theorem zs0_of {k : Nat} (hk : k < 104) : zs0 k < 10 ∧ (zs0 k = 6 ↔ k = 103) ∧ (zs0 k = 2 ↔ k < 82 ∨ k = 99) ∧ (¬ k < 82 → zs0 k = zcode k) := by
  unfold zs0 zcode
  (repeat' split) <;> omega
theorem getD_app {l : List (Nat × Nat × Nat)} {a x : Nat × Nat × Nat} {i : Nat} : (l ++ [a]).getD i x = if i < l.length then l.getD i x else if i = l.length then a else x := by
  rw [List.getD_eq_getElem?_getD, List.getD_eq_getElem?_getD]
  by_cases h1 : i < l.length
  · rw [if_pos h1, List.getElem?_append_left h1]
  · rw [if_neg h1]
    by_cases h2 : i = l.length
    · rw [if_pos h2, h2, List.getElem?_append_right (Nat.le_refl _), Nat.sub_self]; rfl
    · rw [if_neg h2, List.getElem?_eq_none (by rw [List.length_append]; simp only [List.length_cons, List.length_nil]; omega)]; rfl
/-- tokens that were read, and one more -/
theorem mtr_add {l : List (Nat × Nat × Nat)} {k f z : Nat} {f1 fk fz : Nat → Int32} (h18 : h.1[18]? = some (ai_num .int 65538 f1)) (h19 : h.1[19]? = some (ai_num .byte 65538 fk)) (h20 : h.1[20]? = some (ai_num .short 65538 fz)) (ht : ∀ i, i < l.length → f1 i = nI (l.getD i (102, 0, 0)).2.1 ∧ fk i = nI (zcode (l.getD i (102, 0, 0)).1) ∧ ((l.getD i (102, 0, 0)).1 < 102 → fz i = nI ((l.getD i (102, 0, 0)).2.2 - (l.getD i (102, 0, 0)).2.1))) (a1 : f1 l.length = nI f) (a2 : fk l.length = nI (zcode k)) (a3 : k < 102 → fz l.length = nI (z - f)) : mtr h (l ++ [(k, f, z)]) := by
  refine ⟨f1, fk, fz, h18, h19, h20, fun i hi => ?_⟩
  rw [List.length_append] at hi
  simp only [List.length_cons, List.length_nil] at hi
  rw [getD_app]
  by_cases h1 : i < l.length
  · rw [if_pos h1]; exact ht i h1
  · have h2 : i = l.length := by omega
    rw [if_neg h1, if_pos h2, h2]
    exact ⟨a1, a2, a3⟩
/-- the words of the model -/
def mwd (h : ai_H) : Prop := ∃ gw, h.1[15]? = some (ai_refs "java/lang/String" 82 gw) ∧ ∀ j, j < 82 → gw j = .retAddr (qr_en.getD j (0, 0)).1
theorem mwd_kp (hw : mwd h) (hk : mkp h h') : mwd h' := by
  obtain ⟨gw, h1, h2⟩ := hw
  exact ⟨gw, by rw [hk.2 15 (by decide) (by decide) (by decide) (by decide)]; exact h1, h2⟩
/-- QueryReaderModel.readToken -/
theorem m_readToken {l : List (Nat × Nat × Nat)} (hx : mtx h A l.length T) (hr : mtr h l) (hw : mwd h) (hl : l.length < 65537) {i : Nat} (hi : i < T.length) : ∃ h', qe L xs (d + 8) 122 [.ref 14, .int (nI i)] h (.inl (some (.int (if (ztok T i).1 = 103 then 65537 else nI (ztok T i).2))), h') ∧ mtx h' A (l.length + 1) T ∧ mkp h h' ∧ mtr h' (l ++ [((ztok T i).1, i, (ztok T i).2)]) := by
  have hlen := hx.2.2.1
  have hT := hx.2.2.2.1
  obtain ⟨t1, t2, t3, t4⟩ := ztok_le (t := T) (i := i) (by omega)
  obtain ⟨w1, w2⟩ := ztok_w hi
  obtain ⟨z1, z2, z3, z4⟩ := zs0_of t1
  by_cases h6 : (ztok T i).1 = 103
  · obtain ⟨h1, f1, fk, fz, g1, x1, kp1, h18, h19, h20, ho, a1, a2, a3⟩ := m_token (L := L) (xs := xs) (d := d + 6) (a := i) (b := 0) (c := 6) hx hr (by omega) (by decide) (by decide)
    rw [if_pos h6]
    refine ⟨h1, m_rt (d := d + 5) hx hi _ (fun sz c x5 hz => ?_), x1, kp1, mtr_add h18 h19 h20 ho a1 (by rw [a2, h6]; rfl) (fun q => by omega)⟩
    obtain ⟨q1, -⟩ := hz
    have hc : c = 6 := by rw [q1]; exact z2.mpr h6
    subst hc
    refine qg_pls (n := 2) (k' := 151) (lo' := [some (.ref 14), some (.int (nI i)), some (.int (zraw T i)), some (.int sz), some (.int (nI 6)), x5]) (S' := [.int 6, .int (nI 6)]) (h' := h) rfl ?_
    refine qg_icmp false rfl (rfl) rfl ?_
    refine qg_pls (n := 4) (k' := 156) (lo' := [some (.ref 14), some (.int (nI i)), some (.int (zraw T i)), some (.int sz), some (.int (nI 6)), x5]) (S' := [.int 6, .int 0, .int (nI i), .ref 14]) (h' := h) rfl ?_
    refine qg_call (v := none) (h' := h1) (as := [.ref 14, .int (nI i), .int 0, .int 6]) rfl rfl rfl rfl rfl rfl rfl (ai_rcv1 rfl rfl hx.1) (g1) ?_
    show qg L xs _ qm_122 157 [some (.ref 14), some (.int (nI i)), some (.int (zraw T i)), some (.int sz), some (.int (nI 6)), x5] [] h1 _
    refine qg_pls (n := 1) (k' := 158) (lo' := [some (.ref 14), some (.int (nI i)), some (.int (zraw T i)), some (.int sz), some (.int (nI 6)), x5]) (S' := [.int 65537]) (h' := h1) rfl ?_
    exact qg_ret5 rfl rfl rfl
  · rw [if_neg h6]
    by_cases h2 : (ztok T i).1 < 82 ∨ (ztok T i).1 = 99
    · obtain ⟨v1, v2, v3, v4, v5⟩ := w2 h2
      obtain ⟨h1, f1, fk, fz, g1, x1, kp1, h18, h19, h20, ho, a1, a2, a3⟩ := m_token (L := L) (xs := xs) (d := d + 6) (a := i) (b := (ztok T i).2 - i) (c := 2) hx hr (by omega) (by omega) (by decide)
      obtain ⟨gw, y15, ygw⟩ := mwd_kp hw kp1
      obtain ⟨hob1, -, -, -, ft, h17, hft⟩ := id x1
      have hwo := m_wordOf (L := L) (xs := xs) (d := d) hob1 hT hlen y15 ygw h17 hft h18 h20 (ix := l.length) (by omega) a1 a3 v1 v2 v3 v5 82 0 rfl (by decide) (fun j hj => by omega)
      have gwo : qe L xs (d + 7) 127 [.ref 14, .int (nI l.length)] h1 (.inl (some (.int (if zkey (zup T i (ztok T i).2) = 99 then -1 else nI (zkey (zup T i (ztok T i).2))))), h1) := by
        refine qe_of (M := qm_127) rfl rfl ?_
        show qg L xs _ qm_127 0 [some (.ref 14), some (.int (nI l.length)), none] [] h1 _
        refine qg_pls (n := 2) (k' := 2) (lo' := [some (.ref 14), some (.int (nI l.length)), some (.int 0)]) (S' := []) (h' := h1) rfl ?_
        exact hwo
      rw [← v4] at gwo
      have road : ∀ (sz : Int32) (c : Nat) (x5 : Option Value), zcl T i sz c → ∀ o, (∀ x : Int32, x = (if (ztok T i).1 = 99 then -1 else nI (ztok T i).1) → qg L xs (d + 7) qm_122 173 [some (.ref 14), some (.int (nI i)), some (.int (zraw T i)), some (.int (nI ((ztok T i).2 - i))), some (.int (nI 2)), x5] [.int x] h1 o) → qg L xs (d + 7) qm_122 149 [some (.ref 14), some (.int (nI i)), some (.int (zraw T i)), some (.int sz), some (.int (nI c)), x5] [] h o := by
        intro sz c x5 hz o hg
        obtain ⟨q1, q2⟩ := hz
        have hc : c = 2 := by rw [q1]; exact z3.mpr h2
        subst hc
        obtain ⟨q3, -⟩ := q2 (by decide)
        subst q3
        refine qg_pls (n := 2) (k' := 151) (lo' := [some (.ref 14), some (.int (nI i)), some (.int (zraw T i)), some (.int (nI ((ztok T i).2 - i))), some (.int (nI 2)), x5]) (S' := [.int 6, .int (nI 2)]) (h' := h) rfl ?_
        refine qg_icmp true rfl (rfl) rfl ?_
        refine qg_pls (n := 4) (k' := 163) (lo' := [some (.ref 14), some (.int (nI i)), some (.int (zraw T i)), some (.int (nI ((ztok T i).2 - i))), some (.int (nI 2)), x5]) (S' := [.int (nI 2), .int (nI ((ztok T i).2 - i)), .int (nI i), .ref 14]) (h' := h) rfl ?_
        refine qg_call (v := none) (h' := h1) (as := [.ref 14, .int (nI i), .int (nI ((ztok T i).2 - i)), .int (nI 2)]) rfl rfl rfl rfl rfl rfl rfl (ai_rcv1 rfl rfl hx.1) (g1) ?_
        show qg L xs _ qm_122 164 [some (.ref 14), some (.int (nI i)), some (.int (zraw T i)), some (.int (nI ((ztok T i).2 - i))), some (.int (nI 2)), x5] [] h1 _
        refine qg_pls (n := 2) (k' := 166) (lo' := [some (.ref 14), some (.int (nI i)), some (.int (zraw T i)), some (.int (nI ((ztok T i).2 - i))), some (.int (nI 2)), x5]) (S' := [.int 2, .int (nI 2)]) (h' := h1) rfl ?_
        refine qg_icmp false rfl (rfl) rfl ?_
        refine qg_pls (n := 2) (k' := 169) (lo' := [some (.ref 14), some (.int (nI i)), some (.int (zraw T i)), some (.int (nI ((ztok T i).2 - i))), some (.int (nI 2)), x5]) (S' := [.ref 14, .ref 14]) (h' := h1) rfl ?_
        refine qg_getf (v := .int (nI (l.length + 1))) rfl hob1 rfl rfl rfl ?_
        refine qg_pls (n := 2) (k' := 172) (lo' := [some (.ref 14), some (.int (nI i)), some (.int (zraw T i)), some (.int (nI ((ztok T i).2 - i))), some (.int (nI 2)), x5]) (S' := [.int ((nI (l.length + 1)) - 1), .ref 14]) (h' := h1) rfl ?_
        rw [show nI (l.length + 1) - 1 = nI l.length from nI_sub (b := 1) (by omega)]
        refine qg_call (v := some (.int (if (ztok T i).1 = 99 then -1 else nI (ztok T i).1))) (h' := h1) (as := [.ref 14, .int (nI l.length)]) rfl rfl rfl rfl rfl rfl rfl (ai_rcv1 rfl rfl hob1) (gwo) ?_
        show qg L xs _ qm_122 173 [some (.ref 14), some (.int (nI i)), some (.int (zraw T i)), some (.int (nI ((ztok T i).2 - i))), some (.int (nI 2)), x5] [.int (if (ztok T i).1 = 99 then -1 else nI (ztok T i).1)] h1 _
        exact hg _ rfl
      have hret : nI i + nI ((ztok T i).2 - i) = nI (ztok T i).2 := by
        rw [nI_add]
        exact congrArg nI (by omega)
      by_cases h99 : (ztok T i).1 = 99
      · refine ⟨h1, m_rt (d := d + 5) hx hi _ (fun sz c x5 hz => road sz c x5 hz _ (fun x hxv => ?_)), x1, kp1, mtr_add h18 h19 h20 ho a1 (by rw [a2, h99]; rfl) (fun _ => a3)⟩
        rw [if_pos h99] at hxv
        subst hxv
        refine qg_if true rfl (rfl) rfl ?_
        refine qg_pls (n := 3) (k' := 185) (lo' := [some (.ref 14), some (.int (nI i)), some (.int (zraw T i)), some (.int (nI ((ztok T i).2 - i))), some (.int (nI 2)), x5]) (S' := [.int ((nI i) + (nI ((ztok T i).2 - i)))]) (h' := h1) rfl ?_
        rw [hret]
        exact qg_ret5 rfl rfl rfl
      · have h82 : (ztok T i).1 < 82 := by omega
        have b14 := q_stay (x := ai_num .byte 65538 (upd fk l.length 1)) hob1 (show 19 ≠ 14 by decide)
        have kp2 : mkp h1 (h1.1.set 19 (ai_num .byte 65538 (upd fk l.length 1)), h1.2) := ⟨rfl, fun j j1 j2 j3 j4 => List.getElem?_set_ne (fun q => j3 q.symm)⟩
        refine ⟨(h1.1.set 19 (ai_num .byte 65538 (upd fk l.length 1)), h1.2), m_rt (d := d + 5) hx hi _ (fun sz c x5 hz => road sz c x5 hz _ (fun x hxv => ?_)), mtx_kp x1 kp2 b14, mkp_trans kp1 kp2, mtr_add (f1 := f1) (fk := upd fk l.length 1) (fz := fz) (q_stay h18 (by decide)) (q_set h19) (q_stay h20 (by decide)) (fun j hj => ?_) a1 ?_ (fun _ => a3)⟩
        · rw [if_neg h99] at hxv
          subst hxv
          refine qg_if false rfl (qc_lt0 (by omega)) rfl ?_
          refine qg_pls (n := 1) (k' := 175) (lo' := [some (.ref 14), some (.int (nI i)), some (.int (zraw T i)), some (.int (nI ((ztok T i).2 - i))), some (.int (nI 2)), x5]) (S' := [.ref 14]) (h' := h1) rfl ?_
          refine qg_getf (v := .ref 19) rfl hob1 rfl rfl rfl ?_
          refine qg_pls (n := 1) (k' := 177) (lo' := [some (.ref 14), some (.int (nI i)), some (.int (zraw T i)), some (.int (nI ((ztok T i).2 - i))), some (.int (nI 2)), x5]) (S' := [.ref 14, .ref 19]) (h' := h1) rfl ?_
          refine qg_getf (v := .int (nI (l.length + 1))) rfl hob1 rfl rfl rfl ?_
          refine qg_pls (n := 3) (k' := 181) (lo' := [some (.ref 14), some (.int (nI i)), some (.int (zraw T i)), some (.int (nI ((ztok T i).2 - i))), some (.int (nI 2)), x5]) (S' := [.int 1, .int ((nI (l.length + 1)) - 1), .ref 19]) (h' := h1) rfl ?_
          rw [show nI (l.length + 1) - 1 = nI l.length from nI_sub (b := 1) (by omega)]
          refine qg_ast rfl (fun _ _ _ => rfl) h19 (by omega) (by decide) ?_
          rw [show vp_nar FieldType.byte (1 : Int32) = 1 by decide]
          show qg L xs _ qm_122 182 [some (.ref 14), some (.int (nI i)), some (.int (zraw T i)), some (.int (nI ((ztok T i).2 - i))), some (.int (nI 2)), x5] [] (h1.1.set 19 (ai_num .byte 65538 (upd fk l.length 1)), h1.2) _
          refine qg_pls (n := 3) (k' := 185) (lo' := [some (.ref 14), some (.int (nI i)), some (.int (zraw T i)), some (.int (nI ((ztok T i).2 - i))), some (.int (nI 2)), x5]) (S' := [.int ((nI i) + (nI ((ztok T i).2 - i)))]) (h' := (h1.1.set 19 (ai_num .byte 65538 (upd fk l.length 1)), h1.2)) rfl ?_
          rw [hret]
          exact qg_ret5 rfl rfl rfl
        · obtain ⟨o1, o2, o3⟩ := ho j hj
          unfold upd
          rw [if_neg (by omega)]
          exact ⟨o1, o2, o3⟩
        · unfold upd
          rw [if_pos rfl]
          unfold zcode
          rw [if_pos h82]
          rfl
    · -- another token
      have hc2 : zs0 (ztok T i).1 ≠ 2 := fun q => h2 (z3.mp q)
      have hc6 : zs0 (ztok T i).1 ≠ 6 := fun q => h6 (z2.mp q)
      have hzz : zs0 (ztok T i).1 = zcode (ztok T i).1 := z4 (by omega)
      have hbig := zlen_tok hi h6
      obtain ⟨h1, f1, fk, fz, g1, x1, kp1, h18, h19, h20, ho, a1, a2, a3⟩ := m_token (L := L) (xs := xs) (d := d + 6) (a := i) (b := (ztok T i).2 - i) (c := zs0 (ztok T i).1) hx hr (by omega) hbig z1
      refine ⟨h1, m_rt (d := d + 5) hx hi _ (fun sz c x5 hz => ?_), x1, kp1, mtr_add h18 h19 h20 ho a1 (by rw [a2, hzz]) (fun _ => a3)⟩
      obtain ⟨q1, q2⟩ := hz
      obtain ⟨q3, -⟩ := q2 (by rw [q1]; exact hc6)
      subst q3
      subst q1
      have hret : nI i + nI ((ztok T i).2 - i) = nI (ztok T i).2 := by
        rw [nI_add]
        exact congrArg nI (by omega)
      refine qg_pls (n := 2) (k' := 151) (lo' := [some (.ref 14), some (.int (nI i)), some (.int (zraw T i)), some (.int (nI ((ztok T i).2 - i))), some (.int (nI (zs0 (ztok T i).1))), x5]) (S' := [.int 6, .int (nI (zs0 (ztok T i).1))]) (h' := h) rfl ?_
      refine qg_icmp true rfl (qc_neT (b := 6) hc6 (by omega) (by decide)) rfl ?_
      refine qg_pls (n := 4) (k' := 163) (lo' := [some (.ref 14), some (.int (nI i)), some (.int (zraw T i)), some (.int (nI ((ztok T i).2 - i))), some (.int (nI (zs0 (ztok T i).1))), x5]) (S' := [.int (nI (zs0 (ztok T i).1)), .int (nI ((ztok T i).2 - i)), .int (nI i), .ref 14]) (h' := h) rfl ?_
      refine qg_call (v := none) (h' := h1) (as := [.ref 14, .int (nI i), .int (nI ((ztok T i).2 - i)), .int (nI (zs0 (ztok T i).1))]) rfl rfl rfl rfl rfl rfl rfl (ai_rcv1 rfl rfl hx.1) (g1) ?_
      show qg L xs _ qm_122 164 [some (.ref 14), some (.int (nI i)), some (.int (zraw T i)), some (.int (nI ((ztok T i).2 - i))), some (.int (nI (zs0 (ztok T i).1))), x5] [] h1 _
      refine qg_pls (n := 2) (k' := 166) (lo' := [some (.ref 14), some (.int (nI i)), some (.int (zraw T i)), some (.int (nI ((ztok T i).2 - i))), some (.int (nI (zs0 (ztok T i).1))), x5]) (S' := [.int 2, .int (nI (zs0 (ztok T i).1))]) (h' := h1) rfl ?_
      refine qg_icmp true rfl (qc_neT (b := 2) hc2 (by omega) (by decide)) rfl ?_
      refine qg_pls (n := 3) (k' := 185) (lo' := [some (.ref 14), some (.int (nI i)), some (.int (zraw T i)), some (.int (nI ((ztok T i).2 - i))), some (.int (nI (zs0 (ztok T i).1))), x5]) (S' := [.int ((nI i) + (nI ((ztok T i).2 - i)))]) (h' := h1) rfl ?_
      rw [hret]
      exact qg_ret5 rfl rfl rfl
/-- QueryReaderModel.readTokens: the loop -/
theorem m_rtl : ∀ (m j : Nat) (l : List (Nat × Nat × Nat)) (h : ai_H), T.length - j < m → j ≤ T.length → l.length ≤ j → mtx h A l.length T → mtr h l → mwd h → ∃ h' n', qg L xs (d + 8) qm_119 7 [some (.ref 14), some (.int (nI (zskip T (T.length - j) 0 j)))] [] h (.inl none, h') ∧ mtx h' A n' T ∧ mkp h h' ∧ mtr h' (l ++ ztoks T m j) := by
  intro m
  induction m with
  | zero => intro j l h hm; omega
  | succ m ih =>
    intro j l h hm hj hlj hx hr hw
    have hlen := hx.2.2.1
    have hA := hx.2.1
    have hsk := zskip_le (t := T) (T.length - j) 0 j
    simp only [ztoks]
    generalize zskip T (T.length - j) 0 j = i at hsk ⊢
    -- the end
    have fin : ∀ (l2 : List (Nat × Nat × Nat)) (h2 : ai_H) (i2 : Nat), l2.length < 65538 → T.length ≤ i2 → i2 < 100000 → mtx h2 A l2.length T → mtr h2 l2 → ∃ h', qg L xs (d + 8) qm_119 7 [some (.ref 14), some (.int (nI i2))] [] h2 (.inl none, h') ∧ mtx h' A (l2.length + 1) T ∧ mkp h2 h' ∧ mtr h' l2 ∧ mtr h' (l2 ++ [(102, T.length, T.length)]) := by
      intro l2 h2 i2 hl2 hi2 hi3 x2 r2
      obtain ⟨h3, f1, fk, fz, g1, x3, kp3, h18, h19, h20, ho, a1, a2, a3⟩ := m_token (L := L) (xs := xs) (d := d + 7) (a := T.length) (b := 0) (c := 7) x2 r2 hl2 (by decide) (by decide)
      refine ⟨h3, ?_, x3, kp3, ⟨f1, fk, fz, h18, h19, h20, ho⟩, mtr_add h18 h19 h20 ho a1 (by rw [a2]; rfl) (fun q => by omega)⟩
      rw [← hA] at g1
      refine qg_pls (n := 2) (k' := 9) (lo' := [some (.ref 14), some (.int (nI i2))]) (S' := [.ref 14, .int (nI i2)]) (h' := h2) rfl ?_
      refine qg_getf (v := .int (nI A.2.2.1)) rfl x2.1 rfl rfl rfl ?_
      refine qg_icmp true rfl (qc_geT (by omega) (by omega)) rfl ?_
      refine qg_pls (n := 2) (k' := 27) (lo' := [some (.ref 14), some (.int (nI i2))]) (S' := [.ref 14, .ref 14]) (h' := h2) rfl ?_
      refine qg_getf (v := .int (nI A.2.2.1)) rfl x2.1 rfl rfl rfl ?_
      refine qg_pls (n := 2) (k' := 30) (lo' := [some (.ref 14), some (.int (nI i2))]) (S' := [.int 7, .int 0, .int (nI A.2.2.1), .ref 14]) (h' := h2) rfl ?_
      refine qg_call (v := none) (h' := h3) (as := [.ref 14, .int (nI A.2.2.1), .int 0, .int 7]) rfl rfl rfl rfl rfl rfl rfl (ai_rcv1 rfl rfl x2.1) (g1) ?_
      show qg L xs _ qm_119 31 [some (.ref 14), some (.int (nI i2))] [] h3 _
      exact qg_ret7 rfl
    by_cases hi : i < T.length
    · obtain ⟨t1, t2, t3, t4⟩ := ztok_le (t := T) (i := i) (by omega)
      obtain ⟨w1, -⟩ := ztok_w hi
      obtain ⟨h1, g1, x1, kp1, r1⟩ := m_readToken (L := L) (xs := xs) (d := d) hx hr hw (by omega) hi
      have road : ∀ (x : Int32) o, x = (if (ztok T i).1 = 103 then 65537 else nI (ztok T i).2) → qg L xs (d + 8) qm_119 17 [some (.ref 14), some (.int x)] [.int 65536, .int x] h1 o → qg L xs (d + 8) qm_119 7 [some (.ref 14), some (.int (nI i))] [] h o := by
        intro x o hxv hg
        rw [← hxv] at g1
        refine qg_pls (n := 2) (k' := 9) (lo' := [some (.ref 14), some (.int (nI i))]) (S' := [.ref 14, .int (nI i)]) (h' := h) rfl ?_
        refine qg_getf (v := .int (nI A.2.2.1)) rfl hx.1 rfl rfl rfl ?_
        refine qg_icmp false rfl (qc_geF (by omega) (by omega)) rfl ?_
        refine qg_pls (n := 2) (k' := 13) (lo' := [some (.ref 14), some (.int (nI i))]) (S' := [.int (nI i), .ref 14]) (h' := h) rfl ?_
        refine qg_call (v := some (.int x)) (h' := h1) (as := [.ref 14, .int (nI i)]) rfl rfl rfl rfl rfl rfl rfl (ai_rcv1 rfl rfl hx.1) (g1) ?_
        show qg L xs _ qm_119 14 [some (.ref 14), some (.int (nI i))] [.int x] h1 _
        refine qg_pls (n := 3) (k' := 17) (lo' := [some (.ref 14), some (.int x)]) (S' := [.int 65536, .int x]) (h' := h1) rfl ?_
        exact hg
      have hll : (l ++ [((ztok T i).1, i, (ztok T i).2)]).length = l.length + 1 := by
        rw [List.length_append]; rfl
      by_cases h6 : (ztok T i).1 = 103
      · rw [if_pos (Or.inr h6)]
        rw [← hll] at x1
        obtain ⟨h2, g2, x2, kp2, r2, -⟩ := fin _ h1 65537 (by omega) (by omega) (by decide) x1 r1
        refine ⟨h2, _, road 65537 _ (by rw [if_pos h6]) ?_, x2, mkp_trans kp1 kp2, r2⟩
        refine qg_icmp false rfl (rfl) rfl ?_
        refine qg_pls (n := 4) (k' := 7) (lo' := [some (.ref 14), some (.int 65537)]) (S' := []) (h' := h1) rfl ?_
        exact g2
      · rw [if_neg (by omega)]
        have hz := t4 w1 h6
        have hsk2 := m_skip (L := L) (xs := xs) (d := d + 6) x1 t3
        rw [← hll] at x1
        obtain ⟨h2, n2, g2, x2, kp2, r2⟩ := ih (ztok T i).2 (l ++ [((ztok T i).1, i, (ztok T i).2)]) h1 (by omega) t3 (by omega) x1 r1 (mwd_kp hw kp1)
        rw [List.append_assoc] at r2
        refine ⟨h2, n2, road (nI (ztok T i).2) _ (by rw [if_neg h6]) ?_, x2, mkp_trans kp1 kp2, r2⟩
        refine qg_icmp true rfl (qc_leT (b := 65536) (by omega) (by decide)) rfl ?_
        refine qg_pls (n := 2) (k' := 22) (lo' := [some (.ref 14), some (.int (nI (ztok T i).2))]) (S' := [.int (nI (ztok T i).2), .ref 14]) (h' := h1) rfl ?_
        refine qg_call (v := some (.int (nI (zskip T (T.length - (ztok T i).2) 0 (ztok T i).2)))) (h' := h1) (as := [.ref 14, .int (nI (ztok T i).2)]) rfl rfl rfl rfl rfl rfl rfl (ai_rcv1 rfl rfl x1.1) (hsk2) ?_
        show qg L xs _ qm_119 23 [some (.ref 14), some (.int (nI (ztok T i).2))] [.int (nI (zskip T (T.length - (ztok T i).2) 0 (ztok T i).2))] h1 _
        refine qg_pls (n := 2) (k' := 7) (lo' := [some (.ref 14), some (.int (nI (zskip T (T.length - (ztok T i).2) 0 (ztok T i).2)))]) (S' := []) (h' := h1) rfl ?_
        exact g2
    · have e1 : i = T.length := by omega
      subst e1
      have ht : ztok T T.length = (102, T.length) := by
        unfold ztok
        rw [if_pos (zat_end (by omega))]
      rw [ht, if_pos (Or.inl rfl)]
      obtain ⟨h2, g2, x2, kp2, -, r2⟩ := fin l h T.length (by omega) (Nat.le_refl _) (by omega) hx hr
      exact ⟨h2, _, g2, x2, kp2, r2⟩
/-- QueryReaderModel.readTokens -/
theorem m_readTokens (hx : mtx h A cnt T) (hw : mwd h) (h18 : ∃ f, h.1[18]? = some (ai_num .int 65538 f)) (h19 : ∃ f, h.1[19]? = some (ai_num .byte 65538 f)) (h20 : ∃ f, h.1[20]? = some (ai_num .short 65538 f)) : ∃ h' n', qe L xs (d + 9) 119 [.ref 14] h (.inl none, h') ∧ mtx h' A n' T ∧ mkp h h' ∧ mtr h' (zen T).1 := by
  obtain ⟨f1, h18⟩ := h18
  obtain ⟨fk, h19⟩ := h19
  obtain ⟨fz, h20⟩ := h20
  have kp1 : mkp h (h.1.set 14 (mro A 0), h.2) := ⟨rfl, fun i i1 _ _ _ => List.getElem?_set_ne (fun q => i1 q.symm)⟩
  have x1 : mtx (h.1.set 14 (mro A 0), h.2) A 0 T := mtx_kp hx kp1 (q_set hx.1)
  have hsk := m_skip (L := L) (xs := xs) (d := d + 6) x1 (Nat.zero_le _)
  obtain ⟨h2, n2, g2, x2, kp2, r2⟩ := m_rtl (L := L) (xs := xs) (d := d) (T.length + 1) 0 [] _ (by omega) (Nat.zero_le _) (Nat.le_refl _) x1 ⟨f1, fk, fz, q_stay h18 (by decide), q_stay h19 (by decide), q_stay h20 (by decide), fun i hi => absurd hi (Nat.not_lt_zero _)⟩ (mwd_kp hw kp1)
  refine ⟨h2, n2, ?_, x2, mkp_trans kp1 kp2, r2⟩
  refine qe_of (M := qm_119) rfl rfl ?_
  show qg L xs _ qm_119 0 [some (.ref 14), none] [] h _
  refine qg_pls (n := 2) (k' := 2) (lo' := [some (.ref 14), none]) (S' := [.int 0, .ref 14]) (h' := h) rfl ?_
  refine qg_putf rfl hx.1 rfl rfl (Nat.le_of_ble_eq_true rfl) rfl ?_
  show qg L xs _ qm_119 3 [some (.ref 14), none] [] (h.1.set 14 (mro A 0), h.2) _
  refine qg_pls (n := 2) (k' := 5) (lo' := [some (.ref 14), none]) (S' := [.int 0, .ref 14]) (h' := (h.1.set 14 (mro A 0), h.2)) rfl ?_
  refine qg_call (v := some (.int (nI (zskip T (T.length - 0) 0 0)))) (h' := (h.1.set 14 (mro A 0), h.2)) (as := [.ref 14, .int 0]) rfl rfl rfl rfl rfl rfl rfl (ai_rcv1 rfl rfl x1.1) (hsk) ?_
  show qg L xs _ qm_119 6 [some (.ref 14), none] [.int (nI (zskip T (T.length - 0) 0 0))] (h.1.set 14 (mro A 0), h.2) _
  refine qg_pls (n := 1) (k' := 7) (lo' := [some (.ref 14), some (.int (nI (zskip T (T.length - 0) 0 0)))]) (S' := []) (h' := (h.1.set 14 (mro A 0), h.2)) rfl ?_
  exact g2
end MRE2
