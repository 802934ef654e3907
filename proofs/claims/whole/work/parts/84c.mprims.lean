/-! THE MODEL'S SMALL METHODS. (Printed by wip/whole/pp.py from wip/whole/src.) -/
section MPR
variable {L : Nat} {xs : Nat → Int32} {d : Nat} {h h' : ai_H} {e : zE} {Y : Nat → Option ai_C} {K : mK} {P : zK} {s s' : zS} {t : List Int32}
/-- the model's small letters -/
def zsmall (c : Int32) : Int32 := if ¬ c < 65 ∧ ¬ 90 < c then c + 32 else c
theorem m_small {c : Int32} : qe L xs (d + 1) 129 [.int c] h (.inl (some (.int (zsmall c))), h) := by
  refine qe_of (M := qm_129) rfl rfl ?_
  show qg L xs _ qm_129 0 [some (.int c)] [] h _
  refine qg_pls (n := 2) (k' := 2) (lo' := [some (.int c)]) (S' := [.int 65, .int c]) (h' := h) rfl ?_
  by_cases c1 : c < 65
  · skip
    refine qg_icmp true rfl (qb_ltT c1) rfl ?_
    refine qg_pls (n := 1) (k' := 11) (lo' := [some (.int c)]) (S' := [.int c]) (h' := h) rfl ?_
    rw [show (zsmall c) = c from by simp [zsmall, c1]]
    exact qg_ret5 rfl rfl rfl
  · skip
    refine qg_icmp false rfl (qb_ltF c1) rfl ?_
    refine qg_pls (n := 2) (k' := 5) (lo' := [some (.int c)]) (S' := [.int 90, .int c]) (h' := h) rfl ?_
    by_cases c2 : 90 < c
    · skip
      refine qg_icmp true rfl (qb_gtT c2) rfl ?_
      refine qg_pls (n := 1) (k' := 11) (lo' := [some (.int c)]) (S' := [.int c]) (h' := h) rfl ?_
      rw [show (zsmall c) = c from by simp [zsmall, c1, c2]]
      exact qg_ret5 rfl rfl rfl
    · skip
      refine qg_icmp false rfl (qb_gtF c2) rfl ?_
      refine qg_pls (n := 4) (k' := 11) (lo' := [some (.int c)]) (S' := [.int (c + 32)]) (h' := h) rfl ?_
      rw [show (zsmall c) = (c + 32) from by simp [zsmall, c1, c2]]
      exact qg_ret5 rfl rfl rfl
/-- a token that is a word or a mark, in great letters, is its sort's text -/
theorem zen_up {i : Nat} (hk : ztk (zen t) i < 99) : zup t (zfr (zen t) i) (zto (zen t) i) = zw (ztk (zen t) i) := by
  have hi : i < (zen t).1.length := by
    rcases Nat.lt_or_ge i (zen t).1.length with q | q
    · exact q
    · rw [(ztk_out (e := zen t) q).1] at hk; omega
  obtain ⟨-, a2, a3, -⟩ := zwf_at _ 0 i zen_wf hi
  have a3 : ztok t (zfr (zen t) i) = (ztk (zen t) i, zto (zen t) i) := a3
  have a2 : zfr (zen t) i ≤ t.length := a2
  have b3 := (ztok_le (t := t) a2).2.2.1
  rw [a3] at b3
  generalize zfr (zen t) i = f at a2 a3 b3 ⊢
  generalize zto (zen t) i = z at a3 b3 ⊢
  generalize ztk (zen t) i = k at a3 hk ⊢
  have b3 : z ≤ t.length := b3
  unfold ztok at a3
  by_cases h1 : zat t f = -1
  · rw [if_pos h1] at a3; cases a3; omega
  rw [if_neg h1] at a3
  have hlt : f < t.length := by
    rcases zat_nI t f with ⟨q, -⟩ | ⟨q, -⟩
    · exact absurd q h1
    · exact q
  by_cases h2 : zdig (zat t f)
  · rw [if_pos h2] at a3
    have e1 : k = if 18 < zrun t zdig (t.length - f) f - f then 103 else 100 := (Prod.mk.inj a3).1.symm
    split at e1 <;> omega
  rw [if_neg h2] at a3
  by_cases h3 : zofw (zat t f)
  · rw [if_pos h3] at a3
    obtain ⟨e1, e2⟩ := Prod.mk.inj a3
    split at e1
    · omega
    · rw [e2] at e1
      rcases zkey_lt (zup t f z) with q | q
      · rw [← e1]
        unfold zkey at q ⊢
        cases hf : (List.range 82).find? (fun k => decide (zw k = zup t f z)) with
        | none => rw [hf] at q; exact absurd q (by decide)
        | some m =>
          have h9 := List.find?_some hf
          simp only [decide_eq_true_eq] at h9
          show zup t f z = zw m
          exact h9.symm
      · omega
  rw [if_neg h3] at a3
  by_cases h4 : zat t f = 39
  · rw [if_pos h4] at a3
    have e1 := (Prod.mk.inj a3).1
    obtain ⟨a1, -⟩ := zstr_le (t := t) (t.length - (f + 1)) (f + 1) 0
    omega
  rw [if_neg h4] at a3
  have up1 : zup t f (f + 1) = [zgreat (zat t f)] := by
    have hl := zup_len (t := t) (f := f) (z := f + 1) (by omega) (by omega)
    have := zup_at (t := t) (f := f) (z := f + 1) (i := 0) (by omega) (by omega)
    rw [List.drop_zero] at this
    rw [this, Nat.add_zero]
    rw [List.drop_eq_nil_of_le (by omega)]
  by_cases h5 : ztwo (zat t f) (zat t (f + 1)) = 103
  · rw [if_pos h5] at a3
    obtain ⟨e1, e2⟩ := Prod.mk.inj a3
    rw [← e2, up1, ← e1]
    rw [← e1] at hk
    unfold zone at hk ⊢
    by_cases q : zat t f = 40
    · rw [if_pos q, q]; decide
    rw [if_neg q] at hk ⊢
    by_cases q : zat t f = 41
    · rw [if_pos q, q]; decide
    rw [if_neg q] at hk ⊢
    by_cases q : zat t f = 44
    · rw [if_pos q, q]; decide
    rw [if_neg q] at hk ⊢
    by_cases q : zat t f = 46
    · rw [if_pos q, q]; decide
    rw [if_neg q] at hk ⊢
    by_cases q : zat t f = 59
    · rw [if_pos q, q]; decide
    rw [if_neg q] at hk ⊢
    by_cases q : zat t f = 43
    · rw [if_pos q, q]; decide
    rw [if_neg q] at hk ⊢
    by_cases q : zat t f = 45
    · rw [if_pos q, q]; decide
    rw [if_neg q] at hk ⊢
    by_cases q : zat t f = 42
    · rw [if_pos q, q]; decide
    rw [if_neg q] at hk ⊢
    by_cases q : zat t f = 47
    · rw [if_pos q, q]; decide
    rw [if_neg q] at hk ⊢
    by_cases q : zat t f = 37
    · rw [if_pos q, q]; decide
    rw [if_neg q] at hk ⊢
    by_cases q : zat t f = 61
    · rw [if_pos q, q]; decide
    rw [if_neg q] at hk ⊢
    by_cases q : zat t f = 60
    · rw [if_pos q, q]; decide
    rw [if_neg q] at hk ⊢
    by_cases q : zat t f = 62
    · rw [if_pos q, q]; decide
    rw [if_neg q] at hk
    omega
  · rw [if_neg h5] at a3
    obtain ⟨e1, e2⟩ := Prod.mk.inj a3
    have h6 : f + 1 < t.length := by omega
    have up2 : zup t f (f + 2) = [zgreat (zat t f), zgreat (zat t (f + 1))] := by
      have hl := zup_len (t := t) (f := f) (z := f + 2) (by omega) (by omega)
      have u0 := zup_at (t := t) (f := f) (z := f + 2) (i := 0) (by omega) (by omega)
      have u1 := zup_at (t := t) (f := f) (z := f + 2) (i := 1) (by omega) (by omega)
      rw [List.drop_zero] at u0
      rw [u0, Nat.add_zero, Nat.zero_add, u1, List.drop_eq_nil_of_le (by omega)]
    rw [← e2, up2, ← e1]
    rw [← e1] at hk
    unfold ztwo at hk ⊢
    by_cases q : zat t f = 124 ∧ zat t (f + 1) = 124
    · rw [if_pos q, q.1, q.2]; decide
    rw [if_neg q] at hk ⊢
    by_cases q : zat t f = 60 ∧ zat t (f + 1) = 62
    · rw [if_pos q, q.1, q.2]; decide
    rw [if_neg q] at hk ⊢
    by_cases q : zat t f = 60 ∧ zat t (f + 1) = 61
    · rw [if_pos q, q.1, q.2]; decide
    rw [if_neg q] at hk ⊢
    by_cases q : zat t f = 62 ∧ zat t (f + 1) = 61
    · rw [if_pos q, q.1, q.2]; decide
    rw [if_neg q] at hk
    omega
theorem zen_lw {i : Nat} (hk : ztk (zen t) i < 99) : zto (zen t) i - zfr (zen t) i = (zw (ztk (zen t) i)).length := by
  have h := zen_up hk
  have f := zen_ft (t := t) i
  rw [← h, zup_len (t := t) f.1 f.2]
/-- letters of words and marks: below 128, none small -/
theorem zcap0 : (List.range 99).all (fun k => (zw k).all (fun v => decide (v = nI v.toNatClampNeg ∧ v.toNatClampNeg < 128 ∧ (v.toNatClampNeg < 97 ∨ 122 < v.toNatClampNeg)))) = true := by decide +kernel
theorem zcap {k j : Nat} (hk : k < 99) (hj : j < (zw k).length) : ∃ a, a < 128 ∧ (a < 97 ∨ 122 < a) ∧ (zw k).getD j 0 = nI a := by
  have h := List.all_eq_true.mp (List.all_eq_true.mp zcap0 k (List.mem_range.mpr hk)) ((zw k).getD j 0) (by
    rw [List.getD_eq_getElem?_getD, List.getElem?_eq_getElem hj]
    exact List.getElem_mem hj)
  have := of_decide_eq_true h
  exact ⟨_, this.2.1, this.2.2, this.1⟩
set_option maxRecDepth 100000 in
theorem zinj0 : (List.range 99).all (fun k => (List.range 99).all (fun m => decide (k = m ∨ ¬ zw k = zw m))) = true := by decide +kernel
theorem zw_inj {k m : Nat} (hk : k < 99) (hm : m < 99) : zw k = zw m ↔ k = m := by
  constructor
  · intro h
    rcases of_decide_eq_true (List.all_eq_true.mp (List.all_eq_true.mp zinj0 k (List.mem_range.mpr hk)) m (List.mem_range.mpr hm)) with q | q
    · exact q
    · exact absurd h q
  · intro h; rw [h]
theorem zsmall0 : (List.range 256).all (fun m => decide (zsmall (nI m) = nI (if 65 ≤ m ∧ m ≤ 90 then m + 32 else m) ∧ (128 ≤ m ∨ zb (nI m) = nI m))) = true := by decide +kernel
theorem zsmall_n {m : Nat} (hm : m < 256) : zsmall (nI m) = nI (if 65 ≤ m ∧ m ≤ 90 then m + 32 else m) ∧ (128 ≤ m ∨ zb (nI m) = nI m) := of_decide_eq_true (List.all_eq_true.mp zsmall0 m (List.mem_range.mpr hm))
/-- small letters are alike where great ones are -/
theorem zsmall_eq {b : Int32} {a c : Nat} (hb : zb b = b) (ha : a < 128) (ha2 : a < 97 ∨ 122 < a) (hc : c < 128) (hc2 : c < 97 ∨ 122 < c) (hg : zgreat (b &&& 255) = nI a) : zsmall b = zsmall (nI c) ↔ a = c := by
  obtain ⟨m, hm, em⟩ := z255a b
  rw [em, of_decide_eq_true (List.all_eq_true.mp zgr0 m (List.mem_range.mpr hm))] at hg
  have g1 : (if 97 ≤ m ∧ m ≤ 122 then m - 32 else m) = a := (nI_eq (by split <;> omega) (by omega)).mp hg
  have m128 : m < 128 := by
    split at g1 <;> omega
  have eb : b = nI m := by
    rcases (zsmall_n hm).2 with q | q
    · omega
    · rw [← zb_and hb, em, q]
  rw [eb, (zsmall_n hm).1, (zsmall_n (by omega)).1, nI_eq (by split <;> omega) (by split <;> omega)]
  split at g1 <;> split <;> split <;> omega
/-- QueryReaderModel.spells(i, the text of K) -/
theorem m_spells (ht : mtk e Y) (hp : ∀ i c, Y i = some c → h.1[i]? = some c) {fs : List Value} (hob : h.1[14]? = some (ai_obj 5 fs)) (h4 : fs[4]? = some (.ref 17)) (h7 : fs[7]? = some (.ref 18)) (h9 : fs[9]? = some (.ref 20)) {i k : Nat} (hk : k < 99) (hi : ztk e i < 99) : qe L xs (d + 6) 128 [.ref 14, .int (nI i), .retAddr (qr_en.getD k (0, 0)).1] h (.inl (some (.int (if ztk e i = k then 1 else 0))), h) := by
  obtain ⟨gw, ft, f1, fk, fz, t1, t2, t3, t4, t5, t6, t7, t8, t9, t10, t11⟩ := ht
  obtain ⟨l, tt⟩ := e
  have t11 : (l, tt) = zen tt := t11
  rw [t11] at hi t9 t4 t5 t10 ⊢
  clear t11
  have t5 : ∀ j, j < tt.length → ft j = tt.getD j 0 := t5
  have t4 : tt.length ≤ 65536 := t4
  have t10 : ∀ x ∈ tt, zb x = x := t10
  have hen := q_enr (show k < 104 by omega)
  have hlt : i < (zen tt).1.length := by
    rcases Nat.lt_or_ge i (zen tt).1.length with q | q
    · exact q
    · rw [(ztk_out (e := zen tt) q).1] at hi; omega
  obtain ⟨w1, -, w3⟩ := t9 i hlt
  have w3 := w3 (by omega)
  rw [zen_lw hi] at w3
  have hup := zen_up hi
  have hft := zen_ft (t := tt) i
  have hft2 : zto (zen tt) i ≤ tt.length := hft.2
  have hnl := zen_len (t := tt)
  generalize hc : (qr_en.getD k (0, 0)).1 = c at hen ⊢
  have hzw : zw k = zt c := by rw [← hc]; rfl
  have hcl := zt_len hen.1 hen.2.1
  have hul : (zw (ztk (zen tt) i)).length = zto (zen tt) i - zfr (zen tt) i := (zen_lw hi).symm
  have hul2 : (zw (ztk (zen tt) i)).length < 40 := by
    have := q_enr (show ztk (zen tt) i < 104 by omega)
    exact zt_len this.1 this.2.1
  rw [show (if ztk (zen tt) i = k then (1 : Int32) else 0) = if zw (ztk (zen tt) i) = zt c then 1 else 0 from by
    by_cases q : ztk (zen tt) i = k
    · rw [if_pos q, if_pos (by rw [q, hzw])]
    · rw [if_neg q, if_neg (fun q2 => q ((zw_inj hi hk).mp (q2.trans hzw.symm)))]]
  have hcap : ∀ j, j < (zt c).length → ∃ a, a < 128 ∧ (a < 97 ∨ 122 < a) ∧ (zt c).getD j 0 = nI a := by
    intro j hj
    rw [← hzw] at hj ⊢
    exact zcap hk hj
  have hob2 : ai_look (qr_Z L xs) h.1 (.retAddr c) = some (ai_obj 7 [.retAddr (c + 1000), .int 0]) := qZ_str hen.1 hen.2.1
  have loop : ∀ (n j : Nat), (zt c).length - j = n → j ≤ (zt c).length → (zw (ztk (zen tt) i)).length = (zt c).length → qg L xs (d + 5) qm_128 13 [some (.ref 14), some (.int (nI i)), some (.retAddr c), some (.int 1), some (.int (nI j))] [] h (.inl (some (.int (if (zw (ztk (zen tt) i)).drop j = (zt c).drop j then 1 else 0))), h) := by
    intro n
    induction n with
    | zero =>
      intro j hn hj hll
      rw [List.drop_eq_nil_of_le (show (zt c).length ≤ j by omega), List.drop_eq_nil_of_le (by omega), if_pos rfl]
      refine qg_pls (n := 2) (k' := 15) (lo' := [some (.ref 14), some (.int (nI i)), some (.retAddr c), some (.int 1), some (.int (nI j))]) (S' := [.retAddr c, .int (nI j)]) (h' := h) rfl ?_
      refine qg_call (v := some (.int (nI (zt c).length))) (h' := h) (as := [.retAddr c]) rfl rfl rfl rfl rfl rfl rfl (ai_rcv1 rfl rfl hob2) (qe_up (by omega) (q_slen (d := d) hen.1 hen.2.1)) ?_
      show qg L xs _ qm_128 16 [some (.ref 14), some (.int (nI i)), some (.retAddr c), some (.int 1), some (.int (nI j))] [.int (nI (zt c).length), .int (nI j)] h _
      refine qg_icmp true rfl (qc_geT (by omega) (by omega)) rfl ?_
      refine qg_pls (n := 1) (k' := 41) (lo' := [some (.ref 14), some (.int (nI i)), some (.retAddr c), some (.int 1), some (.int (nI j))]) (S' := [.int 1]) (h' := h) rfl ?_
      exact qg_ret5 rfl rfl rfl
    | succ n ih =>
      intro j hn hj hll
      obtain ⟨a2, q1, q2, q3⟩ := hcap j (by omega)
      obtain ⟨a1, p1, p2, p3⟩ := zcap hi (show j < (zw (ztk (zen tt) i)).length by omega)
      have hb : zb (tt.getD (zfr (zen tt) i + j) 0) = tt.getD (zfr (zen tt) i + j) 0 := t10 _ (by
        rw [List.getD_eq_getElem?_getD, List.getElem?_eq_getElem (by omega)]
        exact List.getElem_mem (by omega))
      have hgr : zgreat (tt.getD (zfr (zen tt) i + j) 0 &&& 255) = nI a1 := by
        have u0 := zup_at (t := tt) (f := zfr (zen tt) i) (z := zto (zen tt) i) (i := j) hft2 (by omega)
        rw [hup, drop_cons (x := 0) (show j < (zw (ztk (zen tt) i)).length by omega)] at u0
        rw [← p3, (List.cons.inj u0).1, zat_lt (by omega)]
      have key := zsmall_eq hb p1 p2 q1 q2 hgr
      rw [drop_cons (x := 0) (show j < (zw (ztk (zen tt) i)).length by omega), drop_cons (x := 0) (show j < (zt c).length by omega)]
      have road : ∀ o, qg L xs (d + 5) qm_128 33 [some (.ref 14), some (.int (nI i)), some (.retAddr c), some (.int 1), some (.int (nI j))] [.int (zsmall (nI a2)), .int (zsmall (tt.getD (zfr (zen tt) i + j) 0))] h o → qg L xs (d + 5) qm_128 13 [some (.ref 14), some (.int (nI i)), some (.retAddr c), some (.int 1), some (.int (nI j))] [] h o := by
        intro o hg
        refine qg_pls (n := 2) (k' := 15) (lo' := [some (.ref 14), some (.int (nI i)), some (.retAddr c), some (.int 1), some (.int (nI j))]) (S' := [.retAddr c, .int (nI j)]) (h' := h) rfl ?_
        refine qg_call (v := some (.int (nI (zt c).length))) (h' := h) (as := [.retAddr c]) rfl rfl rfl rfl rfl rfl rfl (ai_rcv1 rfl rfl hob2) (qe_up (by omega) (q_slen (d := d) hen.1 hen.2.1)) ?_
        show qg L xs _ qm_128 16 [some (.ref 14), some (.int (nI i)), some (.retAddr c), some (.int 1), some (.int (nI j))] [.int (nI (zt c).length), .int (nI j)] h _
        refine qg_icmp false rfl (qc_geF (by omega) (by omega)) rfl ?_
        refine qg_pls (n := 1) (k' := 18) (lo' := [some (.ref 14), some (.int (nI i)), some (.retAddr c), some (.int 1), some (.int (nI j))]) (S' := [.int 1]) (h' := h) rfl ?_
        refine qg_if false rfl (rfl) rfl ?_
        refine qg_pls (n := 1) (k' := 20) (lo' := [some (.ref 14), some (.int (nI i)), some (.retAddr c), some (.int 1), some (.int (nI j))]) (S' := [.ref 14]) (h' := h) rfl ?_
        refine qg_getf (v := .ref 17) rfl hob rfl rfl h4 ?_
        refine qg_pls (n := 1) (k' := 22) (lo' := [some (.ref 14), some (.int (nI i)), some (.retAddr c), some (.int 1), some (.int (nI j))]) (S' := [.ref 14, .ref 17]) (h' := h) rfl ?_
        refine qg_getf (v := .ref 18) rfl hob rfl rfl h7 ?_
        refine qg_pls (n := 1) (k' := 24) (lo' := [some (.ref 14), some (.int (nI i)), some (.retAddr c), some (.int 1), some (.int (nI j))]) (S' := [.int (nI i), .ref 18, .ref 17]) (h' := h) rfl ?_
        refine qg_ald rfl (fun _ _ _ => rfl) (hp _ _ t6) (by omega) (by decide) ?_
        rw [w1]
        refine qg_pls (n := 2) (k' := 27) (lo' := [some (.ref 14), some (.int (nI i)), some (.retAddr c), some (.int 1), some (.int (nI j))]) (S' := [.int ((nI (zfr (zen tt) i)) + (nI j)), .ref 17]) (h' := h) rfl ?_
        rw [show nI (zfr (zen tt) i) + nI j = nI (zfr (zen tt) i + j) from nI_add _ j]
        refine qg_ald rfl (fun _ _ _ => rfl) (hp _ _ t3) (by omega) (by decide) ?_
        rw [t5 _ (by omega)]
        refine qg_call (v := some (.int (zsmall (tt.getD (zfr (zen tt) i + j) 0)))) (h' := h) (as := [.int (tt.getD (zfr (zen tt) i + j) 0)]) rfl rfl rfl rfl rfl rfl rfl rfl (qe_up (by omega) (m_small (d := d))) ?_
        show qg L xs _ qm_128 29 [some (.ref 14), some (.int (nI i)), some (.retAddr c), some (.int 1), some (.int (nI j))] [.int (zsmall (tt.getD (zfr (zen tt) i + j) 0))] h _
        refine qg_pls (n := 2) (k' := 31) (lo' := [some (.ref 14), some (.int (nI i)), some (.retAddr c), some (.int 1), some (.int (nI j))]) (S' := [.int (nI j), .retAddr c, .int (zsmall (tt.getD (zfr (zen tt) i + j) 0))]) (h' := h) rfl ?_
        refine qg_call (v := some (.int ((zt c).getD j 0))) (h' := h) (as := [.retAddr c, .int (nI j)]) rfl rfl rfl rfl rfl rfl rfl (ai_rcv1 rfl rfl hob2) (qe_up (by omega) (q_char (d := d) hen.1 hen.2.1 (by omega))) ?_
        show qg L xs _ qm_128 32 [some (.ref 14), some (.int (nI i)), some (.retAddr c), some (.int 1), some (.int (nI j))] [.int ((zt c).getD j 0), .int (zsmall (tt.getD (zfr (zen tt) i + j) 0))] h _
        rw [q3]
        refine qg_call (v := some (.int (zsmall (nI a2)))) (h' := h) (as := [.int (nI a2)]) rfl rfl rfl rfl rfl rfl rfl rfl (qe_up (by omega) (m_small (d := d))) ?_
        show qg L xs _ qm_128 33 [some (.ref 14), some (.int (nI i)), some (.retAddr c), some (.int 1), some (.int (nI j))] [.int (zsmall (nI a2)), .int (zsmall (tt.getD (zfr (zen tt) i + j) 0))] h _
        exact hg
      by_cases heq : a1 = a2
      · have hd : ((zw (ztk (zen tt) i)).getD j 0 :: (zw (ztk (zen tt) i)).drop (j + 1) = (zt c).getD j 0 :: (zt c).drop (j + 1)) ↔ ((zw (ztk (zen tt) i)).drop (j + 1) = (zt c).drop (j + 1)) := by
          rw [p3, q3, heq]
          exact ⟨fun q => (List.cons.inj q).2, fun q => by rw [q]⟩
        rw [show (if (zw (ztk (zen tt) i)).getD j 0 :: (zw (ztk (zen tt) i)).drop (j + 1) = (zt c).getD j 0 :: (zt c).drop (j + 1) then (1 : Int32) else 0) = if (zw (ztk (zen tt) i)).drop (j + 1) = (zt c).drop (j + 1) then 1 else 0 from by
          by_cases q : (zw (ztk (zen tt) i)).drop (j + 1) = (zt c).drop (j + 1)
          · rw [if_pos q, if_pos (hd.mpr q)]
          · rw [if_neg q, if_neg (fun q2 => q (hd.mp q2))]]
        refine road _ ?_
        refine qg_icmp false rfl (qb_neF (key.mpr heq)) rfl ?_
        refine qg_pls (n := 5) (k' := 13) (lo' := [some (.ref 14), some (.int (nI i)), some (.retAddr c), some (.int 1), some (.int ((nI j) + 1))]) (S' := []) (h' := h) rfl ?_
        rw [nI_1]
        exact ih (j + 1) (by omega) (by omega) hll
      · rw [if_neg (fun q => heq (by
          have := (List.cons.inj q).1
          rw [p3, q3] at this
          exact (nI_eq (by omega) (by omega)).mp this))]
        refine road _ ?_
        refine qg_icmp true rfl (qb_neT (fun q => heq (key.mp q))) rfl ?_
        refine qg_pls (n := 4) (k' := 13) (lo' := [some (.ref 14), some (.int (nI i)), some (.retAddr c), some (.int 0), some (.int ((nI j) + 1))]) (S' := []) (h' := h) rfl ?_
        rw [nI_1]
        refine qg_pls (n := 2) (k' := 15) (lo' := [some (.ref 14), some (.int (nI i)), some (.retAddr c), some (.int 0), some (.int (nI (j + 1)))]) (S' := [.retAddr c, .int (nI (j + 1))]) (h' := h) rfl ?_
        refine qg_call (v := some (.int (nI (zt c).length))) (h' := h) (as := [.retAddr c]) rfl rfl rfl rfl rfl rfl rfl (ai_rcv1 rfl rfl hob2) (qe_up (by omega) (q_slen (d := d) hen.1 hen.2.1)) ?_
        show qg L xs _ qm_128 16 [some (.ref 14), some (.int (nI i)), some (.retAddr c), some (.int 0), some (.int (nI (j + 1)))] [.int (nI (zt c).length), .int (nI (j + 1))] h _
        by_cases hl2 : j + 1 < (zt c).length
        · skip
          refine qg_icmp false rfl (qc_geF hl2 (by omega)) rfl ?_
          refine qg_pls (n := 1) (k' := 18) (lo' := [some (.ref 14), some (.int (nI i)), some (.retAddr c), some (.int 0), some (.int (nI (j + 1)))]) (S' := [.int 0]) (h' := h) rfl ?_
          refine qg_if true rfl (rfl) rfl ?_
          refine qg_pls (n := 1) (k' := 41) (lo' := [some (.ref 14), some (.int (nI i)), some (.retAddr c), some (.int 0), some (.int (nI (j + 1)))]) (S' := [.int 0]) (h' := h) rfl ?_
          exact qg_ret5 rfl rfl rfl
        · skip
          refine qg_icmp true rfl (qc_geT (by omega) (by omega)) rfl ?_
          refine qg_pls (n := 1) (k' := 41) (lo' := [some (.ref 14), some (.int (nI i)), some (.retAddr c), some (.int 0), some (.int (nI (j + 1)))]) (S' := [.int 0]) (h' := h) rfl ?_
          exact qg_ret5 rfl rfl rfl
  refine qe_of (M := qm_128) rfl rfl ?_
  show qg L xs _ qm_128 0 [some (.ref 14), some (.int (nI i)), some (.retAddr c), none, none] [] h _
  refine qg_pls (n := 1) (k' := 1) (lo' := [some (.ref 14), some (.int (nI i)), some (.retAddr c), none, none]) (S' := [.ref 14]) (h' := h) rfl ?_
  refine qg_getf (v := .ref 20) rfl hob rfl rfl h9 ?_
  refine qg_pls (n := 1) (k' := 3) (lo' := [some (.ref 14), some (.int (nI i)), some (.retAddr c), none, none]) (S' := [.int (nI i), .ref 20]) (h' := h) rfl ?_
  refine qg_ald rfl (fun _ _ _ => rfl) (hp _ _ t8) (by omega) (by decide) ?_
  rw [w3]
  refine qg_pls (n := 1) (k' := 5) (lo' := [some (.ref 14), some (.int (nI i)), some (.retAddr c), none, none]) (S' := [.retAddr c, .int (nI (zw (ztk (zen tt) i)).length)]) (h' := h) rfl ?_
  refine qg_call (v := some (.int (nI (zt c).length))) (h' := h) (as := [.retAddr c]) rfl rfl rfl rfl rfl rfl rfl (ai_rcv1 rfl rfl hob2) (qe_up (by omega) (q_slen (d := d) hen.1 hen.2.1)) ?_
  show qg L xs _ qm_128 6 [some (.ref 14), some (.int (nI i)), some (.retAddr c), none, none] [.int (nI (zt c).length), .int (nI (zw (ztk (zen tt) i)).length)] h _
  by_cases hll : (zw (ztk (zen tt) i)).length = (zt c).length
  · skip
    refine qg_icmp false rfl (qc_neF hll) rfl ?_
    refine qg_pls (n := 5) (k' := 13) (lo' := [some (.ref 14), some (.int (nI i)), some (.retAddr c), some (.int 1), some (.int 0)]) (S' := []) (h' := h) rfl ?_
    exact loop _ 0 rfl (Nat.zero_le _) hll
  · rw [if_neg (fun q => hll (by rw [q]))]
    refine qg_icmp true rfl (qc_neT hll (by omega) (by omega)) rfl ?_
    refine qg_pls (n := 6) (k' := 15) (lo' := [some (.ref 14), some (.int (nI i)), some (.retAddr c), some (.int 0), some (.int 0)]) (S' := [.retAddr c, .int 0]) (h' := h) rfl ?_
    refine qg_call (v := some (.int (nI (zt c).length))) (h' := h) (as := [.retAddr c]) rfl rfl rfl rfl rfl rfl rfl (ai_rcv1 rfl rfl hob2) (qe_up (by omega) (q_slen (d := d) hen.1 hen.2.1)) ?_
    show qg L xs _ qm_128 16 [some (.ref 14), some (.int (nI i)), some (.retAddr c), some (.int 0), some (.int 0)] [.int (nI (zt c).length), .int 0] h _
    by_cases hl2 : 0 < (zt c).length
    · skip
      refine qg_icmp false rfl (qc_geF (a := 0) hl2 (by omega)) rfl ?_
      refine qg_pls (n := 1) (k' := 18) (lo' := [some (.ref 14), some (.int (nI i)), some (.retAddr c), some (.int 0), some (.int 0)]) (S' := [.int 0]) (h' := h) rfl ?_
      refine qg_if true rfl (rfl) rfl ?_
      refine qg_pls (n := 1) (k' := 41) (lo' := [some (.ref 14), some (.int (nI i)), some (.retAddr c), some (.int 0), some (.int 0)]) (S' := [.int 0]) (h' := h) rfl ?_
      exact qg_ret5 rfl rfl rfl
    · skip
      refine qg_icmp true rfl (qc_geT (a := 0) (by omega) (by decide)) rfl ?_
      refine qg_pls (n := 1) (k' := 41) (lo' := [some (.ref 14), some (.int (nI i)), some (.retAddr c), some (.int 0), some (.int 0)]) (S' := [.int 0]) (h' := h) rfl ?_
      exact qg_ret5 rfl rfl rfl
end MPR
