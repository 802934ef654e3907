/-! THE MODEL READS ITS TEXT: TOKENS. (Printed by wip/whole/pp.py from wip/whole/src.) -/
section MRB
variable {L : Nat} {xs : Nat → Int32} {d : Nat} {h h' : ai_H} {T : List Int32} {A : mA} {cnt : Nat}
theorem zcap2 : (List.range 256).all (fun m => decide (¬ zofw (nI m) ∨ ((zgreat (nI m)).toNatClampNeg < 128 ∧ ((zgreat (nI m)).toNatClampNeg < 97 ∨ 122 < (zgreat (nI m)).toNatClampNeg) ∧ zgreat (nI m) = nI (zgreat (nI m)).toNatClampNeg))) = true := by decide +kernel
theorem zcap3 {i : Nat} (hi : i < T.length) (hw : zofw (zat T i)) : ∃ a, a < 128 ∧ (a < 97 ∨ 122 < a) ∧ zgreat (zat T i) = nI a := by
  rcases zat_nI T i with ⟨-, q⟩ | ⟨-, m, hm, em⟩
  · exact absurd hi q
  rw [em] at hw ⊢
  rcases of_decide_eq_true (List.all_eq_true.mp zcap2 m (List.mem_range.mpr hm)) with q | ⟨q1, q2, q3⟩
  · exact absurd hw q
  · exact ⟨_, q1, q2, q3⟩
/-- QueryReaderModel.spells, of a word of the text -/
theorem m_spellsG (hob : h.1[14]? = some (mro A cnt)) {ft f1 fz : Nat → Int32} (hT : ∀ x ∈ T, zb x = x) (hl : T.length ≤ 65536) (h17 : h.1[17]? = some (ai_num .byte 65536 ft)) (hft : ∀ j, j < T.length → ft j = T.getD j 0) (h18 : h.1[18]? = some (ai_num .int 65538 f1)) (h20 : h.1[20]? = some (ai_num .short 65538 fz)) {ix f z k : Nat} (hix : ix < 65538) (w1 : f1 ix = nI f) (w3 : fz ix = nI (z - f)) (hfz : f ≤ z) (hz : z ≤ T.length) (h30 : z - f ≤ 30) (hwd : ∀ p, f ≤ p → p < z → zofw (zat T p)) (hk : k < 82) : qe L xs (d + 6) 128 [.ref 14, .int (nI ix), .retAddr (qr_en.getD k (0, 0)).1] h (.inl (some (.int (if zup T f z = zw k then 1 else 0))), h) := by
  have hen := q_enr (show k < 104 by omega)
  have hul : z - f = (zup T f z).length := (zup_len hfz hz).symm
  have hch : ∀ p, f ≤ p → p < z → ∃ a, a < 128 ∧ (a < 97 ∨ 122 < a) ∧ zgreat (zat T p) = nI a := fun p p1 p2 => zcap3 (by omega) (hwd p p1 p2)
  have hzw : zw k = zt (qr_en.getD k (0, 0)).1 := rfl
  rw [hzw]
  have hcap : ∀ j, j < (zt (qr_en.getD k (0, 0)).1).length → ∃ a, a < 128 ∧ (a < 97 ∨ 122 < a) ∧ (zt (qr_en.getD k (0, 0)).1).getD j 0 = nI a := fun j hj => zcap (by omega) hj
  clear hzw
  generalize (qr_en.getD k (0, 0)).1 = c at hen hcap ⊢
  have hcl := zt_len hen.1 hen.2.1
  have hob2 : ai_look (qr_Z L xs) h.1 (.retAddr c) = some (ai_obj 7 [.retAddr (c + 1000), .int 0]) := qZ_str hen.1 hen.2.1
  have loop : ∀ (n j : Nat), (zt c).length - j = n → j ≤ (zt c).length → (zup T f z).length = (zt c).length → qg L xs (d + 5) qm_128 13 [some (.ref 14), some (.int (nI ix)), some (.retAddr c), some (.int 1), some (.int (nI j))] [] h (.inl (some (.int (if (zup T f z).drop j = (zt c).drop j then 1 else 0))), h) := by
    intro n
    induction n with
    | zero =>
      intro j hn hj hll
      rw [List.drop_eq_nil_of_le (show (zt c).length ≤ j by omega), List.drop_eq_nil_of_le (by omega), if_pos rfl]
      refine qg_pls (n := 2) (k' := 15) (lo' := [some (.ref 14), some (.int (nI ix)), some (.retAddr c), some (.int 1), some (.int (nI j))]) (S' := [.retAddr c, .int (nI j)]) (h' := h) rfl ?_
      refine qg_call (v := some (.int (nI (zt c).length))) (h' := h) (as := [.retAddr c]) rfl rfl rfl rfl rfl rfl rfl (ai_rcv1 rfl rfl hob2) (qe_up (by omega) (q_slen (d := d) hen.1 hen.2.1)) ?_
      show qg L xs _ qm_128 16 [some (.ref 14), some (.int (nI ix)), some (.retAddr c), some (.int 1), some (.int (nI j))] [.int (nI (zt c).length), .int (nI j)] h _
      refine qg_icmp true rfl (qc_geT (by omega) (by omega)) rfl ?_
      refine qg_pls (n := 1) (k' := 41) (lo' := [some (.ref 14), some (.int (nI ix)), some (.retAddr c), some (.int 1), some (.int (nI j))]) (S' := [.int 1]) (h' := h) rfl ?_
      exact qg_ret5 rfl rfl rfl
    | succ n ih =>
      intro j hn hj hll
      obtain ⟨a2, q1, q2, q3⟩ := hcap j (by omega)
      obtain ⟨a1, p1, p2, hgr⟩ := hch (f + j) (by omega) (by omega)
      have hb : zb (T.getD (f + j) 0) = T.getD (f + j) 0 := hT _ (by
        rw [List.getD_eq_getElem?_getD, List.getElem?_eq_getElem (by omega)]
        exact List.getElem_mem (by omega))
      have p3 : (zup T f z).getD j 0 = nI a1 := by
        have u0 := zup_at (t := T) (f := f) (z := z) (i := j) hz (by omega)
        rw [drop_cons (x := 0) (show j < (zup T f z).length by omega)] at u0
        rw [← hgr, (List.cons.inj u0).1]
      rw [zat_lt (by omega)] at hgr
      have key := zsmall_eq hb p1 p2 q1 q2 hgr
      rw [drop_cons (x := 0) (show j < (zup T f z).length by omega), drop_cons (x := 0) (show j < (zt c).length by omega)]
      have road : ∀ o, qg L xs (d + 5) qm_128 33 [some (.ref 14), some (.int (nI ix)), some (.retAddr c), some (.int 1), some (.int (nI j))] [.int (zsmall (nI a2)), .int (zsmall (T.getD (f + j) 0))] h o → qg L xs (d + 5) qm_128 13 [some (.ref 14), some (.int (nI ix)), some (.retAddr c), some (.int 1), some (.int (nI j))] [] h o := by
        intro o hg
        refine qg_pls (n := 2) (k' := 15) (lo' := [some (.ref 14), some (.int (nI ix)), some (.retAddr c), some (.int 1), some (.int (nI j))]) (S' := [.retAddr c, .int (nI j)]) (h' := h) rfl ?_
        refine qg_call (v := some (.int (nI (zt c).length))) (h' := h) (as := [.retAddr c]) rfl rfl rfl rfl rfl rfl rfl (ai_rcv1 rfl rfl hob2) (qe_up (by omega) (q_slen (d := d) hen.1 hen.2.1)) ?_
        show qg L xs _ qm_128 16 [some (.ref 14), some (.int (nI ix)), some (.retAddr c), some (.int 1), some (.int (nI j))] [.int (nI (zt c).length), .int (nI j)] h _
        refine qg_icmp false rfl (qc_geF (by omega) (by omega)) rfl ?_
        refine qg_pls (n := 1) (k' := 18) (lo' := [some (.ref 14), some (.int (nI ix)), some (.retAddr c), some (.int 1), some (.int (nI j))]) (S' := [.int 1]) (h' := h) rfl ?_
        refine qg_if false rfl (rfl) rfl ?_
        refine qg_pls (n := 1) (k' := 20) (lo' := [some (.ref 14), some (.int (nI ix)), some (.retAddr c), some (.int 1), some (.int (nI j))]) (S' := [.ref 14]) (h' := h) rfl ?_
        refine qg_getf (v := .ref 17) rfl hob rfl rfl rfl ?_
        refine qg_pls (n := 1) (k' := 22) (lo' := [some (.ref 14), some (.int (nI ix)), some (.retAddr c), some (.int 1), some (.int (nI j))]) (S' := [.ref 14, .ref 17]) (h' := h) rfl ?_
        refine qg_getf (v := .ref 18) rfl hob rfl rfl rfl ?_
        refine qg_pls (n := 1) (k' := 24) (lo' := [some (.ref 14), some (.int (nI ix)), some (.retAddr c), some (.int 1), some (.int (nI j))]) (S' := [.int (nI ix), .ref 18, .ref 17]) (h' := h) rfl ?_
        refine qg_ald rfl (fun _ _ _ => rfl) h18 (hix) (by decide) ?_
        rw [w1]
        refine qg_pls (n := 2) (k' := 27) (lo' := [some (.ref 14), some (.int (nI ix)), some (.retAddr c), some (.int 1), some (.int (nI j))]) (S' := [.int ((nI f) + (nI j)), .ref 17]) (h' := h) rfl ?_
        rw [show nI f + nI j = nI (f + j) from nI_add _ j]
        refine qg_ald rfl (fun _ _ _ => rfl) h17 (by omega) (by decide) ?_
        rw [hft _ (by omega)]
        refine qg_call (v := some (.int (zsmall (T.getD (f + j) 0)))) (h' := h) (as := [.int (T.getD (f + j) 0)]) rfl rfl rfl rfl rfl rfl rfl rfl (qe_up (by omega) (m_small (d := d))) ?_
        show qg L xs _ qm_128 29 [some (.ref 14), some (.int (nI ix)), some (.retAddr c), some (.int 1), some (.int (nI j))] [.int (zsmall (T.getD (f + j) 0))] h _
        refine qg_pls (n := 2) (k' := 31) (lo' := [some (.ref 14), some (.int (nI ix)), some (.retAddr c), some (.int 1), some (.int (nI j))]) (S' := [.int (nI j), .retAddr c, .int (zsmall (T.getD (f + j) 0))]) (h' := h) rfl ?_
        refine qg_call (v := some (.int ((zt c).getD j 0))) (h' := h) (as := [.retAddr c, .int (nI j)]) rfl rfl rfl rfl rfl rfl rfl (ai_rcv1 rfl rfl hob2) (qe_up (by omega) (q_char (d := d) hen.1 hen.2.1 (by omega))) ?_
        show qg L xs _ qm_128 32 [some (.ref 14), some (.int (nI ix)), some (.retAddr c), some (.int 1), some (.int (nI j))] [.int ((zt c).getD j 0), .int (zsmall (T.getD (f + j) 0))] h _
        rw [q3]
        refine qg_call (v := some (.int (zsmall (nI a2)))) (h' := h) (as := [.int (nI a2)]) rfl rfl rfl rfl rfl rfl rfl rfl (qe_up (by omega) (m_small (d := d))) ?_
        show qg L xs _ qm_128 33 [some (.ref 14), some (.int (nI ix)), some (.retAddr c), some (.int 1), some (.int (nI j))] [.int (zsmall (nI a2)), .int (zsmall (T.getD (f + j) 0))] h _
        exact hg
      by_cases heq : a1 = a2
      · have hd : ((zup T f z).getD j 0 :: (zup T f z).drop (j + 1) = (zt c).getD j 0 :: (zt c).drop (j + 1)) ↔ ((zup T f z).drop (j + 1) = (zt c).drop (j + 1)) := by
          rw [p3, q3, heq]
          exact ⟨fun q => (List.cons.inj q).2, fun q => by rw [q]⟩
        rw [show (if (zup T f z).getD j 0 :: (zup T f z).drop (j + 1) = (zt c).getD j 0 :: (zt c).drop (j + 1) then (1 : Int32) else 0) = if (zup T f z).drop (j + 1) = (zt c).drop (j + 1) then 1 else 0 from by
          by_cases q : (zup T f z).drop (j + 1) = (zt c).drop (j + 1)
          · rw [if_pos q, if_pos (hd.mpr q)]
          · rw [if_neg q, if_neg (fun q2 => q (hd.mp q2))]]
        refine road _ ?_
        refine qg_icmp false rfl (qb_neF (key.mpr heq)) rfl ?_
        refine qg_pls (n := 5) (k' := 13) (lo' := [some (.ref 14), some (.int (nI ix)), some (.retAddr c), some (.int 1), some (.int ((nI j) + 1))]) (S' := []) (h' := h) rfl ?_
        rw [nI_1]
        exact ih (j + 1) (by omega) (by omega) hll
      · rw [if_neg (fun q => heq (by
          have := (List.cons.inj q).1
          rw [p3, q3] at this
          exact (nI_eq (by omega) (by omega)).mp this))]
        refine road _ ?_
        refine qg_icmp true rfl (qb_neT (fun q => heq (key.mp q))) rfl ?_
        refine qg_pls (n := 4) (k' := 13) (lo' := [some (.ref 14), some (.int (nI ix)), some (.retAddr c), some (.int 0), some (.int ((nI j) + 1))]) (S' := []) (h' := h) rfl ?_
        rw [nI_1]
        refine qg_pls (n := 2) (k' := 15) (lo' := [some (.ref 14), some (.int (nI ix)), some (.retAddr c), some (.int 0), some (.int (nI (j + 1)))]) (S' := [.retAddr c, .int (nI (j + 1))]) (h' := h) rfl ?_
        refine qg_call (v := some (.int (nI (zt c).length))) (h' := h) (as := [.retAddr c]) rfl rfl rfl rfl rfl rfl rfl (ai_rcv1 rfl rfl hob2) (qe_up (by omega) (q_slen (d := d) hen.1 hen.2.1)) ?_
        show qg L xs _ qm_128 16 [some (.ref 14), some (.int (nI ix)), some (.retAddr c), some (.int 0), some (.int (nI (j + 1)))] [.int (nI (zt c).length), .int (nI (j + 1))] h _
        by_cases hl2 : j + 1 < (zt c).length
        · skip
          refine qg_icmp false rfl (qc_geF hl2 (by omega)) rfl ?_
          refine qg_pls (n := 1) (k' := 18) (lo' := [some (.ref 14), some (.int (nI ix)), some (.retAddr c), some (.int 0), some (.int (nI (j + 1)))]) (S' := [.int 0]) (h' := h) rfl ?_
          refine qg_if true rfl (rfl) rfl ?_
          refine qg_pls (n := 1) (k' := 41) (lo' := [some (.ref 14), some (.int (nI ix)), some (.retAddr c), some (.int 0), some (.int (nI (j + 1)))]) (S' := [.int 0]) (h' := h) rfl ?_
          exact qg_ret5 rfl rfl rfl
        · skip
          refine qg_icmp true rfl (qc_geT (by omega) (by omega)) rfl ?_
          refine qg_pls (n := 1) (k' := 41) (lo' := [some (.ref 14), some (.int (nI ix)), some (.retAddr c), some (.int 0), some (.int (nI (j + 1)))]) (S' := [.int 0]) (h' := h) rfl ?_
          exact qg_ret5 rfl rfl rfl
  refine qe_of (M := qm_128) rfl rfl ?_
  show qg L xs _ qm_128 0 [some (.ref 14), some (.int (nI ix)), some (.retAddr c), none, none] [] h _
  refine qg_pls (n := 1) (k' := 1) (lo' := [some (.ref 14), some (.int (nI ix)), some (.retAddr c), none, none]) (S' := [.ref 14]) (h' := h) rfl ?_
  refine qg_getf (v := .ref 20) rfl hob rfl rfl rfl ?_
  refine qg_pls (n := 1) (k' := 3) (lo' := [some (.ref 14), some (.int (nI ix)), some (.retAddr c), none, none]) (S' := [.int (nI ix), .ref 20]) (h' := h) rfl ?_
  refine qg_ald rfl (fun _ _ _ => rfl) h20 (hix) (by decide) ?_
  rw [w3, hul]
  refine qg_pls (n := 1) (k' := 5) (lo' := [some (.ref 14), some (.int (nI ix)), some (.retAddr c), none, none]) (S' := [.retAddr c, .int (nI (zup T f z).length)]) (h' := h) rfl ?_
  refine qg_call (v := some (.int (nI (zt c).length))) (h' := h) (as := [.retAddr c]) rfl rfl rfl rfl rfl rfl rfl (ai_rcv1 rfl rfl hob2) (qe_up (by omega) (q_slen (d := d) hen.1 hen.2.1)) ?_
  show qg L xs _ qm_128 6 [some (.ref 14), some (.int (nI ix)), some (.retAddr c), none, none] [.int (nI (zt c).length), .int (nI (zup T f z).length)] h _
  by_cases hll : (zup T f z).length = (zt c).length
  · skip
    refine qg_icmp false rfl (qc_neF hll) rfl ?_
    refine qg_pls (n := 5) (k' := 13) (lo' := [some (.ref 14), some (.int (nI ix)), some (.retAddr c), some (.int 1), some (.int 0)]) (S' := []) (h' := h) rfl ?_
    exact loop _ 0 rfl (Nat.zero_le _) hll
  · rw [if_neg (fun q => hll (by rw [q]))]
    refine qg_icmp true rfl (qc_neT hll (by omega) (by omega)) rfl ?_
    refine qg_pls (n := 6) (k' := 15) (lo' := [some (.ref 14), some (.int (nI ix)), some (.retAddr c), some (.int 0), some (.int 0)]) (S' := [.retAddr c, .int 0]) (h' := h) rfl ?_
    refine qg_call (v := some (.int (nI (zt c).length))) (h' := h) (as := [.retAddr c]) rfl rfl rfl rfl rfl rfl rfl (ai_rcv1 rfl rfl hob2) (qe_up (by omega) (q_slen (d := d) hen.1 hen.2.1)) ?_
    show qg L xs _ qm_128 16 [some (.ref 14), some (.int (nI ix)), some (.retAddr c), some (.int 0), some (.int 0)] [.int (nI (zt c).length), .int 0] h _
    by_cases hl2 : 0 < (zt c).length
    · skip
      refine qg_icmp false rfl (qc_geF (a := 0) hl2 (by omega)) rfl ?_
      refine qg_pls (n := 1) (k' := 18) (lo' := [some (.ref 14), some (.int (nI ix)), some (.retAddr c), some (.int 0), some (.int 0)]) (S' := [.int 0]) (h' := h) rfl ?_
      refine qg_if true rfl (rfl) rfl ?_
      refine qg_pls (n := 1) (k' := 41) (lo' := [some (.ref 14), some (.int (nI ix)), some (.retAddr c), some (.int 0), some (.int 0)]) (S' := [.int 0]) (h' := h) rfl ?_
      exact qg_ret5 rfl rfl rfl
    · skip
      refine qg_icmp true rfl (qc_geT (a := 0) (by omega) (by decide)) rfl ?_
      refine qg_pls (n := 1) (k' := 41) (lo' := [some (.ref 14), some (.int (nI ix)), some (.retAddr c), some (.int 0), some (.int 0)]) (S' := [.int 0]) (h' := h) rfl ?_
      exact qg_ret5 rfl rfl rfl
/-- tokens that were read: their starts, sorts, sizes -/
def mtr (h : ai_H) (l : List (Nat × Nat × Nat)) : Prop := ∃ f1 fk fz, h.1[18]? = some (ai_num .int 65538 f1) ∧ h.1[19]? = some (ai_num .byte 65538 fk) ∧ h.1[20]? = some (ai_num .short 65538 fz) ∧ ∀ i, i < l.length → f1 i = nI (l.getD i (102, 0, 0)).2.1 ∧ fk i = nI (zcode (l.getD i (102, 0, 0)).1) ∧ ((l.getD i (102, 0, 0)).1 < 102 → fz i = nI ((l.getD i (102, 0, 0)).2.2 - (l.getD i (102, 0, 0)).2.1))
/-- a call that reads tokens leaves other cells -/
def mkp (h h' : ai_H) : Prop := h'.2 = h.2 ∧ ∀ i, i ≠ 14 → i ≠ 18 → i ≠ 19 → i ≠ 20 → h'.1[i]? = h.1[i]?
theorem mkp_refl : mkp h h := ⟨rfl, fun _ _ _ _ _ => rfl⟩
theorem mkp_trans {h2 : ai_H} (a : mkp h h') (b : mkp h' h2) : mkp h h2 := ⟨b.1.trans a.1, fun i i1 i2 i3 i4 => (b.2 i i1 i2 i3 i4).trans (a.2 i i1 i2 i3 i4)⟩
theorem mtx_kp {cnt' : Nat} (hx : mtx h A cnt T) (hk : mkp h h') (ho : h'.1[14]? = some (mro A cnt')) : mtx h' A cnt' T := by
  obtain ⟨hob, hA, hl, hT, ft, h17, hft⟩ := hx
  exact ⟨ho, hA, hl, hT, ft, by rw [hk.2 17 (by decide) (by decide) (by decide) (by decide)]; exact h17, hft⟩
theorem zsh0 : (List.range 1000).all (fun m => decide ((nI m).toInt16.toInt32 = nI m)) = true := by decide +kernel
theorem zsh {m : Nat} (hm : m < 1000) : (nI m).toInt16.toInt32 = nI m := of_decide_eq_true (List.all_eq_true.mp zsh0 m (List.mem_range.mpr hm))
theorem zby0 : (List.range 10).all (fun m => decide ((nI m).toInt8.toInt32 = nI m)) = true := by decide +kernel
theorem zby {m : Nat} (hm : m < 10) : (nI m).toInt8.toInt32 = nI m := of_decide_eq_true (List.all_eq_true.mp zby0 m (List.mem_range.mpr hm))
/-- QueryReaderModel.token -/
theorem m_token {l : List (Nat × Nat × Nat)} {a b c : Nat} (hx : mtx h A l.length T) (hr : mtr h l) (hl : l.length < 65538) (hb : b < 1000) (hc : c < 10) : ∃ h' f1 fk fz, qe L xs (d + 1) 126 [.ref 14, .int (nI a), .int (nI b), .int (nI c)] h (.inl none, h') ∧ mtx h' A (l.length + 1) T ∧ mkp h h' ∧ h'.1[18]? = some (ai_num .int 65538 f1) ∧ h'.1[19]? = some (ai_num .byte 65538 fk) ∧ h'.1[20]? = some (ai_num .short 65538 fz) ∧ (∀ i, i < l.length → f1 i = nI (l.getD i (102, 0, 0)).2.1 ∧ fk i = nI (zcode (l.getD i (102, 0, 0)).1) ∧ ((l.getD i (102, 0, 0)).1 < 102 → fz i = nI ((l.getD i (102, 0, 0)).2.2 - (l.getD i (102, 0, 0)).2.1))) ∧ f1 l.length = nI a ∧ fk l.length = nI c ∧ fz l.length = nI b := by
  have hob := hx.1
  obtain ⟨f1, fk, fz, h18, h19, h20, ht⟩ := hr
  have a14 := q_stay (x := ai_num .int 65538 (upd f1 l.length (nI a))) hob (show 18 ≠ 14 by decide)
  have a19 := q_stay (x := ai_num .int 65538 (upd f1 l.length (nI a))) h19 (show 18 ≠ 19 by decide)
  have a20 := q_stay (x := ai_num .int 65538 (upd f1 l.length (nI a))) h20 (show 18 ≠ 20 by decide)
  have b14 := q_stay (x := ai_num .short 65538 (upd fz l.length (nI b))) a14 (show 20 ≠ 14 by decide)
  have b19 := q_stay (x := ai_num .short 65538 (upd fz l.length (nI b))) a19 (show 20 ≠ 19 by decide)
  have c14 := q_stay (x := ai_num .byte 65538 (upd fk l.length (nI c))) b14 (show 19 ≠ 14 by decide)
  have hk : mkp h (((((h.1.set 18 (ai_num .int 65538 (upd f1 l.length (nI a)))).set 20 (ai_num .short 65538 (upd fz l.length (nI b)))).set 19 (ai_num .byte 65538 (upd fk l.length (nI c)))).set 14 (mro A (l.length + 1))), h.2) := by
    refine ⟨rfl, fun i i1 i2 i3 i4 => ?_⟩
    rw [List.getElem?_set_ne (fun q => i1 q.symm), List.getElem?_set_ne (fun q => i3 q.symm), List.getElem?_set_ne (fun q => i4 q.symm), List.getElem?_set_ne (fun q => i2 q.symm)]
  refine ⟨_, upd f1 l.length (nI a), upd fk l.length (nI c), upd fz l.length (nI b), ?_, mtx_kp hx hk (q_set c14), hk, q_stay (q_stay (q_stay (q_set h18) (by decide)) (by decide)) (by decide), q_stay (q_set b19) (by decide), q_stay (q_stay (q_set a20) (by decide)) (by decide), fun i hi => ?_, if_pos rfl, if_pos rfl, if_pos rfl⟩
  · skip
    refine qe_of (M := qm_126) rfl rfl ?_
    show qg L xs _ qm_126 0 [some (.ref 14), some (.int (nI a)), some (.int (nI b)), some (.int (nI c))] [] h _
    refine qg_pls (n := 1) (k' := 1) (lo' := [some (.ref 14), some (.int (nI a)), some (.int (nI b)), some (.int (nI c))]) (S' := [.ref 14]) (h' := h) rfl ?_
    refine qg_getf (v := .ref 18) rfl hob rfl rfl rfl ?_
    refine qg_pls (n := 1) (k' := 3) (lo' := [some (.ref 14), some (.int (nI a)), some (.int (nI b)), some (.int (nI c))]) (S' := [.ref 14, .ref 18]) (h' := h) rfl ?_
    refine qg_getf (v := .int (nI l.length)) rfl hob rfl rfl rfl ?_
    refine qg_pls (n := 1) (k' := 5) (lo' := [some (.ref 14), some (.int (nI a)), some (.int (nI b)), some (.int (nI c))]) (S' := [.int (nI a), .int (nI l.length), .ref 18]) (h' := h) rfl ?_
    refine qg_ast rfl (fun _ _ _ => rfl) h18 (hl) (by decide) ?_
    show qg L xs _ qm_126 6 [some (.ref 14), some (.int (nI a)), some (.int (nI b)), some (.int (nI c))] [] (h.1.set 18 (ai_num .int 65538 (upd f1 l.length (nI a))), h.2) _
    refine qg_pls (n := 1) (k' := 7) (lo' := [some (.ref 14), some (.int (nI a)), some (.int (nI b)), some (.int (nI c))]) (S' := [.ref 14]) (h' := (h.1.set 18 (ai_num .int 65538 (upd f1 l.length (nI a))), h.2)) rfl ?_
    refine qg_getf (v := .ref 20) rfl a14 rfl rfl rfl ?_
    refine qg_pls (n := 1) (k' := 9) (lo' := [some (.ref 14), some (.int (nI a)), some (.int (nI b)), some (.int (nI c))]) (S' := [.ref 14, .ref 20]) (h' := (h.1.set 18 (ai_num .int 65538 (upd f1 l.length (nI a))), h.2)) rfl ?_
    refine qg_getf (v := .int (nI l.length)) rfl a14 rfl rfl rfl ?_
    refine qg_pls (n := 2) (k' := 12) (lo' := [some (.ref 14), some (.int (nI a)), some (.int (nI b)), some (.int (nI c))]) (S' := [.int ((nI b)).toInt16.toInt32, .int (nI l.length), .ref 20]) (h' := (h.1.set 18 (ai_num .int 65538 (upd f1 l.length (nI a))), h.2)) rfl ?_
    rw [zsh hb]
    refine qg_ast rfl (fun _ _ _ => rfl) a20 (hl) (by decide) ?_
    rw [show vp_nar FieldType.short (nI b) = nI b from zsh hb]
    show qg L xs _ qm_126 13 [some (.ref 14), some (.int (nI a)), some (.int (nI b)), some (.int (nI c))] [] ((h.1.set 18 (ai_num .int 65538 (upd f1 l.length (nI a)))).set 20 (ai_num .short 65538 (upd fz l.length (nI b))), h.2) _
    refine qg_pls (n := 1) (k' := 14) (lo' := [some (.ref 14), some (.int (nI a)), some (.int (nI b)), some (.int (nI c))]) (S' := [.ref 14]) (h' := ((h.1.set 18 (ai_num .int 65538 (upd f1 l.length (nI a)))).set 20 (ai_num .short 65538 (upd fz l.length (nI b))), h.2)) rfl ?_
    refine qg_getf (v := .ref 19) rfl b14 rfl rfl rfl ?_
    refine qg_pls (n := 1) (k' := 16) (lo' := [some (.ref 14), some (.int (nI a)), some (.int (nI b)), some (.int (nI c))]) (S' := [.ref 14, .ref 19]) (h' := ((h.1.set 18 (ai_num .int 65538 (upd f1 l.length (nI a)))).set 20 (ai_num .short 65538 (upd fz l.length (nI b))), h.2)) rfl ?_
    refine qg_getf (v := .int (nI l.length)) rfl b14 rfl rfl rfl ?_
    refine qg_pls (n := 2) (k' := 19) (lo' := [some (.ref 14), some (.int (nI a)), some (.int (nI b)), some (.int (nI c))]) (S' := [.int ((nI c)).toInt8.toInt32, .int (nI l.length), .ref 19]) (h' := ((h.1.set 18 (ai_num .int 65538 (upd f1 l.length (nI a)))).set 20 (ai_num .short 65538 (upd fz l.length (nI b))), h.2)) rfl ?_
    rw [zby hc]
    refine qg_ast rfl (fun _ _ _ => rfl) b19 (hl) (by decide) ?_
    rw [show vp_nar FieldType.byte (nI c) = nI c from zby hc]
    show qg L xs _ qm_126 20 [some (.ref 14), some (.int (nI a)), some (.int (nI b)), some (.int (nI c))] [] (((h.1.set 18 (ai_num .int 65538 (upd f1 l.length (nI a)))).set 20 (ai_num .short 65538 (upd fz l.length (nI b)))).set 19 (ai_num .byte 65538 (upd fk l.length (nI c))), h.2) _
    refine qg_pls (n := 2) (k' := 22) (lo' := [some (.ref 14), some (.int (nI a)), some (.int (nI b)), some (.int (nI c))]) (S' := [.ref 14, .ref 14]) (h' := (((h.1.set 18 (ai_num .int 65538 (upd f1 l.length (nI a)))).set 20 (ai_num .short 65538 (upd fz l.length (nI b)))).set 19 (ai_num .byte 65538 (upd fk l.length (nI c))), h.2)) rfl ?_
    refine qg_getf (v := .int (nI l.length)) rfl c14 rfl rfl rfl ?_
    refine qg_pls (n := 2) (k' := 25) (lo' := [some (.ref 14), some (.int (nI a)), some (.int (nI b)), some (.int (nI c))]) (S' := [.int ((nI l.length) + 1), .ref 14]) (h' := (((h.1.set 18 (ai_num .int 65538 (upd f1 l.length (nI a)))).set 20 (ai_num .short 65538 (upd fz l.length (nI b)))).set 19 (ai_num .byte 65538 (upd fk l.length (nI c))), h.2)) rfl ?_
    rw [show nI l.length + 1 = nI (l.length + 1) from nI_1 _]
    refine qg_putf rfl c14 rfl rfl (Nat.le_of_ble_eq_true rfl) rfl ?_
    exact qg_ret7 rfl
  · unfold upd
    rw [if_neg (by omega), if_neg (by omega), if_neg (by omega)]
    exact ht i hi
/-- QueryReaderModel.wordOf -/
theorem m_wordOf (hob : h.1[14]? = some (mro A cnt)) {ft f1 fz : Nat → Int32} {gw : Nat → Value} (hT : ∀ x ∈ T, zb x = x) (hl : T.length ≤ 65536) (h15 : h.1[15]? = some (ai_refs "java/lang/String" 82 gw)) (hgw : ∀ j, j < 82 → gw j = .retAddr (qr_en.getD j (0, 0)).1) (h17 : h.1[17]? = some (ai_num .byte 65536 ft)) (hft : ∀ j, j < T.length → ft j = T.getD j 0) (h18 : h.1[18]? = some (ai_num .int 65538 f1)) (h20 : h.1[20]? = some (ai_num .short 65538 fz)) {ix f z : Nat} (hix : ix < 65538) (w1 : f1 ix = nI f) (w3 : fz ix = nI (z - f)) (hfz : f ≤ z) (hz : z ≤ T.length) (h30 : z - f ≤ 30) (hwd : ∀ p, f ≤ p → p < z → zofw (zat T p)) : ∀ (n k : Nat), 82 - k = n → k ≤ 82 → (∀ j, j < k → zw j ≠ zup T f z) → qg L xs (d + 6) qm_127 2 [some (.ref 14), some (.int (nI ix)), some (.int (nI k))] [] h (.inl (some (.int (if zkey (zup T f z) = 99 then -1 else nI (zkey (zup T f z))))), h) := by
  intro n
  induction n with
  | zero =>
    intro k hn hk hno
    have hk : k = 82 := by omega
    subst hk
    rw [zkey_no hno, if_pos rfl]
    refine qg_pls (n := 2) (k' := 4) (lo' := [some (.ref 14), some (.int (nI ix)), some (.int (nI 82))]) (S' := [.ref 14, .int (nI 82)]) (h' := h) rfl ?_
    refine qg_getf (v := .ref 15) rfl hob rfl rfl rfl ?_
    refine qg_alenq rfl h15 ?_
    refine qg_icmp true rfl (qc_geT (b := 82) (Nat.le_refl _) (by decide)) rfl ?_
    refine qg_pls (n := 1) (k' := 20) (lo' := [some (.ref 14), some (.int (nI ix)), some (.int (nI 82))]) (S' := [.int (-1)]) (h' := h) rfl ?_
    exact qg_ret5 rfl rfl rfl
  | succ n ih =>
    intro k hn hk hno
    have hsp := m_spellsG (L := L) (xs := xs) (d := d) hob hT hl h17 hft h18 h20 hix w1 w3 hfz hz h30 hwd (k := k) (by omega)
    have road : ∀ (b : Nat) o, qe L xs (d + 6) 128 [.ref 14, .int (nI ix), .retAddr (qr_en.getD k (0, 0)).1] h (.inl (some (.int (nI b))), h) → qg L xs (d + 6) qm_127 14 [some (.ref 14), some (.int (nI ix)), some (.int (nI k))] [.int (nI b)] h o → qg L xs (d + 6) qm_127 2 [some (.ref 14), some (.int (nI ix)), some (.int (nI k))] [] h o := by
      intro b o hq hg
      refine qg_pls (n := 2) (k' := 4) (lo' := [some (.ref 14), some (.int (nI ix)), some (.int (nI k))]) (S' := [.ref 14, .int (nI k)]) (h' := h) rfl ?_
      refine qg_getf (v := .ref 15) rfl hob rfl rfl rfl ?_
      refine qg_alenq rfl h15 ?_
      refine qg_icmp false rfl (qc_geF (b := 82) (by omega) (by decide)) rfl ?_
      refine qg_pls (n := 3) (k' := 10) (lo' := [some (.ref 14), some (.int (nI ix)), some (.int (nI k))]) (S' := [.ref 14, .int (nI ix), .ref 14]) (h' := h) rfl ?_
      refine qg_getf (v := .ref 15) rfl hob rfl rfl rfl ?_
      refine qg_pls (n := 1) (k' := 12) (lo' := [some (.ref 14), some (.int (nI ix)), some (.int (nI k))]) (S' := [.int (nI k), .ref 15, .int (nI ix), .ref 14]) (h' := h) rfl ?_
      refine qg_aald rfl h15 (by omega) (by decide) (hgw k (by omega)) ?_
      refine qg_call (v := some (.int (nI b))) (h' := h) (as := [.ref 14, .int (nI ix), .retAddr (qr_en.getD k (0, 0)).1]) rfl rfl rfl rfl rfl rfl rfl (ai_rcv1 rfl rfl hob) (hq) ?_
      show qg L xs _ qm_127 14 [some (.ref 14), some (.int (nI ix)), some (.int (nI k))] [.int (nI b)] h _
      exact hg
    by_cases hw : zup T f z = zw k
    · rw [if_pos hw] at hsp
      have e1 := zkey_at (u := zup T f z) (m := k) (by omega) hw.symm
      rw [e1, if_neg (by omega)]
      refine road 1 _ hsp ?_
      refine qg_if false rfl (rfl) rfl ?_
      refine qg_pls (n := 1) (k' := 16) (lo' := [some (.ref 14), some (.int (nI ix)), some (.int (nI k))]) (S' := [.int (nI k)]) (h' := h) rfl ?_
      exact qg_ret5 rfl rfl rfl
    · rw [if_neg hw] at hsp
      refine road 0 _ hsp ?_
      refine qg_if true rfl (rfl) rfl ?_
      refine qg_pls (n := 2) (k' := 2) (lo' := [some (.ref 14), some (.int (nI ix)), some (.int ((nI k) + 1))]) (S' := []) (h' := h) rfl ?_
      rw [nI_1]
      refine ih (k + 1) (by omega) (by omega) (fun j hj => ?_)
      rcases Nat.lt_or_ge j k with q | q
      · exact hno j q
      · have : j = k := by omega
        rw [this]; exact fun q2 => hw q2.symm
end MRB
