/-! WORDS THAT ARE PUT; THE NEXT TOKEN. (Printed by wip/whole/pp.py from wip/whole/src.) -/
section MPU
variable {L : Nat} {xs : Nat → Int32} {d : Nat} {h h' : ai_H} {e : zE} {Y : Nat → Option ai_C} {K : mK} {W P : zK} {s s' : zS} {J : List zJ} {bg en md : Value}
section RU2
variable {M : ai_M} {k : Nat} {lo : ai_L} {S : List Value} {o : ai_O}
theorem qg_inst {pc ln x : Nat} {rs : List Int} {nm : String} {v : Value} (hk : (ai_Mc M)[k]? = some (pc, .instanceof x, ln, 0, rs, nm)) (hv : ai_isof (qr_G L xs) nm v = true) (hg : qg L xs d M (k + 1) lo (.int 1 :: S) h o) : qg L xs d M k lo (v :: S) h o := by
  refine qg_eff (t := 0) (lo' := lo) (S' := .int 1 :: S) (h' := h) hk ?_ rfl hg
  simp only [ai_eff]
  rw [if_pos hv]
theorem qg_cast {pc ln x : Nat} {rs : List Int} {nm : String} {v : Value} (hk : (ai_Mc M)[k]? = some (pc, .checkcast x, ln, 0, rs, nm)) (hv : ai_isof (qr_G L xs) nm v = true) (hg : qg L xs d M (k + 1) lo (v :: S) h o) : qg L xs d M k lo (v :: S) h o := by
  refine qg_eff (t := 0) (lo' := lo) (S' := v :: S) (h' := h) hk ?_ rfl hg
  simp only [ai_eff]
  rw [if_pos hv]
end RU2
theorem qzk7 {a b : Nat} (a1 : 1000 ≤ a) (a2 : a < 1112) (b1 : 1000 ≤ b) (b2 : b < 1112) : ai_zk (qr_Z L xs) (.retAddr a) (.retAddr b) = true := by
  simp only [ai_zk, qZ_str a1 a2, qZ_str b1 b2, decide_true]
theorem q_isstr {a : Nat} (a1 : 1000 ≤ a) (a2 : a < 1112) : ai_isof (qr_G L xs) "java/lang/String" (.retAddr a) = true := by
  unfold ai_isof
  simp only [show (qr_G L xs).1 a = some (ai_obj 7 [.retAddr (a + 1000), .int 0]) from qZ_str a1 a2]
  exact decide_eq_true rfl
/-- String.equals -/
theorem m_equals {a c : Nat} (a1 : 1000 ≤ a) (a2 : a < 1112) (c1 : 1000 ≤ c) (c2 : c < 1112) : qe L xs (d + 2) 166 [.retAddr a, .retAddr c] h (.inl (some (.int (if zt a = zt c then 1 else 0))), h) := by
  have oa : ai_look (qr_Z L xs) h.1 (.retAddr a) = some (ai_obj 7 [.retAddr (a + 1000), .int 0]) := qZ_str a1 a2
  have oc : ai_look (qr_Z L xs) h.1 (.retAddr c) = some (ai_obj 7 [.retAddr (c + 1000), .int 0]) := qZ_str c1 c2
  refine qe_of (M := qm_166) rfl rfl ?_
  show qg L xs _ qm_166 0 [some (.retAddr a), some (.retAddr c), none] [] h _
  refine qg_pls (n := 2) (k' := 2) (lo' := [some (.retAddr a), some (.retAddr c), none]) (S' := [.retAddr c, .retAddr a]) (h' := h) rfl ?_
  by_cases hac : a = c
  · rw [if_pos (by rw [hac])]
    refine qg_acmp false rfl (qzk7 a1 a2 c1 c2) (qa_neF hac) rfl ?_
    refine qg_pls (n := 1) (k' := 4) (lo' := [some (.retAddr a), some (.retAddr c), none]) (S' := [.int 1]) (h' := h) rfl ?_
    exact qg_ret5 rfl rfl rfl
  · skip
    refine qg_acmp true rfl (qzk7 a1 a2 c1 c2) (qa_neT hac) rfl ?_
    refine qg_pls (n := 1) (k' := 6) (lo' := [some (.retAddr a), some (.retAddr c), none]) (S' := [.retAddr c]) (h' := h) rfl ?_
    refine qg_inst rfl (q_isstr c1 c2) ?_
    refine qg_if false rfl (rfl) rfl ?_
    refine qg_pls (n := 1) (k' := 9) (lo' := [some (.retAddr a), some (.retAddr c), none]) (S' := [.retAddr c]) (h' := h) rfl ?_
    refine qg_cast rfl (q_isstr c1 c2) ?_
    refine qg_pls (n := 2) (k' := 12) (lo' := [some (.retAddr a), some (.retAddr c), some (.retAddr c)]) (S' := [.int 1]) (h' := h) rfl ?_
    refine qg_if false rfl (rfl) rfl ?_
    refine qg_pls (n := 1) (k' := 14) (lo' := [some (.retAddr a), some (.retAddr c), some (.retAddr c)]) (S' := [.retAddr a]) (h' := h) rfl ?_
    refine qg_getf (v := .int 0) rfl oa rfl rfl rfl ?_
    refine qg_pls (n := 1) (k' := 16) (lo' := [some (.retAddr a), some (.retAddr c), some (.retAddr c)]) (S' := [.retAddr c, .int 0]) (h' := h) rfl ?_
    refine qg_getf (v := .int 0) rfl oc rfl rfl rfl ?_
    refine qg_icmp false rfl (rfl) rfl ?_
    refine qg_pls (n := 1) (k' := 19) (lo' := [some (.retAddr a), some (.retAddr c), some (.retAddr c)]) (S' := [.retAddr a]) (h' := h) rfl ?_
    refine qg_getf (v := .retAddr (a + 1000)) rfl oa rfl rfl rfl ?_
    refine qg_pls (n := 1) (k' := 21) (lo' := [some (.retAddr a), some (.retAddr c), some (.retAddr c)]) (S' := [.retAddr c, .retAddr (a + 1000)]) (h' := h) rfl ?_
    refine qg_getf (v := .retAddr (c + 1000)) rfl oc rfl rfl rfl ?_
    refine qg_call (v := some (.int (if zt a = zt c then 1 else 0))) (h' := h) (as := [.retAddr (a + 1000), .retAddr (c + 1000)]) rfl rfl rfl rfl rfl rfl rfl rfl (m_leq (d := d) a1 a2 c1 c2) ?_
    show qg L xs _ qm_166 23 [some (.retAddr a), some (.retAddr c), some (.retAddr c)] [.int (if zt a = zt c then 1 else 0)] h _
    by_cases heq : zt a = zt c
    · rw [if_pos heq]
      refine qg_if false rfl (rfl) rfl ?_
      refine qg_pls (n := 2) (k' := 27) (lo' := [some (.retAddr a), some (.retAddr c), some (.retAddr c)]) (S' := [.int 1]) (h' := h) rfl ?_
      exact qg_ret5 rfl rfl rfl
    · rw [if_neg heq]
      refine qg_if true rfl (rfl) rfl ?_
      refine qg_pls (n := 1) (k' := 27) (lo' := [some (.retAddr a), some (.retAddr c), some (.retAddr c)]) (S' := [.int 0]) (h' := h) rfl ?_
      exact qg_ret5 rfl rfl rfl
theorem mtk_wd (ht : mtk e Y) : ∃ gw, Y 15 = some (ai_refs "java/lang/String" 82 gw) ∧ ∀ j, j < 82 → gw j = .retAddr (qr_en.getD j (0, 0)).1 := by
  obtain ⟨gw, ft, f1, fk, fz, t1, t2, -⟩ := ht
  exact ⟨gw, t1, t2⟩
/-- QueryReaderModel.put -/
theorem m_put (ht : mtk e Y) (hc : mcs0 e Y K W s h J bg en md) {k : Nat} (hk : k < 82) {g' : Nat} (hg' : g' + 1 ≤ K.2.1) : ∃ h', qe L xs (d + 3) 165 [.ref 14, .retAddr (qr_en.getD k (0, 0)).1] h (.inl none, h') ∧ mcs0 e Y (K.1, g', K.2.2) W (s.1, s.2.1, s.2.2.1, s.2.2.2.1, s.2.2.2.2 ++ zw k ++ [32]) h' (J ++ [(-1 - nI k, zw k, 0, 0)]) bg en md := by
  have hfr := mtk_fr ht s.1
  obtain ⟨gw, t1, t2⟩ := mtk_wd ht
  have hen := q_enr (show k < 104 by omega)
  obtain ⟨rf, bf, wr, wf, c1, c2, c3, c4, c5, c6, c7, c8, cu, c9, c10, c11, c12, ⟨y14, y21, y22, y23, y24⟩, c14⟩ := hc
  have hJ : J.length < 131072 := by omega
  have w15 := c12 15 _ t1
  have a1 := q_stay (x := ai_num .int 131072 (upd rf J.length (-1 - nI k))) c1 (show 21 ≠ 14 by decide)
  have a3 := q_stay (x := ai_num .int 131072 (upd rf J.length (-1 - nI k))) c3 (show 21 ≠ 22 by decide)
  have a15 := q_stay (x := ai_num .int 131072 (upd rf J.length (-1 - nI k))) w15 (show 21 ≠ 15 by decide)
  have b1 := q_stay (x := ai_num .int 131072 (upd bf J.length 0)) a1 (show 22 ≠ 14 by decide)
  have hend : jn K.2.2.1 W J J.length = 0 := jn_end (fun q hq => by
    obtain ⟨i, -, -, k, k1, -, k2⟩ := rev_mem c8 q hq
    exact ⟨k, k1, k2⟩) cu.1
  -- a word that isn't it
  have step : ∀ {hh : ai_H} {j : Nat}, hh.1[14]? = some (mobj K.2.2.2.1 s.1 J.length s.2.1 s.2.2.1 bg en md W.length) → hh.1[15]? = some (ai_refs "java/lang/String" 82 gw) → j < 82 → j ≠ k → ∀ o, qg L xs (d + 2) qm_165 2 [some (.ref 14), some (.retAddr (qr_en.getD k (0, 0)).1), some (.int (nI (j + 1)))] [] hh o → qg L xs (d + 2) qm_165 2 [some (.ref 14), some (.retAddr (qr_en.getD k (0, 0)).1), some (.int (nI j))] [] hh o := by
    intro hh j d14 d15 hj hjk o hg
    have hej := q_enr (show j < 104 by omega)
    have heq := m_equals (L := L) (xs := xs) (d := d) (h := hh) hej.1 hej.2.1 hen.1 hen.2.1
    rw [if_neg (show ¬ zt (qr_en.getD j (0, 0)).1 = zt (qr_en.getD k (0, 0)).1 from fun q => hjk ((zw_inj (by omega) (by omega)).mp q))] at heq
    have oj : ai_look (qr_Z L xs) hh.1 (.retAddr (qr_en.getD j (0, 0)).1) = some (ai_obj 7 [.retAddr ((qr_en.getD j (0, 0)).1 + 1000), .int 0]) := qZ_str hej.1 hej.2.1
    refine qg_pls (n := 2) (k' := 4) (lo' := [some (.ref 14), some (.retAddr (qr_en.getD k (0, 0)).1), some (.int (nI j))]) (S' := [.ref 14, .int (nI j)]) (h' := hh) rfl ?_
    refine qg_getf (v := .ref 15) rfl d14 rfl rfl rfl ?_
    refine qg_alenq rfl d15 ?_
    refine qg_icmp false rfl (qc_geF hj (by decide)) rfl ?_
    refine qg_pls (n := 1) (k' := 8) (lo' := [some (.ref 14), some (.retAddr (qr_en.getD k (0, 0)).1), some (.int (nI j))]) (S' := [.ref 14]) (h' := hh) rfl ?_
    refine qg_getf (v := .ref 15) rfl d14 rfl rfl rfl ?_
    refine qg_pls (n := 1) (k' := 10) (lo' := [some (.ref 14), some (.retAddr (qr_en.getD k (0, 0)).1), some (.int (nI j))]) (S' := [.int (nI j), .ref 15]) (h' := hh) rfl ?_
    refine qg_aald rfl d15 (hj) (by decide) (t2 j hj) ?_
    refine qg_pls (n := 1) (k' := 12) (lo' := [some (.ref 14), some (.retAddr (qr_en.getD k (0, 0)).1), some (.int (nI j))]) (S' := [.retAddr (qr_en.getD k (0, 0)).1, .retAddr (qr_en.getD j (0, 0)).1]) (h' := hh) rfl ?_
    refine qg_call (v := some (.int 0)) (h' := hh) (as := [.retAddr (qr_en.getD j (0, 0)).1, .retAddr (qr_en.getD k (0, 0)).1]) rfl rfl rfl rfl rfl rfl rfl (ai_rcv1 rfl rfl oj) (heq) ?_
    show qg L xs _ qm_165 13 [some (.ref 14), some (.retAddr (qr_en.getD k (0, 0)).1), some (.int (nI j))] [.int 0] hh _
    refine qg_if true rfl (rfl) rfl ?_
    refine qg_pls (n := 2) (k' := 2) (lo' := [some (.ref 14), some (.retAddr (qr_en.getD k (0, 0)).1), some (.int ((nI j) + 1))]) (S' := []) (h' := hh) rfl ?_
    rw [nI_1]
    exact hg
  have loopA : ∀ (n j : Nat), k - j = n → j ≤ k → ∀ o, qg L xs (d + 2) qm_165 2 [some (.ref 14), some (.retAddr (qr_en.getD k (0, 0)).1), some (.int (nI k))] [] h o → qg L xs (d + 2) qm_165 2 [some (.ref 14), some (.retAddr (qr_en.getD k (0, 0)).1), some (.int (nI j))] [] h o := by
    intro n
    induction n with
    | zero =>
      intro j hn hj o hg
      have : j = k := by omega
      rw [this]; exact hg
    | succ n ih =>
      intro j hn hj o hg
      exact step c1 w15 (by omega) (by omega) o (ih (j + 1) (by omega) (by omega) o hg)
  have loopB : ∀ (n j : Nat), 82 - j = n → k < j → j ≤ 82 → ∀ o, qg L xs (d + 2) qm_165 2 [some (.ref 14), some (.retAddr (qr_en.getD k (0, 0)).1), some (.int (nI 82))] [] (h.1.set 21 (ai_num .int 131072 (upd rf J.length (-1 - nI k))), h.2) o → qg L xs (d + 2) qm_165 2 [some (.ref 14), some (.retAddr (qr_en.getD k (0, 0)).1), some (.int (nI j))] [] (h.1.set 21 (ai_num .int 131072 (upd rf J.length (-1 - nI k))), h.2) o := by
    intro n
    induction n with
    | zero =>
      intro j hn hj hj2 o hg
      have : j = 82 := by omega
      rw [this]; exact hg
    | succ n ih =>
      intro j hn hj hj2 o hg
      exact step a1 a15 (by omega) (by omega) o (ih (j + 1) (by omega) (by omega) (by omega) o hg)
  refine ⟨(((h.1.set 21 (ai_num .int 131072 (upd rf J.length (-1 - nI k)))).set 22 (ai_num .int 131072 (upd bf J.length 0))).set 14 (mobj K.2.2.2.1 s.1 (J.length + 1) s.2.1 s.2.2.1 bg en md W.length), h.2), ?_, upd rf J.length (-1 - nI k), upd bf J.length 0, wr, wf, ?_, ?_, ?_, ?_, ?_, ?_, fun i a ha => ?_, fun i q hq => ?_, ⟨fun u hu => ?_, fun m hm => ?_⟩, c9, ⟨?_, ?_, c10.2.2⟩, fun a ha => ?_, fun i c hi => ?_, ⟨y14, y21, y22, y23, y24⟩, c14⟩
  · have heq := m_equals (L := L) (xs := xs) (d := d) (h := h) hen.1 hen.2.1 hen.1 hen.2.1
    rw [if_pos rfl] at heq
    have ok : ai_look (qr_Z L xs) h.1 (.retAddr (qr_en.getD k (0, 0)).1) = some (ai_obj 7 [.retAddr ((qr_en.getD k (0, 0)).1 + 1000), .int 0]) := qZ_str hen.1 hen.2.1
    refine qe_of (M := qm_165) rfl rfl ?_
    show qg L xs _ qm_165 0 [some (.ref 14), some (.retAddr (qr_en.getD k (0, 0)).1), none] [] h _
    refine qg_pls (n := 2) (k' := 2) (lo' := [some (.ref 14), some (.retAddr (qr_en.getD k (0, 0)).1), some (.int 0)]) (S' := []) (h' := h) rfl ?_
    refine loopA _ 0 rfl (Nat.zero_le _) _ ?_
    refine qg_pls (n := 2) (k' := 4) (lo' := [some (.ref 14), some (.retAddr (qr_en.getD k (0, 0)).1), some (.int (nI k))]) (S' := [.ref 14, .int (nI k)]) (h' := h) rfl ?_
    refine qg_getf (v := .ref 15) rfl c1 rfl rfl rfl ?_
    refine qg_alenq rfl w15 ?_
    refine qg_icmp false rfl (qc_geF hk (by decide)) rfl ?_
    refine qg_pls (n := 1) (k' := 8) (lo' := [some (.ref 14), some (.retAddr (qr_en.getD k (0, 0)).1), some (.int (nI k))]) (S' := [.ref 14]) (h' := h) rfl ?_
    refine qg_getf (v := .ref 15) rfl c1 rfl rfl rfl ?_
    refine qg_pls (n := 1) (k' := 10) (lo' := [some (.ref 14), some (.retAddr (qr_en.getD k (0, 0)).1), some (.int (nI k))]) (S' := [.int (nI k), .ref 15]) (h' := h) rfl ?_
    refine qg_aald rfl w15 (hk) (by decide) (t2 k hk) ?_
    refine qg_pls (n := 1) (k' := 12) (lo' := [some (.ref 14), some (.retAddr (qr_en.getD k (0, 0)).1), some (.int (nI k))]) (S' := [.retAddr (qr_en.getD k (0, 0)).1, .retAddr (qr_en.getD k (0, 0)).1]) (h' := h) rfl ?_
    refine qg_call (v := some (.int 1)) (h' := h) (as := [.retAddr (qr_en.getD k (0, 0)).1, .retAddr (qr_en.getD k (0, 0)).1]) rfl rfl rfl rfl rfl rfl rfl (ai_rcv1 rfl rfl ok) (heq) ?_
    show qg L xs _ qm_165 13 [some (.ref 14), some (.retAddr (qr_en.getD k (0, 0)).1), some (.int (nI k))] [.int 1] h _
    refine qg_if false rfl (rfl) rfl ?_
    refine qg_pls (n := 1) (k' := 15) (lo' := [some (.ref 14), some (.retAddr (qr_en.getD k (0, 0)).1), some (.int (nI k))]) (S' := [.ref 14]) (h' := h) rfl ?_
    refine qg_getf (v := .ref 21) rfl c1 rfl rfl rfl ?_
    refine qg_pls (n := 1) (k' := 17) (lo' := [some (.ref 14), some (.retAddr (qr_en.getD k (0, 0)).1), some (.int (nI k))]) (S' := [.ref 14, .ref 21]) (h' := h) rfl ?_
    refine qg_getf (v := .int (nI J.length)) rfl c1 rfl rfl rfl ?_
    refine qg_pls (n := 3) (k' := 21) (lo' := [some (.ref 14), some (.retAddr (qr_en.getD k (0, 0)).1), some (.int (nI k))]) (S' := [.int ((-1) - (nI k)), .int (nI J.length), .ref 21]) (h' := h) rfl ?_
    refine qg_ast rfl (fun _ _ _ => rfl) c2 (by omega) (by decide) ?_
    show qg L xs _ qm_165 22 [some (.ref 14), some (.retAddr (qr_en.getD k (0, 0)).1), some (.int (nI k))] [] (h.1.set 21 (ai_num .int 131072 (upd rf J.length (-1 - nI k))), h.2) _
    refine qg_pls (n := 2) (k' := 2) (lo' := [some (.ref 14), some (.retAddr (qr_en.getD k (0, 0)).1), some (.int ((nI k) + 1))]) (S' := []) (h' := (h.1.set 21 (ai_num .int 131072 (upd rf J.length (-1 - nI k))), h.2)) rfl ?_
    rw [nI_1]
    refine loopB _ (k + 1) rfl (by omega) (by omega) _ ?_
    refine qg_pls (n := 2) (k' := 4) (lo' := [some (.ref 14), some (.retAddr (qr_en.getD k (0, 0)).1), some (.int (nI 82))]) (S' := [.ref 14, .int (nI 82)]) (h' := (h.1.set 21 (ai_num .int 131072 (upd rf J.length (-1 - nI k))), h.2)) rfl ?_
    refine qg_getf (v := .ref 15) rfl a1 rfl rfl rfl ?_
    refine qg_alenq rfl a15 ?_
    refine qg_icmp true rfl (qc_geT (b := 82) (Nat.le_refl _) (by decide)) rfl ?_
    refine qg_pls (n := 1) (k' := 25) (lo' := [some (.ref 14), some (.retAddr (qr_en.getD k (0, 0)).1), some (.int (nI 82))]) (S' := [.ref 14]) (h' := (h.1.set 21 (ai_num .int 131072 (upd rf J.length (-1 - nI k))), h.2)) rfl ?_
    refine qg_getf (v := .ref 22) rfl a1 rfl rfl rfl ?_
    refine qg_pls (n := 1) (k' := 27) (lo' := [some (.ref 14), some (.retAddr (qr_en.getD k (0, 0)).1), some (.int (nI 82))]) (S' := [.ref 14, .ref 22]) (h' := (h.1.set 21 (ai_num .int 131072 (upd rf J.length (-1 - nI k))), h.2)) rfl ?_
    refine qg_getf (v := .int (nI J.length)) rfl a1 rfl rfl rfl ?_
    refine qg_pls (n := 1) (k' := 29) (lo' := [some (.ref 14), some (.retAddr (qr_en.getD k (0, 0)).1), some (.int (nI 82))]) (S' := [.int 0, .int (nI J.length), .ref 22]) (h' := (h.1.set 21 (ai_num .int 131072 (upd rf J.length (-1 - nI k))), h.2)) rfl ?_
    refine qg_ast rfl (fun _ _ _ => rfl) a3 (by omega) (by decide) ?_
    show qg L xs _ qm_165 30 [some (.ref 14), some (.retAddr (qr_en.getD k (0, 0)).1), some (.int (nI 82))] [] ((h.1.set 21 (ai_num .int 131072 (upd rf J.length (-1 - nI k)))).set 22 (ai_num .int 131072 (upd bf J.length 0)), h.2) _
    refine qg_pls (n := 2) (k' := 32) (lo' := [some (.ref 14), some (.retAddr (qr_en.getD k (0, 0)).1), some (.int (nI 82))]) (S' := [.ref 14, .ref 14]) (h' := ((h.1.set 21 (ai_num .int 131072 (upd rf J.length (-1 - nI k)))).set 22 (ai_num .int 131072 (upd bf J.length 0)), h.2)) rfl ?_
    refine qg_getf (v := .int (nI J.length)) rfl b1 rfl rfl rfl ?_
    refine qg_pls (n := 2) (k' := 35) (lo' := [some (.ref 14), some (.retAddr (qr_en.getD k (0, 0)).1), some (.int (nI 82))]) (S' := [.int ((nI J.length) + 1), .ref 14]) (h' := ((h.1.set 21 (ai_num .int 131072 (upd rf J.length (-1 - nI k)))).set 22 (ai_num .int 131072 (upd bf J.length 0)), h.2)) rfl ?_
    rw [show nI J.length + 1 = nI (J.length + 1) from nI_1 _]
    refine qg_putf rfl b1 rfl rfl (Nat.le_of_ble_eq_true rfl) rfl ?_
    exact qg_ret7 rfl
  · rw [List.length_append]
    exact q_set b1
  · exact q_stay (q_stay (q_set c2) (by decide)) (by decide)
  · exact q_stay (q_set a3) (by decide)
  · exact q_stay (q_stay (q_stay c4 (by decide)) (by decide)) (by decide)
  · exact q_stay (q_stay (q_stay c5 (by decide)) (by decide)) (by decide)
  · show s.2.2.2.2 ++ zw k ++ [32] = _
    rw [jr_add, c6]
  · rcases Nat.lt_or_ge i J.length with q | q
    · rw [List.getElem?_append_left q] at ha
      obtain ⟨w1, w2, w3, w4, w5⟩ := c7 i a ha
      unfold upd
      rw [if_neg (by omega), if_neg (by omega), jn_app (by omega)]
      exact ⟨w1, w2, w3, w4, w5⟩
    · have hk2 : i = J.length := by
        have := (List.getElem?_eq_some_iff.mp ha).1
        rw [List.length_append] at this
        simp only [List.length_cons, List.length_nil] at this
        omega
      subst hk2
      rw [List.getElem?_append_right (Nat.le_refl _), Nat.sub_self, List.getElem?_cons_zero] at ha
      have ha2 := Option.some.inj ha
      subst ha2
      unfold upd
      rw [if_pos rfl, if_pos rfl, jn_app (Nat.le_refl _)]
      have hend : jn (K.1, g', K.2.2).2.2.1 W J J.length = 0 := hend
      rw [hend]
      refine ⟨by dsimp only, Or.inr ⟨k, hk, by dsimp only, by dsimp only⟩, ?_, ?_, ?_⟩
      · dsimp only; rfl
      · dsimp only; exact Nat.le_refl _
      · dsimp only; decide
  · obtain ⟨w1, w2, k, k1, k2, k3⟩ := c8 i q hq
    exact ⟨w1, w2, k, by rw [List.length_append]; omega, k2, by rw [jo_app (by omega)]; exact k3⟩
  · obtain ⟨k, k1, k2⟩ := cu.1 u hu
    exact ⟨k, by rw [List.length_append]; omega, by rw [jo_app (by omega)]; exact k2⟩
  · obtain ⟨k1, k2⟩ := cu.2 m hm
    exact ⟨by rw [List.length_append]; omega, by rw [jo_app (by omega)]; exact k2⟩
  · rw [List.length_append]
    show J.length + 1 + g' ≤ 2 * zfr e s.1
    omega
  · rw [jsum_app]
    show jsum J + 0 + K.1 ≤ zfr e s.1
    omega
  · rw [List.length_append] at ha
    have ha : (J ++ [(-1 - nI k, zw k, 0, 0)])[J.length]? = some a := ha
    rw [List.getElem?_append_right (Nat.le_refl _), Nat.sub_self, List.getElem?_cons_zero] at ha
    have ha2 := Option.some.inj ha
    subst ha2
    show 0 + W.length + K.2.2.1.length ≤ 400
    omega
  · exact q_stay (q_stay (q_stay (c12 i c hi) (fun e => by rw [← e, y21] at hi; cases hi)) (fun e => by rw [← e, y22] at hi; cases hi)) (fun e => by rw [← e, y14] at hi; cases hi)
/-- the next token, without keeping this one -/
theorem mcs0_next (ht : mtk e Y) (hc : mcs0 e Y K W s h J bg en md) (hk : ztk e s.1 < 102) {c' g' : Nat} (hc' : c' ≤ K.1 + (zto e s.1 - zfr e s.1)) (hg' : g' ≤ K.2.1 + 2 * (zto e s.1 - zfr e s.1)) : mcs0 e Y (c', g', K.2.2) W (s.1 + 1, s.2) (h.1.set 14 (mobj K.2.2.2.1 (s.1 + 1) J.length s.2.1 s.2.2.1 bg en md W.length), h.2) J bg en md := by
  obtain ⟨n1, n2, n3⟩ := mtk_next ht hk
  obtain ⟨rf, bf, wr, wf, c1, c2, c3, c4, c5, c6, c7, c8, cu, c9, c10, c11, c12, ⟨y14, y21, y22, y23, y24⟩, c14⟩ := hc
  refine ⟨rf, bf, wr, wf, q_set c1, q_stay c2 (by decide), q_stay c3 (by decide), q_stay c4 (by decide), q_stay c5 (by decide), c6, c7, c8, cu, ⟨n1, c9.2⟩, ⟨?_, ?_, c10.2.2⟩, c11, fun i c hi => q_stay (c12 i c hi) (fun e => by rw [← e, y14] at hi; cases hi), ⟨y14, y21, y22, y23, y24⟩, c14⟩
  · show J.length + g' ≤ 2 * zfr e (s.1 + 1)
    omega
  · show jsum J + c' ≤ zfr e (s.1 + 1)
    omega
end MPU
