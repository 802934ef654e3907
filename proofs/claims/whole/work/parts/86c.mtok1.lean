/-! THE MODEL READS ITS TEXT: A TOKEN, ALL TOKENS. (Printed by wip/whole/pp.py from wip/whole/src.) -/
section MRC
variable {L : Nat} {xs : Nat → Int32} {d : Nat} {h h' : ai_H} {T : List Int32} {A : mA} {cnt : Nat}
/-- a token's sort in the model before its word is looked up -/
def zs0 (k : Nat) : Nat := if k < 82 then 2 else zcode k
def zcl (T : List Int32) (i : Nat) (sz : Int32) (c : Nat) : Prop := c = zs0 (ztok T i).1 ∧ (c ≠ 6 → sz = nI ((ztok T i).2 - i) ∧ (ztok T i).2 - i < 1000)
theorem zcl_6 {i : Nat} {sz : Int32} (h1 : (ztok T i).1 = 103) : zcl T i sz 6 := ⟨by rw [h1]; rfl, fun q => absurd rfl q⟩
theorem zcl_n {i k n : Nat} (h1 : ztok T i = (k, i + n)) (hn : n < 1000) {c : Nat} (hk : zs0 k = c) : zcl T i (nI n) c := by
  refine ⟨by rw [h1, hk], fun _ => ?_⟩
  rw [h1]
  dsimp only
  rw [Nat.add_sub_cancel_left]
  exact ⟨rfl, hn⟩
theorem ztwo_o {a b : Int32} (h1 : ¬ a = 124) (h2 : ¬ a = 60) (h3 : ¬ a = 62) : ztwo a b = 103 := by
  unfold ztwo
  rw [if_neg (fun q => h1 q.1), if_neg (fun q => h2 q.1), if_neg (fun q => h2 q.1), if_neg (fun q => h3 q.1)]
theorem ztwo_124 {b : Int32} : ztwo 124 b = if b = 124 then 92 else 103 := by
  unfold ztwo
  by_cases h1 : b = 124
  · rw [if_pos ⟨rfl, h1⟩, if_pos h1]
  · rw [if_neg (fun q => h1 q.2), if_neg h1, if_neg (fun q => absurd q.1 (by decide)), if_neg (fun q => absurd q.1 (by decide)), if_neg (fun q => absurd q.1 (by decide))]
theorem ztwo_60 {b : Int32} : ztwo 60 b = if b = 62 then 94 else if b = 61 then 96 else 103 := by
  unfold ztwo
  rw [if_neg (fun q => absurd q.1 (by decide))]
  by_cases h1 : b = 62
  · rw [if_pos ⟨rfl, h1⟩, if_pos h1]
  · rw [if_neg (fun q => h1 q.2), if_neg h1]
    by_cases h2 : b = 61
    · rw [if_pos ⟨rfl, h2⟩, if_pos h2]
    · rw [if_neg (fun q => h2 q.2), if_neg h2, if_neg (fun q => absurd q.1 (by decide))]
theorem ztwo_62 {b : Int32} : ztwo 62 b = if b = 61 then 98 else 103 := by
  unfold ztwo
  rw [if_neg (fun q => absurd q.1 (by decide)), if_neg (fun q => absurd q.1 (by decide)), if_neg (fun q => absurd q.1 (by decide))]
  by_cases h1 : b = 61
  · rw [if_pos ⟨rfl, h1⟩, if_pos h1]
  · rw [if_neg (fun q => h1 q.2), if_neg h1]
/-- a sign -/
theorem m_rtsign (hx : mtx h A cnt T) {i : Nat} (hi : i < T.length) {x5 : Option Value} (hs : ztok T i = if ztwo (zat T i) (zat T (i + 1)) = 103 then (zone (zat T i), i + 1) else (ztwo (zat T i) (zat T (i + 1)), i + 2)) : ∀ o, (∀ (sz : Int32) (c : Nat) (x5 : Option Value), zcl T i sz c → qg L xs (d + 2) qm_122 149 [some (.ref 14), some (.int (nI i)), some (.int (zraw T i)), some (.int sz), some (.int (nI c)), x5] [] h o) → qg L xs (d + 2) qm_122 69 [some (.ref 14), some (.int (nI i)), some (.int (zraw T i)), some (.int 1), some (.int 6), x5] [] h o := by
  intro o hg
  have hT := hx.2.2.2.1
  have hl := hx.2.2.1
  have hob := hx.1
  by_cases c124 : zat T i = 124
  · rw [c124, ztwo_124] at hs
    by_cases d1 : zat T (i + 1) = 124
    · rw [if_pos d1, if_neg (by decide)] at hs
      refine qg_pls (n := 2) (k' := 71) (lo' := [some (.ref 14), some (.int (nI i)), some (.int (zraw T i)), some (.int 1), some (.int 6), x5]) (S' := [.int 124, .int (zraw T i)]) (h' := h) rfl ?_
      refine qg_icmp false rfl (qb_neF ((zra_124 hT).mp c124)) rfl ?_
      refine qg_pls (n := 4) (k' := 76) (lo' := [some (.ref 14), some (.int (nI i)), some (.int (zraw T i)), some (.int 1), some (.int 6), x5]) (S' := [.int ((nI i) + 1), .ref 14]) (h' := h) rfl ?_
      rw [show nI i + 1 = nI (i + 1) from nI_1 i]
      refine qg_call (v := some (.int (zraw T (i + 1)))) (h' := h) (as := [.ref 14, .int (nI (i + 1))]) rfl rfl rfl rfl rfl rfl rfl (ai_rcv1 rfl rfl hob) (m_byteAt (d := d + 1) hx (by omega)) ?_
      show qg L xs _ qm_122 77 [some (.ref 14), some (.int (nI i)), some (.int (zraw T i)), some (.int 1), some (.int 6), x5] [.int (zraw T (i + 1))] h _
      refine qg_pls (n := 1) (k' := 78) (lo' := [some (.ref 14), some (.int (nI i)), some (.int (zraw T i)), some (.int 1), some (.int 6), x5]) (S' := [.int 124, .int (zraw T (i + 1))]) (h' := h) rfl ?_
      refine qg_icmp false rfl (qb_neF ((zra_124 hT).mp d1)) rfl ?_
      refine qg_pls (n := 6) (k' := 149) (lo' := [some (.ref 14), some (.int (nI i)), some (.int (zraw T i)), some (.int 2), some (.int 5), x5]) (S' := []) (h' := h) rfl ?_
      exact hg 2 5 _ (zcl_n (n := 2) hs (by decide) (by decide))
    · rw [if_neg d1, if_pos rfl] at hs
      refine qg_pls (n := 2) (k' := 71) (lo' := [some (.ref 14), some (.int (nI i)), some (.int (zraw T i)), some (.int 1), some (.int 6), x5]) (S' := [.int 124, .int (zraw T i)]) (h' := h) rfl ?_
      refine qg_icmp false rfl (qb_neF ((zra_124 hT).mp c124)) rfl ?_
      refine qg_pls (n := 4) (k' := 76) (lo' := [some (.ref 14), some (.int (nI i)), some (.int (zraw T i)), some (.int 1), some (.int 6), x5]) (S' := [.int ((nI i) + 1), .ref 14]) (h' := h) rfl ?_
      rw [show nI i + 1 = nI (i + 1) from nI_1 i]
      refine qg_call (v := some (.int (zraw T (i + 1)))) (h' := h) (as := [.ref 14, .int (nI (i + 1))]) rfl rfl rfl rfl rfl rfl rfl (ai_rcv1 rfl rfl hob) (m_byteAt (d := d + 1) hx (by omega)) ?_
      show qg L xs _ qm_122 77 [some (.ref 14), some (.int (nI i)), some (.int (zraw T i)), some (.int 1), some (.int 6), x5] [.int (zraw T (i + 1))] h _
      refine qg_pls (n := 1) (k' := 78) (lo' := [some (.ref 14), some (.int (nI i)), some (.int (zraw T i)), some (.int 1), some (.int 6), x5]) (S' := [.int 124, .int (zraw T (i + 1))]) (h' := h) rfl ?_
      refine qg_icmp true rfl (qb_neT (fun z => d1 ((zra_124 hT).mpr z))) rfl ?_
      refine qg_pls (n := 5) (k' := 149) (lo' := [some (.ref 14), some (.int (nI i)), some (.int (zraw T i)), some (.int 2), some (.int 6), x5]) (S' := []) (h' := h) rfl ?_
      exact hg 2 6 _ (zcl_6 (by rw [hs]; show zone 124 = 103; decide))
  have r86 : ∀ o, qg L xs (d + 2) qm_122 88 [some (.ref 14), some (.int (nI i)), some (.int (zraw T i)), some (.int 1), some (.int 6), x5] [.int 60, .int (zraw T i)] h o → qg L xs (d + 2) qm_122 69 [some (.ref 14), some (.int (nI i)), some (.int (zraw T i)), some (.int 1), some (.int 6), x5] [] h o := by
    intro o hg
    refine qg_pls (n := 2) (k' := 71) (lo' := [some (.ref 14), some (.int (nI i)), some (.int (zraw T i)), some (.int 1), some (.int 6), x5]) (S' := [.int 124, .int (zraw T i)]) (h' := h) rfl ?_
    refine qg_icmp true rfl (qb_neT (fun z => c124 ((zra_124 hT).mpr z))) rfl ?_
    refine qg_pls (n := 2) (k' := 88) (lo' := [some (.ref 14), some (.int (nI i)), some (.int (zraw T i)), some (.int 1), some (.int 6), x5]) (S' := [.int 60, .int (zraw T i)]) (h' := h) rfl ?_
    exact hg
  have r98 : ∀ o, qg L xs (d + 2) qm_122 98 [some (.ref 14), some (.int (nI i)), some (.int (zraw T i)), some (.int 1), some (.int 6), some (.int (zraw T (i + 1)))] [] h o → qg L xs (d + 2) qm_122 92 [some (.ref 14), some (.int (nI i)), some (.int (zraw T i)), some (.int 1), some (.int 6), x5] [] h o := by
    intro o hg
    refine qg_pls (n := 4) (k' := 96) (lo' := [some (.ref 14), some (.int (nI i)), some (.int (zraw T i)), some (.int 1), some (.int 6), x5]) (S' := [.int ((nI i) + 1), .ref 14]) (h' := h) rfl ?_
    rw [show nI i + 1 = nI (i + 1) from nI_1 i]
    refine qg_call (v := some (.int (zraw T (i + 1)))) (h' := h) (as := [.ref 14, .int (nI (i + 1))]) rfl rfl rfl rfl rfl rfl rfl (ai_rcv1 rfl rfl hob) (m_byteAt (d := d + 1) hx (by omega)) ?_
    show qg L xs _ qm_122 97 [some (.ref 14), some (.int (nI i)), some (.int (zraw T i)), some (.int 1), some (.int 6), x5] [.int (zraw T (i + 1))] h _
    refine qg_pls (n := 1) (k' := 98) (lo' := [some (.ref 14), some (.int (nI i)), some (.int (zraw T i)), some (.int 1), some (.int 6), some (.int (zraw T (i + 1)))]) (S' := []) (h' := h) rfl ?_
    exact hg
  by_cases c60 : zat T i = 60
  · rw [c60, ztwo_60] at hs
    refine r86 o ?_
    refine qg_icmp true rfl (qb_eqT ((zra_60 hT).mp c60)) rfl ?_
    refine r98 o ?_
    by_cases d1 : zat T (i + 1) = 61
    · rw [if_neg (fun q => absurd (d1.symm.trans q) (by decide)), if_pos d1, if_neg (by decide)] at hs
      refine qg_pls (n := 2) (k' := 100) (lo' := [some (.ref 14), some (.int (nI i)), some (.int (zraw T i)), some (.int 1), some (.int 6), some (.int (zraw T (i + 1)))]) (S' := [.int 61, .int (zraw T (i + 1))]) (h' := h) rfl ?_
      refine qg_icmp true rfl (qb_eqT ((zra_61 hT).mp d1)) rfl ?_
      refine qg_pls (n := 6) (k' := 149) (lo' := [some (.ref 14), some (.int (nI i)), some (.int (zraw T i)), some (.int 2), some (.int 5), some (.int (zraw T (i + 1)))]) (S' := []) (h' := h) rfl ?_
      exact hg 2 5 _ (zcl_n (n := 2) hs (by decide) (by decide))
    · have r104 : ∀ o, qg L xs (d + 2) qm_122 106 [some (.ref 14), some (.int (nI i)), some (.int (zraw T i)), some (.int 1), some (.int 6), some (.int (zraw T (i + 1)))] [.int 62, .int (zraw T (i + 1))] h o → qg L xs (d + 2) qm_122 98 [some (.ref 14), some (.int (nI i)), some (.int (zraw T i)), some (.int 1), some (.int 6), some (.int (zraw T (i + 1)))] [] h o := by
        intro o hg
        refine qg_pls (n := 2) (k' := 100) (lo' := [some (.ref 14), some (.int (nI i)), some (.int (zraw T i)), some (.int 1), some (.int 6), some (.int (zraw T (i + 1)))]) (S' := [.int 61, .int (zraw T (i + 1))]) (h' := h) rfl ?_
        refine qg_icmp false rfl (qb_eqF (fun z => d1 ((zra_61 hT).mpr z))) rfl ?_
        refine qg_pls (n := 2) (k' := 103) (lo' := [some (.ref 14), some (.int (nI i)), some (.int (zraw T i)), some (.int 1), some (.int 6), some (.int (zraw T (i + 1)))]) (S' := [.int 60, .int (zraw T i)]) (h' := h) rfl ?_
        refine qg_icmp false rfl (qb_neF ((zra_60 hT).mp c60)) rfl ?_
        refine qg_pls (n := 2) (k' := 106) (lo' := [some (.ref 14), some (.int (nI i)), some (.int (zraw T i)), some (.int 1), some (.int 6), some (.int (zraw T (i + 1)))]) (S' := [.int 62, .int (zraw T (i + 1))]) (h' := h) rfl ?_
        exact hg
      refine r104 o ?_
      by_cases d2 : zat T (i + 1) = 62
      · rw [if_pos d2, if_neg (by decide)] at hs
        refine qg_icmp false rfl (qb_neF ((zra_62 hT).mp d2)) rfl ?_
        refine qg_pls (n := 6) (k' := 149) (lo' := [some (.ref 14), some (.int (nI i)), some (.int (zraw T i)), some (.int 2), some (.int 5), some (.int (zraw T (i + 1)))]) (S' := []) (h' := h) rfl ?_
        exact hg 2 5 _ (zcl_n (n := 2) hs (by decide) (by decide))
      · rw [if_neg d2, if_neg d1, if_pos rfl] at hs
        refine qg_icmp true rfl (qb_neT (fun z => d2 ((zra_62 hT).mpr z))) rfl ?_
        refine qg_pls (n := 5) (k' := 149) (lo' := [some (.ref 14), some (.int (nI i)), some (.int (zraw T i)), some (.int 1), some (.int 5), some (.int (zraw T (i + 1)))]) (S' := []) (h' := h) rfl ?_
        exact hg 1 5 _ (zcl_n (n := 1) hs (by decide) (by decide))
  have r89 : ∀ o, qg L xs (d + 2) qm_122 91 [some (.ref 14), some (.int (nI i)), some (.int (zraw T i)), some (.int 1), some (.int 6), x5] [.int 62, .int (zraw T i)] h o → qg L xs (d + 2) qm_122 69 [some (.ref 14), some (.int (nI i)), some (.int (zraw T i)), some (.int 1), some (.int 6), x5] [] h o := by
    intro o hg
    refine r86 o ?_
    refine qg_icmp false rfl (qb_eqF (fun z => c60 ((zra_60 hT).mpr z))) rfl ?_
    refine qg_pls (n := 2) (k' := 91) (lo' := [some (.ref 14), some (.int (nI i)), some (.int (zraw T i)), some (.int 1), some (.int 6), x5]) (S' := [.int 62, .int (zraw T i)]) (h' := h) rfl ?_
    exact hg
  by_cases c62 : zat T i = 62
  · rw [c62, ztwo_62] at hs
    refine r89 o ?_
    refine qg_icmp false rfl (qb_neF ((zra_62 hT).mp c62)) rfl ?_
    refine r98 o ?_
    by_cases d1 : zat T (i + 1) = 61
    · rw [if_pos d1, if_neg (by decide)] at hs
      refine qg_pls (n := 2) (k' := 100) (lo' := [some (.ref 14), some (.int (nI i)), some (.int (zraw T i)), some (.int 1), some (.int 6), some (.int (zraw T (i + 1)))]) (S' := [.int 61, .int (zraw T (i + 1))]) (h' := h) rfl ?_
      refine qg_icmp true rfl (qb_eqT ((zra_61 hT).mp d1)) rfl ?_
      refine qg_pls (n := 6) (k' := 149) (lo' := [some (.ref 14), some (.int (nI i)), some (.int (zraw T i)), some (.int 2), some (.int 5), some (.int (zraw T (i + 1)))]) (S' := []) (h' := h) rfl ?_
      exact hg 2 5 _ (zcl_n (n := 2) hs (by decide) (by decide))
    · rw [if_neg d1, if_pos rfl] at hs
      refine qg_pls (n := 2) (k' := 100) (lo' := [some (.ref 14), some (.int (nI i)), some (.int (zraw T i)), some (.int 1), some (.int 6), some (.int (zraw T (i + 1)))]) (S' := [.int 61, .int (zraw T (i + 1))]) (h' := h) rfl ?_
      refine qg_icmp false rfl (qb_eqF (fun z => d1 ((zra_61 hT).mpr z))) rfl ?_
      refine qg_pls (n := 2) (k' := 103) (lo' := [some (.ref 14), some (.int (nI i)), some (.int (zraw T i)), some (.int 1), some (.int 6), some (.int (zraw T (i + 1)))]) (S' := [.int 60, .int (zraw T i)]) (h' := h) rfl ?_
      refine qg_icmp true rfl (qb_neT (fun z => c60 ((zra_60 hT).mpr z))) rfl ?_
      refine qg_pls (n := 5) (k' := 149) (lo' := [some (.ref 14), some (.int (nI i)), some (.int (zraw T i)), some (.int 1), some (.int 5), some (.int (zraw T (i + 1)))]) (S' := []) (h' := h) rfl ?_
      exact hg 1 5 _ (zcl_n (n := 1) hs (by decide) (by decide))
  rw [ztwo_o c124 c60 c62, if_pos rfl] at hs
  have r114 : ∀ o, qg L xs (d + 2) qm_122 114 [some (.ref 14), some (.int (nI i)), some (.int (zraw T i)), some (.int 1), some (.int 6), x5] [] h o → qg L xs (d + 2) qm_122 69 [some (.ref 14), some (.int (nI i)), some (.int (zraw T i)), some (.int 1), some (.int 6), x5] [] h o := by
    intro o hg
    refine r89 o ?_
    refine qg_icmp true rfl (qb_neT (fun z => c62 ((zra_62 hT).mpr z))) rfl ?_
    exact hg
  refine r114 o ?_
  by_cases c40 : zat T i = 40
  · rw [c40] at hs
    refine qg_pls (n := 2) (k' := 116) (lo' := [some (.ref 14), some (.int (nI i)), some (.int (zraw T i)), some (.int 1), some (.int 6), x5]) (S' := [.int 40, .int (zraw T i)]) (h' := h) rfl ?_
    refine qg_icmp true rfl (qb_eqT ((zra_40 hT).mp c40)) rfl ?_
    refine qg_pls (n := 2) (k' := 149) (lo' := [some (.ref 14), some (.int (nI i)), some (.int (zraw T i)), some (.int 1), some (.int 5), x5]) (S' := []) (h' := h) rfl ?_
    exact hg 1 5 _ (zcl_n (n := 1) hs (by decide) (by decide))
  by_cases c41 : zat T i = 41
  · rw [c41] at hs
    refine qg_pls (n := 2) (k' := 116) (lo' := [some (.ref 14), some (.int (nI i)), some (.int (zraw T i)), some (.int 1), some (.int 6), x5]) (S' := [.int 40, .int (zraw T i)]) (h' := h) rfl ?_
    refine qg_icmp false rfl (qb_eqF (fun z => c40 ((zra_40 hT).mpr z))) rfl ?_
    refine qg_pls (n := 2) (k' := 119) (lo' := [some (.ref 14), some (.int (nI i)), some (.int (zraw T i)), some (.int 1), some (.int 6), x5]) (S' := [.int 41, .int (zraw T i)]) (h' := h) rfl ?_
    refine qg_icmp true rfl (qb_eqT ((zra_41 hT).mp c41)) rfl ?_
    refine qg_pls (n := 2) (k' := 149) (lo' := [some (.ref 14), some (.int (nI i)), some (.int (zraw T i)), some (.int 1), some (.int 5), x5]) (S' := []) (h' := h) rfl ?_
    exact hg 1 5 _ (zcl_n (n := 1) hs (by decide) (by decide))
  by_cases c44 : zat T i = 44
  · rw [c44] at hs
    refine qg_pls (n := 2) (k' := 116) (lo' := [some (.ref 14), some (.int (nI i)), some (.int (zraw T i)), some (.int 1), some (.int 6), x5]) (S' := [.int 40, .int (zraw T i)]) (h' := h) rfl ?_
    refine qg_icmp false rfl (qb_eqF (fun z => c40 ((zra_40 hT).mpr z))) rfl ?_
    refine qg_pls (n := 2) (k' := 119) (lo' := [some (.ref 14), some (.int (nI i)), some (.int (zraw T i)), some (.int 1), some (.int 6), x5]) (S' := [.int 41, .int (zraw T i)]) (h' := h) rfl ?_
    refine qg_icmp false rfl (qb_eqF (fun z => c41 ((zra_41 hT).mpr z))) rfl ?_
    refine qg_pls (n := 2) (k' := 122) (lo' := [some (.ref 14), some (.int (nI i)), some (.int (zraw T i)), some (.int 1), some (.int 6), x5]) (S' := [.int 44, .int (zraw T i)]) (h' := h) rfl ?_
    refine qg_icmp true rfl (qb_eqT ((zra_44 hT).mp c44)) rfl ?_
    refine qg_pls (n := 2) (k' := 149) (lo' := [some (.ref 14), some (.int (nI i)), some (.int (zraw T i)), some (.int 1), some (.int 5), x5]) (S' := []) (h' := h) rfl ?_
    exact hg 1 5 _ (zcl_n (n := 1) hs (by decide) (by decide))
  by_cases c46 : zat T i = 46
  · rw [c46] at hs
    refine qg_pls (n := 2) (k' := 116) (lo' := [some (.ref 14), some (.int (nI i)), some (.int (zraw T i)), some (.int 1), some (.int 6), x5]) (S' := [.int 40, .int (zraw T i)]) (h' := h) rfl ?_
    refine qg_icmp false rfl (qb_eqF (fun z => c40 ((zra_40 hT).mpr z))) rfl ?_
    refine qg_pls (n := 2) (k' := 119) (lo' := [some (.ref 14), some (.int (nI i)), some (.int (zraw T i)), some (.int 1), some (.int 6), x5]) (S' := [.int 41, .int (zraw T i)]) (h' := h) rfl ?_
    refine qg_icmp false rfl (qb_eqF (fun z => c41 ((zra_41 hT).mpr z))) rfl ?_
    refine qg_pls (n := 2) (k' := 122) (lo' := [some (.ref 14), some (.int (nI i)), some (.int (zraw T i)), some (.int 1), some (.int 6), x5]) (S' := [.int 44, .int (zraw T i)]) (h' := h) rfl ?_
    refine qg_icmp false rfl (qb_eqF (fun z => c44 ((zra_44 hT).mpr z))) rfl ?_
    refine qg_pls (n := 2) (k' := 125) (lo' := [some (.ref 14), some (.int (nI i)), some (.int (zraw T i)), some (.int 1), some (.int 6), x5]) (S' := [.int 46, .int (zraw T i)]) (h' := h) rfl ?_
    refine qg_icmp true rfl (qb_eqT ((zra_46 hT).mp c46)) rfl ?_
    refine qg_pls (n := 2) (k' := 149) (lo' := [some (.ref 14), some (.int (nI i)), some (.int (zraw T i)), some (.int 1), some (.int 5), x5]) (S' := []) (h' := h) rfl ?_
    exact hg 1 5 _ (zcl_n (n := 1) hs (by decide) (by decide))
  by_cases c59 : zat T i = 59
  · rw [c59] at hs
    refine qg_pls (n := 2) (k' := 116) (lo' := [some (.ref 14), some (.int (nI i)), some (.int (zraw T i)), some (.int 1), some (.int 6), x5]) (S' := [.int 40, .int (zraw T i)]) (h' := h) rfl ?_
    refine qg_icmp false rfl (qb_eqF (fun z => c40 ((zra_40 hT).mpr z))) rfl ?_
    refine qg_pls (n := 2) (k' := 119) (lo' := [some (.ref 14), some (.int (nI i)), some (.int (zraw T i)), some (.int 1), some (.int 6), x5]) (S' := [.int 41, .int (zraw T i)]) (h' := h) rfl ?_
    refine qg_icmp false rfl (qb_eqF (fun z => c41 ((zra_41 hT).mpr z))) rfl ?_
    refine qg_pls (n := 2) (k' := 122) (lo' := [some (.ref 14), some (.int (nI i)), some (.int (zraw T i)), some (.int 1), some (.int 6), x5]) (S' := [.int 44, .int (zraw T i)]) (h' := h) rfl ?_
    refine qg_icmp false rfl (qb_eqF (fun z => c44 ((zra_44 hT).mpr z))) rfl ?_
    refine qg_pls (n := 2) (k' := 125) (lo' := [some (.ref 14), some (.int (nI i)), some (.int (zraw T i)), some (.int 1), some (.int 6), x5]) (S' := [.int 46, .int (zraw T i)]) (h' := h) rfl ?_
    refine qg_icmp false rfl (qb_eqF (fun z => c46 ((zra_46 hT).mpr z))) rfl ?_
    refine qg_pls (n := 2) (k' := 128) (lo' := [some (.ref 14), some (.int (nI i)), some (.int (zraw T i)), some (.int 1), some (.int 6), x5]) (S' := [.int 59, .int (zraw T i)]) (h' := h) rfl ?_
    refine qg_icmp true rfl (qb_eqT ((zra_59 hT).mp c59)) rfl ?_
    refine qg_pls (n := 2) (k' := 149) (lo' := [some (.ref 14), some (.int (nI i)), some (.int (zraw T i)), some (.int 1), some (.int 5), x5]) (S' := []) (h' := h) rfl ?_
    exact hg 1 5 _ (zcl_n (n := 1) hs (by decide) (by decide))
  by_cases c43 : zat T i = 43
  · rw [c43] at hs
    refine qg_pls (n := 2) (k' := 116) (lo' := [some (.ref 14), some (.int (nI i)), some (.int (zraw T i)), some (.int 1), some (.int 6), x5]) (S' := [.int 40, .int (zraw T i)]) (h' := h) rfl ?_
    refine qg_icmp false rfl (qb_eqF (fun z => c40 ((zra_40 hT).mpr z))) rfl ?_
    refine qg_pls (n := 2) (k' := 119) (lo' := [some (.ref 14), some (.int (nI i)), some (.int (zraw T i)), some (.int 1), some (.int 6), x5]) (S' := [.int 41, .int (zraw T i)]) (h' := h) rfl ?_
    refine qg_icmp false rfl (qb_eqF (fun z => c41 ((zra_41 hT).mpr z))) rfl ?_
    refine qg_pls (n := 2) (k' := 122) (lo' := [some (.ref 14), some (.int (nI i)), some (.int (zraw T i)), some (.int 1), some (.int 6), x5]) (S' := [.int 44, .int (zraw T i)]) (h' := h) rfl ?_
    refine qg_icmp false rfl (qb_eqF (fun z => c44 ((zra_44 hT).mpr z))) rfl ?_
    refine qg_pls (n := 2) (k' := 125) (lo' := [some (.ref 14), some (.int (nI i)), some (.int (zraw T i)), some (.int 1), some (.int 6), x5]) (S' := [.int 46, .int (zraw T i)]) (h' := h) rfl ?_
    refine qg_icmp false rfl (qb_eqF (fun z => c46 ((zra_46 hT).mpr z))) rfl ?_
    refine qg_pls (n := 2) (k' := 128) (lo' := [some (.ref 14), some (.int (nI i)), some (.int (zraw T i)), some (.int 1), some (.int 6), x5]) (S' := [.int 59, .int (zraw T i)]) (h' := h) rfl ?_
    refine qg_icmp false rfl (qb_eqF (fun z => c59 ((zra_59 hT).mpr z))) rfl ?_
    refine qg_pls (n := 2) (k' := 131) (lo' := [some (.ref 14), some (.int (nI i)), some (.int (zraw T i)), some (.int 1), some (.int 6), x5]) (S' := [.int 43, .int (zraw T i)]) (h' := h) rfl ?_
    refine qg_icmp true rfl (qb_eqT ((zra_43 hT).mp c43)) rfl ?_
    refine qg_pls (n := 2) (k' := 149) (lo' := [some (.ref 14), some (.int (nI i)), some (.int (zraw T i)), some (.int 1), some (.int 5), x5]) (S' := []) (h' := h) rfl ?_
    exact hg 1 5 _ (zcl_n (n := 1) hs (by decide) (by decide))
  by_cases c45 : zat T i = 45
  · rw [c45] at hs
    refine qg_pls (n := 2) (k' := 116) (lo' := [some (.ref 14), some (.int (nI i)), some (.int (zraw T i)), some (.int 1), some (.int 6), x5]) (S' := [.int 40, .int (zraw T i)]) (h' := h) rfl ?_
    refine qg_icmp false rfl (qb_eqF (fun z => c40 ((zra_40 hT).mpr z))) rfl ?_
    refine qg_pls (n := 2) (k' := 119) (lo' := [some (.ref 14), some (.int (nI i)), some (.int (zraw T i)), some (.int 1), some (.int 6), x5]) (S' := [.int 41, .int (zraw T i)]) (h' := h) rfl ?_
    refine qg_icmp false rfl (qb_eqF (fun z => c41 ((zra_41 hT).mpr z))) rfl ?_
    refine qg_pls (n := 2) (k' := 122) (lo' := [some (.ref 14), some (.int (nI i)), some (.int (zraw T i)), some (.int 1), some (.int 6), x5]) (S' := [.int 44, .int (zraw T i)]) (h' := h) rfl ?_
    refine qg_icmp false rfl (qb_eqF (fun z => c44 ((zra_44 hT).mpr z))) rfl ?_
    refine qg_pls (n := 2) (k' := 125) (lo' := [some (.ref 14), some (.int (nI i)), some (.int (zraw T i)), some (.int 1), some (.int 6), x5]) (S' := [.int 46, .int (zraw T i)]) (h' := h) rfl ?_
    refine qg_icmp false rfl (qb_eqF (fun z => c46 ((zra_46 hT).mpr z))) rfl ?_
    refine qg_pls (n := 2) (k' := 128) (lo' := [some (.ref 14), some (.int (nI i)), some (.int (zraw T i)), some (.int 1), some (.int 6), x5]) (S' := [.int 59, .int (zraw T i)]) (h' := h) rfl ?_
    refine qg_icmp false rfl (qb_eqF (fun z => c59 ((zra_59 hT).mpr z))) rfl ?_
    refine qg_pls (n := 2) (k' := 131) (lo' := [some (.ref 14), some (.int (nI i)), some (.int (zraw T i)), some (.int 1), some (.int 6), x5]) (S' := [.int 43, .int (zraw T i)]) (h' := h) rfl ?_
    refine qg_icmp false rfl (qb_eqF (fun z => c43 ((zra_43 hT).mpr z))) rfl ?_
    refine qg_pls (n := 2) (k' := 134) (lo' := [some (.ref 14), some (.int (nI i)), some (.int (zraw T i)), some (.int 1), some (.int 6), x5]) (S' := [.int 45, .int (zraw T i)]) (h' := h) rfl ?_
    refine qg_icmp true rfl (qb_eqT ((zra_45 hT).mp c45)) rfl ?_
    refine qg_pls (n := 2) (k' := 149) (lo' := [some (.ref 14), some (.int (nI i)), some (.int (zraw T i)), some (.int 1), some (.int 5), x5]) (S' := []) (h' := h) rfl ?_
    exact hg 1 5 _ (zcl_n (n := 1) hs (by decide) (by decide))
  by_cases c42 : zat T i = 42
  · rw [c42] at hs
    refine qg_pls (n := 2) (k' := 116) (lo' := [some (.ref 14), some (.int (nI i)), some (.int (zraw T i)), some (.int 1), some (.int 6), x5]) (S' := [.int 40, .int (zraw T i)]) (h' := h) rfl ?_
    refine qg_icmp false rfl (qb_eqF (fun z => c40 ((zra_40 hT).mpr z))) rfl ?_
    refine qg_pls (n := 2) (k' := 119) (lo' := [some (.ref 14), some (.int (nI i)), some (.int (zraw T i)), some (.int 1), some (.int 6), x5]) (S' := [.int 41, .int (zraw T i)]) (h' := h) rfl ?_
    refine qg_icmp false rfl (qb_eqF (fun z => c41 ((zra_41 hT).mpr z))) rfl ?_
    refine qg_pls (n := 2) (k' := 122) (lo' := [some (.ref 14), some (.int (nI i)), some (.int (zraw T i)), some (.int 1), some (.int 6), x5]) (S' := [.int 44, .int (zraw T i)]) (h' := h) rfl ?_
    refine qg_icmp false rfl (qb_eqF (fun z => c44 ((zra_44 hT).mpr z))) rfl ?_
    refine qg_pls (n := 2) (k' := 125) (lo' := [some (.ref 14), some (.int (nI i)), some (.int (zraw T i)), some (.int 1), some (.int 6), x5]) (S' := [.int 46, .int (zraw T i)]) (h' := h) rfl ?_
    refine qg_icmp false rfl (qb_eqF (fun z => c46 ((zra_46 hT).mpr z))) rfl ?_
    refine qg_pls (n := 2) (k' := 128) (lo' := [some (.ref 14), some (.int (nI i)), some (.int (zraw T i)), some (.int 1), some (.int 6), x5]) (S' := [.int 59, .int (zraw T i)]) (h' := h) rfl ?_
    refine qg_icmp false rfl (qb_eqF (fun z => c59 ((zra_59 hT).mpr z))) rfl ?_
    refine qg_pls (n := 2) (k' := 131) (lo' := [some (.ref 14), some (.int (nI i)), some (.int (zraw T i)), some (.int 1), some (.int 6), x5]) (S' := [.int 43, .int (zraw T i)]) (h' := h) rfl ?_
    refine qg_icmp false rfl (qb_eqF (fun z => c43 ((zra_43 hT).mpr z))) rfl ?_
    refine qg_pls (n := 2) (k' := 134) (lo' := [some (.ref 14), some (.int (nI i)), some (.int (zraw T i)), some (.int 1), some (.int 6), x5]) (S' := [.int 45, .int (zraw T i)]) (h' := h) rfl ?_
    refine qg_icmp false rfl (qb_eqF (fun z => c45 ((zra_45 hT).mpr z))) rfl ?_
    refine qg_pls (n := 2) (k' := 137) (lo' := [some (.ref 14), some (.int (nI i)), some (.int (zraw T i)), some (.int 1), some (.int 6), x5]) (S' := [.int 42, .int (zraw T i)]) (h' := h) rfl ?_
    refine qg_icmp true rfl (qb_eqT ((zra_42 hT).mp c42)) rfl ?_
    refine qg_pls (n := 2) (k' := 149) (lo' := [some (.ref 14), some (.int (nI i)), some (.int (zraw T i)), some (.int 1), some (.int 5), x5]) (S' := []) (h' := h) rfl ?_
    exact hg 1 5 _ (zcl_n (n := 1) hs (by decide) (by decide))
  by_cases c47 : zat T i = 47
  · rw [c47] at hs
    refine qg_pls (n := 2) (k' := 116) (lo' := [some (.ref 14), some (.int (nI i)), some (.int (zraw T i)), some (.int 1), some (.int 6), x5]) (S' := [.int 40, .int (zraw T i)]) (h' := h) rfl ?_
    refine qg_icmp false rfl (qb_eqF (fun z => c40 ((zra_40 hT).mpr z))) rfl ?_
    refine qg_pls (n := 2) (k' := 119) (lo' := [some (.ref 14), some (.int (nI i)), some (.int (zraw T i)), some (.int 1), some (.int 6), x5]) (S' := [.int 41, .int (zraw T i)]) (h' := h) rfl ?_
    refine qg_icmp false rfl (qb_eqF (fun z => c41 ((zra_41 hT).mpr z))) rfl ?_
    refine qg_pls (n := 2) (k' := 122) (lo' := [some (.ref 14), some (.int (nI i)), some (.int (zraw T i)), some (.int 1), some (.int 6), x5]) (S' := [.int 44, .int (zraw T i)]) (h' := h) rfl ?_
    refine qg_icmp false rfl (qb_eqF (fun z => c44 ((zra_44 hT).mpr z))) rfl ?_
    refine qg_pls (n := 2) (k' := 125) (lo' := [some (.ref 14), some (.int (nI i)), some (.int (zraw T i)), some (.int 1), some (.int 6), x5]) (S' := [.int 46, .int (zraw T i)]) (h' := h) rfl ?_
    refine qg_icmp false rfl (qb_eqF (fun z => c46 ((zra_46 hT).mpr z))) rfl ?_
    refine qg_pls (n := 2) (k' := 128) (lo' := [some (.ref 14), some (.int (nI i)), some (.int (zraw T i)), some (.int 1), some (.int 6), x5]) (S' := [.int 59, .int (zraw T i)]) (h' := h) rfl ?_
    refine qg_icmp false rfl (qb_eqF (fun z => c59 ((zra_59 hT).mpr z))) rfl ?_
    refine qg_pls (n := 2) (k' := 131) (lo' := [some (.ref 14), some (.int (nI i)), some (.int (zraw T i)), some (.int 1), some (.int 6), x5]) (S' := [.int 43, .int (zraw T i)]) (h' := h) rfl ?_
    refine qg_icmp false rfl (qb_eqF (fun z => c43 ((zra_43 hT).mpr z))) rfl ?_
    refine qg_pls (n := 2) (k' := 134) (lo' := [some (.ref 14), some (.int (nI i)), some (.int (zraw T i)), some (.int 1), some (.int 6), x5]) (S' := [.int 45, .int (zraw T i)]) (h' := h) rfl ?_
    refine qg_icmp false rfl (qb_eqF (fun z => c45 ((zra_45 hT).mpr z))) rfl ?_
    refine qg_pls (n := 2) (k' := 137) (lo' := [some (.ref 14), some (.int (nI i)), some (.int (zraw T i)), some (.int 1), some (.int 6), x5]) (S' := [.int 42, .int (zraw T i)]) (h' := h) rfl ?_
    refine qg_icmp false rfl (qb_eqF (fun z => c42 ((zra_42 hT).mpr z))) rfl ?_
    refine qg_pls (n := 2) (k' := 140) (lo' := [some (.ref 14), some (.int (nI i)), some (.int (zraw T i)), some (.int 1), some (.int 6), x5]) (S' := [.int 47, .int (zraw T i)]) (h' := h) rfl ?_
    refine qg_icmp true rfl (qb_eqT ((zra_47 hT).mp c47)) rfl ?_
    refine qg_pls (n := 2) (k' := 149) (lo' := [some (.ref 14), some (.int (nI i)), some (.int (zraw T i)), some (.int 1), some (.int 5), x5]) (S' := []) (h' := h) rfl ?_
    exact hg 1 5 _ (zcl_n (n := 1) hs (by decide) (by decide))
  by_cases c37 : zat T i = 37
  · rw [c37] at hs
    refine qg_pls (n := 2) (k' := 116) (lo' := [some (.ref 14), some (.int (nI i)), some (.int (zraw T i)), some (.int 1), some (.int 6), x5]) (S' := [.int 40, .int (zraw T i)]) (h' := h) rfl ?_
    refine qg_icmp false rfl (qb_eqF (fun z => c40 ((zra_40 hT).mpr z))) rfl ?_
    refine qg_pls (n := 2) (k' := 119) (lo' := [some (.ref 14), some (.int (nI i)), some (.int (zraw T i)), some (.int 1), some (.int 6), x5]) (S' := [.int 41, .int (zraw T i)]) (h' := h) rfl ?_
    refine qg_icmp false rfl (qb_eqF (fun z => c41 ((zra_41 hT).mpr z))) rfl ?_
    refine qg_pls (n := 2) (k' := 122) (lo' := [some (.ref 14), some (.int (nI i)), some (.int (zraw T i)), some (.int 1), some (.int 6), x5]) (S' := [.int 44, .int (zraw T i)]) (h' := h) rfl ?_
    refine qg_icmp false rfl (qb_eqF (fun z => c44 ((zra_44 hT).mpr z))) rfl ?_
    refine qg_pls (n := 2) (k' := 125) (lo' := [some (.ref 14), some (.int (nI i)), some (.int (zraw T i)), some (.int 1), some (.int 6), x5]) (S' := [.int 46, .int (zraw T i)]) (h' := h) rfl ?_
    refine qg_icmp false rfl (qb_eqF (fun z => c46 ((zra_46 hT).mpr z))) rfl ?_
    refine qg_pls (n := 2) (k' := 128) (lo' := [some (.ref 14), some (.int (nI i)), some (.int (zraw T i)), some (.int 1), some (.int 6), x5]) (S' := [.int 59, .int (zraw T i)]) (h' := h) rfl ?_
    refine qg_icmp false rfl (qb_eqF (fun z => c59 ((zra_59 hT).mpr z))) rfl ?_
    refine qg_pls (n := 2) (k' := 131) (lo' := [some (.ref 14), some (.int (nI i)), some (.int (zraw T i)), some (.int 1), some (.int 6), x5]) (S' := [.int 43, .int (zraw T i)]) (h' := h) rfl ?_
    refine qg_icmp false rfl (qb_eqF (fun z => c43 ((zra_43 hT).mpr z))) rfl ?_
    refine qg_pls (n := 2) (k' := 134) (lo' := [some (.ref 14), some (.int (nI i)), some (.int (zraw T i)), some (.int 1), some (.int 6), x5]) (S' := [.int 45, .int (zraw T i)]) (h' := h) rfl ?_
    refine qg_icmp false rfl (qb_eqF (fun z => c45 ((zra_45 hT).mpr z))) rfl ?_
    refine qg_pls (n := 2) (k' := 137) (lo' := [some (.ref 14), some (.int (nI i)), some (.int (zraw T i)), some (.int 1), some (.int 6), x5]) (S' := [.int 42, .int (zraw T i)]) (h' := h) rfl ?_
    refine qg_icmp false rfl (qb_eqF (fun z => c42 ((zra_42 hT).mpr z))) rfl ?_
    refine qg_pls (n := 2) (k' := 140) (lo' := [some (.ref 14), some (.int (nI i)), some (.int (zraw T i)), some (.int 1), some (.int 6), x5]) (S' := [.int 47, .int (zraw T i)]) (h' := h) rfl ?_
    refine qg_icmp false rfl (qb_eqF (fun z => c47 ((zra_47 hT).mpr z))) rfl ?_
    refine qg_pls (n := 2) (k' := 143) (lo' := [some (.ref 14), some (.int (nI i)), some (.int (zraw T i)), some (.int 1), some (.int 6), x5]) (S' := [.int 37, .int (zraw T i)]) (h' := h) rfl ?_
    refine qg_icmp true rfl (qb_eqT ((zra_37 hT).mp c37)) rfl ?_
    refine qg_pls (n := 2) (k' := 149) (lo' := [some (.ref 14), some (.int (nI i)), some (.int (zraw T i)), some (.int 1), some (.int 5), x5]) (S' := []) (h' := h) rfl ?_
    exact hg 1 5 _ (zcl_n (n := 1) hs (by decide) (by decide))
  by_cases c61 : zat T i = 61
  · rw [c61] at hs
    refine qg_pls (n := 2) (k' := 116) (lo' := [some (.ref 14), some (.int (nI i)), some (.int (zraw T i)), some (.int 1), some (.int 6), x5]) (S' := [.int 40, .int (zraw T i)]) (h' := h) rfl ?_
    refine qg_icmp false rfl (qb_eqF (fun z => c40 ((zra_40 hT).mpr z))) rfl ?_
    refine qg_pls (n := 2) (k' := 119) (lo' := [some (.ref 14), some (.int (nI i)), some (.int (zraw T i)), some (.int 1), some (.int 6), x5]) (S' := [.int 41, .int (zraw T i)]) (h' := h) rfl ?_
    refine qg_icmp false rfl (qb_eqF (fun z => c41 ((zra_41 hT).mpr z))) rfl ?_
    refine qg_pls (n := 2) (k' := 122) (lo' := [some (.ref 14), some (.int (nI i)), some (.int (zraw T i)), some (.int 1), some (.int 6), x5]) (S' := [.int 44, .int (zraw T i)]) (h' := h) rfl ?_
    refine qg_icmp false rfl (qb_eqF (fun z => c44 ((zra_44 hT).mpr z))) rfl ?_
    refine qg_pls (n := 2) (k' := 125) (lo' := [some (.ref 14), some (.int (nI i)), some (.int (zraw T i)), some (.int 1), some (.int 6), x5]) (S' := [.int 46, .int (zraw T i)]) (h' := h) rfl ?_
    refine qg_icmp false rfl (qb_eqF (fun z => c46 ((zra_46 hT).mpr z))) rfl ?_
    refine qg_pls (n := 2) (k' := 128) (lo' := [some (.ref 14), some (.int (nI i)), some (.int (zraw T i)), some (.int 1), some (.int 6), x5]) (S' := [.int 59, .int (zraw T i)]) (h' := h) rfl ?_
    refine qg_icmp false rfl (qb_eqF (fun z => c59 ((zra_59 hT).mpr z))) rfl ?_
    refine qg_pls (n := 2) (k' := 131) (lo' := [some (.ref 14), some (.int (nI i)), some (.int (zraw T i)), some (.int 1), some (.int 6), x5]) (S' := [.int 43, .int (zraw T i)]) (h' := h) rfl ?_
    refine qg_icmp false rfl (qb_eqF (fun z => c43 ((zra_43 hT).mpr z))) rfl ?_
    refine qg_pls (n := 2) (k' := 134) (lo' := [some (.ref 14), some (.int (nI i)), some (.int (zraw T i)), some (.int 1), some (.int 6), x5]) (S' := [.int 45, .int (zraw T i)]) (h' := h) rfl ?_
    refine qg_icmp false rfl (qb_eqF (fun z => c45 ((zra_45 hT).mpr z))) rfl ?_
    refine qg_pls (n := 2) (k' := 137) (lo' := [some (.ref 14), some (.int (nI i)), some (.int (zraw T i)), some (.int 1), some (.int 6), x5]) (S' := [.int 42, .int (zraw T i)]) (h' := h) rfl ?_
    refine qg_icmp false rfl (qb_eqF (fun z => c42 ((zra_42 hT).mpr z))) rfl ?_
    refine qg_pls (n := 2) (k' := 140) (lo' := [some (.ref 14), some (.int (nI i)), some (.int (zraw T i)), some (.int 1), some (.int 6), x5]) (S' := [.int 47, .int (zraw T i)]) (h' := h) rfl ?_
    refine qg_icmp false rfl (qb_eqF (fun z => c47 ((zra_47 hT).mpr z))) rfl ?_
    refine qg_pls (n := 2) (k' := 143) (lo' := [some (.ref 14), some (.int (nI i)), some (.int (zraw T i)), some (.int 1), some (.int 6), x5]) (S' := [.int 37, .int (zraw T i)]) (h' := h) rfl ?_
    refine qg_icmp false rfl (qb_eqF (fun z => c37 ((zra_37 hT).mpr z))) rfl ?_
    refine qg_pls (n := 2) (k' := 146) (lo' := [some (.ref 14), some (.int (nI i)), some (.int (zraw T i)), some (.int 1), some (.int 6), x5]) (S' := [.int 61, .int (zraw T i)]) (h' := h) rfl ?_
    refine qg_icmp false rfl (qb_neF ((zra_61 hT).mp c61)) rfl ?_
    refine qg_pls (n := 2) (k' := 149) (lo' := [some (.ref 14), some (.int (nI i)), some (.int (zraw T i)), some (.int 1), some (.int 5), x5]) (S' := []) (h' := h) rfl ?_
    exact hg 1 5 _ (zcl_n (n := 1) hs (by decide) (by decide))
  have hz : zone (zat T i) = 103 := by
    unfold zone
    rw [if_neg c40, if_neg c41, if_neg c44, if_neg c46, if_neg c59, if_neg c43, if_neg c45, if_neg c42, if_neg c47, if_neg c37, if_neg c61, if_neg c60, if_neg c62]
  refine qg_pls (n := 2) (k' := 116) (lo' := [some (.ref 14), some (.int (nI i)), some (.int (zraw T i)), some (.int 1), some (.int 6), x5]) (S' := [.int 40, .int (zraw T i)]) (h' := h) rfl ?_
  refine qg_icmp false rfl (qb_eqF (fun z => c40 ((zra_40 hT).mpr z))) rfl ?_
  refine qg_pls (n := 2) (k' := 119) (lo' := [some (.ref 14), some (.int (nI i)), some (.int (zraw T i)), some (.int 1), some (.int 6), x5]) (S' := [.int 41, .int (zraw T i)]) (h' := h) rfl ?_
  refine qg_icmp false rfl (qb_eqF (fun z => c41 ((zra_41 hT).mpr z))) rfl ?_
  refine qg_pls (n := 2) (k' := 122) (lo' := [some (.ref 14), some (.int (nI i)), some (.int (zraw T i)), some (.int 1), some (.int 6), x5]) (S' := [.int 44, .int (zraw T i)]) (h' := h) rfl ?_
  refine qg_icmp false rfl (qb_eqF (fun z => c44 ((zra_44 hT).mpr z))) rfl ?_
  refine qg_pls (n := 2) (k' := 125) (lo' := [some (.ref 14), some (.int (nI i)), some (.int (zraw T i)), some (.int 1), some (.int 6), x5]) (S' := [.int 46, .int (zraw T i)]) (h' := h) rfl ?_
  refine qg_icmp false rfl (qb_eqF (fun z => c46 ((zra_46 hT).mpr z))) rfl ?_
  refine qg_pls (n := 2) (k' := 128) (lo' := [some (.ref 14), some (.int (nI i)), some (.int (zraw T i)), some (.int 1), some (.int 6), x5]) (S' := [.int 59, .int (zraw T i)]) (h' := h) rfl ?_
  refine qg_icmp false rfl (qb_eqF (fun z => c59 ((zra_59 hT).mpr z))) rfl ?_
  refine qg_pls (n := 2) (k' := 131) (lo' := [some (.ref 14), some (.int (nI i)), some (.int (zraw T i)), some (.int 1), some (.int 6), x5]) (S' := [.int 43, .int (zraw T i)]) (h' := h) rfl ?_
  refine qg_icmp false rfl (qb_eqF (fun z => c43 ((zra_43 hT).mpr z))) rfl ?_
  refine qg_pls (n := 2) (k' := 134) (lo' := [some (.ref 14), some (.int (nI i)), some (.int (zraw T i)), some (.int 1), some (.int 6), x5]) (S' := [.int 45, .int (zraw T i)]) (h' := h) rfl ?_
  refine qg_icmp false rfl (qb_eqF (fun z => c45 ((zra_45 hT).mpr z))) rfl ?_
  refine qg_pls (n := 2) (k' := 137) (lo' := [some (.ref 14), some (.int (nI i)), some (.int (zraw T i)), some (.int 1), some (.int 6), x5]) (S' := [.int 42, .int (zraw T i)]) (h' := h) rfl ?_
  refine qg_icmp false rfl (qb_eqF (fun z => c42 ((zra_42 hT).mpr z))) rfl ?_
  refine qg_pls (n := 2) (k' := 140) (lo' := [some (.ref 14), some (.int (nI i)), some (.int (zraw T i)), some (.int 1), some (.int 6), x5]) (S' := [.int 47, .int (zraw T i)]) (h' := h) rfl ?_
  refine qg_icmp false rfl (qb_eqF (fun z => c47 ((zra_47 hT).mpr z))) rfl ?_
  refine qg_pls (n := 2) (k' := 143) (lo' := [some (.ref 14), some (.int (nI i)), some (.int (zraw T i)), some (.int 1), some (.int 6), x5]) (S' := [.int 37, .int (zraw T i)]) (h' := h) rfl ?_
  refine qg_icmp false rfl (qb_eqF (fun z => c37 ((zra_37 hT).mpr z))) rfl ?_
  refine qg_pls (n := 2) (k' := 146) (lo' := [some (.ref 14), some (.int (nI i)), some (.int (zraw T i)), some (.int 1), some (.int 6), x5]) (S' := [.int 61, .int (zraw T i)]) (h' := h) rfl ?_
  refine qg_icmp true rfl (qb_neT (fun z => c61 ((zra_61 hT).mpr z))) rfl ?_
  exact hg 1 6 _ (zcl_6 (by rw [hs]; exact hz))
theorem zrun_ok {p : Int32 → Prop} [DecidablePred p] : ∀ (n j q : Nat), j ≤ q → q < zrun T p n j → p (zat T q) := by
  intro n
  induction n with
  | zero => intro j q h1 h2; exact absurd h2 (by show ¬ q < j; omega)
  | succ n ih =>
    intro j q h1 h2
    unfold zrun at h2
    by_cases hp : p (zat T j)
    · rw [if_pos hp] at h2
      rcases Nat.lt_or_ge j q with z | z
      · exact ih (j + 1) q z h2
      · have : q = j := by omega
        rw [this]; exact hp
    · rw [if_neg hp] at h2
      omega
theorem zlet_nd {c : Int32} (h1 : zlet c) : ¬ zdig c := by
  rintro ⟨a, b⟩
  have b : ¬ 57 < c := b
  rcases h1 with ⟨q, -⟩ | ⟨q, -⟩ | q
  · exact q (Int32.lt_of_le_of_lt (Int32.not_lt.mp b) (by decide))
  · exact q (Int32.lt_of_le_of_lt (Int32.not_lt.mp b) (by decide))
  · rw [q] at b; exact b (by decide)
theorem zat_end {i : Nat} (hi : ¬ i < T.length) : zat T i = -1 := if_neg hi
theorem m_letterC {c : Int32} (h1 : zlet c) : qe L xs (d + 1) 123 [.int c] h (.inl (some (.int 1)), h) := by
  have := m_letter (L := L) (xs := xs) (d := d) (h := h) (c := c)
  rw [if_pos (show (¬ c < 97 ∧ ¬ 122 < c) ∨ (¬ c < 65 ∧ ¬ 90 < c) ∨ c = 95 from h1)] at this
  exact this
theorem m_letterN {c : Int32} (h1 : ¬ zlet c) : qe L xs (d + 1) 123 [.int c] h (.inl (some (.int 0)), h) := by
  have := m_letter (L := L) (xs := xs) (d := d) (h := h) (c := c)
  rw [if_neg (show ¬ ((¬ c < 97 ∧ ¬ 122 < c) ∨ (¬ c < 65 ∧ ¬ 90 < c) ∨ c = 95) from h1)] at this
  exact this
theorem m_digitC {c : Int32} (h1 : zdig c) : qe L xs (d + 1) 124 [.int c] h (.inl (some (.int 1)), h) := by
  have := m_digit (L := L) (xs := xs) (d := d) (h := h) (c := c)
  rw [if_pos h1] at this
  exact this
theorem m_digitN {c : Int32} (h1 : ¬ zdig c) : qe L xs (d + 1) 124 [.int c] h (.inl (some (.int 0)), h) := by
  have := m_digit (L := L) (xs := xs) (d := d) (h := h) (c := c)
  rw [if_neg h1] at this
  exact this
theorem zrun_no {p : Int32 → Prop} [DecidablePred p] {n j : Nat} (hp : ¬ p (zat T j)) : zrun T p n j = j := by
  cases n with
  | zero => rfl
  | succ n => unfold zrun; rw [if_neg hp]
/-- a run of letters and digits -/
theorem m_rtw (hx : mtx h A cnt T) {i : Nat} {x4 x5 : Option Value} : ∀ (n j : Nat), T.length - j = n → i ≤ j → j ≤ T.length → ∀ o, qg L xs (d + 2) qm_122 27 [some (.ref 14), some (.int (nI i)), some (.int (zraw T i)), some (.int (nI (zrun T zofw n j - i))), x4, x5] [] h o → qg L xs (d + 2) qm_122 11 [some (.ref 14), some (.int (nI i)), some (.int (zraw T i)), some (.int (nI (j - i))), x4, x5] [] h o := by
  have hT := hx.2.2.2.1
  have hl := hx.2.2.1
  have hob := hx.1
  intro n
  induction n with
  | zero =>
    intro j hn hij hj o hg
    have e1 : zraw T j = -1 := zraw_end (by omega)
    refine qg_pls (n := 4) (k' := 15) (lo' := [some (.ref 14), some (.int (nI i)), some (.int (zraw T i)), some (.int (nI (j - i))), x4, x5]) (S' := [.int ((nI i) + (nI (j - i))), .ref 14]) (h' := h) rfl ?_
    rw [show nI i + nI (j - i) = nI j by rw [nI_add]; congr 1; omega]
    refine qg_call (v := some (.int (zraw T j))) (h' := h) (as := [.ref 14, .int (nI j)]) rfl rfl rfl rfl rfl rfl rfl (ai_rcv1 rfl rfl hob) (m_byteAt (d := d + 1) hx (by omega)) ?_
    show qg L xs _ qm_122 16 [some (.ref 14), some (.int (nI i)), some (.int (zraw T i)), some (.int (nI (j - i))), x4, x5] [.int (zraw T j)] h _
    rw [e1]
    refine qg_call (v := some (.int 0)) (h' := h) (as := [.int (-1)]) rfl rfl rfl rfl rfl rfl rfl rfl (m_letterN (d := d + 1) (by unfold zlet; decide)) ?_
    show qg L xs _ qm_122 17 [some (.ref 14), some (.int (nI i)), some (.int (zraw T i)), some (.int (nI (j - i))), x4, x5] [.int 0] h _
    refine qg_if false rfl (rfl) rfl ?_
    refine qg_pls (n := 4) (k' := 22) (lo' := [some (.ref 14), some (.int (nI i)), some (.int (zraw T i)), some (.int (nI (j - i))), x4, x5]) (S' := [.int ((nI i) + (nI (j - i))), .ref 14]) (h' := h) rfl ?_
    rw [show nI i + nI (j - i) = nI j by rw [nI_add]; congr 1; omega]
    refine qg_call (v := some (.int (zraw T j))) (h' := h) (as := [.ref 14, .int (nI j)]) rfl rfl rfl rfl rfl rfl rfl (ai_rcv1 rfl rfl hob) (m_byteAt (d := d + 1) hx (by omega)) ?_
    show qg L xs _ qm_122 23 [some (.ref 14), some (.int (nI i)), some (.int (zraw T i)), some (.int (nI (j - i))), x4, x5] [.int (zraw T j)] h _
    rw [e1]
    refine qg_call (v := some (.int 0)) (h' := h) (as := [.int (-1)]) rfl rfl rfl rfl rfl rfl rfl rfl (m_digitN (d := d + 1) (by decide)) ?_
    show qg L xs _ qm_122 24 [some (.ref 14), some (.int (nI i)), some (.int (zraw T i)), some (.int (nI (j - i))), x4, x5] [.int 0] h _
    refine qg_if true rfl (rfl) rfl ?_
    exact hg
  | succ n ih =>
    intro j hn hij hj o hg
    by_cases hw : zofw (zat T j)
    · have e1 : zrun T zofw (n + 1) j = zrun T zofw n (j + 1) := by
        conv => lhs; unfold zrun
        rw [if_pos hw]
      rw [e1] at hg
      have r25 : ∀ o, qg L xs (d + 2) qm_122 25 [some (.ref 14), some (.int (nI i)), some (.int (zraw T i)), some (.int (nI (j - i))), x4, x5] [] h o → qg L xs (d + 2) qm_122 11 [some (.ref 14), some (.int (nI i)), some (.int (zraw T i)), some (.int (nI (j - i))), x4, x5] [] h o := by
        intro o hg
        refine qg_pls (n := 4) (k' := 15) (lo' := [some (.ref 14), some (.int (nI i)), some (.int (zraw T i)), some (.int (nI (j - i))), x4, x5]) (S' := [.int ((nI i) + (nI (j - i))), .ref 14]) (h' := h) rfl ?_
        rw [show nI i + nI (j - i) = nI j by rw [nI_add]; congr 1; omega]
        refine qg_call (v := some (.int (zraw T j))) (h' := h) (as := [.ref 14, .int (nI j)]) rfl rfl rfl rfl rfl rfl rfl (ai_rcv1 rfl rfl hob) (m_byteAt (d := d + 1) hx (by omega)) ?_
        show qg L xs _ qm_122 16 [some (.ref 14), some (.int (nI i)), some (.int (zraw T i)), some (.int (nI (j - i))), x4, x5] [.int (zraw T j)] h _
        by_cases hlt : zlet (zraw T j)
        · skip
          refine qg_call (v := some (.int 1)) (h' := h) (as := [.int (zraw T j)]) rfl rfl rfl rfl rfl rfl rfl rfl (m_letterC (d := d + 1) hlt) ?_
          show qg L xs _ qm_122 17 [some (.ref 14), some (.int (nI i)), some (.int (zraw T i)), some (.int (nI (j - i))), x4, x5] [.int 1] h _
          refine qg_if true rfl (rfl) rfl ?_
          exact hg
        · have hdg : zdig (zraw T j) := by
            rcases (zra_ofw hT).mp hw with z | z
            · exact absurd z hlt
            · exact z
          refine qg_call (v := some (.int 0)) (h' := h) (as := [.int (zraw T j)]) rfl rfl rfl rfl rfl rfl rfl rfl (m_letterN (d := d + 1) hlt) ?_
          show qg L xs _ qm_122 17 [some (.ref 14), some (.int (nI i)), some (.int (zraw T i)), some (.int (nI (j - i))), x4, x5] [.int 0] h _
          refine qg_if false rfl (rfl) rfl ?_
          refine qg_pls (n := 4) (k' := 22) (lo' := [some (.ref 14), some (.int (nI i)), some (.int (zraw T i)), some (.int (nI (j - i))), x4, x5]) (S' := [.int ((nI i) + (nI (j - i))), .ref 14]) (h' := h) rfl ?_
          rw [show nI i + nI (j - i) = nI j by rw [nI_add]; congr 1; omega]
          refine qg_call (v := some (.int (zraw T j))) (h' := h) (as := [.ref 14, .int (nI j)]) rfl rfl rfl rfl rfl rfl rfl (ai_rcv1 rfl rfl hob) (m_byteAt (d := d + 1) hx (by omega)) ?_
          show qg L xs _ qm_122 23 [some (.ref 14), some (.int (nI i)), some (.int (zraw T i)), some (.int (nI (j - i))), x4, x5] [.int (zraw T j)] h _
          refine qg_call (v := some (.int 1)) (h' := h) (as := [.int (zraw T j)]) rfl rfl rfl rfl rfl rfl rfl rfl (m_digitC (d := d + 1) hdg) ?_
          show qg L xs _ qm_122 24 [some (.ref 14), some (.int (nI i)), some (.int (zraw T i)), some (.int (nI (j - i))), x4, x5] [.int 1] h _
          refine qg_if false rfl (rfl) rfl ?_
          exact hg
      refine r25 o ?_
      refine qg_pls (n := 2) (k' := 11) (lo' := [some (.ref 14), some (.int (nI i)), some (.int (zraw T i)), some (.int ((nI (j - i)) + 1)), x4, x5]) (S' := []) (h' := h) rfl ?_
      rw [nI_1, show j - i + 1 = j + 1 - i by omega]
      exact ih (j + 1) (by omega) (by omega) (by omega) o hg
    · rw [zrun_no hw] at hg
      have hnl : ¬ zlet (zraw T j) := fun z => hw ((zra_ofw hT).mpr (Or.inl z))
      have hnd : ¬ zdig (zraw T j) := fun z => hw ((zra_ofw hT).mpr (Or.inr z))
      refine qg_pls (n := 4) (k' := 15) (lo' := [some (.ref 14), some (.int (nI i)), some (.int (zraw T i)), some (.int (nI (j - i))), x4, x5]) (S' := [.int ((nI i) + (nI (j - i))), .ref 14]) (h' := h) rfl ?_
      rw [show nI i + nI (j - i) = nI j by rw [nI_add]; congr 1; omega]
      refine qg_call (v := some (.int (zraw T j))) (h' := h) (as := [.ref 14, .int (nI j)]) rfl rfl rfl rfl rfl rfl rfl (ai_rcv1 rfl rfl hob) (m_byteAt (d := d + 1) hx (by omega)) ?_
      show qg L xs _ qm_122 16 [some (.ref 14), some (.int (nI i)), some (.int (zraw T i)), some (.int (nI (j - i))), x4, x5] [.int (zraw T j)] h _
      refine qg_call (v := some (.int 0)) (h' := h) (as := [.int (zraw T j)]) rfl rfl rfl rfl rfl rfl rfl rfl (m_letterN (d := d + 1) hnl) ?_
      show qg L xs _ qm_122 17 [some (.ref 14), some (.int (nI i)), some (.int (zraw T i)), some (.int (nI (j - i))), x4, x5] [.int 0] h _
      refine qg_if false rfl (rfl) rfl ?_
      refine qg_pls (n := 4) (k' := 22) (lo' := [some (.ref 14), some (.int (nI i)), some (.int (zraw T i)), some (.int (nI (j - i))), x4, x5]) (S' := [.int ((nI i) + (nI (j - i))), .ref 14]) (h' := h) rfl ?_
      rw [show nI i + nI (j - i) = nI j by rw [nI_add]; congr 1; omega]
      refine qg_call (v := some (.int (zraw T j))) (h' := h) (as := [.ref 14, .int (nI j)]) rfl rfl rfl rfl rfl rfl rfl (ai_rcv1 rfl rfl hob) (m_byteAt (d := d + 1) hx (by omega)) ?_
      show qg L xs _ qm_122 23 [some (.ref 14), some (.int (nI i)), some (.int (zraw T i)), some (.int (nI (j - i))), x4, x5] [.int (zraw T j)] h _
      refine qg_call (v := some (.int 0)) (h' := h) (as := [.int (zraw T j)]) rfl rfl rfl rfl rfl rfl rfl rfl (m_digitN (d := d + 1) hnd) ?_
      show qg L xs _ qm_122 24 [some (.ref 14), some (.int (nI i)), some (.int (zraw T i)), some (.int (nI (j - i))), x4, x5] [.int 0] h _
      refine qg_if true rfl (rfl) rfl ?_
      exact hg
/-- a run of digits -/
theorem m_rtd (hx : mtx h A cnt T) {i : Nat} {x4 x5 : Option Value} : ∀ (n j : Nat), T.length - j = n → i ≤ j → j ≤ T.length → ∀ o, qg L xs (d + 2) qm_122 47 [some (.ref 14), some (.int (nI i)), some (.int (zraw T i)), some (.int (nI (zrun T zdig n j - i))), x4, x5] [] h o → qg L xs (d + 2) qm_122 38 [some (.ref 14), some (.int (nI i)), some (.int (zraw T i)), some (.int (nI (j - i))), x4, x5] [] h o := by
  have hT := hx.2.2.2.1
  have hl := hx.2.2.1
  have hob := hx.1
  intro n
  induction n with
  | zero =>
    intro j hn hij hj o hg
    have e1 : zraw T j = -1 := zraw_end (by omega)
    refine qg_pls (n := 4) (k' := 42) (lo' := [some (.ref 14), some (.int (nI i)), some (.int (zraw T i)), some (.int (nI (j - i))), x4, x5]) (S' := [.int ((nI i) + (nI (j - i))), .ref 14]) (h' := h) rfl ?_
    rw [show nI i + nI (j - i) = nI j by rw [nI_add]; congr 1; omega]
    refine qg_call (v := some (.int (zraw T j))) (h' := h) (as := [.ref 14, .int (nI j)]) rfl rfl rfl rfl rfl rfl rfl (ai_rcv1 rfl rfl hob) (m_byteAt (d := d + 1) hx (by omega)) ?_
    show qg L xs _ qm_122 43 [some (.ref 14), some (.int (nI i)), some (.int (zraw T i)), some (.int (nI (j - i))), x4, x5] [.int (zraw T j)] h _
    rw [e1]
    refine qg_call (v := some (.int 0)) (h' := h) (as := [.int (-1)]) rfl rfl rfl rfl rfl rfl rfl rfl (m_digitN (d := d + 1) (by decide)) ?_
    show qg L xs _ qm_122 44 [some (.ref 14), some (.int (nI i)), some (.int (zraw T i)), some (.int (nI (j - i))), x4, x5] [.int 0] h _
    refine qg_if true rfl (rfl) rfl ?_
    exact hg
  | succ n ih =>
    intro j hn hij hj o hg
    have r44 : ∀ (b : Nat) o, qe L xs (d + 2) 124 [.int (zraw T j)] h (.inl (some (.int (nI b))), h) → qg L xs (d + 2) qm_122 44 [some (.ref 14), some (.int (nI i)), some (.int (zraw T i)), some (.int (nI (j - i))), x4, x5] [.int (nI b)] h o → qg L xs (d + 2) qm_122 38 [some (.ref 14), some (.int (nI i)), some (.int (zraw T i)), some (.int (nI (j - i))), x4, x5] [] h o := by
      intro b o hq hg
      refine qg_pls (n := 4) (k' := 42) (lo' := [some (.ref 14), some (.int (nI i)), some (.int (zraw T i)), some (.int (nI (j - i))), x4, x5]) (S' := [.int ((nI i) + (nI (j - i))), .ref 14]) (h' := h) rfl ?_
      rw [show nI i + nI (j - i) = nI j by rw [nI_add]; congr 1; omega]
      refine qg_call (v := some (.int (zraw T j))) (h' := h) (as := [.ref 14, .int (nI j)]) rfl rfl rfl rfl rfl rfl rfl (ai_rcv1 rfl rfl hob) (m_byteAt (d := d + 1) hx (by omega)) ?_
      show qg L xs _ qm_122 43 [some (.ref 14), some (.int (nI i)), some (.int (zraw T i)), some (.int (nI (j - i))), x4, x5] [.int (zraw T j)] h _
      refine qg_call (v := some (.int (nI b))) (h' := h) (as := [.int (zraw T j)]) rfl rfl rfl rfl rfl rfl rfl rfl (hq) ?_
      show qg L xs _ qm_122 44 [some (.ref 14), some (.int (nI i)), some (.int (zraw T i)), some (.int (nI (j - i))), x4, x5] [.int (nI b)] h _
      exact hg
    by_cases hw : zdig (zat T j)
    · have e1 : zrun T zdig (n + 1) j = zrun T zdig n (j + 1) := by
        conv => lhs; unfold zrun
        rw [if_pos hw]
      rw [e1] at hg
      refine r44 1 o (m_digitC (d := d + 1) ((zra_dig hT).mp hw)) ?_
      refine qg_if false rfl (rfl) rfl ?_
      refine qg_pls (n := 2) (k' := 38) (lo' := [some (.ref 14), some (.int (nI i)), some (.int (zraw T i)), some (.int ((nI (j - i)) + 1)), x4, x5]) (S' := []) (h' := h) rfl ?_
      rw [nI_1, show j - i + 1 = j + 1 - i by omega]
      exact ih (j + 1) (by omega) (by omega) (by omega) o hg
    · rw [zrun_no hw] at hg
      refine r44 0 o (m_digitN (d := d + 1) (fun z => hw ((zra_dig hT).mpr z))) ?_
      refine qg_if true rfl (rfl) rfl ?_
      exact hg
theorem zstr_len : ∀ (m i n : Nat), n ≤ 201 → (zstr T m i n).1 = 101 → (zstr T m i n).2 ≤ i + 2 * (201 - n) + 1 := by
  intro m
  induction m using Nat.strongRecOn with
  | _ m ih =>
  intro i n hn h1
  by_cases hb : 200 < n
  · rw [zstr_big m i n hb] at h1; cases h1
  cases m with
  | zero => cases h1
  | succ m =>
    by_cases q1 : zat T i = 39
    · by_cases q2 : zat T (i + 1) = 39
      · cases m with
        | zero => simp [zstr, q1, q2] at h1
        | succ m =>
          rw [zstr_2 q1 q2] at h1 ⊢
          have := ih m (by omega) (i + 2) (n + 1) (by omega) h1
          omega
      · rw [zstr_1 q1 q2]
        dsimp only
        omega
    · by_cases q2 : zat T i < 32 ∨ 126 < zat T i
      · rw [zstr_3 q1 q2] at h1; cases h1
      · rw [zstr_4 q1 q2] at h1 ⊢
        have := ih m (by omega) (i + 1) (n + 1) (by omega) h1
        omega
/-- QueryReaderModel.readToken, up to its sort -/
theorem m_rt (hx : mtx h A cnt T) {i : Nat} (hi : i < T.length) : ∀ o, (∀ (sz : Int32) (c : Nat) (x5 : Option Value), zcl T i sz c → qg L xs (d + 2) qm_122 149 [some (.ref 14), some (.int (nI i)), some (.int (zraw T i)), some (.int sz), some (.int (nI c)), x5] [] h o) → qe L xs (d + 3) 122 [.ref 14, .int (nI i)] h o := by
  intro o hg
  have hT := hx.2.2.2.1
  have hl := hx.2.2.1
  have hob := hx.1
  have hne : ¬ zat T i = -1 := by
    rcases zat_nI T i with ⟨-, q⟩ | ⟨-, m, hm, em⟩
    · exact absurd hi q
    · rw [em]
      intro q
      have := nI_pos (n := m) (by omega)
      rw [q] at this
      exact this (by decide)
  have r9 : ∀ (b : Nat) o, qe L xs (d + 2) 123 [.int (zraw T i)] h (.inl (some (.int (nI b))), h) → qg L xs (d + 2) qm_122 10 [some (.ref 14), some (.int (nI i)), some (.int (zraw T i)), some (.int 1), some (.int 6), none] [.int (nI b)] h o → qe L xs (d + 3) 122 [.ref 14, .int (nI i)] h o := by
    intro b o hq hg
    refine qe_of (M := qm_122) rfl rfl ?_
    show qg L xs _ qm_122 0 [some (.ref 14), some (.int (nI i)), none, none, none, none] [] h _
    refine qg_pls (n := 2) (k' := 2) (lo' := [some (.ref 14), some (.int (nI i)), none, none, none, none]) (S' := [.int (nI i), .ref 14]) (h' := h) rfl ?_
    refine qg_call (v := some (.int (zraw T i))) (h' := h) (as := [.ref 14, .int (nI i)]) rfl rfl rfl rfl rfl rfl rfl (ai_rcv1 rfl rfl hob) (m_byteAt (d := d + 1) hx (by omega)) ?_
    show qg L xs _ qm_122 3 [some (.ref 14), some (.int (nI i)), none, none, none, none] [.int (zraw T i)] h _
    refine qg_pls (n := 6) (k' := 9) (lo' := [some (.ref 14), some (.int (nI i)), some (.int (zraw T i)), some (.int 1), some (.int 6), none]) (S' := [.int (zraw T i)]) (h' := h) rfl ?_
    refine qg_call (v := some (.int (nI b))) (h' := h) (as := [.int (zraw T i)]) rfl rfl rfl rfl rfl rfl rfl rfl (hq) ?_
    show qg L xs _ qm_122 10 [some (.ref 14), some (.int (nI i)), some (.int (zraw T i)), some (.int 1), some (.int 6), none] [.int (nI b)] h _
    exact hg
  by_cases hlt : zlet (zraw T i)
  · have hw : zofw (zat T i) := (zra_ofw hT).mpr (Or.inl hlt)
    have hnd : ¬ zdig (zat T i) := fun z => zlet_nd hlt ((zra_dig hT).mp z)
    have e1 : zrun T zofw (T.length - i) i = zrun T zofw (T.length - (i + 1)) (i + 1) := by
      rw [show T.length - i = T.length - (i + 1) + 1 by omega]
      conv => lhs; unfold zrun
      rw [if_pos hw]
    have e2 : ztok T i = (if 30 < zrun T zofw (T.length - i) i - i then 103 else zkey (zup T i (zrun T zofw (T.length - i) i)), zrun T zofw (T.length - i) i) := by
      unfold ztok
      rw [if_neg hne, if_neg hnd, if_pos hw]
    have hle := zrun_le (t := T) (p := zofw) (T.length - i) i
    have hle2 := zrun_le (t := T) (p := zofw) (T.length - (i + 1)) (i + 1)
    refine r9 1 o (m_letterC (d := d + 1) hlt) ?_
    refine qg_if false rfl (rfl) rfl ?_
    have := m_rtw (L := L) (xs := xs) (d := d) (i := i) (x4 := some (.int 6)) (x5 := none) hx _ (i + 1) rfl (by omega) (by omega) o
    rw [Nat.add_sub_cancel_left, ← e1] at this
    refine this ?_
    refine qg_pls (n := 2) (k' := 29) (lo' := [some (.ref 14), some (.int (nI i)), some (.int (zraw T i)), some (.int (nI (zrun T zofw (T.length - i) i - i))), some (.int 6), none]) (S' := [.int 30, .int (nI (zrun T zofw (T.length - i) i - i))]) (h' := h) rfl ?_
    by_cases h30 : 30 < zrun T zofw (T.length - i) i - i
    · rw [if_pos h30] at e2
      refine qg_icmp true rfl (qc_gtT (b := 30) h30 (by omega)) rfl ?_
      refine qg_pls (n := 3) (k' := 149) (lo' := [some (.ref 14), some (.int (nI i)), some (.int (zraw T i)), some (.int (nI (zrun T zofw (T.length - i) i - i))), some (.int 6), none]) (S' := []) (h' := h) rfl ?_
      exact hg _ 6 _ (zcl_6 (by rw [e2]))
    · rw [if_neg h30] at e2
      refine qg_icmp false rfl (qc_gtF (b := 30) (by omega) (by decide)) rfl ?_
      refine qg_pls (n := 4) (k' := 149) (lo' := [some (.ref 14), some (.int (nI i)), some (.int (zraw T i)), some (.int (nI (zrun T zofw (T.length - i) i - i))), some (.int 2), none]) (S' := []) (h' := h) rfl ?_
      refine hg _ 2 _ (zcl_n (k := zkey (zup T i (zrun T zofw (T.length - i) i))) (n := zrun T zofw (T.length - i) i - i) (by rw [e2]; congr 1; omega) (by omega) ?_)
      unfold zs0
      rcases zkey_lt (zup T i (zrun T zofw (T.length - i) i)) with z | z
      · rw [if_pos z]
      · rw [z]; decide
  refine r9 0 o (m_letterN (d := d + 1) hlt) ?_
  have r37 : ∀ (b : Nat) o, qe L xs (d + 2) 124 [.int (zraw T i)] h (.inl (some (.int (nI b))), h) → qg L xs (d + 2) qm_122 37 [some (.ref 14), some (.int (nI i)), some (.int (zraw T i)), some (.int 1), some (.int 6), none] [.int (nI b)] h o → qg L xs (d + 2) qm_122 10 [some (.ref 14), some (.int (nI i)), some (.int (zraw T i)), some (.int 1), some (.int 6), none] [.int (nI 0)] h o := by
    intro b o hq hg
    refine qg_if true rfl (rfl) rfl ?_
    refine qg_pls (n := 1) (k' := 36) (lo' := [some (.ref 14), some (.int (nI i)), some (.int (zraw T i)), some (.int 1), some (.int 6), none]) (S' := [.int (zraw T i)]) (h' := h) rfl ?_
    refine qg_call (v := some (.int (nI b))) (h' := h) (as := [.int (zraw T i)]) rfl rfl rfl rfl rfl rfl rfl rfl (hq) ?_
    show qg L xs _ qm_122 37 [some (.ref 14), some (.int (nI i)), some (.int (zraw T i)), some (.int 1), some (.int 6), none] [.int (nI b)] h _
    exact hg
  by_cases hdg : zdig (zraw T i)
  · have hd : zdig (zat T i) := (zra_dig hT).mpr hdg
    have e1 : zrun T zdig (T.length - i) i = zrun T zdig (T.length - (i + 1)) (i + 1) := by
      rw [show T.length - i = T.length - (i + 1) + 1 by omega]
      conv => lhs; unfold zrun
      rw [if_pos hd]
    have e2 : ztok T i = (if 18 < zrun T zdig (T.length - i) i - i then 103 else 100, zrun T zdig (T.length - i) i) := by
      unfold ztok
      rw [if_neg hne, if_pos hd]
    have hle := zrun_le (t := T) (p := zdig) (T.length - i) i
    refine r37 1 o (m_digitC (d := d + 1) hdg) ?_
    refine qg_if false rfl (rfl) rfl ?_
    have := m_rtd (L := L) (xs := xs) (d := d) (i := i) (x4 := some (.int 6)) (x5 := none) hx _ (i + 1) rfl (by omega) (by omega) o
    rw [Nat.add_sub_cancel_left, ← e1] at this
    refine this ?_
    refine qg_pls (n := 2) (k' := 49) (lo' := [some (.ref 14), some (.int (nI i)), some (.int (zraw T i)), some (.int (nI (zrun T zdig (T.length - i) i - i))), some (.int 6), none]) (S' := [.int 18, .int (nI (zrun T zdig (T.length - i) i - i))]) (h' := h) rfl ?_
    by_cases h18 : 18 < zrun T zdig (T.length - i) i - i
    · rw [if_pos h18] at e2
      refine qg_icmp true rfl (qc_gtT (b := 18) h18 (by omega)) rfl ?_
      refine qg_pls (n := 3) (k' := 149) (lo' := [some (.ref 14), some (.int (nI i)), some (.int (zraw T i)), some (.int (nI (zrun T zdig (T.length - i) i - i))), some (.int 6), none]) (S' := []) (h' := h) rfl ?_
      exact hg _ 6 _ (zcl_6 (by rw [e2]))
    · rw [if_neg h18] at e2
      refine qg_icmp false rfl (qc_gtF (b := 18) (by omega) (by decide)) rfl ?_
      refine qg_pls (n := 4) (k' := 149) (lo' := [some (.ref 14), some (.int (nI i)), some (.int (zraw T i)), some (.int (nI (zrun T zdig (T.length - i) i - i))), some (.int 3), none]) (S' := []) (h' := h) rfl ?_
      exact hg _ 3 _ (zcl_n (k := 100) (n := zrun T zdig (T.length - i) i - i) (by rw [e2]; congr 1; omega) (by omega) (by decide))
  have hnd : ¬ zdig (zat T i) := fun z => hdg ((zra_dig hT).mp z)
  have hnw : ¬ zofw (zat T i) := fun z => by
    rcases (zra_ofw hT).mp z with q | q
    · exact hlt q
    · exact hdg q
  refine r37 0 o (m_digitN (d := d + 1) hdg) ?_
  have r57 : ∀ o, qg L xs (d + 2) qm_122 57 [some (.ref 14), some (.int (nI i)), some (.int (zraw T i)), some (.int 1), some (.int 6), none] [.int 39, .int (zraw T i)] h o → qg L xs (d + 2) qm_122 37 [some (.ref 14), some (.int (nI i)), some (.int (zraw T i)), some (.int 1), some (.int 6), none] [.int (nI 0)] h o := by
    intro o hg
    refine qg_if true rfl (rfl) rfl ?_
    refine qg_pls (n := 2) (k' := 57) (lo' := [some (.ref 14), some (.int (nI i)), some (.int (zraw T i)), some (.int 1), some (.int 6), none]) (S' := [.int 39, .int (zraw T i)]) (h' := h) rfl ?_
    exact hg
  refine r57 o ?_
  by_cases c39 : zat T i = 39
  · have e2 : ztok T i = ((zstr T (T.length - (i + 1)) (i + 1) 0).1, if (zstr T (T.length - (i + 1)) (i + 1) 0).2 = 0 then i else (zstr T (T.length - (i + 1)) (i + 1) 0).2) := by
      unfold ztok
      rw [if_neg hne, if_neg hnd, if_neg hnw, if_pos c39]
    obtain ⟨s1, s2, s3⟩ := zstr_le (t := T) (T.length - (i + 1)) (i + 1) 0
    have hsv := m_string (L := L) (xs := xs) (d := d) hx hi
    have road : ∀ o, qg L xs (d + 2) qm_122 63 [some (.ref 14), some (.int (nI i)), some (.int (zraw T i)), some (.int (zsv T i (T.length - (i + 1)) (i + 1) 0)), some (.int 6), none] [.int (zsv T i (T.length - (i + 1)) (i + 1) 0)] h o → qg L xs (d + 2) qm_122 57 [some (.ref 14), some (.int (nI i)), some (.int (zraw T i)), some (.int 1), some (.int 6), none] [.int 39, .int (zraw T i)] h o := by
      intro o hg
      refine qg_icmp false rfl (qb_neF ((zra_39 hT).mp c39)) rfl ?_
      refine qg_pls (n := 2) (k' := 60) (lo' := [some (.ref 14), some (.int (nI i)), some (.int (zraw T i)), some (.int 1), some (.int 6), none]) (S' := [.int (nI i), .ref 14]) (h' := h) rfl ?_
      refine qg_call (v := some (.int (zsv T i (T.length - (i + 1)) (i + 1) 0))) (h' := h) (as := [.ref 14, .int (nI i)]) rfl rfl rfl rfl rfl rfl rfl (ai_rcv1 rfl rfl hob) (hsv) ?_
      show qg L xs _ qm_122 61 [some (.ref 14), some (.int (nI i)), some (.int (zraw T i)), some (.int 1), some (.int 6), none] [.int (zsv T i (T.length - (i + 1)) (i + 1) 0)] h _
      refine qg_pls (n := 2) (k' := 63) (lo' := [some (.ref 14), some (.int (nI i)), some (.int (zraw T i)), some (.int (zsv T i (T.length - (i + 1)) (i + 1) 0)), some (.int 6), none]) (S' := [.int (zsv T i (T.length - (i + 1)) (i + 1) 0)]) (h' := h) rfl ?_
      exact hg
    refine road o ?_
    by_cases h101 : (zstr T (T.length - (i + 1)) (i + 1) 0).1 = 101
    · have hlen := zstr_len (T := T) (T.length - (i + 1)) (i + 1) 0 (by decide) h101
      have h0 : ¬ (zstr T (T.length - (i + 1)) (i + 1) 0).2 = 0 := fun z => by
        rw [s2 z] at h101; cases h101
      have hgt : i + 1 < (zstr T (T.length - (i + 1)) (i + 1) 0).2 := by
        rcases s3 with z | z
        · exact absurd z h0
        · exact z.1
      have ev : zsv T i (T.length - (i + 1)) (i + 1) 0 = nI ((zstr T (T.length - (i + 1)) (i + 1) 0).2 - i) := by
        unfold zsv
        rw [if_pos h101]
      rw [ev]
      rw [h101, if_neg h0] at e2
      refine qg_if false rfl (qc_leF (b := 0) (by omega) (by omega)) rfl ?_
      refine qg_pls (n := 4) (k' := 149) (lo' := [some (.ref 14), some (.int (nI i)), some (.int (zraw T i)), some (.int (nI ((zstr T (T.length - (i + 1)) (i + 1) 0).2 - i))), some (.int 4), none]) (S' := []) (h' := h) rfl ?_
      exact hg _ 4 _ (zcl_n (k := 101) (n := (zstr T (T.length - (i + 1)) (i + 1) 0).2 - i) (by rw [e2]; congr 1; omega) (by omega) (by decide))
    · have h103 : (zstr T (T.length - (i + 1)) (i + 1) 0).1 = 103 := by
        rcases s1 with z | z
        · exact z
        · exact absurd z h101
      have ev : zsv T i (T.length - (i + 1)) (i + 1) 0 = -1 := by
        unfold zsv
        rw [if_neg h101]
      rw [ev]
      refine qg_if true rfl (rfl) rfl ?_
      refine qg_pls (n := 3) (k' := 149) (lo' := [some (.ref 14), some (.int (nI i)), some (.int (zraw T i)), some (.int (-1)), some (.int 6), none]) (S' := []) (h' := h) rfl ?_
      exact hg _ 6 _ (zcl_6 (by rw [e2]; exact h103))
  · have e2 : ztok T i = if ztwo (zat T i) (zat T (i + 1)) = 103 then (zone (zat T i), i + 1) else (ztwo (zat T i) (zat T (i + 1)), i + 2) := by
      unfold ztok
      rw [if_neg hne, if_neg hnd, if_neg hnw, if_neg c39]
    refine qg_icmp true rfl (qb_neT (fun z => c39 ((zra_39 hT).mpr z))) rfl ?_
    exact m_rtsign hx hi e2 o hg
end MRC
