/-! THE MODEL, WHILE IT READS A STATEMENT: its cells and the picture. (The rules are those of part 81a, for the model's cells.) -/
section MGR
variable {L : Nat} {xs : Nat → Int32} {d : Nat} {M : ai_M} {k k' : Nat} {lo lo' : ai_L} {S S' : List Value} {h h' : ai_H} {o : ai_O}
/-- a token's sort in the model -/
def zcode (k : Nat) : Nat := if k < 82 then 1 else if k < 99 then 5 else if k = 99 then 2 else if k = 100 then 3 else if k = 101 then 4 else if k = 102 then 7 else 6
/-- a token in the plain form -/
def zit (e : zE) (i : Nat) : List Int32 := if ztk e i < 99 then zw (ztk e i) else if ztk e i = 99 then (zsl e i).map zsm else if ztk e i = 100 then znz (zsl e i) else zsl e i
/-- what stays of the tokens and of the text -/
def mtk (e : zE) (Y : Nat → Option ai_C) : Prop := ∃ (gw : Nat → Value) (ft f1 fk fz : Nat → Int32), Y 15 = some (ai_refs "java/lang/String" 82 gw) ∧ (∀ j, j < 82 → gw j = .retAddr (qr_en.getD j (0, 0)).1) ∧ Y 17 = some (ai_num .byte 65536 ft) ∧ e.2.length ≤ 65536 ∧ (∀ j, j < e.2.length → ft j = e.2.getD j 0) ∧ Y 18 = some (ai_num .int 65538 f1) ∧ Y 19 = some (ai_num .byte 65538 fk) ∧ Y 20 = some (ai_num .short 65538 fz) ∧ (∀ i, i < e.1.length → f1 i = nI (zfr e i) ∧ fk i = nI (zcode (ztk e i)) ∧ (ztk e i < 102 → fz i = nI (zto e i - zfr e i))) ∧ (∀ x ∈ e.2, zb x = x) ∧ e = zen e.2
/-- fields that stay: thrown, taped, length, count, statement, fault -/
abbrev mX : Type := Value × Value × Value × Value × Value × Value
/-- room that is left for brackets, for items; ghosts (places of brackets that are to come); fields; cells and slots that were made; marks (places, and items that stay there) -/
abbrev mK : Type := Nat × Nat × List Nat × mX × (Nat × Nat) × List (Nat × Nat)
abbrev mobj (X : mX) (at_ kept open_ deep : Nat) (bg en md : Value) (wt : Nat) : ai_C := ai_obj 5 [.ref 15, X.1, .ref 16, X.2.1, .ref 17, X.2.2.1, X.2.2.2.1, .ref 18, .ref 19, .ref 20, .int (nI at_), .int (nI kept), .ref 21, .ref 22, .int (nI open_), .int (nI deep), X.2.2.2.2.1, X.2.2.2.2.2, bg, en, md, .int (nI wt), .ref 23, .ref 24, .ref 25]
/-- how many brackets of those that wait, or are to come, stand before the k-th item -/
def jn (U : List Nat) (W : zK) (J : List zJ) (k : Nat) : Nat := (W.map Prod.fst ++ U).count (jo J k)
def jsum : List zJ → Nat
  | [] => 0
  | a :: J => a.2.2.1 + jsum J
/-- the item's number stands for its text -/
def jc (e : zE) (a : zJ) : Prop := (∃ i, i < e.1.length ∧ ztk e i < 102 ∧ a.1 = nI i ∧ a.2.1 = zit e i) ∨ (∃ k, k < 82 ∧ a.1 = -1 - nI k ∧ a.2.1 = zw k)
/-- the model's cells show the state s and the waiting operators W -/
def mcs0 (e : zE) (Y : Nat → Option ai_C) (K : mK) (W : zK) (s : zS) (h : ai_H) (J : List zJ) (bg en md : Value) : Prop := ∃ (rf bf wr wf : Nat → Int32), h.1[14]? = some (mobj K.2.2.2.1 s.1 J.length s.2.1 s.2.2.1 bg en md W.length) ∧ h.1[21]? = some (ai_num .int 131072 rf) ∧ h.1[22]? = some (ai_num .int 131072 bf) ∧ h.1[23]? = some (ai_num .int 512 wr) ∧ h.1[24]? = some (ai_num .int 512 wf) ∧ s.2.2.2.2 = jr J ∧ (∀ k a, J[k]? = some a → rf k = a.1 ∧ jc e a ∧ bf k = nI (a.2.2.1 - jn K.2.2.1 W J k + 65536 * a.2.2.2) ∧ jn K.2.2.1 W J k ≤ a.2.2.1 ∧ a.2.2.2 ≤ 400) ∧ (∀ i q, W.reverse[i]? = some q → wr i = nI q.2 ∧ q.2 ≤ 9 ∧ ∃ k, k < J.length ∧ wf i = nI k ∧ jo J k = q.1) ∧ ((∀ u ∈ K.2.2.1, ∃ k, k < J.length ∧ jo J k = u) ∧ ∀ m ∈ K.2.2.2.2.2, m.2 ≤ J.length ∧ jo J m.2 = m.1) ∧ (s.1 < e.1.length ∧ s.2.1 ≤ 40 ∧ s.2.2.1 ≤ 40 ∧ s.2.2.2.1 = W.length ∧ W.length ≤ 300) ∧ (J.length + K.2.1 ≤ 2 * zfr e s.1 ∧ jsum J + K.1 ≤ zfr e s.1 ∧ K.2.2.1.length ≤ 95) ∧ (∀ a, J[J.length - 1]? = some a → a.2.2.2 + W.length + K.2.2.1.length ≤ 400) ∧ (∀ i c, Y i = some c → h.1[i]? = some c) ∧ (Y 14 = none ∧ Y 21 = none ∧ Y 22 = none ∧ Y 23 = none ∧ Y 24 = none) ∧ h.2 = K.2.2.2.2.1
def mcs (e : zE) (Y : Nat → Option ai_C) (K : mK) (W : zK) (s : zS) (h : ai_H) : Prop := ∃ J bg en md, mcs0 e Y K W s h J bg en md
/-- after a fault: where, and the most that were open -/
def mbad (e : zE) (Y : Nat → Option ai_C) (K : mK) (s : zS) (h : ai_H) : Prop := ∃ (rf bf wr wf : Nat → Int32) (kept op wt : Nat) (bg en md : Value), h.1[14]? = some (mobj K.2.2.2.1 s.1 kept op s.2.2.1 bg en md wt) ∧ h.1[21]? = some (ai_num .int 131072 rf) ∧ h.1[22]? = some (ai_num .int 131072 bf) ∧ h.1[23]? = some (ai_num .int 512 wr) ∧ h.1[24]? = some (ai_num .int 512 wf) ∧ (s.1 < e.1.length ∧ s.2.2.1 ≤ 40) ∧ (∀ i c, Y i = some c → h.1[i]? = some c) ∧ h.2 = (K.2.2.2.2.1.1 + 1, K.2.2.2.2.1.2 + 6)
theorem mcs_bad {e : zE} {Y : Nat → Option ai_C} {K : mK} {W : zK} {s : zS} (hc : mcs e Y K W s h) : mbad e Y K s (h.1, h.2.1 + 1, h.2.2 + 6) := by
  obtain ⟨J, bg, en, md, rf, bf, wr, wf, c1, c2, c3, c4, c5, c6, c7, c8, cu, c9, c10, c11, c12, c13, c14⟩ := hc
  exact ⟨rf, bf, wr, wf, J.length, s.2.1, W.length, bg, en, md, c1, c2, c3, c4, c5, ⟨c9.1, c9.2.2.1⟩, c12, by rw [c14]⟩
variable {e : zE} {Y : Nat → Option ai_C} {K : mK} {P : zK} {s s' : zS}
def mpost (e : zE) (Y : Nat → Option ai_C) (K : mK) (P : zK) (v : Option Nat) (s' : zS) (h' : ai_H) : Prop := match v with
  | some _ => mcs e Y K P s' h'
  | none => mbad e Y K s' h'
/-- the call does what the piece f does -/
def mim (L : Nat) (xs : Nat → Int32) (e : zE) (Y : Nat → Option ai_C) (K : mK) (d mi : Nat) (as : List Value) (md : Nat) (f : zP) : Prop := ∀ P s h v s', mcs e Y K P s h → f s = some (v, s') → ∃ h', qe L xs d mi as h (qout md v, h') ∧ mpost e Y K P v s' h'
theorem mim_up {d' mi md : Nat} {as : List Value} {f : zP} (hi : mim L xs e Y K d mi as md f) (hd : d ≤ d') : mim L xs e Y K d' mi as md f := by
  intro P s h v s' hc hf
  obtain ⟨h', g1, g2⟩ := hi P s h v s' hc hf
  exact ⟨h', qe_up hd g1, g2⟩
/-- from this place the body does what r says -/
def msm (L : Nat) (xs : Nat → Int32) (e : zE) (Y : Nat → Option ai_C) (K : mK) (d : Nat) (M : ai_M) (k : Nat) (lo : ai_L) (S : List Value) (h : ai_H) (md : Nat) (P : zK) (r : zR Nat) : Prop := ∀ v s', r = some (v, s') → ∃ h', qg L xs d M k lo S h (qout md v, h') ∧ mpost e Y K P v s' h'
theorem msm_st {md : Nat} {r : zR Nat} (st : ∀ o, qg L xs d M k' lo' S' h' o → qg L xs d M k lo S h o) (hs : msm L xs e Y K d M k' lo' S' h' md P r) : msm L xs e Y K d M k lo S h md P r := by
  intro v s' hr
  obtain ⟨h2, g1, g2⟩ := hs v s' hr
  exact ⟨h2, st _ g1, g2⟩
theorem mim_of {mi md : Nat} {as : List Value} {f : zP} (hP : qr_P mi = some M) (hok : ai_argok as (ai_Ml M) = true) (hs : ∀ P s h, mcs e Y K P s h → msm L xs e Y K d M 0 (as.map some ++ List.replicate (ai_Ml M - as.length) none) [] h md P (f s)) : mim L xs e Y K (d + 1) mi as md f := by
  intro P s h v s' hc hf
  obtain ⟨h', g1, g2⟩ := hs P s h hc v s' hf
  exact ⟨h', qe_of hP hok g1, g2⟩
theorem msm_pls {md n : Nat} {r : zR Nat} (e1 : ai_pl (qr_G L xs) M n k lo S h = some (k', lo', S', h')) (hs : msm L xs e Y K d M k' lo' S' h' md P r) : msm L xs e Y K d M k lo S h md P r := msm_st (fun _ hg => qg_pls e1 hg) hs
theorem msm_getf {md : Nat} {r : zR Nat} {pc len : Nat} {idx : Nat} {rs : List Int} {nm : String} {a v : Value} {ci f : Nat} {fs : List Value} (hk : (ai_Mc M)[k]? = some (pc, .getfield idx, len, 0, rs, nm)) (hl : ai_look (qr_Z L xs) h.1 a = some (ai_obj ci fs)) (h0 : (ai_nth (0, rs, nm) 0).toNat = ci) (h1 : (ai_nth (0, rs, nm) 1).toNat = f) (hv : fs[f]? = some v) (hs : msm L xs e Y K d M (k + 1) lo (v :: S) h md P r) : msm L xs e Y K d M k lo (a :: S) h md P r := msm_st (fun _ hg => qg_getf hk hl h0 h1 hv hg) hs
theorem msm_if {md : Nat} {r : zR Nat} {pc len : Nat} {c : Jvm.ClassFile.Cond} {off : Int} {rs : List Int} {nm : String} {x : Int32} (b : Bool) (hk : (ai_Mc M)[k]? = some (pc, .ifCond c off, len, 0, rs, nm)) (hb : ai_cmp c x 0 = b) (hk' : (if b = true then ai_tgt (0, rs, nm) else k + 1) = k') (hs : msm L xs e Y K d M k' lo S h md P r) : msm L xs e Y K d M k lo (.int x :: S) h md P r := msm_st (fun _ hg => qg_if b hk hb hk' hg) hs
theorem msm_icmp {md : Nat} {r : zR Nat} {pc len : Nat} {c : Jvm.ClassFile.Cond} {off : Int} {rs : List Int} {nm : String} {x y : Int32} (b : Bool) (hk : (ai_Mc M)[k]? = some (pc, .if_icmp c off, len, 0, rs, nm)) (hb : ai_cmp c x y = b) (hk' : (if b = true then ai_tgt (0, rs, nm) else k + 1) = k') (hs : msm L xs e Y K d M k' lo S h md P r) : msm L xs e Y K d M k lo (.int y :: .int x :: S) h md P r := msm_st (fun _ hg => qg_icmp b hk hb hk' hg) hs
theorem msm_acmp {md : Nat} {r : zR Nat} {pc len : Nat} {c : ACond} {off : Int} {rs : List Int} {nm : String} {x y : Nat} (b : Bool) (hk : (ai_Mc M)[k]? = some (pc, .if_acmp c off, len, 0, rs, nm)) (hz : ai_zk (qr_Z L xs) (.retAddr x) (.retAddr y) = true) (hb : ai_ac c (decide (x = y)) = b) (hk' : (if b = true then ai_tgt (0, rs, nm) else k + 1) = k') (hs : msm L xs e Y K d M k' lo S h md P r) : msm L xs e Y K d M k lo (.retAddr y :: .retAddr x :: S) h md P r := msm_st (fun _ hg => qg_acmp b hk hz hb hk' hg) hs
/-- a call that does the piece f -/
theorem msm_call {md mdc : Nat} {f : zP} {g : Nat → zS → zR Nat} {pc len n mi : Nat} {i : Instr} {rs : List Int} {nm : String} {as S0 : List Value} (hc : mcs e Y K P s h) (him : mim L xs e Y K d mi as mdc f) (hk : (ai_Mc M)[k]? = some (pc, i, len, 1, rs, nm)) (hmi : (ai_nth (1, rs, nm) 0).toNat = mi) (hn : (ai_nth (1, rs, nm) 1).toNat = n) (has : (S.take n).reverse = as) (hS0 : S.drop n = S0) (hw : Nat.ble (ai_wt S0) 8 = true) (hle : Nat.ble n S.length = true) (hx : ai_catch (ai_Mh M) k = none) (hrc : ai_rcv (qr_Z L xs) (1, rs, nm) as.head? h = true)
    (hs : ∀ v s1 h1, f s = some (some v, s1) → mcs e Y K P s1 h1 → msm L xs e Y K d M (k + 1) lo (if mdc = 0 then S0 else .int (nI v) :: S0) h1 md P (g v s1)) : msm L xs e Y K d M k lo S h md P (zbd (f s) g) := by
  intro v s' hr
  unfold zbd at hr
  split at hr
  · cases hr
  · rename_i s1 hf
    cases hr
    obtain ⟨h1, g1, g2⟩ := him P s h _ _ hc hf
    exact ⟨h1, qg_callT hk hmi hn has hS0 hw hle hrc hx g1, g2⟩
  · rename_i v1 s1 hf
    obtain ⟨h1, g1, g2⟩ := him P s h _ _ hc hf
    obtain ⟨h2, g3, g4⟩ := hs v1 s1 h1 hf g2 v s' hr
    refine ⟨h2, ?_, g4⟩
    unfold qout at g1
    dsimp only at g1
    split at g1
    · rename_i hm
      rw [if_pos hm] at g3
      exact qg_call hk hmi hn has hS0 hw hle hrc g1 g3
    · rename_i hm
      rw [if_neg hm] at g3
      exact qg_call hk hmi hn has hS0 hw hle hrc g1 g3
theorem msm_ret5 {md v : Nat} {pc len : Nat} {i : Instr} {rs : List Int} {nm : String} {ty : FieldType} (hc : mcs e Y K P s h) (hk : (ai_Mc M)[k]? = some (pc, i, len, 5, rs, nm)) (hr : ai_Mr M = some ty) (hn : narrow ty (.int (nI v)) = .int (nI v)) (hmd : md ≠ 0) : msm L xs e Y K d M k lo [.int (nI v)] h md P (some (some v, s)) := by
  intro v' s' h1
  cases h1
  refine ⟨h, ?_, hc⟩
  unfold qout
  dsimp only
  rw [if_neg hmd]
  exact qg_ret5 hk hr hn
theorem msm_ret7 {v : Nat} {pc len : Nat} {i : Instr} {rs : List Int} {nm : String} (hc : mcs e Y K P s h) (hk : (ai_Mc M)[k]? = some (pc, i, len, 7, rs, nm)) : msm L xs e Y K d M k lo [] h 0 P (some (some v, s)) := by
  intro v' s' h1
  cases h1
  exact ⟨h, qg_ret7 hk, hc⟩
theorem msm_callL {M : ai_M} {k : Nat} {lo : ai_L} {S : List Value} {md mdc : Nat} {f : zP} {pc len n mi : Nat} {i : Instr} {rs : List Int} {nm : String} {as S0 : List Value} (hc : mcs e Y K P s h) (him : mim L xs e Y K d mi as mdc f) (hk : (ai_Mc M)[k]? = some (pc, i, len, 1, rs, nm)) (hmi : (ai_nth (1, rs, nm) 0).toNat = mi) (hn : (ai_nth (1, rs, nm) 1).toNat = n) (has : (S.take n).reverse = as) (hS0 : S.drop n = S0) (hw : Nat.ble (ai_wt S0) 8 = true) (hle : Nat.ble n S.length = true) (hx : ai_catch (ai_Mh M) k = none) (hrc : ai_rcv (qr_Z L xs) (1, rs, nm) as.head? h = true)
    (hs : ∀ v s1 h1, f s = some (some v, s1) → mcs e Y K P s1 h1 → msm L xs e Y K d M (k + 1) lo (if mdc = 0 then S0 else .int (nI v) :: S0) h1 md P (some (some v, s1))) : msm L xs e Y K d M k lo S h md P (f s) := by
  rw [← zbd_id (f s)]
  exact msm_call hc him hk hmi hn has hS0 hw hle hx hrc hs
/-- a call that changes nothing -/
theorem msm_ask {M : ai_M} {k : Nat} {lo : ai_L} {S : List Value} {md : Nat} {r : zR Nat} {pc ln n mi : Nat} {i : Instr} {rs : List Int} {nm : String} {as S0 : List Value} {v : Value} (he : qe L xs d mi as h (.inl (some v), h)) (hk : (ai_Mc M)[k]? = some (pc, i, ln, 1, rs, nm)) (hmi : (ai_nth (1, rs, nm) 0).toNat = mi) (hn : (ai_nth (1, rs, nm) 1).toNat = n) (has : (S.take n).reverse = as) (hS0 : S.drop n = S0) (hw : Nat.ble (ai_wt S0) 8 = true) (hle : Nat.ble n S.length = true) (hrc : ai_rcv (qr_Z L xs) (1, rs, nm) as.head? h = true)
    (hs : msm L xs e Y K d M (k + 1) lo (v :: S0) h md P r) : msm L xs e Y K d M k lo S h md P r := msm_st (fun _ hg => qg_call hk hmi hn has hS0 hw hle hrc he hg) hs
theorem msm_none {M : ai_M} {k md : Nat} {lo : ai_L} {S : List Value} : msm L xs e Y K d M k lo S h md P none := fun _ _ q => by cases q
/-- two roads that meet -/
theorem msm_join {M : ai_M} {k md : Nat} {lo : ai_L} {S : List Value} {r : zR Nat} {G : Nat → zS → zR Nat} (k' : Nat) (lo' : ai_L) (S' : List Value) (hh : ∀ G : Nat → zS → zR Nat, (∀ v s1 h1, mcs e Y K P s1 h1 → msm L xs e Y K d M k' lo' S' h1 md P (G v s1)) → msm L xs e Y K d M k lo S h md P (zbd r G)) (ht : ∀ v s1 h1, mcs e Y K P s1 h1 → msm L xs e Y K d M k' lo' S' h1 md P (G v s1)) : msm L xs e Y K d M k lo S h md P (zbd r G) := hh G ht
theorem msm_throw {md : Nat} {pc len : Nat} {i : Instr} {rs : List Int} (hc : mcs e Y K P s h) (hk : (ai_Mc M)[k]? = some (pc, i, len, 2, rs, "java/lang/IllegalArgumentException")) (hx : (ai_Mh M).isEmpty = true) (hw : Nat.ble (ai_wt S) 8 = true) : msm L xs e Y K d M k lo S h md P (some (none, s)) := by
  intro v' s' h1
  cases h1
  exact ⟨_, qg_throw hk hx hw, mcs_bad hc⟩
theorem mcs_prot (hc : mcs e Y K P s h) : ∀ i c, Y i = some c → h.1[i]? = some c := by
  obtain ⟨J, bg, en, md, rf, bf, wr, wf, c1, c2, c3, c4, c5, c6, c7, c8, cu, c9, c10, c11, c12, c13⟩ := hc
  exact c12
theorem mcs_bd (hc : mcs e Y K P s h) : s.1 < e.1.length ∧ s.2.1 ≤ 40 ∧ s.2.2.1 ≤ 40 ∧ s.2.2.2.1 = P.length ∧ P.length ≤ 300 := by
  obtain ⟨J, bg, en, md, rf, bf, wr, wf, c1, c2, c3, c4, c5, c6, c7, c8, cu, c9, c10, c11, c12, c13⟩ := hc
  exact c9
theorem mcs_obj (hc : mcs e Y K P s h) : ∃ kept bg en md, h.1[14]? = some (mobj K.2.2.2.1 s.1 kept s.2.1 s.2.2.1 bg en md P.length) := by
  obtain ⟨J, bg, en, md, rf, bf, wr, wf, c1, c2, c3, c4, c5, c6, c7, c8, cu, c9, c10, c11, c12, c13⟩ := hc
  exact ⟨J.length, bg, en, md, c1⟩
end MGR
