/-! THE CLASS, WHILE IT READS A STATEMENT: its cells and the picture. (Printed by wip/whole/pp.py from wip/whole/src.) -/
section QGR
variable {L : Nat} {xs : Nat → Int32} {d : Nat} {M : ai_M} {k k' : Nat} {lo lo' : ai_L} {S S' : List Value} {h h' : ai_H} {o : ai_O}
theorem qg_aald {pc len : Nat} {rs : List Int} {nm : String} {a v : Value} {C : String} {j n : Nat} {g : Nat → Value} (hk : (ai_Mc M)[k]? = some (pc, .aaload, len, 0, rs, nm)) (hl : ai_look (qr_Z L xs) h.1 a = some (ai_refs C n g)) (hj : j < n) (hn : n < 2 ^ 31) (hv : g j = v) (hg : qg L xs d M (k + 1) lo (v :: S) h o) : qg L xs d M k lo (.int (nI j) :: a :: S) h o := by
  refine qg_eff (t := 0) (lo' := lo) (S' := v :: S) (h' := h) hk ?_ rfl hg
  simp only [ai_eff, ai_aald]
  rw [show ai_look (qr_G L xs).1 h.1 a = _ from hl]
  dsimp only
  rw [if_pos ⟨nI_pos (by omega), by rw [nI_clamp (by omega)]; exact hj⟩, nI_clamp (by omega), hv]
theorem qg_alenq {pc len : Nat} {rs : List Int} {nm : String} {a : Value} {C : String} {n : Nat} {g : Nat → Value} (hk : (ai_Mc M)[k]? = some (pc, .arraylength, len, 0, rs, nm)) (hl : ai_look (qr_Z L xs) h.1 a = some (ai_refs C n g)) (hg : qg L xs d M (k + 1) lo (.int (nI n) :: S) h o) : qg L xs d M k lo (a :: S) h o := by
  refine qg_eff (t := 0) (lo' := lo) (S' := .int (nI n) :: S) (h' := h) hk ?_ rfl hg
  simp only [ai_eff, ai_alen]
  rw [show ai_look (qr_G L xs).1 h.1 a = _ from hl]
  rfl
/-- the grammar's object -/
def qgo (e : zE) (p : Nat) (s : zS) : ai_C := ai_obj 1 [.ref 2, .ref 4, .ref 6, .int (nI s.1), .retAddr (ztk e s.1), .int (nI s.2.1), .int (nI s.2.2.1), .ref 10, .ref 11, .int (nI p)]
/-- the class's cells show the state s and the waiting operators P; Y: cells that stay; bc, bs: how many cells and slots were made but for the plain form's -/
def qcs0 (e : zE) (Y : Nat → Option ai_C) (bc bs : Int) (P : zK) (s : zS) (h : ai_H) (pb len : Nat) : Prop := ∃ (fm fs : Nat → Int32), h.1[1]? = some (qgo e P.length s) ∧ qrow h 4 pb len s.2.2.2.2 ∧ h.1[10]? = some (ai_num .int 300 fm) ∧ h.1[11]? = some (ai_num .int 300 fs) ∧ (∀ i q, P.reverse[i]? = some q → fm i = nI q.2 ∧ fs i = nI q.1 ∧ q.2 ≤ 8 ∧ q.1 < 2 ^ 31) ∧ (P.length ≤ s.2.2.2.1 ∧ s.1 ≤ 100000 ∧ s.2.1 ≤ 40 ∧ s.2.2.1 ≤ 40 ∧ s.2.2.2.1 ≤ 300) ∧ (∀ i c, Y i = some c → h.1[i]? = some c) ∧ (Y 1 = none ∧ Y 4 = none ∧ Y 10 = none ∧ Y 11 = none ∧ Y pb = none) ∧ 16 * (h.2.1 : Int) ≤ 16 * bc + len ∧ (h.2.2 : Int) ≤ bs + 2 * len
def qcs (e : zE) (Y : Nat → Option ai_C) (bc bs : Int) (P : zK) (s : zS) (h : ai_H) : Prop := ∃ pb len, qcs0 e Y bc bs P s h pb len
/-- what stays of the tokens and of the text -/
def qtk (e : zE) (Y : Nat → Option ai_C) : Prop := ∃ (tb tl so fr to n1 n2 n3 : Nat) (rc : Value) (tf f1 f2 : Nat → Int32) (g : Nat → Value), Y 2 = some (ai_obj 3 [.ref tb, .int (nI e.2.length)]) ∧ Y tb = some (ai_num .byte tl tf) ∧ e.2.length ≤ tl ∧ (∃ k, k ≤ 11 ∧ tl = 256 * 2 ^ k) ∧ (∀ j, j < e.2.length → tf j = e.2.getD j 0) ∧ Y 6 = some (ai_obj 4 [.ref so, .ref fr, .ref to, .int (nI e.1.length), rc]) ∧ Y so = some (ai_refs "QueryReader$Sort" n1 g) ∧ Y fr = some (ai_num .int n2 f1) ∧ Y to = some (ai_num .int n3 f2) ∧ (e.1.length ≤ n1 ∧ e.1.length ≤ n2 ∧ e.1.length ≤ n3 ∧ n1 < 2 ^ 31 ∧ n2 < 2 ^ 31 ∧ n3 < 2 ^ 31) ∧ (∀ i, i < e.1.length → g i = .retAddr (ztk e i) ∧ f1 i = nI (zfr e i) ∧ f2 i = nI (zto e i)) ∧ (∀ i, ztk e i < 104) ∧ (∀ i, zfr e i ≤ zto e i ∧ zto e i ≤ e.2.length) ∧ ∀ x ∈ e.2, zb x = x
variable {e : zE} {Y : Nat → Option ai_C} {bc bs : Int} {P : zK} {s s' : zS} {pb len : Nat}
theorem qcs0_row {pb' len' : Nat} {t : List Int32} (hc : qcs0 e Y bc bs P s h pb len) (hq : qro 4 h pb len h' pb' len') (hr : qrow h' 4 pb' len' t) : qcs0 e Y bc bs P (s.1, s.2.1, s.2.2.1, s.2.2.2.1, t) h' pb' len' := by
  obtain ⟨fm, fs, c1, c2, c3, c4, c5, c6, c7, ⟨y1, y2, y3, y4, y5⟩, c9, c10⟩ := hc
  obtain ⟨q1, q2, q3, q4, q5, q6⟩ := hq
  obtain ⟨f, a2⟩ := qrow_arr c2
  have n1 : 1 ≠ pb := q_ne c1 a2 (by intro e; cases e)
  have n10 : 10 ≠ pb := q_ne c3 a2 (by intro e; cases e)
  have n11 : 11 ≠ pb := q_ne c4 a2 (by intro e; cases e)
  refine ⟨fm, fs, ?_, hr, ?_, ?_, c5, c6, fun i c hi => ?_, ⟨y1, y2, y3, y4, ?_⟩, by omega, by omega⟩
  · rw [q2 1 (by decide) n1 (q_lt c1)]; exact c1
  · rw [q2 10 (by decide) n10 (q_lt c3)]; exact c3
  · rw [q2 11 (by decide) n11 (q_lt c4)]; exact c4
  · have hl := c7 i c hi
    rw [q2 i (fun e => by rw [e, y2] at hi; cases hi) (fun e => by rw [e, y5] at hi; cases hi) (q_lt hl)]
    exact hl
  · rcases q3 with q | q
    · rw [q]; exact y5
    · cases hy : Y pb' with
      | none => rfl
      | some c => have := q_lt (c7 pb' c hy); omega
/-- the grammar's object alone has changed -/
theorem qcs0_set (hc : qcs0 e Y bc bs P s h pb len) (hp : s'.2.2.2 = s.2.2.2) (hb : s'.1 ≤ 100000 ∧ s'.2.1 ≤ 40 ∧ s'.2.2.1 ≤ 40) : qcs0 e Y bc bs P s' (h.1.set 1 (qgo e P.length s'), h.2) pb len := by
  obtain ⟨fm, fs, c1, c2, c3, c4, c5, c6, c7, ⟨y1, y2, y3, y4, y5⟩, c9, c10⟩ := hc
  obtain ⟨f, r1, r2, r3, r4, r5⟩ := c2
  have n1 : 1 ≠ pb := q_ne c1 r2 (by intro e; cases e)
  refine ⟨fm, fs, q_set c1, ?_, q_stay c3 (by decide), q_stay c4 (by decide), c5, ?_, fun i c hi => q_stay (c7 i c hi) (fun e => by rw [← e, y1] at hi; cases hi), ⟨y1, y2, y3, y4, y5⟩, c9, c10⟩
  · rw [hp]
    exact ⟨f, q_stay r1 (by decide), q_stay r2 n1, r3, r4, r5⟩
  · rw [hp]; omega
theorem qcs_obj (hc : qcs e Y bc bs P s h) : h.1[1]? = some (ai_obj 1 [.ref 2, .ref 4, .ref 6, .int (nI s.1), .retAddr (ztk e s.1), .int (nI s.2.1), .int (nI s.2.2.1), .ref 10, .ref 11, .int (nI P.length)]) := by
  obtain ⟨pb, len, fm, fs, c1, -⟩ := hc
  exact c1
theorem qcs_prot (hc : qcs e Y bc bs P s h) : ∀ i c, Y i = some c → h.1[i]? = some c := by
  obtain ⟨pb, len, fm, fs, -, -, -, -, -, -, c7, -⟩ := hc
  exact c7
theorem qcs_bd (hc : qcs e Y bc bs P s h) : P.length ≤ s.2.2.2.1 ∧ s.1 ≤ 100000 ∧ s.2.1 ≤ 40 ∧ s.2.2.1 ≤ 40 ∧ s.2.2.2.1 ≤ 300 := by
  obtain ⟨pb, len, fm, fs, -, -, -, -, -, c6, -⟩ := hc
  exact c6
theorem qcs_row (hc : qcs e Y bc bs P s h) : ∃ pb len, qrow h 4 pb len s.2.2.2.2 := by
  obtain ⟨pb, len, fm, fs, -, c2, -⟩ := hc
  exact ⟨pb, len, c2⟩
/-- one more cell was made for an exception -/
theorem qcs_thrown (hc : qcs e Y bc bs P s h) : qcs e Y (bc + 1) (bs + 6) P s (h.1, h.2.1 + 1, h.2.2 + 6) := by
  obtain ⟨pb, len, fm, fs, c1, ⟨f, r⟩, c3, c4, c5, c6, c7, c8, c9, c10⟩ := hc
  refine ⟨pb, len, fm, fs, c1, ⟨f, r⟩, c3, c4, c5, c6, c7, c8, ?_, ?_⟩
  · show 16 * ((h.2.1 + 1 : Nat) : Int) ≤ _
    omega
  · show ((h.2.2 + 6 : Nat) : Int) ≤ _
    omega
/-! answers -/
def qout (md : Nat) (v : Option Nat) : Option Value ⊕ String := match v with
  | none => .inr "java/lang/IllegalArgumentException"
  | some x => if md = 0 then .inl none else .inl (some (.int (nI x)))
def qpost (e : zE) (Y : Nat → Option ai_C) (bc bs : Int) (P : zK) (v : Option Nat) (s' : zS) (h' : ai_H) : Prop := match v with
  | some _ => qcs e Y bc bs P s' h'
  | none => ∃ P', qcs e Y (bc + 1) (bs + 6) P' s' h'
/-- the call does what the piece f does -/
def qim (L : Nat) (xs : Nat → Int32) (e : zE) (Y : Nat → Option ai_C) (bc bs : Int) (d mi : Nat) (as : List Value) (md : Nat) (f : zP) : Prop := ∀ P s h v s', qcs e Y bc bs P s h → f s = some (v, s') → ∃ h', qe L xs d mi as h (qout md v, h') ∧ qpost e Y bc bs P v s' h'
theorem qim_up {d' mi md : Nat} {as : List Value} {f : zP} (hi : qim L xs e Y bc bs d mi as md f) (hd : d ≤ d') : qim L xs e Y bc bs d' mi as md f := by
  intro P s h v s' hc hf
  obtain ⟨h', g1, g2⟩ := hi P s h v s' hc hf
  exact ⟨h', qe_up hd g1, g2⟩
/-- from this place the body does what r says -/
def qsm (L : Nat) (xs : Nat → Int32) (e : zE) (Y : Nat → Option ai_C) (bc bs : Int) (d : Nat) (M : ai_M) (k : Nat) (lo : ai_L) (S : List Value) (h : ai_H) (md : Nat) (P : zK) (r : zR Nat) : Prop := ∀ v s', r = some (v, s') → ∃ h', qg L xs d M k lo S h (qout md v, h') ∧ qpost e Y bc bs P v s' h'
theorem qsm_st {md : Nat} {r : zR Nat} (st : ∀ o, qg L xs d M k' lo' S' h' o → qg L xs d M k lo S h o) (hs : qsm L xs e Y bc bs d M k' lo' S' h' md P r) : qsm L xs e Y bc bs d M k lo S h md P r := by
  intro v s' hr
  obtain ⟨h2, g1, g2⟩ := hs v s' hr
  exact ⟨h2, st _ g1, g2⟩
theorem qim_of {mi md : Nat} {as : List Value} {f : zP} (hP : qr_P mi = some M) (hok : ai_argok as (ai_Ml M) = true) (hs : ∀ P s h, qcs e Y bc bs P s h → qsm L xs e Y bc bs d M 0 (as.map some ++ List.replicate (ai_Ml M - as.length) none) [] h md P (f s)) : qim L xs e Y bc bs (d + 1) mi as md f := by
  intro P s h v s' hc hf
  obtain ⟨h', g1, g2⟩ := hs P s h hc v s' hf
  exact ⟨h', qe_of hP hok g1, g2⟩
theorem qsm_pls {md n : Nat} {r : zR Nat} (e1 : ai_pl (qr_G L xs) M n k lo S h = some (k', lo', S', h')) (hs : qsm L xs e Y bc bs d M k' lo' S' h' md P r) : qsm L xs e Y bc bs d M k lo S h md P r := qsm_st (fun _ hg => qg_pls e1 hg) hs
theorem qsm_getf {md : Nat} {r : zR Nat} {pc len : Nat} {idx : Nat} {rs : List Int} {nm : String} {a v : Value} {ci f : Nat} {fs : List Value} (hk : (ai_Mc M)[k]? = some (pc, .getfield idx, len, 0, rs, nm)) (hl : ai_look (qr_Z L xs) h.1 a = some (ai_obj ci fs)) (h0 : (ai_nth (0, rs, nm) 0).toNat = ci) (h1 : (ai_nth (0, rs, nm) 1).toNat = f) (hv : fs[f]? = some v) (hs : qsm L xs e Y bc bs d M (k + 1) lo (v :: S) h md P r) : qsm L xs e Y bc bs d M k lo (a :: S) h md P r := qsm_st (fun _ hg => qg_getf hk hl h0 h1 hv hg) hs
theorem qsm_if {md : Nat} {r : zR Nat} {pc len : Nat} {c : Jvm.ClassFile.Cond} {off : Int} {rs : List Int} {nm : String} {x : Int32} (b : Bool) (hk : (ai_Mc M)[k]? = some (pc, .ifCond c off, len, 0, rs, nm)) (hb : ai_cmp c x 0 = b) (hk' : (if b = true then ai_tgt (0, rs, nm) else k + 1) = k') (hs : qsm L xs e Y bc bs d M k' lo S h md P r) : qsm L xs e Y bc bs d M k lo (.int x :: S) h md P r := qsm_st (fun _ hg => qg_if b hk hb hk' hg) hs
theorem qsm_icmp {md : Nat} {r : zR Nat} {pc len : Nat} {c : Jvm.ClassFile.Cond} {off : Int} {rs : List Int} {nm : String} {x y : Int32} (b : Bool) (hk : (ai_Mc M)[k]? = some (pc, .if_icmp c off, len, 0, rs, nm)) (hb : ai_cmp c x y = b) (hk' : (if b = true then ai_tgt (0, rs, nm) else k + 1) = k') (hs : qsm L xs e Y bc bs d M k' lo S h md P r) : qsm L xs e Y bc bs d M k lo (.int y :: .int x :: S) h md P r := qsm_st (fun _ hg => qg_icmp b hk hb hk' hg) hs
theorem qsm_acmp {md : Nat} {r : zR Nat} {pc len : Nat} {c : ACond} {off : Int} {rs : List Int} {nm : String} {x y : Nat} (b : Bool) (hk : (ai_Mc M)[k]? = some (pc, .if_acmp c off, len, 0, rs, nm)) (hz : ai_zk (qr_Z L xs) (.retAddr x) (.retAddr y) = true) (hb : ai_ac c (decide (x = y)) = b) (hk' : (if b = true then ai_tgt (0, rs, nm) else k + 1) = k') (hs : qsm L xs e Y bc bs d M k' lo S h md P r) : qsm L xs e Y bc bs d M k lo (.retAddr y :: .retAddr x :: S) h md P r := qsm_st (fun _ hg => qg_acmp b hk hz hb hk' hg) hs
/-- a call that does the piece f -/
theorem qsm_call {md mdc : Nat} {f : zP} {g : Nat → zS → zR Nat} {pc len n mi : Nat} {i : Instr} {rs : List Int} {nm : String} {as S0 : List Value} (hc : qcs e Y bc bs P s h) (him : qim L xs e Y bc bs d mi as mdc f) (hk : (ai_Mc M)[k]? = some (pc, i, len, 1, rs, nm)) (hmi : (ai_nth (1, rs, nm) 0).toNat = mi) (hn : (ai_nth (1, rs, nm) 1).toNat = n) (has : (S.take n).reverse = as) (hS0 : S.drop n = S0) (hw : Nat.ble (ai_wt S0) 8 = true) (hle : Nat.ble n S.length = true) (hx : ai_catch (ai_Mh M) k = none) (hrc : ai_rcv (qr_Z L xs) (1, rs, nm) as.head? h = true)
    (hs : ∀ v s1 h1, f s = some (some v, s1) → qcs e Y bc bs P s1 h1 → qsm L xs e Y bc bs d M (k + 1) lo (if mdc = 0 then S0 else .int (nI v) :: S0) h1 md P (g v s1)) : qsm L xs e Y bc bs d M k lo S h md P (zbd (f s) g) := by
  intro v s' hr
  unfold zbd at hr
  split at hr
  · cases hr
  · rename_i s1 hf
    cases hr
    obtain ⟨h1, g1, g2⟩ := him P s h _ _ hc hf
    exact ⟨h1, qg_callT hk hmi hn has hS0 hw hle hrc hx g1, g2⟩
  · rename_i v1 s1 hf
    obtain ⟨h1, g1, g2⟩ := him P s h _ _ hc hf
    obtain ⟨h2, g3, g4⟩ := hs v1 s1 h1 hf g2 v s' hr
    refine ⟨h2, ?_, g4⟩
    unfold qout at g1
    dsimp only at g1
    split at g1
    · rename_i hm
      rw [if_pos hm] at g3
      exact qg_call hk hmi hn has hS0 hw hle hrc g1 g3
    · rename_i hm
      rw [if_neg hm] at g3
      exact qg_call hk hmi hn has hS0 hw hle hrc g1 g3
theorem qsm_ret5 {md v : Nat} {pc len : Nat} {i : Instr} {rs : List Int} {nm : String} {ty : FieldType} (hc : qcs e Y bc bs P s h) (hk : (ai_Mc M)[k]? = some (pc, i, len, 5, rs, nm)) (hr : ai_Mr M = some ty) (hn : narrow ty (.int (nI v)) = .int (nI v)) (hmd : md ≠ 0) : qsm L xs e Y bc bs d M k lo [.int (nI v)] h md P (some (some v, s)) := by
  intro v' s' h1
  cases h1
  refine ⟨h, ?_, hc⟩
  unfold qout
  dsimp only
  rw [if_neg hmd]
  exact qg_ret5 hk hr hn
theorem qsm_ret7 {v : Nat} {pc len : Nat} {i : Instr} {rs : List Int} {nm : String} (hc : qcs e Y bc bs P s h) (hk : (ai_Mc M)[k]? = some (pc, i, len, 7, rs, nm)) : qsm L xs e Y bc bs d M k lo [] h 0 P (some (some v, s)) := by
  intro v' s' h1
  cases h1
  exact ⟨h, qg_ret7 hk, hc⟩
theorem qsm_throw {md : Nat} {pc len : Nat} {i : Instr} {rs : List Int} (hc : qcs e Y bc bs P s h) (hk : (ai_Mc M)[k]? = some (pc, i, len, 2, rs, "java/lang/IllegalArgumentException")) (hx : (ai_Mh M).isEmpty = true) (hw : Nat.ble (ai_wt S) 8 = true) : qsm L xs e Y bc bs d M k lo S h md P (some (none, s)) := by
  intro v' s' h1
  cases h1
  exact ⟨_, qg_throw hk hx hw, P, qcs_thrown hc⟩
/-- constants of the enum are of one class -/
theorem qzk {a b : Nat} (ha : a < 104) (hb : b < 104) : ai_zk (qr_Z L xs) (.retAddr a) (.retAddr b) = true := by
  simp only [ai_zk, qr_Z, if_pos ha, if_pos hb, decide_true]
theorem qZ_en {a : Nat} (ha : a < 104) : qr_Z L xs a = some (ai_obj 6 [.int (Int32.ofNat a), .retAddr (qr_en.getD a (0, 0)).1, .int (qr_en.getD a (0, 0)).2]) := if_pos ha
end QGR
