theorem ai_okM_any {TB : List Cond} {g g' : ai_G} {r : (Nat → String × u_T) × List vw_C × (Nat → Nat → FieldType) × List (String × Nat × String × Nat) × List (String × String × String × Value) × List Cond} {P : Nat → Option ai_M} {M : ai_M} (h : ai_okM TB (g, r) P M) : ai_okM TB (g', r) P M := h
theorem q_okY {L : Nat} {xs : Nat → Int32} {sa : Nat → Nat} (hinj : ∀ i j ci fs fs', qr_Z L xs i = some (ai_obj ci fs) → qr_Z L xs j = some (ai_obj ci fs') → sa i = sa j → i = j) : ai_okY qr_TB (qr_Y L xs) sa := by
  refine ⟨fun w hw => (List.mem_filter.mp hw).2, q_clok, q_dok, rfl, fun _ => rfl, fun j ci fs hj => ?_, hinj, q_clnm⟩
  rcases q_Zobj hj with ⟨c1, -⟩ | ⟨c1, -⟩
  · subst c1; rfl
  · subst c1; rfl
theorem q_sameS {s t : State} {L : List Loc} {c n c' n' : Nat} (h : s.sameButNew t L c n) (hc : c ≤ c') (hn : n ≤ n') (hL : ∀ z ∈ L, s.heap.size ≤ z.base) : s.sameButNew t [] c' n' := by
  obtain ⟨h1, h2, h3, h4, h5, h6⟩ := h
  refine ⟨h1, h2, Nat.le_trans h3 (Nat.add_le_add_left hc _), h4, Nat.le_trans h5 hn, fun a x hx => ?_⟩
  obtain ⟨c', g1, g2, g3, g4⟩ := h6 a x hx
  refine ⟨c', g1, g2, g3, fun i _ => g4 i (fun hin => ?_)⟩
  have := hL _ hin
  have hlt : a < s.heap.size := (Array.getElem?_eq_some_iff.mp hx).1
  have : s.heap.size ≤ a := this
  exact absurd hlt (Nat.not_lt.mpr this)
set_option maxRecDepth 100000 in
theorem qn_inst1 : (List.range 6).all (fun i => match qr_cl[i]? with
  | some q => decide (tables_1[([24, 32, 112, 38, 52, 925] : List Nat).getD i 0]? = some (Cond.instantiable q.1 q.2.2))
  | none => false) = true := by decide +kernel
theorem qn_inst (i : Nat) (hi : i < 6) : ∀ {q : vw_C}, qr_cl[i]? = some q → Cond.instantiable q.1 q.2.2 ∈ lw_tbl := by
  intro q hq
  have h := List.all_eq_true.mp qn_inst1 i (List.mem_range.mpr hi)
  rw [hq] at h
  exact List.mem_append_right _ (List.mem_of_getElem? (of_decide_eq_true h))
/-- the classes that are made are known -/
theorem q_known {args : Array Value} {s : State} (hts : ∀ w ∈ lw_tbl, w.before args s = true) : ∃ D : va_G, va_K D qr_cl [] s := by
  have hT : ∀ w ∈ qr_TB, w.before args s = true := fun w hw => hts w (List.mem_filter.mp hw).1
  have one : ∀ (ci : Nat), ∃ p : ClassId × (Nat → Nat), ∀ q : vw_C, qr_cl[ci]? = some q → u_Kn s q.1 q.2.1 q.2.2 p.1 p.2 := by
    intro ci
    have mk : ∀ (q : vw_C), qr_cl[ci]? = some q → Cond.instantiable q.1 q.2.2 ∈ lw_tbl → ∃ p : ClassId × (Nat → Nat), ∀ q : vw_C, qr_cl[ci]? = some q → u_Kn s q.1 q.2.1 q.2.2 p.1 p.2 := by
      intro q hq hi
      obtain ⟨cC, iS, h⟩ := u_known (ws := qr_TB) hT ((q_clok ci q hq).1) (hts _ hi)
      refine ⟨(cC, iS), fun q' hq' => ?_⟩
      rw [hq] at hq'
      cases hq'
      exact h
    match ci with
    | 0 => exact mk _ rfl (qn_inst 0 (by decide) rfl)
    | 1 => exact mk _ rfl (qn_inst 1 (by decide) rfl)
    | 2 => exact mk _ rfl (qn_inst 2 (by decide) rfl)
    | 3 => exact mk _ rfl (qn_inst 3 (by decide) rfl)
    | 4 => exact mk _ rfl (qn_inst 4 (by decide) rfl)
    | 5 => exact mk _ rfl (qn_inst 5 (by decide) rfl)
    | n + 6 => exact ⟨(default, fun _ => 0), fun q hq => by simp [qr_cl] at hq⟩
  obtain ⟨f, hf⟩ := Classical.axiomOfChoice one
  exact ⟨(fun c => (f c).1, fun c => (f c).2), fun c q hq => hf c q hq, fun k q hk => by cases hk⟩

theorem ai_run_some {P : Nat → Option ai_M} {G : ai_G} {F d mi : Nat} {As : List Value} {h : ai_H} {out : ai_O} (he : ai_run P G F d mi As h = some out) : ∃ M, P mi = some M := by
  cases d with
  | zero => cases he
  | succ d =>
    simp only [ai_run] at he
    split at he
    · rename_i M' hM'; exact ⟨M', hM'⟩
    · cases he
/-- what the small machine must answer -/
def q_pure : Prop := ∀ (L : Nat) (xs : Nat → Int32), L ≤ 3072 → ∃ (F n : Nat) (h : ai_H), ai_go (qr_G L xs) (ai_run qr_P (qr_G L xs) F 2000) qm_law n 0 (some (.retAddr 3002) :: List.replicate 6 none) [] ([], 0, 0) = some (.inl (some (.int 1)), h) ∧ h.2.1 ≤ 601024 ∧ h.2.2 ≤ 7293034
/-- the tables have been checked -/
def q_checked : Prop := (∀ M ∈ qr_ms, ai_okM qr_TB qr_Y0 qr_P M) ∧ (∀ M ∈ qr_ms, ai_okC qr_TB M) ∧ ai_okM qr_TB qr_Y0 qr_P qm_law
/-! THE CLAIM OUT OF ONE WALK OF THE LAW'S BODY. Your part is whole_start (and what it stands on); all else here is the same for every law, but numbers. -/
def R_law : String := "QueryReaderLaw"
def lw_P (b : Addr) (xs : List Int32) (args : Array Value) (s : State) : Prop := args = #[.ref b] ∧ s.IntsAt b xs ∧ xs.length ≤ 3072 ∧ (Jvm.Cond.and given_1 narrow_1).before args s = true
def lw_Q (_ : Array Value) (s : State) (o : Outcome) (t : State) : Prop := o = .returned (some (.int 1)) ∧ Framed s o t [] 601024 7293034
def lw_Z (below : List Frame) (a : Array Value) (s : State) : State → Prop := fun t => ∃ o, t.status = .running ∧ Ended t below o ∧ lw_Q a s o t
/-- the law's own end, with 1 on the stack, nothing written that was there before, its room as the claim has it -/
theorem lw_ret {p : Program} {l : Launch} {e : Env} {s : State} {m : MethodId} {below : List Frame} {meth : Method} {c : Code} {b : Nat} (hx : p.tables.exec = Jvm.exec) (hb : c.code = code) (hr : meth.sig.returnType = ret) (hlocks : meth.locks = false) {pc : Nat} {H : Heap} {ls : Array Slot} (hdg : decode code pc = .ok (.ireturn, 1)) : W p l e room_1 s m #[Value.ref b] below meth c H [] 601024 7293034 (lw_Z below #[Value.ref b] s) (F0 m pc ls [.int 1]) := by
  intro T hT X
  obtain ⟨fs, hret, hrun, hended, hW, hframe⟩ := X.leave (v := some (.int 1)) (hlocks := hlocks) (fun h => by rw [hr] at h; cases h)
  have hmeth' : T.vm.method? m = some meth := X.method'
  refine ⟨T.setFrames fs, ?_, .returned (some (.int 1)), hrun, hended, rfl, ⟨_, rfl⟩, hW, hframe⟩
  jvm_step X.here [X.here.top, hx, hb, hdg, hmeth', hr, ret, narrow_b1]
  (try refine ⟨rfl, ?_⟩); (try refine ⟨rfl, ?_⟩)
  first | (intro acts; rw [hret _ acts rfl rfl rfl]) | rw [hret _ _ rfl rfl rfl]
  exact Steps.refl _
/-- what holds at the law's entry: the machine, the code, the tables' words (any of lw_tbl by 'hts w (by decide +kernel)'), the script of L ints xs at the cell b, what the Statement gives of the start (any of its parts by flat_of_before) -/
def lw_At (p : Program) (s : State) (m : MethodId) (meth : Method) (c : Code) (b L : Nat) (xs : Nat → Int32) : Prop :=
  p.tables.exec = Jvm.exec ∧ c.code = code ∧ meth.sig.returnType = ret ∧ c.maxLocals = 7 ∧ s.vm.findClass R_law = some m.cls ∧ (∀ w ∈ lw_tbl, w.before #[Value.ref b] s = true) ∧ va_X b L xs s s.heap ∧ b < s.heap.size ∧ meth.locks = false ∧ (Jvm.Cond.and given_1 narrow_1).before #[Value.ref b] s = true

set_option maxHeartbeats 1000000 in
/-- FROM THE SMALL MACHINE TO THE LARGE: the law comes to its end with true -/
theorem q_start (hchk : q_checked) (hpure : q_pure) {p : Program} {e : Env} {s : State} {m : MethodId} {below : List Frame} {meth : Method} {c : Code} (l : Launch) (hl : l.stackTraces = false) {b L : Nat} {xs : Nat → Int32} (hL : L ≤ 3072) (C0 : lw_At p s m meth c b L xs) (hnm : meth.name = "law") (htab : c.exceptionTable.toList.map (fun h => (h.startPc, h.endPc, h.handlerPc, h.catchType)) = []) : W p l e room_1 s m #[Value.ref b] below meth c s.heap [] 0 0 (lw_Z below #[Value.ref b] s) (entryFrame m ([Value.ref b] : List Value).toArray 7) := by
  obtain ⟨hx, hb, hr, hml, hown, hts, hX, hbl, hlocks, hgv⟩ := C0
  obtain ⟨F, n, h, hgo, hc1, hc2⟩ := hpure L xs hL
  obtain ⟨k1, k2, k3⟩ := hchk
  have hs : ∀ w ∈ qr_NL, w.before #[Value.ref b] s = true := flat_of_before _ hgv
  have hA : ∀ a : Nat, a < s.heap.size → ¬ (s.heap.size ≤ a) := fun a h1 h2 => by omega
  obtain ⟨sa, hsa, hE, hinj⟩ := q_E (A := fun q => s.heap.size ≤ q) hts hs hA hX (by omega) hbl
  have hY := q_okY hinj
  obtain ⟨D, hK⟩ := q_known hts
  have hT : ∀ w ∈ qr_TB, w.before #[Value.ref b] s = true := fun w hw => hts w (List.mem_filter.mp hw).1
  have hP : ∀ mi M, qr_P mi = some M → ai_okM qr_TB (qr_Y L xs) qr_P M := fun mi M hM => ai_okM_any (k1 M (List.mem_of_getElem? hM))
  have hPC : ∀ mi M, qr_P mi = some M → ai_okC qr_TB M := fun mi M hM => k2 M (List.mem_of_getElem? hM)
  have hrun := ai_run_ok (F := F) (D := D) hl hY hP hPC
  have K := ai_go_ok (p := p) (l := l) (e := e) (R := room_1) (below := below) (D := D) (A := fun q => s.heap.size ≤ q) (ad0 := []) (kc := 0) (ks := 0) (d := 2000) (out := (.inl (some (.int 1)), h)) (rec := ai_run qr_P (qr_G L xs) F 2000) (M := qm_law) (y := qr_Y L xs) hY (ai_okM_any k3) hx hb hT hown (fun q hq => hq) hE hlocks hnm hr htab hl (by decide) (by decide) hPC
    (fun mi As h' out' hr' => by
      obtain ⟨M', hM'⟩ := ai_run_some hr'
      exact ⟨M', hM', hrun 2000 mi M' As h' out' hM' hr'⟩)
    (fun mi As h' out' hr' => ai_run_le _ _ _ _ _ hr') (by rw [Nat.zero_add]; exact hc1) (by rw [Nat.zero_add]; exact hc2) n 0 _ _ _ hgo
  have hpc0 : ai_pcs qm_law 0 = 0 := rfl
  rw [hpc0] at K
  have hvs : ai_vs sa [] [Value.retAddr 3002] [Value.ref b] := ⟨by show Value.ref b = .ref (sa 3002); rw [hsa], trivial⟩
  have hent : ai_l sa [] (([Value.retAddr 3002] : List Value).map some ++ List.replicate (7 - ([Value.retAddr 3002] : List Value).length) none) c.maxLocals ((lg_sl [Value.ref b] ++ List.replicate (7 - (lg_sl [Value.ref b]).length) Slot.unset).toArray) := by
    rw [hml]
    exact ai_l_entry hvs rfl
  have K2 := K [] [] [] s.heap [] 0 0 _ [] ⟨⟨[], rfl⟩, rfl, rfl, ⟨rfl, rfl, fun i x hi => by cases hi⟩, hK, fun k q hk => (by cases hk), ⟨fun i j p q hp => (by cases hp), fun k q hk => (by cases hk)⟩, va_S.rf⟩ hent trivial
  intro T hT0 X
  obtain ⟨t, a1, o, b1, b2, b3⟩ := K2 T hT0 X
  refine ⟨t, ?_, o, b1, b2, ?_⟩
  · rw [lg_entry_eq]
    exact a1
  · obtain ⟨ad, tys, ws, Ls, -, -, -, -, -, -, hend, hLs, hres⟩ := b3
    obtain ⟨V, ho, hV⟩ := hres
    have hV : V = .int 1 := hV
    subst hV
    refine ⟨ho, ⟨_, ho⟩, hend.1, q_sameS hend.2 ?_ ?_ hLs⟩
    · exact hc1
    · exact hc2
