section AIEN
variable {p : Program} {l : Launch} {e : Env} {R : Room} {s : State} {m : MethodId} {args : Array Value} {below : List Frame} {meth : Method} {c : Code}
variable {y : ai_Y} {sa : Nat → Nat} {D : va_G} {A : Nat → Prop} {pc n : Nat} {S : List Value} {h : ai_H} {TB : List Cond} {M M' : ai_M} {i : Instr} {len : Nat} {r : ai_R}
/-- the receiver is an object of the class -/
theorem ai_rcv_ok (hY : ai_okY TB y sa) (hE : ai_E y sa A s s.heap) {v V : Value} {ad : List Nat} {tys : List (ClassId × FieldType)} {ws : va_W} {H : Heap} {locs : List Loc} (hw : ai_w (ai_yZ y) (ai_yN y) sa ad tys h.1 ws) (hK : va_K D (ai_yl y) tys s) (hP : va_P D (ai_yl y) ws H) (hS : va_S A s.heap H locs)
    (h2 : ai_nth r 2 = 1) (hr : ai_rcv (ai_yZ y) r (some v) h = true) (hv : ai_v sa ad v V) : ∃ b, V = .ref b ∧ ∃ cell : Cell, H[b]? = some cell ∧ cell.vm.isStatics = false ∧ s.vm.findClass (ai_yc y (ai_nth r 3).toNat).1 = some cell.cls := by
  unfold ai_rcv at hr
  rw [h2] at hr
  have hr : (match ai_look (ai_yZ y) h.1 v with
    | some (.inr (.inr (.inr (ci, _)))) => decide ((ci : Int) = ai_nth r 3)
    | _ => false) = true := hr
  split at hr
  · rename_i ci fs hlook
    have hci : (ai_nth r 3).toNat = ci := by
      have := of_decide_eq_true hr
      omega
    rw [hci]
    cases v with
    | ref j =>
      obtain ⟨a, E, rfl, g1, vs, rfl, g2⟩ := ai_w_at hw hlook hv
      obtain ⟨q, hq, -⟩ := hP j _ g1
      obtain ⟨cell, z1, z2, z3⟩ := va_recv hK hP hq g1
      refine ⟨a, rfl, cell, z1, z2, ?_⟩
      rw [← hY.2.2.2.2.2.2.2 ci q hq]
      exact z3
    | retAddr j =>
      refine ⟨sa j, hv, ?_⟩
      obtain ⟨hO, -⟩ := hE.1 j _ hlook
      obtain ⟨cellV, o1, o2, o3, -⟩ := va_O.kept hO hS.2.1
      exact ⟨cellV, o1, o2, o3⟩
    | _ => cases hlook
  · cases hr
set_option maxHeartbeats 1000000 in
theorem ai_ent_ok (hY : ai_okY TB y sa) (hx : p.tables.exec = Jvm.exec) (hb : c.code = ai_Mb M) (hd : decode (ai_Mb M) pc = .ok (i, len)) (hts : ∀ w ∈ TB, w.before args s = true) (hown : s.vm.findClass (ai_Mn M).cls = some m.cls) (hE : ai_E y sa A s s.heap)
    (hC : ai_okC TB M') (hc : ai_chk1 TB y M M' i len r = true) (hn : n = (ai_nth r 1).toNat) (hlen : n ≤ S.length) (hrv : ai_rcv (ai_yZ y) r ((S.take n).reverse).head? h = true) :
    ∀ (ad : List Nat) (tys : List (ClassId × FieldType)) (ws : va_W) (T : State) (locs : List Loc) (cells slots : Nat) (ls : Array Slot) (Vs rest : List Value), ai_w (ai_yZ y) (ai_yN y) sa ad tys h.1 ws → va_K D (ai_yl y) tys s → va_P D (ai_yl y) ws T.heap → va_S A s.heap T.heap locs → ai_vs sa ad ((S.take n).reverse) Vs → Stand p l e R s m args below meth c T locs cells slots → ai_enters p l e R s m args below meth c T locs cells slots (F0 m pc ls (Vs.reverse ++ rest)) rest (ai_Mn M') Vs.toArray := by
  intro ad tys ws T locs cells slots ls Vs rest hw hK hP hS hvs X
  have hlV : Vs.length = n := by
    rw [ai_vs_len hvs, List.length_reverse, List.length_take]
    omega
  unfold ai_chk1 at hc
  simp only [Bool.and_eq_true] at hc
  obtain ⟨c1, c6⟩ := hc
  have hlen3 : len = 3 := of_decide_eq_true c1
  subst hlen3
  have hcd : ai_cd s (ai_Mn M') (ai_Mb M') (ai_Ml M') (ai_Mr M') (ai_Mx M') := ai_cd_of (hts _ hC.1)
  have hmh : (ai_Mn M').cls ≠ "java/lang/invoke/MethodHandle" ∧ (ai_Mn M').cls ≠ "java/lang/invoke/VarHandle" := hC.2.2.2
  have hini := hts _ hC.2.1
  generalize hAs : (S.take n).reverse = As at hvs hrv
  cases i with
  | invokevirtual idx =>
    simp only [Bool.and_eq_true] at c6
    obtain ⟨d1, d2, d3⟩ := c6
    obtain ⟨d1, d0⟩ := of_decide_eq_true d1
    have hin := ai_tb_ok hts d2
    cases As with
    | nil =>
      have : Vs.length = 0 := by rw [ai_vs_nil hvs]; rfl
      omega
    | cons v0 As' =>
      obtain ⟨V0, Vs', rfl, hv0, hvs'⟩ := ai_vs_cons hvs
      obtain ⟨b, rfl, cell, z1, z2, z3⟩ := ai_rcv_ok hY hE hw hK hP hS d1 hrv hv0
      have hl' : Vs'.length = (ai_nth r 1).toNat - 1 := by
        simp only [List.length_cons] at hlV
        omega
      have hstk : (F0 m pc ls ((Value.ref b :: Vs').reverse ++ rest)).stack = Vs'.reverse ++ .ref b :: rest := by
        show (Value.ref b :: Vs').reverse ++ rest = _
        rw [List.reverse_cons, List.append_assoc]
        rfl
      split at d3
      · rename_i o ix x hj
        simp only [Bool.and_eq_true] at d3
        obtain ⟨e1, e2, e3, e4⟩ := d3
        obtain ⟨rfl, rfl⟩ := of_decide_eq_true e1
        have hlk := hts _ (List.mem_of_getElem? hj)
        have hsel := ai_tb_ok hts e2
        have har : ∀ sig, parseMethodDescriptor x.desc = some sig → Vs'.length = sig.parameters.length := fun sig hs => by rw [hl']; exact ai_ar_ok e3 sig hs
        rw [Bool.or_eq_true] at e4
        rcases e4 with e4 | e4
        · have hxe : x = ai_Mn M' := of_decide_eq_true e4
          subst hxe
          exact ai_enterV X hx hown hlk hin hsel hcd hmh z1 z2 z3 rfl har hstk (by rw [hb]; exact hd)
        · rw [Bool.and_eq_true] at e4
          exact ai_enterU X hx hown hlk (ai_tb_ok hts e4.1) (by obtain ⟨r0, r1, h1, h2, h3, h4⟩ := Cond.declares_spec (ai_tb_ok hts e4.2); exact ⟨r0, r1, h1, h2, h3, h4⟩) hmh hsel hin z1 z2 z3 rfl har hstk (by rw [hb]; exact hd)
      · cases d3
  | invokestatic idx =>
    simp only [Bool.and_eq_true] at c6
    obtain ⟨d1, d2, d3, d4⟩ := c6
    exact ai_enterS X hx hown (ai_tb_ok hts d2) (ai_tb_ok hts d3) hini hcd hmh rfl (fun sig hs => by rw [hlV, hn]; exact ai_ar_ok d4 sig hs) rfl (by rw [hb]; exact hd)
  | invokespecial idx =>
    simp only [Bool.and_eq_true] at c6
    obtain ⟨d1, d2, d3, d4⟩ := c6
    obtain ⟨d1, d0, dn, dx, dr⟩ := of_decide_eq_true d1
    have hin := ai_tb_ok hts d2
    cases As with
    | nil =>
      have : Vs.length = 0 := by rw [ai_vs_nil hvs]; rfl
      omega
    | cons v0 As' =>
      obtain ⟨V0, Vs', rfl, hv0, hvs'⟩ := ai_vs_cons hvs
      have hb0 : ∃ b, V0 = .ref b := by
        unfold ai_rcv at hrv
        rw [d1] at hrv
        cases v0 with
        | ref j => obtain ⟨a, -, rfl⟩ := hv0; exact ⟨a, rfl⟩
        | _ => cases hrv
      obtain ⟨b, rfl⟩ := hb0
      have hl' : Vs'.length = (ai_nth r 1).toNat - 1 := by
        simp only [List.length_cons] at hlV
        omega
      have hstk : (F0 m pc ls ((Value.ref b :: Vs').reverse ++ rest)).stack = Vs'.reverse ++ .ref b :: rest := by
        show (Value.ref b :: Vs').reverse ++ rest = _
        rw [List.reverse_cons, List.append_assoc]
        rfl
      have hcode : (Cond.code (ai_Mn M') (ai_Mb M') (ai_Ml M') none).before args s = true := by
        have := hts _ hC.1
        rw [dx, dr] at this
        exact this
      have hlk : (Cond.methodLink (ai_Mn M).cls idx (ai_Mn M')).before args s = true ∨ ∃ host, (Cond.methodLinkNest (ai_Mn M).cls idx (ai_Mn M') host).before args s = true := by
        split at d4
        · rename_i o ix x hj
          obtain ⟨rfl, rfl, rfl⟩ := of_decide_eq_true d4
          exact Or.inl (hts _ (List.mem_of_getElem? hj))
        · rename_i o ix x host hj
          obtain ⟨rfl, rfl, rfl⟩ := of_decide_eq_true d4
          exact Or.inr ⟨host, hts _ (List.mem_of_getElem? hj)⟩
        · cases d4
      exact ai_enterI X hx hown dn hlk hin hcode hmh rfl (fun sig hs => by rw [hl']; exact ai_ar_ok d3 sig hs) hstk (by rw [hb]; exact hd)
  | _ => cases c6
/-- the words of a throw, where the heap is as it is now -/
theorem ai_xw_ok (hY : ai_okY TB y sa) (hts : ∀ w ∈ TB, w.before args s = true) (hE : ai_E y sa A s s.heap) {T : State} {locs : List Loc} (hS : va_S A s.heap T.heap locs) {ws : List Cond} (h : ai_xw TB y ws = true) : ∀ w ∈ ws, w.before args (ai_now s m args below T) = true := by
  intro w hw
  have h1 := List.all_eq_true.mp h w hw
  rw [Bool.or_eq_true] at h1
  rcases h1 with h1 | h1
  · have hm : w ∈ TB := of_decide_eq_true h1
    exact ai_st_at (hY.1 w hm) (U := ai_now s m args below T) (State.WarmedH.refl s) (hts w hm)
  · exact hE.2.2.2.1 w (of_decide_eq_true h1) (ai_now s m args below T) args (Vm.Alike.refl _) hS.2.1
theorem ai_thr_ok (hY : ai_okY TB y sa) (hx : p.tables.exec = Jvm.exec) (hb : c.code = ai_Mb M) (hd : decode (ai_Mb M) pc = .ok (i, len)) (hts : ∀ w ∈ TB, w.before args s = true) (hown : s.vm.findClass (ai_Mn M).cls = some m.cls) (hE : ai_E y sa A s s.heap) (hlocks : meth.locks = false) (hl : l.stackTraces = false) (htab : c.exceptionTable.toList = [])
    (hRf : 7 ≤ R.frames) (hRl : 200 ≤ R.locals) (hc : ai_chk2 TB y M pc i r = true) (hlen : len = 3) :
    ∀ (T : State) (locs : List Loc) (cells slots : Nat) (ls : Array Slot) (st : List Value), Stand p l e R s m args below meth c T locs cells slots → va_S A s.heap T.heap locs → cells + 1 ≤ R.cells → slots + 6 ≤ R.slots → ls.size = c.maxLocals → (st.map fun v => v.category).sum ≤ 8 → ai_thrs p e s below T locs cells slots (F0 m pc ls st) r.2.2 := by
  intro T locs cells slots ls st X hS hR1 hR2 hsz hwt
  subst hlen
  cases i with
  | new ik =>
    simp only [ai_chk2, Bool.and_eq_true] at hc
    obtain ⟨c1, c2, c3, c4, c5⟩ := hc
    have up : ∀ w ∈ TB, w.before args (ai_now s m args below T) = true := fun w hm => ai_st_at (hY.1 w hm) (U := ai_now s m args below T) (State.WarmedH.refl s) (hts w hm)
    have hup : ∀ n ∈ ai_up, Bundle.fit n = true := by decide +kernel
    split at c5
    · simp only [Bool.and_eq_true] at c5
      obtain ⟨e1, e2, e3⟩ := c5
      exact ai_throw0 (names := ai_up) X hx hb hl hown c3 hup (ai_tb_ok up c1) (ai_tb_ok up c2) (ai_xw_ok hY hts hE hS e3) hsz hd (of_decide_eq_true c4) (of_decide_eq_true e1) (of_decide_eq_true e2) (fun x hx9 => by rw [htab] at hx9; cases hx9) (by show 2 + 3 < R.frames; omega) (by show _ + (13 * (2 + 1) + 43) ≤ R.locals; omega) hR1 hR2 hlocks
    · simp only [Bool.and_eq_true] at c5
      obtain ⟨e1, e2, e3, e4, e5⟩ := c5
      split at e5
      · rename_i q hq
        obtain ⟨f1, f2⟩ := of_decide_eq_true e5
        have hstr := hE.2.1 q (List.mem_of_getElem? hq)
        rw [f1, f2] at hstr
        have hstr2 : vk_R (ai_Mn M).cls (ai_nth r 1).toNat q.2.2.1 (sa q.2.2.2) (ai_now s m args below T) := vk_R.same rfl hstr
        refine ai_throwS (names := ai_up) (ln := (ai_nth r 2).toNat) X hx hb hl hown c3 hup (ai_tb_ok up c1) (ai_tb_ok up c2) hstr2 (ai_xw_ok hY hts hE hS e4) hsz hd (of_decide_eq_true c4) ?_ (of_decide_eq_true e2) (of_decide_eq_true e3) (fun x hx9 => by rw [htab] at hx9; cases hx9) (by show 2 + 3 < R.frames; omega) (by show _ + (13 * (2 + 1) + 43) ≤ R.locals; omega) hR1 hR2 hlocks
        rcases of_decide_eq_true e1 with ⟨g1, g2⟩ | ⟨g1, g2⟩
        · exact Or.inl ⟨g1, by rw [g2]; rfl⟩
        · exact Or.inr ⟨g1, by rw [g2]; rfl⟩
      · cases e5
  | _ => cases hc
end AIEN
