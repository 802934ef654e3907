section AICL
variable {p : Program} {l : Launch} {e : Env} {R : Room} {s : State} {m : MethodId} {args : Array Value} {below : List Frame} {meth : Method} {c : Code}
variable {y : ai_Y} {sa : Nat → Nat} {D : va_G} {A : Nat → Prop} {ad0 : List Nat} {kc ks : Nat} {cc : ByteArray} {pc n d : Nat} {L : ai_L} {S : List Value} {h : ai_H} {out out' : ai_O} {TB : List Cond} {M' : ai_M} {own : String} {i : Instr}
theorem ai_take_rev {st : List Value} {n : Nat} : st = ((st.take n).reverse).reverse ++ st.drop n := by
  rw [List.reverse_reverse, List.take_append_drop]
set_option maxHeartbeats 1000000 in
/-- a call: the callee ends as the small machine says, and the caller goes on -/
theorem ai_call_ok (hb : c.code = cc) (hd : decode cc pc = .ok (i, 3)) (hts : ∀ w ∈ TB, w.before args s = true) (hst : ∀ w ∈ TB, ai_st w = true) (hcw : ai_cw (ai_Mn M') (ai_Mb M') (ai_Ml M') (ai_Mr M') (ai_Mx M') ∈ TB) (hini : Cond.initialized (ai_Mn M').cls ∈ TB)
    (hown : s.vm.findClass own = some m.cls) (hA : ∀ q, s.heap.size ≤ q → A q) (hE : ai_E y sa A s s.heap) (hlocks : meth.locks = false)
    (hRf : d + 6 + 1 ≤ R.frames) (hRl : 8 + (ai_Ml M' + 11) + (40 * d + 200) ≤ R.locals) (hle : ai_le h out'.2) (hR1 : out'.2.2.1 ≤ kc + R.cells) (hR2 : out'.2.2.2 ≤ ks + R.slots)
    (hmet : ai_Met l TB y sa D d M' ((S.take n).reverse) h out') (hwt : ai_wt (S.drop n) ≤ 8)
    (hent : ∀ (ad : List Nat) (tys : List (ClassId × FieldType)) (ws : va_W) (T : State) (locs : List Loc) (cells slots : Nat) (ls : Array Slot) (Vs rest : List Value), ai_w (ai_yZ y) (ai_yN y) sa ad tys h.1 ws → va_K D (ai_yl y) tys s → va_P D (ai_yl y) ws T.heap → va_S A s.heap T.heap locs → ai_vs sa ad ((S.take n).reverse) Vs → Stand p l e R s m args below meth c T locs cells slots → ai_enters p l e R s m args below meth c T locs cells slots (F0 m pc ls (Vs.reverse ++ rest)) rest (ai_Mn M') Vs.toArray)
    (hkr : ∀ v, out'.1 = .inl v → ai_W p l e R s m args below meth c (ai_Zp y sa D ad0 A kc ks out below args s) (ai_yZ y) (ai_yN y) sa D (ai_yl y) A ad0 kc ks (pc + 3) L (v.toList ++ S.drop n) out'.2)
    (hkt : ∀ E, out'.1 = .inr E → (∃ x, c.exceptionTable.toList = [x] ∧ covers x pc = true ∧ x.catchType ≠ 0 ∧ (Cond.classLink own x.catchType E).before args s = true ∧ ai_W p l e R s m args below meth c (ai_Zp y sa D ad0 A kc ks out below args s) (ai_yZ y) (ai_yN y) sa D (ai_yl y) A ad0 kc ks x.handlerPc L [.float 0] out'.2) ∨ ((∀ x ∈ c.exceptionTable.toList, covers x pc = false) ∧ out = (.inr E, out'.2))) :
    ai_W p l e R s m args below meth c (ai_Zp y sa D ad0 A kc ks out below args s) (ai_yZ y) (ai_yN y) sa D (ai_yl y) A ad0 kc ks pc L S h := by
  intro ad tys ws H locs cells slots ls st ha hl hs T hT X
  obtain ⟨⟨q0, q1⟩, q2, q3, hw, hK, hP, hD, hS⟩ := ha
  subst hT
  have hml : ls.size = c.maxLocals := by obtain ⟨_, lv, hlv, _⟩ := hl; exact hlv.1
  obtain ⟨hs1, hs2⟩ := ai_vs_split n hs
  have hs3 := ai_vs_rev hs1
  have hst9 : st = ((st.take n).reverse).reverse ++ st.drop n := ai_take_rev
  generalize (st.take n).reverse = Vs at hs3 hst9
  generalize st.drop n = rest at hs2 hst9
  subst hst9
  have hwT : (rest.map fun v => v.category).sum ≤ 8 := by
    have := ai_vs_wt hs2
    unfold ai_wt at this hwt
    omega
  obtain ⟨vm₁, mk, hW₁, X₁, hn, hstep⟩ := hent ad tys ws T locs cells slots ls Vs rest hw hK hP hS hs3 X
  have htab : ∀ (a' : Array Value) (w : Cond), w ∈ TB → w.before a' (T.setVm vm₁) = true := fun a' w hw9 => ai_st_at (hst w hw9) (U := T.setVm vm₁) hW₁ (hts w hw9)
  obtain ⟨mk', methY, cY, hnY, hmY, hcY, -, hlY, -⟩ := ai_cd_of (htab #[] _ hcw)
  cases hn.symm.trans hnY
  have hMF := hmet ad tys ws Vs T.heap.size hw hs3
  have hsub : ∀ q, va_A ws T.heap.size q → A q := by
    intro q hq
    rcases hq with ⟨k, E, hk⟩ | hq
    · exact hD.2 k _ hk
    · exact hA q (Nat.le_trans hS.1 hq)
  have hE1 : ai_E y sa (va_A ws T.heap.size) (T.setVm vm₁) T.heap := ai_E_narrow (ai_E_moved (U := T.setVm vm₁) hW₁ (ai_E_kept hS.1 hE hS.2.1)) hsub
  have hPc : ai_Pc y sa D tys ws Vs T.heap.size Vs.toArray ((T.setVm vm₁).calling (F0 m pc ls rest) mk Vs.toArray) := by
    refine ⟨rfl, rfl, hP, va_K.moved (U := (T.setVm vm₁).calling (F0 m pc ls rest) mk Vs.toArray) hW₁.alike hK, hD.weaken (fun _ _ _ _ => trivial), ?_⟩
    exact ai_E_moved (u := T.setVm vm₁) (U := (T.setVm vm₁).calling (F0 m pc ls rest) mk Vs.toArray) (State.WarmedH.refl (T.setVm vm₁)) hE1
  have hrc : (ai_rm d (out'.2.2.1 - h.2.1) (out'.2.2.2 - h.2.2)).cells = out'.2.2.1 - h.2.1 := rfl
  have hle1 := hle.1
  have hle2 := hle.2
  obtain ⟨o, t, hsteps, hend, hq⟩ := ai_invoke X₁ hMF (g := F0 m pc ls rest) (ig := i) (len := 3) (W9 := 8) rfl hml (by rw [hb]; exact hd) (lv_room hwT) hn hmY hcY hRf
    (by rw [hlY]; exact hRl) (by show cells + (out'.2.2.1 - h.2.1) ≤ R.cells; omega) (by show slots + (out'.2.2.2 - h.2.2) ≤ R.slots; omega) (htab _ _ hini)
    (atoms_intro (ws := ai_ws TB M') fun w hw9 => by
      rcases List.mem_cons.mp hw9 with rfl | hw9
      · exact htab _ _ hcw
      · exact htab _ _ hw9) hPc
  obtain ⟨ad', tys', ws', L', ⟨q', g1⟩, hw', hK', hP', hD', hF', hend', hL', hres⟩ := hq
  have X' := ai_stands X₁ hend'
  have hW2 : (T.setVm vm₁).WarmedH t.vm := hend'.1
  have hal : s.vm.Alike t.vm := hW₁.alike.trans hW2.alike
  have hS' : va_S A s.heap t.heap (locs ++ L') := by
    obtain ⟨z1, z2⟩ := hF'
    refine ⟨Nat.le_trans hS.1 z1, fun q h1 h2 => ?_, fun q hq => ?_⟩
    · exact (z2 q (Nat.lt_of_lt_of_le h1 hS.1) (fun z => h2 (hsub q z))).trans (hS.2.1 q h1 h2)
    · rcases List.mem_append.mp hq with h9 | h9
      · exact hS.2.2 q h9
      · exact hsub _ (hL' q h9)
  have ha' : ai_At s (ai_yZ y) (ai_yN y) sa D (ai_yl y) A ad0 kc ks out'.2 ad' tys' ws' t.heap (locs ++ L') (cells + (out'.2.2.1 - h.2.1)) (slots + (out'.2.2.2 - h.2.2)) :=
    ⟨⟨q0 ++ q', by rw [g1, q1, List.append_assoc]⟩, by omega, by omega, hw', va_K.moved hal.symm hK', hP', hD'.weaken (fun _ _ _ hz => hsub _ hz), hS'⟩
  have hl' : ai_l sa ad' L c.maxLocals ls := by rw [g1]; exact ai_l_more hl q'
  have hs2' : ai_vs sa ad' (S.drop n) rest := by rw [g1]; exact ai_vs_more q' hs2
  rcases hO : out'.1 with v | E
  · have hkr' := hkr v hO
    rw [hO] at hres
    have hgo : ∀ V : Option Value, o = .returned V → ai_vs sa ad' (v.toList ++ S.drop n) (V.toList ++ rest) → ∃ t2, Steps p.tables e below (T.setTop (F0 m pc ls (Vs.reverse ++ rest))) t2 ∧ ai_Zp y sa D ad0 A kc ks out below args s t2 := by
      intro V hV hvs
      rw [hV] at hend
      have ht := ai_returned X₁ (g := F0 m pc ls rest) rfl (by rw [hb]; exact hd) hend' hend
      obtain ⟨t2, a1, b1⟩ := hkr' ad' tys' ws' t.heap (locs ++ L') _ _ ls (V.toList ++ rest) ha' hl' hvs (ai_behind (T.setVm vm₁) t) rfl X'
      refine ⟨t2, hstep t2 (hsteps.trans ?_), b1⟩
      rw [ht]
      exact a1
    cases v with
    | none => exact hgo none hres hs2'
    | some v =>
      obtain ⟨V, h1, h2⟩ := hres
      exact hgo (some V) h1 ⟨h2, hs2'⟩
  · rw [hO] at hres
    obtain ⟨q, ce, rfl, hce, hcv, hcl⟩ := hres
    have ht := ai_thrown X₁ (g := F0 m pc ls rest) rfl hend' hend
    have hcl' : s.vm.findClass E = some ce.cls := by
      have h9 : vm₁.findClass E = some ce.cls := hcl
      rw [hW₁.alike.findClass] at h9
      exact h9
    rcases hkt E hO with ⟨x, t1, t2, t3, t4, t5⟩ | ⟨t1, t2⟩
    · obtain ⟨vm', X'', st''⟩ := ai_caught X' q (g := F0 m pc ls rest) rfl hown t1 t2 t3 t4 hce hcv hcl'
      obtain ⟨t9, a1, b1⟩ := t5 ad' tys' ws' t.heap (locs ++ L') _ _ ls [.ref q] ha' hl' ⟨Or.inr ⟨q, rfl⟩, trivial⟩ ((ai_behind (T.setVm vm₁) t).setVm vm') rfl X''
      refine ⟨t9, hstep t9 (hsteps.trans ?_), b1⟩
      rw [ht]
      exact st'' t9 a1
    · obtain ⟨st1, hrun, hend2, hWW, hsm⟩ := X'.leaveThrown q (g := F0 m pc ls rest) rfl rfl rfl t1 hlocks
      refine ⟨_, hstep _ (hsteps.trans (by rw [ht]; exact st1)), .threw q, hrun, hend2, ?_⟩
      rw [t2]
      exact ai_ended ha' rfl hWW hsm hS'.2.2 ⟨q, ce, rfl, hce, hcv, hcl'⟩
end AICL
