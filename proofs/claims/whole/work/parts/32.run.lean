theorem ai_lv_mem : ∀ {vs : List Value} {i k : Nat} {v : Value}, (∀ v ∈ vs, v.category = 1) → vs[k]? = some v → (i + k, v) ∈ lv_args i vs
  | [], i, k, v, _, h => by simp at h
  | w :: vs, i, 0, v, _, h => by
    simp at h; subst h
    simp [lv_args]
  | w :: vs, i, k + 1, v, hc, h => by
    rw [List.getElem?_cons_succ] at h
    have h1 : ¬ w.category = 2 := by rw [hc w List.mem_cons_self]; decide
    have h2 := ai_lv_mem (i := i + 1) (fun z hz => hc z (List.mem_cons_of_mem _ hz)) h
    rw [lv_args, if_neg h1]
    have e1 : i + (k + 1) = i + 1 + k := by omega
    rw [e1]
    exact List.mem_cons_of_mem _ h2
theorem ai_lv_cat : ∀ {vs : List Value} {i : Nat}, (∀ v ∈ vs, v.category = 1) → ∀ q ∈ lv_args i vs, q.2.category = 1
  | [], i, _, q, hq => by cases hq
  | w :: vs, i, hc, q, hq => by
    rw [lv_args] at hq
    rcases List.mem_cons.mp hq with rfl | hq
    · exact hc w List.mem_cons_self
    · exact ai_lv_cat (fun z hz => hc z (List.mem_cons_of_mem _ hz)) q hq
theorem ai_sl_len : ∀ {vs : List Value}, (∀ v ∈ vs, v.category = 1) → (lg_sl vs).length = vs.length
  | [], _ => rfl
  | w :: vs, hc => by
    have h1 : ¬ w.category = 2 := by rw [hc w List.mem_cons_self]; decide
    have h2 := ai_sl_len (vs := vs) (fun z hz => hc z (List.mem_cons_of_mem _ hz))
    unfold lg_sl at h2 ⊢
    rw [List.flatMap_cons, if_neg h1]
    simp [h2]
theorem ai_vs_catall {sa : Nat → Nat} {ad : List Nat} : ∀ {S T : List Value}, ai_vs sa ad S T → (∀ v ∈ S, v.category = 1) → ∀ v ∈ T, v.category = 1
  | [], T, h, _, v, hv => by rw [ai_vs_nil h] at hv; cases hv
  | w :: S, T, h, hc, v, hv => by
    obtain ⟨V, T', rfl, h1, h2⟩ := ai_vs_cons h
    rcases List.mem_cons.mp hv with rfl | hv
    · rw [ai_v_cat h1]; exact hc w List.mem_cons_self
    · exact ai_vs_catall h2 (fun z hz => hc z (List.mem_cons_of_mem _ hz)) v hv
/-- the locals at a method's entry -/
theorem ai_l_entry {sa : Nat → Nat} {ad : List Nat} {As Vs : List Value} {n : Nat} (hvs : ai_vs sa ad As Vs) (hok : ai_argok As n = true) : ai_l sa ad (As.map some ++ List.replicate (n - As.length) none) n ((lg_sl Vs ++ List.replicate (n - (lg_sl Vs).length) Slot.unset).toArray) := by
  unfold ai_argok at hok
  rw [Bool.and_eq_true] at hok
  have h1 : As.length ≤ n := of_decide_eq_true hok.1
  have h2 : ∀ v ∈ As, v.category = 1 := fun v hv => of_decide_eq_true (List.all_eq_true.mp hok.2 v hv)
  have h3 := ai_vs_catall hvs h2
  have h4 := ai_sl_len h3
  have h5 := ai_vs_len hvs
  refine ⟨by simp; omega, lv_args 0 Vs, lv_entry Vs (by omega), ai_lv_cat h3, fun i v hi => ?_⟩
  have hlt : i < As.length := by
    rcases Nat.lt_or_ge i As.length with q | q
    · exact q
    · rw [List.getElem?_append_right (by simpa using q)] at hi
      simp [List.getElem?_replicate] at hi
  rw [List.getElem?_append_left (by simpa using hlt), List.getElem?_map] at hi
  have hA : As[i]? = some As[i] := List.getElem?_eq_getElem hlt
  rw [hA] at hi
  simp at hi
  subst hi
  obtain ⟨V, g1, g2⟩ := ai_vs_get hvs hA
  refine ⟨V, g2, ?_⟩
  have := ai_lv_mem (i := 0) h3 g1
  rw [Nat.zero_add] at this
  exact this
section AIRN
variable {l : Launch} {y : ai_Y} {sa : Nat → Nat} {D : va_G} {TB : List Cond} {P : Nat → Option ai_M} {F : Nat}
set_option maxHeartbeats 1000000 in
/-- EVERY CALL: what the small machine answers is what the large one does -/
theorem ai_run_ok (hl : l.stackTraces = false) (hY : ai_okY TB y sa) (hP : ∀ mi M, P mi = some M → ai_okM TB y P M) (hPC : ∀ mi M, P mi = some M → ai_okC TB M) : ∀ (d mi : Nat) (M : ai_M) (As : List Value) (h : ai_H) (out : ai_O), P mi = some M → ai_run P (ai_yG y) F d mi As h = some out → ai_Met l TB y sa D d M As h out := by
  intro d
  induction d with
  | zero => intro mi M As h out _ he; cases he
  | succ d ih =>
    intro mi M As h out hPm he
    have hle := ai_run_le _ _ _ _ _ he
    simp only [ai_run, hPm] at he
    split at he
    · rename_i hok
      intro ad0 tys0 ws0 Vs sz hw hvs
      have hM := hP mi M hPm
      refine MetFree.of_bodySF (code := ai_Mb M) (maxLocals := ai_Ml M) (ret := ai_Mr M) hM.2.2.2.2.1 ?_ ?_
      · intro args s m hpre hn
        obtain ⟨m9, meth, c, h0, h1, h2, h3, h4, -, h5, h6, -⟩ := ai_cd_of (atoms_spec (ws := ai_ws TB M) hpre _ List.mem_cons_self)
        cases hn.symm.trans h0
        exact ⟨meth, c, h1, h2, h3, h4, h5, h6⟩
      · intro p e s m args below meth c s₁ B hml hPc _
        obtain ⟨rfl, hsz, hPP, hK, hD0, hE⟩ := hPc
        subst hsz
        have hh0 : s₁.heap = s.heap := by rw [B.state]; rfl
        have hall := atoms_spec (ws := ai_ws TB M) B.pre
        have hts : ∀ w ∈ TB, w.before Vs.toArray s = true := fun w hw9 => hall w (List.mem_cons_of_mem _ hw9)
        have hown : s.vm.findClass (ai_Mn M).cls = some m.cls := findClass_of_methodNamed B.named
        have X0 := Stand.of_body B
        obtain ⟨m9, meth9, c9, g0, g1, g2, g3, g4, g5, g6, g7, -⟩ := ai_cd_of (hall _ List.mem_cons_self)
        cases B.named.symm.trans g0
        cases B.method.symm.trans g1
        cases X0.code.symm.trans g2
        have hR1 : out.2.2.1 ≤ h.2.1 + (headSpec (ai_ws TB M) (ai_rm (d + 1) (out.2.2.1 - h.2.1) (out.2.2.2 - h.2.2))).room.cells := by
          show out.2.2.1 ≤ h.2.1 + (out.2.2.1 - h.2.1)
          omega
        have hR2 : out.2.2.2 ≤ h.2.2 + (headSpec (ai_ws TB M) (ai_rm (d + 1) (out.2.2.1 - h.2.1) (out.2.2.2 - h.2.2))).room.slots := by
          show out.2.2.2 ≤ h.2.2 + (out.2.2.2 - h.2.2)
          omega
        have K := ai_go_ok (p := p) (l := l) (e := e) (below := below) (D := D) (A := va_A ws0 s.heap.size) (ad0 := ad0) (kc := h.2.1) (ks := h.2.2) (d := d) (out := out) (rec := ai_run P (ai_yG y) F d) hY hM B.exec B.bytes hts hown (fun q hq => Or.inr hq) hE B.notSynchronized (name_of_methodNamed B.named B.method).1 B.returns g5 hl
          (show d + 7 ≤ d + 1 + 6 by omega) (Nat.le_refl _) hPC
          (fun mi' As' h' out' hr' => by
            have hs : ∃ M', P mi' = some M' := by
              cases d with
              | zero => cases hr'
              | succ d =>
                simp only [ai_run] at hr'
                split at hr'
                · rename_i M' hM'; exact ⟨M', hM'⟩
                · cases hr'
            obtain ⟨M', hM'⟩ := hs
            exact ⟨M', hM', ih mi' M' As' h' out' hM' hr'⟩)
          (fun mi' As' h' out' hr' => ai_run_le _ _ _ _ _ hr') hR1 hR2 F 0 _ _ h he
        have hpc0 : ai_pcs M 0 = 0 := by
          have h6 := hM.2.2.2.2.2
          unfold ai_pcs
          split
          · rename_i it hit
            rw [hit] at h6
            exact Option.some.inj h6
          · rfl
        rw [hpc0] at K
        have hent : ai_l sa ad0 (As.map some ++ List.replicate (ai_Ml M - As.length) none) c.maxLocals ((lg_sl Vs ++ List.replicate (ai_Ml M - (lg_sl Vs).length) Slot.unset).toArray) := by
          rw [hml]
          exact ai_l_entry hvs hok
        obtain ⟨t, a1, o, b1, b2, b3⟩ := K ad0 tys0 ws0 s.heap [] 0 0 _ [] ⟨⟨[], by simp⟩, rfl, rfl, hw, hK, hPP, hD0.self, va_S.rf⟩ hent trivial s₁ hh0 X0
        refine ⟨t, o, ?_, b1, b2, b3⟩
        rw [lg_entry_eq]
        exact a1
    · cases he
end AIRN
