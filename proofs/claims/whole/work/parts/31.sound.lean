theorem ai_go_some {G : ai_G} {rec : Nat → List Value → ai_H → Option ai_O} {M : ai_M} {n k : Nat} {L : ai_L} {S : List Value} {h : ai_H} {out : ai_O} (he : ai_go G rec M n k L S h = some out) : ∃ it, (ai_Mc M)[k]? = some it := by
  cases n with
  | zero => cases he
  | succ n =>
    simp only [ai_go] at he
    split at he
    · cases he
    · rename_i a b c d hk
      exact ⟨_, hk⟩
theorem ai_pcs_at {M : ai_M} {k : Nat} {it : ai_I} (h : (ai_Mc M)[k]? = some it) : ai_pcs M k = it.1 := by
  unfold ai_pcs
  rw [h]
section AISO
variable {p : Program} {l : Launch} {e : Env} {R : Room} {s : State} {m : MethodId} {args : Array Value} {below : List Frame} {meth : Method} {c : Code}
variable {y : ai_Y} {sa : Nat → Nat} {D : va_G} {A : Nat → Prop} {ad0 : List Nat} {kc ks d : Nat} {out : ai_O} {TB : List Cond} {P : Nat → Option ai_M} {M : ai_M} {rec : Nat → List Value → ai_H → Option ai_O}
set_option maxHeartbeats 2000000 in
/-- A BODY: what the small machine does in a method the large one does -/
theorem ai_go_ok (hY : ai_okY TB y sa) (hM : ai_okM TB y P M) (hx : p.tables.exec = Jvm.exec) (hb : c.code = ai_Mb M) (hts : ∀ w ∈ TB, w.before args s = true) (hown : s.vm.findClass (ai_Mn M).cls = some m.cls) (hA : ∀ q, s.heap.size ≤ q → A q) (hE : ai_E y sa A s s.heap) (hlocks : meth.locks = false) (hnm : meth.name = (ai_Mn M).name) (hrt : meth.sig.returnType = ai_Mr M)
    (htab : c.exceptionTable.toList.map (fun h => (h.startPc, h.endPc, h.handlerPc, h.catchType)) = ai_Mx M) (hl : l.stackTraces = false) (hRf : d + 7 ≤ R.frames) (hRl : 40 * (d + 1) + 200 ≤ R.locals)
    (hPC : ∀ mi M', P mi = some M' → ai_okC TB M') (hrec : ∀ mi As h out', rec mi As h = some out' → ∃ M', P mi = some M' ∧ ai_Met l TB y sa D d M' As h out') (hrle : ∀ mi As h out', rec mi As h = some out' → ai_le h out'.2) (hc1 : out.2.2.1 ≤ kc + R.cells) (hc2 : out.2.2.2 ≤ ks + R.slots) :
    ∀ (n k : Nat) (L : ai_L) (S : List Value) (h : ai_H), ai_go (ai_yG y) rec M n k L S h = some out → ai_W p l e R s m args below meth c (ai_Zp y sa D ad0 A kc ks out below args s) (ai_yZ y) (ai_yN y) sa D (ai_yl y) A ad0 kc ks (ai_pcs M k) L S h := by
  obtain ⟨m1, m2, m3, m4, m5, m6⟩ := hM
  intro n
  induction n with
  | zero => intro k L S h he; cases he
  | succ n ih =>
    intro k L S h he
    have hle0 := ai_go_le hrle _ _ _ _ _ _ he
    simp only [ai_go] at he
    split at he
    · cases he
    · rename_i pc i len r hk
      have hpc : ai_pcs M k = pc := ai_pcs_at hk
      have hdec := ai_dec_ok m1 hk
      dsimp only at hdec
      have hchk : ai_chk TB y P M (pc, i, len, r) = true := List.all_eq_true.mp m2 _ (List.mem_of_getElem? hk)
      have hnext : ∀ {L' : ai_L} {S' : List Value} {h' : ai_H}, ai_go (ai_yG y) rec M n (k + 1) L' S' h' = some out → ai_pcs M (k + 1) = pc + len := by
        intro L' S' h' h9
        obtain ⟨it, hit⟩ := ai_go_some h9
        rw [ai_pcs_at hit]
        exact ai_row_ok m3 hk hit
      rw [hpc]
      unfold ai_chk at hchk
      dsimp only at hchk
      split at he
      · rename_i h0
        rw [h0] at hchk
        split at he
        · rename_i t L' S' h' heff
          have hlk := ai_chk0_ok hts hE hnm hchk
          have hle := ai_go_le hrle _ _ _ _ _ _ he
          refine ai_eff_ok (G := ai_yG y) hx hb hdec hlk hts hY.2.1 hown hA hY.2.2.1 hY.2.2.2.1 hY.2.2.2.2.1 hE.1 hY.2.2.2.2.2.1 hY.2.2.2.2.2.2.1 heff (Nat.le_trans hle.1 hc1) (Nat.le_trans hle.2 hc2) ?_
          have K := ih _ _ _ _ he
          unfold ai_nx
          by_cases ht : t = 0
          · rw [if_pos ht] at he K ⊢
            rw [← hnext he]
            exact K
          · rw [if_neg ht] at K ⊢
            exact K
        · cases he
      · rename_i h0
        rw [h0] at hchk
        have hchk : (match P (ai_nth r 0).toNat with
          | some M' => ai_chk1 TB y M M' i len r
          | none => false) = true := hchk
        split at he
        · rename_i hcond
          obtain ⟨w1, w2, w3⟩ := hcond
          have hcall : ∀ out', rec (ai_nth r 0).toNat ((S.take (ai_nth r 1).toNat).reverse) h = some out' → ai_le out'.2 out.2 →
              (∀ v, out'.1 = .inl v → ai_W p l e R s m args below meth c (ai_Zp y sa D ad0 A kc ks out below args s) (ai_yZ y) (ai_yN y) sa D (ai_yl y) A ad0 kc ks (pc + 3) L (v.toList ++ S.drop (ai_nth r 1).toNat) out'.2) →
              (∀ E, out'.1 = .inr E → (∃ x, c.exceptionTable.toList = [x] ∧ covers x pc = true ∧ x.catchType ≠ 0 ∧ (Cond.classLink (ai_Mn M).cls x.catchType E).before args s = true ∧ ai_W p l e R s m args below meth c (ai_Zp y sa D ad0 A kc ks out below args s) (ai_yZ y) (ai_yN y) sa D (ai_yl y) A ad0 kc ks x.handlerPc L [.float 0] out'.2) ∨ ((∀ x ∈ c.exceptionTable.toList, covers x pc = false) ∧ out = (.inr E, out'.2))) →
              ai_W p l e R s m args below meth c (ai_Zp y sa D ad0 A kc ks out below args s) (ai_yZ y) (ai_yN y) sa D (ai_yl y) A ad0 kc ks pc L S h := by
            intro out' hr hle' hkr hkt
            obtain ⟨M', hP', hmet⟩ := hrec _ _ _ _ hr
            rw [hP'] at hchk
            have hent := ai_ent_ok (p := p) (l := l) (e := e) (R := R) (below := below) (meth := meth) (D := D) (n := (ai_nth r 1).toNat) hY hx hb hdec hts hown hE (hPC _ _ hP') hchk rfl w2 w3
            have hchk2 := hchk
            unfold ai_chk1 at hchk2
            simp only [Bool.and_eq_true] at hchk2
            have c1 := hchk2.1
            have hlen3 : len = 3 := of_decide_eq_true c1
            subst hlen3
            obtain ⟨k1, k2, k3, -⟩ := hPC _ _ hP'
            exact ai_call_ok (d := d) (own := (ai_Mn M).cls) hb hdec hts hY.1 k1 k2 hown hA hE hlocks (by omega) (by omega) (hrle _ _ _ _ hr) (Nat.le_trans hle'.1 hc1) (Nat.le_trans hle'.2 hc2) hmet w1 hent hkr hkt
          have hlen3 : ∀ {L' : ai_L} {S' : List Value} {h' : ai_H}, ai_go (ai_yG y) rec M n (k + 1) L' S' h' = some out → len = 3 → ai_W p l e R s m args below meth c (ai_Zp y sa D ad0 A kc ks out below args s) (ai_yZ y) (ai_yN y) sa D (ai_yl y) A ad0 kc ks (pc + 3) L' S' h' := by
            intro L' S' h' h9 h8
            have K := ih _ _ _ _ h9
            rw [hnext h9, h8] at K
            exact K
          have hl3 : len = 3 := by
            split at hchk
            · unfold ai_chk1 at hchk
              simp only [Bool.and_eq_true] at hchk
              exact of_decide_eq_true hchk.1
            · cases hchk
          have hhs : ∀ t nm, ai_catch (ai_Mh M) k = some (t, nm) → ∃ x, c.exceptionTable.toList = [x] ∧ covers x pc = true ∧ x.catchType ≠ 0 ∧ (Cond.classLink (ai_Mn M).cls x.catchType nm).before args s = true ∧ x.handlerPc = ai_pcs M t := by
            intro t nm hcat
            unfold ai_chx at m4
            split at m4
            · rw [List.isEmpty_iff.mp m4] at hcat; cases hcat
            · rename_i q hq
              split at m4
              · rename_i z hz
                simp only [Bool.and_eq_true] at m4
                obtain ⟨z1, z2, z3⟩ := m4
                obtain ⟨z1, z4⟩ := of_decide_eq_true z1
                rw [hz] at hcat
                simp only [ai_catch] at hcat
                split at hcat
                · rename_i hcov
                  cases hcat
                  rw [hq] at htab
                  obtain ⟨x, hxl, hxe⟩ := List.map_eq_singleton_iff.mp htab
                  cases hxe
                  have hkl : k < (ai_Mc M).length := (List.getElem?_eq_some_iff.mp hk).1
                  have h3 := List.all_eq_true.mp z3 k (List.mem_range.mpr hkl)
                  rw [hcov, hpc] at h3
                  refine ⟨x, hxl, ?_, z4, hts _ (of_decide_eq_true z2), z1.symm⟩
                  have h3 := (beq_iff_eq.mp h3).symm
                  exact h3
                · cases hcat
              · cases m4
            · cases m4
          have hno : ai_catch (ai_Mh M) k = none → ∀ x ∈ c.exceptionTable.toList, covers x pc = false := by
            intro hcat x hx9
            unfold ai_chx at m4
            split at m4
            · rename_i hq
              rw [hq] at htab
              rw [List.map_eq_nil_iff.mp htab] at hx9
              cases hx9
            · rename_i q hq
              split at m4
              · rename_i z hz
                simp only [Bool.and_eq_true] at m4
                obtain ⟨z1, z2, z3⟩ := m4
                rw [hz] at hcat
                simp only [ai_catch] at hcat
                split at hcat
                · cases hcat
                · rename_i hcov
                  rw [hq] at htab
                  obtain ⟨x', hxl, hxe⟩ := List.map_eq_singleton_iff.mp htab
                  rw [hxl] at hx9
                  cases List.mem_singleton.mp hx9
                  cases hxe
                  have hkl : k < (ai_Mc M).length := (List.getElem?_eq_some_iff.mp hk).1
                  have h3 := List.all_eq_true.mp z3 k (List.mem_range.mpr hkl)
                  rw [hpc, Bool.eq_false_iff.mpr hcov] at h3
                  have h3 := (beq_iff_eq.mp h3).symm
                  exact h3
              · cases m4
            · cases m4
          split at he
          · rename_i v h' hr
            have hle := ai_go_le hrle _ _ _ _ _ _ he
            refine hcall _ hr hle (fun v' hv' => ?_) (fun E hE' => by cases hE')
            cases hv'
            exact hlen3 he hl3
          · rename_i E h' hr
            split at he
            · rename_i t nm hcat
              split at he
              · rename_i hnE
                subst hnE
                have hle := ai_go_le hrle _ _ _ _ _ _ he
                refine hcall _ hr hle (fun v' hv' => by cases hv') (fun E' hE' => ?_)
                cases hE'
                obtain ⟨x, g1, g2, g3, g4, g5⟩ := hhs t _ hcat
                refine Or.inl ⟨x, g1, g2, g3, g4, ?_⟩
                rw [g5]
                exact ih _ _ _ _ he
              · cases he
            · rename_i hcat
              cases he
              refine hcall _ hr (ai_le_refl _) (fun v' hv' => by cases hv') (fun E' hE' => ?_)
              cases hE'
              exact Or.inr ⟨hno hcat, rfl⟩
          · cases he
        · cases he
      · rename_i h0
        rw [h0] at hchk
        split at he
        · rename_i hcond
          cases he
          simp only [Bool.and_eq_true] at hchk
          have hl3 : len = 3 := of_decide_eq_true hchk.1
          have htn : c.exceptionTable.toList = [] := by
            unfold ai_chx at m4
            split at m4
            · rename_i hq
              rw [hq] at htab
              exact List.map_eq_nil_iff.mp htab
            · rename_i q hq
              split at m4
              · rename_i z hz
                rw [hz] at hcond
                cases hcond.1
              · cases m4
            · cases m4
          exact ai_throw_ok (ai_thr_ok hY hx hb hdec hts hown hE hlocks hl htn (by omega) (by omega) hchk.2 hl3) hcond.2 hc1 hc2
        · cases he
      · rename_i h0
        rw [h0] at hchk
        split at he
        · rename_i j S'
          split at he
          · rename_i hwt
            cases i with
            | invokespecial idx =>
              simp only [ai_chk3, Bool.and_eq_true] at hchk
              obtain ⟨c1, c2, c3, c4⟩ := hchk
              have hl3 : len = 3 := of_decide_eq_true c1
              have K := ih _ _ _ _ he
              rw [hnext he, hl3] at K
              subst hl3
              exact ai_objinit_ok hx hb hdec hown (ai_tb_ok hts c2) (ai_tb_ok hts c3) (ai_tb_ok hts c4) (by omega) (by omega) hwt K
            | _ => cases hchk
          · cases he
        · cases he
      · rename_i h0
        rw [h0] at hchk
        split at he
        · rename_i S' h' hcp
          split at he
          · rename_i hwt
            cases i with
            | invokestatic idx =>
              simp only [ai_chk4, Bool.and_eq_true] at hchk
              obtain ⟨c1, c2, c3, c4, c5⟩ := hchk
              have hl3 : len = 3 := of_decide_eq_true c1
              have K := ih _ _ _ _ he
              rw [hnext he, hl3] at K
              subst hl3
              have hnw : nativeFrameWords "java/lang/System" "arraycopy" 5 ≤ 150 := by decide +kernel
              exact ai_copy_ok hx hb hdec hown hE.1 hY.2.2.2.2.1 (ai_tb_ok hts c2) (ai_tb_ok hts c3) (ai_tb_ok hts c4) (ai_tb_ok hts c5) (by omega) (by omega) hcp hwt K
            | _ => cases hchk
          · cases he
        · cases he
      · rename_i h0
        rw [h0] at hchk
        obtain ⟨hi, hl1⟩ := of_decide_eq_true hchk
        subst hi; subst hl1
        split at he
        · split at he
          · rename_i ty hty
            split at he
            · rename_i hn
              cases he
              exact ai_iret_ok hx hb hdec hlocks (hrt.trans hty) hn
            · cases he
          · cases he
        · cases he
      · rename_i h0
        rw [h0] at hchk
        simp only [Bool.and_eq_true] at hchk
        obtain ⟨hi, hl1⟩ := of_decide_eq_true hchk.1
        subst hi; subst hl1
        split at he
        · split at he
          · rename_i hn
            cases he
            have h2 := hchk.2
            unfold ai_isro at h2
            split at h2
            · rename_i nm hty
              exact ai_aret_ok hx hb hdec hlocks (hrt.trans hty) (Or.inl ⟨nm, rfl⟩) hn
            · rename_i nm hty
              exact ai_aret_ok hx hb hdec hlocks (hrt.trans hty) (Or.inr ⟨nm, rfl⟩) hn
            · cases h2
          · cases he
        · cases he
      · rename_i h0
        rw [h0] at hchk
        obtain ⟨hi, hl1, hl2⟩ := of_decide_eq_true hchk
        subst hi; subst hl1
        split at he
        · cases he
          exact ai_vret_ok hx hb hdec hlocks (hrt.trans hl2)
        · cases he
      · cases he
end AISO
