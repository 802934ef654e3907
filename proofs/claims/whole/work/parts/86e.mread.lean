/-! THE MODEL BETWEEN CALLS, AND ITS READ. (Printed by wip/whole/pp.py from wip/whole/src.) -/
section MRF
variable {L : Nat} {xs : Nat → Int32} {d : Nat} {h h' : ai_H} {B Q T : List Int32} {J : List zJ} {kd dp : Nat}
abbrev mob (v1 : Value) (tp ln cn : Nat) (v10 : Value) (kp : Nat) (v14 : Value) (dp kd : Nat) (v17 v18 v19 v20 v21 : Value) : ai_C := ai_obj 5 [.ref 15, v1, .ref 16, .int (nI tp), .ref 17, .int (nI ln), .int (nI cn), .ref 18, .ref 19, .ref 20, v10, .int (nI kp), .ref 21, .ref 22, v14, .int (nI dp), .int (nI kd), v17, v18, v19, v20, v21, .ref 23, .ref 24, .ref 25]
/-- so many bytes of a row -/
def mby (f : Nat → Int32) (B : List Int32) : Prop := B.length ≤ 65536 ∧ (∀ j, j < B.length → f j = B.getD j 0) ∧ ∀ x ∈ B, zb x = x
/-- the items of the plain form -/
def mit (T : List Int32) (J : List zJ) (rf bf : Nat → Int32) : Prop := ∀ k a, J[k]? = some a → rf k = a.1 ∧ jc (zen T) a ∧ bf k = nI (a.2.2.1 + 65536 * a.2.2.2) ∧ a.2.2.1 < 65536 ∧ a.2.2.2 ≤ 400
/-- the model between calls: bytes on the tape, the plain form, the kind, the depth; the items and the text that they came from -/
def mst (h : ai_H) (B Q : List Int32) (kd dp : Nat) (J : List zJ) (T : List Int32) : Prop := ∃ (cn : Nat) (v1 v10 v14 v17 v18 v19 v20 v21 : Value) (tb ft rf bf wr wf sn : Nat → Int32), h.1[14]? = some (mob v1 B.length T.length cn v10 J.length v14 dp kd v17 v18 v19 v20 v21) ∧ mwd h ∧ h.1[16]? = some (ai_num .byte 65536 tb) ∧ mby tb B ∧ h.1[17]? = some (ai_num .byte 65536 ft) ∧ mby ft T ∧ (∃ f, h.1[18]? = some (ai_num .int 65538 f)) ∧ (∃ f, h.1[19]? = some (ai_num .byte 65538 f)) ∧ (∃ f, h.1[20]? = some (ai_num .short 65538 f)) ∧ h.1[21]? = some (ai_num .int 131072 rf) ∧ h.1[22]? = some (ai_num .int 131072 bf) ∧ h.1[23]? = some (ai_num .int 512 wr) ∧ h.1[24]? = some (ai_num .int 512 wf) ∧ h.1[25]? = some (ai_num .int 65536 sn) ∧ (J ≠ [] → mtr h (zen T).1) ∧ mit T J rf bf ∧ Q = (jr J).take ((jr J).length - 1) ∧ J.length ≤ 131072
/-- a call of the model changes its own cells alone -/
def mmv (h h' : ai_H) : Prop := ∀ i c, i < 14 ∨ 25 < i → h.1[i]? = some c → h'.1[i]? = some c
theorem mmv_refl : mmv h h := fun _ _ _ hc => hc
theorem mmv_trans {h2 : ai_H} (a : mmv h h') (b : mmv h' h2) : mmv h h2 := fun i c hi hc => b i c hi (a i c hi hc)
theorem mmv_set {j : Nat} {c : ai_C} {n : Nat × Nat} (hj : 14 ≤ j ∧ j ≤ 25) : mmv h (h.1.set j c, n) := fun i c hi hc => by
  show (h.1.set j _)[i]? = _
  rw [List.getElem?_set_ne (by omega)]
  exact hc
theorem jsum_mem {k : Nat} {a : zJ} (ha : J[k]? = some a) : a.2.2.1 ≤ jsum J := by
  induction J generalizing k with
  | nil => cases ha
  | cons b J ih =>
    cases k with
    | zero => cases ha; show _ ≤ a.2.2.1 + jsum J; omega
    | succ k =>
      have := ih (k := k) ha
      show _ ≤ b.2.2.1 + jsum J
      omega
/-- the tape becomes the text -/
theorem m_copy {v1 v10 v14 v17 v18 v19 v20 v21 : Value} {ln cn kp : Nat} {tb : Nat → Int32} (hB : mby tb B) : ∀ (n i : Nat) (h : ai_H) (f : Nat → Int32), B.length - i = n → i ≤ B.length → h.1[14]? = some (mob v1 B.length ln cn v10 kp v14 dp kd v17 v18 v19 v20 v21) → h.1[16]? = some (ai_num .byte 65536 tb) → h.1[17]? = some (ai_num .byte 65536 f) → (∀ j, j < i → f j = B.getD j 0) → ∃ f', (∀ j, j < B.length → f' j = B.getD j 0) ∧ ∀ o, qg L xs d qm_118 23 [some (.ref 14), some (.int (nI B.length))] [] (h.1.set 17 (ai_num .byte 65536 f'), h.2) o → qg L xs d qm_118 9 [some (.ref 14), some (.int (nI i))] [] h o := by
  have hl := hB.1
  intro n
  induction n with
  | zero =>
    intro i h f hn hi h14 h16 h17 hf
    have e1 : i = B.length := by omega
    subst e1
    refine ⟨f, hf, fun o hg => ?_⟩
    rw [q_same h17] at hg
    refine qg_pls (n := 2) (k' := 11) (lo' := [some (.ref 14), some (.int (nI B.length))]) (S' := [.ref 14, .int (nI B.length)]) (h' := h) rfl ?_
    refine qg_getf (v := .int (nI B.length)) rfl h14 rfl rfl rfl ?_
    refine qg_icmp true rfl (qc_geT (Nat.le_refl _) (by omega)) rfl ?_
    exact hg
  | succ n ih =>
    intro i h f hn hi h14 h16 h17 hf
    obtain ⟨f', hf', road⟩ := ih (i + 1) (h.1.set 17 (ai_num .byte 65536 (upd f i (B.getD i 0))), h.2) (upd f i (B.getD i 0)) (by omega) (by omega) (q_stay h14 (by decide)) (q_stay h16 (by decide)) (q_set h17) (fun j hj => by
      unfold upd
      by_cases q : j = i
      · rw [if_pos q, q]
      · rw [if_neg q]; exact hf j (by omega))
    refine ⟨f', hf', fun o hg => ?_⟩
    have hbi : zb (B.getD i 0) = B.getD i 0 := hB.2.2 _ (by
      rw [List.getD_eq_getElem?_getD, List.getElem?_eq_getElem (by omega)]
      exact List.getElem_mem (by omega))
    refine qg_pls (n := 2) (k' := 11) (lo' := [some (.ref 14), some (.int (nI i))]) (S' := [.ref 14, .int (nI i)]) (h' := h) rfl ?_
    refine qg_getf (v := .int (nI B.length)) rfl h14 rfl rfl rfl ?_
    refine qg_icmp false rfl (qc_geF (by omega) (by omega)) rfl ?_
    refine qg_pls (n := 1) (k' := 14) (lo' := [some (.ref 14), some (.int (nI i))]) (S' := [.ref 14]) (h' := h) rfl ?_
    refine qg_getf (v := .ref 17) rfl h14 rfl rfl rfl ?_
    refine qg_pls (n := 2) (k' := 17) (lo' := [some (.ref 14), some (.int (nI i))]) (S' := [.ref 14, .int (nI i), .ref 17]) (h' := h) rfl ?_
    refine qg_getf (v := .ref 16) rfl h14 rfl rfl rfl ?_
    refine qg_pls (n := 1) (k' := 19) (lo' := [some (.ref 14), some (.int (nI i))]) (S' := [.int (nI i), .ref 16, .int (nI i), .ref 17]) (h' := h) rfl ?_
    refine qg_ald rfl (fun _ _ _ => rfl) h16 (by omega) (by decide) ?_
    rw [hB.2.1 i (by omega)]
    refine qg_ast rfl (fun _ _ _ => rfl) h17 (by omega) (by decide) ?_
    rw [show vp_nar FieldType.byte (B.getD i 0) = B.getD i 0 from hbi]
    show qg L xs _ qm_118 21 [some (.ref 14), some (.int (nI i))] [] (h.1.set 17 (ai_num .byte 65536 (upd f i (B.getD i 0))), h.2) _
    refine qg_pls (n := 2) (k' := 9) (lo' := [some (.ref 14), some (.int ((nI i) + 1))]) (S' := []) (h' := (h.1.set 17 (ai_num .byte 65536 (upd f i (B.getD i 0))), h.2)) rfl ?_
    rw [nI_1]
    refine road o ?_
    rw [List.set_set]
    exact hg
/-- the cells that stay while a statement is read -/
def mYh (h : ai_H) : Nat → Option ai_C := fun i => if i = 14 ∨ i = 21 ∨ i = 22 ∨ i = 23 ∨ i = 24 then none else h.1[i]?
theorem mYh_of {i : Nat} {c : ai_C} (hi : h.1[i]? = some c) (hn : ¬ (i = 14 ∨ i = 21 ∨ i = 22 ∨ i = 23 ∨ i = 24)) : mYh h i = some c := by
  unfold mYh
  rw [if_neg hn]; exact hi
theorem zread_inv {e : zE} {m : Nat} {v : Option Nat} {s' : zS} (hz : zread e m = some (v, s')) : ∃ s2, zbd (z_stmt e (zsp e m true) (zsp e m false) (0, 0, 0, 0, [])) (fun k s => zbd (zd_end e s) fun _ s => some (some k, s)) = some (v, s2) ∧ s2.2.2.1 = s'.2.2.1 ∧ (v = none → s2.1 = s'.1) ∧ (∀ k, v = some k → s'.2.2.2.2 = s2.2.2.2.2.take (s2.2.2.2.2.length - 1) ∧ s2.2.2.2.2 ≠ []) := by
  unfold zread at hz
  rcases zbd_inv hz with ⟨z1, rfl⟩ | ⟨k, s1, z1, hz⟩
  · exact ⟨s', by rw [z1]; rfl, rfl, fun _ => rfl, fun k q => by cases q⟩
  · rw [z1]
    simp only [zbd_some]
    unfold z_finish zq at hz
    simp only [zbd_zbd] at hz
    unfold zd_end zq
    simp only [zbd_zbd]
    rcases zbd_inv hz with ⟨z2, rfl⟩ | ⟨a2, s2, z2, hz⟩
    · rw [z2]
      exact ⟨s', rfl, rfl, fun _ => rfl, fun k q => by cases q⟩
    · rw [z2]
      simp only [zbd_some]
      by_cases t : ztk e s2.1 = 102
      · have e1 : zsk e 102 s2 = znext s2 := by
          unfold zsk zc zstep
          rw [if_pos t, if_neg (by omega), if_neg (by omega)]
        rw [e1] at hz
        rcases zbd_inv hz with ⟨z3, -⟩ | ⟨a3, s3, z3, hz⟩
        · obtain ⟨-, q, -⟩ := znext_inv z3; cases q
        obtain ⟨-, -, e3⟩ := znext_inv z3
        rcases zbd_inv hz with ⟨z4, -⟩ | ⟨a4, s4, z4, hz⟩
        · unfold zdrop at z4
          split at z4 <;> cases z4
        unfold zdrop at z4
        by_cases h0 : s3.2.2.2.2.length = 0
        · rw [if_pos h0] at z4; cases z4
        · rw [if_neg h0] at z4
          cases z4
          cases hz
          have e4 : zc e 102 (zv 0) zf s2 = some (some 0, s2) := by
            unfold zc
            rw [if_pos t]; rfl
          rw [e4]
          refine ⟨s2, rfl, ?_, (fun q => by cases q), fun k' _ => ⟨?_, ?_⟩⟩
          · rw [e3]
          · rw [e3]
          · intro q
            rw [e3] at h0
            exact h0 (by show s2.2.2.2.2.length = 0; rw [q]; rfl)
      · have e1 : zsk e 102 s2 = some (none, s2) := by
          unfold zsk zc
          rw [if_neg t]; rfl
        rw [e1] at hz
        cases hz
        have e4 : zc e 102 (zv 0) zf s' = some (none, s') := by
          unfold zc
          rw [if_neg t]; rfl
        rw [e4]
        exact ⟨s', rfl, rfl, fun _ => rfl, fun k q => by cases q⟩
end MRF
