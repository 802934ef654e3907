section AIB
variable {p : Program} {l : Launch} {e : Env} {R : Room} {s : State} {m : MethodId} {args : Array Value} {below : List Frame} {meth : Method} {c : Code} {Q : State → Prop}
variable {Z : ai_S} {cn : Nat → String} {sa : Nat → Nat} {D : va_G} {cl : List vw_C} {A : Nat → Prop} {ad0 : List Nat} {kc ks : Nat}
variable {cc : ByteArray} {pc t : Nat} {L L' : ai_L} {S S' : List Value} {h h' : ai_H} {pcs : Nat → Nat} {r : ai_R}
/-- the two roads of a branch -/
theorem ai_two {C : Prop} {b : Bool} (hb : b = true ↔ C) {T : List Value} {H : Heap} {locs : List Loc} {cells slots : Nat} {ls : Array Slot} {st : List Value}
    (row : (C → W p l e R s m args below meth c H locs cells slots Q (F0 m (pcs (ai_tgt r)) ls T)) → (¬ C → W p l e R s m args below meth c H locs cells slots Q (F0 m (pc + 3) ls T)) → W p l e R s m args below meth c H locs cells slots Q (F0 m pc ls st))
    (he : ai_jump b r L S h = some (t, L', S', h')) (k : (t, L', S', h') = (t, L, S, h) → W p l e R s m args below meth c H locs cells slots Q (F0 m (ai_nx pcs pc 3 t) ls T)) : W p l e R s m args below meth c H locs cells slots Q (F0 m pc ls st) := by
  simp only [ai_jump, Option.some.injEq, Prod.mk.injEq] at he
  obtain ⟨ht, rfl, rfl, rfl⟩ := he
  have K := k rfl
  refine row (fun hc => ?_) (fun hc => ?_)
  · rw [if_pos (hb.mpr hc)] at ht
    subst ht
    exact K
  · rw [if_neg (fun z => hc (hb.mp z))] at ht
    subst ht
    exact K
theorem ai_if_ok {cd : Jvm.ClassFile.Cond} {off : Int} (hx : p.tables.exec = Jvm.exec) (hb : c.code = cc) (hd : decode cc pc = .ok (.ifCond cd off, 3)) (ht : (pc : Int) + off = (pcs (ai_tgt r) : Int)) {x : Int32}
    (he : ai_jump (ai_cmp cd x 0) r L S h = some (t, L', S', h')) (k : ai_W p l e R s m args below meth c Q Z cn sa D cl A ad0 kc ks (ai_nx pcs pc 3 t) L' S' h') : ai_W p l e R s m args below meth c Q Z cn sa D cl A ad0 kc ks pc L (.int x :: S) h := by
  intro ad tys ws H locs cells slots ls st ha hl hs
  obtain ⟨V, T, rfl, hv, hs⟩ := ai_vs_cons hs
  rw [show V = .int x from hv]
  have K : (t, L', S', h') = (t, L, S, h) → W p l e R s m args below meth c H locs cells slots Q (F0 m (ai_nx pcs pc 3 t) ls T) := fun hq => by
    simp only [Prod.mk.injEq, true_and] at hq
    obtain ⟨rfl, rfl, rfl⟩ := hq
    exact k ad tys ws H locs cells slots ls T ha hl hs
  cases cd with
  | eq => exact ai_two (C := x = 0) (by simp [ai_cmp]) (fun a b => lv_if_eq hx hb hd ht a b) he K
  | ne => exact ai_two (C := ¬ x = 0) (by simp [ai_cmp]) (fun a b => lv_if_ne hx hb hd ht a (fun z => b (fun y => y z))) he K
  | lt => exact ai_two (C := x < 0) (by simp [ai_cmp]) (fun a b => lv_if_lt hx hb hd ht a b) he K
  | ge => exact ai_two (C := 0 ≤ x) (by simp [ai_cmp]) (fun a b => lv_if_ge hx hb hd ht a b) he K
  | gt => exact ai_two (C := 0 < x) (by simp [ai_cmp]) (fun a b => lv_if_gt hx hb hd ht a b) he K
  | le => exact ai_two (C := x ≤ 0) (by simp [ai_cmp]) (fun a b => lv_if_le hx hb hd ht a b) he K
theorem ai_icmp_ok {cd : Jvm.ClassFile.Cond} {off : Int} (hx : p.tables.exec = Jvm.exec) (hb : c.code = cc) (hd : decode cc pc = .ok (.if_icmp cd off, 3)) (ht : (pc : Int) + off = (pcs (ai_tgt r) : Int)) {x y : Int32}
    (he : ai_jump (ai_cmp cd x y) r L S h = some (t, L', S', h')) (k : ai_W p l e R s m args below meth c Q Z cn sa D cl A ad0 kc ks (ai_nx pcs pc 3 t) L' S' h') : ai_W p l e R s m args below meth c Q Z cn sa D cl A ad0 kc ks pc L (.int y :: .int x :: S) h := by
  intro ad tys ws H locs cells slots ls st ha hl hs
  obtain ⟨V, T, rfl, hv, hs⟩ := ai_vs_cons hs
  obtain ⟨V2, T, rfl, hv2, hs⟩ := ai_vs_cons hs
  rw [show V = .int y from hv, show V2 = .int x from hv2]
  have K : (t, L', S', h') = (t, L, S, h) → W p l e R s m args below meth c H locs cells slots Q (F0 m (ai_nx pcs pc 3 t) ls T) := fun hq => by
    simp only [Prod.mk.injEq, true_and] at hq
    obtain ⟨rfl, rfl, rfl⟩ := hq
    exact k ad tys ws H locs cells slots ls T ha hl hs
  cases cd with
  | eq => exact ai_two (C := x = y) (by simp [ai_cmp]) (fun a b => lv_icmp_eq hx hb hd ht a b) he K
  | ne => exact ai_two (C := ¬ x = y) (by simp [ai_cmp]) (fun a b => lv_icmp_ne hx hb hd ht a (fun z => b (fun y => y z))) he K
  | lt => exact ai_two (C := x < y) (by simp [ai_cmp]) (fun a b => lv_icmp_lt hx hb hd ht a b) he K
  | ge => exact ai_two (C := y ≤ x) (by simp [ai_cmp]) (fun a b => lv_icmp_ge hx hb hd ht a b) he K
  | gt => exact ai_two (C := y < x) (by simp [ai_cmp]) (fun a b => lv_icmp_gt hx hb hd ht a b) he K
  | le => exact ai_two (C := x ≤ y) (by simp [ai_cmp]) (fun a b => lv_icmp_le hx hb hd ht a b) he K
theorem ai_goto_ok {off : Int} (hx : p.tables.exec = Jvm.exec) (hb : c.code = cc) (hd : decode cc pc = .ok (.goto off, 3)) (ht : (pc : Int) + off = (pcs (ai_tgt r) : Int))
    (he : ai_jump true r L S h = some (t, L', S', h')) (k : ai_W p l e R s m args below meth c Q Z cn sa D cl A ad0 kc ks (ai_nx pcs pc 3 t) L' S' h') : ai_W p l e R s m args below meth c Q Z cn sa D cl A ad0 kc ks pc L S h := by
  simp only [ai_jump, if_true, Option.some.injEq, Prod.mk.injEq] at he
  obtain ⟨rfl, rfl, rfl, rfl⟩ := he
  intro ad tys ws H locs cells slots ls st ha hl hs
  exact lv_goto hx hb hd ht (k ad tys ws H locs cells slots ls st ha hl hs)
theorem ai_lcmp_ok (hx : p.tables.exec = Jvm.exec) (hb : c.code = cc) (hd : decode cc pc = .ok (.lcmp, 1)) {x y : Int64} (k : ai_W p l e R s m args below meth c Q Z cn sa D cl A ad0 kc ks (pc + 1) L (.int (lg_cmp x y) :: S) h) : ai_W p l e R s m args below meth c Q Z cn sa D cl A ad0 kc ks pc L (.long y :: .long x :: S) h := by
  intro ad tys ws H locs cells slots ls st ha hl hs
  obtain ⟨V, T, rfl, hv, hs⟩ := ai_vs_cons hs
  obtain ⟨V2, T, rfl, hv2, hs⟩ := ai_vs_cons hs
  rw [show V = .long y from hv, show V2 = .long x from hv2]
  exact W.lcmp hx hb hd (k ad tys ws H locs cells slots ls (.int (lg_cmp x y) :: T) ha hl ⟨rfl, hs⟩)
theorem ai_tsw_ok {dflt lo hi : Int} {offs : Array Int} {len : Nat} (hx : p.tables.exec = Jvm.exec) (hb : c.code = cc) (hd : decode cc pc = .ok (.tableswitch dflt lo hi offs, len)) (hdf : (pc : Int) + dflt = (pcs (ai_tgt r) : Int))
    (hof : ∀ j : Nat, (j : Int) ≤ hi - lo → ∃ off, offs[j]? = some off ∧ (pc : Int) + off = (pcs (ai_nth r (j + 1)).toNat : Int)) {x : Int32}
    (he : ai_sw (if x.toInt < lo ∨ hi < x.toInt then ai_tgt r else (ai_nth r ((x.toInt - lo).toNat + 1)).toNat) L S h = some (t, L', S', h')) (k : ai_W p l e R s m args below meth c Q Z cn sa D cl A ad0 kc ks (ai_nx pcs pc len t) L' S' h') : ai_W p l e R s m args below meth c Q Z cn sa D cl A ad0 kc ks pc L (.int x :: S) h := by
  simp only [ai_sw, Option.some.injEq, Prod.mk.injEq] at he
  obtain ⟨rfl, rfl, rfl, rfl⟩ := he
  intro ad tys ws H locs cells slots ls st ha hl hs
  obtain ⟨V, T, rfl, hv, hs⟩ := ai_vs_cons hs
  rw [show V = .int x from hv]
  have K := k ad tys ws H locs cells slots ls T ha hl hs
  by_cases hc : x.toInt < lo ∨ hi < x.toInt
  · rw [if_pos hc] at K
    exact lv_tableOut hx hb hd hc hdf K
  · rw [if_neg hc] at K
    have h1 : ¬ x.toInt < lo := fun z => hc (Or.inl z)
    have h2 : ¬ hi < x.toInt := fun z => hc (Or.inr z)
    obtain ⟨off, g1, g2⟩ := hof (x.toInt - lo).toNat (by omega)
    exact lv_tableIn hx hb hd h1 h2 g1 g2 K
/-- comparing references -/
theorem ai_same_v {ad : List Nat} {ws : va_W} {tys : List (ClassId × FieldType)} (hsa : ∀ i j ci fs fs', Z i = some (ai_obj ci fs) → Z j = some (ai_obj ci fs') → sa i = sa j → i = j) {hp : List ai_C} (hw : ai_w Z cn sa ad tys hp ws) (hD : va_D A ws) {x y X Y : Value} {b : Bool}
    (hz : ai_zk Z x y = true) (hb : ai_same x y = some b) (hX : ai_v sa ad x X) (hY : ai_v sa ad y Y) : ∃ rx ry : Option Nat, X = va_rf rx ∧ Y = va_rf ry ∧ (b = true ↔ rx = ry) := by
  have inj : ∀ i j a : Nat, ad[i]? = some a → ad[j]? = some a → i = j := by
    intro i j a hi hj
    have li : i < hp.length := by rw [← hw.2.1]; exact (List.getElem?_eq_some_iff.mp hi).1
    have lj : j < hp.length := by rw [← hw.2.1]; exact (List.getElem?_eq_some_iff.mp hj).1
    obtain ⟨a1, E1, g1, g2, -⟩ := hw.2.2 i _ (List.getElem?_eq_getElem li)
    obtain ⟨a2, E2, g3, g4, -⟩ := hw.2.2 j _ (List.getElem?_eq_getElem lj)
    rw [hi] at g1; cases g1
    rw [hj] at g3; cases g3
    exact hD.1 i j _ _ g2 g4 rfl
  cases x with
  | null =>
    have hX : X = .null := hX
    cases y with
    | null => refine ⟨none, none, hX, hY, ?_⟩; simp [ai_same] at hb; simp [← hb]
    | ref j => obtain ⟨a, -, rfl⟩ := hY; refine ⟨none, some a, hX, rfl, ?_⟩; simp [ai_same] at hb; simp [← hb]
    | retAddr j => refine ⟨none, some (sa j), hX, hY, ?_⟩; simp [ai_same] at hb; simp [← hb]
    | _ => simp [ai_same] at hb
  | ref i =>
    obtain ⟨a, hi, rfl⟩ := hX
    cases y with
    | null => refine ⟨some a, none, rfl, hY, ?_⟩; simp [ai_same] at hb; simp [← hb]
    | ref j =>
      obtain ⟨a2, hj, rfl⟩ := hY
      refine ⟨some a, some a2, rfl, rfl, ?_⟩
      simp only [ai_same, Option.some.injEq] at hb
      rw [← hb, decide_eq_true_eq]
      constructor
      · intro e; subst e; rw [hi] at hj; exact hj
      · intro e; cases e; exact inj i j a hi hj
    | _ => simp [ai_same] at hb
  | retAddr i =>
    have hX : X = .ref (sa i) := hX
    cases y with
    | null => refine ⟨some (sa i), none, hX, hY, ?_⟩; simp [ai_same] at hb; simp [← hb]
    | retAddr j =>
      refine ⟨some (sa i), some (sa j), hX, hY, ?_⟩
      simp only [ai_same, Option.some.injEq] at hb
      rw [← hb, decide_eq_true_eq]
      constructor
      · intro e; rw [e]
      · intro e
        simp only [ai_zk] at hz
        split at hz
        · rename_i ci fs h1
          split at hz
          · rename_i cj fs' h2
            have hcc : ci = cj := of_decide_eq_true hz
            subst hcc
            exact hsa i j ci fs fs' h1 h2 (Option.some.inj e)
          · cases hz
        · cases hz
    | _ => simp [ai_same] at hb
  | _ => simp [ai_same] at hb
end AIB
