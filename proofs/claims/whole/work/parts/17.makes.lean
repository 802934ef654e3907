/-- the values of a new object's fields -/
def ai_dok (cl : List vw_C) (ty0 : Nat → Nat → FieldType) (df : Nat → List Value) : Prop := ∀ (ci : Nat) (q : vw_C), cl[ci]? = some q → (∀ j, j < q.2.2 → defaultValue (ty0 ci j) = vp_V (df ci) j) ∧ (df ci).length = q.2.2 ∧ ∀ v ∈ df ci, v = .null ∨ v = .int 0
theorem ai_vs_df {sa : Nat → Nat} {ad : List Nat} : ∀ {S : List Value}, (∀ v ∈ S, v = .null ∨ v = .int 0) → ai_vs sa ad S S
  | [], _ => trivial
  | v :: S, h => by
    refine ⟨?_, ai_vs_df fun w hw => h w (List.mem_cons_of_mem _ hw)⟩
    rcases h v List.mem_cons_self with rfl | rfl <;> rfl
section AIN
variable {p : Program} {l : Launch} {e : Env} {R : Room} {s : State} {m : MethodId} {args : Array Value} {below : List Frame} {meth : Method} {c : Code} {Q : State → Prop}
variable {Z : ai_S} {cn : Nat → String} {sa : Nat → Nat} {D : va_G} {cl : List vw_C} {A : Nat → Prop} {ad0 : List Nat} {kc ks : Nat}
variable {cc : ByteArray} {pc t : Nat} {L L' : ai_L} {S S' : List Value} {h h' : ai_H} {pcs : Nat → Nat} {zc : Nat → String × u_T} {Ts : List Cond} {ty0 : Nat → Nat → FieldType} {own : String} {idx ci k0 : Nat} {G : ai_G}
theorem ai_At_push {ad : List Nat} {tys tt : List (ClassId × FieldType)} {ws : va_W} {H H1 : Heap} {locs : List Loc} {cells slots n a : Nat} {x : ai_C} {E : va_E} (ha : ai_At s Z cn sa D cl A ad0 kc ks h ad tys ws H locs cells slots)
    (hc : ai_c Z cn sa (ad ++ [a]) (tys ++ tt) x E) (hK : va_K D cl (tys ++ tt) s) (hP : va_P D cl (ws ++ [(a, E)]) H1) (hD : va_D A (ws ++ [(a, E)])) (hS : va_S A s.heap H1 locs) :
    ai_At s Z cn sa D cl A ad0 kc ks (h.1 ++ [x], h.2.1 + 1, h.2.2 + n) (ad ++ [a]) (tys ++ tt) (ws ++ [(a, E)]) H1 locs (cells + 1) (slots + n) := by
  obtain ⟨⟨q, q1⟩, q2, q3, hw, -⟩ := ha
  exact ⟨⟨q ++ [a], by rw [q1, List.append_assoc]⟩, by show h.2.1 + 1 = _; omega, by show h.2.2 + n = _; omega, ai_w_push hw hc, hK, hP, hD, hS⟩
theorem ai_new_ok (hx : p.tables.exec = Jvm.exec) (hb : c.code = cc) (hd : decode cc pc = .ok (.new idx, 3)) (hts : ∀ w ∈ Ts, w.before args s = true) (hcl : ai_clok Ts cl ty0) (hown : s.vm.findClass own = some m.cls) (hA : ∀ q, s.heap.size ≤ q → A q)
    {q : vw_C} (hq : cl[ci]? = some q) (hdf : ai_dok cl ty0 G.2.2.1) (hlk : (Cond.classLink own idx q.1).before args s = true) (hin : (Cond.instantiable q.1 q.2.2).before args s = true) (hini : (Cond.initialized q.1).before args s = true)
    (he : ai_new G ci L S h = some (t, L', S', h')) (hR1 : h'.2.1 ≤ kc + R.cells) (hR2 : h'.2.2 ≤ ks + R.slots) (k : ai_W p l e R s m args below meth c Q Z cn sa D cl A ad0 kc ks (ai_nx pcs pc 3 t) L' S' h') : ai_W p l e R s m args below meth c Q Z cn sa D cl A ad0 kc ks pc L S h := by
  simp only [ai_new, Option.some.injEq, Prod.mk.injEq] at he
  obtain ⟨rfl, rfl, rfl, rfl⟩ := he
  obtain ⟨d1, d2, d3⟩ := hdf _ _ hq
  intro ad tys ws H locs cells slots ls st ha hl hs
  obtain ⟨c1, c2, c3⟩ := hcl _ _ hq
  obtain ⟨C, T9, N⟩ := q
  have q2 : h.2.1 = kc + cells := ha.2.1
  have q3 : h.2.2 = ks + slots := ha.2.2.1
  have hR1 : h.2.1 + 1 ≤ kc + R.cells := hR1
  have hR2 : h.2.2 + (G.2.2.1 ci).length ≤ ks + R.slots := hR2
  have d2 : (G.2.2.1 ci).length = N := d2
  rw [d2] at hR2
  refine va_new (ci := ci) (fs := G.2.2.1 ci) (C := C) (T := T9) (N := N) hx hb hts c1 (ty0 ci) c2 hown hlk hin hini ha.2.2.2.2.1 ha.2.2.2.2.2.1 ha.2.2.2.2.2.2.1 ha.2.2.2.2.2.2.2 hA hq d1 (by omega) (by omega) hd (fun a H1 hP1 hD1 hS1 => ?_)
  have hK := ha.2.2.2.2.1
  have hA1 := ai_At_push (tt := []) (n := (G.2.2.1 ci).length) (x := ai_obj ci (G.2.2.1 ci)) (E := .inr (ci, G.2.2.1 ci)) ha ⟨_, rfl, ai_vs_df d3⟩ (by rw [List.append_nil]; exact hK) hP1 hD1 hS1
  rw [d2] at hA1
  rw [d2] at k
  exact k (ad ++ [a]) (tys ++ []) _ H1 locs (cells + 1) (slots + N) ls (.ref a :: st) hA1 (ai_l_more hl [a]) ⟨ai_v_new ha.2.2.2.1.2.1, ai_vs_more [a] hs⟩
theorem ai_fits0 {ty : FieldType} (h : ai_ty ty) : fits ty (.int 0) = true := by
  rcases h with rfl | rfl | rfl | rfl <;> rfl
theorem ai_def0 {ty : FieldType} (h : ai_ty ty) : defaultValue ty = .int 0 := by
  rcases h with rfl | rfl | rfl | rfl <;> rfl
theorem ai_comp8 (ty : FieldType) : componentBytes ty ≤ 8 := by
  cases ty <;> first | decide | exact Nat.le_of_ble_eq_true rfl
theorem ai_newa_ok (hx : p.tables.exec = Jvm.exec) (hb : c.code = cc) {at0 : ArrayType} (hd : decode cc pc = .ok (.newarray at0, 2)) (hA : ∀ q, s.heap.size ≤ q → A q) (hty : ai_ty (newarray.typeOf at0) ∨ newarray.typeOf at0 = .long) (harr : (Cond.arrayClass (newarray.typeOf at0)).before args s = true)
    (he : ai_newa (newarray.typeOf at0) L S h = some (t, L', S', h')) (hR1 : h'.2.1 ≤ kc + R.cells) (hR2 : h'.2.2 ≤ ks + R.slots) (k : ai_W p l e R s m args below meth c Q Z cn sa D cl A ad0 kc ks (ai_nx pcs pc 2 t) L' S' h') : ai_W p l e R s m args below meth c Q Z cn sa D cl A ad0 kc ks pc L S h := by
  unfold ai_newa at he
  split at he
  · rename_i n r
    split at he
    · rename_i hc
      obtain ⟨hn0, hn1⟩ := hc
      simp only [Option.some.injEq, Prod.mk.injEq] at he
      obtain ⟨rfl, rfl, rfl, rfl⟩ := he
      intro ad tys ws H locs cells slots ls st ha hl hs
      obtain ⟨V, T, rfl, hv, hs9⟩ := ai_vs_cons hs
      rw [show V = .int n from hv]
      have q2 : h.2.1 = kc + cells := ha.2.1
      have q3 : h.2.2 = ks + slots := ha.2.2.1
      have hR1 : h.2.1 + 1 ≤ kc + R.cells := hR1
      have hR2 : h.2.2 + n.toNatClampNeg ≤ ks + R.slots := hR2
      have hby : n.toNatClampNeg * componentBytes (newarray.typeOf at0) ≤ 536870912 := by
        have := Nat.mul_le_mul hn1 (ai_comp8 (newarray.typeOf at0))
        omega
      by_cases hlong : newarray.typeOf at0 = .long
      · rw [if_pos hlong] at k
        refine va_newa (a0 := (n.toNatClampNeg, .inr (.inl (fun _ => 0)))) hx hb harr rfl ha.2.2.2.2.1 ha.2.2.2.2.2.1 ha.2.2.2.2.2.2.1 ha.2.2.2.2.2.2.2 hA (fun cA => by rw [hlong]; rfl) hn0 rfl hby (by omega) (by omega) hd (fun a cA H1 hK1 hP1 hD1 hS1 => ?_)
        have hA1 := ai_At_push (tt := [(cA, newarray.typeOf at0)]) (n := n.toNatClampNeg) (x := ai_lng n.toNatClampNeg (fun _ => 0)) (E := .inl (cA, n.toNatClampNeg, .inr (.inl (fun _ => 0)))) ha ⟨cA, tys.length, rfl, by rw [← hlong]; simp⟩ hK1 hP1 hD1 hS1
        exact k (ad ++ [a]) _ _ H1 locs (cells + 1) (slots + n.toNatClampNeg) ls (.ref a :: T) hA1 (ai_l_more hl [a]) ⟨ai_v_new ha.2.2.2.1.2.1, ai_vs_more [a] hs9⟩
      · rw [if_neg hlong] at k
        have hty1 : ai_ty (newarray.typeOf at0) := hty.resolve_right hlong
        refine va_newa (a0 := (n.toNatClampNeg, .inl (fun _ => 0))) hx hb harr rfl ha.2.2.2.2.1 ha.2.2.2.2.2.1 ha.2.2.2.2.2.2.1 ha.2.2.2.2.2.2.2 hA (fun cA => by rw [ai_def0 hty1]; rfl) hn0 rfl hby (by omega) (by omega) hd (fun a cA H1 hK1 hP1 hD1 hS1 => ?_)
        have hA1 := ai_At_push (tt := [(cA, newarray.typeOf at0)]) (n := n.toNatClampNeg) (x := ai_num (newarray.typeOf at0) n.toNatClampNeg (fun _ => 0)) (E := .inl (cA, n.toNatClampNeg, .inl (fun _ => 0))) ha ⟨hty1, fun _ => ai_fits0 hty1, cA, tys.length, rfl, by simp⟩ hK1 hP1 hD1 hS1
        exact k (ad ++ [a]) _ _ H1 locs (cells + 1) (slots + n.toNatClampNeg) ls (.ref a :: T) hA1 (ai_l_more hl [a]) ⟨ai_v_new ha.2.2.2.1.2.1, ai_vs_more [a] hs9⟩
    · cases he
  · cases he
theorem ai_newq_ok (hx : p.tables.exec = Jvm.exec) (hb : c.code = cc) (hd : decode cc pc = .ok (.anewarray idx, 3)) (hown : s.vm.findClass own = some m.cls) (hA : ∀ q, s.heap.size ≤ q → A q) {C : String} (hlk : (Cond.classLink own idx C).before args s = true) (hover : va_AO C s)
    (he : ai_newq C L S h = some (t, L', S', h')) (hR1 : h'.2.1 ≤ kc + R.cells) (hR2 : h'.2.2 ≤ ks + R.slots) (k : ai_W p l e R s m args below meth c Q Z cn sa D cl A ad0 kc ks (ai_nx pcs pc 3 t) L' S' h') : ai_W p l e R s m args below meth c Q Z cn sa D cl A ad0 kc ks pc L S h := by
  unfold ai_newq at he
  split at he
  · rename_i n r
    split at he
    · rename_i hc
      obtain ⟨hn0, hn1⟩ := hc
      simp only [Option.some.injEq, Prod.mk.injEq] at he
      obtain ⟨rfl, rfl, rfl, rfl⟩ := he
      intro ad tys ws H locs cells slots ls st ha hl hs
      obtain ⟨V, T, rfl, hv, hs9⟩ := ai_vs_cons hs
      rw [show V = .int n from hv]
      have q2 : h.2.1 = kc + cells := ha.2.1
      have q3 : h.2.2 = ks + slots := ha.2.2.1
      have hR1 : h.2.1 + 1 ≤ kc + R.cells := hR1
      have hR2 : h.2.2 + n.toNatClampNeg ≤ ks + R.slots := hR2
      refine va_newq hx hb hown hlk hover ha.2.2.2.2.1 ha.2.2.2.2.2.1 ha.2.2.2.2.2.2.1 ha.2.2.2.2.2.2.2 hA hn0 rfl (by omega) (by omega) (by omega) hd (fun a cA H1 hK1 hP1 hD1 hS1 => ?_)
      have hA1 := ai_At_push (tt := [(cA, .object C)]) (n := n.toNatClampNeg) (x := ai_refs C n.toNatClampNeg (fun _ => .null)) (E := .inl (cA, n.toNatClampNeg, .inr (.inr (.inr (.inr (fun _ => none)))))) ha ⟨cA, tys.length, fun _ => none, rfl, by simp, fun _ => Or.inl ⟨rfl, rfl⟩⟩ hK1 hP1 hD1 hS1
      exact k (ad ++ [a]) _ _ H1 locs (cells + 1) (slots + n.toNatClampNeg) ls (.ref a :: T) hA1 (ai_l_more hl [a]) ⟨ai_v_new ha.2.2.2.1.2.1, ai_vs_more [a] hs9⟩
    · cases he
  · cases he
end AIN
