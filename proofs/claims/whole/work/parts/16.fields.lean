/-- the tables speak of the classes that are made: words, types of fields, different names -/
def ai_clok (Ts : List Cond) (cl : List vw_C) (ty0 : Nat → Nat → FieldType) : Prop := ∀ (ci : Nat) (q : vw_C), cl[ci]? = some q → (∀ w ∈ u_ws q.1 q.2.1 q.2.2, w ∈ Ts) ∧ (∀ k, k < q.2.2 → parseFieldDescriptor (q.2.1 k).2.2.1 = some (ty0 ci k)) ∧ (∀ a, a < q.2.2 → ∀ b, b < q.2.2 → a ≠ b → (q.2.1 a).2.1 ≠ (q.2.1 b).2.1)
/-- the entry of the pool leads to the field, in the nest or not -/
def ai_fl (s : State) (args : Array Value) (own : String) (idx : Nat) (q : String × String × String × Bool) : Prop := (Cond.fieldLink own idx q.1 q.2.1 q.2.2.1).before args s = true ∨ ∃ host, (Cond.fieldLinkNest own idx q.1 q.2.1 q.2.2.1 host).before args s = true
/-- which values a field of that type takes -/
def ai_fit (ty : FieldType) (v : Value) : Bool := match ty with
  | .int => (match v with
    | .int _ => true
    | _ => false)
  | .object _ => ai_isr v
  | .array _ => ai_isr v
  | _ => false
theorem ai_fit_ok {sa : Nat → Nat} {ad : List Nat} {ty : FieldType} {v V : Value} (hf : ai_fit ty v = true) (hv : ai_v sa ad v V) : narrow ty V = V ∧ fits ty V = true := by
  cases ty with
  | int =>
    cases v with
    | int x => rw [show V = .int x from hv]; exact ⟨rfl, rfl⟩
    | _ => cases hf
  | object C => rcases ai_isr_v hf hv with rfl | ⟨a, rfl⟩ <;> exact ⟨rfl, rfl⟩
  | array t => rcases ai_isr_v hf hv with rfl | ⟨a, rfl⟩ <;> exact ⟨rfl, rfl⟩
  | _ => cases hf
section AIF
variable {p : Program} {l : Launch} {e : Env} {R : Room} {s : State} {m : MethodId} {args : Array Value} {below : List Frame} {meth : Method} {c : Code} {Q : State → Prop}
variable {Z : ai_S} {cn : Nat → String} {sa : Nat → Nat} {D : va_G} {cl : List vw_C} {A : Nat → Prop} {ad0 : List Nat} {kc ks : Nat}
variable {cc : ByteArray} {pc t : Nat} {L L' : ai_L} {S S' : List Value} {h h' : ai_H} {pcs : Nat → Nat} {zc : Nat → String × u_T} {Ts : List Cond} {ty0 : Nat → Nat → FieldType} {own : String} {idx ci k0 : Nat}
theorem ai_alen_ok (hx : p.tables.exec = Jvm.exec) (hb : c.code = cc) (hd : decode cc pc = .ok (.arraylength, 1)) (hZ : ∀ k x, Z k = some x → ai_zc zc sa x (sa k) A s s.heap)
    (he : ai_alen Z L S h = some (t, L', S', h')) (k : ai_W p l e R s m args below meth c Q Z cn sa D cl A ad0 kc ks (ai_nx pcs pc 1 t) L' S' h') : ai_W p l e R s m args below meth c Q Z cn sa D cl A ad0 kc ks pc L S h := by
  unfold ai_alen at he
  split at he
  · rename_i v r
    split at he
    · rename_i ty n f hlook
      simp only [Option.some.injEq, Prod.mk.injEq] at he
      obtain ⟨rfl, rfl, rfl, rfl⟩ := he
      intro ad tys ws H locs cells slots ls st ha hl hs
      obtain ⟨V, T, rfl, hv, hs9⟩ := ai_vs_cons hs
      have K := k ad tys ws H locs cells slots ls (.int (Int32.ofNat n) :: T) ha hl ⟨rfl, hs9⟩
      obtain ⟨-, -, -, hw, hK, hP, hD, hS⟩ := ha
      cases v with
      | ref j =>
        obtain ⟨a, E, rfl, g1, -, -, cA, t0, rfl, g2⟩ := ai_w_at hw hlook hv
        exact va_alen hx hb hK hP j t0 g1 g2 rfl hd K
      | retAddr j =>
        rw [show V = .ref (sa j) from hv]
        exact va_tlen hx hb (hZ j _ hlook) hS rfl hd K
      | _ => cases hlook
    · rename_i n f hlook
      simp only [Option.some.injEq, Prod.mk.injEq] at he
      obtain ⟨rfl, rfl, rfl, rfl⟩ := he
      intro ad tys ws H locs cells slots ls st ha hl hs
      obtain ⟨V, T, rfl, hv, hs9⟩ := ai_vs_cons hs
      have K := k ad tys ws H locs cells slots ls (.int (Int32.ofNat n) :: T) ha hl ⟨rfl, hs9⟩
      obtain ⟨-, -, -, hw, hK, hP, hD, hS⟩ := ha
      cases v with
      | ref j =>
        obtain ⟨a, E, rfl, g1, cA, t0, rfl, g2⟩ := ai_w_at hw hlook hv
        exact va_alen hx hb hK hP j t0 g1 g2 rfl hd K
      | retAddr j => exact (hZ j _ hlook).elim
      | _ => cases hlook
    · rename_i C n g hlook
      simp only [Option.some.injEq, Prod.mk.injEq] at he
      obtain ⟨rfl, rfl, rfl, rfl⟩ := he
      intro ad tys ws H locs cells slots ls st ha hl hs
      obtain ⟨V, T, rfl, hv, hs9⟩ := ai_vs_cons hs
      have K := k ad tys ws H locs cells slots ls (.int (Int32.ofNat n) :: T) ha hl ⟨rfl, hs9⟩
      obtain ⟨-, -, -, hw, hK, hP, hD, hS⟩ := ha
      cases v with
      | ref j =>
        obtain ⟨a, E, rfl, g1, cA, t0, f, rfl, g2, g3⟩ := ai_w_at hw hlook hv
        exact va_alen hx hb hK hP j t0 g1 g2 rfl hd K
      | retAddr j =>
        rw [show V = .ref (sa j) from hv]
        obtain ⟨f, hT, -⟩ := hZ j _ hlook
        exact va_tlen hx hb hT hS rfl hd K
      | _ => cases hlook
    · cases he
  · cases he
theorem ai_aald_ok (hx : p.tables.exec = Jvm.exec) (hb : c.code = cc) (hd : decode cc pc = .ok (.aaload, 1)) (hZ : ∀ k x, Z k = some x → ai_zc zc sa x (sa k) A s s.heap)
    (he : ai_aald Z L S h = some (t, L', S', h')) (k : ai_W p l e R s m args below meth c Q Z cn sa D cl A ad0 kc ks (ai_nx pcs pc 1 t) L' S' h') : ai_W p l e R s m args below meth c Q Z cn sa D cl A ad0 kc ks pc L S h := by
  unfold ai_aald at he
  split at he
  · rename_i i v r
    split at he
    · rename_i C n g hlook
      split at he
      · rename_i hc
        obtain ⟨hi0, hin⟩ := hc
        simp only [Option.some.injEq, Prod.mk.injEq] at he
        obtain ⟨rfl, rfl, rfl, rfl⟩ := he
        intro ad tys ws H locs cells slots ls st ha hl hs
        obtain ⟨V, T, rfl, hv, hs⟩ := ai_vs_cons hs
        obtain ⟨V2, T, rfl, hv2, hs9⟩ := ai_vs_cons hs
        rw [show V = .int i from hv]
        have hvp : vp_in i n := fun z => z.elim hi0 (fun z => by omega)
        have hw := ha.2.2.2.1
        have hK := ha.2.2.2.2.1
        have hP := ha.2.2.2.2.2.1
        have hS := ha.2.2.2.2.2.2.2
        cases v with
        | ref j =>
          obtain ⟨a, E, rfl, g1, cA, t0, f, rfl, g2, g3⟩ := ai_w_at hw hlook hv2
          refine va_aldq hx hb hK hP j t0 g1 g2 hvp hd (k ad tys ws H locs cells slots ls (va_rf (f i.toNatClampNeg) :: T) ha hl ⟨?_, hs9⟩)
          rcases g3 i.toNatClampNeg with ⟨e1, e2⟩ | ⟨k9, ci, fs, e1, e2, -⟩
          · rw [e1, e2]; rfl
          · rw [e1, e2]; rfl
        | retAddr j =>
          rw [show V2 = .ref (sa j) from hv2]
          obtain ⟨f, hT, hf⟩ := hZ j _ hlook
          exact vb_tq hx hb hT hS hvp rfl hd (k ad tys ws H locs cells slots ls (f i.toNatClampNeg :: T) ha hl ⟨ai_v_nil (hf _ hin), hs9⟩)
        | _ => cases hlook
      · cases he
    · cases he
  · cases he
theorem ai_aast_ok (hx : p.tables.exec = Jvm.exec) (hb : c.code = cc) (hd : decode cc pc = .ok (.aastore, 1)) (hZ : ∀ k x, Z k = some x → ai_zc zc sa x (sa k) A s s.heap) (hcn : ∀ ci, cn ci = (zc ci).1)
    (he : ai_aast Z cn L S h = some (t, L', S', h')) (k : ai_W p l e R s m args below meth c Q Z cn sa D cl A ad0 kc ks (ai_nx pcs pc 1 t) L' S' h') : ai_W p l e R s m args below meth c Q Z cn sa D cl A ad0 kc ks pc L S h := by
  unfold ai_aast at he
  split at he
  · rename_i v i j r
    split at he
    · rename_i C n g hlook
      split at he
      · rename_i ci fs hz
        split at he
        · rename_i hc
          obtain ⟨hC, hi0, hin⟩ := hc
          simp only [Option.some.injEq, Prod.mk.injEq] at he
          obtain ⟨rfl, rfl, rfl, rfl⟩ := he
          intro ad tys ws H locs cells slots ls st ha hl hs
          obtain ⟨V, T, rfl, hv, hs⟩ := ai_vs_cons hs
          obtain ⟨V2, T, rfl, hv2, hs⟩ := ai_vs_cons hs
          obtain ⟨V3, T, rfl, hv3, hs9⟩ := ai_vs_cons hs
          rw [show V = .ref (sa v) from hv, show V2 = .int i from hv2]
          obtain ⟨q1, q2, q3, hw, hK, hP, hD, hS⟩ := ha
          have hvp : vp_in i n := fun z => z.elim hi0 (fun z => by omega)
          obtain ⟨a, E, rfl, g1, cA, t0, f, rfl, g2, g3⟩ := ai_w_at hw hlook hv3
          obtain ⟨hO, -⟩ := hZ v _ hz
          obtain ⟨cellV, o1, o2, o3, -⟩ := va_O.kept hO hS.2.1
          refine vb_astq (C := C) hx hb hK hP hD hS j t0 g1 g2 ⟨cellV, o1, o2, by rw [← hC, hcn]; exact o3⟩ (fun comp c0 h1 h2 => vb_asgS comp c0 h1 h2) hvp hd (fun H1 locs1 hP1 hD1 hS1 => ?_)
          refine k ad tys _ H1 locs1 cells slots ls T ⟨q1, q2, q3, ai_w_set hw g1 ⟨cA, t0, _, rfl, g2, fun z => ?_⟩, hK, hP1, hD1, hS1⟩ hl hs9
          by_cases hzz : z = i.toNatClampNeg
          · subst hzz
            exact Or.inr ⟨v, ci, fs, by simp [va_up], by simp [va_up], hz, hC⟩
          · simp only [va_up, if_neg hzz]
            exact g3 z
        · cases he
      · cases he
    · cases he
  · cases he
/-- a field is read -/
theorem ai_getf_ok (hx : p.tables.exec = Jvm.exec) (hb : c.code = cc) (hd : decode cc pc = .ok (.getfield idx, 3)) (hts : ∀ w ∈ Ts, w.before args s = true) (hcl : ai_clok Ts cl ty0) (hown : s.vm.findClass own = some m.cls) (hZ : ∀ k x, Z k = some x → ai_zc zc sa x (sa k) A s s.heap)
    (hlD : ∀ q, cl[ci]? = some q → k0 < q.2.2 ∧ ai_fl s args own idx (q.2.1 k0)) (hlZ : cl[ci]? = none → ai_fl s args own idx ((zc ci).2 k0)) (hcZ : ∀ j fs, Z j = some (ai_obj ci fs) → cl[ci]? = none)
    (he : ai_getf Z ci k0 L S h = some (t, L', S', h')) (k : ai_W p l e R s m args below meth c Q Z cn sa D cl A ad0 kc ks (ai_nx pcs pc 3 t) L' S' h') : ai_W p l e R s m args below meth c Q Z cn sa D cl A ad0 kc ks pc L S h := by
  unfold ai_getf at he
  split at he
  · rename_i v r
    split at he
    · rename_i ci' fs hlook
      split at he
      · rename_i w hfk
        split at he
        · rename_i hc
          subst hc
          simp only [Option.some.injEq, Prod.mk.injEq] at he
          obtain ⟨rfl, rfl, rfl, rfl⟩ := he
          intro ad tys ws H locs cells slots ls st ha hl hs
          obtain ⟨V, T, rfl, hv, hs9⟩ := ai_vs_cons hs
          have hw := ha.2.2.2.1
          have hK := ha.2.2.2.2.1
          have hP := ha.2.2.2.2.2.1
          have hS := ha.2.2.2.2.2.2.2
          cases v with
          | ref j =>
            obtain ⟨a, E, rfl, g1, vs, rfl, g2⟩ := ai_w_at hw hlook hv
            obtain ⟨V2, g3, g4⟩ := ai_vs_get g2 hfk
            have K := k ad tys ws H locs cells slots ls (V2 :: T) ha hl ⟨g4, hs9⟩
            obtain ⟨⟨C, T9, N⟩, hq, -⟩ := hP j _ g1
            obtain ⟨hk, hfl⟩ := hlD _ hq
            obtain ⟨c1, c2, c3⟩ := hcl _ _ hq
            rcases hfl with hfl | ⟨host, hfl⟩
            · exact va_get hx hb hts c1 hown hK hP j g1 hq k0 hk hfl (fun _ h9 => h9) g3 hd K
            · exact va_getN hx hb hts c1 hown hK hP j g1 hq k0 hk hfl (fun _ h9 => h9) g3 hd K
          | retAddr j =>
            rw [show V = .ref (sa j) from hv]
            obtain ⟨-, hF⟩ := hZ j _ hlook
            obtain ⟨V2, g4, g5⟩ := hF k0 w hfk
            have K := k ad tys ws H locs cells slots ls (V2 :: T) ha hl ⟨ai_v_nil g4, hs9⟩
            have hfl : ai_fl s args own idx ((zc ci').2 k0) := hlZ (hcZ j fs hlook)
            rcases hfl with hfl | ⟨host, hfl⟩
            · exact vk_getf hx hb g5 hS hown hfl (fun _ h9 => h9) hd K
            · obtain ⟨cf, k9, i9, f9, cell, h1, h2, h3, h4, h5, h6⟩ := va_OF.kept g5 hS.2.1
              exact va_Wgetf hx hb hown hfl h1 h2 h3 h4 h5 rfl rfl hd K
          | _ => cases hlook
        · cases he
      · cases he
    · cases he
  · cases he
/-- a field is written -/
theorem ai_putf_ok (hx : p.tables.exec = Jvm.exec) (hb : c.code = cc) (hd : decode cc pc = .ok (.putfield idx, 3)) (hts : ∀ w ∈ Ts, w.before args s = true) (hcl : ai_clok Ts cl ty0) (hown : s.vm.findClass own = some m.cls)
    {q : vw_C} (hq : cl[ci]? = some q) (hk : k0 < q.2.2) (hfl : (Cond.fieldLink own idx (q.2.1 k0).1 (q.2.1 k0).2.1 (q.2.1 k0).2.2.1).before args s = true) (hfin : (q.2.1 k0).2.2.2 = false ∨ (meth.name = "<init>" ∧ (q.2.1 k0).1 = own))
    (he : ai_putf (fun ci k v => ai_fit (ty0 ci k) v) ci k0 L S h = some (t, L', S', h')) (k : ai_W p l e R s m args below meth c Q Z cn sa D cl A ad0 kc ks (ai_nx pcs pc 3 t) L' S' h') : ai_W p l e R s m args below meth c Q Z cn sa D cl A ad0 kc ks pc L S h := by
  unfold ai_putf at he
  split at he
  · rename_i v j r
    split at he
    · rename_i ci' fs hlook
      split at he
      · rename_i hc
        obtain ⟨rfl, hkl, hft⟩ := hc
        simp only [Option.some.injEq, Prod.mk.injEq] at he
        obtain ⟨rfl, rfl, rfl, rfl⟩ := he
        intro ad tys ws H locs cells slots ls st ha hl hs
        obtain ⟨V, T, rfl, hv, hs⟩ := ai_vs_cons hs
        obtain ⟨V2, T, rfl, hv2, hs9⟩ := ai_vs_cons hs
        obtain ⟨q1, q2, q3, hw, hK, hP, hD, hS⟩ := ha
        obtain ⟨a, E, rfl, g1, vs, rfl, g2⟩ := ai_w_at hw hlook hv2
        obtain ⟨n1, n2⟩ := ai_fit_ok hft hv
        obtain ⟨c1, c2, c3⟩ := hcl _ _ hq
        have hlen : k0 < vs.length := by rw [ai_vs_len g2]; exact hkl
        have KK : ∀ (H1 : Heap) (locs1 : List Loc), va_P D cl (ws.set j (a, .inr (ci', vs.set k0 V))) H1 → va_D A (ws.set j (a, .inr (ci', vs.set k0 V))) → va_S A s.heap H1 locs1 → W p l e R s m args below meth c H1 locs1 cells slots Q (F0 m (pc + 3) ls T) := fun H1 locs1 hP1 hD1 hS1 =>
          k ad tys _ H1 locs1 cells slots ls T ⟨q1, q2, q3, ai_w_set hw g1 ⟨_, rfl, ai_vs_set hv k0 g2⟩, hK, hP1, hD1, hS1⟩ hl hs9
        obtain ⟨C, T9, N⟩ := q
        rcases Bool.eq_false_or_eq_true (T9 k0).2.2.2 with hf | hf
        · rcases hfin with hz | ⟨hz1, hz2⟩
          · rw [show (T9 k0).2.2.2 = false from hz] at hf; cases hf
          · exact va_putF hx hb hts c1 (ty0 ci') c2 c3 hown hK hP hD hS j g1 hq k0 hk hfl (fun _ h9 => h9) hf hz1 hz2 (c2 k0 hk) n1 n2 hlen hd KK
        · exact va_put hx hb hts c1 (ty0 ci') c2 c3 hown hK hP hD hS j g1 hq k0 hk hfl (fun _ h9 => h9) hf (c2 k0 hk) n1 n2 hlen hd KK
      · cases he
    · cases he
  · cases he
end AIF
