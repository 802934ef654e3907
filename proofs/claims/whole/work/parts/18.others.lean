section AIO
variable {p : Program} {l : Launch} {e : Env} {R : Room} {s : State} {m : MethodId} {args : Array Value} {below : List Frame} {meth : Method} {c : Code} {Q : State → Prop}
variable {Z : ai_S} {cn : Nat → String} {sa : Nat → Nat} {D : va_G} {cl : List vw_C} {A : Nat → Prop} {ad0 : List Nat} {kc ks : Nat}
variable {cc : ByteArray} {pc t : Nat} {L L' : ai_L} {S S' : List Value} {h h' : ai_H} {pcs : Nat → Nat} {zc : Nat → String × u_T} {own : String} {idx : Nat} {r : ai_R}
theorem ai_prim {ty : FieldType} (h : ai_ty ty) : refKind ty = false := by
  rcases h with rfl | rfl | rfl | rfl <;> rfl
theorem ai_cpy_fits {ty : FieldType} {f g : Nat → Int32} (hf : ∀ j, fits ty (.int (f j)) = true) (hg : ∀ j, fits ty (.int (g j)) = true) (sp dp n j : Nat) : fits ty (.int (va_cpy f g sp dp n j)) = true := by
  unfold va_cpy
  split
  · exact hf _
  · exact hg _
theorem ai_copy_ok (hx : p.tables.exec = Jvm.exec) (hb : c.code = cc) (hd : decode cc pc = .ok (.invokestatic idx, 3)) (hown : s.vm.findClass own = some m.cls) (hZ : ∀ k x, Z k = some x → ai_zc zc sa x (sa k) A s s.heap) (hcn : ∀ ci, cn ci = (zc ci).1)
    (hlink : (Cond.methodLink own idx arraycopyName).before args s = true) (hnat : (Cond.native arraycopyName).before args s = true) (hstat : (Cond.static arraycopyName).before args s = true) (hini : (Cond.initialized "java/lang/System").before args s = true)
    (hRf : 1 ≤ R.frames) (hRl : 8 + (nativeFrameWords "java/lang/System" "arraycopy" 5 + 11) ≤ R.locals)
    (he : ai_copy S h = some (S', h')) (hwt : ai_wt S' ≤ 8) (k : ai_W p l e R s m args below meth c Q Z cn sa D cl A ad0 kc ks (pc + 3) L S' h') : ai_W p l e R s m args below meth c Q Z cn sa D cl A ad0 kc ks pc L S h := by
  unfold ai_copy at he
  split at he
  · rename_i n dp d sp a r
    split at he
    · cases he
    · rename_i hpos
      have h1 : ¬ sp < 0 := fun z => hpos (Or.inr (Or.inr z))
      have h2 : ¬ dp < 0 := fun z => hpos (Or.inr (Or.inl z))
      have h3 : ¬ n < 0 := fun z => hpos (Or.inl z)
      split at he
      · rename_i t0 n0 f hla
        split at he
        · rename_i t1 n1 g hld
          split at he
          · rename_i hc
            obtain ⟨rfl, h4, h5⟩ := hc
            simp only [Option.some.injEq, Prod.mk.injEq] at he
            obtain ⟨rfl, rfl⟩ := he
            intro ad tys ws H locs cells slots ls st ha hl hs
            obtain ⟨V, T, rfl, hv, hs⟩ := ai_vs_cons hs
            obtain ⟨V2, T, rfl, hv2, hs⟩ := ai_vs_cons hs
            obtain ⟨V3, T, rfl, hv3, hs⟩ := ai_vs_cons hs
            obtain ⟨V4, T, rfl, hv4, hs⟩ := ai_vs_cons hs
            obtain ⟨V5, T, rfl, hv5, hs9⟩ := ai_vs_cons hs
            rw [show V = .int n from hv, show V2 = .int dp from hv2, show V4 = .int sp from hv4]
            have hwT : (T.map fun v => v.category).sum ≤ 8 := by
              have := ai_vs_wt hs9
              unfold ai_wt at this hwt
              omega
            obtain ⟨q1, q2, q3, hw, hK, hP, hD, hS⟩ := ha
            obtain ⟨a0, E0, rfl, g1, gty, gf, c0, i0, rfl, g2⟩ := ai_w_at hw hla hv5
            obtain ⟨a1, E1, rfl, e1, ety, ef, c1, i1, rfl, e2⟩ := ai_w_at hw hld hv3
            have hml : c.maxLocals = ls.size := by obtain ⟨_, lv, hlv, _⟩ := hl; exact hlv.1.symm
            refine va_copyi hx hb hml hown hlink hnat hstat hini hK hP hD hS a d i0 i1 g1 e1 g2 e2 (ai_prim gty) h1 h2 h3 h4 h5 (fun i _ => gf _) hRf (by omega) hd (fun H1 locs1 hP1 hD1 hS1 => ?_)
            exact k ad tys _ H1 locs1 cells slots ls T ⟨q1, q2, q3, ai_w_set hw e1 ⟨ety, fun j => ai_cpy_fits gf ef _ _ _ j, c1, i1, rfl, e2⟩, hK, hP1, hD1, hS1⟩ hl hs9
          · cases he
        · cases he
      · rename_i C0 n0 f hla
        split at he
        · rename_i C1 n1 g hld
          split at he
          · rename_i hc
            obtain ⟨rfl, h4, h5⟩ := hc
            simp only [Option.some.injEq, Prod.mk.injEq] at he
            obtain ⟨rfl, rfl⟩ := he
            intro ad tys ws H locs cells slots ls st ha hl hs
            obtain ⟨V, T, rfl, hv, hs⟩ := ai_vs_cons hs
            obtain ⟨V2, T, rfl, hv2, hs⟩ := ai_vs_cons hs
            obtain ⟨V3, T, rfl, hv3, hs⟩ := ai_vs_cons hs
            obtain ⟨V4, T, rfl, hv4, hs⟩ := ai_vs_cons hs
            obtain ⟨V5, T, rfl, hv5, hs9⟩ := ai_vs_cons hs
            rw [show V = .int n from hv, show V2 = .int dp from hv2, show V4 = .int sp from hv4]
            have hwT : (T.map fun v => v.category).sum ≤ 8 := by
              have := ai_vs_wt hs9
              unfold ai_wt at this hwt
              omega
            obtain ⟨q1, q2, q3, hw, hK, hP, hD, hS⟩ := ha
            obtain ⟨a0, E0, rfl, g1, c0, i0, f0, rfl, g2, g3⟩ := ai_w_at hw hla hv5
            obtain ⟨a1, E1, rfl, e1, c1, i1, f1, rfl, e2, e3⟩ := ai_w_at hw hld hv3
            have hml : c.maxLocals = ls.size := by obtain ⟨_, lv, hlv, _⟩ := hl; exact hlv.1.symm
            refine va_copyq (C := C0) hx hb hml hown hlink hnat hstat hini hK hP hD hS a d i0 i1 g1 e1 g2 e2 h1 h2 h3 h4 h5 (fun i _ y hy => ?_) (fun comp c0 z1 z2 => vb_asgS comp c0 z1 z2) hRf (by omega) hd (fun H1 locs1 hP1 hD1 hS1 => ?_)
            · rcases g3 (sp.toNatClampNeg + i) with ⟨-, z2⟩ | ⟨k9, ci, fs, z1, z2, z3, z4⟩
              · rw [z2] at hy; cases hy
              · rw [z2] at hy
                cases hy
                obtain ⟨hO, -⟩ := hZ k9 _ z3
                obtain ⟨cellV, o1, o2, o3, -⟩ := va_O.kept hO hS.2.1
                exact ⟨cellV, o1, o2, by rw [← z4, hcn]; exact o3⟩
            · refine k ad tys _ H1 locs1 cells slots ls T ⟨q1, q2, q3, ai_w_set hw e1 ⟨c1, i1, _, rfl, e2, fun j => ?_⟩, hK, hP1, hD1, hS1⟩ hl hs9
              unfold va_cpy
              split
              · exact g3 _
              · exact e3 _
          · cases he
        · cases he
      · cases he
  · cases he
theorem ai_objinit_ok (hx : p.tables.exec = Jvm.exec) (hb : c.code = cc) (hd : decode cc pc = .ok (.invokespecial idx, 3)) (hown : s.vm.findClass own = some m.cls) (hlink : (Cond.methodLink own idx Lib.objectInit).before args s = true) (hinst : (Cond.instanceMethod Lib.objectInit).before args s = true) (hcode : (Cond.code Lib.objectInit ⟨#[0xb1]⟩ 1 none).before args s = true)
    (hRf : 1 ≤ R.frames) (hRl : 20 ≤ R.locals) {i : Nat} (hwt : ai_wt S ≤ 8) (k : ai_W p l e R s m args below meth c Q Z cn sa D cl A ad0 kc ks (pc + 3) L S h) : ai_W p l e R s m args below meth c Q Z cn sa D cl A ad0 kc ks pc L (.ref i :: S) h := by
  intro ad tys ws H locs cells slots ls st ha hl hs
  obtain ⟨V, T, rfl, ⟨a, -, rfl⟩, hs9⟩ := ai_vs_cons hs
  have hml : ls.size = c.maxLocals := by obtain ⟨_, lv, hlv, _⟩ := hl; exact hlv.1
  have hwT : (T.map fun v => v.category).sum ≤ 8 := by
    have := ai_vs_wt hs9
    unfold ai_wt at this hwt
    omega
  have hmr : 2 * (F0 m pc ls (.ref a :: T)).monitorRoom + (T.map fun v => v.category).sum ≤ 8 := lv_room hwT
  exact W.objInit (g := F0 m pc ls (.ref a :: T)) hx hb hown hlink hinst hcode rfl hml rfl hd hRf (by omega) (k ad tys ws H locs cells slots ls T ha hl hs9)
theorem ai_acmp_ok {ac : ACond} {off : Int} (hx : p.tables.exec = Jvm.exec) (hb : c.code = cc) (hd : decode cc pc = .ok (.if_acmp ac off, 3)) (ht : (pc : Int) + off = (pcs (ai_tgt r) : Int)) (hsa : ∀ i j ci fs fs', Z i = some (ai_obj ci fs) → Z j = some (ai_obj ci fs') → sa i = sa j → i = j) {x y : Value} {b : Bool} (hsm : ai_same x y = some b) (hz : ai_zk Z x y = true)
    (he : ai_jump (ai_ac ac b) r L S h = some (t, L', S', h')) (k : ai_W p l e R s m args below meth c Q Z cn sa D cl A ad0 kc ks (ai_nx pcs pc 3 t) L' S' h') : ai_W p l e R s m args below meth c Q Z cn sa D cl A ad0 kc ks pc L (y :: x :: S) h := by
  intro ad tys ws H locs cells slots ls st ha hl hs
  obtain ⟨V, T, rfl, hv, hs⟩ := ai_vs_cons hs
  obtain ⟨V2, T, rfl, hv2, hs9⟩ := ai_vs_cons hs
  obtain ⟨rx, ry, rfl, rfl, hiff⟩ := ai_same_v hsa ha.2.2.2.1 ha.2.2.2.2.2.2.1 hz hsm hv2 hv
  have K : (t, L', S', h') = (t, L, S, h) → W p l e R s m args below meth c H locs cells slots Q (F0 m (ai_nx pcs pc 3 t) ls T) := fun hq => by
    simp only [Prod.mk.injEq, true_and] at hq
    obtain ⟨rfl, rfl, rfl⟩ := hq
    exact k ad tys ws H locs cells slots ls T ha hl hs9
  cases ac with
  | eq => exact ai_two (C := rx = ry) hiff (fun a b => lv_acmp_eq hx hb hd ht a b) he K
  | ne => exact ai_two (C := ¬ rx = ry) (by cases b <;> simp_all [ai_ac]) (fun a b => lv_acmp_ne hx hb hd ht a (fun z => b (fun y => y z))) he K
theorem ai_nul_v {ad : List Nat} {v V : Value} {b : Bool} (hn : ai_nul v = some b) (hv : ai_v sa ad v V) : (b = true ∧ V = .null) ∨ (b = false ∧ ∃ a, V = .ref a) := by
  cases v with
  | null => simp only [ai_nul, Option.some.injEq] at hn; exact Or.inl ⟨hn.symm, hv⟩
  | ref i => simp only [ai_nul, Option.some.injEq] at hn; obtain ⟨a, -, rfl⟩ := hv; exact Or.inr ⟨hn.symm, a, rfl⟩
  | retAddr i => simp only [ai_nul, Option.some.injEq] at hn; exact Or.inr ⟨hn.symm, _, hv⟩
  | _ => simp [ai_nul] at hn
theorem ai_ifnull_ok {off : Int} (hx : p.tables.exec = Jvm.exec) (hb : c.code = cc) (hd : decode cc pc = .ok (.ifnull off, 3)) (ht : (pc : Int) + off = (pcs (ai_tgt r) : Int)) {x : Value} {b : Bool} (hn : ai_nul x = some b)
    (he : ai_jump b r L S h = some (t, L', S', h')) (k : ai_W p l e R s m args below meth c Q Z cn sa D cl A ad0 kc ks (ai_nx pcs pc 3 t) L' S' h') : ai_W p l e R s m args below meth c Q Z cn sa D cl A ad0 kc ks pc L (x :: S) h := by
  simp only [ai_jump, Option.some.injEq, Prod.mk.injEq] at he
  obtain ⟨rfl, rfl, rfl, rfl⟩ := he
  intro ad tys ws H locs cells slots ls st ha hl hs
  obtain ⟨V, T, rfl, hv, hs9⟩ := ai_vs_cons hs
  have K := k ad tys ws H locs cells slots ls T ha hl hs9
  rcases ai_nul_v hn hv with ⟨rfl, rfl⟩ | ⟨rfl, a, rfl⟩
  · exact lv_ifnullN hx hb hd ht K
  · exact lv_ifnull hx hb hd K
theorem ai_ifnonnull_ok {off : Int} (hx : p.tables.exec = Jvm.exec) (hb : c.code = cc) (hd : decode cc pc = .ok (.ifnonnull off, 3)) (ht : (pc : Int) + off = (pcs (ai_tgt r) : Int)) {x : Value} {b : Bool} (hn : ai_nul x = some b)
    (he : ai_jump (!b) r L S h = some (t, L', S', h')) (k : ai_W p l e R s m args below meth c Q Z cn sa D cl A ad0 kc ks (ai_nx pcs pc 3 t) L' S' h') : ai_W p l e R s m args below meth c Q Z cn sa D cl A ad0 kc ks pc L (x :: S) h := by
  simp only [ai_jump, Option.some.injEq, Prod.mk.injEq] at he
  obtain ⟨rfl, rfl, rfl, rfl⟩ := he
  intro ad tys ws H locs cells slots ls st ha hl hs
  obtain ⟨V, T, rfl, hv, hs9⟩ := ai_vs_cons hs
  have K := k ad tys ws H locs cells slots ls T ha hl hs9
  rcases ai_nul_v hn hv with ⟨rfl, rfl⟩ | ⟨rfl, a, rfl⟩
  · exact lv_ifnonnullN hx hb hd K
  · exact lv_ifnonnull hx hb hd ht K
end AIO
