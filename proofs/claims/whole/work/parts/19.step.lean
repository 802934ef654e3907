/-- what the tables must say of an instruction at pc: its length, where it leads -/
def ai_lk (s : State) (args : Array Value) (meth : Method) (own : String) (sa : Nat → Nat) (A : Nat → Prop) (zc : Nat → String × u_T) (cl : List vw_C) (pcs : Nat → Nat) (pc : Nat) (i : Instr) (len : Nat) (r : ai_R) : Prop := match i with
  | .ldc idx => len = 2 ∧ ((ai_nth r 0 = 1 ∧ (Cond.constant own idx (Int32.ofInt (ai_nth r 1))).before args s = true) ∨ (ai_nth r 0 = 2 ∧ ∃ tx, vk_R own idx tx (sa (ai_nth r 1).toNat) s))
  | .ldc_w idx => len = 3 ∧ ((ai_nth r 0 = 1 ∧ (Cond.constant own idx (Int32.ofInt (ai_nth r 1))).before args s = true) ∨ (ai_nth r 0 = 2 ∧ ∃ tx, vk_R own idx tx (sa (ai_nth r 1).toNat) s))
  | .getstatic idx => len = 3 ∧ ∃ C n d V, va_Z C n d V A s s.heap ∧ ai_fl s args own idx (C, n, d, false) ∧ ((ai_nth r 0 = 1 ∧ V = .int (Int32.ofInt (ai_nth r 1))) ∨ (ai_nth r 0 = 2 ∧ V = .ref (sa (ai_nth r 1).toNat)) ∨ (ai_nth r 0 = 3 ∧ (V = .null ∨ ∃ a, V = .ref a)))
  | .getfield idx => len = 3 ∧ (∀ q, cl[(ai_nth r 0).toNat]? = some q → (ai_nth r 1).toNat < q.2.2 ∧ ai_fl s args own idx (q.2.1 (ai_nth r 1).toNat)) ∧ (cl[(ai_nth r 0).toNat]? = none → ai_fl s args own idx ((zc (ai_nth r 0).toNat).2 (ai_nth r 1).toNat))
  | .putfield idx => len = 3 ∧ ∃ q, cl[(ai_nth r 0).toNat]? = some q ∧ (ai_nth r 1).toNat < q.2.2 ∧ (Cond.fieldLink own idx (q.2.1 (ai_nth r 1).toNat).1 (q.2.1 (ai_nth r 1).toNat).2.1 (q.2.1 (ai_nth r 1).toNat).2.2.1).before args s = true ∧ ((q.2.1 (ai_nth r 1).toNat).2.2.2 = false ∨ (meth.name = "<init>" ∧ (q.2.1 (ai_nth r 1).toNat).1 = own))
  | .new idx => len = 3 ∧ ∃ q, cl[(ai_nth r 0).toNat]? = some q ∧ (Cond.classLink own idx q.1).before args s = true ∧ (Cond.instantiable q.1 q.2.2).before args s = true ∧ (Cond.initialized q.1).before args s = true
  | .newarray t => len = 2 ∧ (ai_ty (newarray.typeOf t) ∨ newarray.typeOf t = .long) ∧ (Cond.arrayClass (newarray.typeOf t)).before args s = true
  | .anewarray idx => len = 3 ∧ (Cond.classLink own idx r.2.2).before args s = true ∧ va_AO r.2.2 s
  | .instanceof idx => len = 3 ∧ (Cond.classLink own idx r.2.2).before args s = true
  | .checkcast idx => len = 3 ∧ (Cond.classLink own idx r.2.2).before args s = true
  | .ifCond _ off => len = 3 ∧ (pc : Int) + off = (pcs (ai_tgt r) : Int)
  | .if_icmp _ off => len = 3 ∧ (pc : Int) + off = (pcs (ai_tgt r) : Int)
  | .if_acmp _ off => len = 3 ∧ (pc : Int) + off = (pcs (ai_tgt r) : Int)
  | .ifnull off => len = 3 ∧ (pc : Int) + off = (pcs (ai_tgt r) : Int)
  | .ifnonnull off => len = 3 ∧ (pc : Int) + off = (pcs (ai_tgt r) : Int)
  | .goto off => len = 3 ∧ (pc : Int) + off = (pcs (ai_tgt r) : Int)
  | .tableswitch d lo hi offs => (pc : Int) + d = (pcs (ai_tgt r) : Int) ∧ ∀ j : Nat, (j : Int) ≤ hi - lo → ∃ off, offs[j]? = some off ∧ (pc : Int) + off = (pcs (ai_nth r (j + 1)).toNat : Int)
  | .iinc _ _ => len = 3
  | .sipush _ => len = 3
  | .bipush _ => len = 2
  | .iload _ => len = 2
  | .aload _ => len = 2
  | .istore _ => len = 2
  | .astore _ => len = 2
  | _ => len = 1
section AIS
variable {p : Program} {l : Launch} {e : Env} {R : Room} {s : State} {m : MethodId} {args : Array Value} {below : List Frame} {meth : Method} {c : Code} {Q : State → Prop}
variable {Z : ai_S} {sa : Nat → Nat} {D : va_G} {cl : List vw_C} {A : Nat → Prop} {ad0 : List Nat} {kc ks : Nat}
variable {cc : ByteArray} {pc t len : Nat} {L L' : ai_L} {S S' : List Value} {h h' : ai_H} {pcs : Nat → Nat} {zc : Nat → String × u_T} {Ts : List Cond} {ty0 : Nat → Nat → FieldType} {own : String} {G : ai_G} {i : Instr} {r : ai_R}
theorem ai_ldcSW {H : Heap} {locs : List Loc} {cells slots : Nat} {ls : Array Slot} {rest : List Value} (hexec : p.tables.exec = Jvm.exec) (hb : c.code = cc) {tx : String} {index q : Nat} (hown : s.vm.findClass own = some m.cls) (hZ : vk_R own index tx q s) (hdg : decode cc pc = .ok (.ldc_w index, 3))
    (k : W p l e R s m args below meth c H locs cells slots Q (F0 m (pc + 3) ls (.ref q :: rest))) : W p l e R s m args below meth c H locs cells slots Q (F0 m pc ls rest) := by
  intro T hT X
  obtain ⟨t, a1, b1⟩ := k T hT X
  exact ⟨t, X.ldcStringW hexec hown (text := tx) (a := q) hZ.1 hZ.2 (g := F0 m pc ls rest) rfl (by rw [hb]; exact hdg) t a1, b1⟩
theorem ai_const_cases {he : ai_const r L S h = some (t, L', S', h')} : t = 0 ∧ L' = L ∧ h' = h ∧ ((ai_nth r 0 = 1 ∧ S' = .int (Int32.ofInt (ai_nth r 1)) :: S) ∨ (ai_nth r 0 = 2 ∧ S' = .retAddr (ai_nth r 1).toNat :: S) ∨ (ai_nth r 0 = 3 ∧ S' = .float 0 :: S)) := by
  unfold ai_const at he
  split at he
  · rename_i h0
    simp only [Option.some.injEq, Prod.mk.injEq] at he
    obtain ⟨rfl, rfl, rfl, rfl⟩ := he
    exact ⟨rfl, rfl, rfl, Or.inl ⟨h0, rfl⟩⟩
  · rename_i h0
    simp only [Option.some.injEq, Prod.mk.injEq] at he
    obtain ⟨rfl, rfl, rfl, rfl⟩ := he
    exact ⟨rfl, rfl, rfl, Or.inr (Or.inl ⟨h0, rfl⟩)⟩
  · rename_i h0
    simp only [Option.some.injEq, Prod.mk.injEq] at he
    obtain ⟨rfl, rfl, rfl, rfl⟩ := he
    exact ⟨rfl, rfl, rfl, Or.inr (Or.inr ⟨h0, rfl⟩)⟩
  · cases he
theorem ai_isof_ok (hZ : ∀ k x, G.1 k = some x → ai_zc zc sa x (sa k) A s s.heap) (hcn : ∀ ci, G.2.1 ci = (zc ci).1) {nm : String} {v V : Value} {ad : List Nat} {H : Heap} {locs : List Loc} (hS : va_S A s.heap H locs) (hi : ai_isof G nm v = true) (hv : ai_v sa ad v V) : ∃ a, V = .ref a ∧ ∃ cell : Cell, H[a]? = some cell ∧ cell.vm.isStatics = false ∧ s.vm.findClass nm = some cell.cls := by
  cases v with
  | retAddr k =>
    simp only [ai_isof] at hi
    split at hi
    · rename_i ci fs hz
      refine ⟨sa k, hv, ?_⟩
      obtain ⟨hO, -⟩ := hZ k _ hz
      obtain ⟨cellV, o1, o2, o3, -⟩ := va_O.kept hO hS.2.1
      have hn : G.2.1 ci = nm := of_decide_eq_true hi
      exact ⟨cellV, o1, o2, by rw [← hn, hcn]; exact o3⟩
    · cases hi
  | _ => cases hi
set_option maxHeartbeats 1000000 in
/-- a plain instruction: what the small machine does with it the large one does -/
theorem ai_eff_ok (hx : p.tables.exec = Jvm.exec) (hb : c.code = cc) (hd : decode cc pc = .ok (i, len)) (hlk : ai_lk s args meth own sa A zc cl pcs pc i len r) (hts : ∀ w ∈ Ts, w.before args s = true) (hcl : ai_clok Ts cl ty0) (hown : s.vm.findClass own = some m.cls) (hA : ∀ q, s.heap.size ≤ q → A q) (hdf : ai_dok cl ty0 G.2.2.1)
    (hG4 : G.2.2.2 = fun ci k v => ai_fit (ty0 ci k) v) (hcn : ∀ ci, G.2.1 ci = (zc ci).1)
    (hZ : ∀ k x, G.1 k = some x → ai_zc zc sa x (sa k) A s s.heap) (hcZ : ∀ j ci fs, G.1 j = some (ai_obj ci fs) → cl[ci]? = none) (hsa : ∀ i j ci fs fs', G.1 i = some (ai_obj ci fs) → G.1 j = some (ai_obj ci fs') → sa i = sa j → i = j)
    (he : ai_eff G i r L S h = some (t, L', S', h')) (hR1 : h'.2.1 ≤ kc + R.cells) (hR2 : h'.2.2 ≤ ks + R.slots) (k : ai_W p l e R s m args below meth c Q G.1 G.2.1 sa D cl A ad0 kc ks (ai_nx pcs pc len t) L' S' h') : ai_W p l e R s m args below meth c Q G.1 G.2.1 sa D cl A ad0 kc ks pc L S h := by
  cases i with
  | aconst_null =>
    have hl9 : len = 1 := hlk
    subst hl9
    simp only [ai_eff, Option.some.injEq, Prod.mk.injEq] at he
    obtain ⟨rfl, rfl, rfl, rfl⟩ := he
    exact ai_push (v := .null) (V := .null) (fun _ => rfl) (fun H locs cells slots ls st _ k9 => lv_null hx hb hd k9) k
  | iconst n =>
    have hl9 : len = 1 := hlk
    subst hl9
    simp only [ai_eff, Option.some.injEq, Prod.mk.injEq] at he
    obtain ⟨rfl, rfl, rfl, rfl⟩ := he
    exact ai_push (v := .int (Int32.ofInt n)) (V := .int (Int32.ofInt n)) (fun _ => rfl) (fun H locs cells slots ls st _ k9 => lv_iconst hx hb hd rfl k9) k
  | bipush n =>
    have hl9 : len = 2 := hlk
    subst hl9
    simp only [ai_eff, Option.some.injEq, Prod.mk.injEq] at he
    obtain ⟨rfl, rfl, rfl, rfl⟩ := he
    exact ai_push (v := .int (Int8.ofInt n).toInt32) (V := .int (Int8.ofInt n).toInt32) (fun _ => rfl) (fun H locs cells slots ls st _ k9 => lv_bipush hx hb hd rfl k9) k
  | sipush n =>
    have hl9 : len = 3 := hlk
    subst hl9
    simp only [ai_eff, Option.some.injEq, Prod.mk.injEq] at he
    obtain ⟨rfl, rfl, rfl, rfl⟩ := he
    exact ai_push (v := .int (Int16.ofInt n).toInt32) (V := .int (Int16.ofInt n).toInt32) (fun _ => rfl) (fun H locs cells slots ls st _ k9 => lv_sipush hx hb hd rfl k9) k
  | ldc idx =>
    obtain ⟨hl9, hlk⟩ := hlk
    subst hl9
    obtain ⟨rfl, rfl, rfl, hh⟩ := ai_const_cases (he := he)
    rcases hlk with ⟨z1, z2⟩ | ⟨z1, tx, z2⟩
    · rcases hh with ⟨-, rfl⟩ | ⟨y1, -⟩ | ⟨y1, -⟩
      · exact ai_push (v := .int (Int32.ofInt (ai_nth r 1))) (V := .int (Int32.ofInt (ai_nth r 1))) (fun _ => rfl) (fun H locs cells slots ls st _ k9 => lv_ldc hx hb hown z2 hd k9) k
      · rw [z1] at y1; cases y1
      · rw [z1] at y1; cases y1
    · rcases hh with ⟨y1, -⟩ | ⟨-, rfl⟩ | ⟨y1, -⟩
      · rw [z1] at y1; cases y1
      · exact ai_push (v := .retAddr (ai_nth r 1).toNat) (V := .ref (sa (ai_nth r 1).toNat)) (fun _ => rfl) (fun H locs cells slots ls st _ k9 => va_ldcS hx hb hown z2 hd k9) k
      · rw [z1] at y1; cases y1
  | ldc_w idx =>
    obtain ⟨hl9, hlk⟩ := hlk
    subst hl9
    obtain ⟨rfl, rfl, rfl, hh⟩ := ai_const_cases (he := he)
    rcases hlk with ⟨z1, z2⟩ | ⟨z1, tx, z2⟩
    · rcases hh with ⟨-, rfl⟩ | ⟨y1, -⟩ | ⟨y1, -⟩
      · exact ai_push (v := .int (Int32.ofInt (ai_nth r 1))) (V := .int (Int32.ofInt (ai_nth r 1))) (fun _ => rfl) (fun H locs cells slots ls st _ k9 => lv_ldcw hx hb hown z2 hd k9) k
      · rw [z1] at y1; cases y1
      · rw [z1] at y1; cases y1
    · rcases hh with ⟨y1, -⟩ | ⟨-, rfl⟩ | ⟨y1, -⟩
      · rw [z1] at y1; cases y1
      · exact ai_push (v := .retAddr (ai_nth r 1).toNat) (V := .ref (sa (ai_nth r 1).toNat)) (fun _ => rfl) (fun H locs cells slots ls st _ k9 => ai_ldcSW hx hb hown z2 hd k9) k
      · rw [z1] at y1; cases y1
  | getstatic idx =>
    obtain ⟨hl9, C, n, d, V, hz, hfl, hV⟩ := hlk
    subst hl9
    obtain ⟨rfl, rfl, rfl, hh⟩ := ai_const_cases (he := he)
    have row : ∀ (H : Heap) (locs : List Loc) (cells slots : Nat) (ls : Array Slot) (st : List Value), va_S A s.heap H locs → W p l e R s m args below meth c H locs cells slots Q (F0 m (pc + 3) ls (V :: st)) → W p l e R s m args below meth c H locs cells slots Q (F0 m pc ls st) := by
      intro H locs cells slots ls st hS k9
      rcases hfl with hfl | ⟨host, hfl⟩
      · exact va_gets hx hb hz hS hown hfl (fun _ h9 => h9) hd k9
      · exact va_getsN hx hb hz hS hown hfl (fun _ h9 => h9) hd k9
    rcases hV with ⟨z1, rfl⟩ | ⟨z1, rfl⟩ | ⟨z1, hV⟩
    · rcases hh with ⟨-, rfl⟩ | ⟨y1, -⟩ | ⟨y1, -⟩
      · exact ai_push (v := .int (Int32.ofInt (ai_nth r 1))) (fun _ => rfl) row k
      · rw [z1] at y1; cases y1
      · rw [z1] at y1; cases y1
    · rcases hh with ⟨y1, -⟩ | ⟨-, rfl⟩ | ⟨y1, -⟩
      · rw [z1] at y1; cases y1
      · exact ai_push (v := .retAddr (ai_nth r 1).toNat) (fun _ => rfl) row k
      · rw [z1] at y1; cases y1
    · rcases hh with ⟨y1, -⟩ | ⟨y1, -⟩ | ⟨-, rfl⟩
      · rw [z1] at y1; cases y1
      · rw [z1] at y1; cases y1
      · exact ai_push (v := .float 0) (fun _ => hV) row k
  | iload j =>
    have hl9 : len = 2 := hlk
    subst hl9
    exact ai_iload_ok (i := j) (n := 2) (fun x H locs cells slots ls st h9 k9 => lv_iload hx hb hd h9 k9) he k
  | iload_n j =>
    have hl9 : len = 1 := hlk
    subst hl9
    exact ai_iload_ok (i := j.val) (n := 1) (fun x H locs cells slots ls st h9 k9 => lv_iload_n hx hb hd rfl h9 k9) he k
  | aload j =>
    have hl9 : len = 2 := hlk
    subst hl9
    exact ai_aload_ok (i := j) (n := 2) (fun x H locs cells slots ls st h9 k9 => lv_aload hx hb hd h9 k9) (fun H locs cells slots ls st h9 k9 => lv_aloadN hx hb hd h9 k9) he k
  | aload_n j =>
    have hl9 : len = 1 := hlk
    subst hl9
    exact ai_aload_ok (i := j.val) (n := 1) (fun x H locs cells slots ls st h9 k9 => lv_aload_n hx hb hd rfl h9 k9) (fun H locs cells slots ls st h9 k9 => lv_aload_nN hx hb hd rfl h9 k9) he k
  | istore j =>
    have hl9 : len = 2 := hlk
    subst hl9
    exact ai_istore_ok (i := j) (n := 2) (fun x H locs cells slots ls lv st h8 h9 k9 => lv_istore hx hb hd h8 h9 rfl k9) he k
  | istore_n j =>
    have hl9 : len = 1 := hlk
    subst hl9
    exact ai_istore_ok (i := j.val) (n := 1) (fun x H locs cells slots ls lv st h8 h9 k9 => lv_istore_n hx hb hd rfl h8 h9 rfl k9) he k
  | astore j =>
    have hl9 : len = 2 := hlk
    subst hl9
    exact ai_astore_ok (i := j) (n := 2) (fun x H locs cells slots ls lv st h8 h9 k9 => lv_astore hx hb hd h8 h9 rfl k9) (fun H locs cells slots ls lv st h8 h9 k9 => lv_astoreN hx hb hd h8 h9 rfl k9) he k
  | astore_n j =>
    have hl9 : len = 1 := hlk
    subst hl9
    exact ai_astore_ok (i := j.val) (n := 1) (fun x H locs cells slots ls lv st h8 h9 k9 => lv_astore_n hx hb hd rfl h8 h9 rfl k9) (fun H locs cells slots ls lv st h8 h9 k9 => lv_astore_nN hx hb hd rfl h8 h9 rfl k9) he k
  | iinc j z =>
    have hl9 : len = 3 := hlk
    subst hl9
    exact ai_inc_ok hx hb hd he k
  | iadd =>
    have hl9 : len = 1 := hlk
    subst hl9
    exact ai_bin_ok (fun x y H locs cells slots ls st k9 => lv_iadd hx hb hd k9) he k
  | isub =>
    have hl9 : len = 1 := hlk
    subst hl9
    exact ai_bin_ok (fun x y H locs cells slots ls st k9 => lv_isub hx hb hd k9) he k
  | imul =>
    have hl9 : len = 1 := hlk
    subst hl9
    exact ai_bin_ok (fun x y H locs cells slots ls st k9 => lv_imul hx hb hd k9) he k
  | iand =>
    have hl9 : len = 1 := hlk
    subst hl9
    exact ai_bin_ok (fun x y H locs cells slots ls st k9 => lv_iand hx hb hd k9) he k
  | ior =>
    have hl9 : len = 1 := hlk
    subst hl9
    exact ai_bin_ok (fun x y H locs cells slots ls st k9 => lv_ior hx hb hd k9) he k
  | ixor =>
    have hl9 : len = 1 := hlk
    subst hl9
    exact ai_bin_ok (fun x y H locs cells slots ls st k9 => lv_ixor hx hb hd k9) he k
  | ishl =>
    have hl9 : len = 1 := hlk
    subst hl9
    exact ai_bin_ok (fun x y H locs cells slots ls st k9 => lv_ishl hx hb hd k9) he k
  | ishr =>
    have hl9 : len = 1 := hlk
    subst hl9
    exact ai_bin_ok (fun x y H locs cells slots ls st k9 => lv_ishr hx hb hd k9) he k
  | iushr =>
    have hl9 : len = 1 := hlk
    subst hl9
    exact ai_bin_ok (fun x y H locs cells slots ls st k9 => lv_iushr hx hb hd rfl k9) he k
  | idiv =>
    have hl9 : len = 1 := hlk
    subst hl9
    exact ai_divs_ok (fun x y H locs cells slots ls st h9 k9 => lv_idiv hx hb hd h9 k9) he k
  | irem =>
    have hl9 : len = 1 := hlk
    subst hl9
    exact ai_divs_ok (fun x y H locs cells slots ls st h9 k9 => lv_irem hx hb hd h9 k9) he k
  | ineg =>
    have hl9 : len = 1 := hlk
    subst hl9
    exact ai_un_ok (f := fun x => .int (-x)) (fun _ _ => rfl) (fun x H locs cells slots ls st k9 => lv_ineg hx hb hd k9) he k
  | i2b =>
    have hl9 : len = 1 := hlk
    subst hl9
    exact ai_un_ok (f := fun x => .int x.toInt8.toInt32) (fun _ _ => rfl) (fun x H locs cells slots ls st k9 => lv_i2b hx hb hd rfl k9) he k
  | i2s =>
    have hl9 : len = 1 := hlk
    subst hl9
    exact ai_un_ok (f := fun x => .int x.toInt16.toInt32) (fun _ _ => rfl) (fun x H locs cells slots ls st k9 => lv_i2s hx hb hd rfl k9) he k
  | i2c =>
    have hl9 : len = 1 := hlk
    subst hl9
    exact ai_un_ok (f := fun x => .int (x.toUInt32 % 65536).toInt32) (fun _ _ => rfl) (fun x H locs cells slots ls st k9 => lv_i2c hx hb hd rfl k9) he k
  | i2l =>
    have hl9 : len = 1 := hlk
    subst hl9
    exact ai_un_ok (f := fun x => .long x.toInt64) (fun _ _ => rfl) (fun x H locs cells slots ls st k9 => lv_i2l hx hb hd rfl k9) he k
  | pop =>
    have hl9 : len = 1 := hlk
    subst hl9
    simp only [ai_eff] at he
    refine ai_dup_ok (fun v r0 r' V T ad H locs cells slots ls hc hf hv hs => ?_) he k
    cases hf
    exact ⟨T, hs, fun k9 => lv_pop hx hb hd ((ai_v_cat hv).trans hc) k9⟩
  | dup =>
    have hl9 : len = 1 := hlk
    subst hl9
    simp only [ai_eff] at he
    refine ai_dup_ok (fun v r0 r' V T ad H locs cells slots ls hc hf hv hs => ?_) he k
    cases hf
    exact ⟨V :: V :: T, ⟨hv, hv, hs⟩, fun k9 => lv_dup hx hb hd ((ai_v_cat hv).trans hc) k9⟩
  | dup_x1 =>
    have hl9 : len = 1 := hlk
    subst hl9
    simp only [ai_eff] at he
    refine ai_dup_ok (fun v r0 r' V T ad H locs cells slots ls hc hf hv hs => ?_) he k
    split at hf
    · rename_i w r1
      split at hf
      · rename_i hw
        cases hf
        obtain ⟨V2, T, rfl, hv2, hs9⟩ := ai_vs_cons hs
        exact ⟨V :: V2 :: V :: T, ⟨hv, hv2, hv, hs9⟩, fun k9 => lv_dup_x1 hx hb hd ((ai_v_cat hv).trans hc) ((ai_v_cat hv2).trans hw) k9⟩
      · cases hf
    · cases hf
  | dup_x2 =>
    have hl9 : len = 1 := hlk
    subst hl9
    simp only [ai_eff] at he
    refine ai_dup_ok (fun v r0 r' V T ad H locs cells slots ls hc hf hv hs => ?_) he k
    split at hf
    · rename_i w z r1
      split at hf
      · rename_i hw
        cases hf
        obtain ⟨V2, T, rfl, hv2, hs8⟩ := ai_vs_cons hs
        obtain ⟨V3, T, rfl, hv3, hs9⟩ := ai_vs_cons hs8
        exact ⟨V :: V2 :: V3 :: V :: T, ⟨hv, hv2, hv3, hv, hs9⟩, fun k9 => lv_dup_x2 hx hb hd ((ai_v_cat hv).trans hc) ((ai_v_cat hv2).trans hw.1) ((ai_v_cat hv3).trans hw.2) k9⟩
      · cases hf
    · cases hf
  | dup2 =>
    have hl9 : len = 1 := hlk
    subst hl9
    simp only [ai_eff] at he
    refine ai_dup_ok (fun v r0 r' V T ad H locs cells slots ls hc hf hv hs => ?_) he k
    split at hf
    · rename_i w r1
      split at hf
      · rename_i hw
        cases hf
        obtain ⟨V2, T, rfl, hv2, hs9⟩ := ai_vs_cons hs
        exact ⟨V :: V2 :: V :: V2 :: T, ⟨hv, hv2, hv, hv2, hs9⟩, fun k9 => lv_dup2_11 hx hb hd ((ai_v_cat hv).trans hc) ((ai_v_cat hv2).trans hw) k9⟩
      · cases hf
    · cases hf
  | ifCond cd off =>
    obtain ⟨hl9, ht⟩ := hlk
    subst hl9
    simp only [ai_eff] at he
    split at he
    · exact ai_if_ok hx hb hd ht he k
    · cases he
  | if_icmp cd off =>
    obtain ⟨hl9, ht⟩ := hlk
    subst hl9
    simp only [ai_eff] at he
    split at he
    · exact ai_icmp_ok hx hb hd ht he k
    · cases he
  | if_acmp cd off =>
    obtain ⟨hl9, ht⟩ := hlk
    subst hl9
    simp only [ai_eff] at he
    split at he
    · split at he
      · rename_i b hsm
        split at he
        · rename_i hz
          exact ai_acmp_ok hx hb hd ht hsa hsm hz he k
        · cases he
      · cases he
    · cases he
  | ifnull off =>
    obtain ⟨hl9, ht⟩ := hlk
    subst hl9
    simp only [ai_eff] at he
    split at he
    · split at he
      · rename_i b hsm
        exact ai_ifnull_ok hx hb hd ht hsm he k
      · cases he
    · cases he
  | ifnonnull off =>
    obtain ⟨hl9, ht⟩ := hlk
    subst hl9
    simp only [ai_eff] at he
    split at he
    · split at he
      · rename_i b hsm
        exact ai_ifnonnull_ok hx hb hd ht hsm he k
      · cases he
    · cases he
  | lcmp =>
    have hl9 : len = 1 := hlk
    subst hl9
    simp only [ai_eff] at he
    split at he
    · simp only [Option.some.injEq, Prod.mk.injEq] at he
      obtain ⟨rfl, rfl, rfl, rfl⟩ := he
      exact ai_lcmp_ok hx hb hd k
    · cases he
  | goto off =>
    obtain ⟨hl9, ht⟩ := hlk
    subst hl9
    exact ai_goto_ok hx hb hd ht he k
  | tableswitch d lo hi offs =>
    obtain ⟨ht, hof⟩ := hlk
    simp only [ai_eff] at he
    split at he
    · exact ai_tsw_ok hx hb hd ht hof he k
    · cases he
  | getfield idx =>
    obtain ⟨hl9, h1, h2⟩ := hlk
    subst hl9
    exact ai_getf_ok hx hb hd hts hcl hown hZ h1 h2 (fun j fs => hcZ j _ fs) he k
  | putfield idx =>
    obtain ⟨hl9, q, h1, h2, h3, h4⟩ := hlk
    subst hl9
    simp only [ai_eff, hG4] at he
    exact ai_putf_ok hx hb hd hts hcl hown h1 h2 h3 h4 he k
  | iaload =>
    have hl9 : len = 1 := hlk
    subst hl9
    exact ai_ald_ok hZ (ty := .int) (fun D cl tys ws q0 t0 a cA n f i H locs cells slots ls st hK hP ha ht hin k9 => va_iald hx hb hK hP q0 t0 ha ht hin hd k9) (fun a N f i H locs cells slots ls st hT hS hin k9 => va_ti hx hb hT hS hin rfl hd k9) he k
  | baload =>
    have hl9 : len = 1 := hlk
    subst hl9
    exact ai_ald_ok hZ (ty := .byte) (fun D cl tys ws q0 t0 a cA n f i H locs cells slots ls st hK hP ha ht hin k9 => va_bald hx hb hK hP q0 t0 ha ht hin hd k9) (fun a N f i H locs cells slots ls st hT hS hin k9 => va_tb hx hb hT hS hin rfl hd k9) he k
  | saload =>
    have hl9 : len = 1 := hlk
    subst hl9
    exact ai_ald_ok hZ (ty := .short) (fun D cl tys ws q0 t0 a cA n f i H locs cells slots ls st hK hP ha ht hin k9 => va_sald hx hb hK hP q0 t0 ha ht hin hd k9) (fun a N f i H locs cells slots ls st hT hS hin k9 => va_ts hx hb hT hS hin rfl hd k9) he k
  | laload =>
    have hl9 : len = 1 := hlk
    subst hl9
    exact ai_lald_ok hx hb hd he k
  | aaload =>
    have hl9 : len = 1 := hlk
    subst hl9
    exact ai_aald_ok hx hb hd hZ he k
  | iastore =>
    have hl9 : len = 1 := hlk
    subst hl9
    exact ai_ast_ok (fun _ => rfl) (fun D cl tys ws q0 t0 a cA n f i x H locs cells slots ls st hK hP hD hS ha ht hin k9 => va_iast hx hb hK hP hD hS q0 t0 ha ht hin hd k9) he k
  | bastore =>
    have hl9 : len = 1 := hlk
    subst hl9
    exact ai_ast_ok (fun x => by rw [vp_nar_byte]; exact pk_fb x) (fun D cl tys ws q0 t0 a cA n f i x H locs cells slots ls st hK hP hD hS ha ht hin k9 => va_bast hx hb hK hP hD hS q0 t0 ha ht hin hd k9) he k
  | sastore =>
    have hl9 : len = 1 := hlk
    subst hl9
    exact ai_ast_ok (fun x => by rw [vp_nar_short]; exact pk_fs x) (fun D cl tys ws q0 t0 a cA n f i x H locs cells slots ls st hK hP hD hS ha ht hin k9 => va_sast hx hb hK hP hD hS q0 t0 ha ht hin hd k9) he k
  | lastore =>
    have hl9 : len = 1 := hlk
    subst hl9
    exact ai_last_ok hx hb hd he k
  | aastore =>
    have hl9 : len = 1 := hlk
    subst hl9
    exact ai_aast_ok hx hb hd hZ hcn he k
  | arraylength =>
    have hl9 : len = 1 := hlk
    subst hl9
    exact ai_alen_ok hx hb hd hZ he k
  | newarray t0 =>
    obtain ⟨hl9, h1, h2⟩ := hlk
    subst hl9
    exact ai_newa_ok hx hb hd hA h1 h2 he hR1 hR2 k
  | anewarray idx =>
    obtain ⟨hl9, h1, h2⟩ := hlk
    subst hl9
    exact ai_newq_ok hx hb hd hown hA h1 h2 he hR1 hR2 k
  | new idx =>
    obtain ⟨hl9, q, h1, h2, h3, h4⟩ := hlk
    subst hl9
    exact ai_new_ok hx hb hd hts hcl hown hA h1 hdf h2 h3 h4 he hR1 hR2 k
  | instanceof idx =>
    obtain ⟨hl9, h1⟩ := hlk
    subst hl9
    simp only [ai_eff] at he
    split at he
    · split at he
      · rename_i v S hv
        simp only [Option.some.injEq, Prod.mk.injEq] at he
        obtain ⟨rfl, rfl, rfl, rfl⟩ := he
        intro ad tys ws H locs cells slots ls st ha hl hs
        obtain ⟨V, T, rfl, hv2, hs9⟩ := ai_vs_cons hs
        obtain ⟨a, rfl, hc⟩ := ai_isof_ok hZ hcn ha.2.2.2.2.2.2.2 hv hv2
        exact va_instE hx hb hown h1 hc hd (k ad tys ws H locs cells slots ls (.int 1 :: T) ha hl ⟨rfl, hs9⟩)
      · cases he
    · cases he
  | checkcast idx =>
    obtain ⟨hl9, h1⟩ := hlk
    subst hl9
    simp only [ai_eff] at he
    split at he
    · split at he
      · rename_i v S hv
        simp only [Option.some.injEq, Prod.mk.injEq] at he
        obtain ⟨rfl, rfl, rfl, rfl⟩ := he
        intro ad tys ws H locs cells slots ls st ha hl hs
        obtain ⟨V, T, rfl, hv2, hs9⟩ := ai_vs_cons hs
        have hv3 := hv2
        obtain ⟨a, rfl, hc⟩ := ai_isof_ok hZ hcn ha.2.2.2.2.2.2.2 hv hv2
        exact va_castE hx hb hown h1 hc hd (k ad tys ws H locs cells slots ls (.ref a :: T) ha hl ⟨hv3, hs9⟩)
      · cases he
    · cases he
  | _ => cases he
end AIS
