theorem ai_copy_le {S S' : List Value} {h h' : ai_H} (he : ai_copy S h = some (S', h')) : ai_le h h' := by
  unfold ai_copy at he
  split at he
  · split at he
    · cases he
    · split at he
      · split at he
        · split at he
          · cases he; exact ai_le_refl h
          · cases he
        · cases he
      · split at he
        · split at he
          · cases he; exact ai_le_refl h
          · cases he
        · cases he
      · cases he
  · cases he
theorem ai_go_le {G : ai_G} {rec : Nat → List Value → ai_H → Option ai_O} (hrec : ∀ mi As h out, rec mi As h = some out → ai_le h out.2) {M : ai_M} : ∀ (n k : Nat) (L : ai_L) (S : List Value) (h : ai_H) (out : ai_O), ai_go G rec M n k L S h = some out → ai_le h out.2 := by
  intro n
  induction n with
  | zero => intro k L S h out he; cases he
  | succ n ih =>
    intro k L S h out he
    simp only [ai_go] at he
    split at he
    · cases he
    · split at he
      · split at he
        · rename_i heff
          exact ai_le_trans (ai_eff_le heff) (ih _ _ _ _ _ he)
        · cases he
      · split at he
        · split at he
          · rename_i hr
            exact ai_le_trans (hrec _ _ _ _ hr) (ih _ _ _ _ _ he)
          · rename_i hr
            split at he
            · split at he
              · exact ai_le_trans (hrec _ _ _ _ hr) (ih _ _ _ _ _ he)
              · cases he
            · cases he
              exact hrec _ _ _ _ hr
          · cases he
        · cases he
      · split at he
        · cases he
          exact ⟨Nat.le_succ _, Nat.le_add_right _ _⟩
        · cases he
      · split at he
        · split at he
          · exact ih _ _ _ _ _ he
          · cases he
        · cases he
      · split at he
        · rename_i hc
          split at he
          · exact ai_le_trans (ai_copy_le hc) (ih _ _ _ _ _ he)
          · cases he
        · cases he
      · split at he
        · split at he
          · split at he
            · cases he; exact ai_le_refl h
            · cases he
          · cases he
        · cases he
      · split at he
        · split at he
          · cases he; exact ai_le_refl h
          · cases he
        · cases he
      · split at he
        · cases he; exact ai_le_refl h
        · cases he
      · cases he
theorem ai_run_le {P : Nat → Option ai_M} {G : ai_G} {F : Nat} : ∀ (d mi : Nat) (As : List Value) (h : ai_H) (out : ai_O), ai_run P G F d mi As h = some out → ai_le h out.2 := by
  intro d
  induction d with
  | zero => intro mi As h out he; cases he
  | succ d ih =>
    intro mi As h out he
    simp only [ai_run] at he
    split at he
    · split at he
      · exact ai_go_le (fun mi As h out => ih mi As h out) _ _ _ _ _ _ he
      · cases he
    · cases he
section AIR2
variable {p : Program} {l : Launch} {e : Env} {R : Room} {s : State} {m : MethodId} {args : Array Value} {below : List Frame} {meth : Method} {c : Code} {Q : State → Prop}
variable {y : ai_Y} {sa : Nat → Nat} {D : va_G} {A : Nat → Prop} {ad0 : List Nat} {kc ks : Nat} {cc : ByteArray} {pc : Nat} {L : ai_L} {h : ai_H} {out : ai_O}
/-- what a body owes -/
def ai_Zp (y : ai_Y) (sa : Nat → Nat) (D : va_G) (ad0 : List Nat) (A : Nat → Prop) (kc ks : Nat) (out : ai_O) (below : List Frame) (args : Array Value) (s : State) : State → Prop := fun t => ∃ o, t.status = .running ∧ Ended t below o ∧ ai_Qc y sa D ad0 A kc ks out args s o t
theorem ai_Wmono {Q1 Q2 : State → Prop} {H : Heap} {locs : List Loc} {cells slots : Nat} {g : JFrame} (h : ∀ t, Q1 t → Q2 t) (k : W p l e R s m args below meth c H locs cells slots Q1 g) : W p l e R s m args below meth c H locs cells slots Q2 g := by
  intro T hT X
  obtain ⟨t, a, b⟩ := k T hT X
  exact ⟨t, a, h t b⟩
/-- the world behind an end -/
theorem ai_ended {ad : List Nat} {tys : List (ClassId × FieldType)} {ws : va_W} {H : Heap} {locs L9 : List Loc} {cells slots : Nat} {t : State} {o : Outcome} {O : Option Value ⊕ String} (ha : ai_At s (ai_yZ y) (ai_yN y) sa D (ai_yl y) A ad0 kc ks h ad tys ws H locs cells slots) (hH : t.heap = H) (hW : s.WarmedH t.vm)
    (hE : s.sameButNew ({ t with vm := s.vm } : State) L9 cells slots) (hL : ∀ z ∈ L9, A z.base) (hr : ai_res sa ad O s o t) : ai_Qc y sa D ad0 A kc ks (O, h) args s o t := by
  obtain ⟨q1, q2, q3, hw, hK, hP, hD, hS⟩ := ha
  have e1 : h.2.1 - kc = cells := by omega
  have e2 : h.2.2 - ks = slots := by omega
  refine ⟨ad, tys, ws, L9, q1, hw, va_K.moved hW.alike hK, by rw [hH]; exact hP, hD, hS.F hH, ⟨hW, ?_⟩, hL, hr⟩
  show s.sameButNew _ L9 (h.2.1 - kc) (h.2.2 - ks)
  rw [e1, e2]
  exact hE
theorem ai_iret_ok (hx : p.tables.exec = Jvm.exec) (hb : c.code = cc) (hd : decode cc pc = .ok (.ireturn, 1)) (hlocks : meth.locks = false) {ty : FieldType} (hr : meth.sig.returnType = some ty) {x : Int32} (hn : narrow ty (.int x) = .int x) :
    ai_W p l e R s m args below meth c (ai_Zp y sa D ad0 A kc ks (.inl (some (.int x)), h) below args s) (ai_yZ y) (ai_yN y) sa D (ai_yl y) A ad0 kc ks pc L [.int x] h := by
  intro ad tys ws H locs cells slots ls st ha hl hs
  obtain ⟨V, T, rfl, hv, hs9⟩ := ai_vs_cons hs
  rw [ai_vs_nil hs9, show V = .int x from hv]
  refine ai_Wmono (fun t ht => ?_) (W.zret (Qc := fun _ _ o t => o = .returned (some (.int x)) ∧ t.heap = H) (free := A) hx hb hr hn (fun t h1 _ => ⟨rfl, h1⟩) ha.2.2.2.2.2.2.2.2.2 hd hlocks)
  obtain ⟨o, b1, b2, ⟨rfl, b3⟩, L9, ⟨-, b4, b5⟩, b6⟩ := ht
  exact ⟨_, b1, b2, ai_ended ha b3 b4 b5 b6 ⟨_, rfl, rfl⟩⟩
theorem ai_aret_ok (hx : p.tables.exec = Jvm.exec) (hb : c.code = cc) (hd : decode cc pc = .ok (.areturn, 1)) (hlocks : meth.locks = false) {rt : FieldType} (hr : meth.sig.returnType = some rt) (hrt : (∃ n, rt = .object n) ∨ ∃ t, rt = .array t) {v : Value} (hn : (ai_nul v).isSome = true) :
    ai_W p l e R s m args below meth c (ai_Zp y sa D ad0 A kc ks (.inl (some v), h) below args s) (ai_yZ y) (ai_yN y) sa D (ai_yl y) A ad0 kc ks pc L [v] h := by
  intro ad tys ws H locs cells slots ls st ha hl hs
  obtain ⟨V, T, rfl, hv, hs9⟩ := ai_vs_cons hs
  rw [ai_vs_nil hs9]
  obtain ⟨b, hb9⟩ := Option.isSome_iff_exists.mp hn
  have hV : V = .null ∨ ∃ a, V = .ref a := by
    rcases ai_nul_v hb9 hv with ⟨-, h1⟩ | ⟨-, h1⟩
    · exact Or.inl h1
    · exact Or.inr h1
  refine ai_Wmono (fun t ht => ?_) (W.aret (Qc := fun _ _ o t => o = .returned (some V) ∧ t.heap = H) (free := A) hx hb hr hrt hV (fun t h1 _ => ⟨rfl, h1⟩) ha.2.2.2.2.2.2.2.2.2 hd hlocks)
  obtain ⟨o, b1, b2, ⟨rfl, b3⟩, L9, ⟨-, b4, b5⟩, b6⟩ := ht
  exact ⟨_, b1, b2, ai_ended ha b3 b4 b5 b6 ⟨_, rfl, hv⟩⟩
theorem ai_vret_ok (hx : p.tables.exec = Jvm.exec) (hb : c.code = cc) (hd : decode cc pc = .ok (.return_, 1)) (hlocks : meth.locks = false) (hr : meth.sig.returnType = none) :
    ai_W p l e R s m args below meth c (ai_Zp y sa D ad0 A kc ks (.inl none, h) below args s) (ai_yZ y) (ai_yN y) sa D (ai_yl y) A ad0 kc ks pc L [] h := by
  intro ad tys ws H locs cells slots ls st ha hl hs
  rw [ai_vs_nil hs]
  refine ai_Wmono (fun t ht => ?_) (W.vret (Qc := fun _ _ o t => o = .returned none ∧ t.heap = H) (free := A) hx hb hr (fun t h1 _ => ⟨rfl, h1⟩) ha.2.2.2.2.2.2.2.2.2 hd hlocks)
  obtain ⟨o, b1, b2, ⟨rfl, b3⟩, L9, ⟨-, b4, b5⟩, b6⟩ := ht
  exact ⟨_, b1, b2, ai_ended ha b3 b4 b5 b6 rfl⟩
/-- a throw of the method's own -/
theorem ai_throw_ok {cls : String} (row : ∀ (T : State) (locs : List Loc) (cells slots : Nat) (ls : Array Slot) (st : List Value), Stand p l e R s m args below meth c T locs cells slots → va_S A s.heap T.heap locs → cells + 1 ≤ R.cells → slots + 6 ≤ R.slots → ls.size = c.maxLocals → (st.map fun v => v.category).sum ≤ 8 → ai_thrs p e s below T locs cells slots (F0 m pc ls st) cls)
    {S : List Value} (hwt : ai_wt S ≤ 8) (hR1 : h.2.1 + 1 ≤ kc + R.cells) (hR2 : h.2.2 + 6 ≤ ks + R.slots) :
    ai_W p l e R s m args below meth c (ai_Zp y sa D ad0 A kc ks (.inr cls, h.1, h.2.1 + 1, h.2.2 + 6) below args s) (ai_yZ y) (ai_yN y) sa D (ai_yl y) A ad0 kc ks pc L S h := by
  intro ad tys ws H locs cells slots ls st ha hl hs T hT X
  have hml : ls.size = c.maxLocals := by obtain ⟨_, lv, hlv, _⟩ := hl; exact hlv.1
  have hwT : (st.map fun v => v.category).sum ≤ 8 := by
    have := ai_vs_wt hs
    unfold ai_wt at this hwt
    omega
  obtain ⟨q1, q2, q3, hw, hK, hP, hD, hS⟩ := ha
  obtain ⟨U, ce, q, s1, s2, s3, s4, s5, s6, s7, s8, s9⟩ := row T locs cells slots ls st X (by rw [hT]; exact hS) (by omega) (by omega) hml hwT
  rw [hT] at s5 s6
  refine ⟨U, s1, .threw q, s2, s3, ad, tys, ws, locs, q1, hw, va_K.moved s4.1.alike hK, ?_, hD, ?_, ?_, hS.2.2, q, ce, rfl, s7, s8, s9⟩
  · intro k z hz
    exact (hP k z hz).kept (s6 _ (hP k z hz).lt)
  · exact ⟨Nat.le_trans hS.1 s5, fun z h1 h2 => (s6 z (Nat.lt_of_lt_of_le h1 hS.1)).trans (hS.2.1 z h1 h2)⟩
  · have e1 : h.2.1 + 1 - kc = cells + 1 := by omega
    have e2 : h.2.2 + 6 - ks = slots + 6 := by omega
    show ai_end s U locs (h.2.1 + 1 - kc) (h.2.2 + 6 - ks)
    rw [e1, e2]
    exact s4
end AIR2
