/-! THE CONTRACT OF A METHOD: what the small machine answers is what the large one does. -/
/-- what is given of the program: machine's constants, classes of constant objects, classes that are made, types of their fields; the entries that are String constants (class, entry, text, number), the static fields (class, name, type, what it holds), words of cells that nobody changes -/
abbrev ai_Y : Type := ai_G × (Nat → String × u_T) × List vw_C × (Nat → Nat → FieldType) × List (String × Nat × String × Nat) × List (String × String × String × Value) × List Cond
abbrev ai_yG (y : ai_Y) : ai_G := y.1
abbrev ai_yZ (y : ai_Y) : ai_S := y.1.1
abbrev ai_yN (y : ai_Y) : Nat → String := y.1.2.1
abbrev ai_yc (y : ai_Y) : Nat → String × u_T := y.2.1
abbrev ai_yl (y : ai_Y) : List vw_C := y.2.2.1
abbrev ai_yt (y : ai_Y) : Nat → Nat → FieldType := y.2.2.2.1
abbrev ai_ys (y : ai_Y) : List (String × Nat × String × Nat) := y.2.2.2.2.1
abbrev ai_yf (y : ai_Y) : List (String × String × String × Value) := y.2.2.2.2.2.1
abbrev ai_yw (y : ai_Y) : List Cond := y.2.2.2.2.2.2
/-- what holds of the constants at a state, seen by a method that changes cells of A alone -/
def ai_E (y : ai_Y) (sa : Nat → Nat) (A : Nat → Prop) (U : State) (H : Heap) : Prop :=
  (∀ k x, ai_yZ y k = some x → ai_zc (ai_yc y) sa x (sa k) A U H) ∧ (∀ q ∈ ai_ys y, vk_R q.1 q.2.1 q.2.2.1 (sa q.2.2.2) U) ∧ (∀ q ∈ ai_yf y, ∃ V, ai_v sa [] q.2.2.2 V ∧ va_Z q.1 q.2.1 q.2.2.1 V A U H) ∧ (∀ w ∈ ai_yw y, ai_stay w A U H) ∧ va_AO "QueryReader$Sort" U ∧ va_AO "java/lang/String" U
theorem ai_E_moved {y : ai_Y} {sa : Nat → Nat} {A : Nat → Prop} {u U : State} {H : Heap} (hW : u.WarmedH U.vm) (h : ai_E y sa A u H) : ai_E y sa A U H := by
  obtain ⟨h1, h2, h3, h4, h5, h6⟩ := h
  refine ⟨fun k x hk => ai_zc_moved hW.alike (h1 k x hk), fun q hq => vk_R.warm hW (h2 q hq), fun q hq => ?_, fun w hw => ai_stay_moved hW.alike (h4 w hw), va_AO.moved hW.alike h5, va_AO.moved hW.alike h6⟩
  obtain ⟨V, g1, g2⟩ := h3 q hq
  exact ⟨V, g1, va_Z.moved hW.alike g2⟩
theorem ai_E_kept {y : ai_Y} {sa : Nat → Nat} {A : Nat → Prop} {U : State} {H H1 : Heap} (hz : H.size ≤ H1.size) (h : ai_E y sa A U H) (hq : ∀ a : Nat, a < H.size → ¬ A a → H1[a]? = H[a]?) : ai_E y sa A U H1 := by
  obtain ⟨h1, h2, h3, h4, h5, h6⟩ := h
  refine ⟨fun k x hk => ai_zc_kept (h1 k x hk) hq, h2, fun q hq2 => ?_, fun w hw => ai_stay_kept hz (h4 w hw) hq, h5, h6⟩
  obtain ⟨V, g1, g2⟩ := h3 q hq2
  exact ⟨V, g1, g2.kept hq⟩
theorem ai_E_narrow {y : ai_Y} {sa : Nat → Nat} {A B : Nat → Prop} {U : State} {H : Heap} (h : ai_E y sa A U H) (hAB : ∀ q, B q → A q) : ai_E y sa B U H := by
  obtain ⟨h1, h2, h3, h4, h5, h6⟩ := h
  refine ⟨fun k x hk => ai_zc_narrow (h1 k x hk) hAB, h2, fun q hq2 => ?_, fun w hw => ai_stay_narrow (h4 w hw) hAB, h5, h6⟩
  obtain ⟨V, g1, g2⟩ := h3 q hq2
  exact ⟨V, g1, g2.narrow hAB⟩
/-- a method's start: its arguments Vs, its world ws0 in a heap of sz cells -/
def ai_Pc (y : ai_Y) (sa : Nat → Nat) (D : va_G) (tys0 : List (ClassId × FieldType)) (ws0 : va_W) (Vs : List Value) (sz : Nat) : Array Value → State → Prop := fun a U =>
  a = Vs.toArray ∧ U.heap.size = sz ∧ va_P D (ai_yl y) ws0 U.heap ∧ va_K D (ai_yl y) tys0 U ∧ va_D (fun _ => True) ws0 ∧ ai_E y sa (va_A ws0 sz) U U.heap
/-- how it ends: as the small machine says -/
def ai_res (sa : Nat → Nat) (ad : List Nat) (O : Option Value ⊕ String) (st : State) (o : Outcome) (t : State) : Prop := match O with
  | .inl none => o = .returned none
  | .inl (some v) => ∃ V, o = .returned (some V) ∧ ai_v sa ad v V
  | .inr E => ∃ (q : Addr) (ce : Cell), o = .threw q ∧ t.heap[q]? = some ce ∧ ce.vm = .none ∧ st.vm.findClass E = some ce.cls
def ai_Qc (y : ai_Y) (sa : Nat → Nat) (D : va_G) (ad0 : List Nat) (A : Nat → Prop) (kc ks : Nat) (out : ai_O) : Array Value → State → Outcome → State → Prop := fun _ st o t =>
  ∃ (ad : List Nat) (tys : List (ClassId × FieldType)) (ws : va_W) (L : List Loc), (∃ q, ad = ad0 ++ q) ∧ ai_w (ai_yZ y) (ai_yN y) sa ad tys out.2.1 ws ∧ va_K D (ai_yl y) tys t ∧ va_P D (ai_yl y) ws t.heap ∧ va_D A ws ∧ va_F A st t ∧ ai_end st t L (out.2.2.1 - kc) (out.2.2.2 - ks) ∧ (∀ z ∈ L, A z.base) ∧ ai_res sa ad out.1 st o t
/-- the room of a call that may go d deep -/
def ai_rm (d mc ms : Nat) : Room := { frames := d + 6, cells := mc, slots := ms, locals := 40 * d + 200 }
/-- the words of a method: its code, and those of the tables -/
def ai_ws (TB : List Cond) (M : ai_M) : List Cond := ai_cw (ai_Mn M) (ai_Mb M) (ai_Ml M) (ai_Mr M) (ai_Mx M) :: TB
/-- the contract of a method at one start of the small machine -/
def ai_Met (l : Launch) (TB : List Cond) (y : ai_Y) (sa : Nat → Nat) (D : va_G) (d : Nat) (M : ai_M) (As : List Value) (h : ai_H) (out : ai_O) : Prop :=
  ∀ (ad0 : List Nat) (tys0 : List (ClassId × FieldType)) (ws0 : va_W) (Vs : List Value) (sz : Nat), ai_w (ai_yZ y) (ai_yN y) sa ad0 tys0 h.1 ws0 → ai_vs sa ad0 As Vs →
    MetFree l (ai_Mn M) (headSpec (ai_ws TB M) (ai_rm d (out.2.2.1 - h.2.1) (out.2.2.2 - h.2.2))) (ai_Pc y sa D tys0 ws0 Vs sz) (fun _ _ _ _ _ => True) (ai_Qc y sa D ad0 (va_A ws0 sz) h.2.1 h.2.2 out)
/-! the numbers of cells and slots only grow -/
def ai_le (h h' : ai_H) : Prop := h.2.1 ≤ h'.2.1 ∧ h.2.2 ≤ h'.2.2
theorem ai_le_refl (h : ai_H) : ai_le h h := ⟨Nat.le_refl _, Nat.le_refl _⟩
theorem ai_le_trans {a b c : ai_H} (h1 : ai_le a b) (h2 : ai_le b c) : ai_le a c := ⟨Nat.le_trans h1.1 h2.1, Nat.le_trans h1.2 h2.2⟩
theorem ai_eff_le {G : ai_G} {i : Instr} {r : ai_R} {L L' : ai_L} {S S' : List Value} {h h' : ai_H} {t : Nat} (he : ai_eff G i r L S h = some (t, L', S', h')) : ai_le h h' := by
  have z : ∀ {t t' : Nat} {L L' : ai_L} {S S' : List Value} {g g' : ai_H}, (some (t, L, S, g) : Option ai_N) = some (t', L', S', g') → ai_le h g → ai_le h g' := by
    intro t t' L L' S S' g g' e hg
    cases e
    exact hg
  unfold ai_eff at he
  split at he <;> first
    | (cases he; done)
    | exact z he (ai_le_refl h)
    | (unfold ai_const at he; split at he <;> first | exact z he (ai_le_refl h) | cases he)
    | (unfold ai_iload at he; split at he <;> first | exact z he (ai_le_refl h) | cases he)
    | (unfold ai_aload at he; split at he <;> first | (split at he <;> first | exact z he (ai_le_refl h) | cases he) | cases he)
    | (unfold ai_istore at he; split at he <;> first | (split at he <;> first | exact z he (ai_le_refl h) | cases he) | cases he)
    | (unfold ai_astore at he; split at he <;> first | (split at he <;> first | exact z he (ai_le_refl h) | cases he) | cases he)
    | (unfold ai_inc at he; split at he <;> first | exact z he (ai_le_refl h) | cases he)
    | (unfold ai_bin at he; split at he <;> first | exact z he (ai_le_refl h) | cases he)
    | (unfold ai_divs at he; split at he <;> first | (split at he <;> first | exact z he (ai_le_refl h) | cases he) | cases he)
    | (unfold ai_un at he; split at he <;> first | exact z he (ai_le_refl h) | cases he)
    | (unfold ai_dup at he; split at he <;> first | (split at he <;> first | (split at he <;> first | exact z he (ai_le_refl h) | cases he) | cases he) | cases he)
    | (unfold ai_jump at he; exact z he (ai_le_refl h))
    | (split at he <;> first | (unfold ai_jump at he; exact z he (ai_le_refl h)) | (unfold ai_sw at he; exact z he (ai_le_refl h)) | exact z he (ai_le_refl h) | (cases he; done) | (split at he <;> first | (unfold ai_jump at he; exact z he (ai_le_refl h)) | exact z he (ai_le_refl h) | (cases he; done) | (split at he <;> first | (unfold ai_jump at he; exact z he (ai_le_refl h)) | cases he)))
    | (unfold ai_getf at he; split at he <;> first | (split at he <;> first | (split at he <;> first | (split at he <;> first | exact z he (ai_le_refl h) | cases he) | cases he) | cases he) | cases he)
    | (unfold ai_putf at he; split at he <;> first | (split at he <;> first | (split at he <;> first | exact z he (ai_le_refl h) | cases he) | cases he) | cases he)
    | (unfold ai_ald at he; split at he <;> first | (split at he <;> first | (split at he <;> first | exact z he (ai_le_refl h) | cases he) | cases he) | cases he)
    | (unfold ai_lald at he; split at he <;> first | (split at he <;> first | (split at he <;> first | exact z he (ai_le_refl h) | cases he) | cases he) | cases he)
    | (unfold ai_aald at he; split at he <;> first | (split at he <;> first | (split at he <;> first | exact z he (ai_le_refl h) | cases he) | cases he) | cases he)
    | (unfold ai_ast at he; split at he <;> first | (split at he <;> first | (split at he <;> first | exact z he (ai_le_refl h) | cases he) | cases he) | cases he)
    | (unfold ai_last at he; split at he <;> first | (split at he <;> first | (split at he <;> first | exact z he (ai_le_refl h) | cases he) | cases he) | cases he)
    | (unfold ai_aast at he; split at he <;> first | (split at he <;> first | (split at he <;> first | (split at he <;> first | exact z he (ai_le_refl h) | cases he) | cases he) | cases he) | cases he)
    | (unfold ai_alen at he; split at he <;> first | (split at he <;> first | exact z he (ai_le_refl h) | cases he) | cases he)
    | (unfold ai_newa at he; split at he <;> first | (split at he <;> first | exact z he ⟨Nat.le_succ _, Nat.le_add_right _ _⟩ | cases he) | cases he)
    | (unfold ai_newq at he; split at he <;> first | (split at he <;> first | exact z he ⟨Nat.le_succ _, Nat.le_add_right _ _⟩ | cases he) | cases he)
    | (unfold ai_new at he; exact z he ⟨Nat.le_succ _, Nat.le_add_right _ _⟩)
