/-! CALLS: a method of ours returns or throws; either way the caller stands again. -/
/-- how an invocation ends: the tables are warmer, of the old cells only the slots L have changed, at most mc cells of ms slots are new -/
def ai_end (st t : State) (L : List Loc) (mc ms : Nat) : Prop := st.WarmedH t.vm ∧ st.sameButNew ({ t with vm := st.vm } : State) L mc ms
section AIC
variable {l : Launch} {R : Room} {p : Program} {e : Env} {below : List Frame} {s : State} {m : MethodId} {sargs : Array Value} {meth : Method} {c : Code} {U : State} {Ls : List Loc} {c0 s0 : Nat}
theorem ai_invoke (X : Stand p l e R s m sargs below meth c U Ls c0 s0) {y : MethodName} {S : Spec} {P : Array Value → State → Prop} {Q : Array Value → State → Outcome → State → Prop} (hM : MetFree l y S P (fun _ _ _ _ _ => True) Q)
    {g : JFrame} {ig : Instr} {len W9 : Nat} (hg : g.method = m) (hsize : g.locals.size = c.maxLocals) (hdg : decode c.code g.pc = .ok (ig, len)) (hW : 2 * g.monitorRoom + (g.stack.map fun v => v.category).sum ≤ W9)
    {mk : MethodId} (hn : U.methodNamed? y = some mk) {a : Array Value} {methY : Method} {cY : Code} (hmY : U.vm.method? mk = some methY) (hcY : methY.code = some cY)
    (hframes : S.room.frames + 1 ≤ R.frames) (hlocals : W9 + (cY.maxLocals + 11) + S.room.locals ≤ R.locals) (hcells : c0 + S.room.cells ≤ R.cells) (hslots : s0 + S.room.slots ≤ R.slots)
    (hinit : (Cond.initialized y.cls).before a U = true) (hpre : S.pre.before a U = true) (hP : P a (U.calling g mk a)) :
    ∃ (o : Outcome) (t : State), Steps p.tables e below (doInvoke e (U.setTop g) [] mk a).1 t ∧ Ended t (.java g :: U.frames.tail) o ∧ Q a (U.calling g mk a) o t := by
  obtain ⟨kY, hkY, -⟩ := className_of_methodNamed hn
  have hinitY : kY.init = .initialized := Cond.initialized_spec (findClass_of_methodNamed hn) hkY hinit
  have h : At U g.method c below := by rw [hg]; exact X.here
  have happ : S.appliesLoose y e.platform (U.calling g mk a) = true :=
    Spec.appliesLoose_calling (g := g) h hdg hn hkY hinitY (X.room_calling (g := g) (R' := S.room) hsize hmY hcY hframes (by omega) hcells hslots) hpre
  obtain ⟨mid, hmid⟩ := h.above
  have hfr : (U.setTop g).frames = (.java g :: mid) ++ below := by rw [State.frames_setTop' g h.top, hmid]; rfl
  obtain ⟨o, s₂, hsteps, -, hend, hq⟩ := Steps.callFree hM p X.admits X.cas X.clock (acts := []) hfr happ hP trivial
  rw [State.frames_setTop' g h.top] at hend
  exact ⟨o, s₂, hsteps, hend, hq⟩
/-- the caller's state behind the call, but for its top frame -/
def ai_behind (U t : State) : State := ({ U with heap := t.heap, slotsUsed := t.slotsUsed } : State).setVm t.vm
theorem ai_stands (X : Stand p l e R s m sargs below meth c U Ls c0 s0) {g : JFrame} {mk : MethodId} {a : Array Value} {t : State} {L : List Loc} {mc ms : Nat} (hE : ai_end (U.calling g mk a) t L mc ms) :
    Stand p l e R s m sargs below meth c (ai_behind U t) (Ls ++ L) (c0 + mc) (s0 + ms) := by
  obtain ⟨hW₂, e2, q2, q3, q4, q5, q6⟩ := hE
  have hW' : U.WarmedH t.vm := hW₂
  obtain ⟨g₀, hg0⟩ := Option.isSome_iff_exists.mp X.here.top
  obtain ⟨r, hr⟩ := State.topJava?_eq_some.mp hg0
  have hsame : U.sameButNew ({ U with heap := t.heap, slotsUsed := t.slotsUsed } : State) L mc ms := by
    refine ⟨?_, q2, q3, q4, q5, q6⟩
    obtain ⟨th, ht, -⟩ := State.frames_cons hr
    show ({ U with heap := t.heap, slotsUsed := t.slotsUsed } : State) = { U.setFrames U.frames with heap := t.heap, slotsUsed := t.slotsUsed }
    rw [State.setFrames_self ht]
  exact ⟨X.admits, X.cas, X.clock, X.frames, X.room, X.hears, X.method, X.code, (X.here.setHeapUsed t.heap t.slotsUsed).setVm hW'.alike, X.tail, State.WarmedH.trans X.warmed hW', X.limits, X.bytes, X.same.trans (hsame.setVm s.vm)⟩
theorem ai_whole {g : JFrame} {mk : MethodId} {a : Array Value} {t : State} {L : List Loc} {mc ms : Nat} (hE : ai_end (U.calling g mk a) t L mc ms) : t = ({ (U.calling g mk a).setFrames t.frames with heap := t.heap, slotsUsed := t.slotsUsed } : State).setVm t.vm := by
  have e2 := hE.2.1
  have h9 : t = ({ t with vm := (U.calling g mk a).vm } : State).setVm t.vm := rfl
  rw [e2] at h9
  exact h9
theorem ai_returned (X : Stand p l e R s m sargs below meth c U Ls c0 s0) {g : JFrame} {ig : Instr} {len : Nat} (hg : g.method = m) (hdg : decode c.code g.pc = .ok (ig, len)) {mk : MethodId} {a : Array Value} {t : State} {L : List Loc} {mc ms : Nat} {v : Option Value} (hE : ai_end (U.calling g mk a) t L mc ms) (hend : Ended t (.java g :: U.frames.tail) (.returned v)) :
    t = (ai_behind U t).setTop { g with pc := g.pc + len, stack := v.toList ++ g.stack } := by
  have h : At U g.method c below := by rw [hg]; exact X.here
  have e3 := ai_whole hE
  have hW' : U.WarmedH t.vm := hE.1
  obtain ⟨c₂, i₂, len₂, hc₂, hd₂, hf₂⟩ := hend
  have hcc : c₂ = c := by
    have h1 : t.code? g.method = U.code? g.method := by
      rw [State.code?_eq, State.code?_eq, hW'.alike.method?]
    exact Option.some.inj (hc₂.symm.trans (h1.trans h.code))
  subst hcc
  have hlen : len₂ = len := by rw [hdg] at hd₂; cases hd₂; rfl
  subst hlen
  obtain ⟨g₀, hg0⟩ := Option.isSome_iff_exists.mp h.top
  obtain ⟨r, hr⟩ := State.topJava?_eq_some.mp hg0
  have hr' : (ai_behind U t).frames = .java g₀ :: r := hr
  refine e3.trans ?_
  rw [hf₂, State.calling_eq h.top, State.setFrames_setFrames, State.setTop_of_frames _ hr', hr]
  rfl
theorem ai_thrown (X : Stand p l e R s m sargs below meth c U Ls c0 s0) {g : JFrame} (hg : g.method = m) {mk : MethodId} {a : Array Value} {t : State} {L : List Loc} {mc ms : Nat} {q : Addr} (hE : ai_end (U.calling g mk a) t L mc ms) (hend : Ended t (.java g :: U.frames.tail) (.threw q)) :
    t = ((ai_behind U t).setTop g).pushFrame (.throwing q) := by
  have h : At U g.method c below := by rw [hg]; exact X.here
  have e3 := ai_whole hE
  have hf₂ : t.frames = .throwing q :: .java g :: U.frames.tail := hend
  obtain ⟨g₀, hg0⟩ := Option.isSome_iff_exists.mp h.top
  obtain ⟨r, hr⟩ := State.topJava?_eq_some.mp hg0
  have hr' : (ai_behind U t).frames = .java g₀ :: r := hr
  refine e3.trans ?_
  rw [hf₂, State.calling_eq h.top, State.setFrames_setFrames, State.pushFrame, State.frames_setTop _ hr', State.setTop_of_frames _ hr', State.setFrames_setFrames, hr]
  rfl
end AIC
