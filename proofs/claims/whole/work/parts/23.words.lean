/-! WORDS THAT STAY: what the tables say stays true while they are warmed. -/
def ai_st (w : Cond) : Bool := match w with
  | .arrayClass _ => true
  | .fieldLinkNest .. => true
  | .methodLinkNest .. => true
  | w => w.onTables && w.keepsFace
theorem ai_st_at {w : Cond} (hw : ai_st w = true) {args a' : Array Value} {s U : State} (hW : s.WarmedH U.vm) (h : w.before args s = true) : w.before a' U = true := by
  have key : (w.onTables && w.keepsFace) = true → w.before a' U = true := by
    intro hk
    rw [Bool.and_eq_true] at hk
    have h1 : w.before args (s.setVm U.vm) = true := Cond.before_shiftedFace (State.Shifted.of_warmed hW) w hk.2 h
    exact va_tabs hk.1 (rfl : (s.setVm U.vm).vm = U.vm) h1
  cases w with
  | arrayClass ty => exact word_at hW (Or.inr ⟨ty, rfl⟩) h
  | fieldLinkNest a i b n d h0 => exact va_Nw.use (A := a') rfl (va_Nw.warmF hW (va_Nw.of rfl h))
  | methodLinkNest a i x h0 => exact va_Nw.use (A := a') rfl (va_Nw.warmM hW (va_Nw.of rfl h))
  | _ => exact key hw
/-- a word that speaks of cells that nobody changes: it holds wherever the tables are alike and the heap differs inside A alone -/
def ai_stay (w : Cond) (A : Nat → Prop) (U : State) (H : Heap) : Prop := ∀ (U' : State) (a : Array Value), U.vm.Alike U'.vm → (∀ q : Nat, q < H.size → ¬ A q → U'.heap[q]? = H[q]?) → w.before a U' = true
theorem ai_stay_moved {w : Cond} {A : Nat → Prop} {u U : State} {H : Heap} (hvm : u.vm.Alike U.vm) (h : ai_stay w A u H) : ai_stay w A U H := fun U' a h1 h2 => h U' a (hvm.trans h1) h2
theorem ai_stay_kept {w : Cond} {A : Nat → Prop} {U : State} {H H1 : Heap} (hz : H.size ≤ H1.size) (h : ai_stay w A U H) (hq : ∀ a : Nat, a < H.size → ¬ A a → H1[a]? = H[a]?) : ai_stay w A U H1 := fun U' a h1 h2 => h U' a h1 (fun q h3 h4 => (h2 q (by omega) h4).trans (hq q h3 h4))
theorem ai_stay_narrow {w : Cond} {A B : Nat → Prop} {U : State} {H : Heap} (h : ai_stay w A U H) (hAB : ∀ q, B q → A q) : ai_stay w B U H := fun U' a h1 h2 => h U' a h1 (fun q h3 h4 => h2 q h3 (fun z => h4 (hAB q z)))
theorem ai_stay_here {w : Cond} {A : Nat → Prop} {U : State} {a : Array Value} (h : ai_stay w A U U.heap) : w.before a U = true := h U a (Vm.Alike.refl _) (fun _ _ _ => rfl)
/-- where a static of the machine's own lies -/
theorem ai_stay_lays {args : Array Value} {s : State} {C n d : String} {A : Nat → Prop} (h : (Cond.laysStatic C n d).before args s = true) (hA : ∀ a : Nat, a < s.heap.size → ¬ A a) : ai_stay (.laysStatic C n d) A s s.heap := by
  intro U' a hvm hq
  obtain ⟨c, k, i, f, b, cell, h1, h2, h3, h4, h5, h6, h7, h8, h9⟩ := Cond.laysStatic_spec h
  obtain ⟨k', hi', he⟩ := State.fieldFound?_setVm hvm h2
  have hb := (Array.getElem?_eq_some_iff.mp h5).1
  show (Cond.laysStatic C n d).holds a U' none U' [] = true
  exact Cond.laysStatic_of (by rw [hvm.findClass]; exact h1) hi' h3 (by rw [he]; exact h4) (by rw [hq b hb (hA b hb)]; exact h5) h6 h7 h8 (by rw [he]; exact h9)
theorem ai_isRef_of {C n d : String} {v : Value} {A : Nat → Prop} {U : State} {H : Heap} (h : va_Z C n d v A U H) (hv : v.isRef = true) : ai_stay (.isRef (.static C n d)) A U H := by
  intro U' a hvm hq
  obtain ⟨cf, kf, fi, f, b, cell, h1, h2, h3, h4, h5, h6, h7, h8⟩ := va_Z.moved hvm h
  have h5' : U'.heap[b]? = some cell := by rw [hq b (Array.getElem?_eq_some_iff.mp h5).1 h8]; exact h5
  have he : (Term.static C n d).eval a U' none [] U' = some v := by
    simp [Term.eval, State.fieldNamed?, h1, h2, h4, h5', h6, h7]
  simp only [Cond.before, Cond.holds, Cond.value, he]
  cases v <;> simp_all [Value.isRef]
theorem ai_stay_isRef {args : Array Value} {s : State} {C n d : String} {A : Nat → Prop} (hl : (Cond.laysStatic C n d).before args s = true) (hini : (Cond.initialized C).before args s = true) (h : (Cond.isRef (.static C n d)).before args s = true) (hA : ∀ a : Nat, a < s.heap.size → ¬ A a) : ai_stay (.isRef (.static C n d)) A s s.heap := by
  rcases va_Zqof hl hini h hA with h | ⟨t, h⟩
  · exact ai_isRef_of h rfl
  · exact ai_isRef_of h rfl
section AIT
variable {p : Program} {l : Launch} {e : Env} {R : Room} {s : State} {m : MethodId} {args : Array Value} {below : List Frame} {meth : Method} {c : Code} {T : State} {locs : List Loc} {cells slots : Nat}
/-- the frame as if the method had been entered with the heap as it is now -/
def ai_now (s : State) (m : MethodId) (args : Array Value) (below : List Frame) (T : State) : State := (T.setVm s.vm).setFrames (.invoking m args :: below)
theorem ai_anew (X : Stand p l e R s m args below meth c T locs cells slots) {kc ks : Nat} (hc : cells + kc ≤ R.cells) (hs : slots + ks ≤ R.slots) :
    Stand p l e { frames := R.frames, locals := R.locals, cells := kc, slots := ks } (ai_now s m args below T) m args below meth c T [] 0 0 := by
  have htop : (T.setVm s.vm).topJava?.isSome := X.here.top
  have hF : (ai_now s m args below T).frames = .invoking m args :: below := State.frames_setFrames _ (State.cur_lt_of_top htop)
  obtain ⟨g₀, hg0⟩ := Option.isSome_iff_exists.mp htop
  obtain ⟨r, hr⟩ := State.topJava?_eq_some.mp hg0
  have hl9 : e.platform.stackLimits (T.setVm s.vm).me = e.platform.stackLimits s.me := X.limits
  have hb9 : (T.setVm s.vm).me.stackBytes = s.me.stackBytes := X.bytes
  have hnil : T.heap.toList.drop T.heap.size = [] := List.drop_eq_nil_of_le (Nat.le_of_eq Array.length_toList)
  refine ⟨X.admits, X.cas, X.clock, hF, ?_, X.hears, X.method, X.code, X.here, X.tail, X.warmed, ?_, ?_, ?_⟩
  · have h := X.room
    have hU : (ai_now s m args below T).localsInUse = s.localsInUse := by
      rw [State.localsInUse_invoking hF (meth := meth) (c := c) X.method X.code, State.localsInUse_invoking X.frames X.method X.code]
    have q1 := X.heapSize
    have q2 := X.used
    unfold ai_now at hF hU ⊢
    simp only [State.hasRoom, Bool.and_eq_true, decide_eq_true_eq] at h ⊢
    obtain ⟨⟨⟨⟨h1, h2, h3, h4, h5, h6⟩, h7⟩, h8⟩, h9⟩ := h
    rw [X.frames, List.length_cons] at h2 h3
    simp only [hF, hU, List.length_cons, State.stackLimits_setFrames, State.stackBytes_setFrames, hl9, hb9]
    refine ⟨⟨⟨⟨by omega, by omega, by omega, by omega, by omega, h6⟩, ?_⟩, ?_⟩, X.book⟩
    · show T.heap.size + kc ≤ e.platform.maxCells
      omega
    · show T.slotsUsed + ks ≤ e.platform.maxSlots
      omega
  · unfold ai_now; rw [State.stackLimits_setFrames]; rfl
  · unfold ai_now; rw [State.stackBytes_setFrames]; rfl
  · refine ⟨?_, Nat.le_refl _, Nat.le_refl _, ?_, ?_, fun a c9 h9 => ⟨c9, h9, rfl, rfl, fun _ _ => rfl⟩⟩
    · obtain ⟨t, ht, -⟩ := State.frames_cons hr
      show T.setVm s.vm = { ((T.setVm s.vm).setFrames (.invoking m args :: below)).setFrames (T.setVm s.vm).frames with heap := T.heap, slotsUsed := T.slotsUsed }
      rw [State.setFrames_setFrames, State.setFrames_self ht]
      rfl
    · show T.slotsUsed = T.slotsUsed + ((T.heap.toList.drop T.heap.size).map (·.slots.size)).sum
      rw [hnil]; rfl
    · show ((T.heap.toList.drop T.heap.size).map (·.slots.size)).sum ≤ 0
      rw [hnil]; exact Nat.le_refl _
end AIT
