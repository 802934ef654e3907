/-! THE SMALL MACHINE ALONE: runs with enough steps; no step is counted any more. -/
section QPU
theorem ai_go_mono {G : ai_G} {rec rec' : Nat → List Value → ai_H → Option ai_O} {M : ai_M} (hr : ∀ mi as h o, rec mi as h = some o → rec' mi as h = some o) : ∀ (n k : Nat) (L : ai_L) (S : List Value) (h : ai_H) (o : ai_O), ai_go G rec M n k L S h = some o → ai_go G rec' M n k L S h = some o := by
  intro n
  induction n with
  | zero => intro k L S h o he; cases he
  | succ n ih =>
    intro k L S h o he
    simp only [ai_go] at he ⊢
    split at he
    · cases he
    · rename_i a b c d hk
      split at he
      · split at he
        · exact ih _ _ _ _ _ he
        · cases he
      · split at he
        · rename_i hc
          rw [if_pos hc]
          split at he
          · rename_i v h' hq
            rw [hr _ _ _ _ hq]
            exact ih _ _ _ _ _ he
          · rename_i E h' hq
            rw [hr _ _ _ _ hq]
            dsimp only
            split at he
            · split at he
              · rename_i hn; rw [if_pos hn]; exact ih _ _ _ _ _ he
              · cases he
            · exact he
          · cases he
        · cases he
      · exact he
      · split at he
        · split at he
          · rename_i hw; rw [if_pos hw]; exact ih _ _ _ _ _ he
          · cases he
        · cases he
      · split at he
        · split at he
          · rename_i hw; rw [if_pos hw]; exact ih _ _ _ _ _ he
          · cases he
        · cases he
      · exact he
      · exact he
      · exact he
      · cases he
theorem ai_run_mono {P : Nat → Option ai_M} {G : ai_G} {F : Nat} : ∀ (d mi : Nat) (as : List Value) (h : ai_H) (o : ai_O), ai_run P G F d mi as h = some o → ai_run P G F (d + 1) mi as h = some o := by
  intro d
  induction d with
  | zero => intro mi as h o he; cases he
  | succ d ih =>
    intro mi as h o he
    rw [ai_run] at he ⊢
    split at he
    · split at he
      · rename_i hok
        rw [if_pos hok]
        exact ai_go_mono ih _ _ _ _ _ _ he
      · cases he
    · cases he
theorem ai_run_up {P : Nat → Option ai_M} {G : ai_G} {F : Nat} {d d' : Nat} (hd : d ≤ d') {mi : Nat} {as : List Value} {h : ai_H} {o : ai_O} (he : ai_run P G F d mi as h = some o) : ai_run P G F d' mi as h = some o := by
  induction hd with
  | refl => exact he
  | step _ ih => exact ai_run_mono _ _ _ _ _ ih
/-- a call comes to its end so -/
def qe (L : Nat) (xs : Nat → Int32) (d mi : Nat) (as : List Value) (h : ai_H) (o : ai_O) : Prop := ∃ F0, ∀ F, F0 ≤ F → ai_run qr_P (qr_G L xs) F d mi as h = some o
/-- from this place a body comes to its end so -/
def qg (L : Nat) (xs : Nat → Int32) (d : Nat) (M : ai_M) (k : Nat) (lo : ai_L) (S : List Value) (h : ai_H) (o : ai_O) : Prop := ∃ F0 n0, ∀ F n, F0 ≤ F → n0 ≤ n → ai_go (qr_G L xs) (ai_run qr_P (qr_G L xs) F d) M n k lo S h = some o
/-- n plain steps at once -/
def ai_pl (G : ai_G) (M : ai_M) : Nat → Nat → ai_L → List Value → ai_H → Option (Nat × ai_L × List Value × ai_H)
  | 0, k, lo, S, h => some (k, lo, S, h)
  | n + 1, k, lo, S, h => match (ai_Mc M)[k]? with
    | some (_, i, _, r) => match r.1 with
      | 0 => match ai_eff G i r lo S h with
        | some (t, lo', S', h') => ai_pl G M n (if t = 0 then k + 1 else t - 1) lo' S' h'
        | none => none
      | _ => none
    | none => none
variable {L : Nat} {xs : Nat → Int32} {d : Nat} {M : ai_M} {k k' : Nat} {lo lo' : ai_L} {S S' : List Value} {h h' : ai_H} {o : ai_O}
theorem qe_up {d d' mi : Nat} {as : List Value} (hd : d ≤ d') (he : qe L xs d mi as h o) : qe L xs d' mi as h o := by
  obtain ⟨F0, hF⟩ := he
  exact ⟨F0, fun F hF0 => ai_run_up hd (hF F hF0)⟩
theorem qe_of {mi : Nat} {as : List Value} (hP : qr_P mi = some M) (hok : ai_argok as (ai_Ml M) = true) (hg : qg L xs d M 0 (as.map some ++ List.replicate (ai_Ml M - as.length) none) [] h o) : qe L xs (d + 1) mi as h o := by
  obtain ⟨F0, n0, hF⟩ := hg
  refine ⟨max F0 n0, fun F hF0 => ?_⟩
  rw [ai_run, hP]
  dsimp only
  rw [if_pos hok]
  exact hF F F (by omega) (by omega)
theorem qg_pls {n : Nat} (e : ai_pl (qr_G L xs) M n k lo S h = some (k', lo', S', h')) (hg : qg L xs d M k' lo' S' h' o) : qg L xs d M k lo S h o := by
  induction n generalizing k lo S h with
  | zero => cases e; exact hg
  | succ n ih =>
    simp only [ai_pl] at e
    split at e
    · rename_i pc i len r hk
      split at e
      · rename_i h0
        split at e
        · rename_i t lo1 S1 h1 heff
          obtain ⟨F0, n0, hF⟩ := ih e
          refine ⟨F0, n0 + 1, fun F n hF0 hn => ?_⟩
          obtain ⟨n, rfl⟩ : ∃ m, n = m + 1 := ⟨n - 1, by omega⟩
          simp only [ai_go, hk, h0, heff]
          exact hF F n hF0 (by omega)
        · cases e
      · cases e
    · cases e
/-- one plain step whose effect is known -/
theorem qg_eff {pc len : Nat} {i : Instr} {rs : List Int} {nm : String} {t : Nat} (hk : (ai_Mc M)[k]? = some (pc, i, len, 0, rs, nm)) (he : ai_eff (qr_G L xs) i (0, rs, nm) lo S h = some (t, lo', S', h')) (hk' : (if t = 0 then k + 1 else t - 1) = k') (hg : qg L xs d M k' lo' S' h' o) : qg L xs d M k lo S h o := by
  refine qg_pls (n := 1) (k' := k') (lo' := lo') (S' := S') (h' := h') ?_ hg
  simp only [ai_pl, hk, he, hk']
/-- a call that answers -/
theorem qg_call {pc len n mi : Nat} {i : Instr} {rs : List Int} {nm : String} {as S0 : List Value} {v : Option Value} (hk : (ai_Mc M)[k]? = some (pc, i, len, 1, rs, nm)) (hmi : (ai_nth (1, rs, nm) 0).toNat = mi) (hn : (ai_nth (1, rs, nm) 1).toNat = n) (has : (S.take n).reverse = as) (hS0 : S.drop n = S0) (hw : Nat.ble (ai_wt S0) 8 = true) (hle : Nat.ble n S.length = true)
    (hrc : ai_rcv (qr_Z L xs) (1, rs, nm) as.head? h = true) (he : qe L xs d mi as h (.inl v, h')) (hg : qg L xs d M (k + 1) lo (v.toList ++ S0) h' o) : qg L xs d M k lo S h o := by
  obtain ⟨F1, h1⟩ := he
  obtain ⟨F0, n0, hF⟩ := hg
  refine ⟨max F0 F1, n0 + 1, fun F n1 hF0 hn1 => ?_⟩
  obtain ⟨n1, rfl⟩ : ∃ m, n1 = m + 1 := ⟨n1 - 1, by omega⟩
  subst hmi hn hS0 has
  simp only [ai_go, hk]
  rw [if_pos ⟨Nat.le_of_ble_eq_true hw, Nat.le_of_ble_eq_true hle, hrc⟩, h1 F (by omega)]
  exact hF F n1 (by omega) (by omega)
/-- a call that throws, and nobody here catches it -/
theorem qg_callT {pc len n mi : Nat} {i : Instr} {rs : List Int} {nm : String} {as S0 : List Value} {E : String} (hk : (ai_Mc M)[k]? = some (pc, i, len, 1, rs, nm)) (hmi : (ai_nth (1, rs, nm) 0).toNat = mi) (hn : (ai_nth (1, rs, nm) 1).toNat = n) (has : (S.take n).reverse = as) (hS0 : S.drop n = S0) (hw : Nat.ble (ai_wt S0) 8 = true) (hle : Nat.ble n S.length = true)
    (hrc : ai_rcv (qr_Z L xs) (1, rs, nm) as.head? h = true) (hx : ai_catch (ai_Mh M) k = none) (he : qe L xs d mi as h (.inr E, h')) : qg L xs d M k lo S h (.inr E, h') := by
  obtain ⟨F1, h1⟩ := he
  refine ⟨F1, 1, fun F n1 hF0 hn1 => ?_⟩
  obtain ⟨n1, rfl⟩ : ∃ m, n1 = m + 1 := ⟨n1 - 1, by omega⟩
  subst hmi hn hS0 has
  simp only [ai_go, hk]
  rw [if_pos ⟨Nat.le_of_ble_eq_true hw, Nat.le_of_ble_eq_true hle, hrc⟩, h1 F (by omega)]
  simp only [hx]
/-- a call that throws, and it is caught here -/
theorem qg_callH {pc len n mi t : Nat} {i : Instr} {rs : List Int} {nm : String} {as S0 : List Value} {E : String} (hk : (ai_Mc M)[k]? = some (pc, i, len, 1, rs, nm)) (hmi : (ai_nth (1, rs, nm) 0).toNat = mi) (hn : (ai_nth (1, rs, nm) 1).toNat = n) (has : (S.take n).reverse = as) (hS0 : S.drop n = S0) (hw : Nat.ble (ai_wt S0) 8 = true) (hle : Nat.ble n S.length = true)
    (hrc : ai_rcv (qr_Z L xs) (1, rs, nm) as.head? h = true) (hx : ai_catch (ai_Mh M) k = some (t, E)) (he : qe L xs d mi as h (.inr E, h')) (hg : qg L xs d M t lo [.float 0] h' o) : qg L xs d M k lo S h o := by
  obtain ⟨F1, h1⟩ := he
  obtain ⟨F0, n0, hF⟩ := hg
  refine ⟨max F0 F1, n0 + 1, fun F n1 hF0 hn1 => ?_⟩
  obtain ⟨n1, rfl⟩ : ∃ m, n1 = m + 1 := ⟨n1 - 1, by omega⟩
  subst hmi hn hS0 has
  simp only [ai_go, hk]
  rw [if_pos ⟨Nat.le_of_ble_eq_true hw, Nat.le_of_ble_eq_true hle, hrc⟩, h1 F (by omega)]
  simp only [hx, if_pos]
  exact hF F n1 (by omega) (by omega)
theorem qg_throw {pc len : Nat} {i : Instr} {rs : List Int} {nm : String} (hk : (ai_Mc M)[k]? = some (pc, i, len, 2, rs, nm)) (hx : (ai_Mh M).isEmpty = true) (hw : Nat.ble (ai_wt S) 8 = true) : qg L xs d M k lo S h (.inr nm, h.1, h.2.1 + 1, h.2.2 + 6) := by
  refine ⟨0, 1, fun F n1 hF0 hn1 => ?_⟩
  obtain ⟨n1, rfl⟩ : ∃ m, n1 = m + 1 := ⟨n1 - 1, by omega⟩
  simp only [ai_go, hk]
  rw [if_pos ⟨hx, Nat.le_of_ble_eq_true hw⟩]
theorem qg_obj {pc len a : Nat} {i : Instr} {rs : List Int} {nm : String} (hk : (ai_Mc M)[k]? = some (pc, i, len, 3, rs, nm)) (hw : Nat.ble (ai_wt S) 8 = true) (hg : qg L xs d M (k + 1) lo S h o) : qg L xs d M k lo (.ref a :: S) h o := by
  obtain ⟨F0, n0, hF⟩ := hg
  refine ⟨F0, n0 + 1, fun F n1 hF0 hn1 => ?_⟩
  obtain ⟨n1, rfl⟩ : ∃ m, n1 = m + 1 := ⟨n1 - 1, by omega⟩
  simp only [ai_go, hk]
  rw [if_pos (Nat.le_of_ble_eq_true hw)]
  exact hF F n1 (by omega) (by omega)
theorem qg_cpy {pc len : Nat} {i : Instr} {rs : List Int} {nm : String} (hk : (ai_Mc M)[k]? = some (pc, i, len, 4, rs, nm)) (he : ai_copy S h = some (S', h')) (hw : Nat.ble (ai_wt S') 8 = true) (hg : qg L xs d M (k + 1) lo S' h' o) : qg L xs d M k lo S h o := by
  obtain ⟨F0, n0, hF⟩ := hg
  refine ⟨F0, n0 + 1, fun F n1 hF0 hn1 => ?_⟩
  obtain ⟨n1, rfl⟩ : ∃ m, n1 = m + 1 := ⟨n1 - 1, by omega⟩
  simp only [ai_go, hk]
  simp only [he]
  rw [if_pos (Nat.le_of_ble_eq_true hw)]
  exact hF F n1 (by omega) (by omega)
theorem qg_ret5 {pc len : Nat} {i : Instr} {rs : List Int} {nm : String} {x : Int32} {ty : FieldType} (hk : (ai_Mc M)[k]? = some (pc, i, len, 5, rs, nm)) (hr : ai_Mr M = some ty) (hn : narrow ty (.int x) = .int x) : qg L xs d M k lo [.int x] h (.inl (some (.int x)), h) := by
  refine ⟨0, 1, fun F n1 hF0 hn1 => ?_⟩
  obtain ⟨n1, rfl⟩ : ∃ m, n1 = m + 1 := ⟨n1 - 1, by omega⟩
  simp only [ai_go, hk]
  simp only [hr]
  rw [if_pos hn]
theorem qg_ret6 {pc len : Nat} {i : Instr} {rs : List Int} {nm : String} {v : Value} (hk : (ai_Mc M)[k]? = some (pc, i, len, 6, rs, nm)) (hn : (ai_nul v).isSome = true) : qg L xs d M k lo [v] h (.inl (some v), h) := by
  refine ⟨0, 1, fun F n1 hF0 hn1 => ?_⟩
  obtain ⟨n1, rfl⟩ : ∃ m, n1 = m + 1 := ⟨n1 - 1, by omega⟩
  simp only [ai_go, hk]
  rw [if_pos hn]
theorem qg_ret7 {pc len : Nat} {i : Instr} {rs : List Int} {nm : String} (hk : (ai_Mc M)[k]? = some (pc, i, len, 7, rs, nm)) : qg L xs d M k lo [] h (.inl none, h) := by
  refine ⟨0, 1, fun F n1 hF0 hn1 => ?_⟩
  obtain ⟨n1, rfl⟩ : ∃ m, n1 = m + 1 := ⟨n1 - 1, by omega⟩
  simp only [ai_go, hk]
/-! branches: b says whether it jumps -/
theorem qg_if {pc len : Nat} {c : Jvm.ClassFile.Cond} {off : Int} {rs : List Int} {nm : String} {x : Int32} (b : Bool) (hk : (ai_Mc M)[k]? = some (pc, .ifCond c off, len, 0, rs, nm)) (hb : ai_cmp c x 0 = b) (hk' : (if b = true then ai_tgt (0, rs, nm) else k + 1) = k') (hg : qg L xs d M k' lo S h o) : qg L xs d M k lo (.int x :: S) h o := by
  refine qg_eff (t := if b then ai_tgt (0, rs, nm) + 1 else 0) (lo' := lo) (S' := S) (h' := h) (k' := k') hk ?_ ?_ hg
  · simp only [ai_eff, ai_jump, hb]
  · cases b
    · exact hk'
    · exact hk'
theorem qg_icmp {pc len : Nat} {c : Jvm.ClassFile.Cond} {off : Int} {rs : List Int} {nm : String} {x y : Int32} (b : Bool) (hk : (ai_Mc M)[k]? = some (pc, .if_icmp c off, len, 0, rs, nm)) (hb : ai_cmp c x y = b) (hk' : (if b = true then ai_tgt (0, rs, nm) else k + 1) = k') (hg : qg L xs d M k' lo S h o) : qg L xs d M k lo (.int y :: .int x :: S) h o := by
  refine qg_eff (t := if b then ai_tgt (0, rs, nm) + 1 else 0) (lo' := lo) (S' := S) (h' := h) (k' := k') hk ?_ ?_ hg
  · simp only [ai_eff, ai_jump, hb]
  · cases b
    · exact hk'
    · exact hk'
/-- two constants of one class -/
theorem qg_acmp {pc len : Nat} {c : ACond} {off : Int} {rs : List Int} {nm : String} {x y : Nat} (b : Bool) (hk : (ai_Mc M)[k]? = some (pc, .if_acmp c off, len, 0, rs, nm)) (hz : ai_zk (qr_Z L xs) (.retAddr x) (.retAddr y) = true) (hb : ai_ac c (decide (x = y)) = b) (hk' : (if b = true then ai_tgt (0, rs, nm) else k + 1) = k') (hg : qg L xs d M k' lo S h o) : qg L xs d M k lo (.retAddr y :: .retAddr x :: S) h o := by
  refine qg_eff (t := if b then ai_tgt (0, rs, nm) + 1 else 0) (lo' := lo) (S' := S) (h' := h) (k' := k') hk ?_ ?_ hg
  · simp only [ai_eff, ai_same]
    rw [if_pos (show ai_zk (qr_G L xs).1 (.retAddr x) (.retAddr y) = true from hz)]
    simp only [ai_jump, hb]
  · cases b
    · exact hk'
    · exact hk'
/-- the receiver is an object of its class -/
theorem ai_rcv1 {Z : ai_S} {rs : List Int} {nm : String} {v : Value} {ci : Nat} {fs : List Value} (h2 : ai_nth (1, rs, nm) 2 = 1) (h3 : ai_nth (1, rs, nm) 3 = (ci : Int)) (hl : ai_look Z h.1 v = some (ai_obj ci fs)) : ai_rcv Z (1, rs, nm) (some v) h = true := by
  unfold ai_rcv
  rw [h2]
  show (match ai_look Z h.1 v with
      | some (.inr (.inr (.inr (ci, _)))) => decide ((ci : Int) = ai_nth (1, rs, nm) 3)
      | _ => false) = true
  rw [hl]
  exact decide_eq_true h3.symm
/-! memory -/
theorem qg_getf {pc len : Nat} {idx : Nat} {rs : List Int} {nm : String} {a v : Value} {ci f : Nat} {fs : List Value} (hk : (ai_Mc M)[k]? = some (pc, .getfield idx, len, 0, rs, nm)) (hl : ai_look (qr_Z L xs) h.1 a = some (ai_obj ci fs)) (h0 : (ai_nth (0, rs, nm) 0).toNat = ci) (h1 : (ai_nth (0, rs, nm) 1).toNat = f) (hv : fs[f]? = some v) (hg : qg L xs d M (k + 1) lo (v :: S) h o) : qg L xs d M k lo (a :: S) h o := by
  refine qg_eff (t := 0) (lo' := lo) (S' := v :: S) (h' := h) hk ?_ rfl hg
  subst h0 h1
  simp only [ai_eff, ai_getf]
  rw [show ai_look (qr_G L xs).1 h.1 a = _ from hl]
  dsimp only
  rw [hv]
  simp
theorem qg_putf {pc len : Nat} {idx : Nat} {rs : List Int} {nm : String} {a : Nat} {v : Value} {ci f : Nat} {fs : List Value} (hk : (ai_Mc M)[k]? = some (pc, .putfield idx, len, 0, rs, nm)) (hl : h.1[a]? = some (ai_obj ci fs)) (h0 : (ai_nth (0, rs, nm) 0).toNat = ci) (h1 : (ai_nth (0, rs, nm) 1).toNat = f) (hv : f < fs.length) (hfit : ai_fit (qr_ty ci f) v = true) (hg : qg L xs d M (k + 1) lo S (h.1.set a (ai_obj ci (fs.set f v)), h.2) o) : qg L xs d M k lo (v :: .ref a :: S) h o := by
  refine qg_eff (t := 0) (lo' := lo) (S' := S) (h' := (h.1.set a (ai_obj ci (fs.set f v)), h.2)) hk ?_ rfl hg
  subst h0 h1
  simp only [ai_eff, ai_putf]
  rw [hl]
  dsimp only
  rw [if_pos ⟨by trivial, hv, hfit⟩]
theorem qg_ald {pc len : Nat} {i : Instr} {rs : List Int} {nm : String} {a : Value} {ty : FieldType} {j n : Nat} {f : Nat → Int32} (hk : (ai_Mc M)[k]? = some (pc, i, len, 0, rs, nm)) (hi : ∀ lo S h, ai_eff (qr_G L xs) i (0, rs, nm) lo S h = ai_ald (qr_Z L xs) ty lo S h) (hl : ai_look (qr_Z L xs) h.1 a = some (ai_num ty n f)) (hj : j < n) (hn : n < 2 ^ 31) (hg : qg L xs d M (k + 1) lo (.int (f j) :: S) h o) : qg L xs d M k lo (.int (nI j) :: a :: S) h o := by
  refine qg_eff (t := 0) (lo' := lo) (S' := .int (f j) :: S) (h' := h) hk ?_ rfl hg
  rw [hi]
  simp only [ai_ald, hl]
  rw [if_pos ⟨by trivial, nI_pos (by omega), by rw [nI_clamp (by omega)]; exact hj⟩, nI_clamp (by omega)]
theorem qg_ast {pc len : Nat} {i : Instr} {rs : List Int} {nm : String} {a : Nat} {ty : FieldType} {nar : Int32 → Int32} {j n : Nat} {x : Int32} {f : Nat → Int32} (hk : (ai_Mc M)[k]? = some (pc, i, len, 0, rs, nm)) (hi : ∀ lo S h, ai_eff (qr_G L xs) i (0, rs, nm) lo S h = ai_ast ty nar lo S h) (hl : h.1[a]? = some (ai_num ty n f)) (hj : j < n) (hn : n < 2 ^ 31) (hg : qg L xs d M (k + 1) lo S (h.1.set a (ai_num ty n (upd f j (nar x))), h.2) o) : qg L xs d M k lo (.int x :: .int (nI j) :: .ref a :: S) h o := by
  refine qg_eff (t := 0) (lo' := lo) (S' := S) (h' := (h.1.set a (ai_num ty n (upd f j (nar x))), h.2)) hk ?_ rfl hg
  rw [hi]
  simp only [ai_ast, hl]
  rw [if_pos ⟨by trivial, nI_pos (by omega), by rw [nI_clamp (by omega)]; exact hj⟩, nI_clamp (by omega)]
theorem qg_alen {pc len : Nat} {rs : List Int} {nm : String} {a : Value} {ty : FieldType} {n : Nat} {f : Nat → Int32} (hk : (ai_Mc M)[k]? = some (pc, .arraylength, len, 0, rs, nm)) (hl : ai_look (qr_Z L xs) h.1 a = some (ai_num ty n f)) (hg : qg L xs d M (k + 1) lo (.int (nI n) :: S) h o) : qg L xs d M k lo (a :: S) h o := by
  refine qg_eff (t := 0) (lo' := lo) (S' := .int (nI n) :: S) (h' := h) hk ?_ rfl hg
  simp only [ai_eff, ai_alen]
  rw [show ai_look (qr_G L xs).1 h.1 a = _ from hl]
  rfl
end QPU
