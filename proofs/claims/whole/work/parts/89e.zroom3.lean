/-! THERE IS ALWAYS ROOM: expressions. (Printed by wip/whole/pp.py from wip/whole/src.) -/
section ZRX
variable {e : zE} {s s' : zS} {o w a lo mp l0 : Nat} {f g c ex qy pr : zP}
def zO (e : zE) (o w : Nat) (f : zP) : Prop := ∀ a, 8 ≤ a → ∀ s, zG e o w a s → ∃ v s', f s = some (v, s') ∧ (∀ x ∈ s'.2.2.2.2, zb x = x) ∧ ∀ x, v = some x → zG e o w a s' ∧ (x ≠ 0 → s.2.2.2.2.length + 2 ≤ s'.2.2.2.2.length)
theorem zO_V (h : zO e o w f) : zV e o w o w f := by
  intro a ha s hs
  obtain ⟨v, s', k1, k2, k3⟩ := h a ha s hs
  exact ⟨v, s', k1, k2, fun x hx => (k3 x hx).1⟩
theorem zO_40 (h : o ≤ 40 → zO e o w f) : zO e o w f := fun a ha s hs => h hs.2.2.2.2.1 a ha s hs
/-- what waits: ranks fall from the newest on, prefixes apart; it begins further and further back -/
def zlo (lo mp l0 : Nat) : Nat → Nat → zK → Prop
  | _, _, [] => True
  | h, st, q :: p => l0 ≤ q.1 ∧ q.1 ≤ st ∧ ((q.2 = mp ∧ zlo lo mp l0 h q.1 p) ∨ (lo ≤ q.2 ∧ q.2 < h ∧ q.2 < mp ∧ zlo lo mp l0 q.2 q.1 p))
def zct (mp : Nat) : zK → Nat
  | [] => 0
  | q :: p => (if q.2 = mp then 1 else 0) + zct mp p
theorem zlo_st {h st st' : Nat} {p : zK} (hz : zlo lo mp l0 h st p) (hs : st ≤ st') : zlo lo mp l0 h st' p := by
  cases p with
  | nil => trivial
  | cons q p => exact ⟨hz.1, Nat.le_trans hz.2.1 hs, hz.2.2⟩
theorem zlo_len : ∀ (p : zK) (h st : Nat), zlo lo mp l0 h st p → p.length ≤ (h - lo) + zct mp p := by
  intro p
  induction p with
  | nil => intro h st _; exact Nat.zero_le _
  | cons q p ih =>
    intro h st hz
    rcases hz.2.2 with ⟨k1, k2⟩ | ⟨k1, k2, k3, k4⟩
    · have := ih _ _ k2
      show p.length + 1 ≤ (h - lo) + ((if q.2 = mp then 1 else 0) + zct mp p)
      rw [if_pos k1]; omega
    · have := ih _ _ k4
      show p.length + 1 ≤ (h - lo) + ((if q.2 = mp then 1 else 0) + zct mp p)
      omega
theorem zt8 : (zt 1008).length = 1 := rfl
theorem zt5 : (zt 1005).length = 1 := rfl
theorem zcb_m (hE : zge e) (hlm : (lo = 5 ∧ mp = 8) ∨ (lo = 1 ∧ mp = 3)) {nx : Nat} (hnx : nx ≤ mp) : ∀ (p : zK) (h st ma : Nat) (s : zS), zlo lo mp l0 h st p → zG e (o + zct mp p) (w + p.length) a s → l0 ≤ st → st ≤ s.2.2.2.2.length → (ma ≠ 0 → st + 2 ≤ s.2.2.2.2.length) → ∃ p' st' ma' s', zcb nx p st ma s = some (some (p', st', ma'), s') ∧ zlo lo mp l0 nx st' p' ∧ (nx = 0 → p' = []) ∧ zG e (o + zct mp p') (w + p'.length) a s' ∧ l0 ≤ st' ∧ st' ≤ s'.2.2.2.2.length ∧ (ma' ≠ 0 → st' + 2 ≤ s'.2.2.2.2.length) := by
  intro p
  induction p with
  | nil => intro h st ma s hz hg h1 h2 h3; exact ⟨[], st, ma, s, rfl, trivial, fun _ => rfl, hg, h1, h2, h3⟩
  | cons q p ih =>
    intro h st ma s hz hg h1 h2 h3
    obtain ⟨i, op, mx, ww, P⟩ := s
    obtain ⟨g1, g2, g3, g4, g5, g6⟩ := hg
    have g1 : op = o + zct mp (q :: p) := g1
    have g2 : ww = w + (p.length + 1) := g2
    have g3 : P.length + 2 * (w + (p.length + 1)) + a ≤ 8 * zfr e i := g3
    have h2 : st ≤ P.length := h2
    have hf := hE.2.2.1 i
    simp only [zcb]
    by_cases hq : nx ≤ q.2
    · rw [if_pos hq]
      unfold zpop
      rw [if_neg (by show ¬ ww = 0; omega), zbd_some]
      unfold zput
      have hz8 := zt8
      rw [if_neg (by show ¬ 524288 < P.length + (zt 1008).length + 1; omega), zbd_some]
      have hlen : (P ++ zt 1008 ++ [32]).length = P.length + 2 := by
        rw [List.length_append, List.length_append]; rfl
      have hb : ∀ x ∈ P ++ zt 1008 ++ [32], zb x = x := zG_by (e := e) (s := (i, op, mx, ww, P)) ⟨g1, g2, g3, g4, g5, g6⟩ (zt_b _ (by decide))
      have hc : zct mp (q :: p) = (if q.2 = mp then 1 else 0) + zct mp p := rfl
      rcases hz.2.2 with ⟨k1, k2⟩ | ⟨k1, k2, k3, k4⟩
      · rw [if_pos k1] at hc
        rw [if_pos (by omega)]
        unfold zdown
        rw [if_neg (by show ¬ op = 0; omega), zbd_some]
        exact ih h q.1 q.2 (i, op - 1, mx, ww - 1, P ++ zt 1008 ++ [32]) k2 ⟨by show op - 1 = _; omega, by show ww - 1 = _; omega, by show (P ++ zt 1008 ++ [32]).length + _ + a ≤ 8 * zfr e i; omega, g4, by omega, hb⟩ hz.1 (by show q.1 ≤ (P ++ zt 1008 ++ [32]).length; have := hz.2.1; omega) (fun _ => by show q.1 + 2 ≤ (P ++ zt 1008 ++ [32]).length; have := hz.2.1; omega)
      · rw [if_neg (by omega)] at hc
        rw [if_neg (by omega)]
        unfold zv
        rw [zbd_some]
        exact ih q.2 q.1 q.2 (i, op, mx, ww - 1, P ++ zt 1008 ++ [32]) k4 ⟨by show op = _; omega, by show ww - 1 = _; omega, by show (P ++ zt 1008 ++ [32]).length + _ + a ≤ 8 * zfr e i; omega, g4, by omega, hb⟩ hz.1 (by show q.1 ≤ (P ++ zt 1008 ++ [32]).length; have := hz.2.1; omega) (fun _ => by show q.1 + 2 ≤ (P ++ zt 1008 ++ [32]).length; have := hz.2.1; omega)
    · rw [if_neg hq]
      refine ⟨q :: p, st, ma, _, rfl, ⟨hz.1, hz.2.1, ?_⟩, fun q0 => by omega, ⟨g1, g2, g3, g4, g5, g6⟩, h1, h2, h3⟩
      rcases hz.2.2 with ⟨k1, k2⟩ | ⟨k1, k2, k3, k4⟩
      · omega
      · exact Or.inr ⟨k1, by omega, k3, k4⟩
theorem zcomb_m (hE : zge e) (hlm : (lo = 5 ∧ mp = 8) ∨ (lo = 1 ∧ mp = 3)) {nx : Nat} (hnx : nx = 0 ∨ (lo ≤ nx ∧ nx < mp)) (ha : 8 ≤ a) (hw : w + (mp - lo) ≤ 7 * o + 6) {p : zK} {h st ma : Nat} (hz : zlo lo mp l0 h st p) (hg : zG e (o + zct mp p) (w + p.length) a s) (h1 : l0 ≤ st) (h2 : st ≤ s.2.2.2.2.length) (h3 : ma ≠ 0 → st + 2 ≤ s.2.2.2.2.length) : ∃ p' ma' s', zcomb nx st ma p s = some (some (p', ma'), s') ∧ (nx = 0 → zG e o w a s' ∧ (ma' ≠ 0 → l0 + 2 ≤ s'.2.2.2.2.length)) ∧ (nx ≠ 0 → zlo lo mp l0 mp s'.2.2.2.2.length p' ∧ zG e (o + zct mp p') (w + p'.length) (a - 4) s') := by
  obtain ⟨p', st', ma', s1, c1, c2, c3, c4, c5, c6, c7⟩ := zcb_m (nx := nx) hE hlm (by omega) p h st ma s hz hg h1 h2 h3
  unfold zcomb
  rw [c1, zbd_some]
  by_cases h0 : nx = 0
  · rw [if_pos h0]
    have e0 := c3 h0
    subst e0
    exact ⟨[], ma', s1, rfl, fun _ => ⟨c4, fun q => by have := c7 q; omega⟩, fun q => absurd h0 q⟩
  · rw [if_neg h0]
    obtain ⟨i, op, mx, ww, P⟩ := s1
    obtain ⟨g1, g2, g3, g4, g5, g6⟩ := c4
    have g1 : op = o + zct mp p' := g1
    have g2 : ww = w + p'.length := g2
    have g3 : P.length + 2 * (w + p'.length) + a ≤ 8 * zfr e i := g3
    have c6 : st' ≤ P.length := c6
    have c7 : ma' ≠ 0 → st' + 2 ≤ P.length := c7
    have hf := hE.2.2.1 i
    have hl := zlo_len _ _ _ c2
    have hc : zct mp ((st', nx) :: p') = zct mp p' := by
      show (if nx = mp then 1 else 0) + zct mp p' = _
      rw [if_neg (by omega)]; omega
    unfold zpush
    rw [if_neg (by show ¬ 300 ≤ ww; omega), zbd_some]
    by_cases hm : ma' = nx
    · rw [if_pos hm]
      have := c7 (by omega)
      unfold zreopen
      rw [if_neg (by show ¬ P.length < 2; omega), zbd_some]
      have hlen : (P.take (P.length - 2)).length = P.length - 2 := by rw [List.length_take]; omega
      refine ⟨(st', nx) :: p', ma', _, rfl, fun q => absurd q h0, fun _ => ⟨⟨c5, ?_, Or.inr ⟨by omega, by omega, by omega, c2⟩⟩, by show op = _; omega, by show ww + 1 = w + (p'.length + 1); omega, ?_, g4, by omega, fun x hx => g6 x (List.mem_of_mem_take hx)⟩⟩
      · show st' ≤ (P.take (P.length - 2)).length
        omega
      · show (P.take (P.length - 2)).length + 2 * (w + (p'.length + 1)) + (a - 4) ≤ 8 * zfr e i
        omega
    · rw [if_neg hm]
      unfold zopen
      rw [if_neg (by show ¬ (P.length < st' ∨ 524288 < P.length + 2); omega), zbd_some]
      have hlen : (P.take st' ++ [40, 32] ++ P.drop st').length = P.length + 2 := by
        simp only [List.length_append, List.length_take, List.length_drop, List.length_cons, List.length_nil]; omega
      refine ⟨(st', nx) :: p', ma', _, rfl, fun q => absurd q h0, fun _ => ⟨⟨c5, ?_, Or.inr ⟨by omega, by omega, by omega, c2⟩⟩, by show op = _; omega, by show ww + 1 = w + (p'.length + 1); omega, ?_, g4, by omega, ?_⟩⟩
      · show st' ≤ (P.take st' ++ [40, 32] ++ P.drop st').length
        omega
      · show (P.take st' ++ [40, 32] ++ P.drop st').length + 2 * (w + (p'.length + 1)) + (a - 4) ≤ 8 * zfr e i
        omega
      · intro x hx
        have hx : x ∈ P.take st' ++ [40, 32] ++ P.drop st' := hx
        rw [List.mem_append, List.mem_append] at hx
        rcases hx with (hx | hx) | hx
        · exact g6 x (List.mem_of_mem_take hx)
        · rcases List.mem_cons.mp hx with q | q
          · rw [q]; decide
          · rw [List.mem_singleton.mp q]; decide
        · exact g6 x (List.mem_of_mem_drop hx)
theorem zpre_m (hE : zge e) (hlm : (lo = 5 ∧ mp = 8) ∨ (lo = 1 ∧ mp = 3)) (ha : 8 ≤ a) (hw : w + (mp - lo) ≤ 7 * o + 6) {k : Nat} (hk : zoB k = true) : ∀ (n : Nat) (p : zK) (s : zS), 40 < n + (o + zct mp p) → zlo lo mp l0 mp s.2.2.2.2.length p → zG e (o + zct mp p) (w + p.length) a s → l0 ≤ s.2.2.2.2.length → ∃ v s', zpre e k mp n p s = some (v, s') ∧ (∀ x ∈ s'.2.2.2.2, zb x = x) ∧ ∀ p', v = some p' → zlo lo mp l0 mp s'.2.2.2.2.length p' ∧ zG e (o + zct mp p') (w + p'.length) a s' := by
  intro n
  induction n with
  | zero => intro p s hn hz hg; have := hg.2.2.2.2.1; omega
  | succ n ih =>
    intro p s hn hz hg hl0
    obtain ⟨i, op, mx, ww, P⟩ := s
    obtain ⟨g1, g2, g3, g4, g5, g6⟩ := hg
    have g1 : op = o + zct mp p := g1
    have g2 : ww = w + p.length := g2
    have g3 : P.length + 2 * (w + p.length) + a ≤ 8 * zfr e i := g3
    have hf := hE.2.2.1 i
    simp only [zpre]
    by_cases ht : ztk e i = k
    · rw [if_pos ht]
      unfold zrise
      by_cases h40 : 40 ≤ op
      · rw [if_pos (by exact h40)]
        exact ⟨none, _, rfl, g6, fun _ q => by cases q⟩
      · rw [if_neg (by exact h40), zbd_some]
        have hl := zlo_len _ _ _ hz
        unfold zpush
        rw [if_neg (by show ¬ 300 ≤ ww; omega), zbd_some]
        have hz5 := zt5
        have hp5 : ∀ s0 : zS, s0.2.2.2.2 = P → zput (zt 1005) s0 = some (some 0, (s0.1, s0.2.1, s0.2.2.1, s0.2.2.2.1, P ++ zt 1005 ++ [32])) := by
          intro s0 q
          unfold zput
          rw [q, if_neg (by omega)]
        rw [hp5 _ rfl, zbd_some]
        have hlen : (P ++ zt 1005 ++ [32]).length = P.length + 2 := by
          rw [List.length_append, List.length_append]; rfl
        have hb : ∀ x ∈ P ++ zt 1005 ++ [32], zb x = x := zG_by (e := e) (s := (i, op, mx, ww, P)) ⟨g1, g2, g3, g4, g5, g6⟩ (zt_b _ (by decide))
        obtain ⟨hk1, hk9⟩ := zoB_o hk
        have hct : zct mp ((P.length, mp) :: p) = 1 + zct mp p := by
          show (if mp = mp then 1 else 0) + zct mp p = _
          rw [if_pos rfl]
        have hg2 : zG e (o + zct mp ((P.length, mp) :: p)) (w + ((P.length, mp) :: p).length) (a - 4) (i, op + 1, max mx (op + 1), ww + 1, P ++ zt 1005 ++ [32]) := ⟨by show op + 1 = _; omega, by show ww + 1 = w + (p.length + 1); omega, by show (P ++ zt 1005 ++ [32]).length + 2 * (w + (p.length + 1)) + (a - 4) ≤ 8 * zfr e i; omega, g4, by omega, hb⟩
        obtain ⟨s5, k1, -, k2, k3⟩ := zM_tok (u := zw k) hE hg2 (by show zor (ztk e i); rw [ht]; exact hk1) (zw_b hk9) (by have := hE.2.2.2.2.2 i (by omega); rw [ht] at this; exact this)
        have k1 : zbd (zput (zw k) (i, op + 1, max mx (op + 1), ww + 1, P ++ zt 1005 ++ [32])) (fun _ s => zstep e s) = some (some 0, s5) := k1
        rcases zbd_inv k1 with ⟨-, q⟩ | ⟨b1, s3, q1, q2⟩
        · cases q
        rw [q1, zbd_some, q2, zbd_some]
        have hl5 : P.length + 2 ≤ s5.2.2.2.2.length := by
          have k4 : s5.2.2.2.2.length = ((P ++ zt 1005 ++ [32]) ++ zw k ++ [32]).length := congrArg List.length k3
          rw [List.length_append, List.length_append] at k4
          omega
        refine ih ((P.length, mp) :: p) s5 (by omega) ⟨hl0, by show P.length ≤ _; omega, Or.inl ⟨rfl, hz⟩⟩ (zG_le k2 (by omega)) ?_
        have hl0 : l0 ≤ P.length := hl0
        omega
    · rw [if_neg ht]
      exact ⟨some p, _, rfl, g6, fun p' q => by cases q; exact ⟨hz, g1, g2, g3, g4, g5, g6⟩⟩
end ZRX
