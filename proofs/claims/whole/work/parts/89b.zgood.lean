/-! THERE IS ALWAYS ROOM: the tokens' facts, and the potential. (Printed by wip/whole/pp.py from wip/whole/src.) -/
section ZGD
variable {e : zE} {s s' : zS} {t : List Int32}
def zge (e : zE) : Prop := (∀ i, ztk e i < 104) ∧ e.1.length ≤ 65537 ∧ (∀ i, zfr e i ≤ zto e i ∧ zto e i ≤ 65536) ∧ (∀ i, ¬ (ztk e i = 102 ∨ ztk e i = 103) → i + 1 < e.1.length ∧ zfr e i < zto e i ∧ zto e i ≤ zfr e (i + 1)) ∧ (∀ x ∈ e.2, zb x = x) ∧ (∀ i, ztk e i < 99 → (zw (ztk e i)).length ≤ zto e i - zfr e i)
theorem zstr_k : ∀ (m i n : Nat), (zstr t m i n).1 = 103 ∨ (zstr t m i n).1 = 101 := by
  intro m
  induction m using Nat.strongRecOn with
  | _ m ih =>
    intro i n
    cases m with
    | zero => exact Or.inl rfl
    | succ m =>
      by_cases h1 : zat t i = 39
      · by_cases h2 : zat t (i + 1) = 39
        · cases m with
          | zero => left; simp only [zstr]; rw [if_pos h1, if_pos h2]
          | succ m => rw [zstr_2 h1 h2]; exact ih m (by omega) _ _
        · rw [zstr_1 h1 h2]
          by_cases h3 : 200 < n
          · left; show (if 200 < n then 103 else 101) = 103; rw [if_pos h3]
          · right; show (if 200 < n then 103 else 101) = 101; rw [if_neg h3]
      · by_cases h2 : zat t i < 32 ∨ 126 < zat t i
        · rw [zstr_3 h1 h2]; exact Or.inl rfl
        · rw [zstr_4 h1 h2]; exact ih m (by omega) _ _
theorem zone_k (a : Int32) : zone a = 103 ∨ (zone a < 99 ∧ (zw (zone a)).length ≤ 1) := by
  unfold zone
  split
  · right; decide +kernel
  split
  · right; decide +kernel
  split
  · right; decide +kernel
  split
  · right; decide +kernel
  split
  · right; decide +kernel
  split
  · right; decide +kernel
  split
  · right; decide +kernel
  split
  · right; decide +kernel
  split
  · right; decide +kernel
  split
  · right; decide +kernel
  split
  · right; decide +kernel
  split
  · right; decide +kernel
  split
  · right; decide +kernel
  · left; rfl
theorem ztwo_k (a b : Int32) : ztwo a b = 103 ∨ (ztwo a b < 99 ∧ (zw (ztwo a b)).length ≤ 2) := by
  unfold ztwo
  split
  · right; decide +kernel
  split
  · right; decide +kernel
  split
  · right; decide +kernel
  split
  · right; decide +kernel
  · left; rfl
theorem zkey_k (u : List Int32) : zkey u = 99 ∨ zw (zkey u) = u := by
  by_cases h : ∃ k, k < 82 ∧ zw k = u
  · obtain ⟨k, h1, h2⟩ := h
    right; rw [zkey_at h1 h2]; exact h2
  · left; exact zkey_no (fun k hk q => h ⟨k, hk, q⟩)
theorem ztok_wl {i : Nat} (hi : i ≤ t.length) (h : (ztok t i).1 < 99) : (zw (ztok t i).1).length ≤ (ztok t i).2 - i := by
  by_cases h1 : zat t i = -1
  · rw [show ztok t i = _ from if_pos h1] at h
    have h : 102 < 99 := h
    omega
  by_cases h2 : zdig (zat t i)
  · rw [show ztok t i = _ from (if_neg h1).trans (if_pos h2)] at h
    exfalso
    have h : (if 18 < zrun t zdig (t.length - i) i - i then 103 else 100) < 99 := h
    split at h <;> omega
  by_cases h3 : zofw (zat t i)
  · have e0 := show ztok t i = _ from (if_neg h1).trans ((if_neg h2).trans (if_pos h3))
    rw [e0] at h ⊢
    have h : (if 30 < zrun t zofw (t.length - i) i - i then 103 else zkey (zup t i (zrun t zofw (t.length - i) i))) < 99 := h
    show (zw (if 30 < zrun t zofw (t.length - i) i - i then 103 else zkey (zup t i (zrun t zofw (t.length - i) i)))).length ≤ zrun t zofw (t.length - i) i - i
    obtain ⟨r1, r2⟩ := zrun_le (t := t) (p := zofw) (t.length - i) i
    by_cases h4 : 30 < zrun t zofw (t.length - i) i - i
    · rw [if_pos h4] at h; omega
    · rw [if_neg h4] at h ⊢
      rcases zkey_k (zup t i (zrun t zofw (t.length - i) i)) with q | q
      · omega
      · rw [q, zup_len r1 (by omega)]
        exact Nat.le_refl _
  by_cases h4 : zat t i = 39
  · rw [show ztok t i = _ from (if_neg h1).trans ((if_neg h2).trans ((if_neg h3).trans (if_pos h4)))] at h
    have h : (zstr t (t.length - (i + 1)) (i + 1) 0).1 < 99 := h
    rcases zstr_k (t := t) (t.length - (i + 1)) (i + 1) 0 with q | q <;> omega
  by_cases h5 : ztwo (zat t i) (zat t (i + 1)) = 103
  · have e0 := show ztok t i = _ from (if_neg h1).trans ((if_neg h2).trans ((if_neg h3).trans ((if_neg h4).trans (if_pos h5))))
    rw [e0] at h ⊢
    show (zw (zone (zat t i))).length ≤ i + 1 - i
    have h : zone (zat t i) < 99 := h
    rcases zone_k (zat t i) with q | q <;> omega
  · have e0 := show ztok t i = _ from (if_neg h1).trans ((if_neg h2).trans ((if_neg h3).trans ((if_neg h4).trans (if_neg h5))))
    rw [e0]
    show (zw (ztwo (zat t i) (zat t (i + 1)))).length ≤ i + 2 - i
    rcases ztwo_k (zat t i) (zat t (i + 1)) with q | q <;> omega
theorem zen_ge (hl : t.length ≤ 65536) (hB : ∀ x ∈ t, zb x = x) : zge (zen t) := by
  refine ⟨zen_lt, ?_, ?_, fun i h => zen_next h, hB, ?_⟩
  · have := zen_len (t := t); omega
  · intro i
    obtain ⟨h1, h2⟩ := zen_ft (t := t) i
    exact ⟨h1, Nat.le_trans h2 hl⟩
  · intro i h
    by_cases hi : i < (zen t).1.length
    · obtain ⟨-, a2, a3, -⟩ := zwf_at _ 0 i zen_wf hi
      have e1 : (ztok t (zfr (zen t) i)).1 = ztk (zen t) i := by
        show (ztok t ((zen t).1.getD i (102, 0, 0)).2.1).1 = _
        rw [a3]; rfl
      have e2 : (ztok t (zfr (zen t) i)).2 = zto (zen t) i := by
        show (ztok t ((zen t).1.getD i (102, 0, 0)).2.1).2 = _
        rw [a3]; rfl
      have := ztok_wl (t := t) (i := zfr (zen t) i) a2 (by rw [e1]; exact h)
      rw [e1, e2] at this
      exact this
    · exfalso
      have : ztk (zen t) i = 102 := by
        show ((zen t).1.getD i (102, 0, 0)).1 = 102
        rw [List.getD_eq_getElem?_getD, List.getElem?_eq_none (by omega)]; rfl
      omega
/-- at the state: so many open, so many waiting, and so much to spare -/
def zG (e : zE) (o w a : Nat) (s : zS) : Prop := s.2.1 = o ∧ s.2.2.2.1 = w ∧ s.2.2.2.2.length + 2 * w + a ≤ 8 * zfr e s.1 ∧ s.1 < e.1.length ∧ o ≤ 40 ∧ ∀ x ∈ s.2.2.2.2, zb x = x
def zM (e : zE) (f : zP) (o w a o' w' a' : Nat) : Prop := ∀ s, zG e o w a s → ∃ v s', f s = some (v, s') ∧ (∀ x ∈ s'.2.2.2.2, zb x = x) ∧ ∀ x, v = some x → zG e o' w' a' s'
theorem zG_le {o w a a' : Nat} (h : zG e o w a s) (ha : a' ≤ a) : zG e o w a' s := ⟨h.1, h.2.1, by have := h.2.2.1; omega, h.2.2.2⟩
variable {o w a o' w' a' o2 w2 a2 : Nat} {f g c : zP}
theorem zM_le {a1 b1 : Nat} (h : zM e f o w a o' w' a') (h1 : a ≤ a1) (h2 : b1 ≤ a') : zM e f o w a1 o' w' b1 := by
  intro s hs
  obtain ⟨v, s', k1, k2, k3⟩ := h s (zG_le hs h1)
  exact ⟨v, s', k1, k2, fun x hx => zG_le (k3 x hx) h2⟩
theorem zM_q (h1 : zM e f o w a o' w' a') (h2 : zM e g o' w' a' o2 w2 a2) : zM e (zq f g) o w a o2 w2 a2 := by
  intro s hs
  obtain ⟨v, s1, k1, k2, k3⟩ := h1 s hs
  cases v with
  | none => exact ⟨none, s1, by unfold zq; rw [k1]; rfl, k2, fun x q => by cases q⟩
  | some x =>
    obtain ⟨v, s2, j1, j2, j3⟩ := h2 s1 (k3 x rfl)
    exact ⟨v, s2, by unfold zq; rw [k1]; exact j1, j2, j3⟩
theorem zM_i (h1 : zM e f o w a o' w' a') (h2 : zM e g o' w' a' o2 w2 a2) (h3 : zM e c o' w' a' o2 w2 a2) : zM e (zi f g c) o w a o2 w2 a2 := by
  intro s hs
  obtain ⟨v, s1, k1, k2, k3⟩ := h1 s hs
  cases v with
  | none => exact ⟨none, s1, by unfold zi; rw [k1]; rfl, k2, fun x q => by cases q⟩
  | some x =>
    by_cases hx : x = 0
    · obtain ⟨v, s2, j1, j2, j3⟩ := h3 s1 (k3 x rfl)
      exact ⟨v, s2, by unfold zi; rw [k1]; show (if x = 0 then c s1 else g s1) = _; rw [if_pos hx]; exact j1, j2, j3⟩
    · obtain ⟨v, s2, j1, j2, j3⟩ := h2 s1 (k3 x rfl)
      exact ⟨v, s2, by unfold zi; rw [k1]; show (if x = 0 then c s1 else g s1) = _; rw [if_neg hx]; exact j1, j2, j3⟩
theorem zM_if {b : zS → Prop} [∀ s, Decidable (b s)] (h1 : zM e f o w a o' w' a') (h2 : zM e g o w a o' w' a') : zM e (fun s => if b s then f s else g s) o w a o' w' a' := by
  intro s hs
  by_cases hb : b s
  · obtain ⟨v, s', k⟩ := h1 s hs
    exact ⟨v, s', by show (if b s then f s else g s) = _; rw [if_pos hb]; exact k.1, k.2⟩
  · obtain ⟨v, s', k⟩ := h2 s hs
    exact ⟨v, s', by show (if b s then f s else g s) = _; rw [if_neg hb]; exact k.1, k.2⟩
theorem zM_v {v : Nat} : zM e (zv v) o w a o w a := fun s hs => ⟨some v, s, rfl, hs.2.2.2.2.2, fun _ _ => hs⟩
theorem zM_f : zM e zf o w a o' w' a' := fun s hs => ⟨none, s, rfl, hs.2.2.2.2.2, fun _ q => by cases q⟩
theorem zM_40 (h : o ≤ 40 → zM e f o w a o' w' a') : zM e f o w a o' w' a' := fun s hs => h hs.2.2.2.2.1 s hs
theorem zG_by {u : List Int32} (h : zG e o w a s) (hu : ∀ x ∈ u, zb x = x) : ∀ x ∈ s.2.2.2.2 ++ u ++ [32], zb x = x := by
  intro x hx
  rw [List.mem_append, List.mem_append] at hx
  rcases hx with (hx | hx) | hx
  · exact h.2.2.2.2.2 x hx
  · exact hu x hx
  · cases List.mem_singleton.mp hx; decide
theorem zM_put {u : List Int32} (hE : zge e) (hu : ∀ x ∈ u, zb x = x) (h : a' + u.length + 1 ≤ a) : zM e (zput u) o w a o w a' := by
  intro s hs
  obtain ⟨h1, h2, h3, h4, h5, h6⟩ := hs
  have hf := (hE.2.2.1 s.1)
  have hb := zG_by (e := e) (o := o) (w := w) (a := a) (s := s) ⟨h1, h2, h3, h4, h5, h6⟩ hu
  refine ⟨some 0, (s.1, s.2.1, s.2.2.1, s.2.2.2.1, s.2.2.2.2 ++ u ++ [32]), ?_, hb, fun x _ => ⟨h1, h2, ?_, h4, h5, hb⟩⟩
  · unfold zput; rw [if_neg (by omega)]
  · show (s.2.2.2.2 ++ u ++ [32]).length + 2 * w + a' ≤ 8 * zfr e s.1
    rw [List.length_append, List.length_append]
    have : [(32 : Int32)].length = 1 := rfl
    omega
/-- the token here is none of ( ) CASE END, and not the end -/
def zor (k : Nat) : Prop := ¬ (k = 82 ∨ k = 10) ∧ ¬ (k = 83 ∨ k = 25) ∧ ¬ (k = 102 ∨ k = 103)
theorem zM_tok {u : List Int32} (hE : zge e) (hs : zG e o w a s) (hk : zor (ztk e s.1)) (hu : ∀ x ∈ u, zb x = x) (hl : u.length ≤ zto e s.1 - zfr e s.1) : ∃ s', zq (zput u) (zstep e) s = some (some 0, s') ∧ zG e o w (a + 7 * u.length - 1) s' ∧ zG e o w (a + 6) s' ∧ s'.2.2.2.2 = s.2.2.2.2 ++ u ++ [32] := by
  obtain ⟨h1, h2, h3, h4, h5, h6⟩ := hs
  have hf := (hE.2.2.1 s.1)
  obtain ⟨n1, n2, n3⟩ := hE.2.2.2.1 s.1 hk.2.2
  have hb := zG_by (e := e) (o := o) (w := w) (a := a) (s := s) ⟨h1, h2, h3, h4, h5, h6⟩ hu
  have hlen : (s.2.2.2.2 ++ u ++ [32]).length = s.2.2.2.2.length + u.length + 1 := by
    rw [List.length_append, List.length_append]; rfl
  have h100 := hE.2.1
  refine ⟨(s.1 + 1, s.2.1, s.2.2.1, s.2.2.2.1, s.2.2.2.2 ++ u ++ [32]), ?_, ⟨h1, h2, ?_, n1, h5, hb⟩, ⟨h1, h2, ?_, n1, h5, hb⟩, rfl⟩
  · unfold zq zput
    rw [if_neg (by omega)]
    show zstep e (s.1, s.2.1, s.2.2.1, s.2.2.2.1, s.2.2.2.2 ++ u ++ [32]) = _
    unfold zstep
    rw [if_neg hk.1, if_neg hk.2.1]
    unfold znext
    rw [if_neg (by show ¬ 100000 ≤ s.1; omega)]
  · show (s.2.2.2.2 ++ u ++ [32]).length + 2 * w + (a + 7 * u.length - 1) ≤ 8 * zfr e (s.1 + 1)
    omega
  · show (s.2.2.2.2 ++ u ++ [32]).length + 2 * w + (a + 6) ≤ 8 * zfr e (s.1 + 1)
    omega
theorem zt_b0 : (List.range 112).all (fun c => (qr_tx.getD c []).all (fun v => decide (zb v = v))) = true := by decide +kernel
theorem zt_b (c : Nat) (hc : c < 1112) : ∀ x ∈ zt c, zb x = x := by
  intro x hx
  exact of_decide_eq_true (List.all_eq_true.mp (List.all_eq_true.mp zt_b0 (c - 1000) (List.mem_range.mpr (by omega))) x hx)
theorem zw_b0 : (List.range 99).all (fun k => decide ((qr_en.getD k (0, 0)).1 < 1112)) = true := by decide +kernel
theorem zw_b {k : Nat} (hk : k < 99) : ∀ x ∈ zw k, zb x = x := zt_b _ (of_decide_eq_true (List.all_eq_true.mp zw_b0 k (List.mem_range.mpr hk)))
theorem zM_cp {k : Nat} (hE : zge e) (hk : zor k) (hk9 : k < 99) : zM e (zcp e k) o w a o w (a + 7 * (zw k).length - 1) := by
  intro s hs
  unfold zcp zc
  by_cases t : ztk e s.1 = k
  · obtain ⟨s', k1, k2, -, -⟩ := zM_tok hE hs (by rw [t]; exact hk) (zw_b hk9) (by have := hE.2.2.2.2.2 s.1 (by omega); rw [t] at this; exact this)
    exact ⟨some 0, s', by rw [if_pos t]; exact k1, k2.2.2.2.2.2, fun _ _ => k2⟩
  · exact ⟨none, s, by rw [if_neg t]; rfl, hs.2.2.2.2.2, fun _ q => by cases q⟩
/-- one that may be here, and what follows in either case -/
theorem zM_ici {k : Nat} (hE : zge e) (hk : zor k) (hk9 : k < 99) (h2 : zM e g o w (a + 7 * (zw k).length - 1) o' w' a') (h3 : zM e c o w a o' w' a') : zM e (zi (zci e k) g c) o w a o' w' a' := by
  intro s hs
  by_cases t : ztk e s.1 = k
  · obtain ⟨s1, k1, k2, -, -⟩ := zM_tok hE hs (by rw [t]; exact hk) (zw_b hk9) (by have := hE.2.2.2.2.2 s.1 (by omega); rw [t] at this; exact this)
    obtain ⟨v, s2, j⟩ := h2 s1 k2
    refine ⟨v, s2, ?_, j.2⟩
    have e1 : zci e k s = some (some 1, s1) := by
      unfold zci zc
      rw [if_pos t]
      have k1 : zbd (zput (zw k) s) (fun _ s => zstep e s) = some (some 0, s1) := k1
      show zbd (zput (zw k) s) (fun _ s => zbd (zstep e s) (fun _ s => zv 1 s)) = _
      rcases zbd_inv k1 with ⟨-, q⟩ | ⟨b1, s3, q1, q2⟩
      · cases q
      · rw [q1]
        show zbd (zstep e s3) (fun _ s => zv 1 s) = _
        rw [q2]; rfl
    unfold zi
    rw [e1]
    exact j.1
  · obtain ⟨v, s2, j⟩ := h3 s hs
    refine ⟨v, s2, ?_, j.2⟩
    have e1 : zci e k s = some (some 0, s) := by
      unfold zci zc
      rw [if_neg t]; rfl
    unfold zi
    rw [e1]
    exact j.1
theorem zM_ci {k : Nat} (hE : zge e) (hk : zor k) (hk9 : k < 99) : zM e (zci e k) o w a o w a := by
  intro s hs
  by_cases t : ztk e s.1 = k
  · obtain ⟨s1, k1, -, k2, -⟩ := zM_tok hE hs (by rw [t]; exact hk) (zw_b hk9) (by have := hE.2.2.2.2.2 s.1 (by omega); rw [t] at this; exact this)
    refine ⟨some 1, s1, ?_, k2.2.2.2.2.2, fun _ _ => zG_le k2 (by omega)⟩
    unfold zci zc
    rw [if_pos t]
    have k1 : zbd (zput (zw k) s) (fun _ s => zstep e s) = some (some 0, s1) := k1
    show zbd (zput (zw k) s) (fun _ s => zbd (zstep e s) (fun _ s => zv 1 s)) = _
    rcases zbd_inv k1 with ⟨-, q⟩ | ⟨b1, s3, q1, q2⟩
    · cases q
    · rw [q1]
      show zbd (zstep e s3) (fun _ s => zv 1 s) = _
      rw [q2]; rfl
  · exact ⟨some 0, s, by unfold zci zc; rw [if_neg t]; rfl, hs.2.2.2.2.2, fun _ _ => hs⟩
end ZGD
