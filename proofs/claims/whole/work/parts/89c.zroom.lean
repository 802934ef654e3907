/-! THERE IS ALWAYS ROOM: statements and queries. (Printed by wip/whole/pp.py from wip/whole/src.) -/
section ZRM
variable {e : zE} {s s' : zS} {o w a o' w' a' o2 w2 a2 : Nat} {f g c ex qy : zP}
/-- with 8 to spare, it keeps what there is to spare -/
def zV (e : zE) (o w o' w' : Nat) (f : zP) : Prop := ∀ a, 8 ≤ a → zM e f o w a o' w' a
theorem zV_q (h1 : zV e o w o' w' f) (h2 : zV e o' w' o2 w2 g) : zV e o w o2 w2 (zq f g) := fun a ha => zM_q (h1 a ha) (h2 a ha)
theorem zV_i (h1 : zV e o w o' w' f) (h2 : zV e o' w' o2 w2 g) (h3 : zV e o' w' o2 w2 c) : zV e o w o2 w2 (zi f g c) := fun a ha => zM_i (h1 a ha) (h2 a ha) (h3 a ha)
theorem zV_if {b : zS → Prop} [∀ s, Decidable (b s)] (h1 : zV e o w o' w' f) (h2 : zV e o w o' w' g) : zV e o w o' w' (fun s => if b s then f s else g s) := fun a ha => zM_if (h1 a ha) (h2 a ha)
theorem zV_c {k : Nat} (h1 : zV e o w o' w' f) (h2 : zV e o w o' w' g) : zV e o w o' w' (zc e k f g) := zV_if h1 h2
theorem zV_v {v : Nat} : zV e o w o w (zv v) := fun _ _ => zM_v
theorem zV_f : zV e o w o' w' zf := fun _ _ => zM_f
theorem zV_40 (h : o ≤ 40 → zV e o w o' w' f) : zV e o w o' w' f := fun a ha => zM_40 (fun q => h q a ha)
theorem zV_cp {k : Nat} (hE : zge e) (hk : zor k) (hk9 : k < 99) : zV e o w o w (zcp e k) := fun a _ => zM_le (zM_cp hE hk hk9) (Nat.le_refl _) (by have := zw_pos hk9; omega)
theorem zV_ci {k : Nat} (hE : zge e) (hk : zor k) (hk9 : k < 99) : zV e o w o w (zci e k) := fun _ _ => zM_ci hE hk hk9
theorem zM_open (hE : zge e) : zM e (zcp e 82) o w a (o + 1) w a := by
  intro s hs
  unfold zcp zc
  by_cases t : ztk e s.1 = 82
  · obtain ⟨h1, h2, h3, h4, h5, h6⟩ := hs
    have hf := (hE.2.2.1 s.1)
    obtain ⟨n1, n2, n3⟩ := hE.2.2.2.1 s.1 (by omega)
    have hu := zw_b (k := 82) (by decide)
    have hb := zG_by (e := e) (o := o) (w := w) (a := a) (s := s) ⟨h1, h2, h3, h4, h5, h6⟩ hu
    have hlen : (s.2.2.2.2 ++ zw 82 ++ [32]).length = s.2.2.2.2.length + 1 + 1 := by
      rw [List.length_append, List.length_append]; rfl
    have hl1 : (zw 82).length = 1 := rfl
    have h100 := hE.2.1
    rw [if_pos t]
    unfold zq zput
    rw [if_neg (by omega)]
    by_cases h40 : 40 ≤ s.2.1
    · refine ⟨none, (s.1, s.2.1, s.2.2.1, s.2.2.2.1, s.2.2.2.2 ++ zw 82 ++ [32]), ?_, hb, fun _ q => by cases q⟩
      show zstep e (s.1, s.2.1, s.2.2.1, s.2.2.2.1, s.2.2.2.2 ++ zw 82 ++ [32]) = _
      unfold zstep
      rw [if_pos (Or.inl t)]
      unfold zq zrise
      rw [if_pos (by show 40 ≤ s.2.1; exact h40)]
      rfl
    · refine ⟨some 0, (s.1 + 1, s.2.1 + 1, max s.2.2.1 (s.2.1 + 1), s.2.2.2.1, s.2.2.2.2 ++ zw 82 ++ [32]), ?_, hb, fun _ _ => ⟨by show s.2.1 + 1 = o + 1; rw [h1], h2, ?_, n1, by omega, hb⟩⟩
      · show zstep e (s.1, s.2.1, s.2.2.1, s.2.2.2.1, s.2.2.2.2 ++ zw 82 ++ [32]) = _
        unfold zstep
        rw [if_pos (Or.inl t)]
        unfold zq zrise
        rw [if_neg (by show ¬ 40 ≤ s.2.1; exact h40)]
        show znext _ = _
        unfold znext
        rw [if_neg (by show ¬ 100000 ≤ s.1; omega)]
      · show (s.2.2.2.2 ++ zw 82 ++ [32]).length + 2 * w + a ≤ 8 * zfr e (s.1 + 1)
        omega
  · exact ⟨none, s, by rw [if_neg t]; rfl, hs.2.2.2.2.2, fun _ q => by cases q⟩
theorem zM_close {k : Nat} (hE : zge e) (hk : k = 83 ∨ k = 25) : zM e (zcp e k) (o + 1) w a o w a := by
  intro s hs
  unfold zcp zc
  by_cases t : ztk e s.1 = k
  · obtain ⟨h1, h2, h3, h4, h5, h6⟩ := hs
    have hf := (hE.2.2.1 s.1)
    obtain ⟨n1, n2, n3⟩ := hE.2.2.2.1 s.1 (by omega)
    have hu := zw_b (k := k) (by omega)
    have hb := zG_by (e := e) (o := o + 1) (w := w) (a := a) (s := s) ⟨h1, h2, h3, h4, h5, h6⟩ hu
    have hlen : (s.2.2.2.2 ++ zw k ++ [32]).length = s.2.2.2.2.length + (zw k).length + 1 := by
      rw [List.length_append, List.length_append]; rfl
    have hl1 := hE.2.2.2.2.2 s.1 (by omega)
    rw [t] at hl1
    have h100 := hE.2.1
    rw [if_pos t]
    unfold zq zput
    rw [if_neg (by omega)]
    refine ⟨some 0, (s.1 + 1, s.2.1 - 1, s.2.2.1, s.2.2.2.1, s.2.2.2.2 ++ zw k ++ [32]), ?_, hb, fun _ _ => ⟨by show s.2.1 - 1 = o; omega, h2, ?_, n1, by omega, hb⟩⟩
    · show zstep e (s.1, s.2.1, s.2.2.1, s.2.2.2.1, s.2.2.2.2 ++ zw k ++ [32]) = _
      unfold zstep
      rw [if_neg (by show ¬ (ztk e s.1 = 82 ∨ ztk e s.1 = 10); omega), if_pos (by show ztk e s.1 = 83 ∨ ztk e s.1 = 25; omega)]
      unfold zq zdown
      rw [if_neg (by show ¬ s.2.1 = 0; omega)]
      show znext _ = _
      unfold znext
      rw [if_neg (by show ¬ 100000 ≤ s.1; omega)]
    · show (s.2.2.2.2 ++ zw k ++ [32]).length + 2 * w + a ≤ 8 * zfr e (s.1 + 1)
      omega
  · exact ⟨none, s, by rw [if_neg t]; rfl, hs.2.2.2.2.2, fun _ q => by cases q⟩
theorem zM_case (hE : zge e) : zM e (zcp e 10) o w a (o + 1) w a := by
  intro s hs
  unfold zcp zc
  by_cases t : ztk e s.1 = 10
  · obtain ⟨h1, h2, h3, h4, h5, h6⟩ := hs
    have hf := (hE.2.2.1 s.1)
    obtain ⟨n1, n2, n3⟩ := hE.2.2.2.1 s.1 (by omega)
    have hu := zw_b (k := 10) (by decide)
    have hb := zG_by (e := e) (o := o) (w := w) (a := a) (s := s) ⟨h1, h2, h3, h4, h5, h6⟩ hu
    have hlen : (s.2.2.2.2 ++ zw 10 ++ [32]).length = s.2.2.2.2.length + 4 + 1 := by
      rw [List.length_append, List.length_append]; rfl
    have hl1 : (zw 10).length = 4 := rfl
    have hl2 := hE.2.2.2.2.2 s.1 (by omega)
    rw [t] at hl2
    have h100 := hE.2.1
    rw [if_pos t]
    unfold zq zput
    rw [if_neg (by omega)]
    by_cases h40 : 40 ≤ s.2.1
    · refine ⟨none, (s.1, s.2.1, s.2.2.1, s.2.2.2.1, s.2.2.2.2 ++ zw 10 ++ [32]), ?_, hb, fun _ q => by cases q⟩
      show zstep e (s.1, s.2.1, s.2.2.1, s.2.2.2.1, s.2.2.2.2 ++ zw 10 ++ [32]) = _
      unfold zstep
      rw [if_pos (Or.inr t)]
      unfold zq zrise
      rw [if_pos (by show 40 ≤ s.2.1; exact h40)]
      rfl
    · refine ⟨some 0, (s.1 + 1, s.2.1 + 1, max s.2.2.1 (s.2.1 + 1), s.2.2.2.1, s.2.2.2.2 ++ zw 10 ++ [32]), ?_, hb, fun _ _ => ⟨by show s.2.1 + 1 = o + 1; rw [h1], h2, ?_, n1, by omega, hb⟩⟩
      · show zstep e (s.1, s.2.1, s.2.2.1, s.2.2.2.1, s.2.2.2.2 ++ zw 10 ++ [32]) = _
        unfold zstep
        rw [if_pos (Or.inr t)]
        unfold zq zrise
        rw [if_neg (by show ¬ 40 ≤ s.2.1; exact h40)]
        show znext _ = _
        unfold znext
        rw [if_neg (by show ¬ 100000 ≤ s.1; omega)]
      · show (s.2.2.2.2 ++ zw 10 ++ [32]).length + 2 * w + a ≤ 8 * zfr e (s.1 + 1)
        omega
  · exact ⟨none, s, by rw [if_neg t]; rfl, hs.2.2.2.2.2, fun _ q => by cases q⟩
/-- a token that is left out of the plain form -/
theorem zG_skip {k : Nat} (hE : zge e) (hk : zor k) (t : ztk e s.1 = k) (hs : zG e o w a s) : ∃ s', zstep e s = some (some 0, s') ∧ zG e o w (a + 8) s' := by
  obtain ⟨h1, h2, h3, h4, h5, h6⟩ := hs
  have hk : zor (ztk e s.1) := by rw [t]; exact hk
  obtain ⟨n1, n2, n3⟩ := hE.2.2.2.1 s.1 hk.2.2
  have h100 := hE.2.1
  refine ⟨(s.1 + 1, s.2), ?_, h1, h2, ?_, n1, h5, h6⟩
  · unfold zstep
    rw [if_neg hk.1, if_neg hk.2.1]
    unfold znext
    rw [if_neg (by show ¬ 100000 ≤ s.1; omega)]
  · show s.2.2.2.2.length + 2 * w + (a + 8) ≤ 8 * zfr e (s.1 + 1)
    omega
theorem zM_isi {k : Nat} (hE : zge e) (hk : zor k) (h2 : zM e g o w (a + 8) o' w' a') (h3 : zM e c o w a o' w' a') : zM e (zi (zsi e k) g c) o w a o' w' a' := by
  intro s hs
  by_cases t : ztk e s.1 = k
  · obtain ⟨s1, k1, k2⟩ := zG_skip hE hk t hs
    obtain ⟨v, s2, j⟩ := h2 s1 k2
    refine ⟨v, s2, ?_, j.2⟩
    have e1 : zsi e k s = some (some 1, s1) := by
      unfold zsi zc zq
      rw [if_pos t, k1]; rfl
    unfold zi
    rw [e1]
    exact j.1
  · obtain ⟨v, s2, j⟩ := h3 s hs
    refine ⟨v, s2, ?_, j.2⟩
    have e1 : zsi e k s = some (some 0, s) := by
      unfold zsi zc
      rw [if_neg t]; rfl
    unfold zi
    rw [e1]
    exact j.1
theorem zV_si {k : Nat} (hE : zge e) (hk : zor k) : zV e o w o w (zsi e k) := by
  intro a ha s hs
  by_cases t : ztk e s.1 = k
  · obtain ⟨s1, k1, k2⟩ := zG_skip hE hk t hs
    exact ⟨some 1, s1, by unfold zsi zc zq; rw [if_pos t, k1]; rfl, k2.2.2.2.2.2, fun _ _ => zG_le k2 (by omega)⟩
  · exact ⟨some 0, s, by unfold zsi zc; rw [if_neg t]; rfl, hs.2.2.2.2.2, fun _ _ => hs⟩
theorem zsl_ln {i : Nat} : (zsl e i).length ≤ zto e i - zfr e i := by
  unfold zsl
  rw [List.length_take]
  omega
theorem zsl_by (hE : zge e) {i : Nat} : ∀ x ∈ zsl e i, zb x = x := fun x hx => hE.2.2.2.2.1 x (List.mem_of_mem_drop (List.mem_of_mem_take hx))
theorem znz_ln : ∀ (u : List Int32), (znz u).length ≤ u.length := by
  intro u
  induction u with
  | nil => exact Nat.le_refl _
  | cons x r ih =>
    unfold znz
    split
    · exact Nat.le_succ_of_le ih
    · exact Nat.le_refl _
theorem znz_by : ∀ (u : List Int32), (∀ x ∈ u, zb x = x) → ∀ x ∈ znz u, zb x = x := by
  intro u
  induction u with
  | nil => intro h x hx; exact h x hx
  | cons y r ih =>
    intro h x hx
    unfold znz at hx
    split at hx
    · exact ih (fun z hz => h z (List.mem_cons_of_mem _ hz)) x hx
    · exact h x hx
theorem zV_nm (hE : zge e) : zV e o w o w (znm e) := by
  intro a ha s hs
  unfold znm zc
  by_cases t : ztk e s.1 = 99
  · obtain ⟨s1, k1, -, k2, -⟩ := zM_tok (u := (zsl e s.1).map zsm) hE hs (by rw [t]; unfold zor; omega) (by
      intro x hx
      obtain ⟨y, -, rfl⟩ := List.mem_map.mp hx
      exact zb_zb _) (by rw [List.length_map]; exact zsl_ln)
    exact ⟨some 0, s1, by rw [if_pos t]; exact k1, k2.2.2.2.2.2, fun _ _ => zG_le k2 (by omega)⟩
  · exact ⟨none, s, by rw [if_neg t]; rfl, hs.2.2.2.2.2, fun _ q => by cases q⟩
theorem zV_nu (hE : zge e) : zV e o w o w (znu e) := by
  intro a ha s hs
  unfold znu zc
  by_cases t : ztk e s.1 = 100
  · obtain ⟨s1, k1, -, k2, -⟩ := zM_tok (u := znz (zsl e s.1)) hE hs (by rw [t]; unfold zor; omega) (znz_by _ (zsl_by hE)) (Nat.le_trans (znz_ln _) zsl_ln)
    exact ⟨some 0, s1, by rw [if_pos t]; exact k1, k2.2.2.2.2.2, fun _ _ => zG_le k2 (by omega)⟩
  · exact ⟨none, s, by rw [if_neg t]; rfl, hs.2.2.2.2.2, fun _ q => by cases q⟩
theorem zV_st (hE : zge e) : zV e o w o w (zc e 101 (zst e) zf) := by
  intro a ha s hs
  unfold zc
  by_cases t : ztk e s.1 = 101
  · obtain ⟨s1, k1, -, k2, -⟩ := zM_tok (u := zsl e s.1) hE hs (by rw [t]; unfold zor; omega) (zsl_by hE) zsl_ln
    exact ⟨some 0, s1, by rw [if_pos t]; exact k1, k2.2.2.2.2.2, fun _ _ => zG_le k2 (by omega)⟩
  · exact ⟨none, s, by rw [if_neg t]; rfl, hs.2.2.2.2.2, fun _ q => by cases q⟩
theorem zV_cst {x : zP} (hE : zge e) (hx : zV e o w o w x) : zV e o w o w (zc e 101 (zst e) x) := by
  intro a ha s hs
  by_cases t : ztk e s.1 = 101
  · obtain ⟨v, s', k1, k2⟩ := zV_st hE a ha s hs
    refine ⟨v, s', ?_, k2⟩
    unfold zc at k1 ⊢
    rw [if_pos t] at k1 ⊢
    exact k1
  · obtain ⟨v, s', k1, k2⟩ := hx a ha s hs
    refine ⟨v, s', ?_, k2⟩
    unfold zc
    rw [if_neg t]
    exact k1
theorem zV_lp (hE : zge e) (hf : zV e o w o w f) (hs : zss f) : zV e o w o w (zlp f zN) := by
  intro a ha
  have key : ∀ n s, e.1.length - s.1 < n → zG e o w a s → ∃ v s', zlp f n s = some (v, s') ∧ (∀ x ∈ s'.2.2.2.2, zb x = x) ∧ ∀ x, v = some x → zG e o w a s' := by
    intro n
    induction n with
    | zero => intro s h; omega
    | succ n ih =>
      intro s hn hg
      obtain ⟨v, s1, k1, k2, k3⟩ := hf a ha s hg
      rw [zlp_succ, k1]
      cases v with
      | none => exact ⟨none, s1, rfl, k2, fun _ q => by cases q⟩
      | some x =>
        have g1 := k3 x rfl
        by_cases h0 : x = 0
        · exact ⟨some 0, s1, by rw [zbd_some, if_pos h0], k2, fun _ _ => g1⟩
        · have hp := hs _ _ _ k1 h0
          obtain ⟨v, s2, j1, j2⟩ := ih s1 (by have := g1.2.2.2.1; omega) g1
          exact ⟨v, s2, by rw [zbd_some, if_neg h0, if_neg (by omega)]; exact j1, j2⟩
  intro s hg
  exact key zN s (by have := hE.2.1; unfold zN; omega) hg
end ZRM
