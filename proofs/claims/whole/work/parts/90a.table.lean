/-! A TABLE WITH OPEN PLACES, for the different names. -/
section ZTB
variable {M lo : Nat} {nm : Nat → List Int32} {H : List Int32 → Nat} {sn : Nat → Int32} {S : List (List Int32)}
theorem zpig : ∀ (n : Nat) (f : Nat → Nat), (∀ i, i ≤ n → f i < n) → ∃ i j, i < j ∧ j ≤ n ∧ f i = f j := by
  intro n
  induction n with
  | zero => intro f hf; exact absurd (hf 0 (Nat.le_refl _)) (by omega)
  | succ n ih =>
    intro f hf
    by_cases h1 : ∃ i, i ≤ n ∧ f i = f (n + 1)
    · obtain ⟨i, h1, h2⟩ := h1
      exact ⟨i, n + 1, by omega, Nat.le_refl _, h2⟩
    · have h2 : ∀ i, i ≤ n → f i ≠ f (n + 1) := fun i hi q => h1 ⟨i, hi, q⟩
      obtain ⟨i, j, k1, k2, k3⟩ := ih (fun i => if f i = n then f (n + 1) else f i) (by
        intro i hi
        show (if f i = n then f (n + 1) else f i) < n
        have a1 := hf i (by omega)
        have a2 := hf (n + 1) (by omega)
        have a3 := h2 i hi
        split <;> omega)
      refine ⟨i, j, k1, by omega, ?_⟩
      have a1 := h2 i (by omega)
      have a2 := h2 j (by omega)
      have k3 : (if f i = n then f (n + 1) else f i) = (if f j = n then f (n + 1) else f j) := k3
      split at k3 <;> split at k3 <;> omega
theorem zmod_ne {g i j : Nat} (hi : i < j) (hj : j < M) (h : (g + i) % M = (g + j) % M) : False := by
  have h1 := Nat.sub_mod_eq_zero_of_mod_eq h.symm
  rw [show g + j - (g + i) = j - i by omega, Nat.mod_eq_of_lt (by omega)] at h1
  omega
/-- the places hold numbers of names; a name stands behind no open place from its own on -/
def ztb (M lo : Nat) (nm : Nat → List Int32) (H : List Int32 → Nat) (sn : Nat → Int32) (S : List (List Int32)) : Prop := (∀ j, j < M → sn j = 0 ∨ ∃ t, lo ≤ t ∧ t + 1 < lo + M ∧ sn j = nI (t + 1) ∧ nm t ∈ S) ∧ (∀ i j t, i < M → j < M → lo ≤ t → t + 1 < lo + M → sn i = nI (t + 1) → sn j = nI (t + 1) → i = j) ∧ (∀ x ∈ S, ∃ r t, r < M ∧ lo ≤ t ∧ t + 1 < lo + M ∧ sn ((H x + r) % M) = nI (t + 1) ∧ nm t = x ∧ ∀ r', r' < r → sn ((H x + r') % M) ≠ 0)
theorem ztb_free (hM : 0 < M) (hM2 : lo + M ≤ 2097152) (h : ztb M lo nm H sn S) (g : Nat) : ∃ r, r < M ∧ sn ((g + r) % M) = 0 := by
  by_cases hx : ∃ r, r < M ∧ sn ((g + r) % M) = 0
  · exact hx
  · exfalso
    have h2 : ∀ r, r < M → ∃ t, lo ≤ t ∧ t + 1 < lo + M ∧ sn ((g + r) % M) = nI (t + 1) := by
      intro r hr
      rcases h.1 ((g + r) % M) (Nat.mod_lt _ hM) with q | ⟨t, q1, q2, q3, -⟩
      · exact absurd ⟨r, hr, q⟩ hx
      · exact ⟨t, q1, q2, q3⟩
    have h3 : ∀ r t, t + 1 < lo + M → sn ((g + r) % M) = nI (t + 1) → (sn ((g + r) % M)).toInt.toNat = t + 1 := by
      intro r t ht hq
      rw [hq, show (nI (t + 1)).toInt = ((t + 1 : Nat) : Int) from Int32.toInt_ofNat_of_lt (by omega)]
      rfl
    obtain ⟨i, j, k1, k2, k3⟩ := zpig (M - 1) (fun r => (sn ((g + r) % M)).toInt.toNat - 1 - lo) (by
      intro r hr
      obtain ⟨t, t1, t2, t3⟩ := h2 r (by omega)
      show (sn ((g + r) % M)).toInt.toNat - 1 - lo < M - 1
      rw [h3 r t t2 t3]
      omega)
    obtain ⟨t, t1, t2, t3⟩ := h2 i (by omega)
    obtain ⟨u, u1, u2, u3⟩ := h2 j (by omega)
    have k3 : (sn ((g + i) % M)).toInt.toNat - 1 - lo = (sn ((g + j) % M)).toInt.toNat - 1 - lo := k3
    rw [h3 i t t2 t3, h3 j u u2 u3] at k3
    have e1 : u = t := by omega
    subst e1
    exact zmod_ne k1 (by omega) (h.2.1 _ _ u (Nat.mod_lt _ hM) (Nat.mod_lt _ hM) t1 t2 t3 u3)
/-- an open place behind others' names: it is new -/
theorem ztb_not (hM2 : lo + M ≤ 2097152) (h : ztb M lo nm H sn S) {x : List Int32} {r : Nat} (hr : ∀ r', r' < r → sn ((H x + r') % M) ≠ 0 ∧ ∀ t, lo ≤ t → t + 1 < lo + M → sn ((H x + r') % M) = nI (t + 1) → nm t ≠ x) (h0 : sn ((H x + r) % M) = 0) : x ∉ S := by
  intro hx
  obtain ⟨r2, t, a1, a2, a3, a4, a5, a6⟩ := h.2.2 x hx
  rcases Nat.lt_trichotomy r2 r with q | q | q
  · exact (hr r2 q).2 t a2 a3 a4 a5
  · subst q
    rw [h0] at a4
    exact absurd a4.symm (nI_nz (by omega) (by omega))
  · exact a6 r q h0
theorem ztb_ins (hM : 0 < M) (hM2 : lo + M ≤ 2097152) (h : ztb M lo nm H sn S) {x : List Int32} {r t : Nat} (hx : x ∉ S) (hrM : r < M) (hr : ∀ r', r' < r → sn ((H x + r') % M) ≠ 0) (h0 : sn ((H x + r) % M) = 0) (t1 : lo ≤ t) (t2 : t + 1 < lo + M) (t3 : nm t = x) : ztb M lo nm H (fun j => if j = (H x + r) % M then nI (t + 1) else sn j) (x :: S) := by
  have hnt : ∀ i, i < M → sn i ≠ nI (t + 1) := by
    intro i hi q
    rcases h.1 i hi with z | ⟨u, u1, u2, u3, u4⟩
    · rw [z] at q; exact absurd q.symm (nI_nz (by omega) (by omega))
    · rw [u3] at q
      have := (nI_eq (by omega) (by omega)).mp q
      have : u = t := by omega
      subst this
      rw [t3] at u4
      exact hx u4
  refine ⟨?_, ?_, ?_⟩
  · intro j hj
    show (if j = (H x + r) % M then nI (t + 1) else sn j) = 0 ∨ ∃ t', lo ≤ t' ∧ t' + 1 < lo + M ∧ (if j = (H x + r) % M then nI (t + 1) else sn j) = nI (t' + 1) ∧ nm t' ∈ x :: S
    by_cases hj2 : j = (H x + r) % M
    · rw [if_pos hj2]
      exact Or.inr ⟨t, t1, t2, rfl, by rw [t3]; exact List.mem_cons_self⟩
    · rw [if_neg hj2]
      rcases h.1 j hj with z | ⟨u, u1, u2, u3, u4⟩
      · exact Or.inl z
      · exact Or.inr ⟨u, u1, u2, u3, List.mem_cons_of_mem _ u4⟩
  · intro i j u hi hj u1 u2 hi2 hj2
    have hi2 : (if i = (H x + r) % M then nI (t + 1) else sn i) = nI (u + 1) := hi2
    have hj2 : (if j = (H x + r) % M then nI (t + 1) else sn j) = nI (u + 1) := hj2
    by_cases a : i = (H x + r) % M
    · by_cases b : j = (H x + r) % M
      · omega
      · rw [if_pos a] at hi2
        rw [if_neg b, ← hi2] at hj2
        exact absurd hj2 (hnt j hj)
    · rw [if_neg a] at hi2
      by_cases b : j = (H x + r) % M
      · rw [if_pos b] at hj2
        rw [← hj2] at hi2
        exact absurd hi2 (hnt i hi)
      · rw [if_neg b] at hj2
        exact h.2.1 i j u hi hj u1 u2 hi2 hj2
  · intro y hy
    by_cases hyx : y = x
    · subst hyx
      refine ⟨r, t, hrM, t1, t2, ?_, t3, fun r' hr' => ?_⟩
      · show (if (H y + r) % M = (H y + r) % M then nI (t + 1) else _) = _
        rw [if_pos rfl]
      · show (if (H y + r') % M = (H y + r) % M then nI (t + 1) else sn ((H y + r') % M)) ≠ 0
        split
        · exact nI_nz (by omega) (by omega)
        · exact hr r' hr'
    · have hy : y ∈ S := by
        rcases List.mem_cons.mp hy with q | q
        · exact absurd q hyx
        · exact q
      obtain ⟨r2, u, a1, a2, a3, a4, a5, a6⟩ := h.2.2 y hy
      refine ⟨r2, u, a1, a2, a3, ?_, a5, fun r' hr' => ?_⟩
      · show (if (H y + r2) % M = (H x + r) % M then nI (t + 1) else sn ((H y + r2) % M)) = _
        rw [if_neg (fun q => by rw [q, h0] at a4; exact absurd a4.symm (nI_nz (by omega) (by omega)))]
        exact a4
      · show (if (H y + r') % M = (H x + r) % M then nI (t + 1) else sn ((H y + r') % M)) ≠ 0
        split
        · exact nI_nz (by omega) (by omega)
        · exact a6 r' hr'
theorem ztb_0 (h : ∀ j, j < M → sn j = 0) (hM : 0 < M) (hM2 : lo + M ≤ 2097152) : ztb M lo nm H sn [] := by
  refine ⟨fun j hj => Or.inl (h j hj), fun i j t hi _ _ _ q => ?_, fun x hx => by cases hx⟩
  rw [h i hi] at q
  exact absurd q.symm (nI_nz (by omega) (by omega))
/-- how many of them are different from those before -/
def zdn (S : List (List Int32)) : List (List Int32) → Nat
  | [] => 0
  | x :: N => if x ∈ S then zdn S N else 1 + zdn (x :: S) N
theorem zdn_le : ∀ (N S : List (List Int32)), zdn S N ≤ N.length := by
  intro N
  induction N with
  | nil => intro S; exact Nat.le_refl _
  | cons x N ih =>
    intro S
    simp only [zdn, List.length_cons]
    have := ih S
    have := ih (x :: S)
    split <;> omega
end ZTB
