/-! THERE IS ALWAYS ROOM: operands; reading. (Printed by wip/whole/pp.py from wip/whole/src.) -/
section ZRZ
variable {e : zE} {s s' : zS} {o w a : Nat} {f g c ex qy pr A : zP}
/-- the same, where such a token stands -/
def zVk (e : zE) (o w k : Nat) (f : zP) : Prop := ∀ a, 8 ≤ a → ∀ s, ztk e s.1 = k → zG e o w a s → ∃ v s', f s = some (v, s') ∧ (∀ x ∈ s'.2.2.2.2, zb x = x) ∧ ∀ x, v = some x → zG e o w a s'
def zOk (e : zE) (o w k : Nat) (f : zP) : Prop := ∀ a, 8 ≤ a → ∀ s, ztk e s.1 = k → zG e o w a s → ∃ v s', f s = some (v, s') ∧ (∀ x ∈ s'.2.2.2.2, zb x = x) ∧ ∀ x, v = some x → zG e o w a s' ∧ (x ≠ 0 → s.2.2.2.2.length + 2 ≤ s'.2.2.2.2.length)
theorem zV_ifk {k : Nat} (hf : zVk e o w k f) (hg : zV e o w o w g) : zV e o w o w (fun s => if ztk e s.1 = k then f s else g s) := by
  intro a ha s hs
  by_cases t : ztk e s.1 = k
  · obtain ⟨v, s', h1, h2⟩ := hf a ha s t hs
    exact ⟨v, s', by show (if ztk e s.1 = k then f s else g s) = _; rw [if_pos t]; exact h1, h2⟩
  · obtain ⟨v, s', h1, h2⟩ := hg a ha s hs
    exact ⟨v, s', by show (if ztk e s.1 = k then f s else g s) = _; rw [if_neg t]; exact h1, h2⟩
theorem zO_ifk {k : Nat} (hf : zOk e o w k f) (hg : zO e o w g) : zO e o w (fun s => if ztk e s.1 = k then f s else g s) := by
  intro a ha s hs
  by_cases t : ztk e s.1 = k
  · obtain ⟨v, s', h1, h2⟩ := hf a ha s t hs
    exact ⟨v, s', by show (if ztk e s.1 = k then f s else g s) = _; rw [if_pos t]; exact h1, h2⟩
  · obtain ⟨v, s', h1, h2⟩ := hg a ha s hs
    exact ⟨v, s', by show (if ztk e s.1 = k then f s else g s) = _; rw [if_neg t]; exact h1, h2⟩
theorem zVk_V {k : Nat} (h : zV e o w o w f) : zVk e o w k f := fun a ha s _ hs => h a ha s hs
theorem zOk_O {k : Nat} (h : zO e o w f) : zOk e o w k f := fun a ha s _ hs => h a ha s hs
theorem zVk_args {k : Nat} (hE : zge e) (hA : zV e (o + 1) w (o + 1) w A) (hk : zoB k = true := by rfl) : zVk e o w k (z_args e A) := by
  intro a ha s t hs
  unfold z_args
  rw [t]
  exact zV_q (pV hE hk) (zV_q (zV_op hE) (zV_q hA (zV_cl hE))) a ha s hs
theorem zVk_agg {k : Nat} (hE : zge e) (hx : zV e (o + 1) w (o + 1) w ex) (hk : zoB k = true := by rfl) : zVk e o w k (z_agg e ex) := by
  intro a ha s t hs
  unfold z_agg
  rw [t]
  have h1 : zV e (o + 1) w (o + 1) w (zi (zci e 89) (zv 0) (zq (zci e 22) ex)) := zV_i (iV hE) zV_v (zV_q (iV hE) hx)
  have h2 : zV e (o + 1) w (o + 1) w (zq (zci e 22) ex) := zV_q (iV hE) hx
  by_cases hc : k = 16
  · rw [if_pos hc]
    exact zV_q (pV hE hk) (zV_q (zV_op hE) (zV_q h1 (zV_cl hE))) a ha s hs
  · rw [if_neg hc]
    exact zV_q (pV hE hk) (zV_q (zV_op hE) (zV_q h2 (zV_cl hE))) a ha s hs
theorem zV_fun (hE : zge e) (hx : zV e (o + 1) w (o + 1) w ex) (hg : zga ex) : zV e o w o w (z_fun e ex) := by
  have h23 : zV e (o + 1) w (o + 1) w (z_a23 e ex) := zV_q hx (zV_q (pV hE) (zV_q hx (zV_i (iV hE) hx zV_v)))
  have h22 : zV e (o + 1) w (o + 1) w (z_a22 e ex) := zV_q hx (zV_q (pV hE) hx)
  have hca : zV e o w o w (z_cast e ex) := zV_q (pV hE) (zV_q (zV_op hE) (zV_q hx (zV_q (pV hE) (zV_q (zV_type hE) (zV_cl hE)))))
  exact zV_ifk (zVk_args hE hx) (zV_ifk (zVk_args hE hx) (zV_ifk (zVk_args hE hx) (zV_ifk (zVk_args hE hx) (zV_ifk (zVk_args hE h23) (zV_ifk (zVk_args hE (zV_exs hE hx hg)) (zV_ifk (zVk_args hE h22) (zV_ifk (zVk_V hca) (zV_ifk (zVk_agg hE hx) (zV_ifk (zVk_agg hE hx) (zV_ifk (zVk_agg hE hx) (zV_ifk (zVk_agg hE hx) (zV_ifk (zVk_agg hE hx) zV_f))))))))))))
theorem zV_cases (hE : zge e) (hx : zV e (o + 1) w (o + 1) w ex) (hg : zga ex) : zV e o w o w (z_cases e ex) := by
  have h1 : zV e (o + 1) w (o + 1) w (zl_whens e ex) := zV_q (pV hE) (zV_q hx (zV_q (pV hE) (zV_q hx (zV_c zV_v zV_v))))
  have h2 : zss (zl_whens e ex) := zss_q1 (zga_q hg (zga_q zga_cp (zga_q hg (zga_c zga_v zga_v))))
  have h3 : zV e o w (o + 1) w (zcp e 10) := fun _ _ => zM_case hE
  have h4 : zV e (o + 1) w o w (zcp e 25) := fun _ _ => zM_close hE (Or.inr rfl)
  exact zV_q h3 (zV_q (zV_lp hE h1 h2) (zV_q (zV_i (iV hE) hx zV_v) h4))
/-- answers 0 -/
theorem zO_r0 (h : zV e o w o w f) (h0 : ∀ s v s', f s = some (some v, s') → v = 0) : zO e o w f := by
  intro a ha s hs
  obtain ⟨v, s', h1, h2, h3⟩ := h a ha s hs
  refine ⟨v, s', h1, h2, fun x q => ⟨h3 x q, fun hx => ?_⟩⟩
  rw [q] at h1
  exact absurd (h0 _ _ _ h1) hx
theorem zq_r0 (h0 : ∀ s v s', g s = some (some v, s') → v = 0) : ∀ s v s', zq f g s = some (some v, s') → v = 0 := by
  intro s v s' h
  rcases zbd_inv h with ⟨-, q⟩ | ⟨a1, s1, h1, h2⟩
  · cases q
  · exact h0 _ _ _ h2
theorem zv_r0 : ∀ s v s', zv 0 s = some (some v, s') → v = 0 := by
  intro s v s' h; cases h; rfl
theorem zi_r0 (h1 : ∀ s v s', g s = some (some v, s') → v = 0) (h2 : ∀ s v s', c s = some (some v, s') → v = 0) : ∀ s v s', zi f g c s = some (some v, s') → v = 0 := by
  intro s v s' h
  rcases zbd_inv h with ⟨-, q⟩ | ⟨a1, s1, k1, k2⟩
  · cases q
  · split at k2
    · exact h2 _ _ _ k2
    · exact h1 _ _ _ k2
theorem zO_0 (h : zV e o w o w f) : zO e o w (zq f (zv 0)) := zO_r0 (zV_q h zV_v) (zq_r0 zv_r0)
theorem zOk_st (hE : zge e) : zOk e o w 101 (zq (zst e) (zv 0)) := by
  intro a ha s t hs
  obtain ⟨v, s', h1, h2, h3⟩ := zV_st hE a ha s hs
  unfold zc at h1
  rw [if_pos t] at h1
  unfold zq
  rw [h1]
  cases v with
  | none => exact ⟨none, s', rfl, h2, fun _ q => by cases q⟩
  | some x => exact ⟨some 0, s', rfl, h2, fun y q => by cases q; exact ⟨h3 x rfl, fun q => absurd rfl q⟩⟩
theorem zO_br (hE : zge e) (hx : zO e (o + 1) w ex) : zO e o w (zq (zsk e 82) (fun s => zbd (ex s) fun ma s => zq (zsk e 83) (zv ma) s)) := by
  intro a ha s hs
  obtain ⟨i, op, mx, ww, P⟩ := s
  obtain ⟨g1, g2, g3, g4, g5, g6⟩ := hs
  have g1 : op = o := g1
  have g3 : P.length + 2 * w + a ≤ 8 * zfr e i := g3
  have h100 := hE.2.1
  have g4 : i < e.1.length := g4
  by_cases t : ztk e i = 82
  · by_cases h40 : 40 ≤ op
    · refine ⟨none, (i, op, mx, ww, P), ?_, g6, fun _ q => by cases q⟩
      unfold zq zsk zc zstep
      rw [if_pos t, if_pos (Or.inl t)]
      unfold zq zrise
      rw [if_pos (by exact h40)]
      rfl
    · have e1 : zsk e 82 (i, op, mx, ww, P) = some (some 0, (i + 1, op + 1, max mx (op + 1), ww, P)) := by
        unfold zsk zc zstep
        rw [if_pos t, if_pos (Or.inl t)]
        unfold zq zrise
        rw [if_neg (by exact h40), zbd_some]
        unfold znext
        rw [if_neg (by show ¬ 100000 ≤ i; omega)]
      obtain ⟨n1, n2, n3⟩ := hE.2.2.2.1 i (by omega)
      have hG : zG e (o + 1) w a (i + 1, op + 1, max mx (op + 1), ww, P) := ⟨by show op + 1 = o + 1; omega, g2, by show P.length + 2 * w + a ≤ 8 * zfr e (i + 1); omega, n1, by omega, g6⟩
      obtain ⟨v, s2, k1, k2, k3⟩ := hx a ha _ hG
      have e2 : zq (zsk e 82) (fun s => zbd (ex s) fun ma s => zq (zsk e 83) (zv ma) s) (i, op, mx, ww, P) = zbd (ex (i + 1, op + 1, max mx (op + 1), ww, P)) (fun ma s => zq (zsk e 83) (zv ma) s) := by
        unfold zq
        rw [e1]
        rfl
      rw [e2, k1]
      cases v with
      | none => exact ⟨none, s2, rfl, k2, fun _ q => by cases q⟩
      | some ma =>
        rw [zbd_some]
        obtain ⟨j, oq, my, wq, Q⟩ := s2
        obtain ⟨⟨f1, f2, f3, f4, f5, f6⟩, m2⟩ := k3 ma rfl
        have f1 : oq = o + 1 := f1
        have f3 : Q.length + 2 * w + a ≤ 8 * zfr e j := f3
        have f4 : j < e.1.length := f4
        by_cases t2 : ztk e j = 83
        · obtain ⟨n1, n2, n3⟩ := hE.2.2.2.1 j (by omega)
          refine ⟨some ma, (j + 1, oq - 1, my, wq, Q), ?_, f6, fun x q => ?_⟩
          · unfold zq zsk zc zstep
            rw [if_pos t2, if_neg (show ¬ (ztk e j = 82 ∨ ztk e j = 10) by omega), if_pos (Or.inl t2)]
            unfold zq zdown
            rw [if_neg (by show ¬ oq = 0; omega), zbd_some]
            unfold znext
            rw [if_neg (by show ¬ 100000 ≤ j; omega), zbd_some]
            rfl
          · cases q
            exact ⟨⟨by show oq - 1 = o; omega, f2, by show Q.length + 2 * w + a ≤ 8 * zfr e (j + 1); omega, n1, by omega, f6⟩, m2⟩
        · refine ⟨none, (j, oq, my, wq, Q), ?_, f6, fun _ q => by cases q⟩
          unfold zq zsk zc
          rw [if_neg t2]; rfl
  · refine ⟨none, (i, op, mx, ww, P), ?_, g6, fun _ q => by cases q⟩
    unfold zq zsk zc
    rw [if_neg t]; rfl
theorem zO_prim (hE : zge e) (hx : zO e (o + 1) w ex) (hg : zga ex) (hq : zV e (o + 1) w (o + 1) w qy) : zO e o w (z_prim e ex qy) := by
  have hv := zO_V hx
  have h4 : zO e o w (zq (znm e) (zi (zci e 85) (zq (znm e) (zv 0)) (zv 0))) := zO_r0 (zV_q (zV_nm hE) (zV_i (iV hE) (zV_q (zV_nm hE) zV_v) zV_v)) (zq_r0 (zi_r0 (zq_r0 zv_r0) zv_r0))
  have h6 : zO e o w (zq (zcp e 27) (zq (zcp e 82) (zq qy (zq (zcp e 83) (zv 0))))) := zO_r0 (zV_q (pV hE) (zV_q (zV_op hE) (zV_q hq (zV_q (zV_cl hE) zV_v)))) (zq_r0 (zq_r0 (zq_r0 (zq_r0 zv_r0))))
  exact zO_ifk (zOk_O (zO_0 (zV_nu hE))) (zO_ifk (zOk_st hE) (zO_ifk (zOk_O (zO_0 (pV hE))) (zO_ifk (zOk_O h4) (zO_ifk (zOk_O (zO_br hE hx)) (zO_ifk (zOk_O h6) (zO_ifk (zOk_O (zO_0 (zV_cases hE hv hg))) (zO_0 (zV_fun hE hv hg))))))))
theorem zsp_m (hE : zge e) : ∀ n o w, w ≤ 7 * o → (2 * (40 - o) + 1 ≤ n → zO e o w (zsp e n true)) ∧ (2 * (40 - o) + 2 ≤ n → zV e o w o w (zsp e n false)) := by
  intro n
  induction n with
  | zero => intro o w hw; exact ⟨fun h => by omega, fun h => by omega⟩
  | succ n ih =>
    intro o w hw
    constructor
    · intro hn
      have hex : ∀ o' w', o ≤ o' → w' ≤ 7 * o' + 6 → zO e (o' + 1) w' (zsp e n true) := fun o' w' h1 h2 => zO_40 (fun h40 => (ih (o' + 1) w' (by omega)).1 (by omega))
      have hqy : ∀ o' w', o ≤ o' → w' ≤ 7 * o' + 6 → zV e (o' + 1) w' (o' + 1) w' (zsp e n false) := fun o' w' h1 h2 => zV_40 (fun h40 => (ih (o' + 1) w' (by omega)).2 (by omega))
      have gw := zsp_g hE.1 n true
      have gq := zsp_g hE.1 n false
      have ga := zsp_a (e := e) n true
      have gb := zsp_a (e := e) n false
      have hpr : ∀ o' w', o ≤ o' → w' ≤ 7 * o' + 6 → zO e o' w' (z_prim e (zsp e n true) (zsp e n false)) := fun o' w' h1 h2 => zO_prim hE (hex o' w' h1 h2) ga (hqy o' w' h1 h2)
      exact zO_ex hE hw (fun o' w' h1 h2 => zO_cmp hE h2 (fun o2 w2 h3 h4 => hpr o2 w2 (by omega) h4) (zgw_prim gw gq) (zga_prim ga gb) (zO_V (hex o' w' h1 (by omega))) ga gw (hqy o' w' h1 (by omega)) gq) (zgw_cmp hE.1 (zgw_prim gw gq) gw gq) (zga_cmp (zga_prim ga gb) ga gb)
    · intro hn
      exact zV_query hE (zO_V ((ih o w hw).1 (by omega))) (zsp_a n true)
end ZRZ
