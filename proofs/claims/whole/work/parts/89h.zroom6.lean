/-! THERE IS ALWAYS ROOM: a text can always be read. (Printed by wip/whole/pp.py from wip/whole/src.) -/
section ZRW
variable {e : zE} {s s' : zS} {o w a : Nat} {f g c ex qy : zP} {t : List Int32}
theorem zgw_names : zgw (z_names e) := zgw_q zgw_cp (zgw_q zgw_nm (zgw_q (zgw_lp (zgw_i zgw_ci (zgw_q zgw_nm zgw_v) zgw_v) _) zgw_cp))
theorem zgw_brex (hx : zgw ex) : zgw (z_brex e ex) := zgw_q zgw_cp (zgw_q hx zgw_cp)
theorem zgw_preset : zgw (z_preset e) := zgw_c zgw_st (zgw_i zgw_ci zgw_v (zgw_q zgw_ci zgw_nu))
theorem zgw_refer : zgw (z_refer e) := zgw_q zgw_nm (zgw_i zgw_ci (zgw_q zgw_cp (zgw_i zgw_ci zgw_cp (zgw_i zgw_ci zgw_v zgw_cp))) zgw_put)
theorem zgw_option (hx : zgw ex) : zgw (z_option e ex) := zgw_i zgw_ci (zgw_q zgw_cp zgw_v) (zgw_i zgw_ci (zgw_q zgw_cp zgw_v) (zgw_i zgw_ci (zgw_q zgw_preset zgw_v) (zgw_i zgw_ci (zgw_q (zgw_brex hx) zgw_v) (zgw_i zgw_ci (zgw_q zgw_refer zgw_v) zgw_ci))))
theorem zgw_elem (hx : zgw ex) : zgw (z_elem e ex) := zgw_c (zgw_q zgw_nm (zgw_q (zgw_i zgw_ci zgw_v zgw_cp) (zgw_lp (zgw_option hx) _))) (zgw_i zgw_ci (zgw_brex hx) (zgw_i zgw_ci zgw_names (zgw_q zgw_cp (zgw_q zgw_cp zgw_names))))
theorem zgw_table (hx : zgw ex) : zgw (z_table e ex) := zgw_q zgw_cp (zgw_q zgw_nm (zgw_q zgw_cp (zgw_q (zgw_lp (zgw_q (zgw_elem hx) zgw_ci) _) (zgw_q zgw_cp zgw_v))))
theorem zgw_index : zgw (z_index e) := zgw_q zgw_ci (zgw_q zgw_cp (zgw_q zgw_nm (zgw_q zgw_cp (zgw_q zgw_nm (zgw_q zgw_names zgw_v)))))
/-- it makes the plain form longer -/
def zg1 (f : zP) : Prop := ∀ s v s', f s = some (some v, s') → s.2.2.2.2.length < s'.2.2.2.2.length
theorem zg1_q {k : Nat} (hf : zgw f) (hk : k < 99 := by decide) : zg1 (zq (zcp e k) f) := fun s v s' h => zgw_1 hk hf h
theorem zg1_if {b : zS → Prop} [∀ s, Decidable (b s)] (hf : zg1 f) (hg : zg1 g) : zg1 (fun s => if b s then f s else g s) := by
  intro s v s' h
  have h : (if b s then f s else g s) = some (some v, s') := h
  by_cases hk : b s
  · rw [if_pos hk] at h; exact hf _ _ _ h
  · rw [if_neg hk] at h; exact hg _ _ _ h
theorem zg1_v {v : Nat} (hf : zg1 f) : zg1 (zq f (zv v)) := by
  intro s v s' h
  rcases zbd_inv h with ⟨-, q⟩ | ⟨a1, s1, h1, h2⟩
  · cases q
  · cases h2; exact hf _ _ _ h1
theorem zg1_stmt (hx : zgw ex) (hq : zgw qy) (hq1 : zg1 qy) : zg1 (z_stmt e ex qy) := by
  refine zg1_if (zg1_q (zgw_c (zgw_table hx) zgw_index)) ?_
  refine zg1_if (zg1_q (zgw_c (zgw_q zgw_cp (zgw_q zgw_nm zgw_v)) (zgw_q zgw_cp (zgw_q zgw_nm zgw_v)))) ?_
  refine zg1_if (zg1_q (zgw_q zgw_cp (zgw_q zgw_nm (zgw_q (zgw_c zgw_names zgw_v) (zgw_c (zgw_q hq zgw_v) (zgw_q zgw_cp (zgw_q (zgw_lp (zgw_q zgw_cp (zgw_q (zgw_exs hx) (zgw_q zgw_cp zgw_ci))) _) zgw_v))))))) ?_
  refine zg1_if (zg1_q (zgw_q zgw_nm (zgw_q zgw_cp (zgw_q (zgw_lp (zgw_q zgw_nm (zgw_q zgw_cp (zgw_q hx zgw_ci))) _) (zgw_q (zgw_cond hx) zgw_v))))) ?_
  refine zg1_if (zg1_q (zgw_q zgw_cp (zgw_q zgw_nm (zgw_q (zgw_cond hx) zgw_v)))) ?_
  refine zg1_if (zg1_v hq1) ?_
  refine zg1_if (zg1_q (zgw_q (zgw_i zgw_ci (zgw_i zgw_ci zgw_v zgw_cp) (zgw_i zgw_ci zgw_v zgw_put)) zgw_v)) ?_
  refine zg1_if (zg1_q (zgw_i zgw_ci (zgw_q zgw_nu zgw_v) zgw_v)) ?_
  refine zg1_if (zg1_q (zgw_i zgw_ci (zgw_q zgw_nm zgw_v) (zgw_i zgw_ci (zgw_q zgw_nu zgw_v) zgw_v))) ?_
  refine zg1_if (zg1_q (zgw_q zgw_nm zgw_v)) ?_
  refine zg1_if (zg1_q (zgw_q zgw_cp (zgw_q zgw_nm (zgw_q zgw_cp (zgw_q (zgw_i zgw_ci zgw_v zgw_cp) (zgw_q zgw_cp zgw_v)))))) ?_
  exact zg1_if (zg1_q (zgw_q zgw_nu zgw_v)) (fun s v s' h => by cases h)
theorem zread_ok (hE : zge e) (h0 : 0 < e.1.length) : ∃ v s', zread e 90 = some (v, s') ∧ ∀ x ∈ s'.2.2.2.2, zb x = x := by
  have gw := zsp_g hE.1 90 true
  have gq := zsp_g hE.1 90 false
  have ga := zsp_a (e := e) 90 true
  have hx : ∀ o, zV e o 0 o 0 (zsp e 90 true) := fun o => zO_V ((zsp_m hE 90 o 0 (by omega)).1 (by omega))
  have hq0 : zV e 0 0 0 0 (zsp e 90 false) := (zsp_m hE 90 0 0 (by omega)).2 (by omega)
  have hx89 : zV e 0 0 0 0 (zsp e 89 true) := zO_V ((zsp_m hE 89 0 0 (by omega)).1 (by omega))
  have hq : zST e (zsp e 90 false) := zST_q (k := 65) (g := z_qrest e (zsp e 89 true)) hE (zV_qrest hE hx89 (zsp_a 89 true))
  have hq1 : zg1 (zsp e 90 false) := by
    have w89 := zsp_g hE.1 89 true
    intro s v s' h
    refine zgw_1 (k := 65) (f := z_qrest e (zsp e 89 true)) (by decide) ?_ h
    exact zgw_q zgw_ci (zgw_q (zgw_i zgw_ci zgw_v (zgw_items w89)) (zgw_q (zgw_i zgw_ci (zgw_sources w89) zgw_v) (zgw_q (zgw_cond w89) (zgw_q (zgw_i zgw_ci (zgw_q zgw_cp (zgw_exs w89)) zgw_v) (zgw_q (zgw_i zgw_ci (zgw_q w89 zgw_v) zgw_v) (zgw_q (zgw_i zgw_ci (zgw_q zgw_cp (zgw_orders w89)) zgw_v) (zgw_i zgw_ci (zgw_q zgw_nu (zgw_i zgw_ci (zgw_q zgw_nu zgw_v) zgw_v)) zgw_v)))))))
  have hG : zG e 0 0 0 (0, 0, 0, 0, []) := ⟨rfl, rfl, Nat.zero_le _, h0, Nat.zero_le _, fun x hx => by cases hx⟩
  obtain ⟨v1, s1, k1, k2, k3⟩ := zST_stmt hE hx ga hq hq0 _ hG
  unfold zread
  rw [k1]
  cases v1 with
  | none => exact ⟨none, s1, rfl, k2⟩
  | some x1 =>
    rw [zbd_some]
    have g1 := k3 x1 rfl
    have m1 := zg1_stmt gw gq hq1 _ _ _ k1
    have m1 : 0 < s1.2.2.2.2.length := m1
    obtain ⟨v2, s2, j1, j2, j3⟩ := siV (k := 86) hE rfl 8 (Nat.le_refl _) s1 g1
    unfold z_finish zq
    rw [j1]
    cases v2 with
    | none => exact ⟨none, s2, rfl, j2⟩
    | some x2 =>
      rw [zbd_some]
      have m2 := zgw_si _ _ _ j1
      have g2 := j3 x2 rfl
      have h100 := hE.2.1
      have g24 := g2.2.2.2.1
      by_cases t : ztk e s2.1 = 102
      · have e1 : zsk e 102 s2 = some (some 0, (s2.1 + 1, s2.2)) := by
          unfold zsk zc zstep
          rw [if_pos t, if_neg (by omega), if_neg (by omega)]
          unfold znext
          rw [if_neg (by omega)]
        rw [e1, zbd_some]
        unfold zdrop
        rw [if_neg (by show ¬ s2.2.2.2.2.length = 0; omega), zbd_some]
        exact ⟨some x1, _, rfl, fun x hx => j2 x (List.mem_of_mem_take hx)⟩
      · have e1 : zsk e 102 s2 = some (none, s2) := by
          unfold zsk zc
          rw [if_neg t]; rfl
        rw [e1]
        exact ⟨none, s2, rfl, j2⟩
/-- a text of bytes, not too long, can be read -/
theorem zread_t (hl : t.length ≤ 65536) (hB : ∀ x ∈ t, zb x = x) : ∃ v s', zread (zen t) 90 = some (v, s') ∧ ∀ x ∈ s'.2.2.2.2, zb x = x := zread_ok (zen_ge hl hB) zen_pos
end ZRW
