/-! THERE IS ALWAYS ROOM: operands and operators; all. (Printed by wip/whole/pp.py from wip/whole/src.) -/
section ZRY
variable {e : zE} {s s' : zS} {o w a lo mp l0 : Nat} {f g c ex qy pr : zP}
theorem zops_m (hE : zge e) (hlm : (lo = 5 ∧ mp = 8) ∨ (lo = 1 ∧ mp = 3)) (ha : 8 ≤ a) {K : Nat} (hK : K ≤ 6) (hw : w + (mp - lo) ≤ 7 * o + K) {kp : Nat} (hk : zoB kp = true) {fam : Nat → Bool} (hfam : ∀ i, fam (zmk e i) = true → (lo ≤ zmk e i ∧ zmk e i < mp) ∧ zoB (ztk e i) = true) {od : zP} (hod : ∀ o' w', o ≤ o' → w' ≤ 7 * o' + K → zO e o' w' od) (hgw : zgw od) (hga : zga od) : ∀ (n : Nat) (p : zK) (s : zS), e.1.length - s.1 < n → zlo lo mp l0 mp s.2.2.2.2.length p → zG e (o + zct mp p) (w + p.length) a s → l0 ≤ s.2.2.2.2.length → ∃ v s', zops e kp mp fam od n p s = some (v, s') ∧ (∀ x ∈ s'.2.2.2.2, zb x = x) ∧ ∀ x, v = some x → zG e o w a s' ∧ (x ≠ 0 → l0 + 2 ≤ s'.2.2.2.2.length) := by
  intro n
  induction n with
  | zero => intro p s hn; omega
  | succ n ih =>
    intro p s hn hz hg hl0
    simp only [zops]
    obtain ⟨v1, s1, k1, k2, k3⟩ := zpre_m (l0 := l0) hE hlm ha (by omega) hk 42 p s (by omega) hz hg hl0
    rw [k1]
    cases v1 with
    | none => exact ⟨none, s1, rfl, k2, fun _ q => by cases q⟩
    | some p1 =>
      obtain ⟨z1, g1⟩ := k3 p1 rfl
      rw [zbd_some]
      have a1 := zpre_a _ _ _ _ _ k1
      have e1 := zpre_g _ _ _ _ _ k1
      have hl1 := zlo_len _ _ _ z1
      obtain ⟨v4, s4, j1, j2, j3⟩ := hod (o + zct mp p1) (w + p1.length) (by omega) (by omega) a ha s1 g1
      rw [j1]
      cases v4 with
      | none => exact ⟨none, s4, rfl, j2, fun _ q => by cases q⟩
      | some ma =>
        obtain ⟨g4, m4⟩ := j3 ma rfl
        rw [zbd_some]
        have a4 := hga _ _ _ j1
        have e4 := hgw _ _ _ j1
        obtain ⟨p2, ma2, s2, c1, c2, c3⟩ := zcomb_m (l0 := l0) (nx := if fam (zmk e s4.1) = true then zmk e s4.1 else 0) (st := s1.2.2.2.2.length) (ma := ma) hE hlm (by
          by_cases hf : fam (zmk e s4.1) = true
          · rw [if_pos hf]; exact Or.inr (hfam _ hf).1
          · rw [if_neg hf]; exact Or.inl rfl) ha (by omega) z1 g4 (by omega) e4 m4
        rw [c1, zbd_some]
        have at2 := zcomb_at c1
        by_cases hf : fam (zmk e s2.1) = true
        · rw [if_pos hf]
          obtain ⟨f1, f2⟩ := hfam _ hf
          have hnx : (if fam (zmk e s4.1) = true then zmk e s4.1 else 0) ≠ 0 := by
            rw [← at2, if_pos hf]; omega
          obtain ⟨z2, g2⟩ := c3 hnx
          obtain ⟨v5, s5, q1, q2, q3⟩ := zM_cp hE (zoB_o f2).1 (zoB_o f2).2 s2 g2
          rw [q1]
          cases v5 with
          | none => exact ⟨none, s5, rfl, q2, fun _ q => by cases q⟩
          | some x5 =>
            rw [zbd_some]
            have g5 := q3 x5 rfl
            have a5 := zcp_s q1
            have e5 := zgw_cp _ _ _ q1
            have hp := zw_pos (zoB_o f2).2
            rw [if_neg (by omega)]
            have hl5 : l0 ≤ s5.2.2.2.2.length := by
              cases p2 with
              | nil =>
                exfalso
                unfold zcomb at c1
                rcases zbd_inv c1 with ⟨-, q⟩ | ⟨b1, t1, r1, r2⟩
                · cases q
                rw [if_neg hnx] at r2
                rcases zbd_inv r2 with ⟨-, q⟩ | ⟨b2, t2, r3, r4⟩
                · cases q
                rcases zbd_inv r4 with ⟨-, q⟩ | ⟨b3, t3, r5, r6⟩
                · cases q
                have := (zpush_inv r3).2.1
                cases this
                cases r6
              | cons q r => have h1 := z2.1; have h2 := z2.2.1; omega
            exact ih p2 s5 (by have := g5.2.2.2.1; omega) (zlo_st z2 e5) (zG_le g5 (by omega)) hl5
        · rw [if_neg hf]
          have hnx : (if fam (zmk e s4.1) = true then zmk e s4.1 else 0) = 0 := by
            rw [← at2, if_neg hf]
          obtain ⟨g2, m2⟩ := c2 hnx
          exact ⟨some ma2, s2, rfl, g2.2.2.2.2.2, fun x q => by cases q; exact ⟨g2, m2⟩⟩
theorem zmk_f0 : (List.range 104).all (fun k => decide ((qr_en.getD k (0, 0)).2.toNatClampNeg < 8 ∧ ((qr_en.getD k (0, 0)).2.toNatClampNeg = 0 ∨ zoB k = true))) = true := by decide +kernel
theorem zmk_f (hE : zge e) (i : Nat) : zmk e i < 8 ∧ (zmk e i = 0 ∨ zoB (ztk e i) = true) := of_decide_eq_true (List.all_eq_true.mp zmk_f0 (ztk e i) (List.mem_range.mpr (hE.1 i)))
theorem zO_sum (hE : zge e) (hw : w ≤ 7 * o + 3) (hpr : ∀ o' w', o ≤ o' → w' ≤ 7 * o' + 6 → zO e o' w' pr) (hgw : zgw pr) (hga : zga pr) : zO e o w (z_sum e pr) := by
  intro a ha s hs
  refine zops_m (lo := 5) (mp := 8) (K := 6) hE (Or.inl ⟨rfl, rfl⟩) ha (by omega) (by omega) rfl ?_ hpr hgw hga zN [] s (by have := hE.2.1; unfold zN; omega) trivial hs (Nat.le_refl _)
  intro i hf
  have hf : 5 ≤ zmk e i := of_decide_eq_true hf
  have := zmk_f hE i
  exact ⟨⟨hf, this.1⟩, this.2.resolve_left (by omega)⟩
theorem zM_test (hw : w < 300) : zM e ztest o w (a + 2) o (w + 1) a := by
  intro s hs
  obtain ⟨g1, g2, g3, g4, g5, g6⟩ := hs
  refine ⟨some 0, (s.1, s.2.1, s.2.2.1, s.2.2.2.1 + 1, s.2.2.2.2), ?_, g6, fun _ _ => ⟨g1, by show s.2.2.2.1 + 1 = w + 1; omega, ?_, g4, g5, g6⟩⟩
  · unfold ztest; rw [if_neg (by omega)]
  · show s.2.2.2.2.length + 2 * (w + 1) + a ≤ 8 * zfr e s.1
    omega
theorem zM_pop : zM e zpop o (w + 1) a o w (a + 2) := by
  intro s hs
  obtain ⟨g1, g2, g3, g4, g5, g6⟩ := hs
  refine ⟨some 0, (s.1, s.2.1, s.2.2.1, s.2.2.2.1 - 1, s.2.2.2.2), ?_, g6, fun _ _ => ⟨g1, by show s.2.2.2.1 - 1 = w; omega, ?_, g4, g5, g6⟩⟩
  · unfold zpop; rw [if_neg (by omega)]
  · show s.2.2.2.2.length + 2 * w + (a + 2) ≤ 8 * zfr e s.1
    omega
theorem zV_members (hE : zge e) (hx : zV e (o + 1) w (o + 1) w ex) (hg : zga ex) (hq : zV e (o + 1) w (o + 1) w qy) : zV e o w o w (z_members e ex qy) := zV_q (zV_op hE) (zV_q (zV_c hq (zV_exs hE hx hg)) (zV_cl hE))
def z_tb (e : zE) (pr ex qy : zP) : zP := fun s =>
  if zmk e s.1 = 4 then zq (zcp e (ztk e s.1)) (zq ztest (zq (z_sum e pr) zpop)) s
  else zi (zci e 37) (zq (zci e 49) (zcp e 50)) (zq (zci e 49) (zi (zci e 31) (z_members e ex qy) (zi (zci e 7) (zq ztest (zq (z_sum e pr) (zq (zcp e 2) (zq (z_sum e pr) zpop)))) (zq (zcp e 42) (zq ztest (zq (z_sum e pr) zpop)))))) s
theorem zgw_tb (hlt : ∀ i, ztk e i < 104) (hpr : zgw pr) (hex : zgw ex) (hqy : zgw qy) : zgw (z_tb e pr ex qy) := by
  have hs := zgw_sum (e := e) hlt hpr
  refine zgw_if (fun s v s' h => ?_) ?_
  · exact zgw_q zgw_cp (zgw_q zgw_test (zgw_q hs zgw_pop)) s v s' h
  · exact zgw_i zgw_ci (zgw_q zgw_ci zgw_cp) (zgw_q zgw_ci (zgw_i zgw_ci (zgw_members hex hqy) (zgw_i zgw_ci (zgw_q zgw_test (zgw_q hs (zgw_q zgw_cp (zgw_q hs zgw_pop)))) (zgw_q zgw_cp (zgw_q zgw_test (zgw_q hs zgw_pop))))))
theorem cpM {k : Nat} (hE : zge e) (h : zoB k = true := by rfl) : zM e (zcp e k) o w a o w (a + 6) := zM_le (zM_cp hE (zoB_o h).1 (zoB_o h).2) (Nat.le_refl _) (by have := zw_pos (zoB_o h).2; omega)
theorem iciM {k a' : Nat} (hE : zge e) (h2 : zM e g o w (a + 6) o w a') (h3 : zM e c o w a o w a') (h : zoB k = true := by rfl) : zM e (zi (zci e k) g c) o w a o w a' := zM_ici hE (zoB_o h).1 (zoB_o h).2 (zM_le h2 (by have := zw_pos (zoB_o h).2; omega) (Nat.le_refl _)) h3
theorem zM_tb (hE : zge e) (ha : 6 ≤ a) (hw : w < 300) (hs : zV e o (w + 1) o (w + 1) (z_sum e pr)) (hx : zV e (o + 1) w (o + 1) w ex) (hg : zga ex) (hq : zV e (o + 1) w (o + 1) w qy) : zM e (z_tb e pr ex qy) o w a o w (a + 4) := by
  have h1 : zM e (zq ztest (zq (z_sum e pr) zpop)) o w (a + 6) o w (a + 4) := zM_q (zM_test (a := a + 4) hw) (zM_q (hs (a + 4) (by omega)) (zM_le zM_pop (Nat.le_refl _) (by omega)))
  have h2 : zM e (zq ztest (zq (z_sum e pr) (zq (zcp e 2) (zq (z_sum e pr) zpop)))) o w (a + 6) o w (a + 4) := zM_q (zM_test (a := a + 4) hw) (zM_q (hs (a + 4) (by omega)) (zM_q (pV hE rfl (a + 4) (by omega)) (zM_q (hs (a + 4) (by omega)) (zM_le zM_pop (Nat.le_refl _) (by omega)))))
  intro s hG
  unfold z_tb
  by_cases h4 : zmk e s.1 = 4
  · rw [if_pos h4]
    exact zM_q (cpM hE ((zmk_f hE s.1).2.resolve_left (by omega))) h1 s hG
  · rw [if_neg h4]
    have h5 : zM e (zq (zci e 49) (zcp e 50)) o w (a + 6) o w (a + 4) := zM_q (ciM hE) (zM_le (cpM hE) (Nat.le_refl _) (by omega))
    have h6 : zM e (z_members e ex qy) o w (a + 6) o w (a + 4) := zM_le (zV_members hE hx hg hq (a + 6) (by omega)) (Nat.le_refl _) (by omega)
    have h7 : zM e (zi (zci e 37) (zq (zci e 49) (zcp e 50)) (zq (zci e 49) (zi (zci e 31) (z_members e ex qy) (zi (zci e 7) (zq ztest (zq (z_sum e pr) (zq (zcp e 2) (zq (z_sum e pr) zpop)))) (zq (zcp e 42) (zq ztest (zq (z_sum e pr) zpop))))))) o w a o w (a + 4) := iciM hE h5 (zM_q (ciM hE) (iciM hE h6 (iciM hE h2 (zM_q (cpM hE) h1))))
    exact h7 s hG
theorem zO_cmp (hE : zge e) (hw : w ≤ 7 * o + 2) (hpr : ∀ o' w', o ≤ o' → w' ≤ 7 * o' + 6 → zO e o' w' pr) (hgw : zgw pr) (hga : zga pr) (hx : zV e (o + 1) w (o + 1) w ex) (hgx : zga ex) (hwx : zgw ex) (hq : zV e (o + 1) w (o + 1) w qy) (hwq : zgw qy) : zO e o w (z_cmp e pr ex qy) := by
  intro a ha s hs
  obtain ⟨v1, s1, k1, k2, k3⟩ := zO_sum hE (by omega) hpr hgw hga a ha s hs
  have ho := hs.2.2.2.2.1
  unfold z_cmp
  rw [k1]
  cases v1 with
  | none => exact ⟨none, s1, rfl, k2, fun _ q => by cases q⟩
  | some ma =>
    obtain ⟨g1, m1⟩ := k3 ma rfl
    have e1 := zgw_sum hE.1 hgw _ _ _ k1
    rw [zbd_some]
    split
    · have et : z_test e pr ex qy s.2.2.2.2.length s1 = zbd (zopen s.2.2.2.2.length s1) (fun _ s => zq (z_tb e pr ex qy) (zq (zput (zt 1008)) (zv 4)) s) := rfl
      rw [et]
      obtain ⟨i, op, mx, ww, P⟩ := s1
      have e1 : s.2.2.2.2.length ≤ P.length := e1
      obtain ⟨g1, g2, g3, g4, g5, g6⟩ := g1
      have g3 : P.length + 2 * w + a ≤ 8 * zfr e i := g3
      have hf := hE.2.2.1 i
      have hlen : (P.take s.2.2.2.2.length ++ [40, 32] ++ P.drop s.2.2.2.2.length).length = P.length + 2 := by
        simp only [List.length_append, List.length_take, List.length_drop, List.length_cons, List.length_nil]; omega
      have eo : zopen s.2.2.2.2.length (i, op, mx, ww, P) = some (some 0, (i, op, mx, ww, P.take s.2.2.2.2.length ++ [40, 32] ++ P.drop s.2.2.2.2.length)) := by
        unfold zopen
        rw [if_neg (by show ¬ (P.length < s.2.2.2.2.length ∨ 524288 < P.length + 2); omega)]
      rw [eo, zbd_some]
      have hG : zG e o w (a - 2) (i, op, mx, ww, P.take s.2.2.2.2.length ++ [40, 32] ++ P.drop s.2.2.2.2.length) := by
        refine ⟨g1, g2, ?_, g4, g5, ?_⟩
        · show (P.take s.2.2.2.2.length ++ [40, 32] ++ P.drop s.2.2.2.2.length).length + 2 * w + (a - 2) ≤ 8 * zfr e i
          omega
        · intro x hx
          have hx : x ∈ P.take s.2.2.2.2.length ++ [40, 32] ++ P.drop s.2.2.2.2.length := hx
          rw [List.mem_append, List.mem_append] at hx
          rcases hx with (hx | hx) | hx
          · exact g6 x (List.mem_of_mem_take hx)
          · rcases List.mem_cons.mp hx with q | q
            · rw [q]; decide
            · rw [List.mem_singleton.mp q]; decide
          · exact g6 x (List.mem_of_mem_drop hx)
      have hr : zM e (zq (z_tb e pr ex qy) (zq (zput (zt 1008)) (zv 4))) o w (a - 2) o w a := zM_q (zM_tb hE (by omega) (by omega) (zO_V (zO_sum hE (by omega) hpr hgw hga)) hx hgx hq) (zM_q (zM_put hE (zt_b _ (by decide)) (by have := zt8; omega)) zM_v)
      obtain ⟨v, s', j1, j2, j3⟩ := hr _ hG
      refine ⟨v, s', j1, j2, fun x q => ⟨j3 x q, fun _ => ?_⟩⟩
      rw [q] at j1
      have j4 : (P.take s.2.2.2.2.length ++ [40, 32] ++ P.drop s.2.2.2.2.length).length ≤ s'.2.2.2.2.length := zgw_q (zgw_tb hE.1 hgw hwx hwq) (zgw_q zgw_put zgw_v) _ _ _ j1
      omega
    · exact ⟨some ma, s1, rfl, k2, fun x q => by cases q; exact ⟨g1, m1⟩⟩
theorem zO_ex (hE : zge e) (hw : w ≤ 7 * o) (hcm : ∀ o' w', o ≤ o' → w' ≤ 7 * o' + 2 → zO e o' w' (z_cmp e (z_prim e ex qy) ex qy)) (hgw : zgw (z_cmp e (z_prim e ex qy) ex qy)) (hga : zga (z_cmp e (z_prim e ex qy) ex qy)) : zO e o w (z_ex e ex qy) := by
  intro a ha s hs
  refine zops_m (lo := 1) (mp := 3) (K := 2) hE (Or.inr ⟨rfl, rfl⟩) ha (by omega) (by omega) rfl ?_ hcm hgw hga zN [] s (by have := hE.2.1; unfold zN; omega) trivial hs (Nat.le_refl _)
  intro i hf
  have hf : zmk e i = 1 ∨ zmk e i = 2 := of_decide_eq_true hf
  have := zmk_f hE i
  exact ⟨by omega, this.2.resolve_left (by omega)⟩
end ZRY
