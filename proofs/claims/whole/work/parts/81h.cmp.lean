/-! COMPARISONS, OPERANDS, STATEMENTS. (Printed by wip/whole/pp.py from wip/whole/src.) -/
section ZKW
variable {e : zE} {s s' : zS} {ex qy : zP}
/-- an answer leaves as many waiting as before -/
def zkw (f : zP) : Prop := ∀ s v s', f s = some (some v, s') → s'.2.2.2.1 = s.2.2.2.1
theorem zkw_q {a b : zP} (ha : zkw a) (hb : zkw b) : zkw (zq a b) := by
  intro s v s' h
  rcases zbd_inv h with ⟨-, q⟩ | ⟨a1, s1, h1, h2⟩
  · cases q
  · rw [hb _ _ _ h2, ha _ _ _ h1]
theorem zkw_i {a b c : zP} (ha : zkw a) (hb : zkw b) (hc : zkw c) : zkw (zi a b c) := by
  intro s v s' h
  rcases zbd_inv h with ⟨-, q⟩ | ⟨a1, s1, h1, h2⟩
  · cases q
  · by_cases h0 : a1 = 0
    · rw [if_pos h0] at h2; rw [hc _ _ _ h2, ha _ _ _ h1]
    · rw [if_neg h0] at h2; rw [hb _ _ _ h2, ha _ _ _ h1]
theorem zkw_if {b : zS → Prop} [∀ s, Decidable (b s)] {x y : zP} (hx : zkw x) (hy : zkw y) : zkw (fun s => if b s then x s else y s) := by
  intro s v s' h
  have h : (if b s then x s else y s) = some (some v, s') := h
  by_cases hk : b s
  · rw [if_pos hk] at h; exact hx _ _ _ h
  · rw [if_neg hk] at h; exact hy _ _ _ h
theorem zkw_c {k : Nat} {a b : zP} (ha : zkw a) (hb : zkw b) : zkw (zc e k a b) := zkw_if ha hb
theorem zkw_v {v : Nat} : zkw (zv v) := by intro s v s' h; cases h; rfl
theorem zkw_f : zkw zf := by intro s v s' h; cases h
theorem zkw_put {t : List Int32} : zkw (zput t) := by intro s v s' h; rw [(zput_inv h).2.2]
theorem zkw_rise : zkw zrise := by
  intro s v s' h
  rcases zrise_inv h with ⟨q, -⟩ | ⟨-, -, q⟩
  · cases q
  · rw [q]
theorem zkw_down : zkw zdown := by intro s v s' h; rw [(zdown_inv h).2.2]
theorem zkw_next : zkw znext := by intro s v s' h; rw [(znext_inv h).2.2]
theorem zkw_step : zkw (zstep e) := zkw_if (zkw_q zkw_rise zkw_next) (zkw_if (zkw_q zkw_down zkw_next) zkw_next)
theorem zkw_cp {k : Nat} : zkw (zcp e k) := zkw_c (zkw_q zkw_put zkw_step) zkw_f
theorem zcp_w {k v : Nat} (h : zcp e k s = some (some v, s')) : s'.2.2.2.1 = s.2.2.2.1 := zkw_cp _ _ _ h
theorem zkw_ci {k : Nat} : zkw (zci e k) := zkw_c (zkw_q zkw_put (zkw_q zkw_step zkw_v)) zkw_v
theorem zkw_sk {k : Nat} : zkw (zsk e k) := zkw_c zkw_step zkw_f
theorem zkw_si {k : Nat} : zkw (zsi e k) := zkw_c (zkw_q zkw_step zkw_v) zkw_v
theorem zkw_nm : zkw (znm e) := by
  refine zkw_c (fun s v s' h => ?_) zkw_f
  exact zkw_q zkw_put zkw_step s v s' h
theorem zkw_st : zkw (zst e) := fun s v s' h => zkw_q zkw_put zkw_step s v s' h
theorem zkw_nu : zkw (znu e) := by
  refine zkw_c (fun s v s' h => ?_) zkw_f
  exact zkw_q zkw_put zkw_step s v s' h
theorem zkw_lp {a : zP} (ha : zkw a) : ∀ n, zkw (zlp a n) := by
  intro n
  induction n with
  | zero => intro s v s' h; cases h
  | succ n ih =>
    intro s v s' h
    rw [zlp_succ] at h
    rcases zbd_inv h with ⟨-, q⟩ | ⟨a1, s1, h1, h2⟩
    · cases q
    · by_cases h0 : a1 = 0
      · rw [if_pos h0] at h2; cases h2; exact ha _ _ _ h1
      · rw [if_neg h0] at h2
        split at h2
        · cases h2
        · rw [ih _ _ _ h2, ha _ _ _ h1]
theorem zkw_exs (hex : zkw ex) : zkw (z_exs e ex) := zkw_q hex (zkw_lp (zkw_i zkw_ci (zkw_q hex zkw_v) zkw_v) _)
theorem zkw_cond (hex : zkw ex) : zkw (z_cond e ex) := zkw_i zkw_ci (zkw_q hex zkw_v) zkw_v
theorem zkw_alias : zkw (z_alias e) := zkw_i zkw_ci (zkw_q zkw_nm zkw_v) zkw_v
theorem zkw_item (hex : zkw ex) : zkw (z_item e ex) := zkw_if (zkw_if (zkw_if (zkw_q zkw_nm (zkw_q zkw_cp zkw_cp)) (zkw_q hex zkw_alias)) (zkw_q hex zkw_alias)) (zkw_q hex zkw_alias)
theorem zkw_items (hex : zkw ex) : zkw (z_items e ex) := zkw_lp (zkw_q (zkw_item hex) zkw_ci) _
theorem zkw_source : zkw (z_source e) := zkw_q zkw_nm zkw_alias
theorem zkw_on (hex : zkw ex) : zkw (z_on e ex) := zkw_q zkw_source (zkw_q zkw_cp (zkw_q hex zkw_v))
theorem zkw_join (hex : zkw ex) : zkw (z_join e ex) := zkw_i zkw_si (zkw_q zkw_put (zkw_q zkw_source zkw_v)) (zkw_i zkw_ci (zkw_q zkw_si (zkw_q zkw_cp (zkw_on hex))) (zkw_i zkw_ci (zkw_q zkw_cp (zkw_q zkw_source zkw_v)) (zkw_i zkw_si (zkw_q zkw_cp (zkw_on hex)) (zkw_c (zkw_q zkw_cp (zkw_on hex)) zkw_v))))
theorem zkw_sources (hex : zkw ex) : zkw (z_sources e ex) := zkw_q zkw_source (zkw_lp (zkw_join hex) _)
theorem zkw_orders (hex : zkw ex) : zkw (z_orders e ex) := zkw_lp (zkw_q (zkw_q hex (zkw_i zkw_si zkw_v (zkw_q zkw_ci zkw_v))) zkw_ci) _
theorem zkw_query (hex : zkw ex) : zkw (z_query e ex) := zkw_q zkw_cp (zkw_q zkw_ci (zkw_q (zkw_i zkw_ci zkw_v (zkw_items hex)) (zkw_q (zkw_i zkw_ci (zkw_sources hex) zkw_v) (zkw_q (zkw_cond hex) (zkw_q (zkw_i zkw_ci (zkw_q zkw_cp (zkw_exs hex)) zkw_v) (zkw_q (zkw_i zkw_ci (zkw_q hex zkw_v) zkw_v) (zkw_q (zkw_i zkw_ci (zkw_q zkw_cp (zkw_orders hex)) zkw_v) (zkw_i zkw_ci (zkw_q zkw_nu (zkw_i zkw_ci (zkw_q zkw_nu zkw_v) zkw_v)) zkw_v))))))))
theorem zkw_members (hex : zkw ex) (hqy : zkw qy) : zkw (z_members e ex qy) := zkw_q zkw_cp (zkw_q (zkw_c hqy (zkw_exs hex)) zkw_cp)
theorem zkw_cases (hex : zkw ex) : zkw (z_cases e ex) := zkw_q zkw_cp (zkw_q (zkw_lp (zkw_q zkw_cp (zkw_q hex (zkw_q zkw_cp (zkw_q hex (zkw_c zkw_v zkw_v))))) _) (zkw_q (zkw_i zkw_ci hex zkw_v) zkw_cp))
theorem zkw_args {a : zP} (ha : zkw a) : zkw (z_args e a) := fun s v s' h => zkw_q zkw_cp (zkw_q zkw_cp (zkw_q ha zkw_cp)) s v s' h
theorem zkw_agg (hex : zkw ex) : zkw (z_agg e ex) := by
  intro s v s' h
  refine zkw_q zkw_cp (zkw_q zkw_cp (zkw_q ?_ zkw_cp)) s v s' h
  split
  · exact zkw_i zkw_ci zkw_v (zkw_q zkw_ci hex)
  · exact zkw_q zkw_ci hex
theorem zkw_cast (hex : zkw ex) : zkw (z_cast e ex) := zkw_q zkw_cp (zkw_q zkw_cp (zkw_q hex (zkw_q zkw_cp (zkw_q (zkw_i zkw_ci zkw_v zkw_cp) zkw_cp))))
theorem zkw_fun (hex : zkw ex) : zkw (z_fun e ex) := by
  have h1 := zkw_args (e := e) hex
  have ha := zkw_agg (e := e) hex
  refine zkw_if h1 (zkw_if h1 (zkw_if h1 (zkw_if h1 (zkw_if (zkw_args ?_) (zkw_if (zkw_args (zkw_exs hex)) (zkw_if (zkw_args ?_) (zkw_if (zkw_cast hex) (zkw_if ha (zkw_if ha (zkw_if ha (zkw_if ha (zkw_if ha zkw_f))))))))))))
  · exact zkw_q hex (zkw_q zkw_cp (zkw_q hex (zkw_i zkw_ci hex zkw_v)))
  · exact zkw_q hex (zkw_q zkw_cp hex)
theorem zkw_prim (hex : zkw ex) (hqy : zkw qy) : zkw (z_prim e ex qy) := by
  refine zkw_if (zkw_q zkw_nu zkw_v) (zkw_if (zkw_q zkw_st zkw_v) (zkw_if (zkw_q zkw_cp zkw_v) (zkw_if (zkw_q zkw_nm (zkw_i zkw_ci (zkw_q zkw_nm zkw_v) zkw_v)) (zkw_if (zkw_q zkw_sk ?_) (zkw_if (zkw_q zkw_cp (zkw_q zkw_cp (zkw_q hqy (zkw_q zkw_cp zkw_v)))) (zkw_if (zkw_q (zkw_cases hex) zkw_v) (zkw_q (zkw_fun hex) zkw_v)))))))
  intro s v s' h
  rcases zbd_inv h with ⟨-, q⟩ | ⟨a1, s1, h1, h2⟩
  · cases q
  · rw [zkw_q zkw_sk zkw_v _ _ _ h2, hex _ _ _ h1]
theorem zpre_w {k ma : Nat} : ∀ (n : Nat) (p : zK) (s : zS) (r : zK) (s' : zS), zpre e k ma n p s = some (some r, s') → s'.2.2.2.1 + p.length = s.2.2.2.1 + r.length := by
  intro n
  induction n with
  | zero => intro p s r s' h; cases h
  | succ n ih =>
    intro p s r s' h
    simp only [zpre] at h
    by_cases h1 : ztk e s.1 = k
    · rw [if_pos h1] at h
      rcases zbd_inv h with ⟨-, q⟩ | ⟨a1, s1, h1, h⟩
      · cases q
      have e1 := zkw_rise _ _ _ h1
      rcases zbd_inv h with ⟨-, q⟩ | ⟨a2, s2, h2, h⟩
      · cases q
      obtain ⟨-, q, e2⟩ := zpush_inv h2
      cases q
      have e2 : s2.2.2.2.1 = s1.2.2.2.1 + 1 := by rw [e2]
      rcases zbd_inv h with ⟨-, q⟩ | ⟨a3, s3, h3, h⟩
      · cases q
      have e3 := zkw_put _ _ _ h3
      rcases zbd_inv h with ⟨-, q⟩ | ⟨a4, s4, h4, h⟩
      · cases q
      have e4 := zkw_put _ _ _ h4
      rcases zbd_inv h with ⟨-, q⟩ | ⟨a5, s5, h5, h⟩
      · cases q
      have e5 := zkw_step _ _ _ h5
      have := ih _ s5 r s' h
      rw [List.length_cons] at this
      omega
    · rw [if_neg h1] at h
      cases h; rfl
theorem zcb_w {nx : Nat} : ∀ (p : zK) (st ma : Nat) (s : zS) (r : zK × Nat × Nat) (s' : zS), zcb nx p st ma s = some (some r, s') → s'.2.2.2.1 + p.length = s.2.2.2.1 + r.1.length := by
  intro p
  induction p with
  | nil => intro st ma s r s' h; cases h; rfl
  | cons q p ih =>
    intro st ma s r s' h
    simp only [zcb] at h
    by_cases hq : nx ≤ q.2
    · rw [if_pos hq] at h
      rcases zbd_inv h with ⟨-, q⟩ | ⟨a1, s1, h1, h⟩
      · cases q
      obtain ⟨w1, -, e1⟩ := zpop_inv h1
      have e1 : s1.2.2.2.1 = s.2.2.2.1 - 1 := by rw [e1]
      rcases zbd_inv h with ⟨-, q⟩ | ⟨a2, s2, h2, h⟩
      · cases q
      have e2 := zkw_put _ _ _ h2
      rcases zbd_inv h with ⟨-, q⟩ | ⟨a3, s3, h3, h⟩
      · cases q
      have e3 : s3.2.2.2.1 = s2.2.2.2.1 := by
        split at h3
        · exact zkw_down _ _ _ h3
        · exact zkw_v _ _ _ h3
      have := ih q.1 q.2 s3 r s' h
      rw [List.length_cons]
      omega
    · rw [if_neg hq] at h
      cases h; rfl
theorem zcomb_w {nx st ma : Nat} {p : zK} {r : zK × Nat} (h : zcomb nx st ma p s = some (some r, s')) : s'.2.2.2.1 + p.length = s.2.2.2.1 + r.1.length := by
  unfold zcomb at h
  rcases zbd_inv h with ⟨-, q⟩ | ⟨a1, s1, h1, h⟩
  · cases q
  have e1 := zcb_w p st ma s _ _ h1
  by_cases h0 : nx = 0
  · rw [if_pos h0] at h
    cases h
    exact e1
  · rw [if_neg h0] at h
    rcases zbd_inv h with ⟨-, q⟩ | ⟨a2, s2, h2, h⟩
    · cases q
    obtain ⟨-, q, e2⟩ := zpush_inv h2
    cases q
    have e2 : s2.2.2.2.1 = s1.2.2.2.1 + 1 := by rw [e2]
    rcases zbd_inv h with ⟨-, q⟩ | ⟨a3, s3, h3, h⟩
    · cases q
    cases h
    have e3 : s'.2.2.2.1 = s2.2.2.2.1 := by
      split at h3
      · rw [(zreopen_inv h3).2.2]
      · rw [(zopen_inv h3).2.2.2]
    rw [List.length_cons]
    omega
theorem zops_w {kp mp : Nat} {fam : Nat → Bool} {od : zP} (hlt : ∀ i, ztk e i < 104) (hfam : fam 0 = false) (hmp : mp ≤ 8) (hod : zkw od) (h8 : ∀ s v s', od s = some (some v, s') → v ≤ 8) : ∀ (n : Nat) (p : zK) (s : zS) (v : Nat) (s' : zS), (∀ q ∈ p, q.2 ≤ 8) → zops e kp mp fam od n p s = some (some v, s') → s'.2.2.2.1 + p.length = s.2.2.2.1 := by
  intro n
  induction n with
  | zero => intro p s v s' _ h; cases h
  | succ n ih =>
    intro p s v s' hp h
    simp only [zops] at h
    rcases zbd_inv h with ⟨-, q⟩ | ⟨p1, s1, h1, h⟩
    · cases q
    have hp1 := zpre_all hmp 42 p s p1 s1 hp h1
    have e1 := zpre_w 42 p s p1 s1 h1
    rcases zbd_inv h with ⟨-, q⟩ | ⟨ma, s4, h2, h⟩
    · cases q
    have e2 := hod _ _ _ h2
    have hma := h8 _ _ _ h2
    rcases zbd_inv h with ⟨-, q⟩ | ⟨q, s2, h3, h⟩
    · cases q
    have e3 := zcomb_w h3
    have hnx : (if fam (zmk e s4.1) = true then zmk e s4.1 else 0) ≤ 8 := by
      split
      · exact zmk_le hlt _
      · decide
    obtain ⟨at3, r, qe, k1, k2, k3⟩ := zcomb_all hnx hma hp1 h3
    cases qe
    have hz : zmk e s2.1 = zmk e s4.1 := by unfold zmk; rw [at3]
    rw [hz] at h
    by_cases hf : fam (zmk e s4.1) = true
    · rw [if_pos hf] at h
      rcases zbd_inv h with ⟨-, q⟩ | ⟨a3, s3, h4, h⟩
      · cases q
      have e4 := zcp_w h4
      split at h
      · cases h
      · have := ih _ s3 v s' k2 h
        omega
    · rw [if_neg hf] at h k3
      cases h
      have := k3 rfl
      rw [this] at e3
      simp only [List.length_nil] at e3
      omega
theorem z8_prim (h8 : ∀ s v s', ex s = some (some v, s') → v ≤ 8) : ∀ s v s', z_prim e ex qy s = some (some v, s') → v ≤ 8 := by
  have z : ∀ (a : zP) (s v s'), zq a (zv 0) s = some (some v, s') → v ≤ 8 := by
    intro a s v s' h
    rcases zbd_inv h with ⟨-, q⟩ | ⟨a1, s1, h1, h2⟩
    · cases q
    · cases h2; decide
  have z2 : ∀ (a b : zP) (s v s'), (∀ s v s', b s = some (some v, s') → v ≤ 8) → zq a b s = some (some v, s') → v ≤ 8 := by
    intro a b s v s' hb h
    rcases zbd_inv h with ⟨-, q⟩ | ⟨a1, s1, h1, h2⟩
    · cases q
    · exact hb _ _ _ h2
  intro s v s' h
  unfold z_prim at h
  split at h
  · exact z _ _ _ _ h
  split at h
  · exact z _ _ _ _ h
  split at h
  · exact z _ _ _ _ h
  split at h
  · refine z2 _ _ _ _ _ (fun s v s' h => ?_) h
    rcases zbd_inv h with ⟨-, q⟩ | ⟨a1, s1, h1, h2⟩
    · cases q
    · split at h2
      · cases h2; decide
      · exact z _ _ _ _ h2
  split at h
  · refine z2 _ _ _ _ _ (fun s v s' h => ?_) h
    rcases zbd_inv h with ⟨-, q⟩ | ⟨a1, s1, h1, h2⟩
    · cases q
    · rcases zbd_inv h2 with ⟨-, q⟩ | ⟨a3, s3, h3, h4⟩
      · cases q
      · cases h4; exact h8 _ _ _ h1
  split at h
  · exact z2 _ _ _ _ _ (z2 _ _ · · · (z2 _ _ · · · (z _))) h
  split at h
  · exact z _ _ _ _ h
  · exact z _ _ _ _ h
end ZKW
