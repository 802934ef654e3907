/-! TOKENS ARE TAKEN, NEVER GIVEN BACK. (Printed by wip/whole/pp.py from wip/whole/src.) -/
section ZGA
variable {e : zE} {s s' : zS} {ex qy pr : zP}
/-- an answer leaves the state at the same token, or further on -/
def zga (f : zP) : Prop := ∀ s v s', f s = some (some v, s') → s.1 ≤ s'.1
theorem zga_q {a b : zP} (ha : zga a) (hb : zga b) : zga (zq a b) := by
  intro s v s' h
  rcases zbd_inv h with ⟨-, q⟩ | ⟨a1, s1, h1, h2⟩
  · cases q
  · exact Nat.le_trans (ha _ _ _ h1) (hb _ _ _ h2)
theorem zga_i {a b c : zP} (ha : zga a) (hb : zga b) (hc : zga c) : zga (zi a b c) := by
  intro s v s' h
  rcases zbd_inv h with ⟨-, q⟩ | ⟨a1, s1, h1, h2⟩
  · cases q
  · by_cases h0 : a1 = 0
    · rw [if_pos h0] at h2; exact Nat.le_trans (ha _ _ _ h1) (hc _ _ _ h2)
    · rw [if_neg h0] at h2; exact Nat.le_trans (ha _ _ _ h1) (hb _ _ _ h2)
theorem zga_if {b : zS → Prop} [∀ s, Decidable (b s)] {x y : zP} (hx : zga x) (hy : zga y) : zga (fun s => if b s then x s else y s) := by
  intro s v s' h
  have h : (if b s then x s else y s) = some (some v, s') := h
  by_cases hk : b s
  · rw [if_pos hk] at h; exact hx _ _ _ h
  · rw [if_neg hk] at h; exact hy _ _ _ h
theorem zga_c {k : Nat} {a b : zP} (ha : zga a) (hb : zga b) : zga (zc e k a b) := zga_if ha hb
theorem zga_v {v : Nat} : zga (zv v) := by intro s v s' h; cases h; exact Nat.le_refl _
theorem zga_f : zga zf := by intro s v s' h; cases h
theorem zga_put {t : List Int32} : zga (zput t) := by
  intro s v s' h
  rw [(zput_inv h).2.2]; exact Nat.le_refl _
theorem zga_rise : zga zrise := by
  intro s v s' h
  rcases zrise_inv h with ⟨q, -⟩ | ⟨-, -, q⟩
  · cases q
  · rw [q]; exact Nat.le_refl _
theorem zga_down : zga zdown := by intro s v s' h; rw [(zdown_inv h).2.2]; exact Nat.le_refl _
theorem zga_next : zga znext := by
  intro s v s' h
  rw [(znext_inv h).2.2]
  exact Nat.le_succ _
theorem zga_step : zga (zstep e) := zga_if (zga_q zga_rise zga_next) (zga_if (zga_q zga_down zga_next) zga_next)
theorem zga_cp {k : Nat} : zga (zcp e k) := zga_c (zga_q zga_put zga_step) zga_f
theorem zga_ci {k : Nat} : zga (zci e k) := zga_c (zga_q zga_put (zga_q zga_step zga_v)) zga_v
theorem zga_sk {k : Nat} : zga (zsk e k) := zga_c zga_step zga_f
theorem zga_si {k : Nat} : zga (zsi e k) := zga_c (zga_q zga_step zga_v) zga_v
theorem zga_nm : zga (znm e) := by
  refine zga_c (fun s v s' h => ?_) zga_f
  exact zga_q zga_put zga_step s v s' h
theorem zga_st : zga (zst e) := fun s v s' h => zga_q zga_put zga_step s v s' h
theorem zga_nu : zga (znu e) := by
  refine zga_c (fun s v s' h => ?_) zga_f
  exact zga_q zga_put zga_step s v s' h
theorem zga_lp {a : zP} (ha : zga a) : ∀ n, zga (zlp a n) := by
  intro n
  induction n with
  | zero => intro s v s' h; cases h
  | succ n ih =>
    intro s v s' h
    rw [zlp_succ] at h
    rcases zbd_inv h with ⟨-, q⟩ | ⟨a1, s1, h1, h2⟩
    · cases q
    · by_cases h0 : a1 = 0
      · rw [if_pos h0] at h2; cases h2; exact ha _ _ _ h1
      · rw [if_neg h0] at h2
        split at h2
        · cases h2
        · exact Nat.le_trans (ha _ _ _ h1) (ih _ _ _ h2)
theorem zga_exs (hex : zga ex) : zga (z_exs e ex) := zga_q hex (zga_lp (zga_i zga_ci (zga_q hex zga_v) zga_v) _)
theorem zga_cond (hex : zga ex) : zga (z_cond e ex) := zga_i zga_ci (zga_q hex zga_v) zga_v
theorem zga_alias : zga (z_alias e) := zga_i zga_ci (zga_q zga_nm zga_v) zga_v
theorem zga_item (hex : zga ex) : zga (z_item e ex) := zga_if (zga_if (zga_if (zga_q zga_nm (zga_q zga_cp zga_cp)) (zga_q hex zga_alias)) (zga_q hex zga_alias)) (zga_q hex zga_alias)
theorem zga_items (hex : zga ex) : zga (z_items e ex) := zga_lp (zga_q (zga_item hex) zga_ci) _
theorem zga_source : zga (z_source e) := zga_q zga_nm zga_alias
theorem zga_on (hex : zga ex) : zga (z_on e ex) := zga_q zga_source (zga_q zga_cp (zga_q hex zga_v))
theorem zga_join (hex : zga ex) : zga (z_join e ex) := zga_i zga_si (zga_q zga_put (zga_q zga_source zga_v)) (zga_i zga_ci (zga_q zga_si (zga_q zga_cp (zga_on hex))) (zga_i zga_ci (zga_q zga_cp (zga_q zga_source zga_v)) (zga_i zga_si (zga_q zga_cp (zga_on hex)) (zga_c (zga_q zga_cp (zga_on hex)) zga_v))))
theorem zga_sources (hex : zga ex) : zga (z_sources e ex) := zga_q zga_source (zga_lp (zga_join hex) _)
theorem zga_orders (hex : zga ex) : zga (z_orders e ex) := zga_lp (zga_q (zga_q hex (zga_i zga_si zga_v (zga_q zga_ci zga_v))) zga_ci) _
theorem zga_query (hex : zga ex) : zga (z_query e ex) := zga_q zga_cp (zga_q zga_ci (zga_q (zga_i zga_ci zga_v (zga_items hex)) (zga_q (zga_i zga_ci (zga_sources hex) zga_v) (zga_q (zga_cond hex) (zga_q (zga_i zga_ci (zga_q zga_cp (zga_exs hex)) zga_v) (zga_q (zga_i zga_ci (zga_q hex zga_v) zga_v) (zga_q (zga_i zga_ci (zga_q zga_cp (zga_orders hex)) zga_v) (zga_i zga_ci (zga_q zga_nu (zga_i zga_ci (zga_q zga_nu zga_v) zga_v)) zga_v))))))))
theorem zga_members (hex : zga ex) (hqy : zga qy) : zga (z_members e ex qy) := zga_q zga_cp (zga_q (zga_c hqy (zga_exs hex)) zga_cp)
theorem zga_cases (hex : zga ex) : zga (z_cases e ex) := zga_q zga_cp (zga_q (zga_lp (zga_q zga_cp (zga_q hex (zga_q zga_cp (zga_q hex (zga_c zga_v zga_v))))) _) (zga_q (zga_i zga_ci hex zga_v) zga_cp))
theorem zga_args {a : zP} (ha : zga a) : zga (z_args e a) := fun s v s' h => zga_q zga_cp (zga_q zga_cp (zga_q ha zga_cp)) s v s' h
theorem zga_agg (hex : zga ex) : zga (z_agg e ex) := by
  intro s v s' h
  refine zga_q zga_cp (zga_q zga_cp (zga_q ?_ zga_cp)) s v s' h
  split
  · exact zga_i zga_ci zga_v (zga_q zga_ci hex)
  · exact zga_q zga_ci hex
theorem zga_cast (hex : zga ex) : zga (z_cast e ex) := zga_q zga_cp (zga_q zga_cp (zga_q hex (zga_q zga_cp (zga_q (zga_i zga_ci zga_v zga_cp) zga_cp))))
theorem zga_fun (hex : zga ex) : zga (z_fun e ex) := by
  have h1 := zga_args (e := e) hex
  have ha := zga_agg (e := e) hex
  refine zga_if h1 (zga_if h1 (zga_if h1 (zga_if h1 (zga_if (zga_args ?_) (zga_if (zga_args (zga_exs hex)) (zga_if (zga_args ?_) (zga_if (zga_cast hex) (zga_if ha (zga_if ha (zga_if ha (zga_if ha (zga_if ha zga_f))))))))))))
  · exact zga_q hex (zga_q zga_cp (zga_q hex (zga_i zga_ci hex zga_v)))
  · exact zga_q hex (zga_q zga_cp hex)
theorem zga_prim (hex : zga ex) (hqy : zga qy) : zga (z_prim e ex qy) := by
  refine zga_if (zga_q zga_nu zga_v) (zga_if (zga_q zga_st zga_v) (zga_if (zga_q zga_cp zga_v) (zga_if (zga_q zga_nm (zga_i zga_ci (zga_q zga_nm zga_v) zga_v)) (zga_if (zga_q zga_sk ?_) (zga_if (zga_q zga_cp (zga_q zga_cp (zga_q hqy (zga_q zga_cp zga_v)))) (zga_if (zga_q (zga_cases hex) zga_v) (zga_q (zga_fun hex) zga_v)))))))
  intro s v s' h
  rcases zbd_inv h with ⟨-, q⟩ | ⟨a1, s1, h1, h2⟩
  · cases q
  · exact Nat.le_trans (hex _ _ _ h1) (zga_q zga_sk zga_v _ _ _ h2)


theorem zpre_a {k ma : Nat} : ∀ (n : Nat) (p : zK) (s : zS) (r : zK) (s' : zS), zpre e k ma n p s = some (some r, s') → s.1 ≤ s'.1 := by
  intro n
  induction n with
  | zero => intro p s r s' h; cases h
  | succ n ih =>
    intro p s r s' h
    simp only [zpre] at h
    by_cases h1 : ztk e s.1 = k
    · rw [if_pos h1] at h
      rcases zbd_inv h with ⟨-, q⟩ | ⟨a1, s1, h1, h⟩
      · cases q
      have e1 := zga_rise _ _ _ h1
      rcases zbd_inv h with ⟨-, q⟩ | ⟨a2, s2, h2, h⟩
      · cases q
      have e2 : s2.1 = s1.1 := by rw [(zpush_inv h2).2.2]
      rcases zbd_inv h with ⟨-, q⟩ | ⟨a3, s3, h3, h⟩
      · cases q
      have e3 := zga_put _ _ _ h3
      rcases zbd_inv h with ⟨-, q⟩ | ⟨a4, s4, h4, h⟩
      · cases q
      have e4 := zga_put _ _ _ h4
      rcases zbd_inv h with ⟨-, q⟩ | ⟨a5, s5, h5, h⟩
      · cases q
      have e5 := zga_step _ _ _ h5
      have := ih _ s5 r s' h
      omega
    · rw [if_neg h1] at h
      cases h; exact Nat.le_refl _
theorem zops_a {kp mp : Nat} {fam : Nat → Bool} {od : zP} (hod : zga od) : ∀ (n : Nat) (p : zK), zga (zops e kp mp fam od n p) := by
  intro n
  induction n with
  | zero => intro p s v s' h; cases h
  | succ n ih =>
    intro p s v s' h
    simp only [zops] at h
    rcases zbd_inv h with ⟨-, q⟩ | ⟨p1, s1, h1, h⟩
    · cases q
    have e1 := zpre_a 42 p s p1 s1 h1
    rcases zbd_inv h with ⟨-, q⟩ | ⟨ma, s4, h2, h⟩
    · cases q
    have e2 := hod _ _ _ h2
    rcases zbd_inv h with ⟨-, q⟩ | ⟨q, s2, h3, h⟩
    · cases q
    have a3 := zcomb_at h3
    by_cases hf : fam (zmk e s2.1) = true
    · rw [if_pos hf] at h
      rcases zbd_inv h with ⟨-, q⟩ | ⟨a5, s5, h5, h⟩
      · cases q
      have e5 := zga_cp _ _ _ h5
      split at h
      · cases h
      · have := ih _ _ _ _ h
        omega
    · rw [if_neg hf] at h
      cases h
      omega
theorem zga_pop : zga zpop := by intro s v s' h; rw [(zpop_inv h).2.2]; exact Nat.le_refl _
theorem zga_test : zga ztest := by intro s v s' h; rw [(ztest_inv h).2.2]; exact Nat.le_refl _
theorem zga_open {st : Nat} : zga (zopen st) := by
  intro s v s' h
  rw [(zopen_inv h).2.2.2]; exact Nat.le_refl _
theorem zga_sum (hpr : zga pr) : zga (z_sum e pr) := zops_a hpr zN []
theorem zga_cmp (hpr : zga pr) (hex : zga ex) (hqy : zga qy) : zga (z_cmp e pr ex qy) := by
  intro s v s' h
  have hs := zga_sum (e := e) hpr
  rcases zbd_inv h with ⟨-, q⟩ | ⟨a1, s1, h1, h2⟩
  · cases q
  · have e1 := hs _ _ _ h1
    split at h2
    · refine Nat.le_trans e1 ?_
      refine zga_q zga_open (zga_q (zga_if (fun s v s' h => ?_) ?_) (zga_q zga_put zga_v)) s1 v s' h2
      · exact zga_q zga_cp (zga_q zga_test (zga_q hs zga_pop)) s v s' h
      · exact zga_i zga_ci (zga_q zga_ci zga_cp) (zga_q zga_ci (zga_i zga_ci (zga_members hex hqy) (zga_i zga_ci (zga_q zga_test (zga_q hs (zga_q zga_cp (zga_q hs zga_pop)))) (zga_q zga_cp (zga_q zga_test (zga_q hs zga_pop))))))
    · cases h2; exact e1
theorem zsp_a : ∀ n b, zga (zsp e n b) := by
  intro n
  induction n with
  | zero => intro b s v s' h; cases h
  | succ n ih =>
    intro b
    cases b with
    | true => exact zops_a (zga_cmp (zga_prim (ih true) (ih false)) (ih true) (ih false)) zN []
    | false => exact zga_query (ih true)
/-! each turn of a loop takes a token -/
def zss (f : zP) : Prop := ∀ s v s', f s = some (some v, s') → v ≠ 0 → s.1 < s'.1
theorem zstep_s {v : Nat} (h : zstep e s = some (some v, s')) : s.1 < s'.1 := by
  unfold zstep at h
  split at h
  · rcases zbd_inv h with ⟨-, q⟩ | ⟨a1, s1, h1, h2⟩
    · cases q
    have e1 := zga_rise _ _ _ h1
    have e2 : s'.1 = s1.1 + 1 := by rw [(znext_inv h2).2.2]
    omega
  · split at h
    · rcases zbd_inv h with ⟨-, q⟩ | ⟨a1, s1, h1, h2⟩
      · cases q
      have e1 := zga_down _ _ _ h1
      have e2 : s'.1 = s1.1 + 1 := by rw [(znext_inv h2).2.2]
      omega
    · have e2 : s'.1 = s.1 + 1 := by rw [(znext_inv h).2.2]
      omega
theorem zcp_s {k v : Nat} (h : zcp e k s = some (some v, s')) : s.1 < s'.1 := by
  unfold zcp zc at h
  split at h
  · rcases zbd_inv h with ⟨-, q⟩ | ⟨a1, s1, h1, h2⟩
    · cases q
    have e1 := zga_put _ _ _ h1
    have := zstep_s h2
    omega
  · cases h
theorem zss_ci {k : Nat} : zss (zci e k) := by
  intro s v s' h hv
  unfold zci zc at h
  split at h
  · rcases zbd_inv h with ⟨-, q⟩ | ⟨a1, s1, h1, h2⟩
    · cases q
    have e1 := zga_put _ _ _ h1
    rcases zbd_inv h2 with ⟨-, q⟩ | ⟨a2, s2, h2, h3⟩
    · cases q
    have := zstep_s h2
    cases h3
    omega
  · cases h; exact absurd rfl hv
theorem zss_si {k : Nat} : zss (zsi e k) := by
  intro s v s' h hv
  unfold zsi zc at h
  split at h
  · rcases zbd_inv h with ⟨-, q⟩ | ⟨a1, s1, h1, h2⟩
    · cases q
    have := zstep_s h1
    cases h2
    omega
  · cases h; exact absurd rfl hv
theorem zss_q2 {a b : zP} (ha : zga a) (hb : zss b) : zss (zq a b) := by
  intro s v s' h hv
  rcases zbd_inv h with ⟨-, q⟩ | ⟨a1, s1, h1, h2⟩
  · cases q
  have := ha _ _ _ h1
  have := hb _ _ _ h2 hv
  omega
theorem zss_q1 {k : Nat} {b : zP} (hb : zga b) : zss (zq (zcp e k) b) := by
  intro s v s' h hv
  rcases zbd_inv h with ⟨-, q⟩ | ⟨a1, s1, h1, h2⟩
  · cases q
  have := zcp_s h1
  have := hb _ _ _ h2
  omega
theorem zss_i {a b c : zP} (ha : zss a) (haa : zga a) (hb : zga b) (hc : zss c) : zss (zi a b c) := by
  intro s v s' h hv
  rcases zbd_inv h with ⟨-, q⟩ | ⟨a1, s1, h1, h2⟩
  · cases q
  by_cases h0 : a1 = 0
  · rw [if_pos h0] at h2
    have := haa _ _ _ h1
    have := hc _ _ _ h2 hv
    omega
  · rw [if_neg h0] at h2
    have := ha _ _ _ h1 h0
    have := hb _ _ _ h2
    omega
theorem zss_0 : zss (zv 0) := by intro s v s' h hv; cases h; exact absurd rfl hv
end ZGA
